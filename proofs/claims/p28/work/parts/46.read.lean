theorem dX12_closes_0 : decode cX12_closes 0 = .ok (.aload_n 0, 1) := by decide +kernel
theorem dX12_closes_1 : decode cX12_closes 1 = .ok (.iconst 3, 1) := by decide +kernel
theorem dX12_closes_2 : decode cX12_closes 2 = .ok (.invokevirtual 193, 3) := by decide +kernel
theorem dX12_closes_5 : decode cX12_closes 5 = .ok (.aload_n 0, 1) := by decide +kernel
theorem dX12_closes_6 : decode cX12_closes 6 = .ok (.invokevirtual 90, 3) := by decide +kernel
theorem dX12_closes_9 : decode cX12_closes 9 = .ok (.bipush 93, 2) := by decide +kernel
theorem dX12_closes_11 : decode cX12_closes 11 = .ok (.if_icmp .ne 53, 3) := by decide +kernel
theorem dX12_closes_14 : decode cX12_closes 14 = .ok (.aload_n 0, 1) := by decide +kernel
theorem dX12_closes_15 : decode cX12_closes 15 = .ok (.invokevirtual 196, 3) := by decide +kernel
theorem dX12_closes_18 : decode cX12_closes 18 = .ok (.ifCond .eq 46, 3) := by decide +kernel
theorem dX12_closes_21 : decode cX12_closes 21 = .ok (.aload_n 0, 1) := by decide +kernel
theorem dX12_closes_22 : decode cX12_closes 22 = .ok (.iconst 1, 1) := by decide +kernel
theorem dX12_closes_23 : decode cX12_closes 23 = .ok (.invokevirtual 193, 3) := by decide +kernel
theorem dX12_closes_26 : decode cX12_closes 26 = .ok (.aload_n 0, 1) := by decide +kernel
theorem dX12_closes_27 : decode cX12_closes 27 = .ok (.dup, 1) := by decide +kernel
theorem dX12_closes_28 : decode cX12_closes 28 = .ok (.getfield 154, 3) := by decide +kernel
theorem dX12_closes_31 : decode cX12_closes 31 = .ok (.iconst 1, 1) := by decide +kernel
theorem dX12_closes_32 : decode cX12_closes 32 = .ok (.isub, 1) := by decide +kernel
theorem dX12_closes_33 : decode cX12_closes 33 = .ok (.putfield 154, 3) := by decide +kernel
theorem dX12_closes_36 : decode cX12_closes 36 = .ok (.aload_n 0, 1) := by decide +kernel
theorem dX12_closes_37 : decode cX12_closes 37 = .ok (.dup, 1) := by decide +kernel
theorem dX12_closes_38 : decode cX12_closes 38 = .ok (.getfield 151, 3) := by decide +kernel
theorem dX12_closes_41 : decode cX12_closes 41 = .ok (.iconst 1, 1) := by decide +kernel
theorem dX12_closes_42 : decode cX12_closes 42 = .ok (.isub, 1) := by decide +kernel
theorem dX12_closes_43 : decode cX12_closes 43 = .ok (.putfield 151, 3) := by decide +kernel
theorem dX12_closes_46 : decode cX12_closes 46 = .ok (.aload_n 0, 1) := by decide +kernel
theorem dX12_closes_47 : decode cX12_closes 47 = .ok (.dup, 1) := by decide +kernel
theorem dX12_closes_48 : decode cX12_closes 48 = .ok (.getfield 87, 3) := by decide +kernel
theorem dX12_closes_51 : decode cX12_closes 51 = .ok (.iconst 1, 1) := by decide +kernel
theorem dX12_closes_52 : decode cX12_closes 52 = .ok (.iadd, 1) := by decide +kernel
theorem dX12_closes_53 : decode cX12_closes 53 = .ok (.putfield 87, 3) := by decide +kernel
theorem dX12_closes_56 : decode cX12_closes 56 = .ok (.aload_n 0, 1) := by decide +kernel
theorem dX12_closes_57 : decode cX12_closes 57 = .ok (.iconst 3, 1) := by decide +kernel
theorem dX12_closes_58 : decode cX12_closes 58 = .ok (.invokevirtual 193, 3) := by decide +kernel
theorem dX12_closes_61 : decode cX12_closes 61 = .ok (.goto (-56), 3) := by decide +kernel
theorem dX12_closes_64 : decode cX12_closes 64 = .ok (.return_, 1) := by decide +kernel
theorem dX12_fact_0 : decode cX12_fact 0 = .ok (.iconst 1, 1) := by decide +kernel
theorem dX12_fact_1 : decode cX12_fact 1 = .ok (.istore_n 1, 1) := by decide +kernel
theorem dX12_fact_2 : decode cX12_fact 2 = .ok (.iload_n 1, 1) := by decide +kernel
theorem dX12_fact_3 : decode cX12_fact 3 = .ok (.ifCond .eq 72, 3) := by decide +kernel
theorem dX12_fact_6 : decode cX12_fact 6 = .ok (.iconst 0, 1) := by decide +kernel
theorem dX12_fact_7 : decode cX12_fact 7 = .ok (.istore_n 1, 1) := by decide +kernel
theorem dX12_fact_8 : decode cX12_fact 8 = .ok (.aload_n 0, 1) := by decide +kernel
theorem dX12_fact_9 : decode cX12_fact 9 = .ok (.invokevirtual 90, 3) := by decide +kernel
theorem dX12_fact_12 : decode cX12_fact 12 = .ok (.istore_n 2, 1) := by decide +kernel
theorem dX12_fact_13 : decode cX12_fact 13 = .ok (.aload_n 0, 1) := by decide +kernel
theorem dX12_fact_14 : decode cX12_fact 14 = .ok (.ldc2_w 185, 3) := by decide +kernel
theorem dX12_fact_17 : decode cX12_fact 17 = .ok (.invokevirtual 98, 3) := by decide +kernel
theorem dX12_fact_20 : decode cX12_fact 20 = .ok (.ifCond .eq 23, 3) := by decide +kernel
theorem dX12_fact_23 : decode cX12_fact 23 = .ok (.aload_n 0, 1) := by decide +kernel
theorem dX12_fact_24 : decode cX12_fact 24 = .ok (.bipush 11, 2) := by decide +kernel
theorem dX12_fact_26 : decode cX12_fact 26 = .ok (.invokevirtual 187, 3) := by decide +kernel
theorem dX12_fact_29 : decode cX12_fact 29 = .ok (.ifCond .ne 5, 3) := by decide +kernel
theorem dX12_fact_32 : decode cX12_fact 32 = .ok (.iconst 0, 1) := by decide +kernel
theorem dX12_fact_33 : decode cX12_fact 33 = .ok (.ireturn, 1) := by decide +kernel
theorem dX12_fact_34 : decode cX12_fact 34 = .ok (.aload_n 0, 1) := by decide +kernel
theorem dX12_fact_35 : decode cX12_fact 35 = .ok (.invokevirtual 102, 3) := by decide +kernel
theorem dX12_fact_38 : decode cX12_fact 38 = .ok (.iconst 1, 1) := by decide +kernel
theorem dX12_fact_39 : decode cX12_fact 39 = .ok (.istore_n 1, 1) := by decide +kernel
theorem dX12_fact_40 : decode cX12_fact 40 = .ok (.goto 32, 3) := by decide +kernel
theorem dX12_fact_43 : decode cX12_fact 43 = .ok (.iload_n 2, 1) := by decide +kernel
theorem dX12_fact_44 : decode cX12_fact 44 = .ok (.bipush 91, 2) := by decide +kernel
theorem dX12_fact_46 : decode cX12_fact 46 = .ok (.if_icmp .ne 26, 3) := by decide +kernel
theorem dX12_fact_49 : decode cX12_fact 49 = .ok (.aload_n 0, 1) := by decide +kernel
theorem dX12_fact_50 : decode cX12_fact 50 = .ok (.bipush 91, 2) := by decide +kernel
theorem dX12_fact_52 : decode cX12_fact 52 = .ok (.invokevirtual 187, 3) := by decide +kernel
theorem dX12_fact_55 : decode cX12_fact 55 = .ok (.ifCond .ne 5, 3) := by decide +kernel
theorem dX12_fact_58 : decode cX12_fact 58 = .ok (.iconst 0, 1) := by decide +kernel
theorem dX12_fact_59 : decode cX12_fact 59 = .ok (.ireturn, 1) := by decide +kernel
theorem dX12_fact_60 : decode cX12_fact 60 = .ok (.aload_n 0, 1) := by decide +kernel
theorem dX12_fact_61 : decode cX12_fact 61 = .ok (.dup, 1) := by decide +kernel
theorem dX12_fact_62 : decode cX12_fact 62 = .ok (.getfield 87, 3) := by decide +kernel
theorem dX12_fact_65 : decode cX12_fact 65 = .ok (.iconst 1, 1) := by decide +kernel
theorem dX12_fact_66 : decode cX12_fact 66 = .ok (.iadd, 1) := by decide +kernel
theorem dX12_fact_67 : decode cX12_fact 67 = .ok (.putfield 87, 3) := by decide +kernel
theorem dX12_fact_70 : decode cX12_fact 70 = .ok (.iconst 1, 1) := by decide +kernel
theorem dX12_fact_71 : decode cX12_fact 71 = .ok (.istore_n 1, 1) := by decide +kernel
theorem dX12_fact_72 : decode cX12_fact 72 = .ok (.goto (-70), 3) := by decide +kernel
theorem dX12_fact_75 : decode cX12_fact 75 = .ok (.aload_n 0, 1) := by decide +kernel
theorem dX12_fact_76 : decode cX12_fact 76 = .ok (.invokevirtual 190, 3) := by decide +kernel
theorem dX12_fact_79 : decode cX12_fact 79 = .ok (.ireturn, 1) := by decide +kernel
theorem dX12_isInside_0 : decode cX12_isInside 0 = .ok (.iconst 0, 1) := by decide +kernel
theorem dX12_isInside_1 : decode cX12_isInside 1 = .ok (.istore_n 1, 1) := by decide +kernel
theorem dX12_isInside_2 : decode cX12_isInside 2 = .ok (.iload_n 1, 1) := by decide +kernel
theorem dX12_isInside_3 : decode cX12_isInside 3 = .ok (.aload_n 0, 1) := by decide +kernel
theorem dX12_isInside_4 : decode cX12_isInside 4 = .ok (.getfield 154, 3) := by decide +kernel
theorem dX12_isInside_7 : decode cX12_isInside 7 = .ok (.if_icmp .ge 22, 3) := by decide +kernel
theorem dX12_isInside_10 : decode cX12_isInside 10 = .ok (.aload_n 0, 1) := by decide +kernel
theorem dX12_isInside_11 : decode cX12_isInside 11 = .ok (.getfield 29, 3) := by decide +kernel
theorem dX12_isInside_14 : decode cX12_isInside 14 = .ok (.iload_n 1, 1) := by decide +kernel
theorem dX12_isInside_15 : decode cX12_isInside 15 = .ok (.iaload, 1) := by decide +kernel
theorem dX12_isInside_16 : decode cX12_isInside 16 = .ok (.bipush 91, 2) := by decide +kernel
theorem dX12_isInside_18 : decode cX12_isInside 18 = .ok (.if_icmp .ne 5, 3) := by decide +kernel
theorem dX12_isInside_21 : decode cX12_isInside 21 = .ok (.iconst 1, 1) := by decide +kernel
theorem dX12_isInside_22 : decode cX12_isInside 22 = .ok (.ireturn, 1) := by decide +kernel
theorem dX12_isInside_23 : decode cX12_isInside 23 = .ok (.iinc 1 1, 3) := by decide +kernel
theorem dX12_isInside_26 : decode cX12_isInside 26 = .ok (.goto (-24), 3) := by decide +kernel
theorem dX12_isInside_29 : decode cX12_isInside 29 = .ok (.iconst 0, 1) := by decide +kernel
theorem dX12_isInside_30 : decode cX12_isInside 30 = .ok (.ireturn, 1) := by decide +kernel
theorem dX12_layDown_0 : decode cX12_layDown 0 = .ok (.aload_n 0, 1) := by decide +kernel
theorem dX12_layDown_1 : decode cX12_layDown 1 = .ok (.getfield 154, 3) := by decide +kernel
theorem dX12_layDown_4 : decode cX12_layDown 4 = .ok (.ifCond .le 72, 3) := by decide +kernel
theorem dX12_layDown_7 : decode cX12_layDown 7 = .ok (.aload_n 0, 1) := by decide +kernel
theorem dX12_layDown_8 : decode cX12_layDown 8 = .ok (.getfield 29, 3) := by decide +kernel
theorem dX12_layDown_11 : decode cX12_layDown 11 = .ok (.aload_n 0, 1) := by decide +kernel
theorem dX12_layDown_12 : decode cX12_layDown 12 = .ok (.getfield 154, 3) := by decide +kernel
theorem dX12_layDown_15 : decode cX12_layDown 15 = .ok (.iconst 1, 1) := by decide +kernel
theorem dX12_layDown_16 : decode cX12_layDown 16 = .ok (.isub, 1) := by decide +kernel
theorem dX12_layDown_17 : decode cX12_layDown 17 = .ok (.iaload, 1) := by decide +kernel
theorem dX12_layDown_18 : decode cX12_layDown 18 = .ok (.invokestatic 157, 3) := by decide +kernel
theorem dX12_layDown_21 : decode cX12_layDown 21 = .ok (.iload_n 1, 1) := by decide +kernel
theorem dX12_layDown_22 : decode cX12_layDown 22 = .ok (.if_icmp .lt 54, 3) := by decide +kernel
theorem dX12_layDown_25 : decode cX12_layDown 25 = .ok (.aload_n 0, 1) := by decide +kernel
theorem dX12_layDown_26 : decode cX12_layDown 26 = .ok (.dup, 1) := by decide +kernel
theorem dX12_layDown_27 : decode cX12_layDown 27 = .ok (.getfield 154, 3) := by decide +kernel
theorem dX12_layDown_30 : decode cX12_layDown 30 = .ok (.iconst 1, 1) := by decide +kernel
theorem dX12_layDown_31 : decode cX12_layDown 31 = .ok (.isub, 1) := by decide +kernel
theorem dX12_layDown_32 : decode cX12_layDown 32 = .ok (.putfield 154, 3) := by decide +kernel
theorem dX12_layDown_35 : decode cX12_layDown 35 = .ok (.aload_n 0, 1) := by decide +kernel
theorem dX12_layDown_36 : decode cX12_layDown 36 = .ok (.aload_n 0, 1) := by decide +kernel
theorem dX12_layDown_37 : decode cX12_layDown 37 = .ok (.getfield 29, 3) := by decide +kernel
theorem dX12_layDown_40 : decode cX12_layDown 40 = .ok (.aload_n 0, 1) := by decide +kernel
theorem dX12_layDown_41 : decode cX12_layDown 41 = .ok (.getfield 154, 3) := by decide +kernel
theorem dX12_layDown_44 : decode cX12_layDown 44 = .ok (.iaload, 1) := by decide +kernel
theorem dX12_layDown_45 : decode cX12_layDown 45 = .ok (.iconst 0, 1) := by decide +kernel
theorem dX12_layDown_46 : decode cX12_layDown 46 = .ok (.invokevirtual 161, 3) := by decide +kernel
theorem dX12_layDown_49 : decode cX12_layDown 49 = .ok (.aload_n 0, 1) := by decide +kernel
theorem dX12_layDown_50 : decode cX12_layDown 50 = .ok (.getfield 29, 3) := by decide +kernel
theorem dX12_layDown_53 : decode cX12_layDown 53 = .ok (.aload_n 0, 1) := by decide +kernel
theorem dX12_layDown_54 : decode cX12_layDown 54 = .ok (.getfield 154, 3) := by decide +kernel
theorem dX12_layDown_57 : decode cX12_layDown 57 = .ok (.iaload, 1) := by decide +kernel
theorem dX12_layDown_58 : decode cX12_layDown 58 = .ok (.bipush 11, 2) := by decide +kernel
theorem dX12_layDown_60 : decode cX12_layDown 60 = .ok (.if_icmp .ne (-60), 3) := by decide +kernel
theorem dX12_layDown_63 : decode cX12_layDown 63 = .ok (.aload_n 0, 1) := by decide +kernel
theorem dX12_layDown_64 : decode cX12_layDown 64 = .ok (.dup, 1) := by decide +kernel
theorem dX12_layDown_65 : decode cX12_layDown 65 = .ok (.getfield 151, 3) := by decide +kernel
theorem dX12_layDown_68 : decode cX12_layDown 68 = .ok (.iconst 1, 1) := by decide +kernel
theorem dX12_layDown_69 : decode cX12_layDown 69 = .ok (.isub, 1) := by decide +kernel
theorem dX12_layDown_70 : decode cX12_layDown 70 = .ok (.putfield 151, 3) := by decide +kernel
theorem dX12_layDown_73 : decode cX12_layDown 73 = .ok (.goto (-73), 3) := by decide +kernel
theorem dX12_layDown_76 : decode cX12_layDown 76 = .ok (.return_, 1) := by decide +kernel
theorem dX12_opens_0 : decode cX12_opens 0 = .ok (.aload_n 0, 1) := by decide +kernel
theorem dX12_opens_1 : decode cX12_opens 1 = .ok (.getfield 151, 3) := by decide +kernel
theorem dX12_opens_4 : decode cX12_opens 4 = .ok (.bipush 10, 2) := by decide +kernel
theorem dX12_opens_6 : decode cX12_opens 6 = .ok (.if_icmp .ne 13, 3) := by decide +kernel
theorem dX12_opens_9 : decode cX12_opens 9 = .ok (.aload_n 0, 1) := by decide +kernel
theorem dX12_opens_10 : decode cX12_opens 10 = .ok (.iconst 2, 1) := by decide +kernel
theorem dX12_opens_11 : decode cX12_opens 11 = .ok (.aload_n 0, 1) := by decide +kernel
theorem dX12_opens_12 : decode cX12_opens 12 = .ok (.getfield 87, 3) := by decide +kernel
theorem dX12_opens_15 : decode cX12_opens 15 = .ok (.invokevirtual 108, 3) := by decide +kernel
theorem dX12_opens_18 : decode cX12_opens 18 = .ok (.ireturn, 1) := by decide +kernel
theorem dX12_opens_19 : decode cX12_opens 19 = .ok (.aload_n 0, 1) := by decide +kernel
theorem dX12_opens_20 : decode cX12_opens 20 = .ok (.dup, 1) := by decide +kernel
theorem dX12_opens_21 : decode cX12_opens 21 = .ok (.getfield 151, 3) := by decide +kernel
theorem dX12_opens_24 : decode cX12_opens 24 = .ok (.iconst 1, 1) := by decide +kernel
theorem dX12_opens_25 : decode cX12_opens 25 = .ok (.iadd, 1) := by decide +kernel
theorem dX12_opens_26 : decode cX12_opens 26 = .ok (.putfield 151, 3) := by decide +kernel
theorem dX12_opens_29 : decode cX12_opens 29 = .ok (.aload_n 0, 1) := by decide +kernel
theorem dX12_opens_30 : decode cX12_opens 30 = .ok (.getfield 29, 3) := by decide +kernel
theorem dX12_opens_33 : decode cX12_opens 33 = .ok (.aload_n 0, 1) := by decide +kernel
theorem dX12_opens_34 : decode cX12_opens 34 = .ok (.getfield 154, 3) := by decide +kernel
theorem dX12_opens_37 : decode cX12_opens 37 = .ok (.iload_n 1, 1) := by decide +kernel
theorem dX12_opens_38 : decode cX12_opens 38 = .ok (.iastore, 1) := by decide +kernel
theorem dX12_opens_39 : decode cX12_opens 39 = .ok (.aload_n 0, 1) := by decide +kernel
theorem dX12_opens_40 : decode cX12_opens 40 = .ok (.dup, 1) := by decide +kernel
theorem dX12_opens_41 : decode cX12_opens 41 = .ok (.getfield 154, 3) := by decide +kernel
theorem dX12_opens_44 : decode cX12_opens 44 = .ok (.iconst 1, 1) := by decide +kernel
theorem dX12_opens_45 : decode cX12_opens 45 = .ok (.iadd, 1) := by decide +kernel
theorem dX12_opens_46 : decode cX12_opens 46 = .ok (.putfield 154, 3) := by decide +kernel
theorem dX12_opens_49 : decode cX12_opens 49 = .ok (.iconst 1, 1) := by decide +kernel
theorem dX12_opens_50 : decode cX12_opens 50 = .ok (.ireturn, 1) := by decide +kernel
theorem dX12_strength_0 : decode cX12_strength 0 = .ok (.iload_n 0, 1) := by decide +kernel
theorem dX12_strength_1 : decode cX12_strength 1 = .ok (.bipush 13, 2) := by decide +kernel
theorem dX12_strength_3 : decode cX12_strength 3 = .ok (.if_icmp .ne 7, 3) := by decide +kernel
theorem dX12_strength_6 : decode cX12_strength 6 = .ok (.iconst 1, 1) := by decide +kernel
theorem dX12_strength_7 : decode cX12_strength 7 = .ok (.goto 24, 3) := by decide +kernel
theorem dX12_strength_10 : decode cX12_strength 10 = .ok (.iload_n 0, 1) := by decide +kernel
theorem dX12_strength_11 : decode cX12_strength 11 = .ok (.bipush 12, 2) := by decide +kernel
theorem dX12_strength_13 : decode cX12_strength 13 = .ok (.if_icmp .ne 7, 3) := by decide +kernel
theorem dX12_strength_16 : decode cX12_strength 16 = .ok (.iconst 2, 1) := by decide +kernel
theorem dX12_strength_17 : decode cX12_strength 17 = .ok (.goto 14, 3) := by decide +kernel
theorem dX12_strength_20 : decode cX12_strength 20 = .ok (.iload_n 0, 1) := by decide +kernel
theorem dX12_strength_21 : decode cX12_strength 21 = .ok (.bipush 11, 2) := by decide +kernel
theorem dX12_strength_23 : decode cX12_strength 23 = .ok (.if_icmp .ne 7, 3) := by decide +kernel
theorem dX12_strength_26 : decode cX12_strength 26 = .ok (.iconst 3, 1) := by decide +kernel
theorem dX12_strength_27 : decode cX12_strength 27 = .ok (.goto 4, 3) := by decide +kernel
theorem dX12_strength_30 : decode cX12_strength 30 = .ok (.iconst 0, 1) := by decide +kernel
theorem dX12_strength_31 : decode cX12_strength 31 = .ok (.ireturn, 1) := by decide +kernel
theorem dX12_tested_0 : decode cX12_tested 0 = .ok (.aload_n 0, 1) := by decide +kernel
theorem dX12_tested_1 : decode cX12_tested 1 = .ok (.iconst 0, 1) := by decide +kernel
theorem dX12_tested_2 : decode cX12_tested 2 = .ok (.putfield 154, 3) := by decide +kernel
theorem dX12_tested_5 : decode cX12_tested 5 = .ok (.aload_n 0, 1) := by decide +kernel
theorem dX12_tested_6 : decode cX12_tested 6 = .ok (.iconst 0, 1) := by decide +kernel
theorem dX12_tested_7 : decode cX12_tested 7 = .ok (.putfield 151, 3) := by decide +kernel
theorem dX12_tested_10 : decode cX12_tested 10 = .ok (.iconst 1, 1) := by decide +kernel
theorem dX12_tested_11 : decode cX12_tested 11 = .ok (.istore_n 1, 1) := by decide +kernel
theorem dX12_tested_12 : decode cX12_tested 12 = .ok (.iload_n 1, 1) := by decide +kernel
theorem dX12_tested_13 : decode cX12_tested 13 = .ok (.ifCond .eq 99, 3) := by decide +kernel
theorem dX12_tested_16 : decode cX12_tested 16 = .ok (.aload_n 0, 1) := by decide +kernel
theorem dX12_tested_17 : decode cX12_tested 17 = .ok (.invokevirtual 199, 3) := by decide +kernel
theorem dX12_tested_20 : decode cX12_tested 20 = .ok (.ifCond .ne 5, 3) := by decide +kernel
theorem dX12_tested_23 : decode cX12_tested 23 = .ok (.iconst 0, 1) := by decide +kernel
theorem dX12_tested_24 : decode cX12_tested 24 = .ok (.ireturn, 1) := by decide +kernel
theorem dX12_tested_25 : decode cX12_tested 25 = .ok (.aload_n 0, 1) := by decide +kernel
theorem dX12_tested_26 : decode cX12_tested 26 = .ok (.invokevirtual 202, 3) := by decide +kernel
theorem dX12_tested_29 : decode cX12_tested 29 = .ok (.aload_n 0, 1) := by decide +kernel
theorem dX12_tested_30 : decode cX12_tested 30 = .ok (.ldc2_w 205, 3) := by decide +kernel
theorem dX12_tested_33 : decode cX12_tested 33 = .ok (.invokevirtual 98, 3) := by decide +kernel
theorem dX12_tested_36 : decode cX12_tested 36 = .ok (.ifCond .ne 13, 3) := by decide +kernel
theorem dX12_tested_39 : decode cX12_tested 39 = .ok (.aload_n 0, 1) := by decide +kernel
theorem dX12_tested_40 : decode cX12_tested 40 = .ok (.ldc2_w 207, 3) := by decide +kernel
theorem dX12_tested_43 : decode cX12_tested 43 = .ok (.invokevirtual 98, 3) := by decide +kernel
theorem dX12_tested_46 : decode cX12_tested 46 = .ok (.ifCond .eq 7, 3) := by decide +kernel
theorem dX12_tested_49 : decode cX12_tested 49 = .ok (.iconst 1, 1) := by decide +kernel
theorem dX12_tested_50 : decode cX12_tested 50 = .ok (.goto 4, 3) := by decide +kernel
theorem dX12_tested_53 : decode cX12_tested 53 = .ok (.iconst 0, 1) := by decide +kernel
theorem dX12_tested_54 : decode cX12_tested 54 = .ok (.istore_n 1, 1) := by decide +kernel
theorem dX12_tested_55 : decode cX12_tested 55 = .ok (.iload_n 1, 1) := by decide +kernel
theorem dX12_tested_56 : decode cX12_tested 56 = .ok (.ifCond .eq (-44), 3) := by decide +kernel
theorem dX12_tested_59 : decode cX12_tested 59 = .ok (.aload_n 0, 1) := by decide +kernel
theorem dX12_tested_60 : decode cX12_tested 60 = .ok (.ldc2_w 205, 3) := by decide +kernel
theorem dX12_tested_63 : decode cX12_tested 63 = .ok (.invokevirtual 98, 3) := by decide +kernel
theorem dX12_tested_66 : decode cX12_tested 66 = .ok (.ifCond .eq 8, 3) := by decide +kernel
theorem dX12_tested_69 : decode cX12_tested 69 = .ok (.bipush 12, 2) := by decide +kernel
theorem dX12_tested_71 : decode cX12_tested 71 = .ok (.goto 5, 3) := by decide +kernel
theorem dX12_tested_74 : decode cX12_tested 74 = .ok (.bipush 13, 2) := by decide +kernel
theorem dX12_tested_76 : decode cX12_tested 76 = .ok (.istore_n 2, 1) := by decide +kernel
theorem dX12_tested_77 : decode cX12_tested 77 = .ok (.aload_n 0, 1) := by decide +kernel
theorem dX12_tested_78 : decode cX12_tested 78 = .ok (.invokevirtual 102, 3) := by decide +kernel
theorem dX12_tested_81 : decode cX12_tested 81 = .ok (.aload_n 0, 1) := by decide +kernel
theorem dX12_tested_82 : decode cX12_tested 82 = .ok (.iload_n 2, 1) := by decide +kernel
theorem dX12_tested_83 : decode cX12_tested 83 = .ok (.invokestatic 157, 3) := by decide +kernel
theorem dX12_tested_86 : decode cX12_tested 86 = .ok (.invokevirtual 193, 3) := by decide +kernel
theorem dX12_tested_89 : decode cX12_tested 89 = .ok (.aload_n 0, 1) := by decide +kernel
theorem dX12_tested_90 : decode cX12_tested 90 = .ok (.getfield 29, 3) := by decide +kernel
theorem dX12_tested_93 : decode cX12_tested 93 = .ok (.aload_n 0, 1) := by decide +kernel
theorem dX12_tested_94 : decode cX12_tested 94 = .ok (.getfield 154, 3) := by decide +kernel
theorem dX12_tested_97 : decode cX12_tested 97 = .ok (.iload_n 2, 1) := by decide +kernel
theorem dX12_tested_98 : decode cX12_tested 98 = .ok (.iastore, 1) := by decide +kernel
theorem dX12_tested_99 : decode cX12_tested 99 = .ok (.aload_n 0, 1) := by decide +kernel
theorem dX12_tested_100 : decode cX12_tested 100 = .ok (.dup, 1) := by decide +kernel
theorem dX12_tested_101 : decode cX12_tested 101 = .ok (.getfield 154, 3) := by decide +kernel
theorem dX12_tested_104 : decode cX12_tested 104 = .ok (.iconst 1, 1) := by decide +kernel
theorem dX12_tested_105 : decode cX12_tested 105 = .ok (.iadd, 1) := by decide +kernel
theorem dX12_tested_106 : decode cX12_tested 106 = .ok (.putfield 154, 3) := by decide +kernel
theorem dX12_tested_109 : decode cX12_tested 109 = .ok (.goto (-97), 3) := by decide +kernel
theorem dX12_tested_112 : decode cX12_tested 112 = .ok (.aload_n 0, 1) := by decide +kernel
theorem dX12_tested_113 : decode cX12_tested 113 = .ok (.invokevirtual 196, 3) := by decide +kernel
theorem dX12_tested_116 : decode cX12_tested 116 = .ok (.ifCond .eq 18, 3) := by decide +kernel
theorem dX12_tested_119 : decode cX12_tested 119 = .ok (.aload_n 0, 1) := by decide +kernel
theorem dX12_tested_120 : decode cX12_tested 120 = .ok (.invokevirtual 90, 3) := by decide +kernel
theorem dX12_tested_123 : decode cX12_tested 123 = .ok (.pop, 1) := by decide +kernel
theorem dX12_tested_124 : decode cX12_tested 124 = .ok (.aload_n 0, 1) := by decide +kernel
theorem dX12_tested_125 : decode cX12_tested 125 = .ok (.iconst 0, 1) := by decide +kernel
theorem dX12_tested_126 : decode cX12_tested 126 = .ok (.aload_n 0, 1) := by decide +kernel
theorem dX12_tested_127 : decode cX12_tested 127 = .ok (.getfield 87, 3) := by decide +kernel
theorem dX12_tested_130 : decode cX12_tested 130 = .ok (.invokevirtual 108, 3) := by decide +kernel
theorem dX12_tested_133 : decode cX12_tested 133 = .ok (.ireturn, 1) := by decide +kernel
theorem dX12_tested_134 : decode cX12_tested 134 = .ok (.aload_n 0, 1) := by decide +kernel
theorem dX12_tested_135 : decode cX12_tested 135 = .ok (.iconst 1, 1) := by decide +kernel
theorem dX12_tested_136 : decode cX12_tested 136 = .ok (.invokevirtual 193, 3) := by decide +kernel
theorem dX12_tested_139 : decode cX12_tested 139 = .ok (.iconst 1, 1) := by decide +kernel
theorem dX12_tested_140 : decode cX12_tested 140 = .ok (.ireturn, 1) := by decide +kernel
set_option maxHeartbeats 4000000 in
set_option maxRecDepth 100000 in
theorem ct_X12_strength (l : Launch) (D : va_G) (tc : Nat → ClassId) (sk : (Nat → Nat) × (Nat → Nat)) (x1 : Int32)  : Ct l yX12_strength cX12_strength 1 (some .int) { frames := 0, cells := 0, slots := 0, locals := 0 } D tc sk [.int x1] [] (fun (v : Option Value) (_ : Unit) => ∃ r : Int32, v = some (.int r) ∧ (((x1.toInt = 13 ∧ r.toInt = 1) ∨ (x1.toInt = 12 ∧ r.toInt = 2) ∨ (x1.toInt = 11 ∧ r.toInt = 3) ∨ (x1.toInt ≠ 13 ∧ x1.toInt ≠ 12 ∧ x1.toInt ≠ 11 ∧ r.toInt = 0)))) (fun (_ : Unit) => []) 0 0 := by
  refine Ct.start (by decide) (Nat.le_of_ble_eq_true rfl) (fun p e s m below meth c A ls hx hb hr hlk hin hml hown hts hK hX hP hD hA hl hS => ?_)
  have hl : lv_has ls 1 [(0, .int x1)] := hl
  refine lv_iload_n hx hb dX12_strength_0 rfl (lv_at hl 0 rfl) ?_
  refine lv_bipush (v := 13) hx hb dX12_strength_1 (by decide) ?_
  refine lv_icmp_ne (tgt := 10) hx hb dX12_strength_3 (by decide) (fun c_1 => ?_) (fun c_1 => ?_)
  · skip
    refine lv_iload_n hx hb dX12_strength_10 rfl (lv_at hl 0 rfl) ?_
    refine lv_bipush (v := 12) hx hb dX12_strength_11 (by decide) ?_
    refine lv_icmp_ne (tgt := 20) hx hb dX12_strength_13 (by decide) (fun c_2 => ?_) (fun c_2 => ?_)
    · skip
      refine lv_iload_n hx hb dX12_strength_20 rfl (lv_at hl 0 rfl) ?_
      refine lv_bipush (v := 11) hx hb dX12_strength_21 (by decide) ?_
      refine lv_icmp_ne (tgt := 30) hx hb dX12_strength_23 (by decide) (fun c_3 => ?_) (fun c_3 => ?_)
      · skip
        refine lv_iconst (v := 0) hx hb dX12_strength_30 (by decide) ?_
        have hp_4 : ((x1.toInt = 13 ∧ (0 : Int32).toInt = 1) ∨ (x1.toInt = 12 ∧ (0 : Int32).toInt = 2) ∨ (x1.toInt = 11 ∧ (0 : Int32).toInt = 3) ∨ (x1.toInt ≠ 13 ∧ x1.toInt ≠ 12 ∧ x1.toInt ≠ 11 ∧ (0 : Int32).toInt = 0)) := by
          have z_1 : ¬ (x1 : Int32).toInt = (13 : Int32).toInt := fun z => c_1 (Int32.toInt_inj.mp z)
          have z_2 : ¬ (x1 : Int32).toInt = (12 : Int32).toInt := fun z => c_2 (Int32.toInt_inj.mp z)
          have z_3 : ¬ (x1 : Int32).toInt = (11 : Int32).toInt := fun z => c_3 (Int32.toInt_inj.mp z)
          have y_11 : (11 : Int32).toInt = 11 := by decide
          have y_12 : (12 : Int32).toInt = 12 := by decide
          have y_13 : (13 : Int32).toInt = 13 := by decide
          have y_0 : (0 : Int32).toInt = 0 := by decide
          have yr : (0 : Int32).toInt = 0 := by decide
          omega
        exact retI (v := 0) hx hb hr hlk (rfl) hP hD hS () ⟨_, rfl, hp_4⟩ [] rfl rfl dX12_strength_31 (Nat.le_of_ble_eq_true rfl) (Nat.le_of_ble_eq_true rfl) rfl
      · skip
        refine lv_iconst (v := 3) hx hb dX12_strength_26 (by decide) ?_
        refine lv_goto (tgt := 31) hx hb dX12_strength_27 (by decide) ?_
        have hp_5 : ((x1.toInt = 13 ∧ (3 : Int32).toInt = 1) ∨ (x1.toInt = 12 ∧ (3 : Int32).toInt = 2) ∨ (x1.toInt = 11 ∧ (3 : Int32).toInt = 3) ∨ (x1.toInt ≠ 13 ∧ x1.toInt ≠ 12 ∧ x1.toInt ≠ 11 ∧ (3 : Int32).toInt = 0)) := by
          have z_1 : ¬ (x1 : Int32).toInt = (13 : Int32).toInt := fun z => c_1 (Int32.toInt_inj.mp z)
          have z_2 : ¬ (x1 : Int32).toInt = (12 : Int32).toInt := fun z => c_2 (Int32.toInt_inj.mp z)
          have z_3 := congrArg Int32.toInt c_3
          have y_11 : (11 : Int32).toInt = 11 := by decide
          have y_12 : (12 : Int32).toInt = 12 := by decide
          have y_13 : (13 : Int32).toInt = 13 := by decide
          have y_3 : (3 : Int32).toInt = 3 := by decide
          have yr : (3 : Int32).toInt = 3 := by decide
          omega
        exact retI (v := 3) hx hb hr hlk (rfl) hP hD hS () ⟨_, rfl, hp_5⟩ [] rfl rfl dX12_strength_31 (Nat.le_of_ble_eq_true rfl) (Nat.le_of_ble_eq_true rfl) rfl
    · skip
      refine lv_iconst (v := 2) hx hb dX12_strength_16 (by decide) ?_
      refine lv_goto (tgt := 31) hx hb dX12_strength_17 (by decide) ?_
      have hp_6 : ((x1.toInt = 13 ∧ (2 : Int32).toInt = 1) ∨ (x1.toInt = 12 ∧ (2 : Int32).toInt = 2) ∨ (x1.toInt = 11 ∧ (2 : Int32).toInt = 3) ∨ (x1.toInt ≠ 13 ∧ x1.toInt ≠ 12 ∧ x1.toInt ≠ 11 ∧ (2 : Int32).toInt = 0)) := by
        have z_1 : ¬ (x1 : Int32).toInt = (13 : Int32).toInt := fun z => c_1 (Int32.toInt_inj.mp z)
        have z_2 := congrArg Int32.toInt c_2
        have y_12 : (12 : Int32).toInt = 12 := by decide
        have y_13 : (13 : Int32).toInt = 13 := by decide
        have y_2 : (2 : Int32).toInt = 2 := by decide
        have yr : (2 : Int32).toInt = 2 := by decide
        omega
      exact retI (v := 2) hx hb hr hlk (rfl) hP hD hS () ⟨_, rfl, hp_6⟩ [] rfl rfl dX12_strength_31 (Nat.le_of_ble_eq_true rfl) (Nat.le_of_ble_eq_true rfl) rfl
  · skip
    refine lv_iconst (v := 1) hx hb dX12_strength_6 (by decide) ?_
    refine lv_goto (tgt := 31) hx hb dX12_strength_7 (by decide) ?_
    have hp_7 : ((x1.toInt = 13 ∧ (1 : Int32).toInt = 1) ∨ (x1.toInt = 12 ∧ (1 : Int32).toInt = 2) ∨ (x1.toInt = 11 ∧ (1 : Int32).toInt = 3) ∨ (x1.toInt ≠ 13 ∧ x1.toInt ≠ 12 ∧ x1.toInt ≠ 11 ∧ (1 : Int32).toInt = 0)) := by
      have z_1 := congrArg Int32.toInt c_1
      have y_13 : (13 : Int32).toInt = 13 := by decide
      have y_1 : (1 : Int32).toInt = 1 := by decide
      have yr : (1 : Int32).toInt = 1 := by decide
      omega
    exact retI (v := 1) hx hb hr hlk (rfl) hP hD hS () ⟨_, rfl, hp_7⟩ [] rfl rfl dX12_strength_31 (Nat.le_of_ble_eq_true rfl) (Nat.le_of_ble_eq_true rfl) rfl
set_option maxHeartbeats 4000000 in
set_option maxRecDepth 100000 in
theorem ct_X12_isInside (l : Launch) (D : va_G) (tc : Nat → ClassId) (sk : (Nat → Nat) × (Nat → Nat)) (Ma : Nat → Nat) (Mv : Nat → Int32) (Mf : Nat → Nat → Int32) (Mj : Nat → Int64) (h_o : 0 ≤ ((Mv 9) : Int32).toInt ∧ ((Mv 9) : Int32).toInt ≤ 400) : Ct l yX12_isInside cX12_isInside 2 (some .boolean) { frames := 0, cells := 0, slots := 0, locals := 0 } D tc sk [.ref (Ma 0)] [((Ma 0), .inr (12, [.ref (Ma 1), .int (Mv 0), .int (Mv 1), .ref (Ma 2), .ref (Ma 3), .ref (Ma 4), .ref (Ma 5), .ref (Ma 6), .int (Mv 2), .int (Mv 3), .int (Mv 4), .int (Mv 5), .int (Mv 6), .int (Mv 7), .int (Mv 8), .ref (Ma 7), .int (Mv 9), .ref (Ma 8), .int (Mv 10), .ref (Ma 9), .ref (Ma 10), .int (Mv 11), .int (Mv 12), .int (Mv 13), .ref (Ma 11), .int (Mv 14), .ref (Ma 12), .ref (Ma 13), .ref (Ma 14), .ref (Ma 15), .ref (Ma 16), .long (Mj 0), .ref (Ma 17), .ref (Ma 18), .ref (Ma 19), .ref (Ma 20)])), ((Ma 7), .inl (tc 0, 400, .inl (Mf 7)))] (fun (v : Option Value) (_ : Unit) => ∃ r : Int32, v = some (.int r) ∧ ((r.toInt = 0 ∨ r.toInt = 1)) ∧ (r.toInt = 1 → (Ins (Mf 7) (Mv 9))) ∧ (r.toInt = 0 → (NIns (Mf 7) (Mv 9)))) (fun (_ : Unit) => [((Ma 0), .inr (12, [.ref (Ma 1), .int (Mv 0), .int (Mv 1), .ref (Ma 2), .ref (Ma 3), .ref (Ma 4), .ref (Ma 5), .ref (Ma 6), .int (Mv 2), .int (Mv 3), .int (Mv 4), .int (Mv 5), .int (Mv 6), .int (Mv 7), .int (Mv 8), .ref (Ma 7), .int (Mv 9), .ref (Ma 8), .int (Mv 10), .ref (Ma 9), .ref (Ma 10), .int (Mv 11), .int (Mv 12), .int (Mv 13), .ref (Ma 11), .int (Mv 14), .ref (Ma 12), .ref (Ma 13), .ref (Ma 14), .ref (Ma 15), .ref (Ma 16), .long (Mj 0), .ref (Ma 17), .ref (Ma 18), .ref (Ma 19), .ref (Ma 20)])), ((Ma 7), .inl (tc 0, 400, .inl (Mf 7)))]) 0 0 := by
  refine Ct.start (by decide) (Nat.le_of_ble_eq_true rfl) (fun p e s m below meth c A ls hx hb hr hlk hin hml hown hts hK hX hP hD hA hl hS => ?_)
  have hl : lv_has ls 2 [(0, .ref (Ma 0))] := hl
  refine lv_iconst (v := 0) hx hb dX12_isInside_0 (by decide) ?_
  refine lv_istore_n (lv' := [(1, .int 0), (0, .ref (Ma 0))]) hx hb dX12_isInside_1 rfl hl (by decide) rfl (fun ls hl₀ => ?_)
  replace hl := hl₀
  clear hl₀
  have loop_5 : ∀ (n_3 : Nat) (vy_2 : Int32) (H : Heap) (locs : List Loc) (ls : Array Slot), (400 - (vy_2 : Int32).toInt).toNat < n_3 → (0 ≤ (vy_2 : Int32).toInt) → (NIns (Mf 7) vy_2) → va_P D classes [((Ma 0), .inr (12, [.ref (Ma 1), .int (Mv 0), .int (Mv 1), .ref (Ma 2), .ref (Ma 3), .ref (Ma 4), .ref (Ma 5), .ref (Ma 6), .int (Mv 2), .int (Mv 3), .int (Mv 4), .int (Mv 5), .int (Mv 6), .int (Mv 7), .int (Mv 8), .ref (Ma 7), .int (Mv 9), .ref (Ma 8), .int (Mv 10), .ref (Ma 9), .ref (Ma 10), .int (Mv 11), .int (Mv 12), .int (Mv 13), .ref (Ma 11), .int (Mv 14), .ref (Ma 12), .ref (Ma 13), .ref (Ma 14), .ref (Ma 15), .ref (Ma 16), .long (Mj 0), .ref (Ma 17), .ref (Ma 18), .ref (Ma 19), .ref (Ma 20)])), ((Ma 7), .inl (tc 0, 400, .inl (Mf 7)))] H → va_D A [((Ma 0), .inr (12, [.ref (Ma 1), .int (Mv 0), .int (Mv 1), .ref (Ma 2), .ref (Ma 3), .ref (Ma 4), .ref (Ma 5), .ref (Ma 6), .int (Mv 2), .int (Mv 3), .int (Mv 4), .int (Mv 5), .int (Mv 6), .int (Mv 7), .int (Mv 8), .ref (Ma 7), .int (Mv 9), .ref (Ma 8), .int (Mv 10), .ref (Ma 9), .ref (Ma 10), .int (Mv 11), .int (Mv 12), .int (Mv 13), .ref (Ma 11), .int (Mv 14), .ref (Ma 12), .ref (Ma 13), .ref (Ma 14), .ref (Ma 15), .ref (Ma 16), .long (Mj 0), .ref (Ma 17), .ref (Ma 18), .ref (Ma 19), .ref (Ma 20)])), ((Ma 7), .inl (tc 0, 400, .inl (Mf 7)))] → va_S A s.heap H locs → lv_has ls 2 [(1, .int vy_2), (0, .ref (Ma 0))] → W p l e ({ frames := 0, cells := 0, slots := 0, locals := 0 }) s m ([.ref (Ma 0)].toArray) below meth c H locs 0 0 (MQ below (QW (fun (v : Option Value) (_ : Unit) => ∃ r : Int32, v = some (.int r) ∧ ((r.toInt = 0 ∨ r.toInt = 1)) ∧ (r.toInt = 1 → (Ins (Mf 7) (Mv 9))) ∧ (r.toInt = 0 → (NIns (Mf 7) (Mv 9)))) (BW D (fun (_ : Unit) => [((Ma 0), .inr (12, [.ref (Ma 1), .int (Mv 0), .int (Mv 1), .ref (Ma 2), .ref (Ma 3), .ref (Ma 4), .ref (Ma 5), .ref (Ma 6), .int (Mv 2), .int (Mv 3), .int (Mv 4), .int (Mv 5), .int (Mv 6), .int (Mv 7), .int (Mv 8), .ref (Ma 7), .int (Mv 9), .ref (Ma 8), .int (Mv 10), .ref (Ma 9), .ref (Ma 10), .int (Mv 11), .int (Mv 12), .int (Mv 13), .ref (Ma 11), .int (Mv 14), .ref (Ma 12), .ref (Ma 13), .ref (Ma 14), .ref (Ma 15), .ref (Ma 16), .long (Mj 0), .ref (Ma 17), .ref (Ma 18), .ref (Ma 19), .ref (Ma 20)])), ((Ma 7), .inl (tc 0, 400, .inl (Mf 7)))]) A) A) ([.ref (Ma 0)].toArray) s 0 0 A) (F0 m 2 ls []) := by
    clear hP hD hS hl
    intro n_3
    induction n_3 with
    | zero =>
      intro vy_2 H locs ls h1
      exact absurd h1 (Nat.not_lt_zero _)
    | succ n_3 ih_4 =>
      intro vy_2 H locs ls hn_8 pf_6 pf_7 hP hD hS hl
      refine lv_iload_n hx hb dX12_isInside_2 rfl (lv_at hl 0 rfl) ?_
      refine lv_aload_n hx hb dX12_isInside_3 rfl (lv_at hl 1 rfl) ?_
      refine gf_X12_154 hx hb hts hown hK hP 0 rfl rfl dX12_isInside_4 ?_
      refine lv_icmp_ge (tgt := 29) hx hb dX12_isInside_7 (by decide) (fun c_9 => ?_) (fun c_9 => ?_)
      · skip
        refine lv_iconst (v := 0) hx hb dX12_isInside_29 (by decide) ?_
        have hp_10 : ((0 : Int32).toInt = 0 ∨ (0 : Int32).toInt = 1) := by
          have z_1 := Int32.le_iff_toInt_le.mp c_9
          have y_0 : (0 : Int32).toInt = 0 := by decide
          have yr : (0 : Int32).toInt = 0 := by decide
          omega
        have hm_11 : (0 : Int32).toInt = 0 → (NIns (Mf 7) (Mv 9)) := by
          intro h1r
          have hr_12 : ((Mv 9) : Int32).toInt ≤ (vy_2 : Int32).toInt := by
            have z_1 := Int32.le_iff_toInt_le.mp c_9
            omega
          exact (NIns.ge pf_7 hr_12)
        exact retI (v := 0) hx hb hr hlk (rfl) hP hD hS () ⟨_, rfl, hp_10, (fun h => absurd h (by decide)), hm_11⟩ [0, 1] rfl rfl dX12_isInside_30 (Nat.le_of_ble_eq_true rfl) (Nat.le_of_ble_eq_true rfl) rfl
      · skip
        refine lv_aload_n hx hb dX12_isInside_10 rfl (lv_at hl 1 rfl) ?_
        refine gf_X12_29 hx hb hts hown hK hP 0 rfl rfl dX12_isInside_11 ?_
        refine lv_iload_n hx hb dX12_isInside_14 rfl (lv_at hl 0 rfl) ?_
        have hi_13 : vp_in vy_2 400 := by
          have z_1 := Int32.lt_iff_toInt_lt.mp (Int32.not_le.mp c_9)
          refine vp_in_iff.mpr ⟨?_, ?_⟩ <;> omega
        refine va_iald hx hb hK hP 1 0 rfl rfl hi_13 dX12_isInside_15 ?_
        refine lv_topi (fun x_14 ex_14 => ?_)
        refine lv_bipush (v := 91) hx hb dX12_isInside_16 (by decide) ?_
        refine lv_icmp_ne (tgt := 23) hx hb dX12_isInside_18 (by decide) (fun c_15 => ?_) (fun c_15 => ?_)
        · skip
          obtain ⟨x_16, ex_16⟩ : ∃ y : Int32, y = vy_2 + 1 := ⟨_, rfl⟩
          refine lv_iinc (v := x_16) (lv' := [(1, .int x_16), (0, .ref (Ma 0))]) hx hb dX12_isInside_23 hl (k := 0) rfl (by rw [ex_16]; rfl) (by decide) rfl (fun ls hl₀ => ?_)
          replace hl := hl₀
          clear hl₀
          refine lv_goto (tgt := 2) hx hb dX12_isInside_26 (by decide) ?_
          have hb_17 : 400 - (x_16 : Int32).toInt < 400 - (vy_2 : Int32).toInt ∧ 1 ≤ 400 - (vy_2 : Int32).toInt := by
            have z_1 := Int32.lt_iff_toInt_lt.mp (Int32.not_le.mp c_9)
            have z_2 : ¬ (x_14 : Int32).toInt = (91 : Int32).toInt := fun z => c_15 (Int32.toInt_inj.mp z)
            have y_91 : (91 : Int32).toInt = 91 := by decide
            have y_1 : (1 : Int32).toInt = 1 := by decide
            have t_x_16 : x_16.toInt = (vy_2 : Int32).toInt + (1 : Int32).toInt := by rw [ex_16]; exact add_toInt (by omega) (by omega)
            refine ⟨?_, ?_⟩ <;> omega
          have ha_18 : 0 ≤ (x_16 : Int32).toInt := by
            have z_1 := Int32.lt_iff_toInt_lt.mp (Int32.not_le.mp c_9)
            have z_2 : ¬ (x_14 : Int32).toInt = (91 : Int32).toInt := fun z => c_15 (Int32.toInt_inj.mp z)
            have y_91 : (91 : Int32).toInt = 91 := by decide
            have y_1 : (1 : Int32).toInt = 1 := by decide
            have t_x_16 : x_16.toInt = (vy_2 : Int32).toInt + (1 : Int32).toInt := by rw [ex_16]; exact add_toInt (by omega) (by omega)
            omega
          have hr_19 : ¬ (x_14 : Int32).toInt = 91 := by
            have z_1 := Int32.lt_iff_toInt_lt.mp (Int32.not_le.mp c_9)
            have z_2 : ¬ (x_14 : Int32).toInt = (91 : Int32).toInt := fun z => c_15 (Int32.toInt_inj.mp z)
            have y_91 : (91 : Int32).toInt = 91 := by decide
            omega
          have hi_20 : (x_16 : Int32).toInt = (vy_2 : Int32).toInt + 1 := by
            have z_1 := Int32.lt_iff_toInt_lt.mp (Int32.not_le.mp c_9)
            have z_2 : ¬ (x_14 : Int32).toInt = (91 : Int32).toInt := fun z => c_15 (Int32.toInt_inj.mp z)
            have y_91 : (91 : Int32).toInt = 91 := by decide
            have y_1 : (1 : Int32).toInt = 1 := by decide
            have t_x_16 : x_16.toInt = (vy_2 : Int32).toInt + (1 : Int32).toInt := by rw [ex_16]; exact add_toInt (by omega) (by omega)
            omega
          have hr_21 : 0 ≤ (vy_2 : Int32).toInt := by
            have z_1 := Int32.lt_iff_toInt_lt.mp (Int32.not_le.mp c_9)
            have z_2 : ¬ (x_14 : Int32).toInt = (91 : Int32).toInt := fun z => c_15 (Int32.toInt_inj.mp z)
            have y_91 : (91 : Int32).toInt = 91 := by decide
            omega
          exact ih_4 x_16 _ _ _ (by omega) ha_18 (NIns.step pf_7 ex_14 hr_19 hi_20 hr_21) (hP.sub [0, 1] rfl) (hD.sub [0, 1] rfl rfl) hS (lv_sub hl [0, 1] rfl)
        · skip
          refine lv_iconst (v := 1) hx hb dX12_isInside_21 (by decide) ?_
          have hp_22 : ((1 : Int32).toInt = 0 ∨ (1 : Int32).toInt = 1) := by
            have z_1 := Int32.lt_iff_toInt_lt.mp (Int32.not_le.mp c_9)
            have z_2 := congrArg Int32.toInt c_15
            have y_91 : (91 : Int32).toInt = 91 := by decide
            have y_1 : (1 : Int32).toInt = 1 := by decide
            have yr : (1 : Int32).toInt = 1 := by decide
            omega
          have hm_23 : (1 : Int32).toInt = 1 → (Ins (Mf 7) (Mv 9)) := by
            intro h1r
            have hr_24 : (x_14 : Int32).toInt = 91 := by
              have z_1 := Int32.lt_iff_toInt_lt.mp (Int32.not_le.mp c_9)
              have z_2 := congrArg Int32.toInt c_15
              have y_91 : (91 : Int32).toInt = 91 := by decide
              omega
            have hr_25 : 0 ≤ (vy_2 : Int32).toInt ∧ (vy_2 : Int32).toInt < ((Mv 9) : Int32).toInt := by
              have z_1 := Int32.lt_iff_toInt_lt.mp (Int32.not_le.mp c_9)
              have z_2 := congrArg Int32.toInt c_15
              have y_91 : (91 : Int32).toInt = 91 := by decide
              refine ⟨?_, ?_⟩ <;> omega
            exact (Ins.of ex_14 hr_24 hr_25)
          exact retI (v := 1) hx hb hr hlk (rfl) hP hD hS () ⟨_, rfl, hp_22, hm_23, (fun h => absurd h (by decide))⟩ [0, 1] rfl rfl dX12_isInside_22 (Nat.le_of_ble_eq_true rfl) (Nat.le_of_ble_eq_true rfl) rfl
  have ha_26 : 0 ≤ (0 : Int32).toInt := by
    have y_0 : (0 : Int32).toInt = 0 := by decide
    omega
  exact loop_5 _ 0 _ _ _ (Nat.lt_succ_self _) ha_26 (NIns.nil (by decide)) hP hD hS hl
set_option maxRecDepth 100000 in
theorem cu_X12_isInside (l : Launch) (D : va_G) (tc : Nat → ClassId) (sk : (Nat → Nat) × (Nat → Nat)) (Ma_0 : Nat) (Ma_1 : Nat) (Ma_2 : Nat) (Ma_3 : Nat) (Ma_4 : Nat) (Ma_5 : Nat) (Ma_6 : Nat) (Ma_7 : Nat) (Ma_8 : Nat) (Ma_9 : Nat) (Ma_10 : Nat) (Ma_11 : Nat) (Ma_12 : Nat) (Ma_13 : Nat) (Ma_14 : Nat) (Ma_15 : Nat) (Ma_16 : Nat) (Ma_17 : Nat) (Ma_18 : Nat) (Ma_19 : Nat) (Ma_20 : Nat) (Mv_0 : Int32) (Mv_1 : Int32) (Mv_2 : Int32) (Mv_3 : Int32) (Mv_4 : Int32) (Mv_5 : Int32) (Mv_6 : Int32) (Mv_7 : Int32) (Mv_8 : Int32) (Mv_9 : Int32) (Mv_10 : Int32) (Mv_11 : Int32) (Mv_12 : Int32) (Mv_13 : Int32) (Mv_14 : Int32) (Mf_7 : Nat → Int32) (Mj_0 : Int64) (h_o : 0 ≤ (Mv_9 : Int32).toInt ∧ (Mv_9 : Int32).toInt ≤ 400) : Ct l yX12_isInside cX12_isInside 2 (some .boolean) { frames := 0, cells := 0, slots := 0, locals := 0 } D tc sk [.ref Ma_0] [(Ma_0, .inr (12, [.ref Ma_1, .int Mv_0, .int Mv_1, .ref Ma_2, .ref Ma_3, .ref Ma_4, .ref Ma_5, .ref Ma_6, .int Mv_2, .int Mv_3, .int Mv_4, .int Mv_5, .int Mv_6, .int Mv_7, .int Mv_8, .ref Ma_7, .int Mv_9, .ref Ma_8, .int Mv_10, .ref Ma_9, .ref Ma_10, .int Mv_11, .int Mv_12, .int Mv_13, .ref Ma_11, .int Mv_14, .ref Ma_12, .ref Ma_13, .ref Ma_14, .ref Ma_15, .ref Ma_16, .long Mj_0, .ref Ma_17, .ref Ma_18, .ref Ma_19, .ref Ma_20])), (Ma_7, .inl (tc 0, 400, .inl Mf_7))] (fun (v : Option Value) (_ : Unit) => ∃ r : Int32, v = some (.int r) ∧ ((r.toInt = 0 ∨ r.toInt = 1)) ∧ (r.toInt = 1 → (Ins Mf_7 Mv_9)) ∧ (r.toInt = 0 → (NIns Mf_7 Mv_9))) (fun (_ : Unit) => [(Ma_0, .inr (12, [.ref Ma_1, .int Mv_0, .int Mv_1, .ref Ma_2, .ref Ma_3, .ref Ma_4, .ref Ma_5, .ref Ma_6, .int Mv_2, .int Mv_3, .int Mv_4, .int Mv_5, .int Mv_6, .int Mv_7, .int Mv_8, .ref Ma_7, .int Mv_9, .ref Ma_8, .int Mv_10, .ref Ma_9, .ref Ma_10, .int Mv_11, .int Mv_12, .int Mv_13, .ref Ma_11, .int Mv_14, .ref Ma_12, .ref Ma_13, .ref Ma_14, .ref Ma_15, .ref Ma_16, .long Mj_0, .ref Ma_17, .ref Ma_18, .ref Ma_19, .ref Ma_20])), (Ma_7, .inl (tc 0, 400, .inl Mf_7))]) 0 0 :=
  ct_X12_isInside l D tc sk (fun k => ([Ma_0, Ma_1, Ma_2, Ma_3, Ma_4, Ma_5, Ma_6, Ma_7, Ma_8, Ma_9, Ma_10, Ma_11, Ma_12, Ma_13, Ma_14, Ma_15, Ma_16, Ma_17, Ma_18, Ma_19, Ma_20] : List (Nat)).getD k 0) (fun k => ([Mv_0, Mv_1, Mv_2, Mv_3, Mv_4, Mv_5, Mv_6, Mv_7, Mv_8, Mv_9, Mv_10, Mv_11, Mv_12, Mv_13, Mv_14] : List (Int32)).getD k 0) (fun k => ([(fun _ => 0), (fun _ => 0), (fun _ => 0), (fun _ => 0), (fun _ => 0), (fun _ => 0), (fun _ => 0), Mf_7] : List (Nat → Int32)).getD k (fun _ => 0)) (fun k => ([Mj_0] : List (Int64)).getD k 0) h_o
