theorem dX12_closes_0 : decode cX12_closes 0 = .ok (.aload_n 0, 1) := by decide +kernel
theorem dX12_closes_1 : decode cX12_closes 1 = .ok (.iconst 3, 1) := by decide +kernel
theorem dX12_closes_2 : decode cX12_closes 2 = .ok (.invokevirtual 193, 3) := by decide +kernel
theorem dX12_closes_5 : decode cX12_closes 5 = .ok (.aload_n 0, 1) := by decide +kernel
theorem dX12_closes_6 : decode cX12_closes 6 = .ok (.invokevirtual 90, 3) := by decide +kernel
theorem dX12_closes_9 : decode cX12_closes 9 = .ok (.bipush 93, 2) := by decide +kernel
theorem dX12_closes_11 : decode cX12_closes 11 = .ok (.if_icmp .ne 53, 3) := by decide +kernel
theorem dX12_closes_14 : decode cX12_closes 14 = .ok (.aload_n 0, 1) := by decide +kernel
theorem dX12_closes_15 : decode cX12_closes 15 = .ok (.invokevirtual 196, 3) := by decide +kernel
theorem dX12_closes_18 : decode cX12_closes 18 = .ok (.ifCond .eq 46, 3) := by decide +kernel
theorem dX12_closes_21 : decode cX12_closes 21 = .ok (.aload_n 0, 1) := by decide +kernel
theorem dX12_closes_22 : decode cX12_closes 22 = .ok (.iconst 1, 1) := by decide +kernel
theorem dX12_closes_23 : decode cX12_closes 23 = .ok (.invokevirtual 193, 3) := by decide +kernel
theorem dX12_closes_26 : decode cX12_closes 26 = .ok (.aload_n 0, 1) := by decide +kernel
theorem dX12_closes_27 : decode cX12_closes 27 = .ok (.dup, 1) := by decide +kernel
theorem dX12_closes_28 : decode cX12_closes 28 = .ok (.getfield 154, 3) := by decide +kernel
theorem dX12_closes_31 : decode cX12_closes 31 = .ok (.iconst 1, 1) := by decide +kernel
theorem dX12_closes_32 : decode cX12_closes 32 = .ok (.isub, 1) := by decide +kernel
theorem dX12_closes_33 : decode cX12_closes 33 = .ok (.putfield 154, 3) := by decide +kernel
theorem dX12_closes_36 : decode cX12_closes 36 = .ok (.aload_n 0, 1) := by decide +kernel
theorem dX12_closes_37 : decode cX12_closes 37 = .ok (.dup, 1) := by decide +kernel
theorem dX12_closes_38 : decode cX12_closes 38 = .ok (.getfield 151, 3) := by decide +kernel
theorem dX12_closes_41 : decode cX12_closes 41 = .ok (.iconst 1, 1) := by decide +kernel
theorem dX12_closes_42 : decode cX12_closes 42 = .ok (.isub, 1) := by decide +kernel
theorem dX12_closes_43 : decode cX12_closes 43 = .ok (.putfield 151, 3) := by decide +kernel
theorem dX12_closes_46 : decode cX12_closes 46 = .ok (.aload_n 0, 1) := by decide +kernel
theorem dX12_closes_47 : decode cX12_closes 47 = .ok (.dup, 1) := by decide +kernel
theorem dX12_closes_48 : decode cX12_closes 48 = .ok (.getfield 87, 3) := by decide +kernel
theorem dX12_closes_51 : decode cX12_closes 51 = .ok (.iconst 1, 1) := by decide +kernel
theorem dX12_closes_52 : decode cX12_closes 52 = .ok (.iadd, 1) := by decide +kernel
theorem dX12_closes_53 : decode cX12_closes 53 = .ok (.putfield 87, 3) := by decide +kernel
theorem dX12_closes_56 : decode cX12_closes 56 = .ok (.aload_n 0, 1) := by decide +kernel
theorem dX12_closes_57 : decode cX12_closes 57 = .ok (.iconst 3, 1) := by decide +kernel
theorem dX12_closes_58 : decode cX12_closes 58 = .ok (.invokevirtual 193, 3) := by decide +kernel
theorem dX12_closes_61 : decode cX12_closes 61 = .ok (.goto (-56), 3) := by decide +kernel
theorem dX12_closes_64 : decode cX12_closes 64 = .ok (.return_, 1) := by decide +kernel
theorem dX12_fact_0 : decode cX12_fact 0 = .ok (.iconst 1, 1) := by decide +kernel
theorem dX12_fact_1 : decode cX12_fact 1 = .ok (.istore_n 1, 1) := by decide +kernel
theorem dX12_fact_2 : decode cX12_fact 2 = .ok (.iload_n 1, 1) := by decide +kernel
theorem dX12_fact_3 : decode cX12_fact 3 = .ok (.ifCond .eq 72, 3) := by decide +kernel
theorem dX12_fact_6 : decode cX12_fact 6 = .ok (.iconst 0, 1) := by decide +kernel
theorem dX12_fact_7 : decode cX12_fact 7 = .ok (.istore_n 1, 1) := by decide +kernel
theorem dX12_fact_8 : decode cX12_fact 8 = .ok (.aload_n 0, 1) := by decide +kernel
theorem dX12_fact_9 : decode cX12_fact 9 = .ok (.invokevirtual 90, 3) := by decide +kernel
theorem dX12_fact_12 : decode cX12_fact 12 = .ok (.istore_n 2, 1) := by decide +kernel
theorem dX12_fact_13 : decode cX12_fact 13 = .ok (.aload_n 0, 1) := by decide +kernel
theorem dX12_fact_14 : decode cX12_fact 14 = .ok (.ldc2_w 185, 3) := by decide +kernel
theorem dX12_fact_17 : decode cX12_fact 17 = .ok (.invokevirtual 98, 3) := by decide +kernel
theorem dX12_fact_20 : decode cX12_fact 20 = .ok (.ifCond .eq 23, 3) := by decide +kernel
theorem dX12_fact_23 : decode cX12_fact 23 = .ok (.aload_n 0, 1) := by decide +kernel
theorem dX12_fact_24 : decode cX12_fact 24 = .ok (.bipush 11, 2) := by decide +kernel
theorem dX12_fact_26 : decode cX12_fact 26 = .ok (.invokevirtual 187, 3) := by decide +kernel
theorem dX12_fact_29 : decode cX12_fact 29 = .ok (.ifCond .ne 5, 3) := by decide +kernel
theorem dX12_fact_32 : decode cX12_fact 32 = .ok (.iconst 0, 1) := by decide +kernel
theorem dX12_fact_33 : decode cX12_fact 33 = .ok (.ireturn, 1) := by decide +kernel
theorem dX12_fact_34 : decode cX12_fact 34 = .ok (.aload_n 0, 1) := by decide +kernel
theorem dX12_fact_35 : decode cX12_fact 35 = .ok (.invokevirtual 102, 3) := by decide +kernel
theorem dX12_fact_38 : decode cX12_fact 38 = .ok (.iconst 1, 1) := by decide +kernel
theorem dX12_fact_39 : decode cX12_fact 39 = .ok (.istore_n 1, 1) := by decide +kernel
theorem dX12_fact_40 : decode cX12_fact 40 = .ok (.goto 32, 3) := by decide +kernel
theorem dX12_fact_43 : decode cX12_fact 43 = .ok (.iload_n 2, 1) := by decide +kernel
theorem dX12_fact_44 : decode cX12_fact 44 = .ok (.bipush 91, 2) := by decide +kernel
theorem dX12_fact_46 : decode cX12_fact 46 = .ok (.if_icmp .ne 26, 3) := by decide +kernel
theorem dX12_fact_49 : decode cX12_fact 49 = .ok (.aload_n 0, 1) := by decide +kernel
theorem dX12_fact_50 : decode cX12_fact 50 = .ok (.bipush 91, 2) := by decide +kernel
theorem dX12_fact_52 : decode cX12_fact 52 = .ok (.invokevirtual 187, 3) := by decide +kernel
theorem dX12_fact_55 : decode cX12_fact 55 = .ok (.ifCond .ne 5, 3) := by decide +kernel
theorem dX12_fact_58 : decode cX12_fact 58 = .ok (.iconst 0, 1) := by decide +kernel
theorem dX12_fact_59 : decode cX12_fact 59 = .ok (.ireturn, 1) := by decide +kernel
theorem dX12_fact_60 : decode cX12_fact 60 = .ok (.aload_n 0, 1) := by decide +kernel
theorem dX12_fact_61 : decode cX12_fact 61 = .ok (.dup, 1) := by decide +kernel
theorem dX12_fact_62 : decode cX12_fact 62 = .ok (.getfield 87, 3) := by decide +kernel
theorem dX12_fact_65 : decode cX12_fact 65 = .ok (.iconst 1, 1) := by decide +kernel
theorem dX12_fact_66 : decode cX12_fact 66 = .ok (.iadd, 1) := by decide +kernel
theorem dX12_fact_67 : decode cX12_fact 67 = .ok (.putfield 87, 3) := by decide +kernel
theorem dX12_fact_70 : decode cX12_fact 70 = .ok (.iconst 1, 1) := by decide +kernel
theorem dX12_fact_71 : decode cX12_fact 71 = .ok (.istore_n 1, 1) := by decide +kernel
theorem dX12_fact_72 : decode cX12_fact 72 = .ok (.goto (-70), 3) := by decide +kernel
theorem dX12_fact_75 : decode cX12_fact 75 = .ok (.aload_n 0, 1) := by decide +kernel
theorem dX12_fact_76 : decode cX12_fact 76 = .ok (.invokevirtual 190, 3) := by decide +kernel
theorem dX12_fact_79 : decode cX12_fact 79 = .ok (.ireturn, 1) := by decide +kernel
theorem dX12_isInside_0 : decode cX12_isInside 0 = .ok (.iconst 0, 1) := by decide +kernel
theorem dX12_isInside_1 : decode cX12_isInside 1 = .ok (.istore_n 1, 1) := by decide +kernel
theorem dX12_isInside_2 : decode cX12_isInside 2 = .ok (.iload_n 1, 1) := by decide +kernel
theorem dX12_isInside_3 : decode cX12_isInside 3 = .ok (.aload_n 0, 1) := by decide +kernel
theorem dX12_isInside_4 : decode cX12_isInside 4 = .ok (.getfield 154, 3) := by decide +kernel
theorem dX12_isInside_7 : decode cX12_isInside 7 = .ok (.if_icmp .ge 22, 3) := by decide +kernel
theorem dX12_isInside_10 : decode cX12_isInside 10 = .ok (.aload_n 0, 1) := by decide +kernel
theorem dX12_isInside_11 : decode cX12_isInside 11 = .ok (.getfield 29, 3) := by decide +kernel
theorem dX12_isInside_14 : decode cX12_isInside 14 = .ok (.iload_n 1, 1) := by decide +kernel
theorem dX12_isInside_15 : decode cX12_isInside 15 = .ok (.iaload, 1) := by decide +kernel
theorem dX12_isInside_16 : decode cX12_isInside 16 = .ok (.bipush 91, 2) := by decide +kernel
theorem dX12_isInside_18 : decode cX12_isInside 18 = .ok (.if_icmp .ne 5, 3) := by decide +kernel
theorem dX12_isInside_21 : decode cX12_isInside 21 = .ok (.iconst 1, 1) := by decide +kernel
theorem dX12_isInside_22 : decode cX12_isInside 22 = .ok (.ireturn, 1) := by decide +kernel
theorem dX12_isInside_23 : decode cX12_isInside 23 = .ok (.iinc 1 1, 3) := by decide +kernel
theorem dX12_isInside_26 : decode cX12_isInside 26 = .ok (.goto (-24), 3) := by decide +kernel
theorem dX12_isInside_29 : decode cX12_isInside 29 = .ok (.iconst 0, 1) := by decide +kernel
theorem dX12_isInside_30 : decode cX12_isInside 30 = .ok (.ireturn, 1) := by decide +kernel
theorem dX12_layDown_0 : decode cX12_layDown 0 = .ok (.aload_n 0, 1) := by decide +kernel
theorem dX12_layDown_1 : decode cX12_layDown 1 = .ok (.getfield 154, 3) := by decide +kernel
theorem dX12_layDown_4 : decode cX12_layDown 4 = .ok (.ifCond .le 72, 3) := by decide +kernel
theorem dX12_layDown_7 : decode cX12_layDown 7 = .ok (.aload_n 0, 1) := by decide +kernel
theorem dX12_layDown_8 : decode cX12_layDown 8 = .ok (.getfield 29, 3) := by decide +kernel
theorem dX12_layDown_11 : decode cX12_layDown 11 = .ok (.aload_n 0, 1) := by decide +kernel
theorem dX12_layDown_12 : decode cX12_layDown 12 = .ok (.getfield 154, 3) := by decide +kernel
theorem dX12_layDown_15 : decode cX12_layDown 15 = .ok (.iconst 1, 1) := by decide +kernel
theorem dX12_layDown_16 : decode cX12_layDown 16 = .ok (.isub, 1) := by decide +kernel
theorem dX12_layDown_17 : decode cX12_layDown 17 = .ok (.iaload, 1) := by decide +kernel
theorem dX12_layDown_18 : decode cX12_layDown 18 = .ok (.invokestatic 157, 3) := by decide +kernel
theorem dX12_layDown_21 : decode cX12_layDown 21 = .ok (.iload_n 1, 1) := by decide +kernel
theorem dX12_layDown_22 : decode cX12_layDown 22 = .ok (.if_icmp .lt 54, 3) := by decide +kernel
theorem dX12_layDown_25 : decode cX12_layDown 25 = .ok (.aload_n 0, 1) := by decide +kernel
theorem dX12_layDown_26 : decode cX12_layDown 26 = .ok (.dup, 1) := by decide +kernel
theorem dX12_layDown_27 : decode cX12_layDown 27 = .ok (.getfield 154, 3) := by decide +kernel
theorem dX12_layDown_30 : decode cX12_layDown 30 = .ok (.iconst 1, 1) := by decide +kernel
theorem dX12_layDown_31 : decode cX12_layDown 31 = .ok (.isub, 1) := by decide +kernel
theorem dX12_layDown_32 : decode cX12_layDown 32 = .ok (.putfield 154, 3) := by decide +kernel
theorem dX12_layDown_35 : decode cX12_layDown 35 = .ok (.aload_n 0, 1) := by decide +kernel
theorem dX12_layDown_36 : decode cX12_layDown 36 = .ok (.aload_n 0, 1) := by decide +kernel
theorem dX12_layDown_37 : decode cX12_layDown 37 = .ok (.getfield 29, 3) := by decide +kernel
theorem dX12_layDown_40 : decode cX12_layDown 40 = .ok (.aload_n 0, 1) := by decide +kernel
theorem dX12_layDown_41 : decode cX12_layDown 41 = .ok (.getfield 154, 3) := by decide +kernel
theorem dX12_layDown_44 : decode cX12_layDown 44 = .ok (.iaload, 1) := by decide +kernel
theorem dX12_layDown_45 : decode cX12_layDown 45 = .ok (.iconst 0, 1) := by decide +kernel
theorem dX12_layDown_46 : decode cX12_layDown 46 = .ok (.invokevirtual 161, 3) := by decide +kernel
theorem dX12_layDown_49 : decode cX12_layDown 49 = .ok (.aload_n 0, 1) := by decide +kernel
theorem dX12_layDown_50 : decode cX12_layDown 50 = .ok (.getfield 29, 3) := by decide +kernel
theorem dX12_layDown_53 : decode cX12_layDown 53 = .ok (.aload_n 0, 1) := by decide +kernel
theorem dX12_layDown_54 : decode cX12_layDown 54 = .ok (.getfield 154, 3) := by decide +kernel
theorem dX12_layDown_57 : decode cX12_layDown 57 = .ok (.iaload, 1) := by decide +kernel
theorem dX12_layDown_58 : decode cX12_layDown 58 = .ok (.bipush 11, 2) := by decide +kernel
theorem dX12_layDown_60 : decode cX12_layDown 60 = .ok (.if_icmp .ne (-60), 3) := by decide +kernel
theorem dX12_layDown_63 : decode cX12_layDown 63 = .ok (.aload_n 0, 1) := by decide +kernel
theorem dX12_layDown_64 : decode cX12_layDown 64 = .ok (.dup, 1) := by decide +kernel
theorem dX12_layDown_65 : decode cX12_layDown 65 = .ok (.getfield 151, 3) := by decide +kernel
theorem dX12_layDown_68 : decode cX12_layDown 68 = .ok (.iconst 1, 1) := by decide +kernel
theorem dX12_layDown_69 : decode cX12_layDown 69 = .ok (.isub, 1) := by decide +kernel
theorem dX12_layDown_70 : decode cX12_layDown 70 = .ok (.putfield 151, 3) := by decide +kernel
theorem dX12_layDown_73 : decode cX12_layDown 73 = .ok (.goto (-73), 3) := by decide +kernel
theorem dX12_layDown_76 : decode cX12_layDown 76 = .ok (.return_, 1) := by decide +kernel
theorem dX12_opens_0 : decode cX12_opens 0 = .ok (.aload_n 0, 1) := by decide +kernel
theorem dX12_opens_1 : decode cX12_opens 1 = .ok (.getfield 151, 3) := by decide +kernel
theorem dX12_opens_4 : decode cX12_opens 4 = .ok (.bipush 10, 2) := by decide +kernel
theorem dX12_opens_6 : decode cX12_opens 6 = .ok (.if_icmp .ne 13, 3) := by decide +kernel
theorem dX12_opens_9 : decode cX12_opens 9 = .ok (.aload_n 0, 1) := by decide +kernel
theorem dX12_opens_10 : decode cX12_opens 10 = .ok (.iconst 2, 1) := by decide +kernel
theorem dX12_opens_11 : decode cX12_opens 11 = .ok (.aload_n 0, 1) := by decide +kernel
theorem dX12_opens_12 : decode cX12_opens 12 = .ok (.getfield 87, 3) := by decide +kernel
theorem dX12_opens_15 : decode cX12_opens 15 = .ok (.invokevirtual 108, 3) := by decide +kernel
theorem dX12_opens_18 : decode cX12_opens 18 = .ok (.ireturn, 1) := by decide +kernel
theorem dX12_opens_19 : decode cX12_opens 19 = .ok (.aload_n 0, 1) := by decide +kernel
theorem dX12_opens_20 : decode cX12_opens 20 = .ok (.dup, 1) := by decide +kernel
theorem dX12_opens_21 : decode cX12_opens 21 = .ok (.getfield 151, 3) := by decide +kernel
theorem dX12_opens_24 : decode cX12_opens 24 = .ok (.iconst 1, 1) := by decide +kernel
theorem dX12_opens_25 : decode cX12_opens 25 = .ok (.iadd, 1) := by decide +kernel
theorem dX12_opens_26 : decode cX12_opens 26 = .ok (.putfield 151, 3) := by decide +kernel
theorem dX12_opens_29 : decode cX12_opens 29 = .ok (.aload_n 0, 1) := by decide +kernel
theorem dX12_opens_30 : decode cX12_opens 30 = .ok (.getfield 29, 3) := by decide +kernel
theorem dX12_opens_33 : decode cX12_opens 33 = .ok (.aload_n 0, 1) := by decide +kernel
theorem dX12_opens_34 : decode cX12_opens 34 = .ok (.getfield 154, 3) := by decide +kernel
theorem dX12_opens_37 : decode cX12_opens 37 = .ok (.iload_n 1, 1) := by decide +kernel
theorem dX12_opens_38 : decode cX12_opens 38 = .ok (.iastore, 1) := by decide +kernel
theorem dX12_opens_39 : decode cX12_opens 39 = .ok (.aload_n 0, 1) := by decide +kernel
theorem dX12_opens_40 : decode cX12_opens 40 = .ok (.dup, 1) := by decide +kernel
theorem dX12_opens_41 : decode cX12_opens 41 = .ok (.getfield 154, 3) := by decide +kernel
theorem dX12_opens_44 : decode cX12_opens 44 = .ok (.iconst 1, 1) := by decide +kernel
theorem dX12_opens_45 : decode cX12_opens 45 = .ok (.iadd, 1) := by decide +kernel
theorem dX12_opens_46 : decode cX12_opens 46 = .ok (.putfield 154, 3) := by decide +kernel
theorem dX12_opens_49 : decode cX12_opens 49 = .ok (.iconst 1, 1) := by decide +kernel
theorem dX12_opens_50 : decode cX12_opens 50 = .ok (.ireturn, 1) := by decide +kernel
theorem dX12_strength_0 : decode cX12_strength 0 = .ok (.iload_n 0, 1) := by decide +kernel
theorem dX12_strength_1 : decode cX12_strength 1 = .ok (.bipush 13, 2) := by decide +kernel
theorem dX12_strength_3 : decode cX12_strength 3 = .ok (.if_icmp .ne 7, 3) := by decide +kernel
theorem dX12_strength_6 : decode cX12_strength 6 = .ok (.iconst 1, 1) := by decide +kernel
theorem dX12_strength_7 : decode cX12_strength 7 = .ok (.goto 24, 3) := by decide +kernel
theorem dX12_strength_10 : decode cX12_strength 10 = .ok (.iload_n 0, 1) := by decide +kernel
theorem dX12_strength_11 : decode cX12_strength 11 = .ok (.bipush 12, 2) := by decide +kernel
theorem dX12_strength_13 : decode cX12_strength 13 = .ok (.if_icmp .ne 7, 3) := by decide +kernel
theorem dX12_strength_16 : decode cX12_strength 16 = .ok (.iconst 2, 1) := by decide +kernel
theorem dX12_strength_17 : decode cX12_strength 17 = .ok (.goto 14, 3) := by decide +kernel
theorem dX12_strength_20 : decode cX12_strength 20 = .ok (.iload_n 0, 1) := by decide +kernel
theorem dX12_strength_21 : decode cX12_strength 21 = .ok (.bipush 11, 2) := by decide +kernel
theorem dX12_strength_23 : decode cX12_strength 23 = .ok (.if_icmp .ne 7, 3) := by decide +kernel
theorem dX12_strength_26 : decode cX12_strength 26 = .ok (.iconst 3, 1) := by decide +kernel
theorem dX12_strength_27 : decode cX12_strength 27 = .ok (.goto 4, 3) := by decide +kernel
theorem dX12_strength_30 : decode cX12_strength 30 = .ok (.iconst 0, 1) := by decide +kernel
theorem dX12_strength_31 : decode cX12_strength 31 = .ok (.ireturn, 1) := by decide +kernel
theorem dX12_tested_0 : decode cX12_tested 0 = .ok (.aload_n 0, 1) := by decide +kernel
theorem dX12_tested_1 : decode cX12_tested 1 = .ok (.iconst 0, 1) := by decide +kernel
theorem dX12_tested_2 : decode cX12_tested 2 = .ok (.putfield 154, 3) := by decide +kernel
theorem dX12_tested_5 : decode cX12_tested 5 = .ok (.aload_n 0, 1) := by decide +kernel
theorem dX12_tested_6 : decode cX12_tested 6 = .ok (.iconst 0, 1) := by decide +kernel
theorem dX12_tested_7 : decode cX12_tested 7 = .ok (.putfield 151, 3) := by decide +kernel
theorem dX12_tested_10 : decode cX12_tested 10 = .ok (.iconst 1, 1) := by decide +kernel
theorem dX12_tested_11 : decode cX12_tested 11 = .ok (.istore_n 1, 1) := by decide +kernel
theorem dX12_tested_12 : decode cX12_tested 12 = .ok (.iload_n 1, 1) := by decide +kernel
theorem dX12_tested_13 : decode cX12_tested 13 = .ok (.ifCond .eq 99, 3) := by decide +kernel
theorem dX12_tested_16 : decode cX12_tested 16 = .ok (.aload_n 0, 1) := by decide +kernel
theorem dX12_tested_17 : decode cX12_tested 17 = .ok (.invokevirtual 199, 3) := by decide +kernel
theorem dX12_tested_20 : decode cX12_tested 20 = .ok (.ifCond .ne 5, 3) := by decide +kernel
theorem dX12_tested_23 : decode cX12_tested 23 = .ok (.iconst 0, 1) := by decide +kernel
theorem dX12_tested_24 : decode cX12_tested 24 = .ok (.ireturn, 1) := by decide +kernel
theorem dX12_tested_25 : decode cX12_tested 25 = .ok (.aload_n 0, 1) := by decide +kernel
theorem dX12_tested_26 : decode cX12_tested 26 = .ok (.invokevirtual 202, 3) := by decide +kernel
theorem dX12_tested_29 : decode cX12_tested 29 = .ok (.aload_n 0, 1) := by decide +kernel
theorem dX12_tested_30 : decode cX12_tested 30 = .ok (.ldc2_w 205, 3) := by decide +kernel
theorem dX12_tested_33 : decode cX12_tested 33 = .ok (.invokevirtual 98, 3) := by decide +kernel
theorem dX12_tested_36 : decode cX12_tested 36 = .ok (.ifCond .ne 13, 3) := by decide +kernel
theorem dX12_tested_39 : decode cX12_tested 39 = .ok (.aload_n 0, 1) := by decide +kernel
theorem dX12_tested_40 : decode cX12_tested 40 = .ok (.ldc2_w 207, 3) := by decide +kernel
theorem dX12_tested_43 : decode cX12_tested 43 = .ok (.invokevirtual 98, 3) := by decide +kernel
theorem dX12_tested_46 : decode cX12_tested 46 = .ok (.ifCond .eq 7, 3) := by decide +kernel
theorem dX12_tested_49 : decode cX12_tested 49 = .ok (.iconst 1, 1) := by decide +kernel
theorem dX12_tested_50 : decode cX12_tested 50 = .ok (.goto 4, 3) := by decide +kernel
theorem dX12_tested_53 : decode cX12_tested 53 = .ok (.iconst 0, 1) := by decide +kernel
theorem dX12_tested_54 : decode cX12_tested 54 = .ok (.istore_n 1, 1) := by decide +kernel
theorem dX12_tested_55 : decode cX12_tested 55 = .ok (.iload_n 1, 1) := by decide +kernel
theorem dX12_tested_56 : decode cX12_tested 56 = .ok (.ifCond .eq (-44), 3) := by decide +kernel
theorem dX12_tested_59 : decode cX12_tested 59 = .ok (.aload_n 0, 1) := by decide +kernel
theorem dX12_tested_60 : decode cX12_tested 60 = .ok (.ldc2_w 205, 3) := by decide +kernel
theorem dX12_tested_63 : decode cX12_tested 63 = .ok (.invokevirtual 98, 3) := by decide +kernel
theorem dX12_tested_66 : decode cX12_tested 66 = .ok (.ifCond .eq 8, 3) := by decide +kernel
theorem dX12_tested_69 : decode cX12_tested 69 = .ok (.bipush 12, 2) := by decide +kernel
theorem dX12_tested_71 : decode cX12_tested 71 = .ok (.goto 5, 3) := by decide +kernel
theorem dX12_tested_74 : decode cX12_tested 74 = .ok (.bipush 13, 2) := by decide +kernel
theorem dX12_tested_76 : decode cX12_tested 76 = .ok (.istore_n 2, 1) := by decide +kernel
theorem dX12_tested_77 : decode cX12_tested 77 = .ok (.aload_n 0, 1) := by decide +kernel
theorem dX12_tested_78 : decode cX12_tested 78 = .ok (.invokevirtual 102, 3) := by decide +kernel
theorem dX12_tested_81 : decode cX12_tested 81 = .ok (.aload_n 0, 1) := by decide +kernel
theorem dX12_tested_82 : decode cX12_tested 82 = .ok (.iload_n 2, 1) := by decide +kernel
theorem dX12_tested_83 : decode cX12_tested 83 = .ok (.invokestatic 157, 3) := by decide +kernel
theorem dX12_tested_86 : decode cX12_tested 86 = .ok (.invokevirtual 193, 3) := by decide +kernel
theorem dX12_tested_89 : decode cX12_tested 89 = .ok (.aload_n 0, 1) := by decide +kernel
theorem dX12_tested_90 : decode cX12_tested 90 = .ok (.getfield 29, 3) := by decide +kernel
theorem dX12_tested_93 : decode cX12_tested 93 = .ok (.aload_n 0, 1) := by decide +kernel
theorem dX12_tested_94 : decode cX12_tested 94 = .ok (.getfield 154, 3) := by decide +kernel
theorem dX12_tested_97 : decode cX12_tested 97 = .ok (.iload_n 2, 1) := by decide +kernel
theorem dX12_tested_98 : decode cX12_tested 98 = .ok (.iastore, 1) := by decide +kernel
theorem dX12_tested_99 : decode cX12_tested 99 = .ok (.aload_n 0, 1) := by decide +kernel
theorem dX12_tested_100 : decode cX12_tested 100 = .ok (.dup, 1) := by decide +kernel
theorem dX12_tested_101 : decode cX12_tested 101 = .ok (.getfield 154, 3) := by decide +kernel
theorem dX12_tested_104 : decode cX12_tested 104 = .ok (.iconst 1, 1) := by decide +kernel
theorem dX12_tested_105 : decode cX12_tested 105 = .ok (.iadd, 1) := by decide +kernel
theorem dX12_tested_106 : decode cX12_tested 106 = .ok (.putfield 154, 3) := by decide +kernel
theorem dX12_tested_109 : decode cX12_tested 109 = .ok (.goto (-97), 3) := by decide +kernel
theorem dX12_tested_112 : decode cX12_tested 112 = .ok (.aload_n 0, 1) := by decide +kernel
theorem dX12_tested_113 : decode cX12_tested 113 = .ok (.invokevirtual 196, 3) := by decide +kernel
theorem dX12_tested_116 : decode cX12_tested 116 = .ok (.ifCond .eq 18, 3) := by decide +kernel
theorem dX12_tested_119 : decode cX12_tested 119 = .ok (.aload_n 0, 1) := by decide +kernel
theorem dX12_tested_120 : decode cX12_tested 120 = .ok (.invokevirtual 90, 3) := by decide +kernel
theorem dX12_tested_123 : decode cX12_tested 123 = .ok (.pop, 1) := by decide +kernel
theorem dX12_tested_124 : decode cX12_tested 124 = .ok (.aload_n 0, 1) := by decide +kernel
theorem dX12_tested_125 : decode cX12_tested 125 = .ok (.iconst 0, 1) := by decide +kernel
theorem dX12_tested_126 : decode cX12_tested 126 = .ok (.aload_n 0, 1) := by decide +kernel
theorem dX12_tested_127 : decode cX12_tested 127 = .ok (.getfield 87, 3) := by decide +kernel
theorem dX12_tested_130 : decode cX12_tested 130 = .ok (.invokevirtual 108, 3) := by decide +kernel
theorem dX12_tested_133 : decode cX12_tested 133 = .ok (.ireturn, 1) := by decide +kernel
theorem dX12_tested_134 : decode cX12_tested 134 = .ok (.aload_n 0, 1) := by decide +kernel
theorem dX12_tested_135 : decode cX12_tested 135 = .ok (.iconst 1, 1) := by decide +kernel
theorem dX12_tested_136 : decode cX12_tested 136 = .ok (.invokevirtual 193, 3) := by decide +kernel
theorem dX12_tested_139 : decode cX12_tested 139 = .ok (.iconst 1, 1) := by decide +kernel
theorem dX12_tested_140 : decode cX12_tested 140 = .ok (.ireturn, 1) := by decide +kernel
set_option maxHeartbeats 4000000 in
set_option maxRecDepth 100000 in
theorem ct_X12_opens (l : Launch) (D : va_G) (tc : Nat → ClassId) (sk : (Nat → Nat) × (Nat → Nat)) (Ma : Nat → Nat) (Mv : Nat → Int32) (Mf : Nat → Nat → Int32) (Mj : Nat → Int64) (x1 : Int32) (p : Nat) (h_nx : 0 ≤ ((Mv 2) : Int32).toInt ∧ ((Mv 2) : Int32).toInt ≤ ((Mv 0) : Int32).toInt ∧ ((Mv 0) : Int32).toInt ≤ 400) (h_ops : OpS (Mf 7) (Mv 9) p) (h_o : ((Mv 9) : Int32).toInt < 400) (h_w : x1.toInt = 11 ∨ x1.toInt = 91) : Ct l yX12_opens cX12_opens 2 (some .boolean) { frames := 1, cells := 0, slots := 0, locals := 22 } D tc sk [.ref (Ma 0), .int x1] [((Ma 0), .inr (12, [.ref (Ma 1), .int (Mv 0), .int (Mv 1), .ref (Ma 2), .ref (Ma 3), .ref (Ma 4), .ref (Ma 5), .ref (Ma 6), .int (Mv 2), .int (Mv 3), .int (Mv 4), .int (Mv 5), .int (Mv 6), .int (Mv 7), .int (Mv 8), .ref (Ma 7), .int (Mv 9), .ref (Ma 8), .int (Mv 10), .ref (Ma 9), .ref (Ma 10), .int (Mv 11), .int (Mv 12), .int (Mv 13), .ref (Ma 11), .int (Mv 14), .ref (Ma 12), .ref (Ma 13), .ref (Ma 14), .ref (Ma 15), .ref (Ma 16), .long (Mj 0), .ref (Ma 17), .ref (Ma 18), .ref (Ma 19), .ref (Ma 20)])), ((Ma 7), .inl (tc 0, 400, .inl (Mf 7)))] (fun (v : Option Value) (u : (Int32) × (Int32) × (Int32) × (Nat → Int32)) => match u with | (oo0x1, oo0x2, oo0x3, oo0x4) => ∃ r : Int32, v = some (.int r) ∧ (((r.toInt = 0 ∧ ¬ (oo0x1 : Int32).toInt = 0) ∨ (r.toInt = 1 ∧ (oo0x3 : Int32).toInt = ((Mv 9) : Int32).toInt + 1))) ∧ (r.toInt = 1 → (OpS oo0x4 oo0x3 p))) (fun (u : (Int32) × (Int32) × (Int32) × (Nat → Int32)) => match u with | (oo0x1, oo0x2, oo0x3, oo0x4) => [((Ma 0), .inr (12, [.ref (Ma 1), .int (Mv 0), .int (Mv 1), .ref (Ma 2), .ref (Ma 3), .ref (Ma 4), .ref (Ma 5), .ref (Ma 6), .int (Mv 2), .int oo0x1, .int (Mv 4), .int (Mv 5), .int (Mv 6), .int oo0x2, .int (Mv 8), .ref (Ma 7), .int oo0x3, .ref (Ma 8), .int (Mv 10), .ref (Ma 9), .ref (Ma 10), .int (Mv 11), .int (Mv 12), .int (Mv 13), .ref (Ma 11), .int (Mv 14), .ref (Ma 12), .ref (Ma 13), .ref (Ma 14), .ref (Ma 15), .ref (Ma 16), .long (Mj 0), .ref (Ma 17), .ref (Ma 18), .ref (Ma 19), .ref (Ma 20)])), ((Ma 7), .inl (tc 0, 400, .inl oo0x4))]) 0 0 := by
  refine Ct.start (by decide) (Nat.le_of_ble_eq_true rfl) (fun p e s m below meth c A ls hx hb hr hlk hin hml hown hts hK hX hP hD hA hl hS => ?_)
  have hl : lv_has ls 2 [(0, .ref (Ma 0)), (1, .int x1)] := hl
  have ar_h_ops := OpS.ar h_ops
  refine lv_aload_n hx hb dX12_opens_0 rfl (lv_at hl 0 rfl) ?_
  refine gf_X12_151 hx hb hts hown hK hP 0 rfl rfl dX12_opens_1 ?_
  refine lv_bipush (v := 10) hx hb dX12_opens_4 (by decide) ?_
  refine lv_icmp_ne (tgt := 19) hx hb dX12_opens_6 (by decide) (fun c_1 => ?_) (fun c_1 => ?_)
  · skip
    refine lv_aload_n hx hb dX12_opens_19 rfl (lv_at hl 0 rfl) ?_
    refine lv_dup hx hb dX12_opens_20 rfl ?_
    refine gf_X12_151 hx hb hts hown hK hP 0 rfl rfl dX12_opens_21 ?_
    refine lv_iconst (v := 1) hx hb dX12_opens_24 (by decide) ?_
    refine lv_iadd hx hb dX12_opens_25 ?_
    refine lv_topi (fun x_2 ex_2 => ?_)
    refine pf_X12_151 hx hb hts hown hK hP hD hS 0 rfl (Nat.le_of_ble_eq_true rfl) rfl rfl dX12_opens_26 (fun H locs hP hD hS => ?_)
    have hP : va_P D classes [((Ma 0), .inr (12, [.ref (Ma 1), .int (Mv 0), .int (Mv 1), .ref (Ma 2), .ref (Ma 3), .ref (Ma 4), .ref (Ma 5), .ref (Ma 6), .int (Mv 2), .int (Mv 3), .int (Mv 4), .int (Mv 5), .int (Mv 6), .int x_2, .int (Mv 8), .ref (Ma 7), .int (Mv 9), .ref (Ma 8), .int (Mv 10), .ref (Ma 9), .ref (Ma 10), .int (Mv 11), .int (Mv 12), .int (Mv 13), .ref (Ma 11), .int (Mv 14), .ref (Ma 12), .ref (Ma 13), .ref (Ma 14), .ref (Ma 15), .ref (Ma 16), .long (Mj 0), .ref (Ma 17), .ref (Ma 18), .ref (Ma 19), .ref (Ma 20)])), ((Ma 7), .inl (tc 0, 400, .inl (Mf 7)))] H := hP
    have hD : va_D A [((Ma 0), .inr (12, [.ref (Ma 1), .int (Mv 0), .int (Mv 1), .ref (Ma 2), .ref (Ma 3), .ref (Ma 4), .ref (Ma 5), .ref (Ma 6), .int (Mv 2), .int (Mv 3), .int (Mv 4), .int (Mv 5), .int (Mv 6), .int x_2, .int (Mv 8), .ref (Ma 7), .int (Mv 9), .ref (Ma 8), .int (Mv 10), .ref (Ma 9), .ref (Ma 10), .int (Mv 11), .int (Mv 12), .int (Mv 13), .ref (Ma 11), .int (Mv 14), .ref (Ma 12), .ref (Ma 13), .ref (Ma 14), .ref (Ma 15), .ref (Ma 16), .long (Mj 0), .ref (Ma 17), .ref (Ma 18), .ref (Ma 19), .ref (Ma 20)])), ((Ma 7), .inl (tc 0, 400, .inl (Mf 7)))] := hD
    refine lv_aload_n hx hb dX12_opens_29 rfl (lv_at hl 0 rfl) ?_
    refine gf_X12_29 hx hb hts hown hK hP 0 rfl rfl dX12_opens_30 ?_
    refine lv_aload_n hx hb dX12_opens_33 rfl (lv_at hl 0 rfl) ?_
    refine gf_X12_154 hx hb hts hown hK hP 0 rfl rfl dX12_opens_34 ?_
    refine lv_iload_n hx hb dX12_opens_37 rfl (lv_at hl 1 rfl) ?_
    have hi_3 : vp_in (Mv 9) 400 := by
      have z_1 : ¬ ((Mv 7) : Int32).toInt = (10 : Int32).toInt := fun z => c_1 (Int32.toInt_inj.mp z)
      have y_10 : (10 : Int32).toInt = 10 := by decide
      refine vp_in_iff.mpr ⟨?_, ?_⟩ <;> omega
    refine st_int hx hb hK hP hD hS 1 0 rfl rfl hi_3 dX12_opens_38 (fun g_4 H locs eg_4 hP hD hS => ?_)
    have hP : va_P D classes [((Ma 0), .inr (12, [.ref (Ma 1), .int (Mv 0), .int (Mv 1), .ref (Ma 2), .ref (Ma 3), .ref (Ma 4), .ref (Ma 5), .ref (Ma 6), .int (Mv 2), .int (Mv 3), .int (Mv 4), .int (Mv 5), .int (Mv 6), .int x_2, .int (Mv 8), .ref (Ma 7), .int (Mv 9), .ref (Ma 8), .int (Mv 10), .ref (Ma 9), .ref (Ma 10), .int (Mv 11), .int (Mv 12), .int (Mv 13), .ref (Ma 11), .int (Mv 14), .ref (Ma 12), .ref (Ma 13), .ref (Ma 14), .ref (Ma 15), .ref (Ma 16), .long (Mj 0), .ref (Ma 17), .ref (Ma 18), .ref (Ma 19), .ref (Ma 20)])), ((Ma 7), .inl (tc 0, 400, .inl g_4))] H := hP
    have hD : va_D A [((Ma 0), .inr (12, [.ref (Ma 1), .int (Mv 0), .int (Mv 1), .ref (Ma 2), .ref (Ma 3), .ref (Ma 4), .ref (Ma 5), .ref (Ma 6), .int (Mv 2), .int (Mv 3), .int (Mv 4), .int (Mv 5), .int (Mv 6), .int x_2, .int (Mv 8), .ref (Ma 7), .int (Mv 9), .ref (Ma 8), .int (Mv 10), .ref (Ma 9), .ref (Ma 10), .int (Mv 11), .int (Mv 12), .int (Mv 13), .ref (Ma 11), .int (Mv 14), .ref (Ma 12), .ref (Ma 13), .ref (Ma 14), .ref (Ma 15), .ref (Ma 16), .long (Mj 0), .ref (Ma 17), .ref (Ma 18), .ref (Ma 19), .ref (Ma 20)])), ((Ma 7), .inl (tc 0, 400, .inl g_4))] := hD
    refine lv_aload_n hx hb dX12_opens_39 rfl (lv_at hl 0 rfl) ?_
    refine lv_dup hx hb dX12_opens_40 rfl ?_
    refine gf_X12_154 hx hb hts hown hK hP 0 rfl rfl dX12_opens_41 ?_
    refine lv_iconst (v := 1) hx hb dX12_opens_44 (by decide) ?_
    refine lv_iadd hx hb dX12_opens_45 ?_
    refine lv_topi (fun x_5 ex_5 => ?_)
    refine pf_X12_154 hx hb hts hown hK hP hD hS 0 rfl (Nat.le_of_ble_eq_true rfl) rfl rfl dX12_opens_46 (fun H locs hP hD hS => ?_)
    have hP : va_P D classes [((Ma 0), .inr (12, [.ref (Ma 1), .int (Mv 0), .int (Mv 1), .ref (Ma 2), .ref (Ma 3), .ref (Ma 4), .ref (Ma 5), .ref (Ma 6), .int (Mv 2), .int (Mv 3), .int (Mv 4), .int (Mv 5), .int (Mv 6), .int x_2, .int (Mv 8), .ref (Ma 7), .int x_5, .ref (Ma 8), .int (Mv 10), .ref (Ma 9), .ref (Ma 10), .int (Mv 11), .int (Mv 12), .int (Mv 13), .ref (Ma 11), .int (Mv 14), .ref (Ma 12), .ref (Ma 13), .ref (Ma 14), .ref (Ma 15), .ref (Ma 16), .long (Mj 0), .ref (Ma 17), .ref (Ma 18), .ref (Ma 19), .ref (Ma 20)])), ((Ma 7), .inl (tc 0, 400, .inl g_4))] H := hP
    have hD : va_D A [((Ma 0), .inr (12, [.ref (Ma 1), .int (Mv 0), .int (Mv 1), .ref (Ma 2), .ref (Ma 3), .ref (Ma 4), .ref (Ma 5), .ref (Ma 6), .int (Mv 2), .int (Mv 3), .int (Mv 4), .int (Mv 5), .int (Mv 6), .int x_2, .int (Mv 8), .ref (Ma 7), .int x_5, .ref (Ma 8), .int (Mv 10), .ref (Ma 9), .ref (Ma 10), .int (Mv 11), .int (Mv 12), .int (Mv 13), .ref (Ma 11), .int (Mv 14), .ref (Ma 12), .ref (Ma 13), .ref (Ma 14), .ref (Ma 15), .ref (Ma 16), .long (Mj 0), .ref (Ma 17), .ref (Ma 18), .ref (Ma 19), .ref (Ma 20)])), ((Ma 7), .inl (tc 0, 400, .inl g_4))] := hD
    refine lv_iconst (v := 1) hx hb dX12_opens_49 (by decide) ?_
    have hp_6 : (((1 : Int32).toInt = 0 ∧ ¬ ((Mv 3) : Int32).toInt = 0) ∨ ((1 : Int32).toInt = 1 ∧ (x_5 : Int32).toInt = ((Mv 9) : Int32).toInt + 1)) := by
      have z_1 : ¬ ((Mv 7) : Int32).toInt = (10 : Int32).toInt := fun z => c_1 (Int32.toInt_inj.mp z)
      have y_10 : (10 : Int32).toInt = 10 := by decide
      have y_1 : (1 : Int32).toInt = 1 := by decide
      have t_x_5 : x_5.toInt = ((Mv 9) : Int32).toInt + (1 : Int32).toInt := by rw [ex_5]; exact add_toInt (by omega) (by omega)
      have yr : (1 : Int32).toInt = 1 := by decide
      omega
    have hm_7 : (1 : Int32).toInt = 1 → (OpS g_4 x_5 p) := by
      intro h1r
      have hi_10 : (x_5 : Int32).toInt = ((Mv 9) : Int32).toInt + 1 := by
        have z_1 : ¬ ((Mv 7) : Int32).toInt = (10 : Int32).toInt := fun z => c_1 (Int32.toInt_inj.mp z)
        have y_10 : (10 : Int32).toInt = 10 := by decide
        have y_1 : (1 : Int32).toInt = 1 := by decide
        have t_x_5 : x_5.toInt = ((Mv 9) : Int32).toInt + (1 : Int32).toInt := by rw [ex_5]; exact add_toInt (by omega) (by omega)
        omega
      have hr_11 : ((Mv 9) : Int32).toInt < 400 := by
        have z_1 : ¬ ((Mv 7) : Int32).toInt = (10 : Int32).toInt := fun z => c_1 (Int32.toInt_inj.mp z)
        have y_10 : (10 : Int32).toInt = 10 := by decide
        omega
      have hr_12 : (x1 : Int32).toInt = 11 ∨ (x1 : Int32).toInt = 12 ∨ (x1 : Int32).toInt = 13 ∨ (x1 : Int32).toInt = 91 := by
        have z_1 : ¬ ((Mv 7) : Int32).toInt = (10 : Int32).toInt := fun z => c_1 (Int32.toInt_inj.mp z)
        have y_10 : (10 : Int32).toInt = 10 := by decide
        omega
      have hq_9 := OpS.push h_ops eg_4 hi_10 hr_11 hr_12
      have hr_13 : ¬ ((x1 : Int32).toInt = 12 ∨ (x1 : Int32).toInt = 13) := by
        have z_1 : ¬ ((Mv 7) : Int32).toInt = (10 : Int32).toInt := fun z => c_1 (Int32.toInt_inj.mp z)
        have y_10 : (10 : Int32).toInt = 10 := by decide
        omega
      rw [if_neg hr_13] at hq_9
      have ha_8 : OpS g_4 x_5 p := hq_9
      exact ha_8
    exact retI (v := 1) hx hb hr hlk (rfl) hP hD hS ((Mv 3), x_2, x_5, g_4) ⟨_, rfl, hp_6, hm_7⟩ [0, 1] rfl rfl dX12_opens_50 (Nat.le_of_ble_eq_true rfl) (Nat.le_of_ble_eq_true rfl) rfl
  · skip
    refine lv_aload_n hx hb dX12_opens_9 rfl (lv_at hl 0 rfl) ?_
    refine lv_iconst (v := 2) hx hb dX12_opens_10 (by decide) ?_
    refine lv_aload_n hx hb dX12_opens_11 rfl (lv_at hl 0 rfl) ?_
    refine gf_X12_87 hx hb hts hown hK hP 0 rfl rfl dX12_opens_12 ?_
    have ha_14 : 0 ≤ (2 : Int32).toInt ∧ (2 : Int32).toInt ≤ 4 := by
      have z_1 := congrArg Int32.toInt c_1
      have y_10 : (10 : Int32).toInt = 10 := by decide
      have y_2 : (2 : Int32).toInt = 2 := by decide
      refine ⟨?_, ?_⟩ <;> omega
    have ha_15 : 0 ≤ (Mv 2).toInt ∧ (Mv 2).toInt ≤ 400 := by
      have z_1 := congrArg Int32.toInt c_1
      have y_10 : (10 : Int32).toInt = 10 := by decide
      refine ⟨?_, ?_⟩ <;> omega
    refine cV (a := (Ma 0)) (As := [.int 2, .int (Mv 2)]) (rest := []) (wr := [((Ma 7), .inl (tc 0, 400, .inl (Mf 7)))]) ⟨hx, hb, hml, hown, hts⟩ hK hX hA (ct_X12_fails l D tc sk Ma Mv Mj 2 (Mv 2) ha_14 ha_15) k_1232 k_1229 k_1231 k_31 k_106 pl_X12_fails ⟨Nat.le_of_ble_eq_true rfl, Nat.le_of_ble_eq_true rfl⟩ rfl rfl (va_recv hK hP (ci := 12) (q0 := 0) rfl rfl) hP hD hS [0] [1] rfl rfl rfl rfl rfl (by decide) rfl hl.1 rfl (Nat.le_of_ble_eq_true rfl) dX12_opens_15 ⟨Nat.le_of_ble_eq_true rfl, Nat.le_of_ble_eq_true rfl⟩ (fun v_16 u_17 H locs hv_18 hP hD hS => ?_)
    obtain ⟨sv_19, rfl⟩ : ∃ z, z = u_17 := ⟨_, rfl⟩
    obtain ⟨r_21, rfl, he_22, pf_20⟩ := hv_18
    have he_22 : r_21.toInt = 0 := he_22
    have pf_20 : ¬ (sv_19 : Int32).toInt = 0 := pf_20
    refine W.eq (g2 := F0 m 18 ls [.int r_21]) rfl ?_
    have hP : va_P D classes [((Ma 7), .inl (tc 0, 400, .inl (Mf 7))), ((Ma 0), .inr (12, [.ref (Ma 1), .int (Mv 0), .int (Mv 1), .ref (Ma 2), .ref (Ma 3), .ref (Ma 4), .ref (Ma 5), .ref (Ma 6), .int (Mv 2), .int sv_19, .int (Mv 4), .int (Mv 5), .int (Mv 6), .int (Mv 7), .int (Mv 8), .ref (Ma 7), .int (Mv 9), .ref (Ma 8), .int (Mv 10), .ref (Ma 9), .ref (Ma 10), .int (Mv 11), .int (Mv 12), .int (Mv 13), .ref (Ma 11), .int (Mv 14), .ref (Ma 12), .ref (Ma 13), .ref (Ma 14), .ref (Ma 15), .ref (Ma 16), .long (Mj 0), .ref (Ma 17), .ref (Ma 18), .ref (Ma 19), .ref (Ma 20)]))] H := hP
    have hD : va_D A [((Ma 7), .inl (tc 0, 400, .inl (Mf 7))), ((Ma 0), .inr (12, [.ref (Ma 1), .int (Mv 0), .int (Mv 1), .ref (Ma 2), .ref (Ma 3), .ref (Ma 4), .ref (Ma 5), .ref (Ma 6), .int (Mv 2), .int sv_19, .int (Mv 4), .int (Mv 5), .int (Mv 6), .int (Mv 7), .int (Mv 8), .ref (Ma 7), .int (Mv 9), .ref (Ma 8), .int (Mv 10), .ref (Ma 9), .ref (Ma 10), .int (Mv 11), .int (Mv 12), .int (Mv 13), .ref (Ma 11), .int (Mv 14), .ref (Ma 12), .ref (Ma 13), .ref (Ma 14), .ref (Ma 15), .ref (Ma 16), .long (Mj 0), .ref (Ma 17), .ref (Ma 18), .ref (Ma 19), .ref (Ma 20)]))] := hD
    have hb_24 : (r_21 : Int32).toInt = 0 ∨ (r_21 : Int32).toInt = 1 := by
      have z_1 := congrArg Int32.toInt c_1
      have y_10 : (10 : Int32).toInt = 10 := by decide
      omega
    have hp_25 : (((r_21 : Int32).toInt = 0 ∧ ¬ (sv_19 : Int32).toInt = 0) ∨ ((r_21 : Int32).toInt = 1 ∧ ((Mv 9) : Int32).toInt = ((Mv 9) : Int32).toInt + 1)) := by
      have z_1 := congrArg Int32.toInt c_1
      have y_10 : (10 : Int32).toInt = 10 := by decide
      omega
    have hm_26 : (r_21 : Int32).toInt = 1 → (OpS (Mf 7) (Mv 9) p) := by
      intro h1r
      exfalso
      have z_1 := congrArg Int32.toInt c_1
      have y_10 : (10 : Int32).toInt = 10 := by decide
      omega
    exact retI (v := r_21) hx hb hr hlk (nar01 hb_24) hP hD hS (sv_19, (Mv 7), (Mv 9), (Mf 7)) ⟨_, rfl, hp_25, hm_26⟩ [1, 0] rfl rfl dX12_opens_18 (Nat.le_of_ble_eq_true rfl) (Nat.le_of_ble_eq_true rfl) rfl
set_option maxHeartbeats 4000000 in
set_option maxRecDepth 100000 in
theorem ct_X12_strength (l : Launch) (D : va_G) (tc : Nat → ClassId) (sk : (Nat → Nat) × (Nat → Nat)) (x1 : Int32)  : Ct l yX12_strength cX12_strength 1 (some .int) { frames := 0, cells := 0, slots := 0, locals := 0 } D tc sk [.int x1] [] (fun (v : Option Value) (_ : Unit) => ∃ r : Int32, v = some (.int r) ∧ (((x1.toInt = 13 ∧ r.toInt = 1) ∨ (x1.toInt = 12 ∧ r.toInt = 2) ∨ (x1.toInt = 11 ∧ r.toInt = 3) ∨ (x1.toInt ≠ 13 ∧ x1.toInt ≠ 12 ∧ x1.toInt ≠ 11 ∧ r.toInt = 0)))) (fun (_ : Unit) => []) 0 0 := by
  refine Ct.start (by decide) (Nat.le_of_ble_eq_true rfl) (fun p e s m below meth c A ls hx hb hr hlk hin hml hown hts hK hX hP hD hA hl hS => ?_)
  have hl : lv_has ls 1 [(0, .int x1)] := hl
  refine lv_iload_n hx hb dX12_strength_0 rfl (lv_at hl 0 rfl) ?_
  refine lv_bipush (v := 13) hx hb dX12_strength_1 (by decide) ?_
  refine lv_icmp_ne (tgt := 10) hx hb dX12_strength_3 (by decide) (fun c_1 => ?_) (fun c_1 => ?_)
  · skip
    refine lv_iload_n hx hb dX12_strength_10 rfl (lv_at hl 0 rfl) ?_
    refine lv_bipush (v := 12) hx hb dX12_strength_11 (by decide) ?_
    refine lv_icmp_ne (tgt := 20) hx hb dX12_strength_13 (by decide) (fun c_2 => ?_) (fun c_2 => ?_)
    · skip
      refine lv_iload_n hx hb dX12_strength_20 rfl (lv_at hl 0 rfl) ?_
      refine lv_bipush (v := 11) hx hb dX12_strength_21 (by decide) ?_
      refine lv_icmp_ne (tgt := 30) hx hb dX12_strength_23 (by decide) (fun c_3 => ?_) (fun c_3 => ?_)
      · skip
        refine lv_iconst (v := 0) hx hb dX12_strength_30 (by decide) ?_
        have hp_4 : ((x1.toInt = 13 ∧ (0 : Int32).toInt = 1) ∨ (x1.toInt = 12 ∧ (0 : Int32).toInt = 2) ∨ (x1.toInt = 11 ∧ (0 : Int32).toInt = 3) ∨ (x1.toInt ≠ 13 ∧ x1.toInt ≠ 12 ∧ x1.toInt ≠ 11 ∧ (0 : Int32).toInt = 0)) := by
          have z_1 : ¬ (x1 : Int32).toInt = (13 : Int32).toInt := fun z => c_1 (Int32.toInt_inj.mp z)
          have z_2 : ¬ (x1 : Int32).toInt = (12 : Int32).toInt := fun z => c_2 (Int32.toInt_inj.mp z)
          have z_3 : ¬ (x1 : Int32).toInt = (11 : Int32).toInt := fun z => c_3 (Int32.toInt_inj.mp z)
          have y_11 : (11 : Int32).toInt = 11 := by decide
          have y_12 : (12 : Int32).toInt = 12 := by decide
          have y_13 : (13 : Int32).toInt = 13 := by decide
          have y_0 : (0 : Int32).toInt = 0 := by decide
          have yr : (0 : Int32).toInt = 0 := by decide
          omega
        exact retI (v := 0) hx hb hr hlk (rfl) hP hD hS () ⟨_, rfl, hp_4⟩ [] rfl rfl dX12_strength_31 (Nat.le_of_ble_eq_true rfl) (Nat.le_of_ble_eq_true rfl) rfl
      · skip
        refine lv_iconst (v := 3) hx hb dX12_strength_26 (by decide) ?_
        refine lv_goto (tgt := 31) hx hb dX12_strength_27 (by decide) ?_
        have hp_5 : ((x1.toInt = 13 ∧ (3 : Int32).toInt = 1) ∨ (x1.toInt = 12 ∧ (3 : Int32).toInt = 2) ∨ (x1.toInt = 11 ∧ (3 : Int32).toInt = 3) ∨ (x1.toInt ≠ 13 ∧ x1.toInt ≠ 12 ∧ x1.toInt ≠ 11 ∧ (3 : Int32).toInt = 0)) := by
          have z_1 : ¬ (x1 : Int32).toInt = (13 : Int32).toInt := fun z => c_1 (Int32.toInt_inj.mp z)
          have z_2 : ¬ (x1 : Int32).toInt = (12 : Int32).toInt := fun z => c_2 (Int32.toInt_inj.mp z)
          have z_3 := congrArg Int32.toInt c_3
          have y_11 : (11 : Int32).toInt = 11 := by decide
          have y_12 : (12 : Int32).toInt = 12 := by decide
          have y_13 : (13 : Int32).toInt = 13 := by decide
          have y_3 : (3 : Int32).toInt = 3 := by decide
          have yr : (3 : Int32).toInt = 3 := by decide
          omega
        exact retI (v := 3) hx hb hr hlk (rfl) hP hD hS () ⟨_, rfl, hp_5⟩ [] rfl rfl dX12_strength_31 (Nat.le_of_ble_eq_true rfl) (Nat.le_of_ble_eq_true rfl) rfl
    · skip
      refine lv_iconst (v := 2) hx hb dX12_strength_16 (by decide) ?_
      refine lv_goto (tgt := 31) hx hb dX12_strength_17 (by decide) ?_
      have hp_6 : ((x1.toInt = 13 ∧ (2 : Int32).toInt = 1) ∨ (x1.toInt = 12 ∧ (2 : Int32).toInt = 2) ∨ (x1.toInt = 11 ∧ (2 : Int32).toInt = 3) ∨ (x1.toInt ≠ 13 ∧ x1.toInt ≠ 12 ∧ x1.toInt ≠ 11 ∧ (2 : Int32).toInt = 0)) := by
        have z_1 : ¬ (x1 : Int32).toInt = (13 : Int32).toInt := fun z => c_1 (Int32.toInt_inj.mp z)
        have z_2 := congrArg Int32.toInt c_2
        have y_12 : (12 : Int32).toInt = 12 := by decide
        have y_13 : (13 : Int32).toInt = 13 := by decide
        have y_2 : (2 : Int32).toInt = 2 := by decide
        have yr : (2 : Int32).toInt = 2 := by decide
        omega
      exact retI (v := 2) hx hb hr hlk (rfl) hP hD hS () ⟨_, rfl, hp_6⟩ [] rfl rfl dX12_strength_31 (Nat.le_of_ble_eq_true rfl) (Nat.le_of_ble_eq_true rfl) rfl
  · skip
    refine lv_iconst (v := 1) hx hb dX12_strength_6 (by decide) ?_
    refine lv_goto (tgt := 31) hx hb dX12_strength_7 (by decide) ?_
    have hp_7 : ((x1.toInt = 13 ∧ (1 : Int32).toInt = 1) ∨ (x1.toInt = 12 ∧ (1 : Int32).toInt = 2) ∨ (x1.toInt = 11 ∧ (1 : Int32).toInt = 3) ∨ (x1.toInt ≠ 13 ∧ x1.toInt ≠ 12 ∧ x1.toInt ≠ 11 ∧ (1 : Int32).toInt = 0)) := by
      have z_1 := congrArg Int32.toInt c_1
      have y_13 : (13 : Int32).toInt = 13 := by decide
      have y_1 : (1 : Int32).toInt = 1 := by decide
      have yr : (1 : Int32).toInt = 1 := by decide
      omega
    exact retI (v := 1) hx hb hr hlk (rfl) hP hD hS () ⟨_, rfl, hp_7⟩ [] rfl rfl dX12_strength_31 (Nat.le_of_ble_eq_true rfl) (Nat.le_of_ble_eq_true rfl) rfl
set_option maxHeartbeats 4000000 in
set_option maxRecDepth 100000 in
theorem ct_X12_layDown (l : Launch) (D : va_G) (tc : Nat → ClassId) (sk : (Nat → Nat) × (Nat → Nat)) (Ma : Nat → Nat) (Mv : Nat → Int32) (Mf : Nat → Nat → Int32) (Mj : Nat → Int64) (x1 : Int32) (b : Int32) (h_ls : LSR (Mf 7) (Mv 9) (Mf 2) (Mf 3) (Mv 5) b (Mv 6)) (h_x : 1 ≤ x1.toInt ∧ x1.toInt ≤ 3) (h_s : ((Mf 3) (Mv 5).toNatClampNeg).toInt + ((Mv 9) : Int32).toInt ≤ 400) : Ct l yX12_layDown cX12_layDown 2 none { frames := 1, cells := 0, slots := 0, locals := 22 } D tc sk [.ref (Ma 0), .int x1] [((Ma 0), .inr (12, [.ref (Ma 1), .int (Mv 0), .int (Mv 1), .ref (Ma 2), .ref (Ma 3), .ref (Ma 4), .ref (Ma 5), .ref (Ma 6), .int (Mv 2), .int (Mv 3), .int (Mv 4), .int (Mv 5), .int (Mv 6), .int (Mv 7), .int (Mv 8), .ref (Ma 7), .int (Mv 9), .ref (Ma 8), .int (Mv 10), .ref (Ma 9), .ref (Ma 10), .int (Mv 11), .int (Mv 12), .int (Mv 13), .ref (Ma 11), .int (Mv 14), .ref (Ma 12), .ref (Ma 13), .ref (Ma 14), .ref (Ma 15), .ref (Ma 16), .long (Mj 0), .ref (Ma 17), .ref (Ma 18), .ref (Ma 19), .ref (Ma 20)])), ((Ma 2), .inl (tc 0, 2400, .inl (Mf 2))), ((Ma 3), .inl (tc 0, 7, .inl (Mf 3))), ((Ma 7), .inl (tc 0, 400, .inl (Mf 7)))] (fun (v : Option Value) (u : (Int32) × (Int32) × (Nat → Int32) × (Nat → Int32)) => match u with | (oo0x1, oo0x2, oo0x3, oo0x4) => v = none ∧ (LSR (Mf 7) oo0x2 oo0x3 oo0x4 (Mv 5) b (Mv 6)) ∧ ((oo0x4 (Mv 5).toNatClampNeg).toInt + (oo0x2 : Int32).toInt = ((Mf 3) (Mv 5).toNatClampNeg).toInt + ((Mv 9) : Int32).toInt ∧ 0 ≤ (oo0x2 : Int32).toInt ∧ (oo0x2 : Int32).toInt ≤ ((Mv 9) : Int32).toInt) ∧ (Agr (Mf 2) oo0x3 (400 * ((Mv 5) : Int32).toInt + ((Mf 3) (Mv 5).toNatClampNeg).toInt)) ∧ (LdE (Mf 7) oo0x2 x1) ∧ (InK (Mf 7) (Mv 9) oo0x2)) (fun (u : (Int32) × (Int32) × (Nat → Int32) × (Nat → Int32)) => match u with | (oo0x1, oo0x2, oo0x3, oo0x4) => [((Ma 0), .inr (12, [.ref (Ma 1), .int (Mv 0), .int (Mv 1), .ref (Ma 2), .ref (Ma 3), .ref (Ma 4), .ref (Ma 5), .ref (Ma 6), .int (Mv 2), .int (Mv 3), .int (Mv 4), .int (Mv 5), .int (Mv 6), .int oo0x1, .int (Mv 8), .ref (Ma 7), .int oo0x2, .ref (Ma 8), .int (Mv 10), .ref (Ma 9), .ref (Ma 10), .int (Mv 11), .int (Mv 12), .int (Mv 13), .ref (Ma 11), .int (Mv 14), .ref (Ma 12), .ref (Ma 13), .ref (Ma 14), .ref (Ma 15), .ref (Ma 16), .long (Mj 0), .ref (Ma 17), .ref (Ma 18), .ref (Ma 19), .ref (Ma 20)])), ((Ma 2), .inl (tc 0, 2400, .inl oo0x3)), ((Ma 3), .inl (tc 0, 7, .inl oo0x4)), ((Ma 7), .inl (tc 0, 400, .inl (Mf 7)))]) 0 0 := by
  refine Ct.start (by decide) (Nat.le_of_ble_eq_true rfl) (fun p e s m below meth c A ls hx hb hr hlk hin hml hown hts hK hX hP hD hA hl hS => ?_)
  have hl : lv_has ls 2 [(0, .ref (Ma 0)), (1, .int x1)] := hl
  obtain ⟨pn_1, pf_2, pf_3⟩ := id h_ls
  have ar_h_ls := LSR.ar h_ls
  have ar_pf_3 := Cd.ar pf_3
  have loop_14 : ∀ (n_12 : Nat) (vy_8 : Int32) (vy_9 : Nat → Int32) (vy_10 : Nat → Int32) (vy_11 : Int32) (H : Heap) (locs : List Loc) (ls : Array Slot), ((vy_8 : Int32).toInt).toNat < n_12 → (LSR (Mf 7) vy_8 vy_9 vy_10 (Mv 5) b (Mv 6)) → ((vy_10 (Mv 5).toNatClampNeg).toInt + (vy_8 : Int32).toInt = ((Mf 3) (Mv 5).toNatClampNeg).toInt + ((Mv 9) : Int32).toInt ∧ 0 ≤ (vy_8 : Int32).toInt ∧ (vy_8 : Int32).toInt ≤ ((Mv 9) : Int32).toInt) → (Agr (Mf 2) vy_9 (400 * ((Mv 5) : Int32).toInt + ((Mf 3) (Mv 5).toNatClampNeg).toInt)) → (InK (Mf 7) (Mv 9) vy_8) → va_P D classes [((Ma 0), .inr (12, [.ref (Ma 1), .int (Mv 0), .int (Mv 1), .ref (Ma 2), .ref (Ma 3), .ref (Ma 4), .ref (Ma 5), .ref (Ma 6), .int (Mv 2), .int (Mv 3), .int (Mv 4), .int (Mv 5), .int (Mv 6), .int vy_11, .int (Mv 8), .ref (Ma 7), .int vy_8, .ref (Ma 8), .int (Mv 10), .ref (Ma 9), .ref (Ma 10), .int (Mv 11), .int (Mv 12), .int (Mv 13), .ref (Ma 11), .int (Mv 14), .ref (Ma 12), .ref (Ma 13), .ref (Ma 14), .ref (Ma 15), .ref (Ma 16), .long (Mj 0), .ref (Ma 17), .ref (Ma 18), .ref (Ma 19), .ref (Ma 20)])), ((Ma 2), .inl (tc 0, 2400, .inl vy_9)), ((Ma 3), .inl (tc 0, 7, .inl vy_10)), ((Ma 7), .inl (tc 0, 400, .inl (Mf 7)))] H → va_D A [((Ma 0), .inr (12, [.ref (Ma 1), .int (Mv 0), .int (Mv 1), .ref (Ma 2), .ref (Ma 3), .ref (Ma 4), .ref (Ma 5), .ref (Ma 6), .int (Mv 2), .int (Mv 3), .int (Mv 4), .int (Mv 5), .int (Mv 6), .int vy_11, .int (Mv 8), .ref (Ma 7), .int vy_8, .ref (Ma 8), .int (Mv 10), .ref (Ma 9), .ref (Ma 10), .int (Mv 11), .int (Mv 12), .int (Mv 13), .ref (Ma 11), .int (Mv 14), .ref (Ma 12), .ref (Ma 13), .ref (Ma 14), .ref (Ma 15), .ref (Ma 16), .long (Mj 0), .ref (Ma 17), .ref (Ma 18), .ref (Ma 19), .ref (Ma 20)])), ((Ma 2), .inl (tc 0, 2400, .inl vy_9)), ((Ma 3), .inl (tc 0, 7, .inl vy_10)), ((Ma 7), .inl (tc 0, 400, .inl (Mf 7)))] → va_S A s.heap H locs → lv_has ls 2 [(0, .ref (Ma 0)), (1, .int x1)] → W p l e ({ frames := 1, cells := 0, slots := 0, locals := 22 }) s m ([.ref (Ma 0), .int x1].toArray) below meth c H locs 0 0 (MQ below (QW (fun (v : Option Value) (u : (Int32) × (Int32) × (Nat → Int32) × (Nat → Int32)) => match u with | (oo0x1, oo0x2, oo0x3, oo0x4) => v = none ∧ (LSR (Mf 7) oo0x2 oo0x3 oo0x4 (Mv 5) b (Mv 6)) ∧ ((oo0x4 (Mv 5).toNatClampNeg).toInt + (oo0x2 : Int32).toInt = ((Mf 3) (Mv 5).toNatClampNeg).toInt + ((Mv 9) : Int32).toInt ∧ 0 ≤ (oo0x2 : Int32).toInt ∧ (oo0x2 : Int32).toInt ≤ ((Mv 9) : Int32).toInt) ∧ (Agr (Mf 2) oo0x3 (400 * ((Mv 5) : Int32).toInt + ((Mf 3) (Mv 5).toNatClampNeg).toInt)) ∧ (LdE (Mf 7) oo0x2 x1) ∧ (InK (Mf 7) (Mv 9) oo0x2)) (BW D (fun (u : (Int32) × (Int32) × (Nat → Int32) × (Nat → Int32)) => match u with | (oo0x1, oo0x2, oo0x3, oo0x4) => [((Ma 0), .inr (12, [.ref (Ma 1), .int (Mv 0), .int (Mv 1), .ref (Ma 2), .ref (Ma 3), .ref (Ma 4), .ref (Ma 5), .ref (Ma 6), .int (Mv 2), .int (Mv 3), .int (Mv 4), .int (Mv 5), .int (Mv 6), .int oo0x1, .int (Mv 8), .ref (Ma 7), .int oo0x2, .ref (Ma 8), .int (Mv 10), .ref (Ma 9), .ref (Ma 10), .int (Mv 11), .int (Mv 12), .int (Mv 13), .ref (Ma 11), .int (Mv 14), .ref (Ma 12), .ref (Ma 13), .ref (Ma 14), .ref (Ma 15), .ref (Ma 16), .long (Mj 0), .ref (Ma 17), .ref (Ma 18), .ref (Ma 19), .ref (Ma 20)])), ((Ma 2), .inl (tc 0, 2400, .inl oo0x3)), ((Ma 3), .inl (tc 0, 7, .inl oo0x4)), ((Ma 7), .inl (tc 0, 400, .inl (Mf 7)))]) A) A) ([.ref (Ma 0), .int x1].toArray) s 0 0 A) (F0 m 0 ls []) := by
    intro n_12
    induction n_12 with
    | zero =>
      intro vy_8 vy_9 vy_10 vy_11 H locs ls h1
      exact absurd h1 (Nat.not_lt_zero _)
    | succ n_12 ih_13 =>
      intro vy_8 vy_9 vy_10 vy_11 H locs ls hn_19 pf_15 pf_16 pf_17 pf_18 hP hD hS hl
      obtain ⟨pn_20, pf_21, pf_22⟩ := id pf_15
      have ar_pf_15 := LSR.ar pf_15
      have ar_pf_22 := Cd.ar pf_22
      refine lv_aload_n hx hb dX12_layDown_0 rfl (lv_at hl 0 rfl) ?_
      refine gf_X12_154 hx hb hts hown hK hP 0 rfl rfl dX12_layDown_1 ?_
      refine lv_if_le (tgt := 76) hx hb dX12_layDown_4 (by decide) (fun c_23 => ?_) (fun c_23 => ?_)
      · skip
        have ha_24 : (vy_10 (Mv 5).toNatClampNeg).toInt + (vy_8 : Int32).toInt = ((Mf 3) (Mv 5).toNatClampNeg).toInt + ((Mv 9) : Int32).toInt ∧ 0 ≤ (vy_8 : Int32).toInt ∧ (vy_8 : Int32).toInt ≤ ((Mv 9) : Int32).toInt := by
          have z_1 := Int32.le_iff_toInt_le.mp c_23
          have y_0 : (0 : Int32).toInt = 0 := by decide
          refine ⟨?_, ?_, ?_⟩ <;> omega
        have hr_25 : (vy_8 : Int32).toInt = 0 := by
          have z_1 := Int32.le_iff_toInt_le.mp c_23
          have y_0 : (0 : Int32).toInt = 0 := by decide
          omega
        exact retV hx hb hr hlk hP hD hS (vy_11, vy_8, vy_9, vy_10) ⟨rfl, pf_15, ha_24, pf_17, (Or.inl hr_25), pf_18⟩ [0, 1, 2, 3] rfl rfl dX12_layDown_76 (Nat.le_of_ble_eq_true rfl) (Nat.le_of_ble_eq_true rfl) rfl
      · skip
        refine lv_aload_n hx hb dX12_layDown_7 rfl (lv_at hl 0 rfl) ?_
        refine gf_X12_29 hx hb hts hown hK hP 0 rfl rfl dX12_layDown_8 ?_
        refine lv_aload_n hx hb dX12_layDown_11 rfl (lv_at hl 0 rfl) ?_
        refine gf_X12_154 hx hb hts hown hK hP 0 rfl rfl dX12_layDown_12 ?_
        refine lv_iconst (v := 1) hx hb dX12_layDown_15 (by decide) ?_
        refine lv_isub hx hb dX12_layDown_16 ?_
        refine lv_topi (fun x_26 ex_26 => ?_)
        have hi_27 : vp_in x_26 400 := by
          have z_1 := Int32.lt_iff_toInt_lt.mp (Int32.not_le.mp c_23)
          have y_0 : (0 : Int32).toInt = 0 := by decide
          have y_1 : (1 : Int32).toInt = 1 := by decide
          have t_x_26 : x_26.toInt = (vy_8 : Int32).toInt - (1 : Int32).toInt := by rw [ex_26]; exact sub_toInt (by omega) (by omega)
          refine vp_in_iff.mpr ⟨?_, ?_⟩ <;> omega
        refine va_iald hx hb hK hP 3 0 rfl rfl hi_27 dX12_layDown_17 ?_
        refine lv_topi (fun x_28 ex_28 => ?_)
        refine cS (As := [.int x_28]) (rest := []) (wr := [((Ma 0), .inr (12, [.ref (Ma 1), .int (Mv 0), .int (Mv 1), .ref (Ma 2), .ref (Ma 3), .ref (Ma 4), .ref (Ma 5), .ref (Ma 6), .int (Mv 2), .int (Mv 3), .int (Mv 4), .int (Mv 5), .int (Mv 6), .int vy_11, .int (Mv 8), .ref (Ma 7), .int vy_8, .ref (Ma 8), .int (Mv 10), .ref (Ma 9), .ref (Ma 10), .int (Mv 11), .int (Mv 12), .int (Mv 13), .ref (Ma 11), .int (Mv 14), .ref (Ma 12), .ref (Ma 13), .ref (Ma 14), .ref (Ma 15), .ref (Ma 16), .long (Mj 0), .ref (Ma 17), .ref (Ma 18), .ref (Ma 19), .ref (Ma 20)])), ((Ma 2), .inl (tc 0, 2400, .inl vy_9)), ((Ma 3), .inl (tc 0, 7, .inl vy_10)), ((Ma 7), .inl (tc 0, 400, .inl (Mf 7)))]) ⟨hx, hb, hml, hown, hts⟩ hK hX hA (ct_X12_strength l D tc sk x_28) k_1345 k_1343 k_1344 k_106 pl_X12_strength ⟨Nat.le_of_ble_eq_true rfl, Nat.le_of_ble_eq_true rfl⟩ rfl rfl  hP hD hS [] [0, 1, 2, 3] rfl rfl rfl rfl rfl (by decide) rfl hl.1 rfl (Nat.le_of_ble_eq_true rfl) dX12_layDown_18 ⟨Nat.le_of_ble_eq_true rfl, Nat.le_of_ble_eq_true rfl⟩ (fun v_29 u_30 H locs hv_31 hP hD hS => ?_)
        obtain ⟨r_32, rfl, he_33⟩ := hv_31
        have he_33 : ((x_28.toInt = 13 ∧ r_32.toInt = 1) ∨ (x_28.toInt = 12 ∧ r_32.toInt = 2) ∨ (x_28.toInt = 11 ∧ r_32.toInt = 3) ∨ (x_28.toInt ≠ 13 ∧ x_28.toInt ≠ 12 ∧ x_28.toInt ≠ 11 ∧ r_32.toInt = 0)) := he_33
        refine W.eq (g2 := F0 m 21 ls [.int r_32]) rfl ?_
        have hP : va_P D classes [((Ma 0), .inr (12, [.ref (Ma 1), .int (Mv 0), .int (Mv 1), .ref (Ma 2), .ref (Ma 3), .ref (Ma 4), .ref (Ma 5), .ref (Ma 6), .int (Mv 2), .int (Mv 3), .int (Mv 4), .int (Mv 5), .int (Mv 6), .int vy_11, .int (Mv 8), .ref (Ma 7), .int vy_8, .ref (Ma 8), .int (Mv 10), .ref (Ma 9), .ref (Ma 10), .int (Mv 11), .int (Mv 12), .int (Mv 13), .ref (Ma 11), .int (Mv 14), .ref (Ma 12), .ref (Ma 13), .ref (Ma 14), .ref (Ma 15), .ref (Ma 16), .long (Mj 0), .ref (Ma 17), .ref (Ma 18), .ref (Ma 19), .ref (Ma 20)])), ((Ma 2), .inl (tc 0, 2400, .inl vy_9)), ((Ma 3), .inl (tc 0, 7, .inl vy_10)), ((Ma 7), .inl (tc 0, 400, .inl (Mf 7)))] H := hP
        have hD : va_D A [((Ma 0), .inr (12, [.ref (Ma 1), .int (Mv 0), .int (Mv 1), .ref (Ma 2), .ref (Ma 3), .ref (Ma 4), .ref (Ma 5), .ref (Ma 6), .int (Mv 2), .int (Mv 3), .int (Mv 4), .int (Mv 5), .int (Mv 6), .int vy_11, .int (Mv 8), .ref (Ma 7), .int vy_8, .ref (Ma 8), .int (Mv 10), .ref (Ma 9), .ref (Ma 10), .int (Mv 11), .int (Mv 12), .int (Mv 13), .ref (Ma 11), .int (Mv 14), .ref (Ma 12), .ref (Ma 13), .ref (Ma 14), .ref (Ma 15), .ref (Ma 16), .long (Mj 0), .ref (Ma 17), .ref (Ma 18), .ref (Ma 19), .ref (Ma 20)])), ((Ma 2), .inl (tc 0, 2400, .inl vy_9)), ((Ma 3), .inl (tc 0, 7, .inl vy_10)), ((Ma 7), .inl (tc 0, 400, .inl (Mf 7)))] := hD
        refine lv_iload_n hx hb dX12_layDown_21 rfl (lv_at hl 1 rfl) ?_
        refine lv_icmp_lt (tgt := 76) hx hb dX12_layDown_22 (by decide) (fun c_35 => ?_) (fun c_35 => ?_)
        · skip
          have ha_36 : (vy_10 (Mv 5).toNatClampNeg).toInt + (vy_8 : Int32).toInt = ((Mf 3) (Mv 5).toNatClampNeg).toInt + ((Mv 9) : Int32).toInt ∧ 0 ≤ (vy_8 : Int32).toInt ∧ (vy_8 : Int32).toInt ≤ ((Mv 9) : Int32).toInt := by
            have z_1 := Int32.lt_iff_toInt_lt.mp (Int32.not_le.mp c_23)
            have z_2 := Int32.lt_iff_toInt_lt.mp c_35
            have y_0 : (0 : Int32).toInt = 0 := by decide
            refine ⟨?_, ?_, ?_⟩ <;> omega
          have hi_37 : (x_26 : Int32).toInt = (vy_8 : Int32).toInt - 1 := by
            have z_1 := Int32.lt_iff_toInt_lt.mp (Int32.not_le.mp c_23)
            have z_2 := Int32.lt_iff_toInt_lt.mp c_35
            have y_0 : (0 : Int32).toInt = 0 := by decide
            have y_1 : (1 : Int32).toInt = 1 := by decide
            have t_x_26 : x_26.toInt = (vy_8 : Int32).toInt - (1 : Int32).toInt := by rw [ex_26]; exact sub_toInt (by omega) (by omega)
            omega
          have hr_38 : 1 ≤ (vy_8 : Int32).toInt := by
            have z_1 := Int32.lt_iff_toInt_lt.mp (Int32.not_le.mp c_23)
            have z_2 := Int32.lt_iff_toInt_lt.mp c_35
            have y_0 : (0 : Int32).toInt = 0 := by decide
            omega
          have hr_39 : ((x_28 : Int32).toInt ≠ 13 ∧ (x_28 : Int32).toInt ≠ 12 ∧ (x_28 : Int32).toInt ≠ 11) ∨ 1 < (x1 : Int32).toInt := by
            have z_1 := Int32.lt_iff_toInt_lt.mp (Int32.not_le.mp c_23)
            have z_2 := Int32.lt_iff_toInt_lt.mp c_35
            have y_0 : (0 : Int32).toInt = 0 := by decide
            omega
          exact retV hx hb hr hlk hP hD hS (vy_11, vy_8, vy_9, vy_10) ⟨rfl, pf_15, ha_36, pf_17, (LdE.of (least := x1) ex_28 hi_37 hr_38 hr_39), pf_18⟩ [0, 1, 2, 3] rfl rfl dX12_layDown_76 (Nat.le_of_ble_eq_true rfl) (Nat.le_of_ble_eq_true rfl) rfl
        · skip
          refine lv_aload_n hx hb dX12_layDown_25 rfl (lv_at hl 0 rfl) ?_
          refine lv_dup hx hb dX12_layDown_26 rfl ?_
          refine gf_X12_154 hx hb hts hown hK hP 0 rfl rfl dX12_layDown_27 ?_
          refine lv_iconst (v := 1) hx hb dX12_layDown_30 (by decide) ?_
          refine lv_isub hx hb dX12_layDown_31 ?_
          refine lv_topi (fun x_40 ex_40 => ?_)
          refine pf_X12_154 hx hb hts hown hK hP hD hS 0 rfl (Nat.le_of_ble_eq_true rfl) rfl rfl dX12_layDown_32 (fun H locs hP hD hS => ?_)
          have hP : va_P D classes [((Ma 0), .inr (12, [.ref (Ma 1), .int (Mv 0), .int (Mv 1), .ref (Ma 2), .ref (Ma 3), .ref (Ma 4), .ref (Ma 5), .ref (Ma 6), .int (Mv 2), .int (Mv 3), .int (Mv 4), .int (Mv 5), .int (Mv 6), .int vy_11, .int (Mv 8), .ref (Ma 7), .int x_40, .ref (Ma 8), .int (Mv 10), .ref (Ma 9), .ref (Ma 10), .int (Mv 11), .int (Mv 12), .int (Mv 13), .ref (Ma 11), .int (Mv 14), .ref (Ma 12), .ref (Ma 13), .ref (Ma 14), .ref (Ma 15), .ref (Ma 16), .long (Mj 0), .ref (Ma 17), .ref (Ma 18), .ref (Ma 19), .ref (Ma 20)])), ((Ma 2), .inl (tc 0, 2400, .inl vy_9)), ((Ma 3), .inl (tc 0, 7, .inl vy_10)), ((Ma 7), .inl (tc 0, 400, .inl (Mf 7)))] H := hP
          have hD : va_D A [((Ma 0), .inr (12, [.ref (Ma 1), .int (Mv 0), .int (Mv 1), .ref (Ma 2), .ref (Ma 3), .ref (Ma 4), .ref (Ma 5), .ref (Ma 6), .int (Mv 2), .int (Mv 3), .int (Mv 4), .int (Mv 5), .int (Mv 6), .int vy_11, .int (Mv 8), .ref (Ma 7), .int x_40, .ref (Ma 8), .int (Mv 10), .ref (Ma 9), .ref (Ma 10), .int (Mv 11), .int (Mv 12), .int (Mv 13), .ref (Ma 11), .int (Mv 14), .ref (Ma 12), .ref (Ma 13), .ref (Ma 14), .ref (Ma 15), .ref (Ma 16), .long (Mj 0), .ref (Ma 17), .ref (Ma 18), .ref (Ma 19), .ref (Ma 20)])), ((Ma 2), .inl (tc 0, 2400, .inl vy_9)), ((Ma 3), .inl (tc 0, 7, .inl vy_10)), ((Ma 7), .inl (tc 0, 400, .inl (Mf 7)))] := hD
          refine lv_aload_n hx hb dX12_layDown_35 rfl (lv_at hl 0 rfl) ?_
          refine lv_aload_n hx hb dX12_layDown_36 rfl (lv_at hl 0 rfl) ?_
          refine gf_X12_29 hx hb hts hown hK hP 0 rfl rfl dX12_layDown_37 ?_
          refine lv_aload_n hx hb dX12_layDown_40 rfl (lv_at hl 0 rfl) ?_
          refine gf_X12_154 hx hb hts hown hK hP 0 rfl rfl dX12_layDown_41 ?_
          have hi_41 : vp_in x_40 400 := by
            have z_1 := Int32.lt_iff_toInt_lt.mp (Int32.not_le.mp c_23)
            have z_2 := Int32.le_iff_toInt_le.mp (Int32.not_lt.mp c_35)
            have y_0 : (0 : Int32).toInt = 0 := by decide
            have y_1 : (1 : Int32).toInt = 1 := by decide
            have t_x_40 : x_40.toInt = (vy_8 : Int32).toInt - (1 : Int32).toInt := by rw [ex_40]; exact sub_toInt (by omega) (by omega)
            refine vp_in_iff.mpr ⟨?_, ?_⟩ <;> omega
          refine va_iald hx hb hK hP 3 0 rfl rfl hi_41 dX12_layDown_44 ?_
          refine lv_topi (fun x_42 ex_42 => ?_)
          have qx_42 : x_42 = x_28 := by rw [ex_42, ex_28, ex_26, ex_40]
          have hx_43 : (x_42 : Int32).toInt = 11 ∨ (x_42 : Int32).toInt = 12 ∨ (x_42 : Int32).toInt = 13 := by
            rw [qx_42]
            have z_1 := Int32.lt_iff_toInt_lt.mp (Int32.not_le.mp c_23)
            have z_2 := Int32.le_iff_toInt_le.mp (Int32.not_lt.mp c_35)
            have y_0 : (0 : Int32).toInt = 0 := by decide
            omega
          have hi_44 : (x_40 : Int32).toInt = (vy_8 : Int32).toInt - 1 := by
            have z_1 := Int32.lt_iff_toInt_lt.mp (Int32.not_le.mp c_23)
            have z_2 := Int32.le_iff_toInt_le.mp (Int32.not_lt.mp c_35)
            have y_0 : (0 : Int32).toInt = 0 := by decide
            have y_1 : (1 : Int32).toInt = 1 := by decide
            have t_x_40 : x_40.toInt = (vy_8 : Int32).toInt - (1 : Int32).toInt := by rw [ex_40]; exact sub_toInt (by omega) (by omega)
            omega
          have hr_45 : 1 ≤ (vy_8 : Int32).toInt := by
            have z_1 := Int32.lt_iff_toInt_lt.mp (Int32.not_le.mp c_23)
            have z_2 := Int32.le_iff_toInt_le.mp (Int32.not_lt.mp c_35)
            have y_0 : (0 : Int32).toInt = 0 := by decide
            omega
          obtain ⟨dn_46, en_47, pf_48, pf_49, pf_50, pf_51⟩ := LSR.pop pf_15 hi_44 hr_45 ex_42 hx_43
          have ar_pf_48 := Cd.ar pf_48
          refine lv_iconst (v := 0) hx hb dX12_layDown_45 (by decide) ?_
          have ha_52 : (en_47 : Int) ≤ (Mv 6).toInt := by
            have z_1 := Int32.lt_iff_toInt_lt.mp (Int32.not_le.mp c_23)
            have z_2 := Int32.le_iff_toInt_le.mp (Int32.not_lt.mp c_35)
            have y_0 : (0 : Int32).toInt = 0 := by decide
            omega
          have ha_53 : (vy_10 (Mv 5).toNatClampNeg).toInt < 400 := by
            have z_1 := Int32.lt_iff_toInt_lt.mp (Int32.not_le.mp c_23)
            have z_2 := Int32.le_iff_toInt_le.mp (Int32.not_lt.mp c_35)
            have y_0 : (0 : Int32).toInt = 0 := by decide
            omega
          refine cV (a := (Ma 0)) (As := [.int x_42, .int 0]) (rest := []) (wr := [((Ma 7), .inl (tc 0, 400, .inl (Mf 7)))]) ⟨hx, hb, hml, hown, hts⟩ hK hX hA (ct_X12_puts l D tc sk Ma (fun k => ([(Mv 0), (Mv 1), (Mv 2), (Mv 3), (Mv 4), (Mv 5), (Mv 6), vy_11, (Mv 8), x_40, (Mv 10), (Mv 11), (Mv 12), (Mv 13), (Mv 14)] : List (Int32)).getD k 0) (fun k => ([(fun _ => 0), (fun _ => 0), vy_9, vy_10] : List (Nat → Int32)).getD k (fun _ => 0)) Mj x_42 0 b (Mv 6) dn_46 en_47 pf_48 pf_49 ha_52 ha_53) k_1296 k_1293 k_1295 k_46 k_106 pl_X12_puts ⟨Nat.le_of_ble_eq_true rfl, Nat.le_of_ble_eq_true rfl⟩ rfl rfl (va_recv hK hP (ci := 12) (q0 := 0) rfl rfl) hP hD hS [0, 1, 2] [3] rfl rfl rfl rfl rfl (by decide) rfl hl.1 rfl (Nat.le_of_ble_eq_true rfl) dX12_layDown_46 ⟨Nat.le_of_ble_eq_true rfl, Nat.le_of_ble_eq_true rfl⟩ (fun v_54 u_55 H locs hv_56 hP hD hS => ?_)
          obtain ⟨sv_57, sv_58⟩ := u_55
          obtain ⟨rfl, pf_59, pf_60, pf_61⟩ := hv_56
          have pf_59 : Cd sv_57 sv_58 (Mv 5) b (Mv 6) en_47 := pf_59
          have ar_pf_59 := Cd.ar pf_59
          have pf_60 : Agr vy_9 sv_57 (400 * ((Mv 5) : Int32).toInt + (vy_10 (Mv 5).toNatClampNeg).toInt) := pf_60
          have pf_61 : (sv_58 (Mv 5).toNatClampNeg).toInt = (vy_10 (Mv 5).toNatClampNeg).toInt + 1 := pf_61
          refine W.eq (g2 := F0 m 49 ls []) rfl ?_
          have hP : va_P D classes [((Ma 7), .inl (tc 0, 400, .inl (Mf 7))), ((Ma 0), .inr (12, [.ref (Ma 1), .int (Mv 0), .int (Mv 1), .ref (Ma 2), .ref (Ma 3), .ref (Ma 4), .ref (Ma 5), .ref (Ma 6), .int (Mv 2), .int (Mv 3), .int (Mv 4), .int (Mv 5), .int (Mv 6), .int vy_11, .int (Mv 8), .ref (Ma 7), .int x_40, .ref (Ma 8), .int (Mv 10), .ref (Ma 9), .ref (Ma 10), .int (Mv 11), .int (Mv 12), .int (Mv 13), .ref (Ma 11), .int (Mv 14), .ref (Ma 12), .ref (Ma 13), .ref (Ma 14), .ref (Ma 15), .ref (Ma 16), .long (Mj 0), .ref (Ma 17), .ref (Ma 18), .ref (Ma 19), .ref (Ma 20)])), ((Ma 2), .inl (tc 0, 2400, .inl sv_57)), ((Ma 3), .inl (tc 0, 7, .inl sv_58))] H := hP
          have hD : va_D A [((Ma 7), .inl (tc 0, 400, .inl (Mf 7))), ((Ma 0), .inr (12, [.ref (Ma 1), .int (Mv 0), .int (Mv 1), .ref (Ma 2), .ref (Ma 3), .ref (Ma 4), .ref (Ma 5), .ref (Ma 6), .int (Mv 2), .int (Mv 3), .int (Mv 4), .int (Mv 5), .int (Mv 6), .int vy_11, .int (Mv 8), .ref (Ma 7), .int x_40, .ref (Ma 8), .int (Mv 10), .ref (Ma 9), .ref (Ma 10), .int (Mv 11), .int (Mv 12), .int (Mv 13), .ref (Ma 11), .int (Mv 14), .ref (Ma 12), .ref (Ma 13), .ref (Ma 14), .ref (Ma 15), .ref (Ma 16), .long (Mj 0), .ref (Ma 17), .ref (Ma 18), .ref (Ma 19), .ref (Ma 20)])), ((Ma 2), .inl (tc 0, 2400, .inl sv_57)), ((Ma 3), .inl (tc 0, 7, .inl sv_58))] := hD
          refine lv_aload_n hx hb dX12_layDown_49 rfl (lv_at hl 0 rfl) ?_
          refine gf_X12_29 hx hb hts hown hK hP 1 rfl rfl dX12_layDown_50 ?_
          refine lv_aload_n hx hb dX12_layDown_53 rfl (lv_at hl 0 rfl) ?_
          refine gf_X12_154 hx hb hts hown hK hP 1 rfl rfl dX12_layDown_54 ?_
          have hi_62 : vp_in x_40 400 := by
            have z_1 := Int32.lt_iff_toInt_lt.mp (Int32.not_le.mp c_23)
            have z_2 := Int32.le_iff_toInt_le.mp (Int32.not_lt.mp c_35)
            have y_0 : (0 : Int32).toInt = 0 := by decide
            have y_1 : (1 : Int32).toInt = 1 := by decide
            have t_x_40 : x_40.toInt = (vy_8 : Int32).toInt - (1 : Int32).toInt := by rw [ex_40]; exact sub_toInt (by omega) (by omega)
            refine vp_in_iff.mpr ⟨?_, ?_⟩ <;> omega
          refine va_iald hx hb hK hP 0 0 rfl rfl hi_62 dX12_layDown_57 ?_
          refine lv_topi (fun x_63 ex_63 => ?_)
          refine lv_bipush (v := 11) hx hb dX12_layDown_58 (by decide) ?_
          refine lv_icmp_ne (tgt := 0) hx hb dX12_layDown_60 (by decide) (fun c_64 => ?_) (fun c_64 => ?_)
          · skip
            have hb_65 : (x_40 : Int32).toInt < (vy_8 : Int32).toInt ∧ 1 ≤ (vy_8 : Int32).toInt := by
              have z_1 := Int32.lt_iff_toInt_lt.mp (Int32.not_le.mp c_23)
              have z_2 := Int32.le_iff_toInt_le.mp (Int32.not_lt.mp c_35)
              have z_3 : ¬ (x_63 : Int32).toInt = (11 : Int32).toInt := fun z => c_64 (Int32.toInt_inj.mp z)
              have y_0 : (0 : Int32).toInt = 0 := by decide
              have y_11 : (11 : Int32).toInt = 11 := by decide
              have y_1 : (1 : Int32).toInt = 1 := by decide
              have t_x_40 : x_40.toInt = (vy_8 : Int32).toInt - (1 : Int32).toInt := by rw [ex_40]; exact sub_toInt (by omega) (by omega)
              refine ⟨?_, ?_⟩ <;> omega
            have ha_66 : (sv_58 (Mv 5).toNatClampNeg).toInt + (x_40 : Int32).toInt = ((Mf 3) (Mv 5).toNatClampNeg).toInt + ((Mv 9) : Int32).toInt ∧ 0 ≤ (x_40 : Int32).toInt ∧ (x_40 : Int32).toInt ≤ ((Mv 9) : Int32).toInt := by
              have z_1 := Int32.lt_iff_toInt_lt.mp (Int32.not_le.mp c_23)
              have z_2 := Int32.le_iff_toInt_le.mp (Int32.not_lt.mp c_35)
              have z_3 : ¬ (x_63 : Int32).toInt = (11 : Int32).toInt := fun z => c_64 (Int32.toInt_inj.mp z)
              have y_0 : (0 : Int32).toInt = 0 := by decide
              have y_11 : (11 : Int32).toInt = 11 := by decide
              have y_1 : (1 : Int32).toInt = 1 := by decide
              have t_x_40 : x_40.toInt = (vy_8 : Int32).toInt - (1 : Int32).toInt := by rw [ex_40]; exact sub_toInt (by omega) (by omega)
              refine ⟨?_, ?_, ?_⟩ <;> omega
            have hr_67 : (400 * ((Mv 5) : Int32).toInt + ((Mf 3) (Mv 5).toNatClampNeg).toInt) ≤ (400 * ((Mv 5) : Int32).toInt + ((Mf 3) (Mv 5).toNatClampNeg).toInt) := by
              have z_1 := Int32.lt_iff_toInt_lt.mp (Int32.not_le.mp c_23)
              have z_2 := Int32.le_iff_toInt_le.mp (Int32.not_lt.mp c_35)
              have z_3 : ¬ (x_63 : Int32).toInt = (11 : Int32).toInt := fun z => c_64 (Int32.toInt_inj.mp z)
              have y_0 : (0 : Int32).toInt = 0 := by decide
              have y_11 : (11 : Int32).toInt = 11 := by decide
              omega
            have hr_68 : (400 * ((Mv 5) : Int32).toInt + ((Mf 3) (Mv 5).toNatClampNeg).toInt) ≤ (400 * ((Mv 5) : Int32).toInt + (vy_10 (Mv 5).toNatClampNeg).toInt) := by
              have z_1 := Int32.lt_iff_toInt_lt.mp (Int32.not_le.mp c_23)
              have z_2 := Int32.le_iff_toInt_le.mp (Int32.not_lt.mp c_35)
              have z_3 : ¬ (x_63 : Int32).toInt = (11 : Int32).toInt := fun z => c_64 (Int32.toInt_inj.mp z)
              have y_0 : (0 : Int32).toInt = 0 := by decide
              have y_11 : (11 : Int32).toInt = 11 := by decide
              omega
            have hr_69 : (x_42 : Int32).toInt ≠ 91 := by
              have z_1 := Int32.lt_iff_toInt_lt.mp (Int32.not_le.mp c_23)
              have z_2 := Int32.le_iff_toInt_le.mp (Int32.not_lt.mp c_35)
              have z_3 : ¬ (x_63 : Int32).toInt = (11 : Int32).toInt := fun z => c_64 (Int32.toInt_inj.mp z)
              have y_0 : (0 : Int32).toInt = 0 := by decide
              have y_11 : (11 : Int32).toInt = 11 := by decide
              omega
            have hi_70 : (x_40 : Int32).toInt = (vy_8 : Int32).toInt - 1 := by
              have z_1 := Int32.lt_iff_toInt_lt.mp (Int32.not_le.mp c_23)
              have z_2 := Int32.le_iff_toInt_le.mp (Int32.not_lt.mp c_35)
              have z_3 : ¬ (x_63 : Int32).toInt = (11 : Int32).toInt := fun z => c_64 (Int32.toInt_inj.mp z)
              have y_0 : (0 : Int32).toInt = 0 := by decide
              have y_11 : (11 : Int32).toInt = 11 := by decide
              have y_1 : (1 : Int32).toInt = 1 := by decide
              have t_x_40 : x_40.toInt = (vy_8 : Int32).toInt - (1 : Int32).toInt := by rw [ex_40]; exact sub_toInt (by omega) (by omega)
              omega
            have hr_71 : 0 ≤ (x_40 : Int32).toInt := by
              have z_1 := Int32.lt_iff_toInt_lt.mp (Int32.not_le.mp c_23)
              have z_2 := Int32.le_iff_toInt_le.mp (Int32.not_lt.mp c_35)
              have z_3 : ¬ (x_63 : Int32).toInt = (11 : Int32).toInt := fun z => c_64 (Int32.toInt_inj.mp z)
              have y_0 : (0 : Int32).toInt = 0 := by decide
              have y_11 : (11 : Int32).toInt = 11 := by decide
              have y_1 : (1 : Int32).toInt = 1 := by decide
              have t_x_40 : x_40.toInt = (vy_8 : Int32).toInt - (1 : Int32).toInt := by rw [ex_40]; exact sub_toInt (by omega) (by omega)
              omega
            exact ih_13 x_40 sv_57 sv_58 vy_11 _ _ _ (by omega) (pf_51 _ _ pf_59) ha_66 (Agr.trans (k' := (400 * ((Mv 5) : Int32).toInt + ((Mf 3) (Mv 5).toNatClampNeg).toInt)) (Agr.mono pf_17 hr_67) pf_60 ⟨Int.le_refl _, hr_68⟩) (InK.step pf_18 ex_42 hr_69 hi_70 hr_71) (hP.sub [1, 2, 3, 0] rfl) (hD.sub [1, 2, 3, 0] rfl rfl) hS (lv_sub hl [0, 1] rfl)
          · skip
            refine lv_aload_n hx hb dX12_layDown_63 rfl (lv_at hl 0 rfl) ?_
            refine lv_dup hx hb dX12_layDown_64 rfl ?_
            refine gf_X12_151 hx hb hts hown hK hP 1 rfl rfl dX12_layDown_65 ?_
            refine lv_iconst (v := 1) hx hb dX12_layDown_68 (by decide) ?_
            refine lv_isub hx hb dX12_layDown_69 ?_
            refine lv_topi (fun x_72 ex_72 => ?_)
            refine pf_X12_151 hx hb hts hown hK hP hD hS 1 rfl (Nat.le_of_ble_eq_true rfl) rfl rfl dX12_layDown_70 (fun H locs hP hD hS => ?_)
            have hP : va_P D classes [((Ma 7), .inl (tc 0, 400, .inl (Mf 7))), ((Ma 0), .inr (12, [.ref (Ma 1), .int (Mv 0), .int (Mv 1), .ref (Ma 2), .ref (Ma 3), .ref (Ma 4), .ref (Ma 5), .ref (Ma 6), .int (Mv 2), .int (Mv 3), .int (Mv 4), .int (Mv 5), .int (Mv 6), .int x_72, .int (Mv 8), .ref (Ma 7), .int x_40, .ref (Ma 8), .int (Mv 10), .ref (Ma 9), .ref (Ma 10), .int (Mv 11), .int (Mv 12), .int (Mv 13), .ref (Ma 11), .int (Mv 14), .ref (Ma 12), .ref (Ma 13), .ref (Ma 14), .ref (Ma 15), .ref (Ma 16), .long (Mj 0), .ref (Ma 17), .ref (Ma 18), .ref (Ma 19), .ref (Ma 20)])), ((Ma 2), .inl (tc 0, 2400, .inl sv_57)), ((Ma 3), .inl (tc 0, 7, .inl sv_58))] H := hP
            have hD : va_D A [((Ma 7), .inl (tc 0, 400, .inl (Mf 7))), ((Ma 0), .inr (12, [.ref (Ma 1), .int (Mv 0), .int (Mv 1), .ref (Ma 2), .ref (Ma 3), .ref (Ma 4), .ref (Ma 5), .ref (Ma 6), .int (Mv 2), .int (Mv 3), .int (Mv 4), .int (Mv 5), .int (Mv 6), .int x_72, .int (Mv 8), .ref (Ma 7), .int x_40, .ref (Ma 8), .int (Mv 10), .ref (Ma 9), .ref (Ma 10), .int (Mv 11), .int (Mv 12), .int (Mv 13), .ref (Ma 11), .int (Mv 14), .ref (Ma 12), .ref (Ma 13), .ref (Ma 14), .ref (Ma 15), .ref (Ma 16), .long (Mj 0), .ref (Ma 17), .ref (Ma 18), .ref (Ma 19), .ref (Ma 20)])), ((Ma 2), .inl (tc 0, 2400, .inl sv_57)), ((Ma 3), .inl (tc 0, 7, .inl sv_58))] := hD
            refine lv_goto (tgt := 0) hx hb dX12_layDown_73 (by decide) ?_
            have hb_73 : (x_40 : Int32).toInt < (vy_8 : Int32).toInt ∧ 1 ≤ (vy_8 : Int32).toInt := by
              have z_1 := Int32.lt_iff_toInt_lt.mp (Int32.not_le.mp c_23)
              have z_2 := Int32.le_iff_toInt_le.mp (Int32.not_lt.mp c_35)
              have z_3 := congrArg Int32.toInt c_64
              have y_0 : (0 : Int32).toInt = 0 := by decide
              have y_11 : (11 : Int32).toInt = 11 := by decide
              have y_1 : (1 : Int32).toInt = 1 := by decide
              have t_x_40 : x_40.toInt = (vy_8 : Int32).toInt - (1 : Int32).toInt := by rw [ex_40]; exact sub_toInt (by omega) (by omega)
              refine ⟨?_, ?_⟩ <;> omega
            have ha_74 : (sv_58 (Mv 5).toNatClampNeg).toInt + (x_40 : Int32).toInt = ((Mf 3) (Mv 5).toNatClampNeg).toInt + ((Mv 9) : Int32).toInt ∧ 0 ≤ (x_40 : Int32).toInt ∧ (x_40 : Int32).toInt ≤ ((Mv 9) : Int32).toInt := by
              have z_1 := Int32.lt_iff_toInt_lt.mp (Int32.not_le.mp c_23)
              have z_2 := Int32.le_iff_toInt_le.mp (Int32.not_lt.mp c_35)
              have z_3 := congrArg Int32.toInt c_64
              have y_0 : (0 : Int32).toInt = 0 := by decide
              have y_11 : (11 : Int32).toInt = 11 := by decide
              have y_1 : (1 : Int32).toInt = 1 := by decide
              have t_x_40 : x_40.toInt = (vy_8 : Int32).toInt - (1 : Int32).toInt := by rw [ex_40]; exact sub_toInt (by omega) (by omega)
              refine ⟨?_, ?_, ?_⟩ <;> omega
            have hr_75 : (400 * ((Mv 5) : Int32).toInt + ((Mf 3) (Mv 5).toNatClampNeg).toInt) ≤ (400 * ((Mv 5) : Int32).toInt + ((Mf 3) (Mv 5).toNatClampNeg).toInt) := by
              have z_1 := Int32.lt_iff_toInt_lt.mp (Int32.not_le.mp c_23)
              have z_2 := Int32.le_iff_toInt_le.mp (Int32.not_lt.mp c_35)
              have z_3 := congrArg Int32.toInt c_64
              have y_0 : (0 : Int32).toInt = 0 := by decide
              have y_11 : (11 : Int32).toInt = 11 := by decide
              omega
            have hr_76 : (400 * ((Mv 5) : Int32).toInt + ((Mf 3) (Mv 5).toNatClampNeg).toInt) ≤ (400 * ((Mv 5) : Int32).toInt + (vy_10 (Mv 5).toNatClampNeg).toInt) := by
              have z_1 := Int32.lt_iff_toInt_lt.mp (Int32.not_le.mp c_23)
              have z_2 := Int32.le_iff_toInt_le.mp (Int32.not_lt.mp c_35)
              have z_3 := congrArg Int32.toInt c_64
              have y_0 : (0 : Int32).toInt = 0 := by decide
              have y_11 : (11 : Int32).toInt = 11 := by decide
              omega
            have hr_77 : (x_42 : Int32).toInt ≠ 91 := by
              have z_1 := Int32.lt_iff_toInt_lt.mp (Int32.not_le.mp c_23)
              have z_2 := Int32.le_iff_toInt_le.mp (Int32.not_lt.mp c_35)
              have z_3 := congrArg Int32.toInt c_64
              have y_0 : (0 : Int32).toInt = 0 := by decide
              have y_11 : (11 : Int32).toInt = 11 := by decide
              omega
            have hi_78 : (x_40 : Int32).toInt = (vy_8 : Int32).toInt - 1 := by
              have z_1 := Int32.lt_iff_toInt_lt.mp (Int32.not_le.mp c_23)
              have z_2 := Int32.le_iff_toInt_le.mp (Int32.not_lt.mp c_35)
              have z_3 := congrArg Int32.toInt c_64
              have y_0 : (0 : Int32).toInt = 0 := by decide
              have y_11 : (11 : Int32).toInt = 11 := by decide
              have y_1 : (1 : Int32).toInt = 1 := by decide
              have t_x_40 : x_40.toInt = (vy_8 : Int32).toInt - (1 : Int32).toInt := by rw [ex_40]; exact sub_toInt (by omega) (by omega)
              omega
            have hr_79 : 0 ≤ (x_40 : Int32).toInt := by
              have z_1 := Int32.lt_iff_toInt_lt.mp (Int32.not_le.mp c_23)
              have z_2 := Int32.le_iff_toInt_le.mp (Int32.not_lt.mp c_35)
              have z_3 := congrArg Int32.toInt c_64
              have y_0 : (0 : Int32).toInt = 0 := by decide
              have y_11 : (11 : Int32).toInt = 11 := by decide
              have y_1 : (1 : Int32).toInt = 1 := by decide
              have t_x_40 : x_40.toInt = (vy_8 : Int32).toInt - (1 : Int32).toInt := by rw [ex_40]; exact sub_toInt (by omega) (by omega)
              omega
            exact ih_13 x_40 sv_57 sv_58 x_72 _ _ _ (by omega) (pf_51 _ _ pf_59) ha_74 (Agr.trans (k' := (400 * ((Mv 5) : Int32).toInt + ((Mf 3) (Mv 5).toNatClampNeg).toInt)) (Agr.mono pf_17 hr_75) pf_60 ⟨Int.le_refl _, hr_76⟩) (InK.step pf_18 ex_42 hr_77 hi_78 hr_79) (hP.sub [1, 2, 3, 0] rfl) (hD.sub [1, 2, 3, 0] rfl rfl) hS (lv_sub hl [0, 1] rfl)
  have ha_80 : ((Mf 3) (Mv 5).toNatClampNeg).toInt + ((Mv 9) : Int32).toInt = ((Mf 3) (Mv 5).toNatClampNeg).toInt + ((Mv 9) : Int32).toInt ∧ 0 ≤ ((Mv 9) : Int32).toInt ∧ ((Mv 9) : Int32).toInt ≤ ((Mv 9) : Int32).toInt := by
    refine ⟨?_, ?_, ?_⟩ <;> omega
  exact loop_14 _ (Mv 9) (Mf 2) (Mf 3) (Mv 7) _ _ _ (Nat.lt_succ_self _) h_ls ha_80 (Agr.rf) (InK.rf) hP hD hS hl
set_option maxHeartbeats 4000000 in
set_option maxRecDepth 100000 in
theorem ct_X12_fact (l : Launch) (D : va_G) (tc : Nat → ClassId) (sk : (Nat → Nat) × (Nat → Nat)) (Ma : Nat → Nat) (Mv : Nat → Int32) (Mf : Nat → Nat → Int32) (Mj : Nat → Int64) (b : Int32) (h_nx : 0 ≤ ((Mv 2) : Int32).toInt ∧ ((Mv 2) : Int32).toInt ≤ ((Mv 0) : Int32).toInt ∧ ((Mv 0) : Int32).toInt ≤ 400) (h_lb : LBR (Mf 7) (Mv 9) (Mf 2) (Mf 3) (Mv 5) b (Mv 6)) (h_s : ((Mf 3) (Mv 5).toNatClampNeg).toInt + ((Mv 9) : Int32).toInt ≤ ((Mv 2) : Int32).toInt) (h_md : 0 ≤ ((Mv 6) : Int32).toInt ∧ ((Mv 6) : Int32).toInt ≤ 60) : Ct l yX12_fact cX12_fact 3 (some .boolean) { frames := 7, cells := 0, slots := 0, locals := 154 } D tc sk [.ref (Ma 0)] [((Ma 0), .inr (12, [.ref (Ma 1), .int (Mv 0), .int (Mv 1), .ref (Ma 2), .ref (Ma 3), .ref (Ma 4), .ref (Ma 5), .ref (Ma 6), .int (Mv 2), .int (Mv 3), .int (Mv 4), .int (Mv 5), .int (Mv 6), .int (Mv 7), .int (Mv 8), .ref (Ma 7), .int (Mv 9), .ref (Ma 8), .int (Mv 10), .ref (Ma 9), .ref (Ma 10), .int (Mv 11), .int (Mv 12), .int (Mv 13), .ref (Ma 11), .int (Mv 14), .ref (Ma 12), .ref (Ma 13), .ref (Ma 14), .ref (Ma 15), .ref (Ma 16), .long (Mj 0), .ref (Ma 17), .ref (Ma 18), .ref (Ma 19), .ref (Ma 20)])), ((Ma 1), .inl (tc 2, 400, .inl (Mf 1))), ((Ma 2), .inl (tc 0, 2400, .inl (Mf 2))), ((Ma 3), .inl (tc 0, 7, .inl (Mf 3))), ((Ma 7), .inl (tc 0, 400, .inl (Mf 7)))] (fun (v : Option Value) (u : (Int32) × (Int32) × (Int32) × (Int32) × (Int32) × (Int32) × (Nat → Int32) × (Nat → Int32) × (Nat → Int32)) => match u with | (oo0x1, oo0x2, oo0x3, oo0x4, oo0x5, oo0x6, oo0x7, oo0x8, oo0x9) => ∃ r : Int32, v = some (.int r) ∧ (((r.toInt = 0 ∧ ¬ (oo0x2 : Int32).toInt = 0) ∨ (r.toInt = 1 ∧ (oo0x8 (Mv 5).toNatClampNeg).toInt + (oo0x6 : Int32).toInt + ((Mv 2) : Int32).toInt ≤ ((Mf 3) (Mv 5).toNatClampNeg).toInt + ((Mv 9) : Int32).toInt + (oo0x1 : Int32).toInt ∧ ((Mv 2) : Int32).toInt + 1 ≤ (oo0x1 : Int32).toInt))) ∧ (((Mv 2) : Int32).toInt ≤ (oo0x1 : Int32).toInt ∧ (oo0x1 : Int32).toInt ≤ ((Mv 0) : Int32).toInt) ∧ (((Mv 6) : Int32).toInt ≤ (oo0x4 : Int32).toInt ∧ (oo0x4 : Int32).toInt ≤ 60) ∧ (Agr (Mf 2) oo0x7 (400 * ((Mv 5) : Int32).toInt + ((Mf 3) (Mv 5).toNatClampNeg).toInt)) ∧ (r.toInt = 1 → (LSR oo0x9 oo0x6 oo0x7 oo0x8 (Mv 5) b oo0x4))) (fun (u : (Int32) × (Int32) × (Int32) × (Int32) × (Int32) × (Int32) × (Nat → Int32) × (Nat → Int32) × (Nat → Int32)) => match u with | (oo0x1, oo0x2, oo0x3, oo0x4, oo0x5, oo0x6, oo0x7, oo0x8, oo0x9) => [((Ma 0), .inr (12, [.ref (Ma 1), .int (Mv 0), .int (Mv 1), .ref (Ma 2), .ref (Ma 3), .ref (Ma 4), .ref (Ma 5), .ref (Ma 6), .int oo0x1, .int oo0x2, .int oo0x3, .int (Mv 5), .int oo0x4, .int oo0x5, .int (Mv 8), .ref (Ma 7), .int oo0x6, .ref (Ma 8), .int (Mv 10), .ref (Ma 9), .ref (Ma 10), .int (Mv 11), .int (Mv 12), .int (Mv 13), .ref (Ma 11), .int (Mv 14), .ref (Ma 12), .ref (Ma 13), .ref (Ma 14), .ref (Ma 15), .ref (Ma 16), .long (Mj 0), .ref (Ma 17), .ref (Ma 18), .ref (Ma 19), .ref (Ma 20)])), ((Ma 1), .inl (tc 2, 400, .inl (Mf 1))), ((Ma 2), .inl (tc 0, 2400, .inl oo0x7)), ((Ma 3), .inl (tc 0, 7, .inl oo0x8)), ((Ma 7), .inl (tc 0, 400, .inl oo0x9))]) 0 0 := by
  refine Ct.start (by decide) (Nat.le_of_ble_eq_true rfl) (fun p e s m below meth c A ls hx hb hr hlk hin hml hown hts hK hX hP hD hA hl hS => ?_)
  have hl : lv_has ls 3 [(0, .ref (Ma 0))] := hl
  obtain ⟨pn_1, pf_2, pf_3⟩ := id h_lb
  have ar_h_lb := LBR.ar h_lb
  have ar_pf_3 := Cd.ar pf_3
  refine lv_iconst (v := 1) hx hb dX12_fact_0 (by decide) ?_
  refine lv_istore_n (lv' := [(1, .int 1), (0, .ref (Ma 0))]) hx hb dX12_fact_1 rfl hl (by decide) rfl (fun ls hl => ?_)
  have loop_18 : ∀ (n_16 : Nat) (vy_10 : Int32) (vy_11 : Int32) (vy_12 : Int32) (vy_13 : Int32) (vy_14 : Int32) (vy_15 : Nat → Int32) (H : Heap) (locs : List Loc) (ls : Array Slot), (2 * (400 - (vy_11 : Int32).toInt) + (vy_10 : Int32).toInt).toNat < n_16 → (0 ≤ (vy_11 : Int32).toInt ∧ (vy_11 : Int32).toInt ≤ ((Mv 0) : Int32).toInt ∧ ((Mv 0) : Int32).toInt ≤ 400) → ((Mv 2).toInt ≤ (vy_11 : Int32).toInt) → (0 ≤ (vy_10 : Int32).toInt ∧ (vy_10 : Int32).toInt ≤ 1) → (LBR vy_15 vy_14 (Mf 2) (Mf 3) (Mv 5) b (Mv 6)) → ((vy_14 : Int32).toInt + ((Mv 2) : Int32).toInt ≤ ((Mv 9) : Int32).toInt + (vy_11 : Int32).toInt ∧ 0 ≤ (vy_14 : Int32).toInt) → va_P D classes [((Ma 0), .inr (12, [.ref (Ma 1), .int (Mv 0), .int (Mv 1), .ref (Ma 2), .ref (Ma 3), .ref (Ma 4), .ref (Ma 5), .ref (Ma 6), .int vy_11, .int vy_12, .int (Mv 4), .int (Mv 5), .int (Mv 6), .int vy_13, .int (Mv 8), .ref (Ma 7), .int vy_14, .ref (Ma 8), .int (Mv 10), .ref (Ma 9), .ref (Ma 10), .int (Mv 11), .int (Mv 12), .int (Mv 13), .ref (Ma 11), .int (Mv 14), .ref (Ma 12), .ref (Ma 13), .ref (Ma 14), .ref (Ma 15), .ref (Ma 16), .long (Mj 0), .ref (Ma 17), .ref (Ma 18), .ref (Ma 19), .ref (Ma 20)])), ((Ma 1), .inl (tc 2, 400, .inl (Mf 1))), ((Ma 2), .inl (tc 0, 2400, .inl (Mf 2))), ((Ma 3), .inl (tc 0, 7, .inl (Mf 3))), ((Ma 7), .inl (tc 0, 400, .inl vy_15))] H → va_D A [((Ma 0), .inr (12, [.ref (Ma 1), .int (Mv 0), .int (Mv 1), .ref (Ma 2), .ref (Ma 3), .ref (Ma 4), .ref (Ma 5), .ref (Ma 6), .int vy_11, .int vy_12, .int (Mv 4), .int (Mv 5), .int (Mv 6), .int vy_13, .int (Mv 8), .ref (Ma 7), .int vy_14, .ref (Ma 8), .int (Mv 10), .ref (Ma 9), .ref (Ma 10), .int (Mv 11), .int (Mv 12), .int (Mv 13), .ref (Ma 11), .int (Mv 14), .ref (Ma 12), .ref (Ma 13), .ref (Ma 14), .ref (Ma 15), .ref (Ma 16), .long (Mj 0), .ref (Ma 17), .ref (Ma 18), .ref (Ma 19), .ref (Ma 20)])), ((Ma 1), .inl (tc 2, 400, .inl (Mf 1))), ((Ma 2), .inl (tc 0, 2400, .inl (Mf 2))), ((Ma 3), .inl (tc 0, 7, .inl (Mf 3))), ((Ma 7), .inl (tc 0, 400, .inl vy_15))] → va_S A s.heap H locs → lv_has ls 3 [(1, .int vy_10), (0, .ref (Ma 0))] → W p l e ({ frames := 7, cells := 0, slots := 0, locals := 154 }) s m ([.ref (Ma 0)].toArray) below meth c H locs 0 0 (MQ below (QW (fun (v : Option Value) (u : (Int32) × (Int32) × (Int32) × (Int32) × (Int32) × (Int32) × (Nat → Int32) × (Nat → Int32) × (Nat → Int32)) => match u with | (oo0x1, oo0x2, oo0x3, oo0x4, oo0x5, oo0x6, oo0x7, oo0x8, oo0x9) => ∃ r : Int32, v = some (.int r) ∧ (((r.toInt = 0 ∧ ¬ (oo0x2 : Int32).toInt = 0) ∨ (r.toInt = 1 ∧ (oo0x8 (Mv 5).toNatClampNeg).toInt + (oo0x6 : Int32).toInt + ((Mv 2) : Int32).toInt ≤ ((Mf 3) (Mv 5).toNatClampNeg).toInt + ((Mv 9) : Int32).toInt + (oo0x1 : Int32).toInt ∧ ((Mv 2) : Int32).toInt + 1 ≤ (oo0x1 : Int32).toInt))) ∧ (((Mv 2) : Int32).toInt ≤ (oo0x1 : Int32).toInt ∧ (oo0x1 : Int32).toInt ≤ ((Mv 0) : Int32).toInt) ∧ (((Mv 6) : Int32).toInt ≤ (oo0x4 : Int32).toInt ∧ (oo0x4 : Int32).toInt ≤ 60) ∧ (Agr (Mf 2) oo0x7 (400 * ((Mv 5) : Int32).toInt + ((Mf 3) (Mv 5).toNatClampNeg).toInt)) ∧ (r.toInt = 1 → (LSR oo0x9 oo0x6 oo0x7 oo0x8 (Mv 5) b oo0x4))) (BW D (fun (u : (Int32) × (Int32) × (Int32) × (Int32) × (Int32) × (Int32) × (Nat → Int32) × (Nat → Int32) × (Nat → Int32)) => match u with | (oo0x1, oo0x2, oo0x3, oo0x4, oo0x5, oo0x6, oo0x7, oo0x8, oo0x9) => [((Ma 0), .inr (12, [.ref (Ma 1), .int (Mv 0), .int (Mv 1), .ref (Ma 2), .ref (Ma 3), .ref (Ma 4), .ref (Ma 5), .ref (Ma 6), .int oo0x1, .int oo0x2, .int oo0x3, .int (Mv 5), .int oo0x4, .int oo0x5, .int (Mv 8), .ref (Ma 7), .int oo0x6, .ref (Ma 8), .int (Mv 10), .ref (Ma 9), .ref (Ma 10), .int (Mv 11), .int (Mv 12), .int (Mv 13), .ref (Ma 11), .int (Mv 14), .ref (Ma 12), .ref (Ma 13), .ref (Ma 14), .ref (Ma 15), .ref (Ma 16), .long (Mj 0), .ref (Ma 17), .ref (Ma 18), .ref (Ma 19), .ref (Ma 20)])), ((Ma 1), .inl (tc 2, 400, .inl (Mf 1))), ((Ma 2), .inl (tc 0, 2400, .inl oo0x7)), ((Ma 3), .inl (tc 0, 7, .inl oo0x8)), ((Ma 7), .inl (tc 0, 400, .inl oo0x9))]) A) A) ([.ref (Ma 0)].toArray) s 0 0 A) (F0 m 2 ls []) := by
    intro n_16
    induction n_16 with
    | zero =>
      intro vy_10 vy_11 vy_12 vy_13 vy_14 vy_15 H locs ls h1
      exact absurd h1 (Nat.not_lt_zero _)
    | succ n_16 ih_17 =>
      intro vy_10 vy_11 vy_12 vy_13 vy_14 vy_15 H locs ls hn_24 pf_19 pf_20 pf_21 pf_22 pf_23 hP hD hS hl
      obtain ⟨pn_25, pf_26, pf_27⟩ := id pf_22
      have ar_pf_22 := LBR.ar pf_22
      have ar_pf_27 := Cd.ar pf_27
      refine lv_iload_n hx hb dX12_fact_2 rfl (lv_at hl 0 rfl) ?_
      refine lv_if_eq (tgt := 75) hx hb dX12_fact_3 (by decide) (fun c_28 => ?_) (fun c_28 => ?_)
      · skip
        refine lv_aload_n hx hb dX12_fact_75 rfl (lv_at hl 1 rfl) ?_
        have ha_29 : 0 ≤ (vy_11 : Int32).toInt ∧ (vy_11 : Int32).toInt ≤ ((Mv 0) : Int32).toInt ∧ ((Mv 0) : Int32).toInt ≤ 400 := by
          have z_1 := congrArg Int32.toInt c_28
          have y_0 : (0 : Int32).toInt = 0 := by decide
          refine ⟨?_, ?_, ?_⟩ <;> omega
        have ha_30 : ((Mf 3) (Mv 5).toNatClampNeg).toInt ≤ (vy_11 : Int32).toInt := by
          have z_1 := congrArg Int32.toInt c_28
          have y_0 : (0 : Int32).toInt = 0 := by decide
          omega
        have ha_31 : 0 ≤ ((Mv 6) : Int32).toInt ∧ ((Mv 6) : Int32).toInt ≤ 60 := by
          have z_1 := congrArg Int32.toInt c_28
          have y_0 : (0 : Int32).toInt = 0 := by decide
          refine ⟨?_, ?_⟩ <;> omega
        refine cV (a := (Ma 0)) (As := []) (rest := []) (wr := [((Ma 7), .inl (tc 0, 400, .inl vy_15))]) ⟨hx, hb, hml, hown, hts⟩ hK hX hA (ct_X12_compare l D tc sk Ma (fun k => ([(Mv 0), (Mv 1), vy_11, vy_12, (Mv 4), (Mv 5), (Mv 6), vy_13, (Mv 8), vy_14, (Mv 10), (Mv 11), (Mv 12), (Mv 13), (Mv 14)] : List (Int32)).getD k 0) Mf Mj b pn_25 ha_29 pf_27 ha_30 ha_31) k_1334 k_1331 k_1333 k_52 k_106 pl_X12_compare ⟨Nat.le_of_ble_eq_true rfl, Nat.le_of_ble_eq_true rfl⟩ rfl rfl (va_recv hK hP (ci := 12) (q0 := 0) rfl rfl) hP hD hS [0, 1, 2, 3] [4] rfl rfl rfl rfl rfl (by decide) rfl hl.1 rfl (Nat.le_of_ble_eq_true rfl) dX12_fact_76 ⟨Nat.le_of_ble_eq_true rfl, Nat.le_of_ble_eq_true rfl⟩ (fun v_32 u_33 H locs hv_34 hP hD hS => ?_)
        obtain ⟨sv_35, sv_36, sv_37, sv_38, sv_39, sv_40⟩ := u_33
        obtain ⟨r_44, rfl, he_45, pf_41, pf_42, pf_43, hm_47⟩ := hv_34
        have he_45 : ((r_44.toInt = 0 ∧ ¬ (sv_36 : Int32).toInt = 0) ∨ (r_44.toInt = 1 ∧ ((Mf 3) (Mv 5).toNatClampNeg).toInt + 1 ≤ (sv_40 (Mv 5).toNatClampNeg).toInt ∧ (sv_40 (Mv 5).toNatClampNeg).toInt + (vy_11 : Int32).toInt ≤ ((Mf 3) (Mv 5).toNatClampNeg).toInt + (sv_35 : Int32).toInt ∧ (vy_11 : Int32).toInt + 1 ≤ (sv_35 : Int32).toInt)) := he_45
        have pf_41 : (vy_11 : Int32).toInt ≤ (sv_35 : Int32).toInt ∧ (sv_35 : Int32).toInt ≤ ((Mv 0) : Int32).toInt := pf_41
        have pf_42 : ((Mv 6) : Int32).toInt ≤ (sv_38 : Int32).toInt ∧ (sv_38 : Int32).toInt ≤ 60 := pf_42
        have pf_43 : Agr (Mf 2) sv_39 (400 * ((Mv 5) : Int32).toInt + ((Mf 3) (Mv 5).toNatClampNeg).toInt) := pf_43
        refine W.eq (g2 := F0 m 79 ls [.int r_44]) rfl ?_
        have hP : va_P D classes [((Ma 7), .inl (tc 0, 400, .inl vy_15)), ((Ma 0), .inr (12, [.ref (Ma 1), .int (Mv 0), .int (Mv 1), .ref (Ma 2), .ref (Ma 3), .ref (Ma 4), .ref (Ma 5), .ref (Ma 6), .int sv_35, .int sv_36, .int sv_37, .int (Mv 5), .int sv_38, .int vy_13, .int (Mv 8), .ref (Ma 7), .int vy_14, .ref (Ma 8), .int (Mv 10), .ref (Ma 9), .ref (Ma 10), .int (Mv 11), .int (Mv 12), .int (Mv 13), .ref (Ma 11), .int (Mv 14), .ref (Ma 12), .ref (Ma 13), .ref (Ma 14), .ref (Ma 15), .ref (Ma 16), .long (Mj 0), .ref (Ma 17), .ref (Ma 18), .ref (Ma 19), .ref (Ma 20)])), ((Ma 1), .inl (tc 2, 400, .inl (Mf 1))), ((Ma 2), .inl (tc 0, 2400, .inl sv_39)), ((Ma 3), .inl (tc 0, 7, .inl sv_40))] H := hP
        have hD : va_D A [((Ma 7), .inl (tc 0, 400, .inl vy_15)), ((Ma 0), .inr (12, [.ref (Ma 1), .int (Mv 0), .int (Mv 1), .ref (Ma 2), .ref (Ma 3), .ref (Ma 4), .ref (Ma 5), .ref (Ma 6), .int sv_35, .int sv_36, .int sv_37, .int (Mv 5), .int sv_38, .int vy_13, .int (Mv 8), .ref (Ma 7), .int vy_14, .ref (Ma 8), .int (Mv 10), .ref (Ma 9), .ref (Ma 10), .int (Mv 11), .int (Mv 12), .int (Mv 13), .ref (Ma 11), .int (Mv 14), .ref (Ma 12), .ref (Ma 13), .ref (Ma 14), .ref (Ma 15), .ref (Ma 16), .long (Mj 0), .ref (Ma 17), .ref (Ma 18), .ref (Ma 19), .ref (Ma 20)])), ((Ma 1), .inl (tc 2, 400, .inl (Mf 1))), ((Ma 2), .inl (tc 0, 2400, .inl sv_39)), ((Ma 3), .inl (tc 0, 7, .inl sv_40))] := hD
        have ha_48 : ((Mv 2) : Int32).toInt ≤ (sv_35 : Int32).toInt ∧ (sv_35 : Int32).toInt ≤ ((Mv 0) : Int32).toInt := by
          have z_1 := congrArg Int32.toInt c_28
          have y_0 : (0 : Int32).toInt = 0 := by decide
          refine ⟨?_, ?_⟩ <;> omega
        have ha_49 : ((Mv 6) : Int32).toInt ≤ (sv_38 : Int32).toInt ∧ (sv_38 : Int32).toInt ≤ 60 := by
          have z_1 := congrArg Int32.toInt c_28
          have y_0 : (0 : Int32).toInt = 0 := by decide
          refine ⟨?_, ?_⟩ <;> omega
        have hb_50 : (r_44 : Int32).toInt = 0 ∨ (r_44 : Int32).toInt = 1 := by
          have z_1 := congrArg Int32.toInt c_28
          have y_0 : (0 : Int32).toInt = 0 := by decide
          omega
        have hp_51 : (((r_44 : Int32).toInt = 0 ∧ ¬ (sv_36 : Int32).toInt = 0) ∨ ((r_44 : Int32).toInt = 1 ∧ (sv_40 (Mv 5).toNatClampNeg).toInt + (vy_14 : Int32).toInt + ((Mv 2) : Int32).toInt ≤ ((Mf 3) (Mv 5).toNatClampNeg).toInt + ((Mv 9) : Int32).toInt + (sv_35 : Int32).toInt ∧ ((Mv 2) : Int32).toInt + 1 ≤ (sv_35 : Int32).toInt)) := by
          have z_1 := congrArg Int32.toInt c_28
          have y_0 : (0 : Int32).toInt = 0 := by decide
          omega
        have hm_52 : (r_44 : Int32).toInt = 1 → (LSR vy_15 vy_14 sv_39 sv_40 (Mv 5) b sv_38) := by
          intro h1r
          obtain pf_53 := hm_47 h1r
          have pf_53 : Cd sv_39 sv_40 (Mv 5) b sv_38 (pn_25 + 1) := pf_53
          have ar_pf_53 := Cd.ar pf_53
          exact ⟨pn_25, pf_26, pf_53⟩
        exact retI (v := r_44) hx hb hr hlk (nar01 hb_50) hP hD hS (sv_35, sv_36, sv_37, sv_38, vy_13, vy_14, sv_39, sv_40, vy_15) ⟨_, rfl, hp_51, ha_48, ha_49, pf_43, hm_52⟩ [1, 2, 3, 4, 0] rfl rfl dX12_fact_79 (Nat.le_of_ble_eq_true rfl) (Nat.le_of_ble_eq_true rfl) rfl
      · skip
        refine lv_iconst (v := 0) hx hb dX12_fact_6 (by decide) ?_
        refine lv_istore_n (lv' := [(1, .int 0), (0, .ref (Ma 0))]) hx hb dX12_fact_7 rfl hl (by decide) rfl (fun ls hl => ?_)
        refine lv_aload_n hx hb dX12_fact_8 rfl (lv_at hl 1 rfl) ?_
        have ha_54 : 0 ≤ (vy_11 : Int32).toInt ∧ (vy_11 : Int32).toInt ≤ ((Mv 0) : Int32).toInt ∧ ((Mv 0) : Int32).toInt ≤ 400 := by
          have z_1 : ¬ (vy_10 : Int32).toInt = (0 : Int32).toInt := fun z => c_28 (Int32.toInt_inj.mp z)
          have y_0 : (0 : Int32).toInt = 0 := by decide
          refine ⟨?_, ?_, ?_⟩ <;> omega
        refine cV (a := (Ma 0)) (As := []) (rest := []) (wr := [((Ma 2), .inl (tc 0, 2400, .inl (Mf 2))), ((Ma 3), .inl (tc 0, 7, .inl (Mf 3))), ((Ma 7), .inl (tc 0, 400, .inl vy_15))]) ⟨hx, hb, hml, hown, hts⟩ hK hX hA (ct_X12_see l D tc sk Ma (fun k => ([(Mv 0), (Mv 1), vy_11, vy_12, (Mv 4), (Mv 5), (Mv 6), vy_13, (Mv 8), vy_14, (Mv 10), (Mv 11), (Mv 12), (Mv 13), (Mv 14)] : List (Int32)).getD k 0) Mf Mj ha_54) k_1211 k_1208 k_1210 k_27 k_106 pl_X12_see ⟨Nat.le_of_ble_eq_true rfl, Nat.le_of_ble_eq_true rfl⟩ rfl rfl (va_recv hK hP (ci := 12) (q0 := 0) rfl rfl) hP hD hS [0, 1] [2, 3, 4] rfl rfl rfl rfl rfl (by decide) rfl hl.1 rfl (Nat.le_of_ble_eq_true rfl) dX12_fact_9 ⟨Nat.le_of_ble_eq_true rfl, Nat.le_of_ble_eq_true rfl⟩ (fun v_55 u_56 H locs hv_57 hP hD hS => ?_)
        obtain ⟨sv_58, rfl⟩ : ∃ z, z = u_56 := ⟨_, rfl⟩
        obtain ⟨r_62, rfl, he_63, pf_59, pf_60, pf_61⟩ := hv_57
        have he_63 : (r_62.toInt = -1 ∨ (sv_58 : Int32).toInt < ((Mv 0) : Int32).toInt) := he_63
        have pf_59 : (vy_11 : Int32).toInt ≤ (sv_58 : Int32).toInt ∧ (sv_58 : Int32).toInt ≤ ((Mv 0) : Int32).toInt := pf_59
        have pf_60 : NSq (Mf 1) (Mv 0) sv_58 := pf_60
        have pf_61 : Stl (Mf 1) (Mv 0) vy_11 sv_58 := pf_61
        refine W.eq (g2 := F0 m 12 ls [.int r_62]) rfl ?_
        have hP : va_P D classes [((Ma 2), .inl (tc 0, 2400, .inl (Mf 2))), ((Ma 3), .inl (tc 0, 7, .inl (Mf 3))), ((Ma 7), .inl (tc 0, 400, .inl vy_15)), ((Ma 0), .inr (12, [.ref (Ma 1), .int (Mv 0), .int (Mv 1), .ref (Ma 2), .ref (Ma 3), .ref (Ma 4), .ref (Ma 5), .ref (Ma 6), .int sv_58, .int vy_12, .int (Mv 4), .int (Mv 5), .int (Mv 6), .int vy_13, .int (Mv 8), .ref (Ma 7), .int vy_14, .ref (Ma 8), .int (Mv 10), .ref (Ma 9), .ref (Ma 10), .int (Mv 11), .int (Mv 12), .int (Mv 13), .ref (Ma 11), .int (Mv 14), .ref (Ma 12), .ref (Ma 13), .ref (Ma 14), .ref (Ma 15), .ref (Ma 16), .long (Mj 0), .ref (Ma 17), .ref (Ma 18), .ref (Ma 19), .ref (Ma 20)])), ((Ma 1), .inl (tc 2, 400, .inl (Mf 1)))] H := hP
        have hD : va_D A [((Ma 2), .inl (tc 0, 2400, .inl (Mf 2))), ((Ma 3), .inl (tc 0, 7, .inl (Mf 3))), ((Ma 7), .inl (tc 0, 400, .inl vy_15)), ((Ma 0), .inr (12, [.ref (Ma 1), .int (Mv 0), .int (Mv 1), .ref (Ma 2), .ref (Ma 3), .ref (Ma 4), .ref (Ma 5), .ref (Ma 6), .int sv_58, .int vy_12, .int (Mv 4), .int (Mv 5), .int (Mv 6), .int vy_13, .int (Mv 8), .ref (Ma 7), .int vy_14, .ref (Ma 8), .int (Mv 10), .ref (Ma 9), .ref (Ma 10), .int (Mv 11), .int (Mv 12), .int (Mv 13), .ref (Ma 11), .int (Mv 14), .ref (Ma 12), .ref (Ma 13), .ref (Ma 14), .ref (Ma 15), .ref (Ma 16), .long (Mj 0), .ref (Ma 17), .ref (Ma 18), .ref (Ma 19), .ref (Ma 20)])), ((Ma 1), .inl (tc 2, 400, .inl (Mf 1)))] := hD
        refine lv_istore_n (lv' := [(2, .int r_62), (1, .int 0), (0, .ref (Ma 0))]) hx hb dX12_fact_12 rfl hl (by decide) rfl (fun ls hl => ?_)
        refine lv_aload_n hx hb dX12_fact_13 rfl (lv_at hl 2 rfl) ?_
        refine lv_ldc2 hx hb hown (hts _ k_1326) dX12_fact_14 ?_
        have ha_65 : 0 ≤ (sv_58 : Int32).toInt ∧ (sv_58 : Int32).toInt ≤ ((Mv 0) : Int32).toInt ∧ ((Mv 0) : Int32).toInt ≤ 400 := by
          have z_1 : ¬ (vy_10 : Int32).toInt = (0 : Int32).toInt := fun z => c_28 (Int32.toInt_inj.mp z)
          have y_0 : (0 : Int32).toInt = 0 := by decide
          refine ⟨?_, ?_, ?_⟩ <;> omega
        refine cV (a := (Ma 0)) (As := [.long 7237492]) (rest := []) (wr := [((Ma 2), .inl (tc 0, 2400, .inl (Mf 2))), ((Ma 3), .inl (tc 0, 7, .inl (Mf 3))), ((Ma 7), .inl (tc 0, 400, .inl vy_15))]) ⟨hx, hb, hml, hown, hts⟩ hK hX hA (ct_X12_isWord l D tc sk Ma (fun k => ([(Mv 0), (Mv 1), sv_58, vy_12, (Mv 4), (Mv 5), (Mv 6), vy_13, (Mv 8), vy_14, (Mv 10), (Mv 11), (Mv 12), (Mv 13), (Mv 14)] : List (Int32)).getD k 0) Mf Mj 7237492 ha_65) k_1220 k_1217 k_1219 k_29 k_106 pl_X12_isWord ⟨Nat.le_of_ble_eq_true rfl, Nat.le_of_ble_eq_true rfl⟩ rfl rfl (va_recv hK hP (ci := 12) (q0 := 3) rfl rfl) hP hD hS [3, 4] [0, 1, 2] rfl rfl rfl rfl rfl (by decide) rfl hl.1 rfl (Nat.le_of_ble_eq_true rfl) dX12_fact_17 ⟨Nat.le_of_ble_eq_true rfl, Nat.le_of_ble_eq_true rfl⟩ (fun v_66 u_67 H locs hv_68 hP hD hS => ?_)
        obtain ⟨sv_69, rfl⟩ : ∃ z, z = u_67 := ⟨_, rfl⟩
        obtain ⟨r_73, rfl, he_74, pf_70, pf_71, pf_72, hm_76⟩ := hv_68
        have he_74 : (r_73.toInt = 0 ∨ r_73.toInt = 1) := he_74
        have pf_70 : (sv_58 : Int32).toInt ≤ (sv_69 : Int32).toInt ∧ (sv_69 : Int32).toInt ≤ ((Mv 0) : Int32).toInt := pf_70
        have pf_71 : NSq (Mf 1) (Mv 0) sv_69 := pf_71
        have pf_72 : Stl (Mf 1) (Mv 0) sv_58 sv_69 := pf_72
        have ar_pf_72 := Stl.or pf_72 pf_60
        refine W.eq (g2 := F0 m 20 ls [.int r_73]) rfl ?_
        have hP : va_P D classes [((Ma 2), .inl (tc 0, 2400, .inl (Mf 2))), ((Ma 3), .inl (tc 0, 7, .inl (Mf 3))), ((Ma 7), .inl (tc 0, 400, .inl vy_15)), ((Ma 0), .inr (12, [.ref (Ma 1), .int (Mv 0), .int (Mv 1), .ref (Ma 2), .ref (Ma 3), .ref (Ma 4), .ref (Ma 5), .ref (Ma 6), .int sv_69, .int vy_12, .int (Mv 4), .int (Mv 5), .int (Mv 6), .int vy_13, .int (Mv 8), .ref (Ma 7), .int vy_14, .ref (Ma 8), .int (Mv 10), .ref (Ma 9), .ref (Ma 10), .int (Mv 11), .int (Mv 12), .int (Mv 13), .ref (Ma 11), .int (Mv 14), .ref (Ma 12), .ref (Ma 13), .ref (Ma 14), .ref (Ma 15), .ref (Ma 16), .long (Mj 0), .ref (Ma 17), .ref (Ma 18), .ref (Ma 19), .ref (Ma 20)])), ((Ma 1), .inl (tc 2, 400, .inl (Mf 1)))] H := hP
        have hD : va_D A [((Ma 2), .inl (tc 0, 2400, .inl (Mf 2))), ((Ma 3), .inl (tc 0, 7, .inl (Mf 3))), ((Ma 7), .inl (tc 0, 400, .inl vy_15)), ((Ma 0), .inr (12, [.ref (Ma 1), .int (Mv 0), .int (Mv 1), .ref (Ma 2), .ref (Ma 3), .ref (Ma 4), .ref (Ma 5), .ref (Ma 6), .int sv_69, .int vy_12, .int (Mv 4), .int (Mv 5), .int (Mv 6), .int vy_13, .int (Mv 8), .ref (Ma 7), .int vy_14, .ref (Ma 8), .int (Mv 10), .ref (Ma 9), .ref (Ma 10), .int (Mv 11), .int (Mv 12), .int (Mv 13), .ref (Ma 11), .int (Mv 14), .ref (Ma 12), .ref (Ma 13), .ref (Ma 14), .ref (Ma 15), .ref (Ma 16), .long (Mj 0), .ref (Ma 17), .ref (Ma 18), .ref (Ma 19), .ref (Ma 20)])), ((Ma 1), .inl (tc 2, 400, .inl (Mf 1)))] := hD
        refine lv_if_eq (tgt := 43) hx hb dX12_fact_20 (by decide) (fun c_77 => ?_) (fun c_77 => ?_)
        · skip
          refine lv_iload_n hx hb dX12_fact_43 rfl (lv_at hl 0 rfl) ?_
          refine lv_bipush (v := 91) hx hb dX12_fact_44 (by decide) ?_
          refine lv_icmp_ne (tgt := 72) hx hb dX12_fact_46 (by decide) (fun c_78 => ?_) (fun c_78 => ?_)
          · skip
            refine lv_goto (tgt := 2) hx hb dX12_fact_72 (by decide) ?_
            have hb_79 : 2 * (400 - (sv_69 : Int32).toInt) + (0 : Int32).toInt < 2 * (400 - (vy_11 : Int32).toInt) + (vy_10 : Int32).toInt ∧ 1 ≤ 2 * (400 - (vy_11 : Int32).toInt) + (vy_10 : Int32).toInt := by
              have z_1 : ¬ (vy_10 : Int32).toInt = (0 : Int32).toInt := fun z => c_28 (Int32.toInt_inj.mp z)
              have z_2 := congrArg Int32.toInt c_77
              have z_3 : ¬ (r_62 : Int32).toInt = (91 : Int32).toInt := fun z => c_78 (Int32.toInt_inj.mp z)
              have y_0 : (0 : Int32).toInt = 0 := by decide
              have y_91 : (91 : Int32).toInt = 91 := by decide
              refine ⟨?_, ?_⟩ <;> omega
            have ha_80 : 0 ≤ (sv_69 : Int32).toInt ∧ (sv_69 : Int32).toInt ≤ ((Mv 0) : Int32).toInt ∧ ((Mv 0) : Int32).toInt ≤ 400 := by
              have z_1 : ¬ (vy_10 : Int32).toInt = (0 : Int32).toInt := fun z => c_28 (Int32.toInt_inj.mp z)
              have z_2 := congrArg Int32.toInt c_77
              have z_3 : ¬ (r_62 : Int32).toInt = (91 : Int32).toInt := fun z => c_78 (Int32.toInt_inj.mp z)
              have y_0 : (0 : Int32).toInt = 0 := by decide
              have y_91 : (91 : Int32).toInt = 91 := by decide
              refine ⟨?_, ?_, ?_⟩ <;> omega
            have ha_81 : (Mv 2).toInt ≤ (sv_69 : Int32).toInt := by
              have z_1 : ¬ (vy_10 : Int32).toInt = (0 : Int32).toInt := fun z => c_28 (Int32.toInt_inj.mp z)
              have z_2 := congrArg Int32.toInt c_77
              have z_3 : ¬ (r_62 : Int32).toInt = (91 : Int32).toInt := fun z => c_78 (Int32.toInt_inj.mp z)
              have y_0 : (0 : Int32).toInt = 0 := by decide
              have y_91 : (91 : Int32).toInt = 91 := by decide
              omega
            have ha_82 : 0 ≤ (0 : Int32).toInt ∧ (0 : Int32).toInt ≤ 1 := by
              have z_1 : ¬ (vy_10 : Int32).toInt = (0 : Int32).toInt := fun z => c_28 (Int32.toInt_inj.mp z)
              have z_2 := congrArg Int32.toInt c_77
              have z_3 : ¬ (r_62 : Int32).toInt = (91 : Int32).toInt := fun z => c_78 (Int32.toInt_inj.mp z)
              have y_0 : (0 : Int32).toInt = 0 := by decide
              have y_91 : (91 : Int32).toInt = 91 := by decide
              refine ⟨?_, ?_⟩ <;> omega
            have ha_83 : (vy_14 : Int32).toInt + ((Mv 2) : Int32).toInt ≤ ((Mv 9) : Int32).toInt + (sv_69 : Int32).toInt ∧ 0 ≤ (vy_14 : Int32).toInt := by
              have z_1 : ¬ (vy_10 : Int32).toInt = (0 : Int32).toInt := fun z => c_28 (Int32.toInt_inj.mp z)
              have z_2 := congrArg Int32.toInt c_77
              have z_3 : ¬ (r_62 : Int32).toInt = (91 : Int32).toInt := fun z => c_78 (Int32.toInt_inj.mp z)
              have y_0 : (0 : Int32).toInt = 0 := by decide
              have y_91 : (91 : Int32).toInt = 91 := by decide
              refine ⟨?_, ?_⟩ <;> omega
            exact ih_17 0 sv_69 vy_12 vy_13 vy_14 vy_15 _ _ _ (by omega) ha_80 ha_81 ha_82 pf_22 ha_83 (hP.sub [3, 4, 0, 1, 2] rfl) (hD.sub [3, 4, 0, 1, 2] rfl rfl) hS (lv_sub hl [1, 2] rfl)
          · skip
            refine lv_aload_n hx hb dX12_fact_49 rfl (lv_at hl 2 rfl) ?_
            refine lv_bipush (v := 91) hx hb dX12_fact_50 (by decide) ?_
            have ha_84 : 0 ≤ (sv_69 : Int32).toInt ∧ (sv_69 : Int32).toInt ≤ ((Mv 0) : Int32).toInt ∧ ((Mv 0) : Int32).toInt ≤ 400 := by
              have z_1 : ¬ (vy_10 : Int32).toInt = (0 : Int32).toInt := fun z => c_28 (Int32.toInt_inj.mp z)
              have z_2 := congrArg Int32.toInt c_77
              have z_3 := congrArg Int32.toInt c_78
              have y_0 : (0 : Int32).toInt = 0 := by decide
              have y_91 : (91 : Int32).toInt = 91 := by decide
              refine ⟨?_, ?_, ?_⟩ <;> omega
            have ha_85 : (vy_14 : Int32).toInt < 400 := by
              have z_1 : ¬ (vy_10 : Int32).toInt = (0 : Int32).toInt := fun z => c_28 (Int32.toInt_inj.mp z)
              have z_2 := congrArg Int32.toInt c_77
              have z_3 := congrArg Int32.toInt c_78
              have y_0 : (0 : Int32).toInt = 0 := by decide
              have y_91 : (91 : Int32).toInt = 91 := by decide
              omega
            have ha_86 : (91 : Int32).toInt = 11 ∨ (91 : Int32).toInt = 91 := by
              have z_1 : ¬ (vy_10 : Int32).toInt = (0 : Int32).toInt := fun z => c_28 (Int32.toInt_inj.mp z)
              have z_2 := congrArg Int32.toInt c_77
              have z_3 := congrArg Int32.toInt c_78
              have y_0 : (0 : Int32).toInt = 0 := by decide
              have y_91 : (91 : Int32).toInt = 91 := by decide
              omega
            refine cV (a := (Ma 0)) (As := [.int 91]) (rest := []) (wr := [((Ma 2), .inl (tc 0, 2400, .inl (Mf 2))), ((Ma 3), .inl (tc 0, 7, .inl (Mf 3))), ((Ma 1), .inl (tc 2, 400, .inl (Mf 1)))]) ⟨hx, hb, hml, hown, hts⟩ hK hX hA (ct_X12_opens l D tc sk Ma (fun k => ([(Mv 0), (Mv 1), sv_69, vy_12, (Mv 4), (Mv 5), (Mv 6), vy_13, (Mv 8), vy_14, (Mv 10), (Mv 11), (Mv 12), (Mv 13), (Mv 14)] : List (Int32)).getD k 0) (fun k => ([(fun _ => 0), (fun _ => 0), (fun _ => 0), (fun _ => 0), (fun _ => 0), (fun _ => 0), (fun _ => 0), vy_15] : List (Nat → Int32)).getD k (fun _ => 0)) Mj 91 pn_25 ha_84 pf_26 ha_85 ha_86) k_1330 k_1327 k_1329 k_51 k_106 pl_X12_opens ⟨Nat.le_of_ble_eq_true rfl, Nat.le_of_ble_eq_true rfl⟩ rfl rfl (va_recv hK hP (ci := 12) (q0 := 3) rfl rfl) hP hD hS [3, 2] [0, 1, 4] rfl rfl rfl rfl rfl (by decide) rfl hl.1 rfl (Nat.le_of_ble_eq_true rfl) dX12_fact_52 ⟨Nat.le_of_ble_eq_true rfl, Nat.le_of_ble_eq_true rfl⟩ (fun v_87 u_88 H locs hv_89 hP hD hS => ?_)
            obtain ⟨sv_90, sv_91, sv_92, sv_93⟩ := u_88
            obtain ⟨r_94, rfl, he_95, hm_97⟩ := hv_89
            have he_95 : ((r_94.toInt = 0 ∧ ¬ (sv_90 : Int32).toInt = 0) ∨ (r_94.toInt = 1 ∧ (sv_92 : Int32).toInt = (vy_14 : Int32).toInt + 1)) := he_95
            refine W.eq (g2 := F0 m 55 ls [.int r_94]) rfl ?_
            have hP : va_P D classes [((Ma 2), .inl (tc 0, 2400, .inl (Mf 2))), ((Ma 3), .inl (tc 0, 7, .inl (Mf 3))), ((Ma 1), .inl (tc 2, 400, .inl (Mf 1))), ((Ma 0), .inr (12, [.ref (Ma 1), .int (Mv 0), .int (Mv 1), .ref (Ma 2), .ref (Ma 3), .ref (Ma 4), .ref (Ma 5), .ref (Ma 6), .int sv_69, .int sv_90, .int (Mv 4), .int (Mv 5), .int (Mv 6), .int sv_91, .int (Mv 8), .ref (Ma 7), .int sv_92, .ref (Ma 8), .int (Mv 10), .ref (Ma 9), .ref (Ma 10), .int (Mv 11), .int (Mv 12), .int (Mv 13), .ref (Ma 11), .int (Mv 14), .ref (Ma 12), .ref (Ma 13), .ref (Ma 14), .ref (Ma 15), .ref (Ma 16), .long (Mj 0), .ref (Ma 17), .ref (Ma 18), .ref (Ma 19), .ref (Ma 20)])), ((Ma 7), .inl (tc 0, 400, .inl sv_93))] H := hP
            have hD : va_D A [((Ma 2), .inl (tc 0, 2400, .inl (Mf 2))), ((Ma 3), .inl (tc 0, 7, .inl (Mf 3))), ((Ma 1), .inl (tc 2, 400, .inl (Mf 1))), ((Ma 0), .inr (12, [.ref (Ma 1), .int (Mv 0), .int (Mv 1), .ref (Ma 2), .ref (Ma 3), .ref (Ma 4), .ref (Ma 5), .ref (Ma 6), .int sv_69, .int sv_90, .int (Mv 4), .int (Mv 5), .int (Mv 6), .int sv_91, .int (Mv 8), .ref (Ma 7), .int sv_92, .ref (Ma 8), .int (Mv 10), .ref (Ma 9), .ref (Ma 10), .int (Mv 11), .int (Mv 12), .int (Mv 13), .ref (Ma 11), .int (Mv 14), .ref (Ma 12), .ref (Ma 13), .ref (Ma 14), .ref (Ma 15), .ref (Ma 16), .long (Mj 0), .ref (Ma 17), .ref (Ma 18), .ref (Ma 19), .ref (Ma 20)])), ((Ma 7), .inl (tc 0, 400, .inl sv_93))] := hD
            refine lv_if_ne (tgt := 60) hx hb dX12_fact_55 (by decide) (fun c_98 => ?_) (fun c_98 => ?_)
            · skip
              have hz_100 : (r_94 : Int32).toInt = 1 := by
                have z_1 : ¬ (vy_10 : Int32).toInt = (0 : Int32).toInt := fun z => c_28 (Int32.toInt_inj.mp z)
                have z_2 := congrArg Int32.toInt c_77
                have z_3 := congrArg Int32.toInt c_78
                have z_4 : ¬ (r_94 : Int32).toInt = (0 : Int32).toInt := fun z => c_98 (Int32.toInt_inj.mp z)
                have y_0 : (0 : Int32).toInt = 0 := by decide
                have y_91 : (91 : Int32).toInt = 91 := by decide
                omega
              obtain pf_99 := hm_97 hz_100
              have pf_99 : OpS sv_93 sv_92 pn_25 := pf_99
              have ar_pf_99 := OpS.ar pf_99
              refine lv_aload_n hx hb dX12_fact_60 rfl (lv_at hl 2 rfl) ?_
              refine lv_dup hx hb dX12_fact_61 rfl ?_
              refine gf_X12_87 hx hb hts hown hK hP 3 rfl rfl dX12_fact_62 ?_
              refine lv_iconst (v := 1) hx hb dX12_fact_65 (by decide) ?_
              refine lv_iadd hx hb dX12_fact_66 ?_
              refine lv_topi (fun x_101 ex_101 => ?_)
              refine pf_X12_87 hx hb hts hown hK hP hD hS 3 rfl (Nat.le_of_ble_eq_true rfl) rfl rfl dX12_fact_67 (fun H locs hP hD hS => ?_)
              have hP : va_P D classes [((Ma 2), .inl (tc 0, 2400, .inl (Mf 2))), ((Ma 3), .inl (tc 0, 7, .inl (Mf 3))), ((Ma 1), .inl (tc 2, 400, .inl (Mf 1))), ((Ma 0), .inr (12, [.ref (Ma 1), .int (Mv 0), .int (Mv 1), .ref (Ma 2), .ref (Ma 3), .ref (Ma 4), .ref (Ma 5), .ref (Ma 6), .int x_101, .int sv_90, .int (Mv 4), .int (Mv 5), .int (Mv 6), .int sv_91, .int (Mv 8), .ref (Ma 7), .int sv_92, .ref (Ma 8), .int (Mv 10), .ref (Ma 9), .ref (Ma 10), .int (Mv 11), .int (Mv 12), .int (Mv 13), .ref (Ma 11), .int (Mv 14), .ref (Ma 12), .ref (Ma 13), .ref (Ma 14), .ref (Ma 15), .ref (Ma 16), .long (Mj 0), .ref (Ma 17), .ref (Ma 18), .ref (Ma 19), .ref (Ma 20)])), ((Ma 7), .inl (tc 0, 400, .inl sv_93))] H := hP
              have hD : va_D A [((Ma 2), .inl (tc 0, 2400, .inl (Mf 2))), ((Ma 3), .inl (tc 0, 7, .inl (Mf 3))), ((Ma 1), .inl (tc 2, 400, .inl (Mf 1))), ((Ma 0), .inr (12, [.ref (Ma 1), .int (Mv 0), .int (Mv 1), .ref (Ma 2), .ref (Ma 3), .ref (Ma 4), .ref (Ma 5), .ref (Ma 6), .int x_101, .int sv_90, .int (Mv 4), .int (Mv 5), .int (Mv 6), .int sv_91, .int (Mv 8), .ref (Ma 7), .int sv_92, .ref (Ma 8), .int (Mv 10), .ref (Ma 9), .ref (Ma 10), .int (Mv 11), .int (Mv 12), .int (Mv 13), .ref (Ma 11), .int (Mv 14), .ref (Ma 12), .ref (Ma 13), .ref (Ma 14), .ref (Ma 15), .ref (Ma 16), .long (Mj 0), .ref (Ma 17), .ref (Ma 18), .ref (Ma 19), .ref (Ma 20)])), ((Ma 7), .inl (tc 0, 400, .inl sv_93))] := hD
              refine lv_iconst (v := 1) hx hb dX12_fact_70 (by decide) ?_
              refine lv_istore_n (lv' := [(1, .int 1), (2, .int r_62), (0, .ref (Ma 0))]) hx hb dX12_fact_71 rfl hl (by decide) rfl (fun ls hl => ?_)
              refine lv_goto (tgt := 2) hx hb dX12_fact_72 (by decide) ?_
              have hb_102 : 2 * (400 - (x_101 : Int32).toInt) + (1 : Int32).toInt < 2 * (400 - (vy_11 : Int32).toInt) + (vy_10 : Int32).toInt ∧ 1 ≤ 2 * (400 - (vy_11 : Int32).toInt) + (vy_10 : Int32).toInt := by
                have z_1 : ¬ (vy_10 : Int32).toInt = (0 : Int32).toInt := fun z => c_28 (Int32.toInt_inj.mp z)
                have z_2 := congrArg Int32.toInt c_77
                have z_3 := congrArg Int32.toInt c_78
                have z_4 : ¬ (r_94 : Int32).toInt = (0 : Int32).toInt := fun z => c_98 (Int32.toInt_inj.mp z)
                have y_0 : (0 : Int32).toInt = 0 := by decide
                have y_91 : (91 : Int32).toInt = 91 := by decide
                have y_1 : (1 : Int32).toInt = 1 := by decide
                have t_x_101 : x_101.toInt = (sv_69 : Int32).toInt + (1 : Int32).toInt := by rw [ex_101]; exact add_toInt (by omega) (by omega)
                refine ⟨?_, ?_⟩ <;> omega
              have ha_103 : 0 ≤ (x_101 : Int32).toInt ∧ (x_101 : Int32).toInt ≤ ((Mv 0) : Int32).toInt ∧ ((Mv 0) : Int32).toInt ≤ 400 := by
                have z_1 : ¬ (vy_10 : Int32).toInt = (0 : Int32).toInt := fun z => c_28 (Int32.toInt_inj.mp z)
                have z_2 := congrArg Int32.toInt c_77
                have z_3 := congrArg Int32.toInt c_78
                have z_4 : ¬ (r_94 : Int32).toInt = (0 : Int32).toInt := fun z => c_98 (Int32.toInt_inj.mp z)
                have y_0 : (0 : Int32).toInt = 0 := by decide
                have y_91 : (91 : Int32).toInt = 91 := by decide
                have y_1 : (1 : Int32).toInt = 1 := by decide
                have t_x_101 : x_101.toInt = (sv_69 : Int32).toInt + (1 : Int32).toInt := by rw [ex_101]; exact add_toInt (by omega) (by omega)
                refine ⟨?_, ?_, ?_⟩ <;> omega
              have ha_104 : (Mv 2).toInt ≤ (x_101 : Int32).toInt := by
                have z_1 : ¬ (vy_10 : Int32).toInt = (0 : Int32).toInt := fun z => c_28 (Int32.toInt_inj.mp z)
                have z_2 := congrArg Int32.toInt c_77
                have z_3 := congrArg Int32.toInt c_78
                have z_4 : ¬ (r_94 : Int32).toInt = (0 : Int32).toInt := fun z => c_98 (Int32.toInt_inj.mp z)
                have y_0 : (0 : Int32).toInt = 0 := by decide
                have y_91 : (91 : Int32).toInt = 91 := by decide
                have y_1 : (1 : Int32).toInt = 1 := by decide
                have t_x_101 : x_101.toInt = (sv_69 : Int32).toInt + (1 : Int32).toInt := by rw [ex_101]; exact add_toInt (by omega) (by omega)
                omega
              have ha_105 : 0 ≤ (1 : Int32).toInt ∧ (1 : Int32).toInt ≤ 1 := by
                have z_1 : ¬ (vy_10 : Int32).toInt = (0 : Int32).toInt := fun z => c_28 (Int32.toInt_inj.mp z)
                have z_2 := congrArg Int32.toInt c_77
                have z_3 := congrArg Int32.toInt c_78
                have z_4 : ¬ (r_94 : Int32).toInt = (0 : Int32).toInt := fun z => c_98 (Int32.toInt_inj.mp z)
                have y_0 : (0 : Int32).toInt = 0 := by decide
                have y_91 : (91 : Int32).toInt = 91 := by decide
                have y_1 : (1 : Int32).toInt = 1 := by decide
                refine ⟨?_, ?_⟩ <;> omega
              have ha_106 : (sv_92 : Int32).toInt + ((Mv 2) : Int32).toInt ≤ ((Mv 9) : Int32).toInt + (x_101 : Int32).toInt ∧ 0 ≤ (sv_92 : Int32).toInt := by
                have z_1 : ¬ (vy_10 : Int32).toInt = (0 : Int32).toInt := fun z => c_28 (Int32.toInt_inj.mp z)
                have z_2 := congrArg Int32.toInt c_77
                have z_3 := congrArg Int32.toInt c_78
                have z_4 : ¬ (r_94 : Int32).toInt = (0 : Int32).toInt := fun z => c_98 (Int32.toInt_inj.mp z)
                have y_0 : (0 : Int32).toInt = 0 := by decide
                have y_91 : (91 : Int32).toInt = 91 := by decide
                have y_1 : (1 : Int32).toInt = 1 := by decide
                have t_x_101 : x_101.toInt = (sv_69 : Int32).toInt + (1 : Int32).toInt := by rw [ex_101]; exact add_toInt (by omega) (by omega)
                refine ⟨?_, ?_⟩ <;> omega
              exact ih_17 1 x_101 sv_90 sv_91 sv_92 sv_93 _ _ _ (by omega) ha_103 ha_104 ha_105 ⟨pn_25, pf_99, pf_27⟩ ha_106 (hP.sub [3, 2, 0, 1, 4] rfl) (hD.sub [3, 2, 0, 1, 4] rfl rfl) hS (lv_sub hl [0, 2] rfl)
            · skip
              refine lv_iconst (v := 0) hx hb dX12_fact_58 (by decide) ?_
              have ha_107 : ((Mv 2) : Int32).toInt ≤ (sv_69 : Int32).toInt ∧ (sv_69 : Int32).toInt ≤ ((Mv 0) : Int32).toInt := by
                have z_1 : ¬ (vy_10 : Int32).toInt = (0 : Int32).toInt := fun z => c_28 (Int32.toInt_inj.mp z)
                have z_2 := congrArg Int32.toInt c_77
                have z_3 := congrArg Int32.toInt c_78
                have z_4 := congrArg Int32.toInt c_98
                have y_0 : (0 : Int32).toInt = 0 := by decide
                have y_91 : (91 : Int32).toInt = 91 := by decide
                refine ⟨?_, ?_⟩ <;> omega
              have ha_108 : ((Mv 6) : Int32).toInt ≤ ((Mv 6) : Int32).toInt ∧ ((Mv 6) : Int32).toInt ≤ 60 := by
                have z_1 : ¬ (vy_10 : Int32).toInt = (0 : Int32).toInt := fun z => c_28 (Int32.toInt_inj.mp z)
                have z_2 := congrArg Int32.toInt c_77
                have z_3 := congrArg Int32.toInt c_78
                have z_4 := congrArg Int32.toInt c_98
                have y_0 : (0 : Int32).toInt = 0 := by decide
                have y_91 : (91 : Int32).toInt = 91 := by decide
                refine ⟨?_, ?_⟩ <;> omega
              have hp_109 : (((0 : Int32).toInt = 0 ∧ ¬ (sv_90 : Int32).toInt = 0) ∨ ((0 : Int32).toInt = 1 ∧ ((Mf 3) (Mv 5).toNatClampNeg).toInt + (sv_92 : Int32).toInt + ((Mv 2) : Int32).toInt ≤ ((Mf 3) (Mv 5).toNatClampNeg).toInt + ((Mv 9) : Int32).toInt + (sv_69 : Int32).toInt ∧ ((Mv 2) : Int32).toInt + 1 ≤ (sv_69 : Int32).toInt)) := by
                have z_1 : ¬ (vy_10 : Int32).toInt = (0 : Int32).toInt := fun z => c_28 (Int32.toInt_inj.mp z)
                have z_2 := congrArg Int32.toInt c_77
                have z_3 := congrArg Int32.toInt c_78
                have z_4 := congrArg Int32.toInt c_98
                have y_0 : (0 : Int32).toInt = 0 := by decide
                have y_91 : (91 : Int32).toInt = 91 := by decide
                omega
              exact retI (v := 0) hx hb hr hlk (rfl) hP hD hS (sv_69, sv_90, (Mv 4), (Mv 6), sv_91, sv_92, (Mf 2), (Mf 3), sv_93) ⟨_, rfl, hp_109, ha_107, ha_108, (Agr.rf), (fun h => absurd h (by decide))⟩ [3, 2, 0, 1, 4] rfl rfl dX12_fact_59 (Nat.le_of_ble_eq_true rfl) (Nat.le_of_ble_eq_true rfl) rfl
        · skip
          have hz_111 : (r_73 : Int32).toInt = 1 := by
            have z_1 : ¬ (vy_10 : Int32).toInt = (0 : Int32).toInt := fun z => c_28 (Int32.toInt_inj.mp z)
            have z_2 : ¬ (r_73 : Int32).toInt = (0 : Int32).toInt := fun z => c_77 (Int32.toInt_inj.mp z)
            have y_0 : (0 : Int32).toInt = 0 := by decide
            omega
          obtain pf_110 := hm_76 hz_111
          have pf_110 : Ltr (Mf 1) (Mv 0) sv_69 := pf_110
          have ar_pf_110 := pf_110.1
          refine lv_aload_n hx hb dX12_fact_23 rfl (lv_at hl 2 rfl) ?_
          refine lv_bipush (v := 11) hx hb dX12_fact_24 (by decide) ?_
          have ha_112 : 0 ≤ (sv_69 : Int32).toInt ∧ (sv_69 : Int32).toInt ≤ ((Mv 0) : Int32).toInt ∧ ((Mv 0) : Int32).toInt ≤ 400 := by
            have z_1 : ¬ (vy_10 : Int32).toInt = (0 : Int32).toInt := fun z => c_28 (Int32.toInt_inj.mp z)
            have z_2 : ¬ (r_73 : Int32).toInt = (0 : Int32).toInt := fun z => c_77 (Int32.toInt_inj.mp z)
            have y_0 : (0 : Int32).toInt = 0 := by decide
            refine ⟨?_, ?_, ?_⟩ <;> omega
          have ha_113 : (vy_14 : Int32).toInt < 400 := by
            have z_1 : ¬ (vy_10 : Int32).toInt = (0 : Int32).toInt := fun z => c_28 (Int32.toInt_inj.mp z)
            have z_2 : ¬ (r_73 : Int32).toInt = (0 : Int32).toInt := fun z => c_77 (Int32.toInt_inj.mp z)
            have y_0 : (0 : Int32).toInt = 0 := by decide
            omega
          have ha_114 : (11 : Int32).toInt = 11 ∨ (11 : Int32).toInt = 91 := by
            have z_1 : ¬ (vy_10 : Int32).toInt = (0 : Int32).toInt := fun z => c_28 (Int32.toInt_inj.mp z)
            have z_2 : ¬ (r_73 : Int32).toInt = (0 : Int32).toInt := fun z => c_77 (Int32.toInt_inj.mp z)
            have y_0 : (0 : Int32).toInt = 0 := by decide
            have y_11 : (11 : Int32).toInt = 11 := by decide
            omega
          refine cV (a := (Ma 0)) (As := [.int 11]) (rest := []) (wr := [((Ma 2), .inl (tc 0, 2400, .inl (Mf 2))), ((Ma 3), .inl (tc 0, 7, .inl (Mf 3))), ((Ma 1), .inl (tc 2, 400, .inl (Mf 1)))]) ⟨hx, hb, hml, hown, hts⟩ hK hX hA (ct_X12_opens l D tc sk Ma (fun k => ([(Mv 0), (Mv 1), sv_69, vy_12, (Mv 4), (Mv 5), (Mv 6), vy_13, (Mv 8), vy_14, (Mv 10), (Mv 11), (Mv 12), (Mv 13), (Mv 14)] : List (Int32)).getD k 0) (fun k => ([(fun _ => 0), (fun _ => 0), (fun _ => 0), (fun _ => 0), (fun _ => 0), (fun _ => 0), (fun _ => 0), vy_15] : List (Nat → Int32)).getD k (fun _ => 0)) Mj 11 pn_25 ha_112 pf_26 ha_113 ha_114) k_1330 k_1327 k_1329 k_51 k_106 pl_X12_opens ⟨Nat.le_of_ble_eq_true rfl, Nat.le_of_ble_eq_true rfl⟩ rfl rfl (va_recv hK hP (ci := 12) (q0 := 3) rfl rfl) hP hD hS [3, 2] [0, 1, 4] rfl rfl rfl rfl rfl (by decide) rfl hl.1 rfl (Nat.le_of_ble_eq_true rfl) dX12_fact_26 ⟨Nat.le_of_ble_eq_true rfl, Nat.le_of_ble_eq_true rfl⟩ (fun v_115 u_116 H locs hv_117 hP hD hS => ?_)
          obtain ⟨sv_118, sv_119, sv_120, sv_121⟩ := u_116
          obtain ⟨r_122, rfl, he_123, hm_125⟩ := hv_117
          have he_123 : ((r_122.toInt = 0 ∧ ¬ (sv_118 : Int32).toInt = 0) ∨ (r_122.toInt = 1 ∧ (sv_120 : Int32).toInt = (vy_14 : Int32).toInt + 1)) := he_123
          refine W.eq (g2 := F0 m 29 ls [.int r_122]) rfl ?_
          have hP : va_P D classes [((Ma 2), .inl (tc 0, 2400, .inl (Mf 2))), ((Ma 3), .inl (tc 0, 7, .inl (Mf 3))), ((Ma 1), .inl (tc 2, 400, .inl (Mf 1))), ((Ma 0), .inr (12, [.ref (Ma 1), .int (Mv 0), .int (Mv 1), .ref (Ma 2), .ref (Ma 3), .ref (Ma 4), .ref (Ma 5), .ref (Ma 6), .int sv_69, .int sv_118, .int (Mv 4), .int (Mv 5), .int (Mv 6), .int sv_119, .int (Mv 8), .ref (Ma 7), .int sv_120, .ref (Ma 8), .int (Mv 10), .ref (Ma 9), .ref (Ma 10), .int (Mv 11), .int (Mv 12), .int (Mv 13), .ref (Ma 11), .int (Mv 14), .ref (Ma 12), .ref (Ma 13), .ref (Ma 14), .ref (Ma 15), .ref (Ma 16), .long (Mj 0), .ref (Ma 17), .ref (Ma 18), .ref (Ma 19), .ref (Ma 20)])), ((Ma 7), .inl (tc 0, 400, .inl sv_121))] H := hP
          have hD : va_D A [((Ma 2), .inl (tc 0, 2400, .inl (Mf 2))), ((Ma 3), .inl (tc 0, 7, .inl (Mf 3))), ((Ma 1), .inl (tc 2, 400, .inl (Mf 1))), ((Ma 0), .inr (12, [.ref (Ma 1), .int (Mv 0), .int (Mv 1), .ref (Ma 2), .ref (Ma 3), .ref (Ma 4), .ref (Ma 5), .ref (Ma 6), .int sv_69, .int sv_118, .int (Mv 4), .int (Mv 5), .int (Mv 6), .int sv_119, .int (Mv 8), .ref (Ma 7), .int sv_120, .ref (Ma 8), .int (Mv 10), .ref (Ma 9), .ref (Ma 10), .int (Mv 11), .int (Mv 12), .int (Mv 13), .ref (Ma 11), .int (Mv 14), .ref (Ma 12), .ref (Ma 13), .ref (Ma 14), .ref (Ma 15), .ref (Ma 16), .long (Mj 0), .ref (Ma 17), .ref (Ma 18), .ref (Ma 19), .ref (Ma 20)])), ((Ma 7), .inl (tc 0, 400, .inl sv_121))] := hD
          refine lv_if_ne (tgt := 34) hx hb dX12_fact_29 (by decide) (fun c_126 => ?_) (fun c_126 => ?_)
          · skip
            have hz_128 : (r_122 : Int32).toInt = 1 := by
              have z_1 : ¬ (vy_10 : Int32).toInt = (0 : Int32).toInt := fun z => c_28 (Int32.toInt_inj.mp z)
              have z_2 : ¬ (r_73 : Int32).toInt = (0 : Int32).toInt := fun z => c_77 (Int32.toInt_inj.mp z)
              have z_3 : ¬ (r_122 : Int32).toInt = (0 : Int32).toInt := fun z => c_126 (Int32.toInt_inj.mp z)
              have y_0 : (0 : Int32).toInt = 0 := by decide
              omega
            obtain pf_127 := hm_125 hz_128
            have pf_127 : OpS sv_121 sv_120 pn_25 := pf_127
            have ar_pf_127 := OpS.ar pf_127
            refine lv_aload_n hx hb dX12_fact_34 rfl (lv_at hl 2 rfl) ?_
            have ha_129 : 0 ≤ (sv_69 : Int32).toInt ∧ (sv_69 : Int32).toInt ≤ ((Mv 0) : Int32).toInt ∧ ((Mv 0) : Int32).toInt ≤ 400 := by
              have z_1 : ¬ (vy_10 : Int32).toInt = (0 : Int32).toInt := fun z => c_28 (Int32.toInt_inj.mp z)
              have z_2 : ¬ (r_73 : Int32).toInt = (0 : Int32).toInt := fun z => c_77 (Int32.toInt_inj.mp z)
              have z_3 : ¬ (r_122 : Int32).toInt = (0 : Int32).toInt := fun z => c_126 (Int32.toInt_inj.mp z)
              have y_0 : (0 : Int32).toInt = 0 := by decide
              refine ⟨?_, ?_, ?_⟩ <;> omega
            refine cV (a := (Ma 0)) (As := []) (rest := []) (wr := [((Ma 2), .inl (tc 0, 2400, .inl (Mf 2))), ((Ma 3), .inl (tc 0, 7, .inl (Mf 3))), ((Ma 7), .inl (tc 0, 400, .inl sv_121))]) ⟨hx, hb, hml, hown, hts⟩ hK hX hA (ct_X12_passWord l D tc sk Ma (fun k => ([(Mv 0), (Mv 1), sv_69, sv_118, (Mv 4), (Mv 5), (Mv 6), sv_119, (Mv 8), sv_120, (Mv 10), (Mv 11), (Mv 12), (Mv 13), (Mv 14)] : List (Int32)).getD k 0) Mf Mj ha_129) k_1244 k_1241 k_1243 k_34 k_106 pl_X12_passWord ⟨Nat.le_of_ble_eq_true rfl, Nat.le_of_ble_eq_true rfl⟩ rfl rfl (va_recv hK hP (ci := 12) (q0 := 3) rfl rfl) hP hD hS [3, 2] [0, 1, 4] rfl rfl rfl rfl rfl (by decide) rfl hl.1 rfl (Nat.le_of_ble_eq_true rfl) dX12_fact_35 ⟨Nat.le_of_ble_eq_true rfl, Nat.le_of_ble_eq_true rfl⟩ (fun v_130 u_131 H locs hv_132 hP hD hS => ?_)
            obtain ⟨sv_133, rfl⟩ : ∃ z, z = u_131 := ⟨_, rfl⟩
            obtain ⟨rfl, pf_134, pf_135⟩ := hv_132
            have pf_134 : (sv_69 : Int32).toInt ≤ (sv_133 : Int32).toInt ∧ (sv_133 : Int32).toInt ≤ ((Mv 0) : Int32).toInt := pf_134
            have pf_135 : Pw (Mf 1) (Mv 0) sv_69 sv_133 := pf_135
            have ar_pf_135 := pf_135 pf_110
            refine W.eq (g2 := F0 m 38 ls []) rfl ?_
            have hP : va_P D classes [((Ma 2), .inl (tc 0, 2400, .inl (Mf 2))), ((Ma 3), .inl (tc 0, 7, .inl (Mf 3))), ((Ma 7), .inl (tc 0, 400, .inl sv_121)), ((Ma 0), .inr (12, [.ref (Ma 1), .int (Mv 0), .int (Mv 1), .ref (Ma 2), .ref (Ma 3), .ref (Ma 4), .ref (Ma 5), .ref (Ma 6), .int sv_133, .int sv_118, .int (Mv 4), .int (Mv 5), .int (Mv 6), .int sv_119, .int (Mv 8), .ref (Ma 7), .int sv_120, .ref (Ma 8), .int (Mv 10), .ref (Ma 9), .ref (Ma 10), .int (Mv 11), .int (Mv 12), .int (Mv 13), .ref (Ma 11), .int (Mv 14), .ref (Ma 12), .ref (Ma 13), .ref (Ma 14), .ref (Ma 15), .ref (Ma 16), .long (Mj 0), .ref (Ma 17), .ref (Ma 18), .ref (Ma 19), .ref (Ma 20)])), ((Ma 1), .inl (tc 2, 400, .inl (Mf 1)))] H := hP
            have hD : va_D A [((Ma 2), .inl (tc 0, 2400, .inl (Mf 2))), ((Ma 3), .inl (tc 0, 7, .inl (Mf 3))), ((Ma 7), .inl (tc 0, 400, .inl sv_121)), ((Ma 0), .inr (12, [.ref (Ma 1), .int (Mv 0), .int (Mv 1), .ref (Ma 2), .ref (Ma 3), .ref (Ma 4), .ref (Ma 5), .ref (Ma 6), .int sv_133, .int sv_118, .int (Mv 4), .int (Mv 5), .int (Mv 6), .int sv_119, .int (Mv 8), .ref (Ma 7), .int sv_120, .ref (Ma 8), .int (Mv 10), .ref (Ma 9), .ref (Ma 10), .int (Mv 11), .int (Mv 12), .int (Mv 13), .ref (Ma 11), .int (Mv 14), .ref (Ma 12), .ref (Ma 13), .ref (Ma 14), .ref (Ma 15), .ref (Ma 16), .long (Mj 0), .ref (Ma 17), .ref (Ma 18), .ref (Ma 19), .ref (Ma 20)])), ((Ma 1), .inl (tc 2, 400, .inl (Mf 1)))] := hD
            refine lv_iconst (v := 1) hx hb dX12_fact_38 (by decide) ?_
            refine lv_istore_n (lv' := [(1, .int 1), (2, .int r_62), (0, .ref (Ma 0))]) hx hb dX12_fact_39 rfl hl (by decide) rfl (fun ls hl => ?_)
            refine lv_goto (tgt := 72) hx hb dX12_fact_40 (by decide) ?_
            refine lv_goto (tgt := 2) hx hb dX12_fact_72 (by decide) ?_
            have hb_136 : 2 * (400 - (sv_133 : Int32).toInt) + (1 : Int32).toInt < 2 * (400 - (vy_11 : Int32).toInt) + (vy_10 : Int32).toInt ∧ 1 ≤ 2 * (400 - (vy_11 : Int32).toInt) + (vy_10 : Int32).toInt := by
              have z_1 : ¬ (vy_10 : Int32).toInt = (0 : Int32).toInt := fun z => c_28 (Int32.toInt_inj.mp z)
              have z_2 : ¬ (r_73 : Int32).toInt = (0 : Int32).toInt := fun z => c_77 (Int32.toInt_inj.mp z)
              have z_3 : ¬ (r_122 : Int32).toInt = (0 : Int32).toInt := fun z => c_126 (Int32.toInt_inj.mp z)
              have y_0 : (0 : Int32).toInt = 0 := by decide
              have y_1 : (1 : Int32).toInt = 1 := by decide
              refine ⟨?_, ?_⟩ <;> omega
            have ha_137 : 0 ≤ (sv_133 : Int32).toInt ∧ (sv_133 : Int32).toInt ≤ ((Mv 0) : Int32).toInt ∧ ((Mv 0) : Int32).toInt ≤ 400 := by
              have z_1 : ¬ (vy_10 : Int32).toInt = (0 : Int32).toInt := fun z => c_28 (Int32.toInt_inj.mp z)
              have z_2 : ¬ (r_73 : Int32).toInt = (0 : Int32).toInt := fun z => c_77 (Int32.toInt_inj.mp z)
              have z_3 : ¬ (r_122 : Int32).toInt = (0 : Int32).toInt := fun z => c_126 (Int32.toInt_inj.mp z)
              have y_0 : (0 : Int32).toInt = 0 := by decide
              refine ⟨?_, ?_, ?_⟩ <;> omega
            have ha_138 : (Mv 2).toInt ≤ (sv_133 : Int32).toInt := by
              have z_1 : ¬ (vy_10 : Int32).toInt = (0 : Int32).toInt := fun z => c_28 (Int32.toInt_inj.mp z)
              have z_2 : ¬ (r_73 : Int32).toInt = (0 : Int32).toInt := fun z => c_77 (Int32.toInt_inj.mp z)
              have z_3 : ¬ (r_122 : Int32).toInt = (0 : Int32).toInt := fun z => c_126 (Int32.toInt_inj.mp z)
              have y_0 : (0 : Int32).toInt = 0 := by decide
              omega
            have ha_139 : 0 ≤ (1 : Int32).toInt ∧ (1 : Int32).toInt ≤ 1 := by
              have z_1 : ¬ (vy_10 : Int32).toInt = (0 : Int32).toInt := fun z => c_28 (Int32.toInt_inj.mp z)
              have z_2 : ¬ (r_73 : Int32).toInt = (0 : Int32).toInt := fun z => c_77 (Int32.toInt_inj.mp z)
              have z_3 : ¬ (r_122 : Int32).toInt = (0 : Int32).toInt := fun z => c_126 (Int32.toInt_inj.mp z)
              have y_0 : (0 : Int32).toInt = 0 := by decide
              have y_1 : (1 : Int32).toInt = 1 := by decide
              refine ⟨?_, ?_⟩ <;> omega
            have ha_140 : (sv_120 : Int32).toInt + ((Mv 2) : Int32).toInt ≤ ((Mv 9) : Int32).toInt + (sv_133 : Int32).toInt ∧ 0 ≤ (sv_120 : Int32).toInt := by
              have z_1 : ¬ (vy_10 : Int32).toInt = (0 : Int32).toInt := fun z => c_28 (Int32.toInt_inj.mp z)
              have z_2 : ¬ (r_73 : Int32).toInt = (0 : Int32).toInt := fun z => c_77 (Int32.toInt_inj.mp z)
              have z_3 : ¬ (r_122 : Int32).toInt = (0 : Int32).toInt := fun z => c_126 (Int32.toInt_inj.mp z)
              have y_0 : (0 : Int32).toInt = 0 := by decide
              refine ⟨?_, ?_⟩ <;> omega
            exact ih_17 1 sv_133 sv_118 sv_119 sv_120 sv_121 _ _ _ (by omega) ha_137 ha_138 ha_139 ⟨pn_25, pf_127, pf_27⟩ ha_140 (hP.sub [3, 4, 0, 1, 2] rfl) (hD.sub [3, 4, 0, 1, 2] rfl rfl) hS (lv_sub hl [0, 2] rfl)
          · skip
            refine lv_iconst (v := 0) hx hb dX12_fact_32 (by decide) ?_
            have ha_141 : ((Mv 2) : Int32).toInt ≤ (sv_69 : Int32).toInt ∧ (sv_69 : Int32).toInt ≤ ((Mv 0) : Int32).toInt := by
              have z_1 : ¬ (vy_10 : Int32).toInt = (0 : Int32).toInt := fun z => c_28 (Int32.toInt_inj.mp z)
              have z_2 : ¬ (r_73 : Int32).toInt = (0 : Int32).toInt := fun z => c_77 (Int32.toInt_inj.mp z)
              have z_3 := congrArg Int32.toInt c_126
              have y_0 : (0 : Int32).toInt = 0 := by decide
              refine ⟨?_, ?_⟩ <;> omega
            have ha_142 : ((Mv 6) : Int32).toInt ≤ ((Mv 6) : Int32).toInt ∧ ((Mv 6) : Int32).toInt ≤ 60 := by
              have z_1 : ¬ (vy_10 : Int32).toInt = (0 : Int32).toInt := fun z => c_28 (Int32.toInt_inj.mp z)
              have z_2 : ¬ (r_73 : Int32).toInt = (0 : Int32).toInt := fun z => c_77 (Int32.toInt_inj.mp z)
              have z_3 := congrArg Int32.toInt c_126
              have y_0 : (0 : Int32).toInt = 0 := by decide
              refine ⟨?_, ?_⟩ <;> omega
            have hp_143 : (((0 : Int32).toInt = 0 ∧ ¬ (sv_118 : Int32).toInt = 0) ∨ ((0 : Int32).toInt = 1 ∧ ((Mf 3) (Mv 5).toNatClampNeg).toInt + (sv_120 : Int32).toInt + ((Mv 2) : Int32).toInt ≤ ((Mf 3) (Mv 5).toNatClampNeg).toInt + ((Mv 9) : Int32).toInt + (sv_69 : Int32).toInt ∧ ((Mv 2) : Int32).toInt + 1 ≤ (sv_69 : Int32).toInt)) := by
              have z_1 : ¬ (vy_10 : Int32).toInt = (0 : Int32).toInt := fun z => c_28 (Int32.toInt_inj.mp z)
              have z_2 : ¬ (r_73 : Int32).toInt = (0 : Int32).toInt := fun z => c_77 (Int32.toInt_inj.mp z)
              have z_3 := congrArg Int32.toInt c_126
              have y_0 : (0 : Int32).toInt = 0 := by decide
              omega
            exact retI (v := 0) hx hb hr hlk (rfl) hP hD hS (sv_69, sv_118, (Mv 4), (Mv 6), sv_119, sv_120, (Mf 2), (Mf 3), sv_121) ⟨_, rfl, hp_143, ha_141, ha_142, (Agr.rf), (fun h => absurd h (by decide))⟩ [3, 2, 0, 1, 4] rfl rfl dX12_fact_33 (Nat.le_of_ble_eq_true rfl) (Nat.le_of_ble_eq_true rfl) rfl
  have ha_144 : 0 ≤ ((Mv 2) : Int32).toInt ∧ ((Mv 2) : Int32).toInt ≤ ((Mv 0) : Int32).toInt ∧ ((Mv 0) : Int32).toInt ≤ 400 := by
    refine ⟨?_, ?_, ?_⟩ <;> omega
  have ha_145 : (Mv 2).toInt ≤ ((Mv 2) : Int32).toInt := by
    omega
  have ha_146 : 0 ≤ (1 : Int32).toInt ∧ (1 : Int32).toInt ≤ 1 := by
    have y_1 : (1 : Int32).toInt = 1 := by decide
    refine ⟨?_, ?_⟩ <;> omega
  have ha_147 : ((Mv 9) : Int32).toInt + ((Mv 2) : Int32).toInt ≤ ((Mv 9) : Int32).toInt + ((Mv 2) : Int32).toInt ∧ 0 ≤ ((Mv 9) : Int32).toInt := by
    refine ⟨?_, ?_⟩ <;> omega
  exact loop_18 _ 1 (Mv 2) (Mv 3) (Mv 7) (Mv 9) (Mf 7) _ _ _ (Nat.lt_succ_self _) ha_144 ha_145 ha_146 h_lb ha_147 hP hD hS hl
set_option maxHeartbeats 4000000 in
set_option maxRecDepth 100000 in
theorem ct_X12_isInside (l : Launch) (D : va_G) (tc : Nat → ClassId) (sk : (Nat → Nat) × (Nat → Nat)) (Ma : Nat → Nat) (Mv : Nat → Int32) (Mf : Nat → Nat → Int32) (Mj : Nat → Int64) (h_o : 0 ≤ ((Mv 9) : Int32).toInt ∧ ((Mv 9) : Int32).toInt ≤ 400) : Ct l yX12_isInside cX12_isInside 2 (some .boolean) { frames := 0, cells := 0, slots := 0, locals := 0 } D tc sk [.ref (Ma 0)] [((Ma 0), .inr (12, [.ref (Ma 1), .int (Mv 0), .int (Mv 1), .ref (Ma 2), .ref (Ma 3), .ref (Ma 4), .ref (Ma 5), .ref (Ma 6), .int (Mv 2), .int (Mv 3), .int (Mv 4), .int (Mv 5), .int (Mv 6), .int (Mv 7), .int (Mv 8), .ref (Ma 7), .int (Mv 9), .ref (Ma 8), .int (Mv 10), .ref (Ma 9), .ref (Ma 10), .int (Mv 11), .int (Mv 12), .int (Mv 13), .ref (Ma 11), .int (Mv 14), .ref (Ma 12), .ref (Ma 13), .ref (Ma 14), .ref (Ma 15), .ref (Ma 16), .long (Mj 0), .ref (Ma 17), .ref (Ma 18), .ref (Ma 19), .ref (Ma 20)])), ((Ma 7), .inl (tc 0, 400, .inl (Mf 7)))] (fun (v : Option Value) (_ : Unit) => ∃ r : Int32, v = some (.int r) ∧ ((r.toInt = 0 ∨ r.toInt = 1)) ∧ (r.toInt = 1 → (Ins (Mf 7) (Mv 9))) ∧ (r.toInt = 0 → (NIns (Mf 7) (Mv 9)))) (fun (_ : Unit) => [((Ma 0), .inr (12, [.ref (Ma 1), .int (Mv 0), .int (Mv 1), .ref (Ma 2), .ref (Ma 3), .ref (Ma 4), .ref (Ma 5), .ref (Ma 6), .int (Mv 2), .int (Mv 3), .int (Mv 4), .int (Mv 5), .int (Mv 6), .int (Mv 7), .int (Mv 8), .ref (Ma 7), .int (Mv 9), .ref (Ma 8), .int (Mv 10), .ref (Ma 9), .ref (Ma 10), .int (Mv 11), .int (Mv 12), .int (Mv 13), .ref (Ma 11), .int (Mv 14), .ref (Ma 12), .ref (Ma 13), .ref (Ma 14), .ref (Ma 15), .ref (Ma 16), .long (Mj 0), .ref (Ma 17), .ref (Ma 18), .ref (Ma 19), .ref (Ma 20)])), ((Ma 7), .inl (tc 0, 400, .inl (Mf 7)))]) 0 0 := by
  refine Ct.start (by decide) (Nat.le_of_ble_eq_true rfl) (fun p e s m below meth c A ls hx hb hr hlk hin hml hown hts hK hX hP hD hA hl hS => ?_)
  have hl : lv_has ls 2 [(0, .ref (Ma 0))] := hl
  refine lv_iconst (v := 0) hx hb dX12_isInside_0 (by decide) ?_
  refine lv_istore_n (lv' := [(1, .int 0), (0, .ref (Ma 0))]) hx hb dX12_isInside_1 rfl hl (by decide) rfl (fun ls hl => ?_)
  have loop_5 : ∀ (n_3 : Nat) (vy_2 : Int32) (H : Heap) (locs : List Loc) (ls : Array Slot), (400 - (vy_2 : Int32).toInt).toNat < n_3 → (0 ≤ (vy_2 : Int32).toInt) → (NIns (Mf 7) vy_2) → va_P D classes [((Ma 0), .inr (12, [.ref (Ma 1), .int (Mv 0), .int (Mv 1), .ref (Ma 2), .ref (Ma 3), .ref (Ma 4), .ref (Ma 5), .ref (Ma 6), .int (Mv 2), .int (Mv 3), .int (Mv 4), .int (Mv 5), .int (Mv 6), .int (Mv 7), .int (Mv 8), .ref (Ma 7), .int (Mv 9), .ref (Ma 8), .int (Mv 10), .ref (Ma 9), .ref (Ma 10), .int (Mv 11), .int (Mv 12), .int (Mv 13), .ref (Ma 11), .int (Mv 14), .ref (Ma 12), .ref (Ma 13), .ref (Ma 14), .ref (Ma 15), .ref (Ma 16), .long (Mj 0), .ref (Ma 17), .ref (Ma 18), .ref (Ma 19), .ref (Ma 20)])), ((Ma 7), .inl (tc 0, 400, .inl (Mf 7)))] H → va_D A [((Ma 0), .inr (12, [.ref (Ma 1), .int (Mv 0), .int (Mv 1), .ref (Ma 2), .ref (Ma 3), .ref (Ma 4), .ref (Ma 5), .ref (Ma 6), .int (Mv 2), .int (Mv 3), .int (Mv 4), .int (Mv 5), .int (Mv 6), .int (Mv 7), .int (Mv 8), .ref (Ma 7), .int (Mv 9), .ref (Ma 8), .int (Mv 10), .ref (Ma 9), .ref (Ma 10), .int (Mv 11), .int (Mv 12), .int (Mv 13), .ref (Ma 11), .int (Mv 14), .ref (Ma 12), .ref (Ma 13), .ref (Ma 14), .ref (Ma 15), .ref (Ma 16), .long (Mj 0), .ref (Ma 17), .ref (Ma 18), .ref (Ma 19), .ref (Ma 20)])), ((Ma 7), .inl (tc 0, 400, .inl (Mf 7)))] → va_S A s.heap H locs → lv_has ls 2 [(1, .int vy_2), (0, .ref (Ma 0))] → W p l e ({ frames := 0, cells := 0, slots := 0, locals := 0 }) s m ([.ref (Ma 0)].toArray) below meth c H locs 0 0 (MQ below (QW (fun (v : Option Value) (_ : Unit) => ∃ r : Int32, v = some (.int r) ∧ ((r.toInt = 0 ∨ r.toInt = 1)) ∧ (r.toInt = 1 → (Ins (Mf 7) (Mv 9))) ∧ (r.toInt = 0 → (NIns (Mf 7) (Mv 9)))) (BW D (fun (_ : Unit) => [((Ma 0), .inr (12, [.ref (Ma 1), .int (Mv 0), .int (Mv 1), .ref (Ma 2), .ref (Ma 3), .ref (Ma 4), .ref (Ma 5), .ref (Ma 6), .int (Mv 2), .int (Mv 3), .int (Mv 4), .int (Mv 5), .int (Mv 6), .int (Mv 7), .int (Mv 8), .ref (Ma 7), .int (Mv 9), .ref (Ma 8), .int (Mv 10), .ref (Ma 9), .ref (Ma 10), .int (Mv 11), .int (Mv 12), .int (Mv 13), .ref (Ma 11), .int (Mv 14), .ref (Ma 12), .ref (Ma 13), .ref (Ma 14), .ref (Ma 15), .ref (Ma 16), .long (Mj 0), .ref (Ma 17), .ref (Ma 18), .ref (Ma 19), .ref (Ma 20)])), ((Ma 7), .inl (tc 0, 400, .inl (Mf 7)))]) A) A) ([.ref (Ma 0)].toArray) s 0 0 A) (F0 m 2 ls []) := by
    intro n_3
    induction n_3 with
    | zero =>
      intro vy_2 H locs ls h1
      exact absurd h1 (Nat.not_lt_zero _)
    | succ n_3 ih_4 =>
      intro vy_2 H locs ls hn_8 pf_6 pf_7 hP hD hS hl
      refine lv_iload_n hx hb dX12_isInside_2 rfl (lv_at hl 0 rfl) ?_
      refine lv_aload_n hx hb dX12_isInside_3 rfl (lv_at hl 1 rfl) ?_
      refine gf_X12_154 hx hb hts hown hK hP 0 rfl rfl dX12_isInside_4 ?_
      refine lv_icmp_ge (tgt := 29) hx hb dX12_isInside_7 (by decide) (fun c_9 => ?_) (fun c_9 => ?_)
      · skip
        refine lv_iconst (v := 0) hx hb dX12_isInside_29 (by decide) ?_
        have hp_10 : ((0 : Int32).toInt = 0 ∨ (0 : Int32).toInt = 1) := by
          have z_1 := Int32.le_iff_toInt_le.mp c_9
          have y_0 : (0 : Int32).toInt = 0 := by decide
          have yr : (0 : Int32).toInt = 0 := by decide
          omega
        have hm_11 : (0 : Int32).toInt = 0 → (NIns (Mf 7) (Mv 9)) := by
          intro h1r
          have hr_12 : ((Mv 9) : Int32).toInt ≤ (vy_2 : Int32).toInt := by
            have z_1 := Int32.le_iff_toInt_le.mp c_9
            omega
          exact (NIns.ge pf_7 hr_12)
        exact retI (v := 0) hx hb hr hlk (rfl) hP hD hS () ⟨_, rfl, hp_10, (fun h => absurd h (by decide)), hm_11⟩ [0, 1] rfl rfl dX12_isInside_30 (Nat.le_of_ble_eq_true rfl) (Nat.le_of_ble_eq_true rfl) rfl
      · skip
        refine lv_aload_n hx hb dX12_isInside_10 rfl (lv_at hl 1 rfl) ?_
        refine gf_X12_29 hx hb hts hown hK hP 0 rfl rfl dX12_isInside_11 ?_
        refine lv_iload_n hx hb dX12_isInside_14 rfl (lv_at hl 0 rfl) ?_
        have hi_13 : vp_in vy_2 400 := by
          have z_1 := Int32.lt_iff_toInt_lt.mp (Int32.not_le.mp c_9)
          refine vp_in_iff.mpr ⟨?_, ?_⟩ <;> omega
        refine va_iald hx hb hK hP 1 0 rfl rfl hi_13 dX12_isInside_15 ?_
        refine lv_topi (fun x_14 ex_14 => ?_)
        refine lv_bipush (v := 91) hx hb dX12_isInside_16 (by decide) ?_
        refine lv_icmp_ne (tgt := 23) hx hb dX12_isInside_18 (by decide) (fun c_15 => ?_) (fun c_15 => ?_)
        · skip
          obtain ⟨x_16, ex_16⟩ : ∃ y : Int32, y = vy_2 + 1 := ⟨_, rfl⟩
          refine lv_iinc (v := x_16) (lv' := [(1, .int x_16), (0, .ref (Ma 0))]) hx hb dX12_isInside_23 hl (k := 0) rfl (by rw [ex_16]; rfl) (by decide) rfl (fun ls hl => ?_)
          refine lv_goto (tgt := 2) hx hb dX12_isInside_26 (by decide) ?_
          have hb_17 : 400 - (x_16 : Int32).toInt < 400 - (vy_2 : Int32).toInt ∧ 1 ≤ 400 - (vy_2 : Int32).toInt := by
            have z_1 := Int32.lt_iff_toInt_lt.mp (Int32.not_le.mp c_9)
            have z_2 : ¬ (x_14 : Int32).toInt = (91 : Int32).toInt := fun z => c_15 (Int32.toInt_inj.mp z)
            have y_91 : (91 : Int32).toInt = 91 := by decide
            have y_1 : (1 : Int32).toInt = 1 := by decide
            have t_x_16 : x_16.toInt = (vy_2 : Int32).toInt + (1 : Int32).toInt := by rw [ex_16]; exact add_toInt (by omega) (by omega)
            refine ⟨?_, ?_⟩ <;> omega
          have ha_18 : 0 ≤ (x_16 : Int32).toInt := by
            have z_1 := Int32.lt_iff_toInt_lt.mp (Int32.not_le.mp c_9)
            have z_2 : ¬ (x_14 : Int32).toInt = (91 : Int32).toInt := fun z => c_15 (Int32.toInt_inj.mp z)
            have y_91 : (91 : Int32).toInt = 91 := by decide
            have y_1 : (1 : Int32).toInt = 1 := by decide
            have t_x_16 : x_16.toInt = (vy_2 : Int32).toInt + (1 : Int32).toInt := by rw [ex_16]; exact add_toInt (by omega) (by omega)
            omega
          have hr_19 : ¬ (x_14 : Int32).toInt = 91 := by
            have z_1 := Int32.lt_iff_toInt_lt.mp (Int32.not_le.mp c_9)
            have z_2 : ¬ (x_14 : Int32).toInt = (91 : Int32).toInt := fun z => c_15 (Int32.toInt_inj.mp z)
            have y_91 : (91 : Int32).toInt = 91 := by decide
            omega
          have hi_20 : (x_16 : Int32).toInt = (vy_2 : Int32).toInt + 1 := by
            have z_1 := Int32.lt_iff_toInt_lt.mp (Int32.not_le.mp c_9)
            have z_2 : ¬ (x_14 : Int32).toInt = (91 : Int32).toInt := fun z => c_15 (Int32.toInt_inj.mp z)
            have y_91 : (91 : Int32).toInt = 91 := by decide
            have y_1 : (1 : Int32).toInt = 1 := by decide
            have t_x_16 : x_16.toInt = (vy_2 : Int32).toInt + (1 : Int32).toInt := by rw [ex_16]; exact add_toInt (by omega) (by omega)
            omega
          have hr_21 : 0 ≤ (vy_2 : Int32).toInt := by
            have z_1 := Int32.lt_iff_toInt_lt.mp (Int32.not_le.mp c_9)
            have z_2 : ¬ (x_14 : Int32).toInt = (91 : Int32).toInt := fun z => c_15 (Int32.toInt_inj.mp z)
            have y_91 : (91 : Int32).toInt = 91 := by decide
            omega
          exact ih_4 x_16 _ _ _ (by omega) ha_18 (NIns.step pf_7 ex_14 hr_19 hi_20 hr_21) (hP.sub [0, 1] rfl) (hD.sub [0, 1] rfl rfl) hS (lv_sub hl [0, 1] rfl)
        · skip
          refine lv_iconst (v := 1) hx hb dX12_isInside_21 (by decide) ?_
          have hp_22 : ((1 : Int32).toInt = 0 ∨ (1 : Int32).toInt = 1) := by
            have z_1 := Int32.lt_iff_toInt_lt.mp (Int32.not_le.mp c_9)
            have z_2 := congrArg Int32.toInt c_15
            have y_91 : (91 : Int32).toInt = 91 := by decide
            have y_1 : (1 : Int32).toInt = 1 := by decide
            have yr : (1 : Int32).toInt = 1 := by decide
            omega
          have hm_23 : (1 : Int32).toInt = 1 → (Ins (Mf 7) (Mv 9)) := by
            intro h1r
            have hr_24 : (x_14 : Int32).toInt = 91 := by
              have z_1 := Int32.lt_iff_toInt_lt.mp (Int32.not_le.mp c_9)
              have z_2 := congrArg Int32.toInt c_15
              have y_91 : (91 : Int32).toInt = 91 := by decide
              omega
            have hr_25 : 0 ≤ (vy_2 : Int32).toInt ∧ (vy_2 : Int32).toInt < ((Mv 9) : Int32).toInt := by
              have z_1 := Int32.lt_iff_toInt_lt.mp (Int32.not_le.mp c_9)
              have z_2 := congrArg Int32.toInt c_15
              have y_91 : (91 : Int32).toInt = 91 := by decide
              refine ⟨?_, ?_⟩ <;> omega
            exact (Ins.of ex_14 hr_24 hr_25)
          exact retI (v := 1) hx hb hr hlk (rfl) hP hD hS () ⟨_, rfl, hp_22, hm_23, (fun h => absurd h (by decide))⟩ [0, 1] rfl rfl dX12_isInside_22 (Nat.le_of_ble_eq_true rfl) (Nat.le_of_ble_eq_true rfl) rfl
  have ha_26 : 0 ≤ (0 : Int32).toInt := by
    have y_0 : (0 : Int32).toInt = 0 := by decide
    omega
  exact loop_5 _ 0 _ _ _ (Nat.lt_succ_self _) ha_26 (NIns.nil (by decide)) hP hD hS hl
set_option maxHeartbeats 4000000 in
set_option maxRecDepth 100000 in
theorem ct_X12_closes (l : Launch) (D : va_G) (tc : Nat → ClassId) (sk : (Nat → Nat) × (Nat → Nat)) (Ma : Nat → Nat) (Mv : Nat → Int32) (Mf : Nat → Nat → Int32) (Mj : Nat → Int64) (b : Int32) (h_nx : 0 ≤ ((Mv 2) : Int32).toInt ∧ ((Mv 2) : Int32).toInt ≤ ((Mv 0) : Int32).toInt ∧ ((Mv 0) : Int32).toInt ≤ 400) (h_ls : LSR (Mf 7) (Mv 9) (Mf 2) (Mf 3) (Mv 5) b (Mv 6)) (h_s : ((Mf 3) (Mv 5).toNatClampNeg).toInt + ((Mv 9) : Int32).toInt ≤ ((Mv 2) : Int32).toInt) : Ct l yX12_closes cX12_closes 1 none { frames := 2, cells := 0, slots := 0, locals := 43 } D tc sk [.ref (Ma 0)] [((Ma 0), .inr (12, [.ref (Ma 1), .int (Mv 0), .int (Mv 1), .ref (Ma 2), .ref (Ma 3), .ref (Ma 4), .ref (Ma 5), .ref (Ma 6), .int (Mv 2), .int (Mv 3), .int (Mv 4), .int (Mv 5), .int (Mv 6), .int (Mv 7), .int (Mv 8), .ref (Ma 7), .int (Mv 9), .ref (Ma 8), .int (Mv 10), .ref (Ma 9), .ref (Ma 10), .int (Mv 11), .int (Mv 12), .int (Mv 13), .ref (Ma 11), .int (Mv 14), .ref (Ma 12), .ref (Ma 13), .ref (Ma 14), .ref (Ma 15), .ref (Ma 16), .long (Mj 0), .ref (Ma 17), .ref (Ma 18), .ref (Ma 19), .ref (Ma 20)])), ((Ma 1), .inl (tc 2, 400, .inl (Mf 1))), ((Ma 2), .inl (tc 0, 2400, .inl (Mf 2))), ((Ma 3), .inl (tc 0, 7, .inl (Mf 3))), ((Ma 7), .inl (tc 0, 400, .inl (Mf 7)))] (fun (v : Option Value) (u : (Int32) × (Int32) × (Int32) × (Nat → Int32) × (Nat → Int32)) => match u with | (oo0x1, oo0x2, oo0x3, oo0x4, oo0x5) => v = none ∧ (((Mv 2) : Int32).toInt ≤ (oo0x1 : Int32).toInt ∧ (oo0x1 : Int32).toInt ≤ ((Mv 0) : Int32).toInt) ∧ (Agr (Mf 2) oo0x4 (400 * ((Mv 5) : Int32).toInt + ((Mf 3) (Mv 5).toNatClampNeg).toInt)) ∧ (LSR (Mf 7) oo0x3 oo0x4 oo0x5 (Mv 5) b (Mv 6)) ∧ ((oo0x5 (Mv 5).toNatClampNeg).toInt + (oo0x3 : Int32).toInt + ((Mv 2) : Int32).toInt ≤ ((Mf 3) (Mv 5).toNatClampNeg).toInt + ((Mv 9) : Int32).toInt + (oo0x1 : Int32).toInt ∧ ((Mf 3) (Mv 5).toNatClampNeg).toInt ≤ (oo0x5 (Mv 5).toNatClampNeg).toInt)) (fun (u : (Int32) × (Int32) × (Int32) × (Nat → Int32) × (Nat → Int32)) => match u with | (oo0x1, oo0x2, oo0x3, oo0x4, oo0x5) => [((Ma 0), .inr (12, [.ref (Ma 1), .int (Mv 0), .int (Mv 1), .ref (Ma 2), .ref (Ma 3), .ref (Ma 4), .ref (Ma 5), .ref (Ma 6), .int oo0x1, .int (Mv 3), .int (Mv 4), .int (Mv 5), .int (Mv 6), .int oo0x2, .int (Mv 8), .ref (Ma 7), .int oo0x3, .ref (Ma 8), .int (Mv 10), .ref (Ma 9), .ref (Ma 10), .int (Mv 11), .int (Mv 12), .int (Mv 13), .ref (Ma 11), .int (Mv 14), .ref (Ma 12), .ref (Ma 13), .ref (Ma 14), .ref (Ma 15), .ref (Ma 16), .long (Mj 0), .ref (Ma 17), .ref (Ma 18), .ref (Ma 19), .ref (Ma 20)])), ((Ma 1), .inl (tc 2, 400, .inl (Mf 1))), ((Ma 2), .inl (tc 0, 2400, .inl oo0x4)), ((Ma 3), .inl (tc 0, 7, .inl oo0x5)), ((Ma 7), .inl (tc 0, 400, .inl (Mf 7)))]) 0 0 := by
  refine Ct.start (by decide) (Nat.le_of_ble_eq_true rfl) (fun p e s m below meth c A ls hx hb hr hlk hin hml hown hts hK hX hP hD hA hl hS => ?_)
  have hl : lv_has ls 1 [(0, .ref (Ma 0))] := hl
  obtain ⟨pn_1, pf_2, pf_3⟩ := id h_ls
  have ar_h_ls := LSR.ar h_ls
  have ar_pf_3 := Cd.ar pf_3
  refine lv_aload_n hx hb dX12_closes_0 rfl (lv_at hl 0 rfl) ?_
  refine lv_iconst (v := 3) hx hb dX12_closes_1 (by decide) ?_
  have ha_4 : 1 ≤ (3 : Int32).toInt ∧ (3 : Int32).toInt ≤ 3 := by
    have y_3 : (3 : Int32).toInt = 3 := by decide
    refine ⟨?_, ?_⟩ <;> omega
  have ha_5 : ((Mf 3) (Mv 5).toNatClampNeg).toInt + ((Mv 9) : Int32).toInt ≤ 400 := by
    omega
  refine cV (a := (Ma 0)) (As := [.int 3]) (rest := []) (wr := [((Ma 1), .inl (tc 2, 400, .inl (Mf 1)))]) ⟨hx, hb, hml, hown, hts⟩ hK hX hA (ct_X12_layDown l D tc sk Ma Mv Mf Mj 3 b h_ls ha_4 ha_5) k_1342 k_1339 k_1341 k_54 k_106 pl_X12_layDown ⟨Nat.le_of_ble_eq_true rfl, Nat.le_of_ble_eq_true rfl⟩ rfl rfl (va_recv hK hP (ci := 12) (q0 := 0) rfl rfl) hP hD hS [0, 2, 3, 4] [1] rfl rfl rfl rfl rfl (by decide) rfl hl.1 rfl (Nat.le_of_ble_eq_true rfl) dX12_closes_2 ⟨Nat.le_of_ble_eq_true rfl, Nat.le_of_ble_eq_true rfl⟩ (fun v_6 u_7 H locs hv_8 hP hD hS => ?_)
  obtain ⟨sv_9, sv_10, sv_11, sv_12⟩ := u_7
  obtain ⟨rfl, pf_13, pf_14, pf_15, pf_16, pf_17⟩ := hv_8
  have pf_13 : LSR (Mf 7) sv_10 sv_11 sv_12 (Mv 5) b (Mv 6) := pf_13
  obtain ⟨pn_18, pf_19, pf_20⟩ := id pf_13
  have ar_pf_13 := LSR.ar pf_13
  have ar_pf_20 := Cd.ar pf_20
  have pf_14 : (sv_12 (Mv 5).toNatClampNeg).toInt + (sv_10 : Int32).toInt = ((Mf 3) (Mv 5).toNatClampNeg).toInt + ((Mv 9) : Int32).toInt ∧ 0 ≤ (sv_10 : Int32).toInt ∧ (sv_10 : Int32).toInt ≤ ((Mv 9) : Int32).toInt := pf_14
  have pf_15 : Agr (Mf 2) sv_11 (400 * ((Mv 5) : Int32).toInt + ((Mf 3) (Mv 5).toNatClampNeg).toInt) := pf_15
  have pf_16 : LdE (Mf 7) sv_10 (3 : Int32) := pf_16
  have pf_17 : InK (Mf 7) (Mv 9) sv_10 := pf_17
  refine W.eq (g2 := F0 m 5 ls []) rfl ?_
  have hP : va_P D classes [((Ma 1), .inl (tc 2, 400, .inl (Mf 1))), ((Ma 0), .inr (12, [.ref (Ma 1), .int (Mv 0), .int (Mv 1), .ref (Ma 2), .ref (Ma 3), .ref (Ma 4), .ref (Ma 5), .ref (Ma 6), .int (Mv 2), .int (Mv 3), .int (Mv 4), .int (Mv 5), .int (Mv 6), .int sv_9, .int (Mv 8), .ref (Ma 7), .int sv_10, .ref (Ma 8), .int (Mv 10), .ref (Ma 9), .ref (Ma 10), .int (Mv 11), .int (Mv 12), .int (Mv 13), .ref (Ma 11), .int (Mv 14), .ref (Ma 12), .ref (Ma 13), .ref (Ma 14), .ref (Ma 15), .ref (Ma 16), .long (Mj 0), .ref (Ma 17), .ref (Ma 18), .ref (Ma 19), .ref (Ma 20)])), ((Ma 2), .inl (tc 0, 2400, .inl sv_11)), ((Ma 3), .inl (tc 0, 7, .inl sv_12)), ((Ma 7), .inl (tc 0, 400, .inl (Mf 7)))] H := hP
  have hD : va_D A [((Ma 1), .inl (tc 2, 400, .inl (Mf 1))), ((Ma 0), .inr (12, [.ref (Ma 1), .int (Mv 0), .int (Mv 1), .ref (Ma 2), .ref (Ma 3), .ref (Ma 4), .ref (Ma 5), .ref (Ma 6), .int (Mv 2), .int (Mv 3), .int (Mv 4), .int (Mv 5), .int (Mv 6), .int sv_9, .int (Mv 8), .ref (Ma 7), .int sv_10, .ref (Ma 8), .int (Mv 10), .ref (Ma 9), .ref (Ma 10), .int (Mv 11), .int (Mv 12), .int (Mv 13), .ref (Ma 11), .int (Mv 14), .ref (Ma 12), .ref (Ma 13), .ref (Ma 14), .ref (Ma 15), .ref (Ma 16), .long (Mj 0), .ref (Ma 17), .ref (Ma 18), .ref (Ma 19), .ref (Ma 20)])), ((Ma 2), .inl (tc 0, 2400, .inl sv_11)), ((Ma 3), .inl (tc 0, 7, .inl sv_12)), ((Ma 7), .inl (tc 0, 400, .inl (Mf 7)))] := hD
  have loop_33 : ∀ (n_31 : Nat) (vy_26 : Int32) (vy_27 : Int32) (vy_28 : Int32) (vy_29 : Nat → Int32) (vy_30 : Nat → Int32) (H : Heap) (locs : List Loc) (ls : Array Slot), (401 - (vy_26 : Int32).toInt).toNat < n_31 → (0 ≤ (vy_26 : Int32).toInt ∧ (vy_26 : Int32).toInt ≤ ((Mv 0) : Int32).toInt ∧ ((Mv 0) : Int32).toInt ≤ 400) → ((Mv 2).toInt ≤ (vy_26 : Int32).toInt) → (LSR (Mf 7) vy_28 vy_29 vy_30 (Mv 5) b (Mv 6)) → ((vy_30 (Mv 5).toNatClampNeg).toInt + (vy_28 : Int32).toInt + ((Mv 2) : Int32).toInt ≤ ((Mf 3) (Mv 5).toNatClampNeg).toInt + ((Mv 9) : Int32).toInt + (vy_26 : Int32).toInt ∧ ((Mf 3) (Mv 5).toNatClampNeg).toInt ≤ (vy_30 (Mv 5).toNatClampNeg).toInt) → (Agr (Mf 2) vy_29 (400 * ((Mv 5) : Int32).toInt + ((Mf 3) (Mv 5).toNatClampNeg).toInt)) → va_P D classes [((Ma 1), .inl (tc 2, 400, .inl (Mf 1))), ((Ma 0), .inr (12, [.ref (Ma 1), .int (Mv 0), .int (Mv 1), .ref (Ma 2), .ref (Ma 3), .ref (Ma 4), .ref (Ma 5), .ref (Ma 6), .int vy_26, .int (Mv 3), .int (Mv 4), .int (Mv 5), .int (Mv 6), .int vy_27, .int (Mv 8), .ref (Ma 7), .int vy_28, .ref (Ma 8), .int (Mv 10), .ref (Ma 9), .ref (Ma 10), .int (Mv 11), .int (Mv 12), .int (Mv 13), .ref (Ma 11), .int (Mv 14), .ref (Ma 12), .ref (Ma 13), .ref (Ma 14), .ref (Ma 15), .ref (Ma 16), .long (Mj 0), .ref (Ma 17), .ref (Ma 18), .ref (Ma 19), .ref (Ma 20)])), ((Ma 2), .inl (tc 0, 2400, .inl vy_29)), ((Ma 3), .inl (tc 0, 7, .inl vy_30)), ((Ma 7), .inl (tc 0, 400, .inl (Mf 7)))] H → va_D A [((Ma 1), .inl (tc 2, 400, .inl (Mf 1))), ((Ma 0), .inr (12, [.ref (Ma 1), .int (Mv 0), .int (Mv 1), .ref (Ma 2), .ref (Ma 3), .ref (Ma 4), .ref (Ma 5), .ref (Ma 6), .int vy_26, .int (Mv 3), .int (Mv 4), .int (Mv 5), .int (Mv 6), .int vy_27, .int (Mv 8), .ref (Ma 7), .int vy_28, .ref (Ma 8), .int (Mv 10), .ref (Ma 9), .ref (Ma 10), .int (Mv 11), .int (Mv 12), .int (Mv 13), .ref (Ma 11), .int (Mv 14), .ref (Ma 12), .ref (Ma 13), .ref (Ma 14), .ref (Ma 15), .ref (Ma 16), .long (Mj 0), .ref (Ma 17), .ref (Ma 18), .ref (Ma 19), .ref (Ma 20)])), ((Ma 2), .inl (tc 0, 2400, .inl vy_29)), ((Ma 3), .inl (tc 0, 7, .inl vy_30)), ((Ma 7), .inl (tc 0, 400, .inl (Mf 7)))] → va_S A s.heap H locs → lv_has ls 1 [(0, .ref (Ma 0))] → W p l e ({ frames := 2, cells := 0, slots := 0, locals := 43 }) s m ([.ref (Ma 0)].toArray) below meth c H locs 0 0 (MQ below (QW (fun (v : Option Value) (u : (Int32) × (Int32) × (Int32) × (Nat → Int32) × (Nat → Int32)) => match u with | (oo0x1, oo0x2, oo0x3, oo0x4, oo0x5) => v = none ∧ (((Mv 2) : Int32).toInt ≤ (oo0x1 : Int32).toInt ∧ (oo0x1 : Int32).toInt ≤ ((Mv 0) : Int32).toInt) ∧ (Agr (Mf 2) oo0x4 (400 * ((Mv 5) : Int32).toInt + ((Mf 3) (Mv 5).toNatClampNeg).toInt)) ∧ (LSR (Mf 7) oo0x3 oo0x4 oo0x5 (Mv 5) b (Mv 6)) ∧ ((oo0x5 (Mv 5).toNatClampNeg).toInt + (oo0x3 : Int32).toInt + ((Mv 2) : Int32).toInt ≤ ((Mf 3) (Mv 5).toNatClampNeg).toInt + ((Mv 9) : Int32).toInt + (oo0x1 : Int32).toInt ∧ ((Mf 3) (Mv 5).toNatClampNeg).toInt ≤ (oo0x5 (Mv 5).toNatClampNeg).toInt)) (BW D (fun (u : (Int32) × (Int32) × (Int32) × (Nat → Int32) × (Nat → Int32)) => match u with | (oo0x1, oo0x2, oo0x3, oo0x4, oo0x5) => [((Ma 0), .inr (12, [.ref (Ma 1), .int (Mv 0), .int (Mv 1), .ref (Ma 2), .ref (Ma 3), .ref (Ma 4), .ref (Ma 5), .ref (Ma 6), .int oo0x1, .int (Mv 3), .int (Mv 4), .int (Mv 5), .int (Mv 6), .int oo0x2, .int (Mv 8), .ref (Ma 7), .int oo0x3, .ref (Ma 8), .int (Mv 10), .ref (Ma 9), .ref (Ma 10), .int (Mv 11), .int (Mv 12), .int (Mv 13), .ref (Ma 11), .int (Mv 14), .ref (Ma 12), .ref (Ma 13), .ref (Ma 14), .ref (Ma 15), .ref (Ma 16), .long (Mj 0), .ref (Ma 17), .ref (Ma 18), .ref (Ma 19), .ref (Ma 20)])), ((Ma 1), .inl (tc 2, 400, .inl (Mf 1))), ((Ma 2), .inl (tc 0, 2400, .inl oo0x4)), ((Ma 3), .inl (tc 0, 7, .inl oo0x5)), ((Ma 7), .inl (tc 0, 400, .inl (Mf 7)))]) A) A) ([.ref (Ma 0)].toArray) s 0 0 A) (F0 m 5 ls []) := by
    intro n_31
    induction n_31 with
    | zero =>
      intro vy_26 vy_27 vy_28 vy_29 vy_30 H locs ls h1
      exact absurd h1 (Nat.not_lt_zero _)
    | succ n_31 ih_32 =>
      intro vy_26 vy_27 vy_28 vy_29 vy_30 H locs ls hn_39 pf_34 pf_35 pf_36 pf_37 pf_38 hP hD hS hl
      obtain ⟨pn_40, pf_41, pf_42⟩ := id pf_36
      have ar_pf_36 := LSR.ar pf_36
      have ar_pf_42 := Cd.ar pf_42
      refine lv_aload_n hx hb dX12_closes_5 rfl (lv_at hl 0 rfl) ?_
      have ha_43 : 0 ≤ (vy_26 : Int32).toInt ∧ (vy_26 : Int32).toInt ≤ ((Mv 0) : Int32).toInt ∧ ((Mv 0) : Int32).toInt ≤ 400 := by
        refine ⟨?_, ?_, ?_⟩ <;> omega
      refine cV (a := (Ma 0)) (As := []) (rest := []) (wr := [((Ma 2), .inl (tc 0, 2400, .inl vy_29)), ((Ma 3), .inl (tc 0, 7, .inl vy_30)), ((Ma 7), .inl (tc 0, 400, .inl (Mf 7)))]) ⟨hx, hb, hml, hown, hts⟩ hK hX hA (ct_X12_see l D tc sk Ma (fun k => ([(Mv 0), (Mv 1), vy_26, (Mv 3), (Mv 4), (Mv 5), (Mv 6), vy_27, (Mv 8), vy_28, (Mv 10), (Mv 11), (Mv 12), (Mv 13), (Mv 14)] : List (Int32)).getD k 0) Mf Mj ha_43) k_1211 k_1208 k_1210 k_27 k_106 pl_X12_see ⟨Nat.le_of_ble_eq_true rfl, Nat.le_of_ble_eq_true rfl⟩ rfl rfl (va_recv hK hP (ci := 12) (q0 := 1) rfl rfl) hP hD hS [1, 0] [2, 3, 4] rfl rfl rfl rfl rfl (by decide) rfl hl.1 rfl (Nat.le_of_ble_eq_true rfl) dX12_closes_6 ⟨Nat.le_of_ble_eq_true rfl, Nat.le_of_ble_eq_true rfl⟩ (fun v_44 u_45 H locs hv_46 hP hD hS => ?_)
      obtain ⟨sv_47, rfl⟩ : ∃ z, z = u_45 := ⟨_, rfl⟩
      obtain ⟨r_51, rfl, he_52, pf_48, pf_49, pf_50⟩ := hv_46
      have he_52 : (r_51.toInt = -1 ∨ (sv_47 : Int32).toInt < ((Mv 0) : Int32).toInt) := he_52
      have pf_48 : (vy_26 : Int32).toInt ≤ (sv_47 : Int32).toInt ∧ (sv_47 : Int32).toInt ≤ ((Mv 0) : Int32).toInt := pf_48
      have pf_49 : NSq (Mf 1) (Mv 0) sv_47 := pf_49
      have pf_50 : Stl (Mf 1) (Mv 0) vy_26 sv_47 := pf_50
      refine W.eq (g2 := F0 m 9 ls [.int r_51]) rfl ?_
      have hP : va_P D classes [((Ma 2), .inl (tc 0, 2400, .inl vy_29)), ((Ma 3), .inl (tc 0, 7, .inl vy_30)), ((Ma 7), .inl (tc 0, 400, .inl (Mf 7))), ((Ma 0), .inr (12, [.ref (Ma 1), .int (Mv 0), .int (Mv 1), .ref (Ma 2), .ref (Ma 3), .ref (Ma 4), .ref (Ma 5), .ref (Ma 6), .int sv_47, .int (Mv 3), .int (Mv 4), .int (Mv 5), .int (Mv 6), .int vy_27, .int (Mv 8), .ref (Ma 7), .int vy_28, .ref (Ma 8), .int (Mv 10), .ref (Ma 9), .ref (Ma 10), .int (Mv 11), .int (Mv 12), .int (Mv 13), .ref (Ma 11), .int (Mv 14), .ref (Ma 12), .ref (Ma 13), .ref (Ma 14), .ref (Ma 15), .ref (Ma 16), .long (Mj 0), .ref (Ma 17), .ref (Ma 18), .ref (Ma 19), .ref (Ma 20)])), ((Ma 1), .inl (tc 2, 400, .inl (Mf 1)))] H := hP
      have hD : va_D A [((Ma 2), .inl (tc 0, 2400, .inl vy_29)), ((Ma 3), .inl (tc 0, 7, .inl vy_30)), ((Ma 7), .inl (tc 0, 400, .inl (Mf 7))), ((Ma 0), .inr (12, [.ref (Ma 1), .int (Mv 0), .int (Mv 1), .ref (Ma 2), .ref (Ma 3), .ref (Ma 4), .ref (Ma 5), .ref (Ma 6), .int sv_47, .int (Mv 3), .int (Mv 4), .int (Mv 5), .int (Mv 6), .int vy_27, .int (Mv 8), .ref (Ma 7), .int vy_28, .ref (Ma 8), .int (Mv 10), .ref (Ma 9), .ref (Ma 10), .int (Mv 11), .int (Mv 12), .int (Mv 13), .ref (Ma 11), .int (Mv 14), .ref (Ma 12), .ref (Ma 13), .ref (Ma 14), .ref (Ma 15), .ref (Ma 16), .long (Mj 0), .ref (Ma 17), .ref (Ma 18), .ref (Ma 19), .ref (Ma 20)])), ((Ma 1), .inl (tc 2, 400, .inl (Mf 1)))] := hD
      refine lv_bipush (v := 93) hx hb dX12_closes_9 (by decide) ?_
      refine lv_icmp_ne (tgt := 64) hx hb dX12_closes_11 (by decide) (fun c_54 => ?_) (fun c_54 => ?_)
      · skip
        have ha_55 : ((Mv 2) : Int32).toInt ≤ (sv_47 : Int32).toInt ∧ (sv_47 : Int32).toInt ≤ ((Mv 0) : Int32).toInt := by
          have z_1 : ¬ (r_51 : Int32).toInt = (93 : Int32).toInt := fun z => c_54 (Int32.toInt_inj.mp z)
          have y_93 : (93 : Int32).toInt = 93 := by decide
          refine ⟨?_, ?_⟩ <;> omega
        have ha_56 : (vy_30 (Mv 5).toNatClampNeg).toInt + (vy_28 : Int32).toInt + ((Mv 2) : Int32).toInt ≤ ((Mf 3) (Mv 5).toNatClampNeg).toInt + ((Mv 9) : Int32).toInt + (sv_47 : Int32).toInt ∧ ((Mf 3) (Mv 5).toNatClampNeg).toInt ≤ (vy_30 (Mv 5).toNatClampNeg).toInt := by
          have z_1 : ¬ (r_51 : Int32).toInt = (93 : Int32).toInt := fun z => c_54 (Int32.toInt_inj.mp z)
          have y_93 : (93 : Int32).toInt = 93 := by decide
          refine ⟨?_, ?_⟩ <;> omega
        exact retV hx hb hr hlk hP hD hS (sv_47, vy_27, vy_28, vy_29, vy_30) ⟨rfl, ha_55, pf_38, pf_36, ha_56⟩ [3, 4, 0, 1, 2] rfl rfl dX12_closes_64 (Nat.le_of_ble_eq_true rfl) (Nat.le_of_ble_eq_true rfl) rfl
      · skip
        refine lv_aload_n hx hb dX12_closes_14 rfl (lv_at hl 0 rfl) ?_
        have ha_57 : 0 ≤ (vy_28 : Int32).toInt ∧ (vy_28 : Int32).toInt ≤ 400 := by
          have z_1 := congrArg Int32.toInt c_54
          have y_93 : (93 : Int32).toInt = 93 := by decide
          refine ⟨?_, ?_⟩ <;> omega
        refine cV (a := (Ma 0)) (As := []) (rest := []) (wr := [((Ma 2), .inl (tc 0, 2400, .inl vy_29)), ((Ma 3), .inl (tc 0, 7, .inl vy_30)), ((Ma 1), .inl (tc 2, 400, .inl (Mf 1)))]) ⟨hx, hb, hml, hown, hts⟩ hK hX hA (ct_X12_isInside l D tc sk Ma (fun k => ([(Mv 0), (Mv 1), sv_47, (Mv 3), (Mv 4), (Mv 5), (Mv 6), vy_27, (Mv 8), vy_28, (Mv 10), (Mv 11), (Mv 12), (Mv 13), (Mv 14)] : List (Int32)).getD k 0) Mf Mj ha_57) k_1349 k_1346 k_1348 k_55 k_106 pl_X12_isInside ⟨Nat.le_of_ble_eq_true rfl, Nat.le_of_ble_eq_true rfl⟩ rfl rfl (va_recv hK hP (ci := 12) (q0 := 3) rfl rfl) hP hD hS [3, 2] [0, 1, 4] rfl rfl rfl rfl rfl (by decide) rfl hl.1 rfl (Nat.le_of_ble_eq_true rfl) dX12_closes_15 ⟨Nat.le_of_ble_eq_true rfl, Nat.le_of_ble_eq_true rfl⟩ (fun v_58 u_59 H locs hv_60 hP hD hS => ?_)
        obtain ⟨r_61, rfl, he_62, hm_64, hm_65⟩ := hv_60
        have he_62 : (r_61.toInt = 0 ∨ r_61.toInt = 1) := he_62
        refine W.eq (g2 := F0 m 18 ls [.int r_61]) rfl ?_
        have hP : va_P D classes [((Ma 2), .inl (tc 0, 2400, .inl vy_29)), ((Ma 3), .inl (tc 0, 7, .inl vy_30)), ((Ma 1), .inl (tc 2, 400, .inl (Mf 1))), ((Ma 0), .inr (12, [.ref (Ma 1), .int (Mv 0), .int (Mv 1), .ref (Ma 2), .ref (Ma 3), .ref (Ma 4), .ref (Ma 5), .ref (Ma 6), .int sv_47, .int (Mv 3), .int (Mv 4), .int (Mv 5), .int (Mv 6), .int vy_27, .int (Mv 8), .ref (Ma 7), .int vy_28, .ref (Ma 8), .int (Mv 10), .ref (Ma 9), .ref (Ma 10), .int (Mv 11), .int (Mv 12), .int (Mv 13), .ref (Ma 11), .int (Mv 14), .ref (Ma 12), .ref (Ma 13), .ref (Ma 14), .ref (Ma 15), .ref (Ma 16), .long (Mj 0), .ref (Ma 17), .ref (Ma 18), .ref (Ma 19), .ref (Ma 20)])), ((Ma 7), .inl (tc 0, 400, .inl (Mf 7)))] H := hP
        have hD : va_D A [((Ma 2), .inl (tc 0, 2400, .inl vy_29)), ((Ma 3), .inl (tc 0, 7, .inl vy_30)), ((Ma 1), .inl (tc 2, 400, .inl (Mf 1))), ((Ma 0), .inr (12, [.ref (Ma 1), .int (Mv 0), .int (Mv 1), .ref (Ma 2), .ref (Ma 3), .ref (Ma 4), .ref (Ma 5), .ref (Ma 6), .int sv_47, .int (Mv 3), .int (Mv 4), .int (Mv 5), .int (Mv 6), .int vy_27, .int (Mv 8), .ref (Ma 7), .int vy_28, .ref (Ma 8), .int (Mv 10), .ref (Ma 9), .ref (Ma 10), .int (Mv 11), .int (Mv 12), .int (Mv 13), .ref (Ma 11), .int (Mv 14), .ref (Ma 12), .ref (Ma 13), .ref (Ma 14), .ref (Ma 15), .ref (Ma 16), .long (Mj 0), .ref (Ma 17), .ref (Ma 18), .ref (Ma 19), .ref (Ma 20)])), ((Ma 7), .inl (tc 0, 400, .inl (Mf 7)))] := hD
        refine lv_if_eq (tgt := 64) hx hb dX12_closes_18 (by decide) (fun c_66 => ?_) (fun c_66 => ?_)
        · skip
          have hz_68 : (r_61 : Int32).toInt = 0 := by
            have z_1 := congrArg Int32.toInt c_54
            have z_2 := congrArg Int32.toInt c_66
            have y_0 : (0 : Int32).toInt = 0 := by decide
            have y_93 : (93 : Int32).toInt = 93 := by decide
            omega
          obtain pf_67 := hm_65 hz_68
          have pf_67 : NIns (Mf 7) vy_28 := pf_67
          have ha_69 : ((Mv 2) : Int32).toInt ≤ (sv_47 : Int32).toInt ∧ (sv_47 : Int32).toInt ≤ ((Mv 0) : Int32).toInt := by
            have z_1 := congrArg Int32.toInt c_54
            have z_2 := congrArg Int32.toInt c_66
            have y_0 : (0 : Int32).toInt = 0 := by decide
            have y_93 : (93 : Int32).toInt = 93 := by decide
            refine ⟨?_, ?_⟩ <;> omega
          have ha_70 : (vy_30 (Mv 5).toNatClampNeg).toInt + (vy_28 : Int32).toInt + ((Mv 2) : Int32).toInt ≤ ((Mf 3) (Mv 5).toNatClampNeg).toInt + ((Mv 9) : Int32).toInt + (sv_47 : Int32).toInt ∧ ((Mf 3) (Mv 5).toNatClampNeg).toInt ≤ (vy_30 (Mv 5).toNatClampNeg).toInt := by
            have z_1 := congrArg Int32.toInt c_54
            have z_2 := congrArg Int32.toInt c_66
            have y_0 : (0 : Int32).toInt = 0 := by decide
            have y_93 : (93 : Int32).toInt = 93 := by decide
            refine ⟨?_, ?_⟩ <;> omega
          exact retV hx hb hr hlk hP hD hS (sv_47, vy_27, vy_28, vy_29, vy_30) ⟨rfl, ha_69, pf_38, pf_36, ha_70⟩ [3, 2, 0, 1, 4] rfl rfl dX12_closes_64 (Nat.le_of_ble_eq_true rfl) (Nat.le_of_ble_eq_true rfl) rfl
        · skip
          have hz_72 : (r_61 : Int32).toInt = 1 := by
            have z_1 := congrArg Int32.toInt c_54
            have z_2 : ¬ (r_61 : Int32).toInt = (0 : Int32).toInt := fun z => c_66 (Int32.toInt_inj.mp z)
            have y_0 : (0 : Int32).toInt = 0 := by decide
            have y_93 : (93 : Int32).toInt = 93 := by decide
            omega
          obtain pf_71 := hm_64 hz_72
          have pf_71 : Ins (Mf 7) vy_28 := pf_71
          have ar_pf_71 := Ins.ar pf_71
          refine lv_aload_n hx hb dX12_closes_21 rfl (lv_at hl 0 rfl) ?_
          refine lv_iconst (v := 1) hx hb dX12_closes_22 (by decide) ?_
          have ha_73 : 1 ≤ (1 : Int32).toInt ∧ (1 : Int32).toInt ≤ 3 := by
            have z_1 := congrArg Int32.toInt c_54
            have z_2 : ¬ (r_61 : Int32).toInt = (0 : Int32).toInt := fun z => c_66 (Int32.toInt_inj.mp z)
            have y_0 : (0 : Int32).toInt = 0 := by decide
            have y_93 : (93 : Int32).toInt = 93 := by decide
            have y_1 : (1 : Int32).toInt = 1 := by decide
            refine ⟨?_, ?_⟩ <;> omega
          have ha_74 : (vy_30 (Mv 5).toNatClampNeg).toInt + (vy_28 : Int32).toInt ≤ 400 := by
            have z_1 := congrArg Int32.toInt c_54
            have z_2 : ¬ (r_61 : Int32).toInt = (0 : Int32).toInt := fun z => c_66 (Int32.toInt_inj.mp z)
            have y_0 : (0 : Int32).toInt = 0 := by decide
            have y_93 : (93 : Int32).toInt = 93 := by decide
            omega
          refine cV (a := (Ma 0)) (As := [.int 1]) (rest := []) (wr := [((Ma 1), .inl (tc 2, 400, .inl (Mf 1)))]) ⟨hx, hb, hml, hown, hts⟩ hK hX hA (ct_X12_layDown l D tc sk Ma (fun k => ([(Mv 0), (Mv 1), sv_47, (Mv 3), (Mv 4), (Mv 5), (Mv 6), vy_27, (Mv 8), vy_28, (Mv 10), (Mv 11), (Mv 12), (Mv 13), (Mv 14)] : List (Int32)).getD k 0) (fun k => ([(fun _ => 0), (fun _ => 0), vy_29, vy_30, (fun _ => 0), (fun _ => 0), (fun _ => 0), (Mf 7)] : List (Nat → Int32)).getD k (fun _ => 0)) Mj 1 b pf_36 ha_73 ha_74) k_1342 k_1339 k_1341 k_54 k_106 pl_X12_layDown ⟨Nat.le_of_ble_eq_true rfl, Nat.le_of_ble_eq_true rfl⟩ rfl rfl (va_recv hK hP (ci := 12) (q0 := 3) rfl rfl) hP hD hS [3, 0, 1, 4] [2] rfl rfl rfl rfl rfl (by decide) rfl hl.1 rfl (Nat.le_of_ble_eq_true rfl) dX12_closes_23 ⟨Nat.le_of_ble_eq_true rfl, Nat.le_of_ble_eq_true rfl⟩ (fun v_75 u_76 H locs hv_77 hP hD hS => ?_)
          obtain ⟨sv_78, sv_79, sv_80, sv_81⟩ := u_76
          obtain ⟨rfl, pf_82, pf_83, pf_84, pf_85, pf_86⟩ := hv_77
          have pf_82 : LSR (Mf 7) sv_79 sv_80 sv_81 (Mv 5) b (Mv 6) := pf_82
          obtain ⟨pn_87, pf_88, pf_89⟩ := id pf_82
          have ar_pf_82 := LSR.ar pf_82
          have ar_pf_89 := Cd.ar pf_89
          have pf_83 : (sv_81 (Mv 5).toNatClampNeg).toInt + (sv_79 : Int32).toInt = (vy_30 (Mv 5).toNatClampNeg).toInt + (vy_28 : Int32).toInt ∧ 0 ≤ (sv_79 : Int32).toInt ∧ (sv_79 : Int32).toInt ≤ (vy_28 : Int32).toInt := pf_83
          have pf_84 : Agr vy_29 sv_80 (400 * ((Mv 5) : Int32).toInt + (vy_30 (Mv 5).toNatClampNeg).toInt) := pf_84
          have pf_85 : LdE (Mf 7) sv_79 (1 : Int32) := pf_85
          have pf_86 : InK (Mf 7) vy_28 sv_79 := pf_86
          refine W.eq (g2 := F0 m 26 ls []) rfl ?_
          have hP : va_P D classes [((Ma 1), .inl (tc 2, 400, .inl (Mf 1))), ((Ma 0), .inr (12, [.ref (Ma 1), .int (Mv 0), .int (Mv 1), .ref (Ma 2), .ref (Ma 3), .ref (Ma 4), .ref (Ma 5), .ref (Ma 6), .int sv_47, .int (Mv 3), .int (Mv 4), .int (Mv 5), .int (Mv 6), .int sv_78, .int (Mv 8), .ref (Ma 7), .int sv_79, .ref (Ma 8), .int (Mv 10), .ref (Ma 9), .ref (Ma 10), .int (Mv 11), .int (Mv 12), .int (Mv 13), .ref (Ma 11), .int (Mv 14), .ref (Ma 12), .ref (Ma 13), .ref (Ma 14), .ref (Ma 15), .ref (Ma 16), .long (Mj 0), .ref (Ma 17), .ref (Ma 18), .ref (Ma 19), .ref (Ma 20)])), ((Ma 2), .inl (tc 0, 2400, .inl sv_80)), ((Ma 3), .inl (tc 0, 7, .inl sv_81)), ((Ma 7), .inl (tc 0, 400, .inl (Mf 7)))] H := hP
          have hD : va_D A [((Ma 1), .inl (tc 2, 400, .inl (Mf 1))), ((Ma 0), .inr (12, [.ref (Ma 1), .int (Mv 0), .int (Mv 1), .ref (Ma 2), .ref (Ma 3), .ref (Ma 4), .ref (Ma 5), .ref (Ma 6), .int sv_47, .int (Mv 3), .int (Mv 4), .int (Mv 5), .int (Mv 6), .int sv_78, .int (Mv 8), .ref (Ma 7), .int sv_79, .ref (Ma 8), .int (Mv 10), .ref (Ma 9), .ref (Ma 10), .int (Mv 11), .int (Mv 12), .int (Mv 13), .ref (Ma 11), .int (Mv 14), .ref (Ma 12), .ref (Ma 13), .ref (Ma 14), .ref (Ma 15), .ref (Ma 16), .long (Mj 0), .ref (Ma 17), .ref (Ma 18), .ref (Ma 19), .ref (Ma 20)])), ((Ma 2), .inl (tc 0, 2400, .inl sv_80)), ((Ma 3), .inl (tc 0, 7, .inl sv_81)), ((Ma 7), .inl (tc 0, 400, .inl (Mf 7)))] := hD
          refine lv_aload_n hx hb dX12_closes_26 rfl (lv_at hl 0 rfl) ?_
          refine lv_dup hx hb dX12_closes_27 rfl ?_
          refine gf_X12_154 hx hb hts hown hK hP 1 rfl rfl dX12_closes_28 ?_
          refine lv_iconst (v := 1) hx hb dX12_closes_31 (by decide) ?_
          refine lv_isub hx hb dX12_closes_32 ?_
          refine lv_topi (fun x_90 ex_90 => ?_)
          refine pf_X12_154 hx hb hts hown hK hP hD hS 1 rfl (Nat.le_of_ble_eq_true rfl) rfl rfl dX12_closes_33 (fun H locs hP hD hS => ?_)
          have hP : va_P D classes [((Ma 1), .inl (tc 2, 400, .inl (Mf 1))), ((Ma 0), .inr (12, [.ref (Ma 1), .int (Mv 0), .int (Mv 1), .ref (Ma 2), .ref (Ma 3), .ref (Ma 4), .ref (Ma 5), .ref (Ma 6), .int sv_47, .int (Mv 3), .int (Mv 4), .int (Mv 5), .int (Mv 6), .int sv_78, .int (Mv 8), .ref (Ma 7), .int x_90, .ref (Ma 8), .int (Mv 10), .ref (Ma 9), .ref (Ma 10), .int (Mv 11), .int (Mv 12), .int (Mv 13), .ref (Ma 11), .int (Mv 14), .ref (Ma 12), .ref (Ma 13), .ref (Ma 14), .ref (Ma 15), .ref (Ma 16), .long (Mj 0), .ref (Ma 17), .ref (Ma 18), .ref (Ma 19), .ref (Ma 20)])), ((Ma 2), .inl (tc 0, 2400, .inl sv_80)), ((Ma 3), .inl (tc 0, 7, .inl sv_81)), ((Ma 7), .inl (tc 0, 400, .inl (Mf 7)))] H := hP
          have hD : va_D A [((Ma 1), .inl (tc 2, 400, .inl (Mf 1))), ((Ma 0), .inr (12, [.ref (Ma 1), .int (Mv 0), .int (Mv 1), .ref (Ma 2), .ref (Ma 3), .ref (Ma 4), .ref (Ma 5), .ref (Ma 6), .int sv_47, .int (Mv 3), .int (Mv 4), .int (Mv 5), .int (Mv 6), .int sv_78, .int (Mv 8), .ref (Ma 7), .int x_90, .ref (Ma 8), .int (Mv 10), .ref (Ma 9), .ref (Ma 10), .int (Mv 11), .int (Mv 12), .int (Mv 13), .ref (Ma 11), .int (Mv 14), .ref (Ma 12), .ref (Ma 13), .ref (Ma 14), .ref (Ma 15), .ref (Ma 16), .long (Mj 0), .ref (Ma 17), .ref (Ma 18), .ref (Ma 19), .ref (Ma 20)])), ((Ma 2), .inl (tc 0, 2400, .inl sv_80)), ((Ma 3), .inl (tc 0, 7, .inl sv_81)), ((Ma 7), .inl (tc 0, 400, .inl (Mf 7)))] := hD
          have hk_91 := Ins.ar (Ins.keep pf_71 pf_86)
          have hi_93 : (x_90 : Int32).toInt = (sv_79 : Int32).toInt - 1 := by
            have z_1 := congrArg Int32.toInt c_54
            have z_2 : ¬ (r_61 : Int32).toInt = (0 : Int32).toInt := fun z => c_66 (Int32.toInt_inj.mp z)
            have y_0 : (0 : Int32).toInt = 0 := by decide
            have y_93 : (93 : Int32).toInt = 93 := by decide
            have y_1 : (1 : Int32).toInt = 1 := by decide
            have t_x_90 : x_90.toInt = (sv_79 : Int32).toInt - (1 : Int32).toInt := by rw [ex_90]; exact sub_toInt (by omega) (by omega)
            omega
          have pf_92 : LSR (Mf 7) x_90 sv_80 sv_81 (Mv 5) b (Mv 6) := LSR.drop pf_82 pf_85 (by decide) hk_91 hi_93
          obtain ⟨pn_94, pf_95, pf_96⟩ := id pf_92
          have ar_pf_92 := LSR.ar pf_92
          have ar_pf_96 := Cd.ar pf_96
          refine lv_aload_n hx hb dX12_closes_36 rfl (lv_at hl 0 rfl) ?_
          refine lv_dup hx hb dX12_closes_37 rfl ?_
          refine gf_X12_151 hx hb hts hown hK hP 1 rfl rfl dX12_closes_38 ?_
          refine lv_iconst (v := 1) hx hb dX12_closes_41 (by decide) ?_
          refine lv_isub hx hb dX12_closes_42 ?_
          refine lv_topi (fun x_97 ex_97 => ?_)
          refine pf_X12_151 hx hb hts hown hK hP hD hS 1 rfl (Nat.le_of_ble_eq_true rfl) rfl rfl dX12_closes_43 (fun H locs hP hD hS => ?_)
          have hP : va_P D classes [((Ma 1), .inl (tc 2, 400, .inl (Mf 1))), ((Ma 0), .inr (12, [.ref (Ma 1), .int (Mv 0), .int (Mv 1), .ref (Ma 2), .ref (Ma 3), .ref (Ma 4), .ref (Ma 5), .ref (Ma 6), .int sv_47, .int (Mv 3), .int (Mv 4), .int (Mv 5), .int (Mv 6), .int x_97, .int (Mv 8), .ref (Ma 7), .int x_90, .ref (Ma 8), .int (Mv 10), .ref (Ma 9), .ref (Ma 10), .int (Mv 11), .int (Mv 12), .int (Mv 13), .ref (Ma 11), .int (Mv 14), .ref (Ma 12), .ref (Ma 13), .ref (Ma 14), .ref (Ma 15), .ref (Ma 16), .long (Mj 0), .ref (Ma 17), .ref (Ma 18), .ref (Ma 19), .ref (Ma 20)])), ((Ma 2), .inl (tc 0, 2400, .inl sv_80)), ((Ma 3), .inl (tc 0, 7, .inl sv_81)), ((Ma 7), .inl (tc 0, 400, .inl (Mf 7)))] H := hP
          have hD : va_D A [((Ma 1), .inl (tc 2, 400, .inl (Mf 1))), ((Ma 0), .inr (12, [.ref (Ma 1), .int (Mv 0), .int (Mv 1), .ref (Ma 2), .ref (Ma 3), .ref (Ma 4), .ref (Ma 5), .ref (Ma 6), .int sv_47, .int (Mv 3), .int (Mv 4), .int (Mv 5), .int (Mv 6), .int x_97, .int (Mv 8), .ref (Ma 7), .int x_90, .ref (Ma 8), .int (Mv 10), .ref (Ma 9), .ref (Ma 10), .int (Mv 11), .int (Mv 12), .int (Mv 13), .ref (Ma 11), .int (Mv 14), .ref (Ma 12), .ref (Ma 13), .ref (Ma 14), .ref (Ma 15), .ref (Ma 16), .long (Mj 0), .ref (Ma 17), .ref (Ma 18), .ref (Ma 19), .ref (Ma 20)])), ((Ma 2), .inl (tc 0, 2400, .inl sv_80)), ((Ma 3), .inl (tc 0, 7, .inl sv_81)), ((Ma 7), .inl (tc 0, 400, .inl (Mf 7)))] := hD
          refine lv_aload_n hx hb dX12_closes_46 rfl (lv_at hl 0 rfl) ?_
          refine lv_dup hx hb dX12_closes_47 rfl ?_
          refine gf_X12_87 hx hb hts hown hK hP 1 rfl rfl dX12_closes_48 ?_
          refine lv_iconst (v := 1) hx hb dX12_closes_51 (by decide) ?_
          refine lv_iadd hx hb dX12_closes_52 ?_
          refine lv_topi (fun x_98 ex_98 => ?_)
          refine pf_X12_87 hx hb hts hown hK hP hD hS 1 rfl (Nat.le_of_ble_eq_true rfl) rfl rfl dX12_closes_53 (fun H locs hP hD hS => ?_)
          have hP : va_P D classes [((Ma 1), .inl (tc 2, 400, .inl (Mf 1))), ((Ma 0), .inr (12, [.ref (Ma 1), .int (Mv 0), .int (Mv 1), .ref (Ma 2), .ref (Ma 3), .ref (Ma 4), .ref (Ma 5), .ref (Ma 6), .int x_98, .int (Mv 3), .int (Mv 4), .int (Mv 5), .int (Mv 6), .int x_97, .int (Mv 8), .ref (Ma 7), .int x_90, .ref (Ma 8), .int (Mv 10), .ref (Ma 9), .ref (Ma 10), .int (Mv 11), .int (Mv 12), .int (Mv 13), .ref (Ma 11), .int (Mv 14), .ref (Ma 12), .ref (Ma 13), .ref (Ma 14), .ref (Ma 15), .ref (Ma 16), .long (Mj 0), .ref (Ma 17), .ref (Ma 18), .ref (Ma 19), .ref (Ma 20)])), ((Ma 2), .inl (tc 0, 2400, .inl sv_80)), ((Ma 3), .inl (tc 0, 7, .inl sv_81)), ((Ma 7), .inl (tc 0, 400, .inl (Mf 7)))] H := hP
          have hD : va_D A [((Ma 1), .inl (tc 2, 400, .inl (Mf 1))), ((Ma 0), .inr (12, [.ref (Ma 1), .int (Mv 0), .int (Mv 1), .ref (Ma 2), .ref (Ma 3), .ref (Ma 4), .ref (Ma 5), .ref (Ma 6), .int x_98, .int (Mv 3), .int (Mv 4), .int (Mv 5), .int (Mv 6), .int x_97, .int (Mv 8), .ref (Ma 7), .int x_90, .ref (Ma 8), .int (Mv 10), .ref (Ma 9), .ref (Ma 10), .int (Mv 11), .int (Mv 12), .int (Mv 13), .ref (Ma 11), .int (Mv 14), .ref (Ma 12), .ref (Ma 13), .ref (Ma 14), .ref (Ma 15), .ref (Ma 16), .long (Mj 0), .ref (Ma 17), .ref (Ma 18), .ref (Ma 19), .ref (Ma 20)])), ((Ma 2), .inl (tc 0, 2400, .inl sv_80)), ((Ma 3), .inl (tc 0, 7, .inl sv_81)), ((Ma 7), .inl (tc 0, 400, .inl (Mf 7)))] := hD
          refine lv_aload_n hx hb dX12_closes_56 rfl (lv_at hl 0 rfl) ?_
          refine lv_iconst (v := 3) hx hb dX12_closes_57 (by decide) ?_
          have ha_99 : 1 ≤ (3 : Int32).toInt ∧ (3 : Int32).toInt ≤ 3 := by
            have z_1 := congrArg Int32.toInt c_54
            have z_2 : ¬ (r_61 : Int32).toInt = (0 : Int32).toInt := fun z => c_66 (Int32.toInt_inj.mp z)
            have y_0 : (0 : Int32).toInt = 0 := by decide
            have y_93 : (93 : Int32).toInt = 93 := by decide
            have y_3 : (3 : Int32).toInt = 3 := by decide
            refine ⟨?_, ?_⟩ <;> omega
          have ha_100 : (sv_81 (Mv 5).toNatClampNeg).toInt + (x_90 : Int32).toInt ≤ 400 := by
            have z_1 := congrArg Int32.toInt c_54
            have z_2 : ¬ (r_61 : Int32).toInt = (0 : Int32).toInt := fun z => c_66 (Int32.toInt_inj.mp z)
            have y_0 : (0 : Int32).toInt = 0 := by decide
            have y_93 : (93 : Int32).toInt = 93 := by decide
            have y_1 : (1 : Int32).toInt = 1 := by decide
            have t_x_90 : x_90.toInt = (sv_79 : Int32).toInt - (1 : Int32).toInt := by rw [ex_90]; exact sub_toInt (by omega) (by omega)
            omega
          refine cV (a := (Ma 0)) (As := [.int 3]) (rest := []) (wr := [((Ma 1), .inl (tc 2, 400, .inl (Mf 1)))]) ⟨hx, hb, hml, hown, hts⟩ hK hX hA (ct_X12_layDown l D tc sk Ma (fun k => ([(Mv 0), (Mv 1), x_98, (Mv 3), (Mv 4), (Mv 5), (Mv 6), x_97, (Mv 8), x_90, (Mv 10), (Mv 11), (Mv 12), (Mv 13), (Mv 14)] : List (Int32)).getD k 0) (fun k => ([(fun _ => 0), (fun _ => 0), sv_80, sv_81, (fun _ => 0), (fun _ => 0), (fun _ => 0), (Mf 7)] : List (Nat → Int32)).getD k (fun _ => 0)) Mj 3 b pf_92 ha_99 ha_100) k_1342 k_1339 k_1341 k_54 k_106 pl_X12_layDown ⟨Nat.le_of_ble_eq_true rfl, Nat.le_of_ble_eq_true rfl⟩ rfl rfl (va_recv hK hP (ci := 12) (q0 := 1) rfl rfl) hP hD hS [1, 2, 3, 4] [0] rfl rfl rfl rfl rfl (by decide) rfl hl.1 rfl (Nat.le_of_ble_eq_true rfl) dX12_closes_58 ⟨Nat.le_of_ble_eq_true rfl, Nat.le_of_ble_eq_true rfl⟩ (fun v_101 u_102 H locs hv_103 hP hD hS => ?_)
          obtain ⟨sv_104, sv_105, sv_106, sv_107⟩ := u_102
          obtain ⟨rfl, pf_108, pf_109, pf_110, pf_111, pf_112⟩ := hv_103
          have pf_108 : LSR (Mf 7) sv_105 sv_106 sv_107 (Mv 5) b (Mv 6) := pf_108
          obtain ⟨pn_113, pf_114, pf_115⟩ := id pf_108
          have ar_pf_108 := LSR.ar pf_108
          have ar_pf_115 := Cd.ar pf_115
          have pf_109 : (sv_107 (Mv 5).toNatClampNeg).toInt + (sv_105 : Int32).toInt = (sv_81 (Mv 5).toNatClampNeg).toInt + (x_90 : Int32).toInt ∧ 0 ≤ (sv_105 : Int32).toInt ∧ (sv_105 : Int32).toInt ≤ (x_90 : Int32).toInt := pf_109
          have pf_110 : Agr sv_80 sv_106 (400 * ((Mv 5) : Int32).toInt + (sv_81 (Mv 5).toNatClampNeg).toInt) := pf_110
          have pf_111 : LdE (Mf 7) sv_105 (3 : Int32) := pf_111
          have pf_112 : InK (Mf 7) x_90 sv_105 := pf_112
          refine W.eq (g2 := F0 m 61 ls []) rfl ?_
          have hP : va_P D classes [((Ma 1), .inl (tc 2, 400, .inl (Mf 1))), ((Ma 0), .inr (12, [.ref (Ma 1), .int (Mv 0), .int (Mv 1), .ref (Ma 2), .ref (Ma 3), .ref (Ma 4), .ref (Ma 5), .ref (Ma 6), .int x_98, .int (Mv 3), .int (Mv 4), .int (Mv 5), .int (Mv 6), .int sv_104, .int (Mv 8), .ref (Ma 7), .int sv_105, .ref (Ma 8), .int (Mv 10), .ref (Ma 9), .ref (Ma 10), .int (Mv 11), .int (Mv 12), .int (Mv 13), .ref (Ma 11), .int (Mv 14), .ref (Ma 12), .ref (Ma 13), .ref (Ma 14), .ref (Ma 15), .ref (Ma 16), .long (Mj 0), .ref (Ma 17), .ref (Ma 18), .ref (Ma 19), .ref (Ma 20)])), ((Ma 2), .inl (tc 0, 2400, .inl sv_106)), ((Ma 3), .inl (tc 0, 7, .inl sv_107)), ((Ma 7), .inl (tc 0, 400, .inl (Mf 7)))] H := hP
          have hD : va_D A [((Ma 1), .inl (tc 2, 400, .inl (Mf 1))), ((Ma 0), .inr (12, [.ref (Ma 1), .int (Mv 0), .int (Mv 1), .ref (Ma 2), .ref (Ma 3), .ref (Ma 4), .ref (Ma 5), .ref (Ma 6), .int x_98, .int (Mv 3), .int (Mv 4), .int (Mv 5), .int (Mv 6), .int sv_104, .int (Mv 8), .ref (Ma 7), .int sv_105, .ref (Ma 8), .int (Mv 10), .ref (Ma 9), .ref (Ma 10), .int (Mv 11), .int (Mv 12), .int (Mv 13), .ref (Ma 11), .int (Mv 14), .ref (Ma 12), .ref (Ma 13), .ref (Ma 14), .ref (Ma 15), .ref (Ma 16), .long (Mj 0), .ref (Ma 17), .ref (Ma 18), .ref (Ma 19), .ref (Ma 20)])), ((Ma 2), .inl (tc 0, 2400, .inl sv_106)), ((Ma 3), .inl (tc 0, 7, .inl sv_107)), ((Ma 7), .inl (tc 0, 400, .inl (Mf 7)))] := hD
          refine lv_goto (tgt := 5) hx hb dX12_closes_61 (by decide) ?_
          have hb_116 : 401 - (x_98 : Int32).toInt < 401 - (vy_26 : Int32).toInt ∧ 1 ≤ 401 - (vy_26 : Int32).toInt := by
            have z_1 := congrArg Int32.toInt c_54
            have z_2 : ¬ (r_61 : Int32).toInt = (0 : Int32).toInt := fun z => c_66 (Int32.toInt_inj.mp z)
            have y_0 : (0 : Int32).toInt = 0 := by decide
            have y_93 : (93 : Int32).toInt = 93 := by decide
            have y_1 : (1 : Int32).toInt = 1 := by decide
            have t_x_98 : x_98.toInt = (sv_47 : Int32).toInt + (1 : Int32).toInt := by rw [ex_98]; exact add_toInt (by omega) (by omega)
            refine ⟨?_, ?_⟩ <;> omega
          have ha_117 : 0 ≤ (x_98 : Int32).toInt ∧ (x_98 : Int32).toInt ≤ ((Mv 0) : Int32).toInt ∧ ((Mv 0) : Int32).toInt ≤ 400 := by
            have z_1 := congrArg Int32.toInt c_54
            have z_2 : ¬ (r_61 : Int32).toInt = (0 : Int32).toInt := fun z => c_66 (Int32.toInt_inj.mp z)
            have y_0 : (0 : Int32).toInt = 0 := by decide
            have y_93 : (93 : Int32).toInt = 93 := by decide
            have y_1 : (1 : Int32).toInt = 1 := by decide
            have t_x_98 : x_98.toInt = (sv_47 : Int32).toInt + (1 : Int32).toInt := by rw [ex_98]; exact add_toInt (by omega) (by omega)
            refine ⟨?_, ?_, ?_⟩ <;> omega
          have ha_118 : (Mv 2).toInt ≤ (x_98 : Int32).toInt := by
            have z_1 := congrArg Int32.toInt c_54
            have z_2 : ¬ (r_61 : Int32).toInt = (0 : Int32).toInt := fun z => c_66 (Int32.toInt_inj.mp z)
            have y_0 : (0 : Int32).toInt = 0 := by decide
            have y_93 : (93 : Int32).toInt = 93 := by decide
            have y_1 : (1 : Int32).toInt = 1 := by decide
            have t_x_98 : x_98.toInt = (sv_47 : Int32).toInt + (1 : Int32).toInt := by rw [ex_98]; exact add_toInt (by omega) (by omega)
            omega
          have ha_119 : (sv_107 (Mv 5).toNatClampNeg).toInt + (sv_105 : Int32).toInt + ((Mv 2) : Int32).toInt ≤ ((Mf 3) (Mv 5).toNatClampNeg).toInt + ((Mv 9) : Int32).toInt + (x_98 : Int32).toInt ∧ ((Mf 3) (Mv 5).toNatClampNeg).toInt ≤ (sv_107 (Mv 5).toNatClampNeg).toInt := by
            have z_1 := congrArg Int32.toInt c_54
            have z_2 : ¬ (r_61 : Int32).toInt = (0 : Int32).toInt := fun z => c_66 (Int32.toInt_inj.mp z)
            have y_0 : (0 : Int32).toInt = 0 := by decide
            have y_93 : (93 : Int32).toInt = 93 := by decide
            have y_1 : (1 : Int32).toInt = 1 := by decide
            have t_x_98 : x_98.toInt = (sv_47 : Int32).toInt + (1 : Int32).toInt := by rw [ex_98]; exact add_toInt (by omega) (by omega)
            refine ⟨?_, ?_⟩ <;> omega
          have hr_120 : (400 * ((Mv 5) : Int32).toInt + ((Mf 3) (Mv 5).toNatClampNeg).toInt) ≤ (400 * ((Mv 5) : Int32).toInt + ((Mf 3) (Mv 5).toNatClampNeg).toInt) := by
            have z_1 := congrArg Int32.toInt c_54
            have z_2 : ¬ (r_61 : Int32).toInt = (0 : Int32).toInt := fun z => c_66 (Int32.toInt_inj.mp z)
            have y_0 : (0 : Int32).toInt = 0 := by decide
            have y_93 : (93 : Int32).toInt = 93 := by decide
            omega
          have hr_121 : (400 * ((Mv 5) : Int32).toInt + ((Mf 3) (Mv 5).toNatClampNeg).toInt) ≤ (400 * ((Mv 5) : Int32).toInt + (vy_30 (Mv 5).toNatClampNeg).toInt) := by
            have z_1 := congrArg Int32.toInt c_54
            have z_2 : ¬ (r_61 : Int32).toInt = (0 : Int32).toInt := fun z => c_66 (Int32.toInt_inj.mp z)
            have y_0 : (0 : Int32).toInt = 0 := by decide
            have y_93 : (93 : Int32).toInt = 93 := by decide
            omega
          have hr_122 : (400 * ((Mv 5) : Int32).toInt + ((Mf 3) (Mv 5).toNatClampNeg).toInt) ≤ (400 * ((Mv 5) : Int32).toInt + (sv_81 (Mv 5).toNatClampNeg).toInt) := by
            have z_1 := congrArg Int32.toInt c_54
            have z_2 : ¬ (r_61 : Int32).toInt = (0 : Int32).toInt := fun z => c_66 (Int32.toInt_inj.mp z)
            have y_0 : (0 : Int32).toInt = 0 := by decide
            have y_93 : (93 : Int32).toInt = 93 := by decide
            omega
          exact ih_32 x_98 sv_104 sv_105 sv_106 sv_107 _ _ _ (by omega) ha_117 ha_118 pf_108 ha_119 (Agr.trans (k' := (400 * ((Mv 5) : Int32).toInt + ((Mf 3) (Mv 5).toNatClampNeg).toInt)) (Agr.trans (k' := (400 * ((Mv 5) : Int32).toInt + ((Mf 3) (Mv 5).toNatClampNeg).toInt)) (Agr.mono pf_38 hr_120) pf_84 ⟨Int.le_refl _, hr_121⟩) pf_110 ⟨Int.le_refl _, hr_122⟩) (hP.sub [0, 1, 2, 3, 4] rfl) (hD.sub [0, 1, 2, 3, 4] rfl rfl) hS (lv_sub hl [0] rfl)
  have ha_123 : 0 ≤ ((Mv 2) : Int32).toInt ∧ ((Mv 2) : Int32).toInt ≤ ((Mv 0) : Int32).toInt ∧ ((Mv 0) : Int32).toInt ≤ 400 := by
    refine ⟨?_, ?_, ?_⟩ <;> omega
  have ha_124 : (Mv 2).toInt ≤ ((Mv 2) : Int32).toInt := by
    omega
  have ha_125 : (sv_12 (Mv 5).toNatClampNeg).toInt + (sv_10 : Int32).toInt + ((Mv 2) : Int32).toInt ≤ ((Mf 3) (Mv 5).toNatClampNeg).toInt + ((Mv 9) : Int32).toInt + ((Mv 2) : Int32).toInt ∧ ((Mf 3) (Mv 5).toNatClampNeg).toInt ≤ (sv_12 (Mv 5).toNatClampNeg).toInt := by
    refine ⟨?_, ?_⟩ <;> omega
  exact loop_33 _ (Mv 2) sv_9 sv_10 sv_11 sv_12 _ _ _ (Nat.lt_succ_self _) ha_123 ha_124 pf_13 ha_125 pf_15 hP hD hS hl
set_option maxHeartbeats 4000000 in
set_option maxRecDepth 100000 in
theorem ct_X12_tested (l : Launch) (D : va_G) (tc : Nat → ClassId) (sk : (Nat → Nat) × (Nat → Nat)) (Ma : Nat → Nat) (Mv : Nat → Int32) (Mf : Nat → Nat → Int32) (Mj : Nat → Int64) (b : Int32) (h_nx : 0 ≤ ((Mv 2) : Int32).toInt ∧ ((Mv 2) : Int32).toInt ≤ ((Mv 0) : Int32).toInt ∧ ((Mv 0) : Int32).toInt ≤ 400) (h_cd : Cd (Mf 2) (Mf 3) (Mv 5) b (Mv 6) 0) (h_L : ((Mf 3) (Mv 5).toNatClampNeg).toInt ≤ ((Mv 2) : Int32).toInt) (h_md : 0 ≤ ((Mv 6) : Int32).toInt ∧ ((Mv 6) : Int32).toInt ≤ 60) : Ct l yX12_tested cX12_tested 3 (some .boolean) { frames := 8, cells := 0, slots := 0, locals := 176 } D tc sk [.ref (Ma 0)] [((Ma 0), .inr (12, [.ref (Ma 1), .int (Mv 0), .int (Mv 1), .ref (Ma 2), .ref (Ma 3), .ref (Ma 4), .ref (Ma 5), .ref (Ma 6), .int (Mv 2), .int (Mv 3), .int (Mv 4), .int (Mv 5), .int (Mv 6), .int (Mv 7), .int (Mv 8), .ref (Ma 7), .int (Mv 9), .ref (Ma 8), .int (Mv 10), .ref (Ma 9), .ref (Ma 10), .int (Mv 11), .int (Mv 12), .int (Mv 13), .ref (Ma 11), .int (Mv 14), .ref (Ma 12), .ref (Ma 13), .ref (Ma 14), .ref (Ma 15), .ref (Ma 16), .long (Mj 0), .ref (Ma 17), .ref (Ma 18), .ref (Ma 19), .ref (Ma 20)])), ((Ma 1), .inl (tc 2, 400, .inl (Mf 1))), ((Ma 2), .inl (tc 0, 2400, .inl (Mf 2))), ((Ma 3), .inl (tc 0, 7, .inl (Mf 3))), ((Ma 7), .inl (tc 0, 400, .inl (Mf 7)))] (fun (v : Option Value) (u : (Int32) × (Int32) × (Int32) × (Int32) × (Int32) × (Int32) × (Nat → Int32) × (Nat → Int32) × (Nat → Int32)) => match u with | (oo0x1, oo0x2, oo0x3, oo0x4, oo0x5, oo0x6, oo0x7, oo0x8, oo0x9) => ∃ r : Int32, v = some (.int r) ∧ (((r.toInt = 0 ∧ ¬ (oo0x2 : Int32).toInt = 0) ∨ (r.toInt = 1 ∧ ((Mf 3) (Mv 5).toNatClampNeg).toInt ≤ (oo0x8 (Mv 5).toNatClampNeg).toInt ∧ (oo0x8 (Mv 5).toNatClampNeg).toInt ≤ (oo0x1 : Int32).toInt))) ∧ (((Mv 2) : Int32).toInt ≤ (oo0x1 : Int32).toInt ∧ (oo0x1 : Int32).toInt ≤ ((Mv 0) : Int32).toInt) ∧ (((Mv 6) : Int32).toInt ≤ (oo0x4 : Int32).toInt ∧ (oo0x4 : Int32).toInt ≤ 60) ∧ (Agr (Mf 2) oo0x7 (400 * ((Mv 5) : Int32).toInt + ((Mf 3) (Mv 5).toNatClampNeg).toInt)) ∧ (r.toInt = 1 → (Cd oo0x7 oo0x8 (Mv 5) b oo0x4 1))) (fun (u : (Int32) × (Int32) × (Int32) × (Int32) × (Int32) × (Int32) × (Nat → Int32) × (Nat → Int32) × (Nat → Int32)) => match u with | (oo0x1, oo0x2, oo0x3, oo0x4, oo0x5, oo0x6, oo0x7, oo0x8, oo0x9) => [((Ma 0), .inr (12, [.ref (Ma 1), .int (Mv 0), .int (Mv 1), .ref (Ma 2), .ref (Ma 3), .ref (Ma 4), .ref (Ma 5), .ref (Ma 6), .int oo0x1, .int oo0x2, .int oo0x3, .int (Mv 5), .int oo0x4, .int oo0x5, .int (Mv 8), .ref (Ma 7), .int oo0x6, .ref (Ma 8), .int (Mv 10), .ref (Ma 9), .ref (Ma 10), .int (Mv 11), .int (Mv 12), .int (Mv 13), .ref (Ma 11), .int (Mv 14), .ref (Ma 12), .ref (Ma 13), .ref (Ma 14), .ref (Ma 15), .ref (Ma 16), .long (Mj 0), .ref (Ma 17), .ref (Ma 18), .ref (Ma 19), .ref (Ma 20)])), ((Ma 1), .inl (tc 2, 400, .inl (Mf 1))), ((Ma 2), .inl (tc 0, 2400, .inl oo0x7)), ((Ma 3), .inl (tc 0, 7, .inl oo0x8)), ((Ma 7), .inl (tc 0, 400, .inl oo0x9))]) 0 0 := by
  refine Ct.start (by decide) (Nat.le_of_ble_eq_true rfl) (fun p e s m below meth c A ls hx hb hr hlk hin hml hown hts hK hX hP hD hA hl hS => ?_)
  have hl : lv_has ls 3 [(0, .ref (Ma 0))] := hl
  have ar_h_cd := Cd.ar h_cd
  refine lv_aload_n hx hb dX12_tested_0 rfl (lv_at hl 0 rfl) ?_
  refine lv_iconst (v := 0) hx hb dX12_tested_1 (by decide) ?_
  refine pf_X12_154 hx hb hts hown hK hP hD hS 0 rfl (Nat.le_of_ble_eq_true rfl) rfl rfl dX12_tested_2 (fun H locs hP hD hS => ?_)
  have hP : va_P D classes [((Ma 0), .inr (12, [.ref (Ma 1), .int (Mv 0), .int (Mv 1), .ref (Ma 2), .ref (Ma 3), .ref (Ma 4), .ref (Ma 5), .ref (Ma 6), .int (Mv 2), .int (Mv 3), .int (Mv 4), .int (Mv 5), .int (Mv 6), .int (Mv 7), .int (Mv 8), .ref (Ma 7), .int 0, .ref (Ma 8), .int (Mv 10), .ref (Ma 9), .ref (Ma 10), .int (Mv 11), .int (Mv 12), .int (Mv 13), .ref (Ma 11), .int (Mv 14), .ref (Ma 12), .ref (Ma 13), .ref (Ma 14), .ref (Ma 15), .ref (Ma 16), .long (Mj 0), .ref (Ma 17), .ref (Ma 18), .ref (Ma 19), .ref (Ma 20)])), ((Ma 1), .inl (tc 2, 400, .inl (Mf 1))), ((Ma 2), .inl (tc 0, 2400, .inl (Mf 2))), ((Ma 3), .inl (tc 0, 7, .inl (Mf 3))), ((Ma 7), .inl (tc 0, 400, .inl (Mf 7)))] H := hP
  have hD : va_D A [((Ma 0), .inr (12, [.ref (Ma 1), .int (Mv 0), .int (Mv 1), .ref (Ma 2), .ref (Ma 3), .ref (Ma 4), .ref (Ma 5), .ref (Ma 6), .int (Mv 2), .int (Mv 3), .int (Mv 4), .int (Mv 5), .int (Mv 6), .int (Mv 7), .int (Mv 8), .ref (Ma 7), .int 0, .ref (Ma 8), .int (Mv 10), .ref (Ma 9), .ref (Ma 10), .int (Mv 11), .int (Mv 12), .int (Mv 13), .ref (Ma 11), .int (Mv 14), .ref (Ma 12), .ref (Ma 13), .ref (Ma 14), .ref (Ma 15), .ref (Ma 16), .long (Mj 0), .ref (Ma 17), .ref (Ma 18), .ref (Ma 19), .ref (Ma 20)])), ((Ma 1), .inl (tc 2, 400, .inl (Mf 1))), ((Ma 2), .inl (tc 0, 2400, .inl (Mf 2))), ((Ma 3), .inl (tc 0, 7, .inl (Mf 3))), ((Ma 7), .inl (tc 0, 400, .inl (Mf 7)))] := hD
  refine lv_aload_n hx hb dX12_tested_5 rfl (lv_at hl 0 rfl) ?_
  refine lv_iconst (v := 0) hx hb dX12_tested_6 (by decide) ?_
  refine pf_X12_151 hx hb hts hown hK hP hD hS 0 rfl (Nat.le_of_ble_eq_true rfl) rfl rfl dX12_tested_7 (fun H locs hP hD hS => ?_)
  have hP : va_P D classes [((Ma 0), .inr (12, [.ref (Ma 1), .int (Mv 0), .int (Mv 1), .ref (Ma 2), .ref (Ma 3), .ref (Ma 4), .ref (Ma 5), .ref (Ma 6), .int (Mv 2), .int (Mv 3), .int (Mv 4), .int (Mv 5), .int (Mv 6), .int 0, .int (Mv 8), .ref (Ma 7), .int 0, .ref (Ma 8), .int (Mv 10), .ref (Ma 9), .ref (Ma 10), .int (Mv 11), .int (Mv 12), .int (Mv 13), .ref (Ma 11), .int (Mv 14), .ref (Ma 12), .ref (Ma 13), .ref (Ma 14), .ref (Ma 15), .ref (Ma 16), .long (Mj 0), .ref (Ma 17), .ref (Ma 18), .ref (Ma 19), .ref (Ma 20)])), ((Ma 1), .inl (tc 2, 400, .inl (Mf 1))), ((Ma 2), .inl (tc 0, 2400, .inl (Mf 2))), ((Ma 3), .inl (tc 0, 7, .inl (Mf 3))), ((Ma 7), .inl (tc 0, 400, .inl (Mf 7)))] H := hP
  have hD : va_D A [((Ma 0), .inr (12, [.ref (Ma 1), .int (Mv 0), .int (Mv 1), .ref (Ma 2), .ref (Ma 3), .ref (Ma 4), .ref (Ma 5), .ref (Ma 6), .int (Mv 2), .int (Mv 3), .int (Mv 4), .int (Mv 5), .int (Mv 6), .int 0, .int (Mv 8), .ref (Ma 7), .int 0, .ref (Ma 8), .int (Mv 10), .ref (Ma 9), .ref (Ma 10), .int (Mv 11), .int (Mv 12), .int (Mv 13), .ref (Ma 11), .int (Mv 14), .ref (Ma 12), .ref (Ma 13), .ref (Ma 14), .ref (Ma 15), .ref (Ma 16), .long (Mj 0), .ref (Ma 17), .ref (Ma 18), .ref (Ma 19), .ref (Ma 20)])), ((Ma 1), .inl (tc 2, 400, .inl (Mf 1))), ((Ma 2), .inl (tc 0, 2400, .inl (Mf 2))), ((Ma 3), .inl (tc 0, 7, .inl (Mf 3))), ((Ma 7), .inl (tc 0, 400, .inl (Mf 7)))] := hD
  refine lv_iconst (v := 1) hx hb dX12_tested_10 (by decide) ?_
  refine lv_istore_n (lv' := [(1, .int 1), (0, .ref (Ma 0))]) hx hb dX12_tested_11 rfl hl (by decide) rfl (fun ls hl => ?_)
  have loop_23 : ∀ (n_21 : Nat) (vy_11 : Int32) (vy_12 : Int32) (vy_13 : Int32) (vy_14 : Int32) (vy_15 : Int32) (vy_16 : Int32) (vy_17 : Nat → Int32) (vy_18 : Nat → Int32) (vy_19 : Nat → Int32) (vy_20 : Int32) (H : Heap) (locs : List Loc) (ls : Array Slot), (2 * (401 - (vy_11 : Int32).toInt) + (vy_20 : Int32).toInt).toNat < n_21 → (0 ≤ (vy_11 : Int32).toInt ∧ (vy_11 : Int32).toInt ≤ ((Mv 0) : Int32).toInt ∧ ((Mv 0) : Int32).toInt ≤ 400) → ((Mv 2).toInt ≤ (vy_11 : Int32).toInt) → (0 ≤ (vy_20 : Int32).toInt ∧ (vy_20 : Int32).toInt ≤ 1) → ((Mv 6).toInt ≤ (vy_14 : Int32).toInt ∧ (vy_14 : Int32).toInt ≤ 60) → (LX vy_19 vy_16 vy_17 vy_18 (Mv 5) b vy_14 vy_20) → ((vy_18 (Mv 5).toNatClampNeg).toInt + (vy_16 : Int32).toInt ≤ (vy_11 : Int32).toInt ∧ ((Mf 3) (Mv 5).toNatClampNeg).toInt ≤ (vy_18 (Mv 5).toNatClampNeg).toInt ∧ 0 ≤ (vy_16 : Int32).toInt ∧ (vy_16 : Int32).toInt ≤ 400) → (Agr (Mf 2) vy_17 (400 * ((Mv 5) : Int32).toInt + ((Mf 3) (Mv 5).toNatClampNeg).toInt)) → va_P D classes [((Ma 0), .inr (12, [.ref (Ma 1), .int (Mv 0), .int (Mv 1), .ref (Ma 2), .ref (Ma 3), .ref (Ma 4), .ref (Ma 5), .ref (Ma 6), .int vy_11, .int vy_12, .int vy_13, .int (Mv 5), .int vy_14, .int vy_15, .int (Mv 8), .ref (Ma 7), .int vy_16, .ref (Ma 8), .int (Mv 10), .ref (Ma 9), .ref (Ma 10), .int (Mv 11), .int (Mv 12), .int (Mv 13), .ref (Ma 11), .int (Mv 14), .ref (Ma 12), .ref (Ma 13), .ref (Ma 14), .ref (Ma 15), .ref (Ma 16), .long (Mj 0), .ref (Ma 17), .ref (Ma 18), .ref (Ma 19), .ref (Ma 20)])), ((Ma 1), .inl (tc 2, 400, .inl (Mf 1))), ((Ma 2), .inl (tc 0, 2400, .inl vy_17)), ((Ma 3), .inl (tc 0, 7, .inl vy_18)), ((Ma 7), .inl (tc 0, 400, .inl vy_19))] H → va_D A [((Ma 0), .inr (12, [.ref (Ma 1), .int (Mv 0), .int (Mv 1), .ref (Ma 2), .ref (Ma 3), .ref (Ma 4), .ref (Ma 5), .ref (Ma 6), .int vy_11, .int vy_12, .int vy_13, .int (Mv 5), .int vy_14, .int vy_15, .int (Mv 8), .ref (Ma 7), .int vy_16, .ref (Ma 8), .int (Mv 10), .ref (Ma 9), .ref (Ma 10), .int (Mv 11), .int (Mv 12), .int (Mv 13), .ref (Ma 11), .int (Mv 14), .ref (Ma 12), .ref (Ma 13), .ref (Ma 14), .ref (Ma 15), .ref (Ma 16), .long (Mj 0), .ref (Ma 17), .ref (Ma 18), .ref (Ma 19), .ref (Ma 20)])), ((Ma 1), .inl (tc 2, 400, .inl (Mf 1))), ((Ma 2), .inl (tc 0, 2400, .inl vy_17)), ((Ma 3), .inl (tc 0, 7, .inl vy_18)), ((Ma 7), .inl (tc 0, 400, .inl vy_19))] → va_S A s.heap H locs → lv_has ls 3 [(1, .int vy_20), (0, .ref (Ma 0))] → W p l e ({ frames := 8, cells := 0, slots := 0, locals := 176 }) s m ([.ref (Ma 0)].toArray) below meth c H locs 0 0 (MQ below (QW (fun (v : Option Value) (u : (Int32) × (Int32) × (Int32) × (Int32) × (Int32) × (Int32) × (Nat → Int32) × (Nat → Int32) × (Nat → Int32)) => match u with | (oo0x1, oo0x2, oo0x3, oo0x4, oo0x5, oo0x6, oo0x7, oo0x8, oo0x9) => ∃ r : Int32, v = some (.int r) ∧ (((r.toInt = 0 ∧ ¬ (oo0x2 : Int32).toInt = 0) ∨ (r.toInt = 1 ∧ ((Mf 3) (Mv 5).toNatClampNeg).toInt ≤ (oo0x8 (Mv 5).toNatClampNeg).toInt ∧ (oo0x8 (Mv 5).toNatClampNeg).toInt ≤ (oo0x1 : Int32).toInt))) ∧ (((Mv 2) : Int32).toInt ≤ (oo0x1 : Int32).toInt ∧ (oo0x1 : Int32).toInt ≤ ((Mv 0) : Int32).toInt) ∧ (((Mv 6) : Int32).toInt ≤ (oo0x4 : Int32).toInt ∧ (oo0x4 : Int32).toInt ≤ 60) ∧ (Agr (Mf 2) oo0x7 (400 * ((Mv 5) : Int32).toInt + ((Mf 3) (Mv 5).toNatClampNeg).toInt)) ∧ (r.toInt = 1 → (Cd oo0x7 oo0x8 (Mv 5) b oo0x4 1))) (BW D (fun (u : (Int32) × (Int32) × (Int32) × (Int32) × (Int32) × (Int32) × (Nat → Int32) × (Nat → Int32) × (Nat → Int32)) => match u with | (oo0x1, oo0x2, oo0x3, oo0x4, oo0x5, oo0x6, oo0x7, oo0x8, oo0x9) => [((Ma 0), .inr (12, [.ref (Ma 1), .int (Mv 0), .int (Mv 1), .ref (Ma 2), .ref (Ma 3), .ref (Ma 4), .ref (Ma 5), .ref (Ma 6), .int oo0x1, .int oo0x2, .int oo0x3, .int (Mv 5), .int oo0x4, .int oo0x5, .int (Mv 8), .ref (Ma 7), .int oo0x6, .ref (Ma 8), .int (Mv 10), .ref (Ma 9), .ref (Ma 10), .int (Mv 11), .int (Mv 12), .int (Mv 13), .ref (Ma 11), .int (Mv 14), .ref (Ma 12), .ref (Ma 13), .ref (Ma 14), .ref (Ma 15), .ref (Ma 16), .long (Mj 0), .ref (Ma 17), .ref (Ma 18), .ref (Ma 19), .ref (Ma 20)])), ((Ma 1), .inl (tc 2, 400, .inl (Mf 1))), ((Ma 2), .inl (tc 0, 2400, .inl oo0x7)), ((Ma 3), .inl (tc 0, 7, .inl oo0x8)), ((Ma 7), .inl (tc 0, 400, .inl oo0x9))]) A) A) ([.ref (Ma 0)].toArray) s 0 0 A) (F0 m 12 ls []) := by
    intro n_21
    induction n_21 with
    | zero =>
      intro vy_11 vy_12 vy_13 vy_14 vy_15 vy_16 vy_17 vy_18 vy_19 vy_20 H locs ls h1
      exact absurd h1 (Nat.not_lt_zero _)
    | succ n_21 ih_22 =>
      intro vy_11 vy_12 vy_13 vy_14 vy_15 vy_16 vy_17 vy_18 vy_19 vy_20 H locs ls hn_31 pf_24 pf_25 pf_26 pf_27 pf_28 pf_29 pf_30 hP hD hS hl
      refine lv_iload_n hx hb dX12_tested_12 rfl (lv_at hl 0 rfl) ?_
      refine lv_if_eq (tgt := 112) hx hb dX12_tested_13 (by decide) (fun c_32 => ?_) (fun c_32 => ?_)
      · skip
        have hr_34 : (vy_20 : Int32).toInt = 0 := by
          have z_1 := congrArg Int32.toInt c_32
          have y_0 : (0 : Int32).toInt = 0 := by decide
          omega
        have pf_33 : LSR vy_19 vy_16 vy_17 vy_18 (Mv 5) b vy_14 := pf_28.2 hr_34
        obtain ⟨pn_35, pf_36, pf_37⟩ := id pf_33
        have ar_pf_33 := LSR.ar pf_33
        have ar_pf_37 := Cd.ar pf_37
        refine lv_aload_n hx hb dX12_tested_112 rfl (lv_at hl 1 rfl) ?_
        have ha_38 : 0 ≤ (vy_16 : Int32).toInt ∧ (vy_16 : Int32).toInt ≤ 400 := by
          have z_1 := congrArg Int32.toInt c_32
          have y_0 : (0 : Int32).toInt = 0 := by decide
          refine ⟨?_, ?_⟩ <;> omega
        refine cV (a := (Ma 0)) (As := []) (rest := []) (wr := [((Ma 1), .inl (tc 2, 400, .inl (Mf 1))), ((Ma 2), .inl (tc 0, 2400, .inl vy_17)), ((Ma 3), .inl (tc 0, 7, .inl vy_18))]) ⟨hx, hb, hml, hown, hts⟩ hK hX hA (ct_X12_isInside l D tc sk Ma (fun k => ([(Mv 0), (Mv 1), vy_11, vy_12, vy_13, (Mv 5), vy_14, vy_15, (Mv 8), vy_16, (Mv 10), (Mv 11), (Mv 12), (Mv 13), (Mv 14)] : List (Int32)).getD k 0) (fun k => ([(fun _ => 0), (fun _ => 0), (fun _ => 0), (fun _ => 0), (fun _ => 0), (fun _ => 0), (fun _ => 0), vy_19] : List (Nat → Int32)).getD k (fun _ => 0)) Mj ha_38) k_1349 k_1346 k_1348 k_55 k_106 pl_X12_isInside ⟨Nat.le_of_ble_eq_true rfl, Nat.le_of_ble_eq_true rfl⟩ rfl rfl (va_recv hK hP (ci := 12) (q0 := 0) rfl rfl) hP hD hS [0, 4] [1, 2, 3] rfl rfl rfl rfl rfl (by decide) rfl hl.1 rfl (Nat.le_of_ble_eq_true rfl) dX12_tested_113 ⟨Nat.le_of_ble_eq_true rfl, Nat.le_of_ble_eq_true rfl⟩ (fun v_39 u_40 H locs hv_41 hP hD hS => ?_)
        obtain ⟨r_42, rfl, he_43, hm_45, hm_46⟩ := hv_41
        have he_43 : (r_42.toInt = 0 ∨ r_42.toInt = 1) := he_43
        refine W.eq (g2 := F0 m 116 ls [.int r_42]) rfl ?_
        have hP : va_P D classes [((Ma 1), .inl (tc 2, 400, .inl (Mf 1))), ((Ma 2), .inl (tc 0, 2400, .inl vy_17)), ((Ma 3), .inl (tc 0, 7, .inl vy_18)), ((Ma 0), .inr (12, [.ref (Ma 1), .int (Mv 0), .int (Mv 1), .ref (Ma 2), .ref (Ma 3), .ref (Ma 4), .ref (Ma 5), .ref (Ma 6), .int vy_11, .int vy_12, .int vy_13, .int (Mv 5), .int vy_14, .int vy_15, .int (Mv 8), .ref (Ma 7), .int vy_16, .ref (Ma 8), .int (Mv 10), .ref (Ma 9), .ref (Ma 10), .int (Mv 11), .int (Mv 12), .int (Mv 13), .ref (Ma 11), .int (Mv 14), .ref (Ma 12), .ref (Ma 13), .ref (Ma 14), .ref (Ma 15), .ref (Ma 16), .long (Mj 0), .ref (Ma 17), .ref (Ma 18), .ref (Ma 19), .ref (Ma 20)])), ((Ma 7), .inl (tc 0, 400, .inl vy_19))] H := hP
        have hD : va_D A [((Ma 1), .inl (tc 2, 400, .inl (Mf 1))), ((Ma 2), .inl (tc 0, 2400, .inl vy_17)), ((Ma 3), .inl (tc 0, 7, .inl vy_18)), ((Ma 0), .inr (12, [.ref (Ma 1), .int (Mv 0), .int (Mv 1), .ref (Ma 2), .ref (Ma 3), .ref (Ma 4), .ref (Ma 5), .ref (Ma 6), .int vy_11, .int vy_12, .int vy_13, .int (Mv 5), .int vy_14, .int vy_15, .int (Mv 8), .ref (Ma 7), .int vy_16, .ref (Ma 8), .int (Mv 10), .ref (Ma 9), .ref (Ma 10), .int (Mv 11), .int (Mv 12), .int (Mv 13), .ref (Ma 11), .int (Mv 14), .ref (Ma 12), .ref (Ma 13), .ref (Ma 14), .ref (Ma 15), .ref (Ma 16), .long (Mj 0), .ref (Ma 17), .ref (Ma 18), .ref (Ma 19), .ref (Ma 20)])), ((Ma 7), .inl (tc 0, 400, .inl vy_19))] := hD
        refine lv_if_eq (tgt := 134) hx hb dX12_tested_116 (by decide) (fun c_47 => ?_) (fun c_47 => ?_)
        · skip
          have hz_49 : (r_42 : Int32).toInt = 0 := by
            have z_1 := congrArg Int32.toInt c_32
            have z_2 := congrArg Int32.toInt c_47
            have y_0 : (0 : Int32).toInt = 0 := by decide
            omega
          obtain pf_48 := hm_46 hz_49
          have pf_48 : NIns vy_19 vy_16 := pf_48
          refine lv_aload_n hx hb dX12_tested_134 rfl (lv_at hl 1 rfl) ?_
          refine lv_iconst (v := 1) hx hb dX12_tested_135 (by decide) ?_
          have ha_50 : 1 ≤ (1 : Int32).toInt ∧ (1 : Int32).toInt ≤ 3 := by
            have z_1 := congrArg Int32.toInt c_32
            have z_2 := congrArg Int32.toInt c_47
            have y_0 : (0 : Int32).toInt = 0 := by decide
            have y_1 : (1 : Int32).toInt = 1 := by decide
            refine ⟨?_, ?_⟩ <;> omega
          have ha_51 : (vy_18 (Mv 5).toNatClampNeg).toInt + (vy_16 : Int32).toInt ≤ 400 := by
            have z_1 := congrArg Int32.toInt c_32
            have z_2 := congrArg Int32.toInt c_47
            have y_0 : (0 : Int32).toInt = 0 := by decide
            omega
          refine cV (a := (Ma 0)) (As := [.int 1]) (rest := []) (wr := [((Ma 1), .inl (tc 2, 400, .inl (Mf 1)))]) ⟨hx, hb, hml, hown, hts⟩ hK hX hA (ct_X12_layDown l D tc sk Ma (fun k => ([(Mv 0), (Mv 1), vy_11, vy_12, vy_13, (Mv 5), vy_14, vy_15, (Mv 8), vy_16, (Mv 10), (Mv 11), (Mv 12), (Mv 13), (Mv 14)] : List (Int32)).getD k 0) (fun k => ([(fun _ => 0), (fun _ => 0), vy_17, vy_18, (fun _ => 0), (fun _ => 0), (fun _ => 0), vy_19] : List (Nat → Int32)).getD k (fun _ => 0)) Mj 1 b pf_33 ha_50 ha_51) k_1342 k_1339 k_1341 k_54 k_106 pl_X12_layDown ⟨Nat.le_of_ble_eq_true rfl, Nat.le_of_ble_eq_true rfl⟩ rfl rfl (va_recv hK hP (ci := 12) (q0 := 3) rfl rfl) hP hD hS [3, 1, 2, 4] [0] rfl rfl rfl rfl rfl (by decide) rfl hl.1 rfl (Nat.le_of_ble_eq_true rfl) dX12_tested_136 ⟨Nat.le_of_ble_eq_true rfl, Nat.le_of_ble_eq_true rfl⟩ (fun v_52 u_53 H locs hv_54 hP hD hS => ?_)
          obtain ⟨sv_55, sv_56, sv_57, sv_58⟩ := u_53
          obtain ⟨rfl, pf_59, pf_60, pf_61, pf_62, pf_63⟩ := hv_54
          have pf_59 : LSR vy_19 sv_56 sv_57 sv_58 (Mv 5) b vy_14 := pf_59
          obtain ⟨pn_64, pf_65, pf_66⟩ := id pf_59
          have ar_pf_59 := LSR.ar pf_59
          have ar_pf_66 := Cd.ar pf_66
          have pf_60 : (sv_58 (Mv 5).toNatClampNeg).toInt + (sv_56 : Int32).toInt = (vy_18 (Mv 5).toNatClampNeg).toInt + (vy_16 : Int32).toInt ∧ 0 ≤ (sv_56 : Int32).toInt ∧ (sv_56 : Int32).toInt ≤ (vy_16 : Int32).toInt := pf_60
          have pf_61 : Agr vy_17 sv_57 (400 * ((Mv 5) : Int32).toInt + (vy_18 (Mv 5).toNatClampNeg).toInt) := pf_61
          have pf_62 : LdE vy_19 sv_56 (1 : Int32) := pf_62
          have pf_63 : InK vy_19 vy_16 sv_56 := pf_63
          refine W.eq (g2 := F0 m 139 ls []) rfl ?_
          have hP : va_P D classes [((Ma 1), .inl (tc 2, 400, .inl (Mf 1))), ((Ma 0), .inr (12, [.ref (Ma 1), .int (Mv 0), .int (Mv 1), .ref (Ma 2), .ref (Ma 3), .ref (Ma 4), .ref (Ma 5), .ref (Ma 6), .int vy_11, .int vy_12, .int vy_13, .int (Mv 5), .int vy_14, .int sv_55, .int (Mv 8), .ref (Ma 7), .int sv_56, .ref (Ma 8), .int (Mv 10), .ref (Ma 9), .ref (Ma 10), .int (Mv 11), .int (Mv 12), .int (Mv 13), .ref (Ma 11), .int (Mv 14), .ref (Ma 12), .ref (Ma 13), .ref (Ma 14), .ref (Ma 15), .ref (Ma 16), .long (Mj 0), .ref (Ma 17), .ref (Ma 18), .ref (Ma 19), .ref (Ma 20)])), ((Ma 2), .inl (tc 0, 2400, .inl sv_57)), ((Ma 3), .inl (tc 0, 7, .inl sv_58)), ((Ma 7), .inl (tc 0, 400, .inl vy_19))] H := hP
          have hD : va_D A [((Ma 1), .inl (tc 2, 400, .inl (Mf 1))), ((Ma 0), .inr (12, [.ref (Ma 1), .int (Mv 0), .int (Mv 1), .ref (Ma 2), .ref (Ma 3), .ref (Ma 4), .ref (Ma 5), .ref (Ma 6), .int vy_11, .int vy_12, .int vy_13, .int (Mv 5), .int vy_14, .int sv_55, .int (Mv 8), .ref (Ma 7), .int sv_56, .ref (Ma 8), .int (Mv 10), .ref (Ma 9), .ref (Ma 10), .int (Mv 11), .int (Mv 12), .int (Mv 13), .ref (Ma 11), .int (Mv 14), .ref (Ma 12), .ref (Ma 13), .ref (Ma 14), .ref (Ma 15), .ref (Ma 16), .long (Mj 0), .ref (Ma 17), .ref (Ma 18), .ref (Ma 19), .ref (Ma 20)])), ((Ma 2), .inl (tc 0, 2400, .inl sv_57)), ((Ma 3), .inl (tc 0, 7, .inl sv_58)), ((Ma 7), .inl (tc 0, 400, .inl vy_19))] := hD
          refine lv_iconst (v := 1) hx hb dX12_tested_139 (by decide) ?_
          have ha_67 : ((Mv 2) : Int32).toInt ≤ (vy_11 : Int32).toInt ∧ (vy_11 : Int32).toInt ≤ ((Mv 0) : Int32).toInt := by
            have z_1 := congrArg Int32.toInt c_32
            have z_2 := congrArg Int32.toInt c_47
            have y_0 : (0 : Int32).toInt = 0 := by decide
            refine ⟨?_, ?_⟩ <;> omega
          have ha_68 : ((Mv 6) : Int32).toInt ≤ (vy_14 : Int32).toInt ∧ (vy_14 : Int32).toInt ≤ 60 := by
            have z_1 := congrArg Int32.toInt c_32
            have z_2 := congrArg Int32.toInt c_47
            have y_0 : (0 : Int32).toInt = 0 := by decide
            refine ⟨?_, ?_⟩ <;> omega
          have hr_69 : (400 * ((Mv 5) : Int32).toInt + ((Mf 3) (Mv 5).toNatClampNeg).toInt) ≤ (400 * ((Mv 5) : Int32).toInt + ((Mf 3) (Mv 5).toNatClampNeg).toInt) := by
            have z_1 := congrArg Int32.toInt c_32
            have z_2 := congrArg Int32.toInt c_47
            have y_0 : (0 : Int32).toInt = 0 := by decide
            omega
          have hr_70 : (400 * ((Mv 5) : Int32).toInt + ((Mf 3) (Mv 5).toNatClampNeg).toInt) ≤ (400 * ((Mv 5) : Int32).toInt + (vy_18 (Mv 5).toNatClampNeg).toInt) := by
            have z_1 := congrArg Int32.toInt c_32
            have z_2 := congrArg Int32.toInt c_47
            have y_0 : (0 : Int32).toInt = 0 := by decide
            omega
          have hp_71 : (((1 : Int32).toInt = 0 ∧ ¬ (vy_12 : Int32).toInt = 0) ∨ ((1 : Int32).toInt = 1 ∧ ((Mf 3) (Mv 5).toNatClampNeg).toInt ≤ (sv_58 (Mv 5).toNatClampNeg).toInt ∧ (sv_58 (Mv 5).toNatClampNeg).toInt ≤ (vy_11 : Int32).toInt)) := by
            have z_1 := congrArg Int32.toInt c_32
            have z_2 := congrArg Int32.toInt c_47
            have y_0 : (0 : Int32).toInt = 0 := by decide
            have y_1 : (1 : Int32).toInt = 1 := by decide
            have yr : (1 : Int32).toInt = 1 := by decide
            omega
          have hm_72 : (1 : Int32).toInt = 1 → (Cd sv_57 sv_58 (Mv 5) b vy_14 1) := by
            intro h1r
            have hr_73 : (sv_56 : Int32).toInt ≤ (vy_16 : Int32).toInt := by
              have z_1 := congrArg Int32.toInt c_32
              have z_2 := congrArg Int32.toInt c_47
              have y_0 : (0 : Int32).toInt = 0 := by decide
              omega
            exact (LSR.fin pf_59 pf_62 (by decide) pf_48 hr_73)
          exact retI (v := 1) hx hb hr hlk (rfl) hP hD hS (vy_11, vy_12, vy_13, vy_14, sv_55, sv_56, sv_57, sv_58, vy_19) ⟨_, rfl, hp_71, ha_67, ha_68, (Agr.trans (k' := (400 * ((Mv 5) : Int32).toInt + ((Mf 3) (Mv 5).toNatClampNeg).toInt)) (Agr.mono pf_30 hr_69) pf_61 ⟨Int.le_refl _, hr_70⟩), hm_72⟩ [1, 0, 2, 3, 4] rfl rfl dX12_tested_140 (Nat.le_of_ble_eq_true rfl) (Nat.le_of_ble_eq_true rfl) rfl
        · skip
          have hz_75 : (r_42 : Int32).toInt = 1 := by
            have z_1 := congrArg Int32.toInt c_32
            have z_2 : ¬ (r_42 : Int32).toInt = (0 : Int32).toInt := fun z => c_47 (Int32.toInt_inj.mp z)
            have y_0 : (0 : Int32).toInt = 0 := by decide
            omega
          obtain pf_74 := hm_45 hz_75
          have pf_74 : Ins vy_19 vy_16 := pf_74
          have ar_pf_74 := Ins.ar pf_74
          refine lv_aload_n hx hb dX12_tested_119 rfl (lv_at hl 1 rfl) ?_
          have ha_76 : 0 ≤ (vy_11 : Int32).toInt ∧ (vy_11 : Int32).toInt ≤ ((Mv 0) : Int32).toInt ∧ ((Mv 0) : Int32).toInt ≤ 400 := by
            have z_1 := congrArg Int32.toInt c_32
            have z_2 : ¬ (r_42 : Int32).toInt = (0 : Int32).toInt := fun z => c_47 (Int32.toInt_inj.mp z)
            have y_0 : (0 : Int32).toInt = 0 := by decide
            refine ⟨?_, ?_, ?_⟩ <;> omega
          refine cV (a := (Ma 0)) (As := []) (rest := []) (wr := [((Ma 2), .inl (tc 0, 2400, .inl vy_17)), ((Ma 3), .inl (tc 0, 7, .inl vy_18)), ((Ma 7), .inl (tc 0, 400, .inl vy_19))]) ⟨hx, hb, hml, hown, hts⟩ hK hX hA (ct_X12_see l D tc sk Ma (fun k => ([(Mv 0), (Mv 1), vy_11, vy_12, vy_13, (Mv 5), vy_14, vy_15, (Mv 8), vy_16, (Mv 10), (Mv 11), (Mv 12), (Mv 13), (Mv 14)] : List (Int32)).getD k 0) Mf Mj ha_76) k_1211 k_1208 k_1210 k_27 k_106 pl_X12_see ⟨Nat.le_of_ble_eq_true rfl, Nat.le_of_ble_eq_true rfl⟩ rfl rfl (va_recv hK hP (ci := 12) (q0 := 3) rfl rfl) hP hD hS [3, 0] [1, 2, 4] rfl rfl rfl rfl rfl (by decide) rfl hl.1 rfl (Nat.le_of_ble_eq_true rfl) dX12_tested_120 ⟨Nat.le_of_ble_eq_true rfl, Nat.le_of_ble_eq_true rfl⟩ (fun v_77 u_78 H locs hv_79 hP hD hS => ?_)
          obtain ⟨sv_80, rfl⟩ : ∃ z, z = u_78 := ⟨_, rfl⟩
          obtain ⟨r_84, rfl, he_85, pf_81, pf_82, pf_83⟩ := hv_79
          have he_85 : (r_84.toInt = -1 ∨ (sv_80 : Int32).toInt < ((Mv 0) : Int32).toInt) := he_85
          have pf_81 : (vy_11 : Int32).toInt ≤ (sv_80 : Int32).toInt ∧ (sv_80 : Int32).toInt ≤ ((Mv 0) : Int32).toInt := pf_81
          have pf_82 : NSq (Mf 1) (Mv 0) sv_80 := pf_82
          have pf_83 : Stl (Mf 1) (Mv 0) vy_11 sv_80 := pf_83
          refine W.eq (g2 := F0 m 123 ls [.int r_84]) rfl ?_
          have hP : va_P D classes [((Ma 2), .inl (tc 0, 2400, .inl vy_17)), ((Ma 3), .inl (tc 0, 7, .inl vy_18)), ((Ma 7), .inl (tc 0, 400, .inl vy_19)), ((Ma 0), .inr (12, [.ref (Ma 1), .int (Mv 0), .int (Mv 1), .ref (Ma 2), .ref (Ma 3), .ref (Ma 4), .ref (Ma 5), .ref (Ma 6), .int sv_80, .int vy_12, .int vy_13, .int (Mv 5), .int vy_14, .int vy_15, .int (Mv 8), .ref (Ma 7), .int vy_16, .ref (Ma 8), .int (Mv 10), .ref (Ma 9), .ref (Ma 10), .int (Mv 11), .int (Mv 12), .int (Mv 13), .ref (Ma 11), .int (Mv 14), .ref (Ma 12), .ref (Ma 13), .ref (Ma 14), .ref (Ma 15), .ref (Ma 16), .long (Mj 0), .ref (Ma 17), .ref (Ma 18), .ref (Ma 19), .ref (Ma 20)])), ((Ma 1), .inl (tc 2, 400, .inl (Mf 1)))] H := hP
          have hD : va_D A [((Ma 2), .inl (tc 0, 2400, .inl vy_17)), ((Ma 3), .inl (tc 0, 7, .inl vy_18)), ((Ma 7), .inl (tc 0, 400, .inl vy_19)), ((Ma 0), .inr (12, [.ref (Ma 1), .int (Mv 0), .int (Mv 1), .ref (Ma 2), .ref (Ma 3), .ref (Ma 4), .ref (Ma 5), .ref (Ma 6), .int sv_80, .int vy_12, .int vy_13, .int (Mv 5), .int vy_14, .int vy_15, .int (Mv 8), .ref (Ma 7), .int vy_16, .ref (Ma 8), .int (Mv 10), .ref (Ma 9), .ref (Ma 10), .int (Mv 11), .int (Mv 12), .int (Mv 13), .ref (Ma 11), .int (Mv 14), .ref (Ma 12), .ref (Ma 13), .ref (Ma 14), .ref (Ma 15), .ref (Ma 16), .long (Mj 0), .ref (Ma 17), .ref (Ma 18), .ref (Ma 19), .ref (Ma 20)])), ((Ma 1), .inl (tc 2, 400, .inl (Mf 1)))] := hD
          refine lv_pop hx hb dX12_tested_123 rfl ?_
          refine lv_aload_n hx hb dX12_tested_124 rfl (lv_at hl 1 rfl) ?_
          refine lv_iconst (v := 0) hx hb dX12_tested_125 (by decide) ?_
          refine lv_aload_n hx hb dX12_tested_126 rfl (lv_at hl 1 rfl) ?_
          refine gf_X12_87 hx hb hts hown hK hP 3 rfl rfl dX12_tested_127 ?_
          have ha_87 : 0 ≤ (0 : Int32).toInt ∧ (0 : Int32).toInt ≤ 4 := by
            have z_1 := congrArg Int32.toInt c_32
            have z_2 : ¬ (r_42 : Int32).toInt = (0 : Int32).toInt := fun z => c_47 (Int32.toInt_inj.mp z)
            have y_0 : (0 : Int32).toInt = 0 := by decide
            refine ⟨?_, ?_⟩ <;> omega
          have ha_88 : 0 ≤ sv_80.toInt ∧ sv_80.toInt ≤ 400 := by
            have z_1 := congrArg Int32.toInt c_32
            have z_2 : ¬ (r_42 : Int32).toInt = (0 : Int32).toInt := fun z => c_47 (Int32.toInt_inj.mp z)
            have y_0 : (0 : Int32).toInt = 0 := by decide
            refine ⟨?_, ?_⟩ <;> omega
          refine cV (a := (Ma 0)) (As := [.int 0, .int sv_80]) (rest := []) (wr := [((Ma 2), .inl (tc 0, 2400, .inl vy_17)), ((Ma 3), .inl (tc 0, 7, .inl vy_18)), ((Ma 7), .inl (tc 0, 400, .inl vy_19)), ((Ma 1), .inl (tc 2, 400, .inl (Mf 1)))]) ⟨hx, hb, hml, hown, hts⟩ hK hX hA (ct_X12_fails l D tc sk Ma (fun k => ([(Mv 0), (Mv 1), sv_80, vy_12, vy_13, (Mv 5), vy_14, vy_15, (Mv 8), vy_16, (Mv 10), (Mv 11), (Mv 12), (Mv 13), (Mv 14)] : List (Int32)).getD k 0) Mj 0 sv_80 ha_87 ha_88) k_1232 k_1229 k_1231 k_31 k_106 pl_X12_fails ⟨Nat.le_of_ble_eq_true rfl, Nat.le_of_ble_eq_true rfl⟩ rfl rfl (va_recv hK hP (ci := 12) (q0 := 3) rfl rfl) hP hD hS [3] [0, 1, 2, 4] rfl rfl rfl rfl rfl (by decide) rfl hl.1 rfl (Nat.le_of_ble_eq_true rfl) dX12_tested_130 ⟨Nat.le_of_ble_eq_true rfl, Nat.le_of_ble_eq_true rfl⟩ (fun v_89 u_90 H locs hv_91 hP hD hS => ?_)
          obtain ⟨sv_92, rfl⟩ : ∃ z, z = u_90 := ⟨_, rfl⟩
          obtain ⟨r_94, rfl, he_95, pf_93⟩ := hv_91
          have he_95 : r_94.toInt = 0 := he_95
          have pf_93 : ¬ (sv_92 : Int32).toInt = 0 := pf_93
          refine W.eq (g2 := F0 m 133 ls [.int r_94]) rfl ?_
          have hP : va_P D classes [((Ma 2), .inl (tc 0, 2400, .inl vy_17)), ((Ma 3), .inl (tc 0, 7, .inl vy_18)), ((Ma 7), .inl (tc 0, 400, .inl vy_19)), ((Ma 1), .inl (tc 2, 400, .inl (Mf 1))), ((Ma 0), .inr (12, [.ref (Ma 1), .int (Mv 0), .int (Mv 1), .ref (Ma 2), .ref (Ma 3), .ref (Ma 4), .ref (Ma 5), .ref (Ma 6), .int sv_80, .int sv_92, .int vy_13, .int (Mv 5), .int vy_14, .int vy_15, .int (Mv 8), .ref (Ma 7), .int vy_16, .ref (Ma 8), .int (Mv 10), .ref (Ma 9), .ref (Ma 10), .int (Mv 11), .int (Mv 12), .int (Mv 13), .ref (Ma 11), .int (Mv 14), .ref (Ma 12), .ref (Ma 13), .ref (Ma 14), .ref (Ma 15), .ref (Ma 16), .long (Mj 0), .ref (Ma 17), .ref (Ma 18), .ref (Ma 19), .ref (Ma 20)]))] H := hP
          have hD : va_D A [((Ma 2), .inl (tc 0, 2400, .inl vy_17)), ((Ma 3), .inl (tc 0, 7, .inl vy_18)), ((Ma 7), .inl (tc 0, 400, .inl vy_19)), ((Ma 1), .inl (tc 2, 400, .inl (Mf 1))), ((Ma 0), .inr (12, [.ref (Ma 1), .int (Mv 0), .int (Mv 1), .ref (Ma 2), .ref (Ma 3), .ref (Ma 4), .ref (Ma 5), .ref (Ma 6), .int sv_80, .int sv_92, .int vy_13, .int (Mv 5), .int vy_14, .int vy_15, .int (Mv 8), .ref (Ma 7), .int vy_16, .ref (Ma 8), .int (Mv 10), .ref (Ma 9), .ref (Ma 10), .int (Mv 11), .int (Mv 12), .int (Mv 13), .ref (Ma 11), .int (Mv 14), .ref (Ma 12), .ref (Ma 13), .ref (Ma 14), .ref (Ma 15), .ref (Ma 16), .long (Mj 0), .ref (Ma 17), .ref (Ma 18), .ref (Ma 19), .ref (Ma 20)]))] := hD
          have ha_97 : ((Mv 2) : Int32).toInt ≤ (sv_80 : Int32).toInt ∧ (sv_80 : Int32).toInt ≤ ((Mv 0) : Int32).toInt := by
            have z_1 := congrArg Int32.toInt c_32
            have z_2 : ¬ (r_42 : Int32).toInt = (0 : Int32).toInt := fun z => c_47 (Int32.toInt_inj.mp z)
            have y_0 : (0 : Int32).toInt = 0 := by decide
            refine ⟨?_, ?_⟩ <;> omega
          have ha_98 : ((Mv 6) : Int32).toInt ≤ (vy_14 : Int32).toInt ∧ (vy_14 : Int32).toInt ≤ 60 := by
            have z_1 := congrArg Int32.toInt c_32
            have z_2 : ¬ (r_42 : Int32).toInt = (0 : Int32).toInt := fun z => c_47 (Int32.toInt_inj.mp z)
            have y_0 : (0 : Int32).toInt = 0 := by decide
            refine ⟨?_, ?_⟩ <;> omega
          have hb_99 : (r_94 : Int32).toInt = 0 ∨ (r_94 : Int32).toInt = 1 := by
            have z_1 := congrArg Int32.toInt c_32
            have z_2 : ¬ (r_42 : Int32).toInt = (0 : Int32).toInt := fun z => c_47 (Int32.toInt_inj.mp z)
            have y_0 : (0 : Int32).toInt = 0 := by decide
            omega
          have hp_100 : (((r_94 : Int32).toInt = 0 ∧ ¬ (sv_92 : Int32).toInt = 0) ∨ ((r_94 : Int32).toInt = 1 ∧ ((Mf 3) (Mv 5).toNatClampNeg).toInt ≤ (vy_18 (Mv 5).toNatClampNeg).toInt ∧ (vy_18 (Mv 5).toNatClampNeg).toInt ≤ (sv_80 : Int32).toInt)) := by
            have z_1 := congrArg Int32.toInt c_32
            have z_2 : ¬ (r_42 : Int32).toInt = (0 : Int32).toInt := fun z => c_47 (Int32.toInt_inj.mp z)
            have y_0 : (0 : Int32).toInt = 0 := by decide
            omega
          have hm_101 : (r_94 : Int32).toInt = 1 → (Cd vy_17 vy_18 (Mv 5) b vy_14 1) := by
            intro h1r
            exfalso
            have z_1 := congrArg Int32.toInt c_32
            have z_2 : ¬ (r_42 : Int32).toInt = (0 : Int32).toInt := fun z => c_47 (Int32.toInt_inj.mp z)
            have y_0 : (0 : Int32).toInt = 0 := by decide
            omega
          exact retI (v := r_94) hx hb hr hlk (nar01 hb_99) hP hD hS (sv_80, sv_92, vy_13, vy_14, vy_15, vy_16, vy_17, vy_18, vy_19) ⟨_, rfl, hp_100, ha_97, ha_98, pf_30, hm_101⟩ [4, 3, 0, 1, 2] rfl rfl dX12_tested_133 (Nat.le_of_ble_eq_true rfl) (Nat.le_of_ble_eq_true rfl) rfl
      · skip
        have hr_103 : (vy_20 : Int32).toInt = 1 := by
          have z_1 : ¬ (vy_20 : Int32).toInt = (0 : Int32).toInt := fun z => c_32 (Int32.toInt_inj.mp z)
          have y_0 : (0 : Int32).toInt = 0 := by decide
          omega
        have pf_102 : LBR vy_19 vy_16 vy_17 vy_18 (Mv 5) b vy_14 := pf_28.1 hr_103
        obtain ⟨pn_104, pf_105, pf_106⟩ := id pf_102
        have ar_pf_102 := LBR.ar pf_102
        have ar_pf_106 := Cd.ar pf_106
        refine lv_aload_n hx hb dX12_tested_16 rfl (lv_at hl 1 rfl) ?_
        have ha_107 : 0 ≤ (vy_11 : Int32).toInt ∧ (vy_11 : Int32).toInt ≤ ((Mv 0) : Int32).toInt ∧ ((Mv 0) : Int32).toInt ≤ 400 := by
          have z_1 : ¬ (vy_20 : Int32).toInt = (0 : Int32).toInt := fun z => c_32 (Int32.toInt_inj.mp z)
          have y_0 : (0 : Int32).toInt = 0 := by decide
          refine ⟨?_, ?_, ?_⟩ <;> omega
        have ha_108 : (vy_18 (Mv 5).toNatClampNeg).toInt + (vy_16 : Int32).toInt ≤ (vy_11 : Int32).toInt := by
          have z_1 : ¬ (vy_20 : Int32).toInt = (0 : Int32).toInt := fun z => c_32 (Int32.toInt_inj.mp z)
          have y_0 : (0 : Int32).toInt = 0 := by decide
          omega
        have ha_109 : 0 ≤ (vy_14 : Int32).toInt ∧ (vy_14 : Int32).toInt ≤ 60 := by
          have z_1 : ¬ (vy_20 : Int32).toInt = (0 : Int32).toInt := fun z => c_32 (Int32.toInt_inj.mp z)
          have y_0 : (0 : Int32).toInt = 0 := by decide
          refine ⟨?_, ?_⟩ <;> omega
        refine cV (a := (Ma 0)) (As := []) (rest := []) (wr := []) ⟨hx, hb, hml, hown, hts⟩ hK hX hA (ct_X12_fact l D tc sk Ma (fun k => ([(Mv 0), (Mv 1), vy_11, vy_12, vy_13, (Mv 5), vy_14, vy_15, (Mv 8), vy_16, (Mv 10), (Mv 11), (Mv 12), (Mv 13), (Mv 14)] : List (Int32)).getD k 0) (fun k => ([(fun _ => 0), (Mf 1), vy_17, vy_18, (fun _ => 0), (fun _ => 0), (fun _ => 0), vy_19] : List (Nat → Int32)).getD k (fun _ => 0)) Mj b ha_107 pf_102 ha_108 ha_109) k_1325 k_1322 k_1324 k_50 k_106 pl_X12_fact ⟨Nat.le_of_ble_eq_true rfl, Nat.le_of_ble_eq_true rfl⟩ rfl rfl (va_recv hK hP (ci := 12) (q0 := 0) rfl rfl) hP hD hS [0, 1, 2, 3, 4] [] rfl rfl rfl rfl rfl (by decide) rfl hl.1 rfl (Nat.le_of_ble_eq_true rfl) dX12_tested_17 ⟨Nat.le_of_ble_eq_true rfl, Nat.le_of_ble_eq_true rfl⟩ (fun v_110 u_111 H locs hv_112 hP hD hS => ?_)
        obtain ⟨sv_113, sv_114, sv_115, sv_116, sv_117, sv_118, sv_119, sv_120, sv_121⟩ := u_111
        obtain ⟨r_125, rfl, he_126, pf_122, pf_123, pf_124, hm_128⟩ := hv_112
        have he_126 : ((r_125.toInt = 0 ∧ ¬ (sv_114 : Int32).toInt = 0) ∨ (r_125.toInt = 1 ∧ (sv_120 (Mv 5).toNatClampNeg).toInt + (sv_118 : Int32).toInt + (vy_11 : Int32).toInt ≤ (vy_18 (Mv 5).toNatClampNeg).toInt + (vy_16 : Int32).toInt + (sv_113 : Int32).toInt ∧ (vy_11 : Int32).toInt + 1 ≤ (sv_113 : Int32).toInt)) := he_126
        have pf_122 : (vy_11 : Int32).toInt ≤ (sv_113 : Int32).toInt ∧ (sv_113 : Int32).toInt ≤ ((Mv 0) : Int32).toInt := pf_122
        have pf_123 : (vy_14 : Int32).toInt ≤ (sv_116 : Int32).toInt ∧ (sv_116 : Int32).toInt ≤ 60 := pf_123
        have pf_124 : Agr vy_17 sv_119 (400 * ((Mv 5) : Int32).toInt + (vy_18 (Mv 5).toNatClampNeg).toInt) := pf_124
        refine W.eq (g2 := F0 m 20 ls [.int r_125]) rfl ?_
        have hP : va_P D classes [((Ma 0), .inr (12, [.ref (Ma 1), .int (Mv 0), .int (Mv 1), .ref (Ma 2), .ref (Ma 3), .ref (Ma 4), .ref (Ma 5), .ref (Ma 6), .int sv_113, .int sv_114, .int sv_115, .int (Mv 5), .int sv_116, .int sv_117, .int (Mv 8), .ref (Ma 7), .int sv_118, .ref (Ma 8), .int (Mv 10), .ref (Ma 9), .ref (Ma 10), .int (Mv 11), .int (Mv 12), .int (Mv 13), .ref (Ma 11), .int (Mv 14), .ref (Ma 12), .ref (Ma 13), .ref (Ma 14), .ref (Ma 15), .ref (Ma 16), .long (Mj 0), .ref (Ma 17), .ref (Ma 18), .ref (Ma 19), .ref (Ma 20)])), ((Ma 1), .inl (tc 2, 400, .inl (Mf 1))), ((Ma 2), .inl (tc 0, 2400, .inl sv_119)), ((Ma 3), .inl (tc 0, 7, .inl sv_120)), ((Ma 7), .inl (tc 0, 400, .inl sv_121))] H := hP
        have hD : va_D A [((Ma 0), .inr (12, [.ref (Ma 1), .int (Mv 0), .int (Mv 1), .ref (Ma 2), .ref (Ma 3), .ref (Ma 4), .ref (Ma 5), .ref (Ma 6), .int sv_113, .int sv_114, .int sv_115, .int (Mv 5), .int sv_116, .int sv_117, .int (Mv 8), .ref (Ma 7), .int sv_118, .ref (Ma 8), .int (Mv 10), .ref (Ma 9), .ref (Ma 10), .int (Mv 11), .int (Mv 12), .int (Mv 13), .ref (Ma 11), .int (Mv 14), .ref (Ma 12), .ref (Ma 13), .ref (Ma 14), .ref (Ma 15), .ref (Ma 16), .long (Mj 0), .ref (Ma 17), .ref (Ma 18), .ref (Ma 19), .ref (Ma 20)])), ((Ma 1), .inl (tc 2, 400, .inl (Mf 1))), ((Ma 2), .inl (tc 0, 2400, .inl sv_119)), ((Ma 3), .inl (tc 0, 7, .inl sv_120)), ((Ma 7), .inl (tc 0, 400, .inl sv_121))] := hD
        refine lv_if_ne (tgt := 25) hx hb dX12_tested_20 (by decide) (fun c_129 => ?_) (fun c_129 => ?_)
        · skip
          have hz_131 : (r_125 : Int32).toInt = 1 := by
            have z_1 : ¬ (vy_20 : Int32).toInt = (0 : Int32).toInt := fun z => c_32 (Int32.toInt_inj.mp z)
            have z_2 : ¬ (r_125 : Int32).toInt = (0 : Int32).toInt := fun z => c_129 (Int32.toInt_inj.mp z)
            have y_0 : (0 : Int32).toInt = 0 := by decide
            omega
          obtain pf_130 := hm_128 hz_131
          have pf_130 : LSR sv_121 sv_118 sv_119 sv_120 (Mv 5) b sv_116 := pf_130
          obtain ⟨pn_132, pf_133, pf_134⟩ := id pf_130
          have ar_pf_130 := LSR.ar pf_130
          have ar_pf_134 := Cd.ar pf_134
          refine lv_aload_n hx hb dX12_tested_25 rfl (lv_at hl 1 rfl) ?_
          have ha_135 : 0 ≤ (sv_113 : Int32).toInt ∧ (sv_113 : Int32).toInt ≤ ((Mv 0) : Int32).toInt ∧ ((Mv 0) : Int32).toInt ≤ 400 := by
            have z_1 : ¬ (vy_20 : Int32).toInt = (0 : Int32).toInt := fun z => c_32 (Int32.toInt_inj.mp z)
            have z_2 : ¬ (r_125 : Int32).toInt = (0 : Int32).toInt := fun z => c_129 (Int32.toInt_inj.mp z)
            have y_0 : (0 : Int32).toInt = 0 := by decide
            refine ⟨?_, ?_, ?_⟩ <;> omega
          have ha_136 : (sv_120 (Mv 5).toNatClampNeg).toInt + (sv_118 : Int32).toInt ≤ (sv_113 : Int32).toInt := by
            have z_1 : ¬ (vy_20 : Int32).toInt = (0 : Int32).toInt := fun z => c_32 (Int32.toInt_inj.mp z)
            have z_2 : ¬ (r_125 : Int32).toInt = (0 : Int32).toInt := fun z => c_129 (Int32.toInt_inj.mp z)
            have y_0 : (0 : Int32).toInt = 0 := by decide
            omega
          refine cV (a := (Ma 0)) (As := []) (rest := []) (wr := []) ⟨hx, hb, hml, hown, hts⟩ hK hX hA (ct_X12_closes l D tc sk Ma (fun k => ([(Mv 0), (Mv 1), sv_113, sv_114, sv_115, (Mv 5), sv_116, sv_117, (Mv 8), sv_118, (Mv 10), (Mv 11), (Mv 12), (Mv 13), (Mv 14)] : List (Int32)).getD k 0) (fun k => ([(fun _ => 0), (Mf 1), sv_119, sv_120, (fun _ => 0), (fun _ => 0), (fun _ => 0), sv_121] : List (Nat → Int32)).getD k (fun _ => 0)) Mj b ha_135 pf_130 ha_136) k_1338 k_1335 k_1337 k_53 k_106 pl_X12_closes ⟨Nat.le_of_ble_eq_true rfl, Nat.le_of_ble_eq_true rfl⟩ rfl rfl (va_recv hK hP (ci := 12) (q0 := 0) rfl rfl) hP hD hS [0, 1, 2, 3, 4] [] rfl rfl rfl rfl rfl (by decide) rfl hl.1 rfl (Nat.le_of_ble_eq_true rfl) dX12_tested_26 ⟨Nat.le_of_ble_eq_true rfl, Nat.le_of_ble_eq_true rfl⟩ (fun v_137 u_138 H locs hv_139 hP hD hS => ?_)
          obtain ⟨sv_140, sv_141, sv_142, sv_143, sv_144⟩ := u_138
          obtain ⟨rfl, pf_145, pf_146, pf_147, pf_148⟩ := hv_139
          have pf_145 : (sv_113 : Int32).toInt ≤ (sv_140 : Int32).toInt ∧ (sv_140 : Int32).toInt ≤ ((Mv 0) : Int32).toInt := pf_145
          have pf_146 : Agr sv_119 sv_143 (400 * ((Mv 5) : Int32).toInt + (sv_120 (Mv 5).toNatClampNeg).toInt) := pf_146
          have pf_147 : LSR sv_121 sv_142 sv_143 sv_144 (Mv 5) b sv_116 := pf_147
          obtain ⟨pn_149, pf_150, pf_151⟩ := id pf_147
          have ar_pf_147 := LSR.ar pf_147
          have ar_pf_151 := Cd.ar pf_151
          have pf_148 : (sv_144 (Mv 5).toNatClampNeg).toInt + (sv_142 : Int32).toInt + (sv_113 : Int32).toInt ≤ (sv_120 (Mv 5).toNatClampNeg).toInt + (sv_118 : Int32).toInt + (sv_140 : Int32).toInt ∧ (sv_120 (Mv 5).toNatClampNeg).toInt ≤ (sv_144 (Mv 5).toNatClampNeg).toInt := pf_148
          refine W.eq (g2 := F0 m 29 ls []) rfl ?_
          have hP : va_P D classes [((Ma 0), .inr (12, [.ref (Ma 1), .int (Mv 0), .int (Mv 1), .ref (Ma 2), .ref (Ma 3), .ref (Ma 4), .ref (Ma 5), .ref (Ma 6), .int sv_140, .int sv_114, .int sv_115, .int (Mv 5), .int sv_116, .int sv_141, .int (Mv 8), .ref (Ma 7), .int sv_142, .ref (Ma 8), .int (Mv 10), .ref (Ma 9), .ref (Ma 10), .int (Mv 11), .int (Mv 12), .int (Mv 13), .ref (Ma 11), .int (Mv 14), .ref (Ma 12), .ref (Ma 13), .ref (Ma 14), .ref (Ma 15), .ref (Ma 16), .long (Mj 0), .ref (Ma 17), .ref (Ma 18), .ref (Ma 19), .ref (Ma 20)])), ((Ma 1), .inl (tc 2, 400, .inl (Mf 1))), ((Ma 2), .inl (tc 0, 2400, .inl sv_143)), ((Ma 3), .inl (tc 0, 7, .inl sv_144)), ((Ma 7), .inl (tc 0, 400, .inl sv_121))] H := hP
          have hD : va_D A [((Ma 0), .inr (12, [.ref (Ma 1), .int (Mv 0), .int (Mv 1), .ref (Ma 2), .ref (Ma 3), .ref (Ma 4), .ref (Ma 5), .ref (Ma 6), .int sv_140, .int sv_114, .int sv_115, .int (Mv 5), .int sv_116, .int sv_141, .int (Mv 8), .ref (Ma 7), .int sv_142, .ref (Ma 8), .int (Mv 10), .ref (Ma 9), .ref (Ma 10), .int (Mv 11), .int (Mv 12), .int (Mv 13), .ref (Ma 11), .int (Mv 14), .ref (Ma 12), .ref (Ma 13), .ref (Ma 14), .ref (Ma 15), .ref (Ma 16), .long (Mj 0), .ref (Ma 17), .ref (Ma 18), .ref (Ma 19), .ref (Ma 20)])), ((Ma 1), .inl (tc 2, 400, .inl (Mf 1))), ((Ma 2), .inl (tc 0, 2400, .inl sv_143)), ((Ma 3), .inl (tc 0, 7, .inl sv_144)), ((Ma 7), .inl (tc 0, 400, .inl sv_121))] := hD
          refine lv_aload_n hx hb dX12_tested_29 rfl (lv_at hl 1 rfl) ?_
          refine lv_ldc2 hx hb hown (hts _ k_1350) dX12_tested_30 ?_
          have ha_152 : 0 ≤ (sv_140 : Int32).toInt ∧ (sv_140 : Int32).toInt ≤ ((Mv 0) : Int32).toInt ∧ ((Mv 0) : Int32).toInt ≤ 400 := by
            have z_1 : ¬ (vy_20 : Int32).toInt = (0 : Int32).toInt := fun z => c_32 (Int32.toInt_inj.mp z)
            have z_2 : ¬ (r_125 : Int32).toInt = (0 : Int32).toInt := fun z => c_129 (Int32.toInt_inj.mp z)
            have y_0 : (0 : Int32).toInt = 0 := by decide
            refine ⟨?_, ?_, ?_⟩ <;> omega
          refine cV (a := (Ma 0)) (As := [.long 6385252]) (rest := []) (wr := [((Ma 2), .inl (tc 0, 2400, .inl sv_143)), ((Ma 3), .inl (tc 0, 7, .inl sv_144)), ((Ma 7), .inl (tc 0, 400, .inl sv_121))]) ⟨hx, hb, hml, hown, hts⟩ hK hX hA (ct_X12_isWord l D tc sk Ma (fun k => ([(Mv 0), (Mv 1), sv_140, sv_114, sv_115, (Mv 5), sv_116, sv_141, (Mv 8), sv_142, (Mv 10), (Mv 11), (Mv 12), (Mv 13), (Mv 14)] : List (Int32)).getD k 0) Mf Mj 6385252 ha_152) k_1220 k_1217 k_1219 k_29 k_106 pl_X12_isWord ⟨Nat.le_of_ble_eq_true rfl, Nat.le_of_ble_eq_true rfl⟩ rfl rfl (va_recv hK hP (ci := 12) (q0 := 0) rfl rfl) hP hD hS [0, 1] [2, 3, 4] rfl rfl rfl rfl rfl (by decide) rfl hl.1 rfl (Nat.le_of_ble_eq_true rfl) dX12_tested_33 ⟨Nat.le_of_ble_eq_true rfl, Nat.le_of_ble_eq_true rfl⟩ (fun v_153 u_154 H locs hv_155 hP hD hS => ?_)
          obtain ⟨sv_156, rfl⟩ : ∃ z, z = u_154 := ⟨_, rfl⟩
          obtain ⟨r_160, rfl, he_161, pf_157, pf_158, pf_159, hm_163⟩ := hv_155
          have he_161 : (r_160.toInt = 0 ∨ r_160.toInt = 1) := he_161
          have pf_157 : (sv_140 : Int32).toInt ≤ (sv_156 : Int32).toInt ∧ (sv_156 : Int32).toInt ≤ ((Mv 0) : Int32).toInt := pf_157
          have pf_158 : NSq (Mf 1) (Mv 0) sv_156 := pf_158
          have pf_159 : Stl (Mf 1) (Mv 0) sv_140 sv_156 := pf_159
          refine W.eq (g2 := F0 m 36 ls [.int r_160]) rfl ?_
          have hP : va_P D classes [((Ma 2), .inl (tc 0, 2400, .inl sv_143)), ((Ma 3), .inl (tc 0, 7, .inl sv_144)), ((Ma 7), .inl (tc 0, 400, .inl sv_121)), ((Ma 0), .inr (12, [.ref (Ma 1), .int (Mv 0), .int (Mv 1), .ref (Ma 2), .ref (Ma 3), .ref (Ma 4), .ref (Ma 5), .ref (Ma 6), .int sv_156, .int sv_114, .int sv_115, .int (Mv 5), .int sv_116, .int sv_141, .int (Mv 8), .ref (Ma 7), .int sv_142, .ref (Ma 8), .int (Mv 10), .ref (Ma 9), .ref (Ma 10), .int (Mv 11), .int (Mv 12), .int (Mv 13), .ref (Ma 11), .int (Mv 14), .ref (Ma 12), .ref (Ma 13), .ref (Ma 14), .ref (Ma 15), .ref (Ma 16), .long (Mj 0), .ref (Ma 17), .ref (Ma 18), .ref (Ma 19), .ref (Ma 20)])), ((Ma 1), .inl (tc 2, 400, .inl (Mf 1)))] H := hP
          have hD : va_D A [((Ma 2), .inl (tc 0, 2400, .inl sv_143)), ((Ma 3), .inl (tc 0, 7, .inl sv_144)), ((Ma 7), .inl (tc 0, 400, .inl sv_121)), ((Ma 0), .inr (12, [.ref (Ma 1), .int (Mv 0), .int (Mv 1), .ref (Ma 2), .ref (Ma 3), .ref (Ma 4), .ref (Ma 5), .ref (Ma 6), .int sv_156, .int sv_114, .int sv_115, .int (Mv 5), .int sv_116, .int sv_141, .int (Mv 8), .ref (Ma 7), .int sv_142, .ref (Ma 8), .int (Mv 10), .ref (Ma 9), .ref (Ma 10), .int (Mv 11), .int (Mv 12), .int (Mv 13), .ref (Ma 11), .int (Mv 14), .ref (Ma 12), .ref (Ma 13), .ref (Ma 14), .ref (Ma 15), .ref (Ma 16), .long (Mj 0), .ref (Ma 17), .ref (Ma 18), .ref (Ma 19), .ref (Ma 20)])), ((Ma 1), .inl (tc 2, 400, .inl (Mf 1)))] := hD
          refine lv_if_ne (tgt := 49) hx hb dX12_tested_36 (by decide) (fun c_164 => ?_) (fun c_164 => ?_)
          · skip
            have hz_166 : (r_160 : Int32).toInt = 1 := by
              have z_1 : ¬ (vy_20 : Int32).toInt = (0 : Int32).toInt := fun z => c_32 (Int32.toInt_inj.mp z)
              have z_2 : ¬ (r_125 : Int32).toInt = (0 : Int32).toInt := fun z => c_129 (Int32.toInt_inj.mp z)
              have z_3 : ¬ (r_160 : Int32).toInt = (0 : Int32).toInt := fun z => c_164 (Int32.toInt_inj.mp z)
              have y_0 : (0 : Int32).toInt = 0 := by decide
              omega
            obtain pf_165 := hm_163 hz_166
            have pf_165 : Ltr (Mf 1) (Mv 0) sv_156 := pf_165
            have ar_pf_165 := pf_165.1
            refine lv_iconst (v := 1) hx hb dX12_tested_49 (by decide) ?_
            refine lv_goto (tgt := 54) hx hb dX12_tested_50 (by decide) ?_
            refine lv_istore_n (lv' := [(1, .int 1), (0, .ref (Ma 0))]) hx hb dX12_tested_54 rfl hl (by decide) rfl (fun ls hl => ?_)
            refine lv_iload_n hx hb dX12_tested_55 rfl (lv_at hl 0 rfl) ?_
            refine lv_if_eq (tgt := 12) hx hb dX12_tested_56 (by decide) (fun c_167 => absurd c_167 (by decide)) (fun c_167 => ?_)
            refine lv_aload_n hx hb dX12_tested_59 rfl (lv_at hl 1 rfl) ?_
            refine lv_ldc2 hx hb hown (hts _ k_1350) dX12_tested_60 ?_
            have ha_168 : 0 ≤ (sv_156 : Int32).toInt ∧ (sv_156 : Int32).toInt ≤ ((Mv 0) : Int32).toInt ∧ ((Mv 0) : Int32).toInt ≤ 400 := by
              have z_1 : ¬ (vy_20 : Int32).toInt = (0 : Int32).toInt := fun z => c_32 (Int32.toInt_inj.mp z)
              have z_2 : ¬ (r_125 : Int32).toInt = (0 : Int32).toInt := fun z => c_129 (Int32.toInt_inj.mp z)
              have z_3 : ¬ (r_160 : Int32).toInt = (0 : Int32).toInt := fun z => c_164 (Int32.toInt_inj.mp z)
              have y_0 : (0 : Int32).toInt = 0 := by decide
              refine ⟨?_, ?_, ?_⟩ <;> omega
            refine cV (a := (Ma 0)) (As := [.long 6385252]) (rest := []) (wr := [((Ma 2), .inl (tc 0, 2400, .inl sv_143)), ((Ma 3), .inl (tc 0, 7, .inl sv_144)), ((Ma 7), .inl (tc 0, 400, .inl sv_121))]) ⟨hx, hb, hml, hown, hts⟩ hK hX hA (ct_X12_isWord l D tc sk Ma (fun k => ([(Mv 0), (Mv 1), sv_156, sv_114, sv_115, (Mv 5), sv_116, sv_141, (Mv 8), sv_142, (Mv 10), (Mv 11), (Mv 12), (Mv 13), (Mv 14)] : List (Int32)).getD k 0) Mf Mj 6385252 ha_168) k_1220 k_1217 k_1219 k_29 k_106 pl_X12_isWord ⟨Nat.le_of_ble_eq_true rfl, Nat.le_of_ble_eq_true rfl⟩ rfl rfl (va_recv hK hP (ci := 12) (q0 := 3) rfl rfl) hP hD hS [3, 4] [0, 1, 2] rfl rfl rfl rfl rfl (by decide) rfl hl.1 rfl (Nat.le_of_ble_eq_true rfl) dX12_tested_63 ⟨Nat.le_of_ble_eq_true rfl, Nat.le_of_ble_eq_true rfl⟩ (fun v_169 u_170 H locs hv_171 hP hD hS => ?_)
            obtain ⟨sv_172, rfl⟩ : ∃ z, z = u_170 := ⟨_, rfl⟩
            obtain ⟨r_176, rfl, he_177, pf_173, pf_174, pf_175, hm_179⟩ := hv_171
            have he_177 : (r_176.toInt = 0 ∨ r_176.toInt = 1) := he_177
            have pf_173 : (sv_156 : Int32).toInt ≤ (sv_172 : Int32).toInt ∧ (sv_172 : Int32).toInt ≤ ((Mv 0) : Int32).toInt := pf_173
            have pf_174 : NSq (Mf 1) (Mv 0) sv_172 := pf_174
            have pf_175 : Stl (Mf 1) (Mv 0) sv_156 sv_172 := pf_175
            have pf_180 := Stl.ltr pf_175 pf_165
            have ar_pf_180 := pf_180.2
            have pf_181 : Ltr (Mf 1) (Mv 0) sv_172 := pf_180.1
            have ar_pf_175 := Stl.or pf_175 pf_158
            refine W.eq (g2 := F0 m 66 ls [.int r_176]) rfl ?_
            have hP : va_P D classes [((Ma 2), .inl (tc 0, 2400, .inl sv_143)), ((Ma 3), .inl (tc 0, 7, .inl sv_144)), ((Ma 7), .inl (tc 0, 400, .inl sv_121)), ((Ma 0), .inr (12, [.ref (Ma 1), .int (Mv 0), .int (Mv 1), .ref (Ma 2), .ref (Ma 3), .ref (Ma 4), .ref (Ma 5), .ref (Ma 6), .int sv_172, .int sv_114, .int sv_115, .int (Mv 5), .int sv_116, .int sv_141, .int (Mv 8), .ref (Ma 7), .int sv_142, .ref (Ma 8), .int (Mv 10), .ref (Ma 9), .ref (Ma 10), .int (Mv 11), .int (Mv 12), .int (Mv 13), .ref (Ma 11), .int (Mv 14), .ref (Ma 12), .ref (Ma 13), .ref (Ma 14), .ref (Ma 15), .ref (Ma 16), .long (Mj 0), .ref (Ma 17), .ref (Ma 18), .ref (Ma 19), .ref (Ma 20)])), ((Ma 1), .inl (tc 2, 400, .inl (Mf 1)))] H := hP
            have hD : va_D A [((Ma 2), .inl (tc 0, 2400, .inl sv_143)), ((Ma 3), .inl (tc 0, 7, .inl sv_144)), ((Ma 7), .inl (tc 0, 400, .inl sv_121)), ((Ma 0), .inr (12, [.ref (Ma 1), .int (Mv 0), .int (Mv 1), .ref (Ma 2), .ref (Ma 3), .ref (Ma 4), .ref (Ma 5), .ref (Ma 6), .int sv_172, .int sv_114, .int sv_115, .int (Mv 5), .int sv_116, .int sv_141, .int (Mv 8), .ref (Ma 7), .int sv_142, .ref (Ma 8), .int (Mv 10), .ref (Ma 9), .ref (Ma 10), .int (Mv 11), .int (Mv 12), .int (Mv 13), .ref (Ma 11), .int (Mv 14), .ref (Ma 12), .ref (Ma 13), .ref (Ma 14), .ref (Ma 15), .ref (Ma 16), .long (Mj 0), .ref (Ma 17), .ref (Ma 18), .ref (Ma 19), .ref (Ma 20)])), ((Ma 1), .inl (tc 2, 400, .inl (Mf 1)))] := hD
            refine lv_if_eq (tgt := 74) hx hb dX12_tested_66 (by decide) (fun c_182 => ?_) (fun c_182 => ?_)
            · skip
              refine lv_bipush (v := 13) hx hb dX12_tested_74 (by decide) ?_
              refine lv_istore_n (lv' := [(2, .int 13), (1, .int 1), (0, .ref (Ma 0))]) hx hb dX12_tested_76 rfl hl (by decide) rfl (fun ls hl => ?_)
              refine lv_aload_n hx hb dX12_tested_77 rfl (lv_at hl 2 rfl) ?_
              have ha_183 : 0 ≤ (sv_172 : Int32).toInt ∧ (sv_172 : Int32).toInt ≤ ((Mv 0) : Int32).toInt ∧ ((Mv 0) : Int32).toInt ≤ 400 := by
                have z_1 : ¬ (vy_20 : Int32).toInt = (0 : Int32).toInt := fun z => c_32 (Int32.toInt_inj.mp z)
                have z_2 : ¬ (r_125 : Int32).toInt = (0 : Int32).toInt := fun z => c_129 (Int32.toInt_inj.mp z)
                have z_3 : ¬ (r_160 : Int32).toInt = (0 : Int32).toInt := fun z => c_164 (Int32.toInt_inj.mp z)
                have z_4 := congrArg Int32.toInt c_182
                have y_0 : (0 : Int32).toInt = 0 := by decide
                refine ⟨?_, ?_, ?_⟩ <;> omega
              refine cV (a := (Ma 0)) (As := []) (rest := []) (wr := [((Ma 2), .inl (tc 0, 2400, .inl sv_143)), ((Ma 3), .inl (tc 0, 7, .inl sv_144)), ((Ma 7), .inl (tc 0, 400, .inl sv_121))]) ⟨hx, hb, hml, hown, hts⟩ hK hX hA (ct_X12_passWord l D tc sk Ma (fun k => ([(Mv 0), (Mv 1), sv_172, sv_114, sv_115, (Mv 5), sv_116, sv_141, (Mv 8), sv_142, (Mv 10), (Mv 11), (Mv 12), (Mv 13), (Mv 14)] : List (Int32)).getD k 0) Mf Mj ha_183) k_1244 k_1241 k_1243 k_34 k_106 pl_X12_passWord ⟨Nat.le_of_ble_eq_true rfl, Nat.le_of_ble_eq_true rfl⟩ rfl rfl (va_recv hK hP (ci := 12) (q0 := 3) rfl rfl) hP hD hS [3, 4] [0, 1, 2] rfl rfl rfl rfl rfl (by decide) rfl hl.1 rfl (Nat.le_of_ble_eq_true rfl) dX12_tested_78 ⟨Nat.le_of_ble_eq_true rfl, Nat.le_of_ble_eq_true rfl⟩ (fun v_184 u_185 H locs hv_186 hP hD hS => ?_)
              obtain ⟨sv_187, rfl⟩ : ∃ z, z = u_185 := ⟨_, rfl⟩
              obtain ⟨rfl, pf_188, pf_189⟩ := hv_186
              have pf_188 : (sv_172 : Int32).toInt ≤ (sv_187 : Int32).toInt ∧ (sv_187 : Int32).toInt ≤ ((Mv 0) : Int32).toInt := pf_188
              have pf_189 : Pw (Mf 1) (Mv 0) sv_172 sv_187 := pf_189
              have ar_pf_189 := pf_189 pf_181
              refine W.eq (g2 := F0 m 81 ls []) rfl ?_
              have hP : va_P D classes [((Ma 2), .inl (tc 0, 2400, .inl sv_143)), ((Ma 3), .inl (tc 0, 7, .inl sv_144)), ((Ma 7), .inl (tc 0, 400, .inl sv_121)), ((Ma 0), .inr (12, [.ref (Ma 1), .int (Mv 0), .int (Mv 1), .ref (Ma 2), .ref (Ma 3), .ref (Ma 4), .ref (Ma 5), .ref (Ma 6), .int sv_187, .int sv_114, .int sv_115, .int (Mv 5), .int sv_116, .int sv_141, .int (Mv 8), .ref (Ma 7), .int sv_142, .ref (Ma 8), .int (Mv 10), .ref (Ma 9), .ref (Ma 10), .int (Mv 11), .int (Mv 12), .int (Mv 13), .ref (Ma 11), .int (Mv 14), .ref (Ma 12), .ref (Ma 13), .ref (Ma 14), .ref (Ma 15), .ref (Ma 16), .long (Mj 0), .ref (Ma 17), .ref (Ma 18), .ref (Ma 19), .ref (Ma 20)])), ((Ma 1), .inl (tc 2, 400, .inl (Mf 1)))] H := hP
              have hD : va_D A [((Ma 2), .inl (tc 0, 2400, .inl sv_143)), ((Ma 3), .inl (tc 0, 7, .inl sv_144)), ((Ma 7), .inl (tc 0, 400, .inl sv_121)), ((Ma 0), .inr (12, [.ref (Ma 1), .int (Mv 0), .int (Mv 1), .ref (Ma 2), .ref (Ma 3), .ref (Ma 4), .ref (Ma 5), .ref (Ma 6), .int sv_187, .int sv_114, .int sv_115, .int (Mv 5), .int sv_116, .int sv_141, .int (Mv 8), .ref (Ma 7), .int sv_142, .ref (Ma 8), .int (Mv 10), .ref (Ma 9), .ref (Ma 10), .int (Mv 11), .int (Mv 12), .int (Mv 13), .ref (Ma 11), .int (Mv 14), .ref (Ma 12), .ref (Ma 13), .ref (Ma 14), .ref (Ma 15), .ref (Ma 16), .long (Mj 0), .ref (Ma 17), .ref (Ma 18), .ref (Ma 19), .ref (Ma 20)])), ((Ma 1), .inl (tc 2, 400, .inl (Mf 1)))] := hD
              refine lv_aload_n hx hb dX12_tested_81 rfl (lv_at hl 2 rfl) ?_
              refine lv_iload_n hx hb dX12_tested_82 rfl (lv_at hl 0 rfl) ?_
              refine cS (As := [.int 13]) (rest := [.ref (Ma 0)]) (wr := [((Ma 2), .inl (tc 0, 2400, .inl sv_143)), ((Ma 3), .inl (tc 0, 7, .inl sv_144)), ((Ma 7), .inl (tc 0, 400, .inl sv_121)), ((Ma 0), .inr (12, [.ref (Ma 1), .int (Mv 0), .int (Mv 1), .ref (Ma 2), .ref (Ma 3), .ref (Ma 4), .ref (Ma 5), .ref (Ma 6), .int sv_187, .int sv_114, .int sv_115, .int (Mv 5), .int sv_116, .int sv_141, .int (Mv 8), .ref (Ma 7), .int sv_142, .ref (Ma 8), .int (Mv 10), .ref (Ma 9), .ref (Ma 10), .int (Mv 11), .int (Mv 12), .int (Mv 13), .ref (Ma 11), .int (Mv 14), .ref (Ma 12), .ref (Ma 13), .ref (Ma 14), .ref (Ma 15), .ref (Ma 16), .long (Mj 0), .ref (Ma 17), .ref (Ma 18), .ref (Ma 19), .ref (Ma 20)])), ((Ma 1), .inl (tc 2, 400, .inl (Mf 1)))]) ⟨hx, hb, hml, hown, hts⟩ hK hX hA (ct_X12_strength l D tc sk 13) k_1345 k_1343 k_1344 k_106 pl_X12_strength ⟨Nat.le_of_ble_eq_true rfl, Nat.le_of_ble_eq_true rfl⟩ rfl rfl  hP hD hS [] [0, 1, 2, 3, 4] rfl rfl rfl rfl rfl (by decide) rfl hl.1 rfl (Nat.le_of_ble_eq_true rfl) dX12_tested_83 ⟨Nat.le_of_ble_eq_true rfl, Nat.le_of_ble_eq_true rfl⟩ (fun v_190 u_191 H locs hv_192 hP hD hS => ?_)
              obtain ⟨r_193, rfl, he_194⟩ := hv_192
              have he_194 : (((13 : Int32).toInt = 13 ∧ r_193.toInt = 1) ∨ ((13 : Int32).toInt = 12 ∧ r_193.toInt = 2) ∨ ((13 : Int32).toInt = 11 ∧ r_193.toInt = 3) ∨ ((13 : Int32).toInt ≠ 13 ∧ (13 : Int32).toInt ≠ 12 ∧ (13 : Int32).toInt ≠ 11 ∧ r_193.toInt = 0)) := he_194
              refine W.eq (g2 := F0 m 86 ls [.int r_193, .ref (Ma 0)]) rfl ?_
              have hP : va_P D classes [((Ma 2), .inl (tc 0, 2400, .inl sv_143)), ((Ma 3), .inl (tc 0, 7, .inl sv_144)), ((Ma 7), .inl (tc 0, 400, .inl sv_121)), ((Ma 0), .inr (12, [.ref (Ma 1), .int (Mv 0), .int (Mv 1), .ref (Ma 2), .ref (Ma 3), .ref (Ma 4), .ref (Ma 5), .ref (Ma 6), .int sv_187, .int sv_114, .int sv_115, .int (Mv 5), .int sv_116, .int sv_141, .int (Mv 8), .ref (Ma 7), .int sv_142, .ref (Ma 8), .int (Mv 10), .ref (Ma 9), .ref (Ma 10), .int (Mv 11), .int (Mv 12), .int (Mv 13), .ref (Ma 11), .int (Mv 14), .ref (Ma 12), .ref (Ma 13), .ref (Ma 14), .ref (Ma 15), .ref (Ma 16), .long (Mj 0), .ref (Ma 17), .ref (Ma 18), .ref (Ma 19), .ref (Ma 20)])), ((Ma 1), .inl (tc 2, 400, .inl (Mf 1)))] H := hP
              have hD : va_D A [((Ma 2), .inl (tc 0, 2400, .inl sv_143)), ((Ma 3), .inl (tc 0, 7, .inl sv_144)), ((Ma 7), .inl (tc 0, 400, .inl sv_121)), ((Ma 0), .inr (12, [.ref (Ma 1), .int (Mv 0), .int (Mv 1), .ref (Ma 2), .ref (Ma 3), .ref (Ma 4), .ref (Ma 5), .ref (Ma 6), .int sv_187, .int sv_114, .int sv_115, .int (Mv 5), .int sv_116, .int sv_141, .int (Mv 8), .ref (Ma 7), .int sv_142, .ref (Ma 8), .int (Mv 10), .ref (Ma 9), .ref (Ma 10), .int (Mv 11), .int (Mv 12), .int (Mv 13), .ref (Ma 11), .int (Mv 14), .ref (Ma 12), .ref (Ma 13), .ref (Ma 14), .ref (Ma 15), .ref (Ma 16), .long (Mj 0), .ref (Ma 17), .ref (Ma 18), .ref (Ma 19), .ref (Ma 20)])), ((Ma 1), .inl (tc 2, 400, .inl (Mf 1)))] := hD
              have yy_195 : (13 : Int32).toInt = 13 := by decide
              have ha_196 : 1 ≤ r_193.toInt ∧ r_193.toInt ≤ 3 := by
                have z_1 : ¬ (vy_20 : Int32).toInt = (0 : Int32).toInt := fun z => c_32 (Int32.toInt_inj.mp z)
                have z_2 : ¬ (r_125 : Int32).toInt = (0 : Int32).toInt := fun z => c_129 (Int32.toInt_inj.mp z)
                have z_3 : ¬ (r_160 : Int32).toInt = (0 : Int32).toInt := fun z => c_164 (Int32.toInt_inj.mp z)
                have z_4 := congrArg Int32.toInt c_182
                have y_0 : (0 : Int32).toInt = 0 := by decide
                refine ⟨?_, ?_⟩ <;> omega
              have ha_197 : (sv_144 (Mv 5).toNatClampNeg).toInt + (sv_142 : Int32).toInt ≤ 400 := by
                have z_1 : ¬ (vy_20 : Int32).toInt = (0 : Int32).toInt := fun z => c_32 (Int32.toInt_inj.mp z)
                have z_2 : ¬ (r_125 : Int32).toInt = (0 : Int32).toInt := fun z => c_129 (Int32.toInt_inj.mp z)
                have z_3 : ¬ (r_160 : Int32).toInt = (0 : Int32).toInt := fun z => c_164 (Int32.toInt_inj.mp z)
                have z_4 := congrArg Int32.toInt c_182
                have y_0 : (0 : Int32).toInt = 0 := by decide
                omega
              refine cV (a := (Ma 0)) (As := [.int r_193]) (rest := []) (wr := [((Ma 1), .inl (tc 2, 400, .inl (Mf 1)))]) ⟨hx, hb, hml, hown, hts⟩ hK hX hA (ct_X12_layDown l D tc sk Ma (fun k => ([(Mv 0), (Mv 1), sv_187, sv_114, sv_115, (Mv 5), sv_116, sv_141, (Mv 8), sv_142, (Mv 10), (Mv 11), (Mv 12), (Mv 13), (Mv 14)] : List (Int32)).getD k 0) (fun k => ([(fun _ => 0), (fun _ => 0), sv_143, sv_144, (fun _ => 0), (fun _ => 0), (fun _ => 0), sv_121] : List (Nat → Int32)).getD k (fun _ => 0)) Mj r_193 b pf_147 ha_196 ha_197) k_1342 k_1339 k_1341 k_54 k_106 pl_X12_layDown ⟨Nat.le_of_ble_eq_true rfl, Nat.le_of_ble_eq_true rfl⟩ rfl rfl (va_recv hK hP (ci := 12) (q0 := 3) rfl rfl) hP hD hS [3, 0, 1, 2] [4] rfl rfl rfl rfl rfl (by decide) rfl hl.1 rfl (Nat.le_of_ble_eq_true rfl) dX12_tested_86 ⟨Nat.le_of_ble_eq_true rfl, Nat.le_of_ble_eq_true rfl⟩ (fun v_198 u_199 H locs hv_200 hP hD hS => ?_)
              obtain ⟨sv_201, sv_202, sv_203, sv_204⟩ := u_199
              obtain ⟨rfl, pf_205, pf_206, pf_207, pf_208, pf_209⟩ := hv_200
              have pf_205 : LSR sv_121 sv_202 sv_203 sv_204 (Mv 5) b sv_116 := pf_205
              obtain ⟨pn_210, pf_211, pf_212⟩ := id pf_205
              have ar_pf_205 := LSR.ar pf_205
              have ar_pf_212 := Cd.ar pf_212
              have pf_206 : (sv_204 (Mv 5).toNatClampNeg).toInt + (sv_202 : Int32).toInt = (sv_144 (Mv 5).toNatClampNeg).toInt + (sv_142 : Int32).toInt ∧ 0 ≤ (sv_202 : Int32).toInt ∧ (sv_202 : Int32).toInt ≤ (sv_142 : Int32).toInt := pf_206
              have pf_207 : Agr sv_143 sv_203 (400 * ((Mv 5) : Int32).toInt + (sv_144 (Mv 5).toNatClampNeg).toInt) := pf_207
              have pf_208 : LdE sv_121 sv_202 r_193 := pf_208
              have pf_209 : InK sv_121 sv_142 sv_202 := pf_209
              refine W.eq (g2 := F0 m 89 ls []) rfl ?_
              have hP : va_P D classes [((Ma 1), .inl (tc 2, 400, .inl (Mf 1))), ((Ma 0), .inr (12, [.ref (Ma 1), .int (Mv 0), .int (Mv 1), .ref (Ma 2), .ref (Ma 3), .ref (Ma 4), .ref (Ma 5), .ref (Ma 6), .int sv_187, .int sv_114, .int sv_115, .int (Mv 5), .int sv_116, .int sv_201, .int (Mv 8), .ref (Ma 7), .int sv_202, .ref (Ma 8), .int (Mv 10), .ref (Ma 9), .ref (Ma 10), .int (Mv 11), .int (Mv 12), .int (Mv 13), .ref (Ma 11), .int (Mv 14), .ref (Ma 12), .ref (Ma 13), .ref (Ma 14), .ref (Ma 15), .ref (Ma 16), .long (Mj 0), .ref (Ma 17), .ref (Ma 18), .ref (Ma 19), .ref (Ma 20)])), ((Ma 2), .inl (tc 0, 2400, .inl sv_203)), ((Ma 3), .inl (tc 0, 7, .inl sv_204)), ((Ma 7), .inl (tc 0, 400, .inl sv_121))] H := hP
              have hD : va_D A [((Ma 1), .inl (tc 2, 400, .inl (Mf 1))), ((Ma 0), .inr (12, [.ref (Ma 1), .int (Mv 0), .int (Mv 1), .ref (Ma 2), .ref (Ma 3), .ref (Ma 4), .ref (Ma 5), .ref (Ma 6), .int sv_187, .int sv_114, .int sv_115, .int (Mv 5), .int sv_116, .int sv_201, .int (Mv 8), .ref (Ma 7), .int sv_202, .ref (Ma 8), .int (Mv 10), .ref (Ma 9), .ref (Ma 10), .int (Mv 11), .int (Mv 12), .int (Mv 13), .ref (Ma 11), .int (Mv 14), .ref (Ma 12), .ref (Ma 13), .ref (Ma 14), .ref (Ma 15), .ref (Ma 16), .long (Mj 0), .ref (Ma 17), .ref (Ma 18), .ref (Ma 19), .ref (Ma 20)])), ((Ma 2), .inl (tc 0, 2400, .inl sv_203)), ((Ma 3), .inl (tc 0, 7, .inl sv_204)), ((Ma 7), .inl (tc 0, 400, .inl sv_121))] := hD
              refine lv_aload_n hx hb dX12_tested_89 rfl (lv_at hl 2 rfl) ?_
              refine gf_X12_29 hx hb hts hown hK hP 1 rfl rfl dX12_tested_90 ?_
              refine lv_aload_n hx hb dX12_tested_93 rfl (lv_at hl 2 rfl) ?_
              refine gf_X12_154 hx hb hts hown hK hP 1 rfl rfl dX12_tested_94 ?_
              refine lv_iload_n hx hb dX12_tested_97 rfl (lv_at hl 0 rfl) ?_
              have hi_213 : vp_in sv_202 400 := by
                have z_1 : ¬ (vy_20 : Int32).toInt = (0 : Int32).toInt := fun z => c_32 (Int32.toInt_inj.mp z)
                have z_2 : ¬ (r_125 : Int32).toInt = (0 : Int32).toInt := fun z => c_129 (Int32.toInt_inj.mp z)
                have z_3 : ¬ (r_160 : Int32).toInt = (0 : Int32).toInt := fun z => c_164 (Int32.toInt_inj.mp z)
                have z_4 := congrArg Int32.toInt c_182
                have y_0 : (0 : Int32).toInt = 0 := by decide
                refine vp_in_iff.mpr ⟨?_, ?_⟩ <;> omega
              refine st_int hx hb hK hP hD hS 4 0 rfl rfl hi_213 dX12_tested_98 (fun g_214 H locs eg_214 hP hD hS => ?_)
              have hP : va_P D classes [((Ma 1), .inl (tc 2, 400, .inl (Mf 1))), ((Ma 0), .inr (12, [.ref (Ma 1), .int (Mv 0), .int (Mv 1), .ref (Ma 2), .ref (Ma 3), .ref (Ma 4), .ref (Ma 5), .ref (Ma 6), .int sv_187, .int sv_114, .int sv_115, .int (Mv 5), .int sv_116, .int sv_201, .int (Mv 8), .ref (Ma 7), .int sv_202, .ref (Ma 8), .int (Mv 10), .ref (Ma 9), .ref (Ma 10), .int (Mv 11), .int (Mv 12), .int (Mv 13), .ref (Ma 11), .int (Mv 14), .ref (Ma 12), .ref (Ma 13), .ref (Ma 14), .ref (Ma 15), .ref (Ma 16), .long (Mj 0), .ref (Ma 17), .ref (Ma 18), .ref (Ma 19), .ref (Ma 20)])), ((Ma 2), .inl (tc 0, 2400, .inl sv_203)), ((Ma 3), .inl (tc 0, 7, .inl sv_204)), ((Ma 7), .inl (tc 0, 400, .inl g_214))] H := hP
              have hD : va_D A [((Ma 1), .inl (tc 2, 400, .inl (Mf 1))), ((Ma 0), .inr (12, [.ref (Ma 1), .int (Mv 0), .int (Mv 1), .ref (Ma 2), .ref (Ma 3), .ref (Ma 4), .ref (Ma 5), .ref (Ma 6), .int sv_187, .int sv_114, .int sv_115, .int (Mv 5), .int sv_116, .int sv_201, .int (Mv 8), .ref (Ma 7), .int sv_202, .ref (Ma 8), .int (Mv 10), .ref (Ma 9), .ref (Ma 10), .int (Mv 11), .int (Mv 12), .int (Mv 13), .ref (Ma 11), .int (Mv 14), .ref (Ma 12), .ref (Ma 13), .ref (Ma 14), .ref (Ma 15), .ref (Ma 16), .long (Mj 0), .ref (Ma 17), .ref (Ma 18), .ref (Ma 19), .ref (Ma 20)])), ((Ma 2), .inl (tc 0, 2400, .inl sv_203)), ((Ma 3), .inl (tc 0, 7, .inl sv_204)), ((Ma 7), .inl (tc 0, 400, .inl g_214))] := hD
              refine lv_aload_n hx hb dX12_tested_99 rfl (lv_at hl 2 rfl) ?_
              refine lv_dup hx hb dX12_tested_100 rfl ?_
              refine gf_X12_154 hx hb hts hown hK hP 1 rfl rfl dX12_tested_101 ?_
              refine lv_iconst (v := 1) hx hb dX12_tested_104 (by decide) ?_
              refine lv_iadd hx hb dX12_tested_105 ?_
              refine lv_topi (fun x_215 ex_215 => ?_)
              refine pf_X12_154 hx hb hts hown hK hP hD hS 1 rfl (Nat.le_of_ble_eq_true rfl) rfl rfl dX12_tested_106 (fun H locs hP hD hS => ?_)
              have hP : va_P D classes [((Ma 1), .inl (tc 2, 400, .inl (Mf 1))), ((Ma 0), .inr (12, [.ref (Ma 1), .int (Mv 0), .int (Mv 1), .ref (Ma 2), .ref (Ma 3), .ref (Ma 4), .ref (Ma 5), .ref (Ma 6), .int sv_187, .int sv_114, .int sv_115, .int (Mv 5), .int sv_116, .int sv_201, .int (Mv 8), .ref (Ma 7), .int x_215, .ref (Ma 8), .int (Mv 10), .ref (Ma 9), .ref (Ma 10), .int (Mv 11), .int (Mv 12), .int (Mv 13), .ref (Ma 11), .int (Mv 14), .ref (Ma 12), .ref (Ma 13), .ref (Ma 14), .ref (Ma 15), .ref (Ma 16), .long (Mj 0), .ref (Ma 17), .ref (Ma 18), .ref (Ma 19), .ref (Ma 20)])), ((Ma 2), .inl (tc 0, 2400, .inl sv_203)), ((Ma 3), .inl (tc 0, 7, .inl sv_204)), ((Ma 7), .inl (tc 0, 400, .inl g_214))] H := hP
              have hD : va_D A [((Ma 1), .inl (tc 2, 400, .inl (Mf 1))), ((Ma 0), .inr (12, [.ref (Ma 1), .int (Mv 0), .int (Mv 1), .ref (Ma 2), .ref (Ma 3), .ref (Ma 4), .ref (Ma 5), .ref (Ma 6), .int sv_187, .int sv_114, .int sv_115, .int (Mv 5), .int sv_116, .int sv_201, .int (Mv 8), .ref (Ma 7), .int x_215, .ref (Ma 8), .int (Mv 10), .ref (Ma 9), .ref (Ma 10), .int (Mv 11), .int (Mv 12), .int (Mv 13), .ref (Ma 11), .int (Mv 14), .ref (Ma 12), .ref (Ma 13), .ref (Ma 14), .ref (Ma 15), .ref (Ma 16), .long (Mj 0), .ref (Ma 17), .ref (Ma 18), .ref (Ma 19), .ref (Ma 20)])), ((Ma 2), .inl (tc 0, 2400, .inl sv_203)), ((Ma 3), .inl (tc 0, 7, .inl sv_204)), ((Ma 7), .inl (tc 0, 400, .inl g_214))] := hD
              refine lv_goto (tgt := 12) hx hb dX12_tested_109 (by decide) ?_
              have hb_216 : 2 * (401 - (sv_187 : Int32).toInt) + (1 : Int32).toInt < 2 * (401 - (vy_11 : Int32).toInt) + (vy_20 : Int32).toInt ∧ 1 ≤ 2 * (401 - (vy_11 : Int32).toInt) + (vy_20 : Int32).toInt := by
                have z_1 : ¬ (vy_20 : Int32).toInt = (0 : Int32).toInt := fun z => c_32 (Int32.toInt_inj.mp z)
                have z_2 : ¬ (r_125 : Int32).toInt = (0 : Int32).toInt := fun z => c_129 (Int32.toInt_inj.mp z)
                have z_3 : ¬ (r_160 : Int32).toInt = (0 : Int32).toInt := fun z => c_164 (Int32.toInt_inj.mp z)
                have z_4 := congrArg Int32.toInt c_182
                have y_0 : (0 : Int32).toInt = 0 := by decide
                have y_1 : (1 : Int32).toInt = 1 := by decide
                refine ⟨?_, ?_⟩ <;> omega
              have ha_217 : 0 ≤ (sv_187 : Int32).toInt ∧ (sv_187 : Int32).toInt ≤ ((Mv 0) : Int32).toInt ∧ ((Mv 0) : Int32).toInt ≤ 400 := by
                have z_1 : ¬ (vy_20 : Int32).toInt = (0 : Int32).toInt := fun z => c_32 (Int32.toInt_inj.mp z)
                have z_2 : ¬ (r_125 : Int32).toInt = (0 : Int32).toInt := fun z => c_129 (Int32.toInt_inj.mp z)
                have z_3 : ¬ (r_160 : Int32).toInt = (0 : Int32).toInt := fun z => c_164 (Int32.toInt_inj.mp z)
                have z_4 := congrArg Int32.toInt c_182
                have y_0 : (0 : Int32).toInt = 0 := by decide
                refine ⟨?_, ?_, ?_⟩ <;> omega
              have ha_218 : (Mv 2).toInt ≤ (sv_187 : Int32).toInt := by
                have z_1 : ¬ (vy_20 : Int32).toInt = (0 : Int32).toInt := fun z => c_32 (Int32.toInt_inj.mp z)
                have z_2 : ¬ (r_125 : Int32).toInt = (0 : Int32).toInt := fun z => c_129 (Int32.toInt_inj.mp z)
                have z_3 : ¬ (r_160 : Int32).toInt = (0 : Int32).toInt := fun z => c_164 (Int32.toInt_inj.mp z)
                have z_4 := congrArg Int32.toInt c_182
                have y_0 : (0 : Int32).toInt = 0 := by decide
                omega
              have ha_219 : 0 ≤ (1 : Int32).toInt ∧ (1 : Int32).toInt ≤ 1 := by
                have z_1 : ¬ (vy_20 : Int32).toInt = (0 : Int32).toInt := fun z => c_32 (Int32.toInt_inj.mp z)
                have z_2 : ¬ (r_125 : Int32).toInt = (0 : Int32).toInt := fun z => c_129 (Int32.toInt_inj.mp z)
                have z_3 : ¬ (r_160 : Int32).toInt = (0 : Int32).toInt := fun z => c_164 (Int32.toInt_inj.mp z)
                have z_4 := congrArg Int32.toInt c_182
                have y_0 : (0 : Int32).toInt = 0 := by decide
                have y_1 : (1 : Int32).toInt = 1 := by decide
                refine ⟨?_, ?_⟩ <;> omega
              have ha_220 : (Mv 6).toInt ≤ (sv_116 : Int32).toInt ∧ (sv_116 : Int32).toInt ≤ 60 := by
                have z_1 : ¬ (vy_20 : Int32).toInt = (0 : Int32).toInt := fun z => c_32 (Int32.toInt_inj.mp z)
                have z_2 : ¬ (r_125 : Int32).toInt = (0 : Int32).toInt := fun z => c_129 (Int32.toInt_inj.mp z)
                have z_3 : ¬ (r_160 : Int32).toInt = (0 : Int32).toInt := fun z => c_164 (Int32.toInt_inj.mp z)
                have z_4 := congrArg Int32.toInt c_182
                have y_0 : (0 : Int32).toInt = 0 := by decide
                refine ⟨?_, ?_⟩ <;> omega
              have hi_221 : (x_215 : Int32).toInt = (sv_202 : Int32).toInt + 1 := by
                have z_1 : ¬ (vy_20 : Int32).toInt = (0 : Int32).toInt := fun z => c_32 (Int32.toInt_inj.mp z)
                have z_2 : ¬ (r_125 : Int32).toInt = (0 : Int32).toInt := fun z => c_129 (Int32.toInt_inj.mp z)
                have z_3 : ¬ (r_160 : Int32).toInt = (0 : Int32).toInt := fun z => c_164 (Int32.toInt_inj.mp z)
                have z_4 := congrArg Int32.toInt c_182
                have y_0 : (0 : Int32).toInt = 0 := by decide
                have y_1 : (1 : Int32).toInt = 1 := by decide
                have t_x_215 : x_215.toInt = (sv_202 : Int32).toInt + (1 : Int32).toInt := by rw [ex_215]; exact add_toInt (by omega) (by omega)
                omega
              have hr_222 : (sv_202 : Int32).toInt < 400 := by
                have z_1 : ¬ (vy_20 : Int32).toInt = (0 : Int32).toInt := fun z => c_32 (Int32.toInt_inj.mp z)
                have z_2 : ¬ (r_125 : Int32).toInt = (0 : Int32).toInt := fun z => c_129 (Int32.toInt_inj.mp z)
                have z_3 : ¬ (r_160 : Int32).toInt = (0 : Int32).toInt := fun z => c_164 (Int32.toInt_inj.mp z)
                have z_4 := congrArg Int32.toInt c_182
                have y_0 : (0 : Int32).toInt = 0 := by decide
                omega
              have hr_223 : (13 : Int32).toInt = 12 ∨ (13 : Int32).toInt = 13 := by
                have z_1 : ¬ (vy_20 : Int32).toInt = (0 : Int32).toInt := fun z => c_32 (Int32.toInt_inj.mp z)
                have z_2 : ¬ (r_125 : Int32).toInt = (0 : Int32).toInt := fun z => c_129 (Int32.toInt_inj.mp z)
                have z_3 : ¬ (r_160 : Int32).toInt = (0 : Int32).toInt := fun z => c_164 (Int32.toInt_inj.mp z)
                have z_4 := congrArg Int32.toInt c_182
                have y_0 : (0 : Int32).toInt = 0 := by decide
                have y_13 : (13 : Int32).toInt = 13 := by decide
                omega
              have ha_224 : (sv_204 (Mv 5).toNatClampNeg).toInt + (x_215 : Int32).toInt ≤ (sv_187 : Int32).toInt ∧ ((Mf 3) (Mv 5).toNatClampNeg).toInt ≤ (sv_204 (Mv 5).toNatClampNeg).toInt ∧ 0 ≤ (x_215 : Int32).toInt ∧ (x_215 : Int32).toInt ≤ 400 := by
                have z_1 : ¬ (vy_20 : Int32).toInt = (0 : Int32).toInt := fun z => c_32 (Int32.toInt_inj.mp z)
                have z_2 : ¬ (r_125 : Int32).toInt = (0 : Int32).toInt := fun z => c_129 (Int32.toInt_inj.mp z)
                have z_3 : ¬ (r_160 : Int32).toInt = (0 : Int32).toInt := fun z => c_164 (Int32.toInt_inj.mp z)
                have z_4 := congrArg Int32.toInt c_182
                have y_0 : (0 : Int32).toInt = 0 := by decide
                have y_1 : (1 : Int32).toInt = 1 := by decide
                have t_x_215 : x_215.toInt = (sv_202 : Int32).toInt + (1 : Int32).toInt := by rw [ex_215]; exact add_toInt (by omega) (by omega)
                refine ⟨?_, ?_, ?_, ?_⟩ <;> omega
              have hr_225 : (400 * ((Mv 5) : Int32).toInt + ((Mf 3) (Mv 5).toNatClampNeg).toInt) ≤ (400 * ((Mv 5) : Int32).toInt + ((Mf 3) (Mv 5).toNatClampNeg).toInt) := by
                have z_1 : ¬ (vy_20 : Int32).toInt = (0 : Int32).toInt := fun z => c_32 (Int32.toInt_inj.mp z)
                have z_2 : ¬ (r_125 : Int32).toInt = (0 : Int32).toInt := fun z => c_129 (Int32.toInt_inj.mp z)
                have z_3 : ¬ (r_160 : Int32).toInt = (0 : Int32).toInt := fun z => c_164 (Int32.toInt_inj.mp z)
                have z_4 := congrArg Int32.toInt c_182
                have y_0 : (0 : Int32).toInt = 0 := by decide
                omega
              have hr_226 : (400 * ((Mv 5) : Int32).toInt + ((Mf 3) (Mv 5).toNatClampNeg).toInt) ≤ (400 * ((Mv 5) : Int32).toInt + (vy_18 (Mv 5).toNatClampNeg).toInt) := by
                have z_1 : ¬ (vy_20 : Int32).toInt = (0 : Int32).toInt := fun z => c_32 (Int32.toInt_inj.mp z)
                have z_2 : ¬ (r_125 : Int32).toInt = (0 : Int32).toInt := fun z => c_129 (Int32.toInt_inj.mp z)
                have z_3 : ¬ (r_160 : Int32).toInt = (0 : Int32).toInt := fun z => c_164 (Int32.toInt_inj.mp z)
                have z_4 := congrArg Int32.toInt c_182
                have y_0 : (0 : Int32).toInt = 0 := by decide
                omega
              have hr_227 : (400 * ((Mv 5) : Int32).toInt + ((Mf 3) (Mv 5).toNatClampNeg).toInt) ≤ (400 * ((Mv 5) : Int32).toInt + (sv_120 (Mv 5).toNatClampNeg).toInt) := by
                have z_1 : ¬ (vy_20 : Int32).toInt = (0 : Int32).toInt := fun z => c_32 (Int32.toInt_inj.mp z)
                have z_2 : ¬ (r_125 : Int32).toInt = (0 : Int32).toInt := fun z => c_129 (Int32.toInt_inj.mp z)
                have z_3 : ¬ (r_160 : Int32).toInt = (0 : Int32).toInt := fun z => c_164 (Int32.toInt_inj.mp z)
                have z_4 := congrArg Int32.toInt c_182
                have y_0 : (0 : Int32).toInt = 0 := by decide
                omega
              have hr_228 : (400 * ((Mv 5) : Int32).toInt + ((Mf 3) (Mv 5).toNatClampNeg).toInt) ≤ (400 * ((Mv 5) : Int32).toInt + (sv_144 (Mv 5).toNatClampNeg).toInt) := by
                have z_1 : ¬ (vy_20 : Int32).toInt = (0 : Int32).toInt := fun z => c_32 (Int32.toInt_inj.mp z)
                have z_2 : ¬ (r_125 : Int32).toInt = (0 : Int32).toInt := fun z => c_129 (Int32.toInt_inj.mp z)
                have z_3 : ¬ (r_160 : Int32).toInt = (0 : Int32).toInt := fun z => c_164 (Int32.toInt_inj.mp z)
                have z_4 := congrArg Int32.toInt c_182
                have y_0 : (0 : Int32).toInt = 0 := by decide
                omega
              exact ih_22 sv_187 sv_114 sv_115 sv_116 sv_201 x_215 sv_203 sv_204 g_214 1 _ _ _ (by omega) ha_217 ha_218 ha_219 ha_220 ⟨fun _ => LSR.open2 pf_205 eg_214 hi_221 hr_222 hr_223, fun h => absurd h (by decide)⟩ ha_224 (Agr.trans (k' := (400 * ((Mv 5) : Int32).toInt + ((Mf 3) (Mv 5).toNatClampNeg).toInt)) (Agr.trans (k' := (400 * ((Mv 5) : Int32).toInt + ((Mf 3) (Mv 5).toNatClampNeg).toInt)) (Agr.trans (k' := (400 * ((Mv 5) : Int32).toInt + ((Mf 3) (Mv 5).toNatClampNeg).toInt)) (Agr.mono pf_30 hr_225) pf_124 ⟨Int.le_refl _, hr_226⟩) pf_146 ⟨Int.le_refl _, hr_227⟩) pf_207 ⟨Int.le_refl _, hr_228⟩) (hP.sub [1, 0, 2, 3, 4] rfl) (hD.sub [1, 0, 2, 3, 4] rfl rfl) hS (lv_sub hl [1, 2] rfl)
            · skip
              have hz_230 : (r_176 : Int32).toInt = 1 := by
                have z_1 : ¬ (vy_20 : Int32).toInt = (0 : Int32).toInt := fun z => c_32 (Int32.toInt_inj.mp z)
                have z_2 : ¬ (r_125 : Int32).toInt = (0 : Int32).toInt := fun z => c_129 (Int32.toInt_inj.mp z)
                have z_3 : ¬ (r_160 : Int32).toInt = (0 : Int32).toInt := fun z => c_164 (Int32.toInt_inj.mp z)
                have z_4 : ¬ (r_176 : Int32).toInt = (0 : Int32).toInt := fun z => c_182 (Int32.toInt_inj.mp z)
                have y_0 : (0 : Int32).toInt = 0 := by decide
                omega
              obtain pf_229 := hm_179 hz_230
              have pf_229 : Ltr (Mf 1) (Mv 0) sv_172 := pf_229
              have ar_pf_229 := pf_229.1
              refine lv_bipush (v := 12) hx hb dX12_tested_69 (by decide) ?_
              refine lv_goto (tgt := 76) hx hb dX12_tested_71 (by decide) ?_
              refine lv_istore_n (lv' := [(2, .int 12), (1, .int 1), (0, .ref (Ma 0))]) hx hb dX12_tested_76 rfl hl (by decide) rfl (fun ls hl => ?_)
              refine lv_aload_n hx hb dX12_tested_77 rfl (lv_at hl 2 rfl) ?_
              have ha_231 : 0 ≤ (sv_172 : Int32).toInt ∧ (sv_172 : Int32).toInt ≤ ((Mv 0) : Int32).toInt ∧ ((Mv 0) : Int32).toInt ≤ 400 := by
                have z_1 : ¬ (vy_20 : Int32).toInt = (0 : Int32).toInt := fun z => c_32 (Int32.toInt_inj.mp z)
                have z_2 : ¬ (r_125 : Int32).toInt = (0 : Int32).toInt := fun z => c_129 (Int32.toInt_inj.mp z)
                have z_3 : ¬ (r_160 : Int32).toInt = (0 : Int32).toInt := fun z => c_164 (Int32.toInt_inj.mp z)
                have z_4 : ¬ (r_176 : Int32).toInt = (0 : Int32).toInt := fun z => c_182 (Int32.toInt_inj.mp z)
                have y_0 : (0 : Int32).toInt = 0 := by decide
                refine ⟨?_, ?_, ?_⟩ <;> omega
              refine cV (a := (Ma 0)) (As := []) (rest := []) (wr := [((Ma 2), .inl (tc 0, 2400, .inl sv_143)), ((Ma 3), .inl (tc 0, 7, .inl sv_144)), ((Ma 7), .inl (tc 0, 400, .inl sv_121))]) ⟨hx, hb, hml, hown, hts⟩ hK hX hA (ct_X12_passWord l D tc sk Ma (fun k => ([(Mv 0), (Mv 1), sv_172, sv_114, sv_115, (Mv 5), sv_116, sv_141, (Mv 8), sv_142, (Mv 10), (Mv 11), (Mv 12), (Mv 13), (Mv 14)] : List (Int32)).getD k 0) Mf Mj ha_231) k_1244 k_1241 k_1243 k_34 k_106 pl_X12_passWord ⟨Nat.le_of_ble_eq_true rfl, Nat.le_of_ble_eq_true rfl⟩ rfl rfl (va_recv hK hP (ci := 12) (q0 := 3) rfl rfl) hP hD hS [3, 4] [0, 1, 2] rfl rfl rfl rfl rfl (by decide) rfl hl.1 rfl (Nat.le_of_ble_eq_true rfl) dX12_tested_78 ⟨Nat.le_of_ble_eq_true rfl, Nat.le_of_ble_eq_true rfl⟩ (fun v_232 u_233 H locs hv_234 hP hD hS => ?_)
              obtain ⟨sv_235, rfl⟩ : ∃ z, z = u_233 := ⟨_, rfl⟩
              obtain ⟨rfl, pf_236, pf_237⟩ := hv_234
              have pf_236 : (sv_172 : Int32).toInt ≤ (sv_235 : Int32).toInt ∧ (sv_235 : Int32).toInt ≤ ((Mv 0) : Int32).toInt := pf_236
              have pf_237 : Pw (Mf 1) (Mv 0) sv_172 sv_235 := pf_237
              have ar_pf_237 := pf_237 pf_229
              refine W.eq (g2 := F0 m 81 ls []) rfl ?_
              have hP : va_P D classes [((Ma 2), .inl (tc 0, 2400, .inl sv_143)), ((Ma 3), .inl (tc 0, 7, .inl sv_144)), ((Ma 7), .inl (tc 0, 400, .inl sv_121)), ((Ma 0), .inr (12, [.ref (Ma 1), .int (Mv 0), .int (Mv 1), .ref (Ma 2), .ref (Ma 3), .ref (Ma 4), .ref (Ma 5), .ref (Ma 6), .int sv_235, .int sv_114, .int sv_115, .int (Mv 5), .int sv_116, .int sv_141, .int (Mv 8), .ref (Ma 7), .int sv_142, .ref (Ma 8), .int (Mv 10), .ref (Ma 9), .ref (Ma 10), .int (Mv 11), .int (Mv 12), .int (Mv 13), .ref (Ma 11), .int (Mv 14), .ref (Ma 12), .ref (Ma 13), .ref (Ma 14), .ref (Ma 15), .ref (Ma 16), .long (Mj 0), .ref (Ma 17), .ref (Ma 18), .ref (Ma 19), .ref (Ma 20)])), ((Ma 1), .inl (tc 2, 400, .inl (Mf 1)))] H := hP
              have hD : va_D A [((Ma 2), .inl (tc 0, 2400, .inl sv_143)), ((Ma 3), .inl (tc 0, 7, .inl sv_144)), ((Ma 7), .inl (tc 0, 400, .inl sv_121)), ((Ma 0), .inr (12, [.ref (Ma 1), .int (Mv 0), .int (Mv 1), .ref (Ma 2), .ref (Ma 3), .ref (Ma 4), .ref (Ma 5), .ref (Ma 6), .int sv_235, .int sv_114, .int sv_115, .int (Mv 5), .int sv_116, .int sv_141, .int (Mv 8), .ref (Ma 7), .int sv_142, .ref (Ma 8), .int (Mv 10), .ref (Ma 9), .ref (Ma 10), .int (Mv 11), .int (Mv 12), .int (Mv 13), .ref (Ma 11), .int (Mv 14), .ref (Ma 12), .ref (Ma 13), .ref (Ma 14), .ref (Ma 15), .ref (Ma 16), .long (Mj 0), .ref (Ma 17), .ref (Ma 18), .ref (Ma 19), .ref (Ma 20)])), ((Ma 1), .inl (tc 2, 400, .inl (Mf 1)))] := hD
              refine lv_aload_n hx hb dX12_tested_81 rfl (lv_at hl 2 rfl) ?_
              refine lv_iload_n hx hb dX12_tested_82 rfl (lv_at hl 0 rfl) ?_
              refine cS (As := [.int 12]) (rest := [.ref (Ma 0)]) (wr := [((Ma 2), .inl (tc 0, 2400, .inl sv_143)), ((Ma 3), .inl (tc 0, 7, .inl sv_144)), ((Ma 7), .inl (tc 0, 400, .inl sv_121)), ((Ma 0), .inr (12, [.ref (Ma 1), .int (Mv 0), .int (Mv 1), .ref (Ma 2), .ref (Ma 3), .ref (Ma 4), .ref (Ma 5), .ref (Ma 6), .int sv_235, .int sv_114, .int sv_115, .int (Mv 5), .int sv_116, .int sv_141, .int (Mv 8), .ref (Ma 7), .int sv_142, .ref (Ma 8), .int (Mv 10), .ref (Ma 9), .ref (Ma 10), .int (Mv 11), .int (Mv 12), .int (Mv 13), .ref (Ma 11), .int (Mv 14), .ref (Ma 12), .ref (Ma 13), .ref (Ma 14), .ref (Ma 15), .ref (Ma 16), .long (Mj 0), .ref (Ma 17), .ref (Ma 18), .ref (Ma 19), .ref (Ma 20)])), ((Ma 1), .inl (tc 2, 400, .inl (Mf 1)))]) ⟨hx, hb, hml, hown, hts⟩ hK hX hA (ct_X12_strength l D tc sk 12) k_1345 k_1343 k_1344 k_106 pl_X12_strength ⟨Nat.le_of_ble_eq_true rfl, Nat.le_of_ble_eq_true rfl⟩ rfl rfl  hP hD hS [] [0, 1, 2, 3, 4] rfl rfl rfl rfl rfl (by decide) rfl hl.1 rfl (Nat.le_of_ble_eq_true rfl) dX12_tested_83 ⟨Nat.le_of_ble_eq_true rfl, Nat.le_of_ble_eq_true rfl⟩ (fun v_238 u_239 H locs hv_240 hP hD hS => ?_)
              obtain ⟨r_241, rfl, he_242⟩ := hv_240
              have he_242 : (((12 : Int32).toInt = 13 ∧ r_241.toInt = 1) ∨ ((12 : Int32).toInt = 12 ∧ r_241.toInt = 2) ∨ ((12 : Int32).toInt = 11 ∧ r_241.toInt = 3) ∨ ((12 : Int32).toInt ≠ 13 ∧ (12 : Int32).toInt ≠ 12 ∧ (12 : Int32).toInt ≠ 11 ∧ r_241.toInt = 0)) := he_242
              refine W.eq (g2 := F0 m 86 ls [.int r_241, .ref (Ma 0)]) rfl ?_
              have hP : va_P D classes [((Ma 2), .inl (tc 0, 2400, .inl sv_143)), ((Ma 3), .inl (tc 0, 7, .inl sv_144)), ((Ma 7), .inl (tc 0, 400, .inl sv_121)), ((Ma 0), .inr (12, [.ref (Ma 1), .int (Mv 0), .int (Mv 1), .ref (Ma 2), .ref (Ma 3), .ref (Ma 4), .ref (Ma 5), .ref (Ma 6), .int sv_235, .int sv_114, .int sv_115, .int (Mv 5), .int sv_116, .int sv_141, .int (Mv 8), .ref (Ma 7), .int sv_142, .ref (Ma 8), .int (Mv 10), .ref (Ma 9), .ref (Ma 10), .int (Mv 11), .int (Mv 12), .int (Mv 13), .ref (Ma 11), .int (Mv 14), .ref (Ma 12), .ref (Ma 13), .ref (Ma 14), .ref (Ma 15), .ref (Ma 16), .long (Mj 0), .ref (Ma 17), .ref (Ma 18), .ref (Ma 19), .ref (Ma 20)])), ((Ma 1), .inl (tc 2, 400, .inl (Mf 1)))] H := hP
              have hD : va_D A [((Ma 2), .inl (tc 0, 2400, .inl sv_143)), ((Ma 3), .inl (tc 0, 7, .inl sv_144)), ((Ma 7), .inl (tc 0, 400, .inl sv_121)), ((Ma 0), .inr (12, [.ref (Ma 1), .int (Mv 0), .int (Mv 1), .ref (Ma 2), .ref (Ma 3), .ref (Ma 4), .ref (Ma 5), .ref (Ma 6), .int sv_235, .int sv_114, .int sv_115, .int (Mv 5), .int sv_116, .int sv_141, .int (Mv 8), .ref (Ma 7), .int sv_142, .ref (Ma 8), .int (Mv 10), .ref (Ma 9), .ref (Ma 10), .int (Mv 11), .int (Mv 12), .int (Mv 13), .ref (Ma 11), .int (Mv 14), .ref (Ma 12), .ref (Ma 13), .ref (Ma 14), .ref (Ma 15), .ref (Ma 16), .long (Mj 0), .ref (Ma 17), .ref (Ma 18), .ref (Ma 19), .ref (Ma 20)])), ((Ma 1), .inl (tc 2, 400, .inl (Mf 1)))] := hD
              have yy_243 : (12 : Int32).toInt = 12 := by decide
              have ha_244 : 1 ≤ r_241.toInt ∧ r_241.toInt ≤ 3 := by
                have z_1 : ¬ (vy_20 : Int32).toInt = (0 : Int32).toInt := fun z => c_32 (Int32.toInt_inj.mp z)
                have z_2 : ¬ (r_125 : Int32).toInt = (0 : Int32).toInt := fun z => c_129 (Int32.toInt_inj.mp z)
                have z_3 : ¬ (r_160 : Int32).toInt = (0 : Int32).toInt := fun z => c_164 (Int32.toInt_inj.mp z)
                have z_4 : ¬ (r_176 : Int32).toInt = (0 : Int32).toInt := fun z => c_182 (Int32.toInt_inj.mp z)
                have y_0 : (0 : Int32).toInt = 0 := by decide
                refine ⟨?_, ?_⟩ <;> omega
              have ha_245 : (sv_144 (Mv 5).toNatClampNeg).toInt + (sv_142 : Int32).toInt ≤ 400 := by
                have z_1 : ¬ (vy_20 : Int32).toInt = (0 : Int32).toInt := fun z => c_32 (Int32.toInt_inj.mp z)
                have z_2 : ¬ (r_125 : Int32).toInt = (0 : Int32).toInt := fun z => c_129 (Int32.toInt_inj.mp z)
                have z_3 : ¬ (r_160 : Int32).toInt = (0 : Int32).toInt := fun z => c_164 (Int32.toInt_inj.mp z)
                have z_4 : ¬ (r_176 : Int32).toInt = (0 : Int32).toInt := fun z => c_182 (Int32.toInt_inj.mp z)
                have y_0 : (0 : Int32).toInt = 0 := by decide
                omega
              refine cV (a := (Ma 0)) (As := [.int r_241]) (rest := []) (wr := [((Ma 1), .inl (tc 2, 400, .inl (Mf 1)))]) ⟨hx, hb, hml, hown, hts⟩ hK hX hA (ct_X12_layDown l D tc sk Ma (fun k => ([(Mv 0), (Mv 1), sv_235, sv_114, sv_115, (Mv 5), sv_116, sv_141, (Mv 8), sv_142, (Mv 10), (Mv 11), (Mv 12), (Mv 13), (Mv 14)] : List (Int32)).getD k 0) (fun k => ([(fun _ => 0), (fun _ => 0), sv_143, sv_144, (fun _ => 0), (fun _ => 0), (fun _ => 0), sv_121] : List (Nat → Int32)).getD k (fun _ => 0)) Mj r_241 b pf_147 ha_244 ha_245) k_1342 k_1339 k_1341 k_54 k_106 pl_X12_layDown ⟨Nat.le_of_ble_eq_true rfl, Nat.le_of_ble_eq_true rfl⟩ rfl rfl (va_recv hK hP (ci := 12) (q0 := 3) rfl rfl) hP hD hS [3, 0, 1, 2] [4] rfl rfl rfl rfl rfl (by decide) rfl hl.1 rfl (Nat.le_of_ble_eq_true rfl) dX12_tested_86 ⟨Nat.le_of_ble_eq_true rfl, Nat.le_of_ble_eq_true rfl⟩ (fun v_246 u_247 H locs hv_248 hP hD hS => ?_)
              obtain ⟨sv_249, sv_250, sv_251, sv_252⟩ := u_247
              obtain ⟨rfl, pf_253, pf_254, pf_255, pf_256, pf_257⟩ := hv_248
              have pf_253 : LSR sv_121 sv_250 sv_251 sv_252 (Mv 5) b sv_116 := pf_253
              obtain ⟨pn_258, pf_259, pf_260⟩ := id pf_253
              have ar_pf_253 := LSR.ar pf_253
              have ar_pf_260 := Cd.ar pf_260
              have pf_254 : (sv_252 (Mv 5).toNatClampNeg).toInt + (sv_250 : Int32).toInt = (sv_144 (Mv 5).toNatClampNeg).toInt + (sv_142 : Int32).toInt ∧ 0 ≤ (sv_250 : Int32).toInt ∧ (sv_250 : Int32).toInt ≤ (sv_142 : Int32).toInt := pf_254
              have pf_255 : Agr sv_143 sv_251 (400 * ((Mv 5) : Int32).toInt + (sv_144 (Mv 5).toNatClampNeg).toInt) := pf_255
              have pf_256 : LdE sv_121 sv_250 r_241 := pf_256
              have pf_257 : InK sv_121 sv_142 sv_250 := pf_257
              refine W.eq (g2 := F0 m 89 ls []) rfl ?_
              have hP : va_P D classes [((Ma 1), .inl (tc 2, 400, .inl (Mf 1))), ((Ma 0), .inr (12, [.ref (Ma 1), .int (Mv 0), .int (Mv 1), .ref (Ma 2), .ref (Ma 3), .ref (Ma 4), .ref (Ma 5), .ref (Ma 6), .int sv_235, .int sv_114, .int sv_115, .int (Mv 5), .int sv_116, .int sv_249, .int (Mv 8), .ref (Ma 7), .int sv_250, .ref (Ma 8), .int (Mv 10), .ref (Ma 9), .ref (Ma 10), .int (Mv 11), .int (Mv 12), .int (Mv 13), .ref (Ma 11), .int (Mv 14), .ref (Ma 12), .ref (Ma 13), .ref (Ma 14), .ref (Ma 15), .ref (Ma 16), .long (Mj 0), .ref (Ma 17), .ref (Ma 18), .ref (Ma 19), .ref (Ma 20)])), ((Ma 2), .inl (tc 0, 2400, .inl sv_251)), ((Ma 3), .inl (tc 0, 7, .inl sv_252)), ((Ma 7), .inl (tc 0, 400, .inl sv_121))] H := hP
              have hD : va_D A [((Ma 1), .inl (tc 2, 400, .inl (Mf 1))), ((Ma 0), .inr (12, [.ref (Ma 1), .int (Mv 0), .int (Mv 1), .ref (Ma 2), .ref (Ma 3), .ref (Ma 4), .ref (Ma 5), .ref (Ma 6), .int sv_235, .int sv_114, .int sv_115, .int (Mv 5), .int sv_116, .int sv_249, .int (Mv 8), .ref (Ma 7), .int sv_250, .ref (Ma 8), .int (Mv 10), .ref (Ma 9), .ref (Ma 10), .int (Mv 11), .int (Mv 12), .int (Mv 13), .ref (Ma 11), .int (Mv 14), .ref (Ma 12), .ref (Ma 13), .ref (Ma 14), .ref (Ma 15), .ref (Ma 16), .long (Mj 0), .ref (Ma 17), .ref (Ma 18), .ref (Ma 19), .ref (Ma 20)])), ((Ma 2), .inl (tc 0, 2400, .inl sv_251)), ((Ma 3), .inl (tc 0, 7, .inl sv_252)), ((Ma 7), .inl (tc 0, 400, .inl sv_121))] := hD
              refine lv_aload_n hx hb dX12_tested_89 rfl (lv_at hl 2 rfl) ?_
              refine gf_X12_29 hx hb hts hown hK hP 1 rfl rfl dX12_tested_90 ?_
              refine lv_aload_n hx hb dX12_tested_93 rfl (lv_at hl 2 rfl) ?_
              refine gf_X12_154 hx hb hts hown hK hP 1 rfl rfl dX12_tested_94 ?_
              refine lv_iload_n hx hb dX12_tested_97 rfl (lv_at hl 0 rfl) ?_
              have hi_261 : vp_in sv_250 400 := by
                have z_1 : ¬ (vy_20 : Int32).toInt = (0 : Int32).toInt := fun z => c_32 (Int32.toInt_inj.mp z)
                have z_2 : ¬ (r_125 : Int32).toInt = (0 : Int32).toInt := fun z => c_129 (Int32.toInt_inj.mp z)
                have z_3 : ¬ (r_160 : Int32).toInt = (0 : Int32).toInt := fun z => c_164 (Int32.toInt_inj.mp z)
                have z_4 : ¬ (r_176 : Int32).toInt = (0 : Int32).toInt := fun z => c_182 (Int32.toInt_inj.mp z)
                have y_0 : (0 : Int32).toInt = 0 := by decide
                refine vp_in_iff.mpr ⟨?_, ?_⟩ <;> omega
              refine st_int hx hb hK hP hD hS 4 0 rfl rfl hi_261 dX12_tested_98 (fun g_262 H locs eg_262 hP hD hS => ?_)
              have hP : va_P D classes [((Ma 1), .inl (tc 2, 400, .inl (Mf 1))), ((Ma 0), .inr (12, [.ref (Ma 1), .int (Mv 0), .int (Mv 1), .ref (Ma 2), .ref (Ma 3), .ref (Ma 4), .ref (Ma 5), .ref (Ma 6), .int sv_235, .int sv_114, .int sv_115, .int (Mv 5), .int sv_116, .int sv_249, .int (Mv 8), .ref (Ma 7), .int sv_250, .ref (Ma 8), .int (Mv 10), .ref (Ma 9), .ref (Ma 10), .int (Mv 11), .int (Mv 12), .int (Mv 13), .ref (Ma 11), .int (Mv 14), .ref (Ma 12), .ref (Ma 13), .ref (Ma 14), .ref (Ma 15), .ref (Ma 16), .long (Mj 0), .ref (Ma 17), .ref (Ma 18), .ref (Ma 19), .ref (Ma 20)])), ((Ma 2), .inl (tc 0, 2400, .inl sv_251)), ((Ma 3), .inl (tc 0, 7, .inl sv_252)), ((Ma 7), .inl (tc 0, 400, .inl g_262))] H := hP
              have hD : va_D A [((Ma 1), .inl (tc 2, 400, .inl (Mf 1))), ((Ma 0), .inr (12, [.ref (Ma 1), .int (Mv 0), .int (Mv 1), .ref (Ma 2), .ref (Ma 3), .ref (Ma 4), .ref (Ma 5), .ref (Ma 6), .int sv_235, .int sv_114, .int sv_115, .int (Mv 5), .int sv_116, .int sv_249, .int (Mv 8), .ref (Ma 7), .int sv_250, .ref (Ma 8), .int (Mv 10), .ref (Ma 9), .ref (Ma 10), .int (Mv 11), .int (Mv 12), .int (Mv 13), .ref (Ma 11), .int (Mv 14), .ref (Ma 12), .ref (Ma 13), .ref (Ma 14), .ref (Ma 15), .ref (Ma 16), .long (Mj 0), .ref (Ma 17), .ref (Ma 18), .ref (Ma 19), .ref (Ma 20)])), ((Ma 2), .inl (tc 0, 2400, .inl sv_251)), ((Ma 3), .inl (tc 0, 7, .inl sv_252)), ((Ma 7), .inl (tc 0, 400, .inl g_262))] := hD
              refine lv_aload_n hx hb dX12_tested_99 rfl (lv_at hl 2 rfl) ?_
              refine lv_dup hx hb dX12_tested_100 rfl ?_
              refine gf_X12_154 hx hb hts hown hK hP 1 rfl rfl dX12_tested_101 ?_
              refine lv_iconst (v := 1) hx hb dX12_tested_104 (by decide) ?_
              refine lv_iadd hx hb dX12_tested_105 ?_
              refine lv_topi (fun x_263 ex_263 => ?_)
              refine pf_X12_154 hx hb hts hown hK hP hD hS 1 rfl (Nat.le_of_ble_eq_true rfl) rfl rfl dX12_tested_106 (fun H locs hP hD hS => ?_)
              have hP : va_P D classes [((Ma 1), .inl (tc 2, 400, .inl (Mf 1))), ((Ma 0), .inr (12, [.ref (Ma 1), .int (Mv 0), .int (Mv 1), .ref (Ma 2), .ref (Ma 3), .ref (Ma 4), .ref (Ma 5), .ref (Ma 6), .int sv_235, .int sv_114, .int sv_115, .int (Mv 5), .int sv_116, .int sv_249, .int (Mv 8), .ref (Ma 7), .int x_263, .ref (Ma 8), .int (Mv 10), .ref (Ma 9), .ref (Ma 10), .int (Mv 11), .int (Mv 12), .int (Mv 13), .ref (Ma 11), .int (Mv 14), .ref (Ma 12), .ref (Ma 13), .ref (Ma 14), .ref (Ma 15), .ref (Ma 16), .long (Mj 0), .ref (Ma 17), .ref (Ma 18), .ref (Ma 19), .ref (Ma 20)])), ((Ma 2), .inl (tc 0, 2400, .inl sv_251)), ((Ma 3), .inl (tc 0, 7, .inl sv_252)), ((Ma 7), .inl (tc 0, 400, .inl g_262))] H := hP
              have hD : va_D A [((Ma 1), .inl (tc 2, 400, .inl (Mf 1))), ((Ma 0), .inr (12, [.ref (Ma 1), .int (Mv 0), .int (Mv 1), .ref (Ma 2), .ref (Ma 3), .ref (Ma 4), .ref (Ma 5), .ref (Ma 6), .int sv_235, .int sv_114, .int sv_115, .int (Mv 5), .int sv_116, .int sv_249, .int (Mv 8), .ref (Ma 7), .int x_263, .ref (Ma 8), .int (Mv 10), .ref (Ma 9), .ref (Ma 10), .int (Mv 11), .int (Mv 12), .int (Mv 13), .ref (Ma 11), .int (Mv 14), .ref (Ma 12), .ref (Ma 13), .ref (Ma 14), .ref (Ma 15), .ref (Ma 16), .long (Mj 0), .ref (Ma 17), .ref (Ma 18), .ref (Ma 19), .ref (Ma 20)])), ((Ma 2), .inl (tc 0, 2400, .inl sv_251)), ((Ma 3), .inl (tc 0, 7, .inl sv_252)), ((Ma 7), .inl (tc 0, 400, .inl g_262))] := hD
              refine lv_goto (tgt := 12) hx hb dX12_tested_109 (by decide) ?_
              have hb_264 : 2 * (401 - (sv_235 : Int32).toInt) + (1 : Int32).toInt < 2 * (401 - (vy_11 : Int32).toInt) + (vy_20 : Int32).toInt ∧ 1 ≤ 2 * (401 - (vy_11 : Int32).toInt) + (vy_20 : Int32).toInt := by
                have z_1 : ¬ (vy_20 : Int32).toInt = (0 : Int32).toInt := fun z => c_32 (Int32.toInt_inj.mp z)
                have z_2 : ¬ (r_125 : Int32).toInt = (0 : Int32).toInt := fun z => c_129 (Int32.toInt_inj.mp z)
                have z_3 : ¬ (r_160 : Int32).toInt = (0 : Int32).toInt := fun z => c_164 (Int32.toInt_inj.mp z)
                have z_4 : ¬ (r_176 : Int32).toInt = (0 : Int32).toInt := fun z => c_182 (Int32.toInt_inj.mp z)
                have y_0 : (0 : Int32).toInt = 0 := by decide
                have y_1 : (1 : Int32).toInt = 1 := by decide
                refine ⟨?_, ?_⟩ <;> omega
              have ha_265 : 0 ≤ (sv_235 : Int32).toInt ∧ (sv_235 : Int32).toInt ≤ ((Mv 0) : Int32).toInt ∧ ((Mv 0) : Int32).toInt ≤ 400 := by
                have z_1 : ¬ (vy_20 : Int32).toInt = (0 : Int32).toInt := fun z => c_32 (Int32.toInt_inj.mp z)
                have z_2 : ¬ (r_125 : Int32).toInt = (0 : Int32).toInt := fun z => c_129 (Int32.toInt_inj.mp z)
                have z_3 : ¬ (r_160 : Int32).toInt = (0 : Int32).toInt := fun z => c_164 (Int32.toInt_inj.mp z)
                have z_4 : ¬ (r_176 : Int32).toInt = (0 : Int32).toInt := fun z => c_182 (Int32.toInt_inj.mp z)
                have y_0 : (0 : Int32).toInt = 0 := by decide
                refine ⟨?_, ?_, ?_⟩ <;> omega
              have ha_266 : (Mv 2).toInt ≤ (sv_235 : Int32).toInt := by
                have z_1 : ¬ (vy_20 : Int32).toInt = (0 : Int32).toInt := fun z => c_32 (Int32.toInt_inj.mp z)
                have z_2 : ¬ (r_125 : Int32).toInt = (0 : Int32).toInt := fun z => c_129 (Int32.toInt_inj.mp z)
                have z_3 : ¬ (r_160 : Int32).toInt = (0 : Int32).toInt := fun z => c_164 (Int32.toInt_inj.mp z)
                have z_4 : ¬ (r_176 : Int32).toInt = (0 : Int32).toInt := fun z => c_182 (Int32.toInt_inj.mp z)
                have y_0 : (0 : Int32).toInt = 0 := by decide
                omega
              have ha_267 : 0 ≤ (1 : Int32).toInt ∧ (1 : Int32).toInt ≤ 1 := by
                have z_1 : ¬ (vy_20 : Int32).toInt = (0 : Int32).toInt := fun z => c_32 (Int32.toInt_inj.mp z)
                have z_2 : ¬ (r_125 : Int32).toInt = (0 : Int32).toInt := fun z => c_129 (Int32.toInt_inj.mp z)
                have z_3 : ¬ (r_160 : Int32).toInt = (0 : Int32).toInt := fun z => c_164 (Int32.toInt_inj.mp z)
                have z_4 : ¬ (r_176 : Int32).toInt = (0 : Int32).toInt := fun z => c_182 (Int32.toInt_inj.mp z)
                have y_0 : (0 : Int32).toInt = 0 := by decide
                have y_1 : (1 : Int32).toInt = 1 := by decide
                refine ⟨?_, ?_⟩ <;> omega
              have ha_268 : (Mv 6).toInt ≤ (sv_116 : Int32).toInt ∧ (sv_116 : Int32).toInt ≤ 60 := by
                have z_1 : ¬ (vy_20 : Int32).toInt = (0 : Int32).toInt := fun z => c_32 (Int32.toInt_inj.mp z)
                have z_2 : ¬ (r_125 : Int32).toInt = (0 : Int32).toInt := fun z => c_129 (Int32.toInt_inj.mp z)
                have z_3 : ¬ (r_160 : Int32).toInt = (0 : Int32).toInt := fun z => c_164 (Int32.toInt_inj.mp z)
                have z_4 : ¬ (r_176 : Int32).toInt = (0 : Int32).toInt := fun z => c_182 (Int32.toInt_inj.mp z)
                have y_0 : (0 : Int32).toInt = 0 := by decide
                refine ⟨?_, ?_⟩ <;> omega
              have hi_269 : (x_263 : Int32).toInt = (sv_250 : Int32).toInt + 1 := by
                have z_1 : ¬ (vy_20 : Int32).toInt = (0 : Int32).toInt := fun z => c_32 (Int32.toInt_inj.mp z)
                have z_2 : ¬ (r_125 : Int32).toInt = (0 : Int32).toInt := fun z => c_129 (Int32.toInt_inj.mp z)
                have z_3 : ¬ (r_160 : Int32).toInt = (0 : Int32).toInt := fun z => c_164 (Int32.toInt_inj.mp z)
                have z_4 : ¬ (r_176 : Int32).toInt = (0 : Int32).toInt := fun z => c_182 (Int32.toInt_inj.mp z)
                have y_0 : (0 : Int32).toInt = 0 := by decide
                have y_1 : (1 : Int32).toInt = 1 := by decide
                have t_x_263 : x_263.toInt = (sv_250 : Int32).toInt + (1 : Int32).toInt := by rw [ex_263]; exact add_toInt (by omega) (by omega)
                omega
              have hr_270 : (sv_250 : Int32).toInt < 400 := by
                have z_1 : ¬ (vy_20 : Int32).toInt = (0 : Int32).toInt := fun z => c_32 (Int32.toInt_inj.mp z)
                have z_2 : ¬ (r_125 : Int32).toInt = (0 : Int32).toInt := fun z => c_129 (Int32.toInt_inj.mp z)
                have z_3 : ¬ (r_160 : Int32).toInt = (0 : Int32).toInt := fun z => c_164 (Int32.toInt_inj.mp z)
                have z_4 : ¬ (r_176 : Int32).toInt = (0 : Int32).toInt := fun z => c_182 (Int32.toInt_inj.mp z)
                have y_0 : (0 : Int32).toInt = 0 := by decide
                omega
              have hr_271 : (12 : Int32).toInt = 12 ∨ (12 : Int32).toInt = 13 := by
                have z_1 : ¬ (vy_20 : Int32).toInt = (0 : Int32).toInt := fun z => c_32 (Int32.toInt_inj.mp z)
                have z_2 : ¬ (r_125 : Int32).toInt = (0 : Int32).toInt := fun z => c_129 (Int32.toInt_inj.mp z)
                have z_3 : ¬ (r_160 : Int32).toInt = (0 : Int32).toInt := fun z => c_164 (Int32.toInt_inj.mp z)
                have z_4 : ¬ (r_176 : Int32).toInt = (0 : Int32).toInt := fun z => c_182 (Int32.toInt_inj.mp z)
                have y_0 : (0 : Int32).toInt = 0 := by decide
                have y_12 : (12 : Int32).toInt = 12 := by decide
                omega
              have ha_272 : (sv_252 (Mv 5).toNatClampNeg).toInt + (x_263 : Int32).toInt ≤ (sv_235 : Int32).toInt ∧ ((Mf 3) (Mv 5).toNatClampNeg).toInt ≤ (sv_252 (Mv 5).toNatClampNeg).toInt ∧ 0 ≤ (x_263 : Int32).toInt ∧ (x_263 : Int32).toInt ≤ 400 := by
                have z_1 : ¬ (vy_20 : Int32).toInt = (0 : Int32).toInt := fun z => c_32 (Int32.toInt_inj.mp z)
                have z_2 : ¬ (r_125 : Int32).toInt = (0 : Int32).toInt := fun z => c_129 (Int32.toInt_inj.mp z)
                have z_3 : ¬ (r_160 : Int32).toInt = (0 : Int32).toInt := fun z => c_164 (Int32.toInt_inj.mp z)
                have z_4 : ¬ (r_176 : Int32).toInt = (0 : Int32).toInt := fun z => c_182 (Int32.toInt_inj.mp z)
                have y_0 : (0 : Int32).toInt = 0 := by decide
                have y_1 : (1 : Int32).toInt = 1 := by decide
                have t_x_263 : x_263.toInt = (sv_250 : Int32).toInt + (1 : Int32).toInt := by rw [ex_263]; exact add_toInt (by omega) (by omega)
                refine ⟨?_, ?_, ?_, ?_⟩ <;> omega
              have hr_273 : (400 * ((Mv 5) : Int32).toInt + ((Mf 3) (Mv 5).toNatClampNeg).toInt) ≤ (400 * ((Mv 5) : Int32).toInt + ((Mf 3) (Mv 5).toNatClampNeg).toInt) := by
                have z_1 : ¬ (vy_20 : Int32).toInt = (0 : Int32).toInt := fun z => c_32 (Int32.toInt_inj.mp z)
                have z_2 : ¬ (r_125 : Int32).toInt = (0 : Int32).toInt := fun z => c_129 (Int32.toInt_inj.mp z)
                have z_3 : ¬ (r_160 : Int32).toInt = (0 : Int32).toInt := fun z => c_164 (Int32.toInt_inj.mp z)
                have z_4 : ¬ (r_176 : Int32).toInt = (0 : Int32).toInt := fun z => c_182 (Int32.toInt_inj.mp z)
                have y_0 : (0 : Int32).toInt = 0 := by decide
                omega
              have hr_274 : (400 * ((Mv 5) : Int32).toInt + ((Mf 3) (Mv 5).toNatClampNeg).toInt) ≤ (400 * ((Mv 5) : Int32).toInt + (vy_18 (Mv 5).toNatClampNeg).toInt) := by
                have z_1 : ¬ (vy_20 : Int32).toInt = (0 : Int32).toInt := fun z => c_32 (Int32.toInt_inj.mp z)
                have z_2 : ¬ (r_125 : Int32).toInt = (0 : Int32).toInt := fun z => c_129 (Int32.toInt_inj.mp z)
                have z_3 : ¬ (r_160 : Int32).toInt = (0 : Int32).toInt := fun z => c_164 (Int32.toInt_inj.mp z)
                have z_4 : ¬ (r_176 : Int32).toInt = (0 : Int32).toInt := fun z => c_182 (Int32.toInt_inj.mp z)
                have y_0 : (0 : Int32).toInt = 0 := by decide
                omega
              have hr_275 : (400 * ((Mv 5) : Int32).toInt + ((Mf 3) (Mv 5).toNatClampNeg).toInt) ≤ (400 * ((Mv 5) : Int32).toInt + (sv_120 (Mv 5).toNatClampNeg).toInt) := by
                have z_1 : ¬ (vy_20 : Int32).toInt = (0 : Int32).toInt := fun z => c_32 (Int32.toInt_inj.mp z)
                have z_2 : ¬ (r_125 : Int32).toInt = (0 : Int32).toInt := fun z => c_129 (Int32.toInt_inj.mp z)
                have z_3 : ¬ (r_160 : Int32).toInt = (0 : Int32).toInt := fun z => c_164 (Int32.toInt_inj.mp z)
                have z_4 : ¬ (r_176 : Int32).toInt = (0 : Int32).toInt := fun z => c_182 (Int32.toInt_inj.mp z)
                have y_0 : (0 : Int32).toInt = 0 := by decide
                omega
              have hr_276 : (400 * ((Mv 5) : Int32).toInt + ((Mf 3) (Mv 5).toNatClampNeg).toInt) ≤ (400 * ((Mv 5) : Int32).toInt + (sv_144 (Mv 5).toNatClampNeg).toInt) := by
                have z_1 : ¬ (vy_20 : Int32).toInt = (0 : Int32).toInt := fun z => c_32 (Int32.toInt_inj.mp z)
                have z_2 : ¬ (r_125 : Int32).toInt = (0 : Int32).toInt := fun z => c_129 (Int32.toInt_inj.mp z)
                have z_3 : ¬ (r_160 : Int32).toInt = (0 : Int32).toInt := fun z => c_164 (Int32.toInt_inj.mp z)
                have z_4 : ¬ (r_176 : Int32).toInt = (0 : Int32).toInt := fun z => c_182 (Int32.toInt_inj.mp z)
                have y_0 : (0 : Int32).toInt = 0 := by decide
                omega
              exact ih_22 sv_235 sv_114 sv_115 sv_116 sv_249 x_263 sv_251 sv_252 g_262 1 _ _ _ (by omega) ha_265 ha_266 ha_267 ha_268 ⟨fun _ => LSR.open2 pf_253 eg_262 hi_269 hr_270 hr_271, fun h => absurd h (by decide)⟩ ha_272 (Agr.trans (k' := (400 * ((Mv 5) : Int32).toInt + ((Mf 3) (Mv 5).toNatClampNeg).toInt)) (Agr.trans (k' := (400 * ((Mv 5) : Int32).toInt + ((Mf 3) (Mv 5).toNatClampNeg).toInt)) (Agr.trans (k' := (400 * ((Mv 5) : Int32).toInt + ((Mf 3) (Mv 5).toNatClampNeg).toInt)) (Agr.mono pf_30 hr_273) pf_124 ⟨Int.le_refl _, hr_274⟩) pf_146 ⟨Int.le_refl _, hr_275⟩) pf_255 ⟨Int.le_refl _, hr_276⟩) (hP.sub [1, 0, 2, 3, 4] rfl) (hD.sub [1, 0, 2, 3, 4] rfl rfl) hS (lv_sub hl [1, 2] rfl)
          · skip
            refine lv_aload_n hx hb dX12_tested_39 rfl (lv_at hl 1 rfl) ?_
            refine lv_ldc2 hx hb hown (hts _ k_1351) dX12_tested_40 ?_
            have ha_277 : 0 ≤ (sv_156 : Int32).toInt ∧ (sv_156 : Int32).toInt ≤ ((Mv 0) : Int32).toInt ∧ ((Mv 0) : Int32).toInt ≤ 400 := by
              have z_1 : ¬ (vy_20 : Int32).toInt = (0 : Int32).toInt := fun z => c_32 (Int32.toInt_inj.mp z)
              have z_2 : ¬ (r_125 : Int32).toInt = (0 : Int32).toInt := fun z => c_129 (Int32.toInt_inj.mp z)
              have z_3 := congrArg Int32.toInt c_164
              have y_0 : (0 : Int32).toInt = 0 := by decide
              refine ⟨?_, ?_, ?_⟩ <;> omega
            refine cV (a := (Ma 0)) (As := [.long 28530]) (rest := []) (wr := [((Ma 2), .inl (tc 0, 2400, .inl sv_143)), ((Ma 3), .inl (tc 0, 7, .inl sv_144)), ((Ma 7), .inl (tc 0, 400, .inl sv_121))]) ⟨hx, hb, hml, hown, hts⟩ hK hX hA (ct_X12_isWord l D tc sk Ma (fun k => ([(Mv 0), (Mv 1), sv_156, sv_114, sv_115, (Mv 5), sv_116, sv_141, (Mv 8), sv_142, (Mv 10), (Mv 11), (Mv 12), (Mv 13), (Mv 14)] : List (Int32)).getD k 0) Mf Mj 28530 ha_277) k_1220 k_1217 k_1219 k_29 k_106 pl_X12_isWord ⟨Nat.le_of_ble_eq_true rfl, Nat.le_of_ble_eq_true rfl⟩ rfl rfl (va_recv hK hP (ci := 12) (q0 := 3) rfl rfl) hP hD hS [3, 4] [0, 1, 2] rfl rfl rfl rfl rfl (by decide) rfl hl.1 rfl (Nat.le_of_ble_eq_true rfl) dX12_tested_43 ⟨Nat.le_of_ble_eq_true rfl, Nat.le_of_ble_eq_true rfl⟩ (fun v_278 u_279 H locs hv_280 hP hD hS => ?_)
            obtain ⟨sv_281, rfl⟩ : ∃ z, z = u_279 := ⟨_, rfl⟩
            obtain ⟨r_285, rfl, he_286, pf_282, pf_283, pf_284, hm_288⟩ := hv_280
            have he_286 : (r_285.toInt = 0 ∨ r_285.toInt = 1) := he_286
            have pf_282 : (sv_156 : Int32).toInt ≤ (sv_281 : Int32).toInt ∧ (sv_281 : Int32).toInt ≤ ((Mv 0) : Int32).toInt := pf_282
            have pf_283 : NSq (Mf 1) (Mv 0) sv_281 := pf_283
            have pf_284 : Stl (Mf 1) (Mv 0) sv_156 sv_281 := pf_284
            have ar_pf_284 := Stl.or pf_284 pf_158
            refine W.eq (g2 := F0 m 46 ls [.int r_285]) rfl ?_
            have hP : va_P D classes [((Ma 2), .inl (tc 0, 2400, .inl sv_143)), ((Ma 3), .inl (tc 0, 7, .inl sv_144)), ((Ma 7), .inl (tc 0, 400, .inl sv_121)), ((Ma 0), .inr (12, [.ref (Ma 1), .int (Mv 0), .int (Mv 1), .ref (Ma 2), .ref (Ma 3), .ref (Ma 4), .ref (Ma 5), .ref (Ma 6), .int sv_281, .int sv_114, .int sv_115, .int (Mv 5), .int sv_116, .int sv_141, .int (Mv 8), .ref (Ma 7), .int sv_142, .ref (Ma 8), .int (Mv 10), .ref (Ma 9), .ref (Ma 10), .int (Mv 11), .int (Mv 12), .int (Mv 13), .ref (Ma 11), .int (Mv 14), .ref (Ma 12), .ref (Ma 13), .ref (Ma 14), .ref (Ma 15), .ref (Ma 16), .long (Mj 0), .ref (Ma 17), .ref (Ma 18), .ref (Ma 19), .ref (Ma 20)])), ((Ma 1), .inl (tc 2, 400, .inl (Mf 1)))] H := hP
            have hD : va_D A [((Ma 2), .inl (tc 0, 2400, .inl sv_143)), ((Ma 3), .inl (tc 0, 7, .inl sv_144)), ((Ma 7), .inl (tc 0, 400, .inl sv_121)), ((Ma 0), .inr (12, [.ref (Ma 1), .int (Mv 0), .int (Mv 1), .ref (Ma 2), .ref (Ma 3), .ref (Ma 4), .ref (Ma 5), .ref (Ma 6), .int sv_281, .int sv_114, .int sv_115, .int (Mv 5), .int sv_116, .int sv_141, .int (Mv 8), .ref (Ma 7), .int sv_142, .ref (Ma 8), .int (Mv 10), .ref (Ma 9), .ref (Ma 10), .int (Mv 11), .int (Mv 12), .int (Mv 13), .ref (Ma 11), .int (Mv 14), .ref (Ma 12), .ref (Ma 13), .ref (Ma 14), .ref (Ma 15), .ref (Ma 16), .long (Mj 0), .ref (Ma 17), .ref (Ma 18), .ref (Ma 19), .ref (Ma 20)])), ((Ma 1), .inl (tc 2, 400, .inl (Mf 1)))] := hD
            refine lv_if_eq (tgt := 53) hx hb dX12_tested_46 (by decide) (fun c_289 => ?_) (fun c_289 => ?_)
            · skip
              refine lv_iconst (v := 0) hx hb dX12_tested_53 (by decide) ?_
              refine lv_istore_n (lv' := [(1, .int 0), (0, .ref (Ma 0))]) hx hb dX12_tested_54 rfl hl (by decide) rfl (fun ls hl => ?_)
              refine lv_iload_n hx hb dX12_tested_55 rfl (lv_at hl 0 rfl) ?_
              refine lv_if_eq (tgt := 12) hx hb dX12_tested_56 (by decide) (fun c_290 => ?_) (fun c_290 => absurd c_290 (by decide))
              have hb_291 : 2 * (401 - (sv_281 : Int32).toInt) + (0 : Int32).toInt < 2 * (401 - (vy_11 : Int32).toInt) + (vy_20 : Int32).toInt ∧ 1 ≤ 2 * (401 - (vy_11 : Int32).toInt) + (vy_20 : Int32).toInt := by
                have z_1 : ¬ (vy_20 : Int32).toInt = (0 : Int32).toInt := fun z => c_32 (Int32.toInt_inj.mp z)
                have z_2 : ¬ (r_125 : Int32).toInt = (0 : Int32).toInt := fun z => c_129 (Int32.toInt_inj.mp z)
                have z_3 := congrArg Int32.toInt c_164
                have z_4 := congrArg Int32.toInt c_289
                have y_0 : (0 : Int32).toInt = 0 := by decide
                refine ⟨?_, ?_⟩ <;> omega
              have ha_292 : 0 ≤ (sv_281 : Int32).toInt ∧ (sv_281 : Int32).toInt ≤ ((Mv 0) : Int32).toInt ∧ ((Mv 0) : Int32).toInt ≤ 400 := by
                have z_1 : ¬ (vy_20 : Int32).toInt = (0 : Int32).toInt := fun z => c_32 (Int32.toInt_inj.mp z)
                have z_2 : ¬ (r_125 : Int32).toInt = (0 : Int32).toInt := fun z => c_129 (Int32.toInt_inj.mp z)
                have z_3 := congrArg Int32.toInt c_164
                have z_4 := congrArg Int32.toInt c_289
                have y_0 : (0 : Int32).toInt = 0 := by decide
                refine ⟨?_, ?_, ?_⟩ <;> omega
              have ha_293 : (Mv 2).toInt ≤ (sv_281 : Int32).toInt := by
                have z_1 : ¬ (vy_20 : Int32).toInt = (0 : Int32).toInt := fun z => c_32 (Int32.toInt_inj.mp z)
                have z_2 : ¬ (r_125 : Int32).toInt = (0 : Int32).toInt := fun z => c_129 (Int32.toInt_inj.mp z)
                have z_3 := congrArg Int32.toInt c_164
                have z_4 := congrArg Int32.toInt c_289
                have y_0 : (0 : Int32).toInt = 0 := by decide
                omega
              have ha_294 : 0 ≤ (0 : Int32).toInt ∧ (0 : Int32).toInt ≤ 1 := by
                have z_1 : ¬ (vy_20 : Int32).toInt = (0 : Int32).toInt := fun z => c_32 (Int32.toInt_inj.mp z)
                have z_2 : ¬ (r_125 : Int32).toInt = (0 : Int32).toInt := fun z => c_129 (Int32.toInt_inj.mp z)
                have z_3 := congrArg Int32.toInt c_164
                have z_4 := congrArg Int32.toInt c_289
                have y_0 : (0 : Int32).toInt = 0 := by decide
                refine ⟨?_, ?_⟩ <;> omega
              have ha_295 : (Mv 6).toInt ≤ (sv_116 : Int32).toInt ∧ (sv_116 : Int32).toInt ≤ 60 := by
                have z_1 : ¬ (vy_20 : Int32).toInt = (0 : Int32).toInt := fun z => c_32 (Int32.toInt_inj.mp z)
                have z_2 : ¬ (r_125 : Int32).toInt = (0 : Int32).toInt := fun z => c_129 (Int32.toInt_inj.mp z)
                have z_3 := congrArg Int32.toInt c_164
                have z_4 := congrArg Int32.toInt c_289
                have y_0 : (0 : Int32).toInt = 0 := by decide
                refine ⟨?_, ?_⟩ <;> omega
              have ha_296 : (sv_144 (Mv 5).toNatClampNeg).toInt + (sv_142 : Int32).toInt ≤ (sv_281 : Int32).toInt ∧ ((Mf 3) (Mv 5).toNatClampNeg).toInt ≤ (sv_144 (Mv 5).toNatClampNeg).toInt ∧ 0 ≤ (sv_142 : Int32).toInt ∧ (sv_142 : Int32).toInt ≤ 400 := by
                have z_1 : ¬ (vy_20 : Int32).toInt = (0 : Int32).toInt := fun z => c_32 (Int32.toInt_inj.mp z)
                have z_2 : ¬ (r_125 : Int32).toInt = (0 : Int32).toInt := fun z => c_129 (Int32.toInt_inj.mp z)
                have z_3 := congrArg Int32.toInt c_164
                have z_4 := congrArg Int32.toInt c_289
                have y_0 : (0 : Int32).toInt = 0 := by decide
                refine ⟨?_, ?_, ?_, ?_⟩ <;> omega
              have hr_297 : (400 * ((Mv 5) : Int32).toInt + ((Mf 3) (Mv 5).toNatClampNeg).toInt) ≤ (400 * ((Mv 5) : Int32).toInt + ((Mf 3) (Mv 5).toNatClampNeg).toInt) := by
                have z_1 : ¬ (vy_20 : Int32).toInt = (0 : Int32).toInt := fun z => c_32 (Int32.toInt_inj.mp z)
                have z_2 : ¬ (r_125 : Int32).toInt = (0 : Int32).toInt := fun z => c_129 (Int32.toInt_inj.mp z)
                have z_3 := congrArg Int32.toInt c_164
                have z_4 := congrArg Int32.toInt c_289
                have y_0 : (0 : Int32).toInt = 0 := by decide
                omega
              have hr_298 : (400 * ((Mv 5) : Int32).toInt + ((Mf 3) (Mv 5).toNatClampNeg).toInt) ≤ (400 * ((Mv 5) : Int32).toInt + (vy_18 (Mv 5).toNatClampNeg).toInt) := by
                have z_1 : ¬ (vy_20 : Int32).toInt = (0 : Int32).toInt := fun z => c_32 (Int32.toInt_inj.mp z)
                have z_2 : ¬ (r_125 : Int32).toInt = (0 : Int32).toInt := fun z => c_129 (Int32.toInt_inj.mp z)
                have z_3 := congrArg Int32.toInt c_164
                have z_4 := congrArg Int32.toInt c_289
                have y_0 : (0 : Int32).toInt = 0 := by decide
                omega
              have hr_299 : (400 * ((Mv 5) : Int32).toInt + ((Mf 3) (Mv 5).toNatClampNeg).toInt) ≤ (400 * ((Mv 5) : Int32).toInt + (sv_120 (Mv 5).toNatClampNeg).toInt) := by
                have z_1 : ¬ (vy_20 : Int32).toInt = (0 : Int32).toInt := fun z => c_32 (Int32.toInt_inj.mp z)
                have z_2 : ¬ (r_125 : Int32).toInt = (0 : Int32).toInt := fun z => c_129 (Int32.toInt_inj.mp z)
                have z_3 := congrArg Int32.toInt c_164
                have z_4 := congrArg Int32.toInt c_289
                have y_0 : (0 : Int32).toInt = 0 := by decide
                omega
              exact ih_22 sv_281 sv_114 sv_115 sv_116 sv_141 sv_142 sv_143 sv_144 sv_121 0 _ _ _ (by omega) ha_292 ha_293 ha_294 ha_295 ⟨fun h => absurd h (by decide), fun _ => pf_147⟩ ha_296 (Agr.trans (k' := (400 * ((Mv 5) : Int32).toInt + ((Mf 3) (Mv 5).toNatClampNeg).toInt)) (Agr.trans (k' := (400 * ((Mv 5) : Int32).toInt + ((Mf 3) (Mv 5).toNatClampNeg).toInt)) (Agr.mono pf_30 hr_297) pf_124 ⟨Int.le_refl _, hr_298⟩) pf_146 ⟨Int.le_refl _, hr_299⟩) (hP.sub [3, 4, 0, 1, 2] rfl) (hD.sub [3, 4, 0, 1, 2] rfl rfl) hS (lv_sub hl [0, 1] rfl)
            · skip
              have hz_301 : (r_285 : Int32).toInt = 1 := by
                have z_1 : ¬ (vy_20 : Int32).toInt = (0 : Int32).toInt := fun z => c_32 (Int32.toInt_inj.mp z)
                have z_2 : ¬ (r_125 : Int32).toInt = (0 : Int32).toInt := fun z => c_129 (Int32.toInt_inj.mp z)
                have z_3 := congrArg Int32.toInt c_164
                have z_4 : ¬ (r_285 : Int32).toInt = (0 : Int32).toInt := fun z => c_289 (Int32.toInt_inj.mp z)
                have y_0 : (0 : Int32).toInt = 0 := by decide
                omega
              obtain pf_300 := hm_288 hz_301
              have pf_300 : Ltr (Mf 1) (Mv 0) sv_281 := pf_300
              have ar_pf_300 := pf_300.1
              refine lv_iconst (v := 1) hx hb dX12_tested_49 (by decide) ?_
              refine lv_goto (tgt := 54) hx hb dX12_tested_50 (by decide) ?_
              refine lv_istore_n (lv' := [(1, .int 1), (0, .ref (Ma 0))]) hx hb dX12_tested_54 rfl hl (by decide) rfl (fun ls hl => ?_)
              refine lv_iload_n hx hb dX12_tested_55 rfl (lv_at hl 0 rfl) ?_
              refine lv_if_eq (tgt := 12) hx hb dX12_tested_56 (by decide) (fun c_302 => absurd c_302 (by decide)) (fun c_302 => ?_)
              refine lv_aload_n hx hb dX12_tested_59 rfl (lv_at hl 1 rfl) ?_
              refine lv_ldc2 hx hb hown (hts _ k_1350) dX12_tested_60 ?_
              have ha_303 : 0 ≤ (sv_281 : Int32).toInt ∧ (sv_281 : Int32).toInt ≤ ((Mv 0) : Int32).toInt ∧ ((Mv 0) : Int32).toInt ≤ 400 := by
                have z_1 : ¬ (vy_20 : Int32).toInt = (0 : Int32).toInt := fun z => c_32 (Int32.toInt_inj.mp z)
                have z_2 : ¬ (r_125 : Int32).toInt = (0 : Int32).toInt := fun z => c_129 (Int32.toInt_inj.mp z)
                have z_3 := congrArg Int32.toInt c_164
                have z_4 : ¬ (r_285 : Int32).toInt = (0 : Int32).toInt := fun z => c_289 (Int32.toInt_inj.mp z)
                have y_0 : (0 : Int32).toInt = 0 := by decide
                refine ⟨?_, ?_, ?_⟩ <;> omega
              refine cV (a := (Ma 0)) (As := [.long 6385252]) (rest := []) (wr := [((Ma 2), .inl (tc 0, 2400, .inl sv_143)), ((Ma 3), .inl (tc 0, 7, .inl sv_144)), ((Ma 7), .inl (tc 0, 400, .inl sv_121))]) ⟨hx, hb, hml, hown, hts⟩ hK hX hA (ct_X12_isWord l D tc sk Ma (fun k => ([(Mv 0), (Mv 1), sv_281, sv_114, sv_115, (Mv 5), sv_116, sv_141, (Mv 8), sv_142, (Mv 10), (Mv 11), (Mv 12), (Mv 13), (Mv 14)] : List (Int32)).getD k 0) Mf Mj 6385252 ha_303) k_1220 k_1217 k_1219 k_29 k_106 pl_X12_isWord ⟨Nat.le_of_ble_eq_true rfl, Nat.le_of_ble_eq_true rfl⟩ rfl rfl (va_recv hK hP (ci := 12) (q0 := 3) rfl rfl) hP hD hS [3, 4] [0, 1, 2] rfl rfl rfl rfl rfl (by decide) rfl hl.1 rfl (Nat.le_of_ble_eq_true rfl) dX12_tested_63 ⟨Nat.le_of_ble_eq_true rfl, Nat.le_of_ble_eq_true rfl⟩ (fun v_304 u_305 H locs hv_306 hP hD hS => ?_)
              obtain ⟨sv_307, rfl⟩ : ∃ z, z = u_305 := ⟨_, rfl⟩
              obtain ⟨r_311, rfl, he_312, pf_308, pf_309, pf_310, hm_314⟩ := hv_306
              have he_312 : (r_311.toInt = 0 ∨ r_311.toInt = 1) := he_312
              have pf_308 : (sv_281 : Int32).toInt ≤ (sv_307 : Int32).toInt ∧ (sv_307 : Int32).toInt ≤ ((Mv 0) : Int32).toInt := pf_308
              have pf_309 : NSq (Mf 1) (Mv 0) sv_307 := pf_309
              have pf_310 : Stl (Mf 1) (Mv 0) sv_281 sv_307 := pf_310
              have pf_315 := Stl.ltr pf_310 pf_300
              have ar_pf_315 := pf_315.2
              have pf_316 : Ltr (Mf 1) (Mv 0) sv_307 := pf_315.1
              have ar_pf_310 := Stl.or pf_310 pf_283
              refine W.eq (g2 := F0 m 66 ls [.int r_311]) rfl ?_
              have hP : va_P D classes [((Ma 2), .inl (tc 0, 2400, .inl sv_143)), ((Ma 3), .inl (tc 0, 7, .inl sv_144)), ((Ma 7), .inl (tc 0, 400, .inl sv_121)), ((Ma 0), .inr (12, [.ref (Ma 1), .int (Mv 0), .int (Mv 1), .ref (Ma 2), .ref (Ma 3), .ref (Ma 4), .ref (Ma 5), .ref (Ma 6), .int sv_307, .int sv_114, .int sv_115, .int (Mv 5), .int sv_116, .int sv_141, .int (Mv 8), .ref (Ma 7), .int sv_142, .ref (Ma 8), .int (Mv 10), .ref (Ma 9), .ref (Ma 10), .int (Mv 11), .int (Mv 12), .int (Mv 13), .ref (Ma 11), .int (Mv 14), .ref (Ma 12), .ref (Ma 13), .ref (Ma 14), .ref (Ma 15), .ref (Ma 16), .long (Mj 0), .ref (Ma 17), .ref (Ma 18), .ref (Ma 19), .ref (Ma 20)])), ((Ma 1), .inl (tc 2, 400, .inl (Mf 1)))] H := hP
              have hD : va_D A [((Ma 2), .inl (tc 0, 2400, .inl sv_143)), ((Ma 3), .inl (tc 0, 7, .inl sv_144)), ((Ma 7), .inl (tc 0, 400, .inl sv_121)), ((Ma 0), .inr (12, [.ref (Ma 1), .int (Mv 0), .int (Mv 1), .ref (Ma 2), .ref (Ma 3), .ref (Ma 4), .ref (Ma 5), .ref (Ma 6), .int sv_307, .int sv_114, .int sv_115, .int (Mv 5), .int sv_116, .int sv_141, .int (Mv 8), .ref (Ma 7), .int sv_142, .ref (Ma 8), .int (Mv 10), .ref (Ma 9), .ref (Ma 10), .int (Mv 11), .int (Mv 12), .int (Mv 13), .ref (Ma 11), .int (Mv 14), .ref (Ma 12), .ref (Ma 13), .ref (Ma 14), .ref (Ma 15), .ref (Ma 16), .long (Mj 0), .ref (Ma 17), .ref (Ma 18), .ref (Ma 19), .ref (Ma 20)])), ((Ma 1), .inl (tc 2, 400, .inl (Mf 1)))] := hD
              refine lv_if_eq (tgt := 74) hx hb dX12_tested_66 (by decide) (fun c_317 => ?_) (fun c_317 => ?_)
              · skip
                refine lv_bipush (v := 13) hx hb dX12_tested_74 (by decide) ?_
                refine lv_istore_n (lv' := [(2, .int 13), (1, .int 1), (0, .ref (Ma 0))]) hx hb dX12_tested_76 rfl hl (by decide) rfl (fun ls hl => ?_)
                refine lv_aload_n hx hb dX12_tested_77 rfl (lv_at hl 2 rfl) ?_
                have ha_318 : 0 ≤ (sv_307 : Int32).toInt ∧ (sv_307 : Int32).toInt ≤ ((Mv 0) : Int32).toInt ∧ ((Mv 0) : Int32).toInt ≤ 400 := by
                  have z_1 : ¬ (vy_20 : Int32).toInt = (0 : Int32).toInt := fun z => c_32 (Int32.toInt_inj.mp z)
                  have z_2 : ¬ (r_125 : Int32).toInt = (0 : Int32).toInt := fun z => c_129 (Int32.toInt_inj.mp z)
                  have z_3 := congrArg Int32.toInt c_164
                  have z_4 : ¬ (r_285 : Int32).toInt = (0 : Int32).toInt := fun z => c_289 (Int32.toInt_inj.mp z)
                  have z_5 := congrArg Int32.toInt c_317
                  have y_0 : (0 : Int32).toInt = 0 := by decide
                  refine ⟨?_, ?_, ?_⟩ <;> omega
                refine cV (a := (Ma 0)) (As := []) (rest := []) (wr := [((Ma 2), .inl (tc 0, 2400, .inl sv_143)), ((Ma 3), .inl (tc 0, 7, .inl sv_144)), ((Ma 7), .inl (tc 0, 400, .inl sv_121))]) ⟨hx, hb, hml, hown, hts⟩ hK hX hA (ct_X12_passWord l D tc sk Ma (fun k => ([(Mv 0), (Mv 1), sv_307, sv_114, sv_115, (Mv 5), sv_116, sv_141, (Mv 8), sv_142, (Mv 10), (Mv 11), (Mv 12), (Mv 13), (Mv 14)] : List (Int32)).getD k 0) Mf Mj ha_318) k_1244 k_1241 k_1243 k_34 k_106 pl_X12_passWord ⟨Nat.le_of_ble_eq_true rfl, Nat.le_of_ble_eq_true rfl⟩ rfl rfl (va_recv hK hP (ci := 12) (q0 := 3) rfl rfl) hP hD hS [3, 4] [0, 1, 2] rfl rfl rfl rfl rfl (by decide) rfl hl.1 rfl (Nat.le_of_ble_eq_true rfl) dX12_tested_78 ⟨Nat.le_of_ble_eq_true rfl, Nat.le_of_ble_eq_true rfl⟩ (fun v_319 u_320 H locs hv_321 hP hD hS => ?_)
                obtain ⟨sv_322, rfl⟩ : ∃ z, z = u_320 := ⟨_, rfl⟩
                obtain ⟨rfl, pf_323, pf_324⟩ := hv_321
                have pf_323 : (sv_307 : Int32).toInt ≤ (sv_322 : Int32).toInt ∧ (sv_322 : Int32).toInt ≤ ((Mv 0) : Int32).toInt := pf_323
                have pf_324 : Pw (Mf 1) (Mv 0) sv_307 sv_322 := pf_324
                have ar_pf_324 := pf_324 pf_316
                refine W.eq (g2 := F0 m 81 ls []) rfl ?_
                have hP : va_P D classes [((Ma 2), .inl (tc 0, 2400, .inl sv_143)), ((Ma 3), .inl (tc 0, 7, .inl sv_144)), ((Ma 7), .inl (tc 0, 400, .inl sv_121)), ((Ma 0), .inr (12, [.ref (Ma 1), .int (Mv 0), .int (Mv 1), .ref (Ma 2), .ref (Ma 3), .ref (Ma 4), .ref (Ma 5), .ref (Ma 6), .int sv_322, .int sv_114, .int sv_115, .int (Mv 5), .int sv_116, .int sv_141, .int (Mv 8), .ref (Ma 7), .int sv_142, .ref (Ma 8), .int (Mv 10), .ref (Ma 9), .ref (Ma 10), .int (Mv 11), .int (Mv 12), .int (Mv 13), .ref (Ma 11), .int (Mv 14), .ref (Ma 12), .ref (Ma 13), .ref (Ma 14), .ref (Ma 15), .ref (Ma 16), .long (Mj 0), .ref (Ma 17), .ref (Ma 18), .ref (Ma 19), .ref (Ma 20)])), ((Ma 1), .inl (tc 2, 400, .inl (Mf 1)))] H := hP
                have hD : va_D A [((Ma 2), .inl (tc 0, 2400, .inl sv_143)), ((Ma 3), .inl (tc 0, 7, .inl sv_144)), ((Ma 7), .inl (tc 0, 400, .inl sv_121)), ((Ma 0), .inr (12, [.ref (Ma 1), .int (Mv 0), .int (Mv 1), .ref (Ma 2), .ref (Ma 3), .ref (Ma 4), .ref (Ma 5), .ref (Ma 6), .int sv_322, .int sv_114, .int sv_115, .int (Mv 5), .int sv_116, .int sv_141, .int (Mv 8), .ref (Ma 7), .int sv_142, .ref (Ma 8), .int (Mv 10), .ref (Ma 9), .ref (Ma 10), .int (Mv 11), .int (Mv 12), .int (Mv 13), .ref (Ma 11), .int (Mv 14), .ref (Ma 12), .ref (Ma 13), .ref (Ma 14), .ref (Ma 15), .ref (Ma 16), .long (Mj 0), .ref (Ma 17), .ref (Ma 18), .ref (Ma 19), .ref (Ma 20)])), ((Ma 1), .inl (tc 2, 400, .inl (Mf 1)))] := hD
                refine lv_aload_n hx hb dX12_tested_81 rfl (lv_at hl 2 rfl) ?_
                refine lv_iload_n hx hb dX12_tested_82 rfl (lv_at hl 0 rfl) ?_
                refine cS (As := [.int 13]) (rest := [.ref (Ma 0)]) (wr := [((Ma 2), .inl (tc 0, 2400, .inl sv_143)), ((Ma 3), .inl (tc 0, 7, .inl sv_144)), ((Ma 7), .inl (tc 0, 400, .inl sv_121)), ((Ma 0), .inr (12, [.ref (Ma 1), .int (Mv 0), .int (Mv 1), .ref (Ma 2), .ref (Ma 3), .ref (Ma 4), .ref (Ma 5), .ref (Ma 6), .int sv_322, .int sv_114, .int sv_115, .int (Mv 5), .int sv_116, .int sv_141, .int (Mv 8), .ref (Ma 7), .int sv_142, .ref (Ma 8), .int (Mv 10), .ref (Ma 9), .ref (Ma 10), .int (Mv 11), .int (Mv 12), .int (Mv 13), .ref (Ma 11), .int (Mv 14), .ref (Ma 12), .ref (Ma 13), .ref (Ma 14), .ref (Ma 15), .ref (Ma 16), .long (Mj 0), .ref (Ma 17), .ref (Ma 18), .ref (Ma 19), .ref (Ma 20)])), ((Ma 1), .inl (tc 2, 400, .inl (Mf 1)))]) ⟨hx, hb, hml, hown, hts⟩ hK hX hA (ct_X12_strength l D tc sk 13) k_1345 k_1343 k_1344 k_106 pl_X12_strength ⟨Nat.le_of_ble_eq_true rfl, Nat.le_of_ble_eq_true rfl⟩ rfl rfl  hP hD hS [] [0, 1, 2, 3, 4] rfl rfl rfl rfl rfl (by decide) rfl hl.1 rfl (Nat.le_of_ble_eq_true rfl) dX12_tested_83 ⟨Nat.le_of_ble_eq_true rfl, Nat.le_of_ble_eq_true rfl⟩ (fun v_325 u_326 H locs hv_327 hP hD hS => ?_)
                obtain ⟨r_328, rfl, he_329⟩ := hv_327
                have he_329 : (((13 : Int32).toInt = 13 ∧ r_328.toInt = 1) ∨ ((13 : Int32).toInt = 12 ∧ r_328.toInt = 2) ∨ ((13 : Int32).toInt = 11 ∧ r_328.toInt = 3) ∨ ((13 : Int32).toInt ≠ 13 ∧ (13 : Int32).toInt ≠ 12 ∧ (13 : Int32).toInt ≠ 11 ∧ r_328.toInt = 0)) := he_329
                refine W.eq (g2 := F0 m 86 ls [.int r_328, .ref (Ma 0)]) rfl ?_
                have hP : va_P D classes [((Ma 2), .inl (tc 0, 2400, .inl sv_143)), ((Ma 3), .inl (tc 0, 7, .inl sv_144)), ((Ma 7), .inl (tc 0, 400, .inl sv_121)), ((Ma 0), .inr (12, [.ref (Ma 1), .int (Mv 0), .int (Mv 1), .ref (Ma 2), .ref (Ma 3), .ref (Ma 4), .ref (Ma 5), .ref (Ma 6), .int sv_322, .int sv_114, .int sv_115, .int (Mv 5), .int sv_116, .int sv_141, .int (Mv 8), .ref (Ma 7), .int sv_142, .ref (Ma 8), .int (Mv 10), .ref (Ma 9), .ref (Ma 10), .int (Mv 11), .int (Mv 12), .int (Mv 13), .ref (Ma 11), .int (Mv 14), .ref (Ma 12), .ref (Ma 13), .ref (Ma 14), .ref (Ma 15), .ref (Ma 16), .long (Mj 0), .ref (Ma 17), .ref (Ma 18), .ref (Ma 19), .ref (Ma 20)])), ((Ma 1), .inl (tc 2, 400, .inl (Mf 1)))] H := hP
                have hD : va_D A [((Ma 2), .inl (tc 0, 2400, .inl sv_143)), ((Ma 3), .inl (tc 0, 7, .inl sv_144)), ((Ma 7), .inl (tc 0, 400, .inl sv_121)), ((Ma 0), .inr (12, [.ref (Ma 1), .int (Mv 0), .int (Mv 1), .ref (Ma 2), .ref (Ma 3), .ref (Ma 4), .ref (Ma 5), .ref (Ma 6), .int sv_322, .int sv_114, .int sv_115, .int (Mv 5), .int sv_116, .int sv_141, .int (Mv 8), .ref (Ma 7), .int sv_142, .ref (Ma 8), .int (Mv 10), .ref (Ma 9), .ref (Ma 10), .int (Mv 11), .int (Mv 12), .int (Mv 13), .ref (Ma 11), .int (Mv 14), .ref (Ma 12), .ref (Ma 13), .ref (Ma 14), .ref (Ma 15), .ref (Ma 16), .long (Mj 0), .ref (Ma 17), .ref (Ma 18), .ref (Ma 19), .ref (Ma 20)])), ((Ma 1), .inl (tc 2, 400, .inl (Mf 1)))] := hD
                have yy_330 : (13 : Int32).toInt = 13 := by decide
                have ha_331 : 1 ≤ r_328.toInt ∧ r_328.toInt ≤ 3 := by
                  have z_1 : ¬ (vy_20 : Int32).toInt = (0 : Int32).toInt := fun z => c_32 (Int32.toInt_inj.mp z)
                  have z_2 : ¬ (r_125 : Int32).toInt = (0 : Int32).toInt := fun z => c_129 (Int32.toInt_inj.mp z)
                  have z_3 := congrArg Int32.toInt c_164
                  have z_4 : ¬ (r_285 : Int32).toInt = (0 : Int32).toInt := fun z => c_289 (Int32.toInt_inj.mp z)
                  have z_5 := congrArg Int32.toInt c_317
                  have y_0 : (0 : Int32).toInt = 0 := by decide
                  refine ⟨?_, ?_⟩ <;> omega
                have ha_332 : (sv_144 (Mv 5).toNatClampNeg).toInt + (sv_142 : Int32).toInt ≤ 400 := by
                  have z_1 : ¬ (vy_20 : Int32).toInt = (0 : Int32).toInt := fun z => c_32 (Int32.toInt_inj.mp z)
                  have z_2 : ¬ (r_125 : Int32).toInt = (0 : Int32).toInt := fun z => c_129 (Int32.toInt_inj.mp z)
                  have z_3 := congrArg Int32.toInt c_164
                  have z_4 : ¬ (r_285 : Int32).toInt = (0 : Int32).toInt := fun z => c_289 (Int32.toInt_inj.mp z)
                  have z_5 := congrArg Int32.toInt c_317
                  have y_0 : (0 : Int32).toInt = 0 := by decide
                  omega
                refine cV (a := (Ma 0)) (As := [.int r_328]) (rest := []) (wr := [((Ma 1), .inl (tc 2, 400, .inl (Mf 1)))]) ⟨hx, hb, hml, hown, hts⟩ hK hX hA (ct_X12_layDown l D tc sk Ma (fun k => ([(Mv 0), (Mv 1), sv_322, sv_114, sv_115, (Mv 5), sv_116, sv_141, (Mv 8), sv_142, (Mv 10), (Mv 11), (Mv 12), (Mv 13), (Mv 14)] : List (Int32)).getD k 0) (fun k => ([(fun _ => 0), (fun _ => 0), sv_143, sv_144, (fun _ => 0), (fun _ => 0), (fun _ => 0), sv_121] : List (Nat → Int32)).getD k (fun _ => 0)) Mj r_328 b pf_147 ha_331 ha_332) k_1342 k_1339 k_1341 k_54 k_106 pl_X12_layDown ⟨Nat.le_of_ble_eq_true rfl, Nat.le_of_ble_eq_true rfl⟩ rfl rfl (va_recv hK hP (ci := 12) (q0 := 3) rfl rfl) hP hD hS [3, 0, 1, 2] [4] rfl rfl rfl rfl rfl (by decide) rfl hl.1 rfl (Nat.le_of_ble_eq_true rfl) dX12_tested_86 ⟨Nat.le_of_ble_eq_true rfl, Nat.le_of_ble_eq_true rfl⟩ (fun v_333 u_334 H locs hv_335 hP hD hS => ?_)
                obtain ⟨sv_336, sv_337, sv_338, sv_339⟩ := u_334
                obtain ⟨rfl, pf_340, pf_341, pf_342, pf_343, pf_344⟩ := hv_335
                have pf_340 : LSR sv_121 sv_337 sv_338 sv_339 (Mv 5) b sv_116 := pf_340
                obtain ⟨pn_345, pf_346, pf_347⟩ := id pf_340
                have ar_pf_340 := LSR.ar pf_340
                have ar_pf_347 := Cd.ar pf_347
                have pf_341 : (sv_339 (Mv 5).toNatClampNeg).toInt + (sv_337 : Int32).toInt = (sv_144 (Mv 5).toNatClampNeg).toInt + (sv_142 : Int32).toInt ∧ 0 ≤ (sv_337 : Int32).toInt ∧ (sv_337 : Int32).toInt ≤ (sv_142 : Int32).toInt := pf_341
                have pf_342 : Agr sv_143 sv_338 (400 * ((Mv 5) : Int32).toInt + (sv_144 (Mv 5).toNatClampNeg).toInt) := pf_342
                have pf_343 : LdE sv_121 sv_337 r_328 := pf_343
                have pf_344 : InK sv_121 sv_142 sv_337 := pf_344
                refine W.eq (g2 := F0 m 89 ls []) rfl ?_
                have hP : va_P D classes [((Ma 1), .inl (tc 2, 400, .inl (Mf 1))), ((Ma 0), .inr (12, [.ref (Ma 1), .int (Mv 0), .int (Mv 1), .ref (Ma 2), .ref (Ma 3), .ref (Ma 4), .ref (Ma 5), .ref (Ma 6), .int sv_322, .int sv_114, .int sv_115, .int (Mv 5), .int sv_116, .int sv_336, .int (Mv 8), .ref (Ma 7), .int sv_337, .ref (Ma 8), .int (Mv 10), .ref (Ma 9), .ref (Ma 10), .int (Mv 11), .int (Mv 12), .int (Mv 13), .ref (Ma 11), .int (Mv 14), .ref (Ma 12), .ref (Ma 13), .ref (Ma 14), .ref (Ma 15), .ref (Ma 16), .long (Mj 0), .ref (Ma 17), .ref (Ma 18), .ref (Ma 19), .ref (Ma 20)])), ((Ma 2), .inl (tc 0, 2400, .inl sv_338)), ((Ma 3), .inl (tc 0, 7, .inl sv_339)), ((Ma 7), .inl (tc 0, 400, .inl sv_121))] H := hP
                have hD : va_D A [((Ma 1), .inl (tc 2, 400, .inl (Mf 1))), ((Ma 0), .inr (12, [.ref (Ma 1), .int (Mv 0), .int (Mv 1), .ref (Ma 2), .ref (Ma 3), .ref (Ma 4), .ref (Ma 5), .ref (Ma 6), .int sv_322, .int sv_114, .int sv_115, .int (Mv 5), .int sv_116, .int sv_336, .int (Mv 8), .ref (Ma 7), .int sv_337, .ref (Ma 8), .int (Mv 10), .ref (Ma 9), .ref (Ma 10), .int (Mv 11), .int (Mv 12), .int (Mv 13), .ref (Ma 11), .int (Mv 14), .ref (Ma 12), .ref (Ma 13), .ref (Ma 14), .ref (Ma 15), .ref (Ma 16), .long (Mj 0), .ref (Ma 17), .ref (Ma 18), .ref (Ma 19), .ref (Ma 20)])), ((Ma 2), .inl (tc 0, 2400, .inl sv_338)), ((Ma 3), .inl (tc 0, 7, .inl sv_339)), ((Ma 7), .inl (tc 0, 400, .inl sv_121))] := hD
                refine lv_aload_n hx hb dX12_tested_89 rfl (lv_at hl 2 rfl) ?_
                refine gf_X12_29 hx hb hts hown hK hP 1 rfl rfl dX12_tested_90 ?_
                refine lv_aload_n hx hb dX12_tested_93 rfl (lv_at hl 2 rfl) ?_
                refine gf_X12_154 hx hb hts hown hK hP 1 rfl rfl dX12_tested_94 ?_
                refine lv_iload_n hx hb dX12_tested_97 rfl (lv_at hl 0 rfl) ?_
                have hi_348 : vp_in sv_337 400 := by
                  have z_1 : ¬ (vy_20 : Int32).toInt = (0 : Int32).toInt := fun z => c_32 (Int32.toInt_inj.mp z)
                  have z_2 : ¬ (r_125 : Int32).toInt = (0 : Int32).toInt := fun z => c_129 (Int32.toInt_inj.mp z)
                  have z_3 := congrArg Int32.toInt c_164
                  have z_4 : ¬ (r_285 : Int32).toInt = (0 : Int32).toInt := fun z => c_289 (Int32.toInt_inj.mp z)
                  have z_5 := congrArg Int32.toInt c_317
                  have y_0 : (0 : Int32).toInt = 0 := by decide
                  refine vp_in_iff.mpr ⟨?_, ?_⟩ <;> omega
                refine st_int hx hb hK hP hD hS 4 0 rfl rfl hi_348 dX12_tested_98 (fun g_349 H locs eg_349 hP hD hS => ?_)
                have hP : va_P D classes [((Ma 1), .inl (tc 2, 400, .inl (Mf 1))), ((Ma 0), .inr (12, [.ref (Ma 1), .int (Mv 0), .int (Mv 1), .ref (Ma 2), .ref (Ma 3), .ref (Ma 4), .ref (Ma 5), .ref (Ma 6), .int sv_322, .int sv_114, .int sv_115, .int (Mv 5), .int sv_116, .int sv_336, .int (Mv 8), .ref (Ma 7), .int sv_337, .ref (Ma 8), .int (Mv 10), .ref (Ma 9), .ref (Ma 10), .int (Mv 11), .int (Mv 12), .int (Mv 13), .ref (Ma 11), .int (Mv 14), .ref (Ma 12), .ref (Ma 13), .ref (Ma 14), .ref (Ma 15), .ref (Ma 16), .long (Mj 0), .ref (Ma 17), .ref (Ma 18), .ref (Ma 19), .ref (Ma 20)])), ((Ma 2), .inl (tc 0, 2400, .inl sv_338)), ((Ma 3), .inl (tc 0, 7, .inl sv_339)), ((Ma 7), .inl (tc 0, 400, .inl g_349))] H := hP
                have hD : va_D A [((Ma 1), .inl (tc 2, 400, .inl (Mf 1))), ((Ma 0), .inr (12, [.ref (Ma 1), .int (Mv 0), .int (Mv 1), .ref (Ma 2), .ref (Ma 3), .ref (Ma 4), .ref (Ma 5), .ref (Ma 6), .int sv_322, .int sv_114, .int sv_115, .int (Mv 5), .int sv_116, .int sv_336, .int (Mv 8), .ref (Ma 7), .int sv_337, .ref (Ma 8), .int (Mv 10), .ref (Ma 9), .ref (Ma 10), .int (Mv 11), .int (Mv 12), .int (Mv 13), .ref (Ma 11), .int (Mv 14), .ref (Ma 12), .ref (Ma 13), .ref (Ma 14), .ref (Ma 15), .ref (Ma 16), .long (Mj 0), .ref (Ma 17), .ref (Ma 18), .ref (Ma 19), .ref (Ma 20)])), ((Ma 2), .inl (tc 0, 2400, .inl sv_338)), ((Ma 3), .inl (tc 0, 7, .inl sv_339)), ((Ma 7), .inl (tc 0, 400, .inl g_349))] := hD
                refine lv_aload_n hx hb dX12_tested_99 rfl (lv_at hl 2 rfl) ?_
                refine lv_dup hx hb dX12_tested_100 rfl ?_
                refine gf_X12_154 hx hb hts hown hK hP 1 rfl rfl dX12_tested_101 ?_
                refine lv_iconst (v := 1) hx hb dX12_tested_104 (by decide) ?_
                refine lv_iadd hx hb dX12_tested_105 ?_
                refine lv_topi (fun x_350 ex_350 => ?_)
                refine pf_X12_154 hx hb hts hown hK hP hD hS 1 rfl (Nat.le_of_ble_eq_true rfl) rfl rfl dX12_tested_106 (fun H locs hP hD hS => ?_)
                have hP : va_P D classes [((Ma 1), .inl (tc 2, 400, .inl (Mf 1))), ((Ma 0), .inr (12, [.ref (Ma 1), .int (Mv 0), .int (Mv 1), .ref (Ma 2), .ref (Ma 3), .ref (Ma 4), .ref (Ma 5), .ref (Ma 6), .int sv_322, .int sv_114, .int sv_115, .int (Mv 5), .int sv_116, .int sv_336, .int (Mv 8), .ref (Ma 7), .int x_350, .ref (Ma 8), .int (Mv 10), .ref (Ma 9), .ref (Ma 10), .int (Mv 11), .int (Mv 12), .int (Mv 13), .ref (Ma 11), .int (Mv 14), .ref (Ma 12), .ref (Ma 13), .ref (Ma 14), .ref (Ma 15), .ref (Ma 16), .long (Mj 0), .ref (Ma 17), .ref (Ma 18), .ref (Ma 19), .ref (Ma 20)])), ((Ma 2), .inl (tc 0, 2400, .inl sv_338)), ((Ma 3), .inl (tc 0, 7, .inl sv_339)), ((Ma 7), .inl (tc 0, 400, .inl g_349))] H := hP
                have hD : va_D A [((Ma 1), .inl (tc 2, 400, .inl (Mf 1))), ((Ma 0), .inr (12, [.ref (Ma 1), .int (Mv 0), .int (Mv 1), .ref (Ma 2), .ref (Ma 3), .ref (Ma 4), .ref (Ma 5), .ref (Ma 6), .int sv_322, .int sv_114, .int sv_115, .int (Mv 5), .int sv_116, .int sv_336, .int (Mv 8), .ref (Ma 7), .int x_350, .ref (Ma 8), .int (Mv 10), .ref (Ma 9), .ref (Ma 10), .int (Mv 11), .int (Mv 12), .int (Mv 13), .ref (Ma 11), .int (Mv 14), .ref (Ma 12), .ref (Ma 13), .ref (Ma 14), .ref (Ma 15), .ref (Ma 16), .long (Mj 0), .ref (Ma 17), .ref (Ma 18), .ref (Ma 19), .ref (Ma 20)])), ((Ma 2), .inl (tc 0, 2400, .inl sv_338)), ((Ma 3), .inl (tc 0, 7, .inl sv_339)), ((Ma 7), .inl (tc 0, 400, .inl g_349))] := hD
                refine lv_goto (tgt := 12) hx hb dX12_tested_109 (by decide) ?_
                have hb_351 : 2 * (401 - (sv_322 : Int32).toInt) + (1 : Int32).toInt < 2 * (401 - (vy_11 : Int32).toInt) + (vy_20 : Int32).toInt ∧ 1 ≤ 2 * (401 - (vy_11 : Int32).toInt) + (vy_20 : Int32).toInt := by
                  have z_1 : ¬ (vy_20 : Int32).toInt = (0 : Int32).toInt := fun z => c_32 (Int32.toInt_inj.mp z)
                  have z_2 : ¬ (r_125 : Int32).toInt = (0 : Int32).toInt := fun z => c_129 (Int32.toInt_inj.mp z)
                  have z_3 := congrArg Int32.toInt c_164
                  have z_4 : ¬ (r_285 : Int32).toInt = (0 : Int32).toInt := fun z => c_289 (Int32.toInt_inj.mp z)
                  have z_5 := congrArg Int32.toInt c_317
                  have y_0 : (0 : Int32).toInt = 0 := by decide
                  have y_1 : (1 : Int32).toInt = 1 := by decide
                  refine ⟨?_, ?_⟩ <;> omega
                have ha_352 : 0 ≤ (sv_322 : Int32).toInt ∧ (sv_322 : Int32).toInt ≤ ((Mv 0) : Int32).toInt ∧ ((Mv 0) : Int32).toInt ≤ 400 := by
                  have z_1 : ¬ (vy_20 : Int32).toInt = (0 : Int32).toInt := fun z => c_32 (Int32.toInt_inj.mp z)
                  have z_2 : ¬ (r_125 : Int32).toInt = (0 : Int32).toInt := fun z => c_129 (Int32.toInt_inj.mp z)
                  have z_3 := congrArg Int32.toInt c_164
                  have z_4 : ¬ (r_285 : Int32).toInt = (0 : Int32).toInt := fun z => c_289 (Int32.toInt_inj.mp z)
                  have z_5 := congrArg Int32.toInt c_317
                  have y_0 : (0 : Int32).toInt = 0 := by decide
                  refine ⟨?_, ?_, ?_⟩ <;> omega
                have ha_353 : (Mv 2).toInt ≤ (sv_322 : Int32).toInt := by
                  have z_1 : ¬ (vy_20 : Int32).toInt = (0 : Int32).toInt := fun z => c_32 (Int32.toInt_inj.mp z)
                  have z_2 : ¬ (r_125 : Int32).toInt = (0 : Int32).toInt := fun z => c_129 (Int32.toInt_inj.mp z)
                  have z_3 := congrArg Int32.toInt c_164
                  have z_4 : ¬ (r_285 : Int32).toInt = (0 : Int32).toInt := fun z => c_289 (Int32.toInt_inj.mp z)
                  have z_5 := congrArg Int32.toInt c_317
                  have y_0 : (0 : Int32).toInt = 0 := by decide
                  omega
                have ha_354 : 0 ≤ (1 : Int32).toInt ∧ (1 : Int32).toInt ≤ 1 := by
                  have z_1 : ¬ (vy_20 : Int32).toInt = (0 : Int32).toInt := fun z => c_32 (Int32.toInt_inj.mp z)
                  have z_2 : ¬ (r_125 : Int32).toInt = (0 : Int32).toInt := fun z => c_129 (Int32.toInt_inj.mp z)
                  have z_3 := congrArg Int32.toInt c_164
                  have z_4 : ¬ (r_285 : Int32).toInt = (0 : Int32).toInt := fun z => c_289 (Int32.toInt_inj.mp z)
                  have z_5 := congrArg Int32.toInt c_317
                  have y_0 : (0 : Int32).toInt = 0 := by decide
                  have y_1 : (1 : Int32).toInt = 1 := by decide
                  refine ⟨?_, ?_⟩ <;> omega
                have ha_355 : (Mv 6).toInt ≤ (sv_116 : Int32).toInt ∧ (sv_116 : Int32).toInt ≤ 60 := by
                  have z_1 : ¬ (vy_20 : Int32).toInt = (0 : Int32).toInt := fun z => c_32 (Int32.toInt_inj.mp z)
                  have z_2 : ¬ (r_125 : Int32).toInt = (0 : Int32).toInt := fun z => c_129 (Int32.toInt_inj.mp z)
                  have z_3 := congrArg Int32.toInt c_164
                  have z_4 : ¬ (r_285 : Int32).toInt = (0 : Int32).toInt := fun z => c_289 (Int32.toInt_inj.mp z)
                  have z_5 := congrArg Int32.toInt c_317
                  have y_0 : (0 : Int32).toInt = 0 := by decide
                  refine ⟨?_, ?_⟩ <;> omega
                have hi_356 : (x_350 : Int32).toInt = (sv_337 : Int32).toInt + 1 := by
                  have z_1 : ¬ (vy_20 : Int32).toInt = (0 : Int32).toInt := fun z => c_32 (Int32.toInt_inj.mp z)
                  have z_2 : ¬ (r_125 : Int32).toInt = (0 : Int32).toInt := fun z => c_129 (Int32.toInt_inj.mp z)
                  have z_3 := congrArg Int32.toInt c_164
                  have z_4 : ¬ (r_285 : Int32).toInt = (0 : Int32).toInt := fun z => c_289 (Int32.toInt_inj.mp z)
                  have z_5 := congrArg Int32.toInt c_317
                  have y_0 : (0 : Int32).toInt = 0 := by decide
                  have y_1 : (1 : Int32).toInt = 1 := by decide
                  have t_x_350 : x_350.toInt = (sv_337 : Int32).toInt + (1 : Int32).toInt := by rw [ex_350]; exact add_toInt (by omega) (by omega)
                  omega
                have hr_357 : (sv_337 : Int32).toInt < 400 := by
                  have z_1 : ¬ (vy_20 : Int32).toInt = (0 : Int32).toInt := fun z => c_32 (Int32.toInt_inj.mp z)
                  have z_2 : ¬ (r_125 : Int32).toInt = (0 : Int32).toInt := fun z => c_129 (Int32.toInt_inj.mp z)
                  have z_3 := congrArg Int32.toInt c_164
                  have z_4 : ¬ (r_285 : Int32).toInt = (0 : Int32).toInt := fun z => c_289 (Int32.toInt_inj.mp z)
                  have z_5 := congrArg Int32.toInt c_317
                  have y_0 : (0 : Int32).toInt = 0 := by decide
                  omega
                have hr_358 : (13 : Int32).toInt = 12 ∨ (13 : Int32).toInt = 13 := by
                  have z_1 : ¬ (vy_20 : Int32).toInt = (0 : Int32).toInt := fun z => c_32 (Int32.toInt_inj.mp z)
                  have z_2 : ¬ (r_125 : Int32).toInt = (0 : Int32).toInt := fun z => c_129 (Int32.toInt_inj.mp z)
                  have z_3 := congrArg Int32.toInt c_164
                  have z_4 : ¬ (r_285 : Int32).toInt = (0 : Int32).toInt := fun z => c_289 (Int32.toInt_inj.mp z)
                  have z_5 := congrArg Int32.toInt c_317
                  have y_0 : (0 : Int32).toInt = 0 := by decide
                  have y_13 : (13 : Int32).toInt = 13 := by decide
                  omega
                have ha_359 : (sv_339 (Mv 5).toNatClampNeg).toInt + (x_350 : Int32).toInt ≤ (sv_322 : Int32).toInt ∧ ((Mf 3) (Mv 5).toNatClampNeg).toInt ≤ (sv_339 (Mv 5).toNatClampNeg).toInt ∧ 0 ≤ (x_350 : Int32).toInt ∧ (x_350 : Int32).toInt ≤ 400 := by
                  have z_1 : ¬ (vy_20 : Int32).toInt = (0 : Int32).toInt := fun z => c_32 (Int32.toInt_inj.mp z)
                  have z_2 : ¬ (r_125 : Int32).toInt = (0 : Int32).toInt := fun z => c_129 (Int32.toInt_inj.mp z)
                  have z_3 := congrArg Int32.toInt c_164
                  have z_4 : ¬ (r_285 : Int32).toInt = (0 : Int32).toInt := fun z => c_289 (Int32.toInt_inj.mp z)
                  have z_5 := congrArg Int32.toInt c_317
                  have y_0 : (0 : Int32).toInt = 0 := by decide
                  have y_1 : (1 : Int32).toInt = 1 := by decide
                  have t_x_350 : x_350.toInt = (sv_337 : Int32).toInt + (1 : Int32).toInt := by rw [ex_350]; exact add_toInt (by omega) (by omega)
                  refine ⟨?_, ?_, ?_, ?_⟩ <;> omega
                have hr_360 : (400 * ((Mv 5) : Int32).toInt + ((Mf 3) (Mv 5).toNatClampNeg).toInt) ≤ (400 * ((Mv 5) : Int32).toInt + ((Mf 3) (Mv 5).toNatClampNeg).toInt) := by
                  have z_1 : ¬ (vy_20 : Int32).toInt = (0 : Int32).toInt := fun z => c_32 (Int32.toInt_inj.mp z)
                  have z_2 : ¬ (r_125 : Int32).toInt = (0 : Int32).toInt := fun z => c_129 (Int32.toInt_inj.mp z)
                  have z_3 := congrArg Int32.toInt c_164
                  have z_4 : ¬ (r_285 : Int32).toInt = (0 : Int32).toInt := fun z => c_289 (Int32.toInt_inj.mp z)
                  have z_5 := congrArg Int32.toInt c_317
                  have y_0 : (0 : Int32).toInt = 0 := by decide
                  omega
                have hr_361 : (400 * ((Mv 5) : Int32).toInt + ((Mf 3) (Mv 5).toNatClampNeg).toInt) ≤ (400 * ((Mv 5) : Int32).toInt + (vy_18 (Mv 5).toNatClampNeg).toInt) := by
                  have z_1 : ¬ (vy_20 : Int32).toInt = (0 : Int32).toInt := fun z => c_32 (Int32.toInt_inj.mp z)
                  have z_2 : ¬ (r_125 : Int32).toInt = (0 : Int32).toInt := fun z => c_129 (Int32.toInt_inj.mp z)
                  have z_3 := congrArg Int32.toInt c_164
                  have z_4 : ¬ (r_285 : Int32).toInt = (0 : Int32).toInt := fun z => c_289 (Int32.toInt_inj.mp z)
                  have z_5 := congrArg Int32.toInt c_317
                  have y_0 : (0 : Int32).toInt = 0 := by decide
                  omega
                have hr_362 : (400 * ((Mv 5) : Int32).toInt + ((Mf 3) (Mv 5).toNatClampNeg).toInt) ≤ (400 * ((Mv 5) : Int32).toInt + (sv_120 (Mv 5).toNatClampNeg).toInt) := by
                  have z_1 : ¬ (vy_20 : Int32).toInt = (0 : Int32).toInt := fun z => c_32 (Int32.toInt_inj.mp z)
                  have z_2 : ¬ (r_125 : Int32).toInt = (0 : Int32).toInt := fun z => c_129 (Int32.toInt_inj.mp z)
                  have z_3 := congrArg Int32.toInt c_164
                  have z_4 : ¬ (r_285 : Int32).toInt = (0 : Int32).toInt := fun z => c_289 (Int32.toInt_inj.mp z)
                  have z_5 := congrArg Int32.toInt c_317
                  have y_0 : (0 : Int32).toInt = 0 := by decide
                  omega
                have hr_363 : (400 * ((Mv 5) : Int32).toInt + ((Mf 3) (Mv 5).toNatClampNeg).toInt) ≤ (400 * ((Mv 5) : Int32).toInt + (sv_144 (Mv 5).toNatClampNeg).toInt) := by
                  have z_1 : ¬ (vy_20 : Int32).toInt = (0 : Int32).toInt := fun z => c_32 (Int32.toInt_inj.mp z)
                  have z_2 : ¬ (r_125 : Int32).toInt = (0 : Int32).toInt := fun z => c_129 (Int32.toInt_inj.mp z)
                  have z_3 := congrArg Int32.toInt c_164
                  have z_4 : ¬ (r_285 : Int32).toInt = (0 : Int32).toInt := fun z => c_289 (Int32.toInt_inj.mp z)
                  have z_5 := congrArg Int32.toInt c_317
                  have y_0 : (0 : Int32).toInt = 0 := by decide
                  omega
                exact ih_22 sv_322 sv_114 sv_115 sv_116 sv_336 x_350 sv_338 sv_339 g_349 1 _ _ _ (by omega) ha_352 ha_353 ha_354 ha_355 ⟨fun _ => LSR.open2 pf_340 eg_349 hi_356 hr_357 hr_358, fun h => absurd h (by decide)⟩ ha_359 (Agr.trans (k' := (400 * ((Mv 5) : Int32).toInt + ((Mf 3) (Mv 5).toNatClampNeg).toInt)) (Agr.trans (k' := (400 * ((Mv 5) : Int32).toInt + ((Mf 3) (Mv 5).toNatClampNeg).toInt)) (Agr.trans (k' := (400 * ((Mv 5) : Int32).toInt + ((Mf 3) (Mv 5).toNatClampNeg).toInt)) (Agr.mono pf_30 hr_360) pf_124 ⟨Int.le_refl _, hr_361⟩) pf_146 ⟨Int.le_refl _, hr_362⟩) pf_342 ⟨Int.le_refl _, hr_363⟩) (hP.sub [1, 0, 2, 3, 4] rfl) (hD.sub [1, 0, 2, 3, 4] rfl rfl) hS (lv_sub hl [1, 2] rfl)
              · skip
                have hz_365 : (r_311 : Int32).toInt = 1 := by
                  have z_1 : ¬ (vy_20 : Int32).toInt = (0 : Int32).toInt := fun z => c_32 (Int32.toInt_inj.mp z)
                  have z_2 : ¬ (r_125 : Int32).toInt = (0 : Int32).toInt := fun z => c_129 (Int32.toInt_inj.mp z)
                  have z_3 := congrArg Int32.toInt c_164
                  have z_4 : ¬ (r_285 : Int32).toInt = (0 : Int32).toInt := fun z => c_289 (Int32.toInt_inj.mp z)
                  have z_5 : ¬ (r_311 : Int32).toInt = (0 : Int32).toInt := fun z => c_317 (Int32.toInt_inj.mp z)
                  have y_0 : (0 : Int32).toInt = 0 := by decide
                  omega
                obtain pf_364 := hm_314 hz_365
                have pf_364 : Ltr (Mf 1) (Mv 0) sv_307 := pf_364
                have ar_pf_364 := pf_364.1
                refine lv_bipush (v := 12) hx hb dX12_tested_69 (by decide) ?_
                refine lv_goto (tgt := 76) hx hb dX12_tested_71 (by decide) ?_
                refine lv_istore_n (lv' := [(2, .int 12), (1, .int 1), (0, .ref (Ma 0))]) hx hb dX12_tested_76 rfl hl (by decide) rfl (fun ls hl => ?_)
                refine lv_aload_n hx hb dX12_tested_77 rfl (lv_at hl 2 rfl) ?_
                have ha_366 : 0 ≤ (sv_307 : Int32).toInt ∧ (sv_307 : Int32).toInt ≤ ((Mv 0) : Int32).toInt ∧ ((Mv 0) : Int32).toInt ≤ 400 := by
                  have z_1 : ¬ (vy_20 : Int32).toInt = (0 : Int32).toInt := fun z => c_32 (Int32.toInt_inj.mp z)
                  have z_2 : ¬ (r_125 : Int32).toInt = (0 : Int32).toInt := fun z => c_129 (Int32.toInt_inj.mp z)
                  have z_3 := congrArg Int32.toInt c_164
                  have z_4 : ¬ (r_285 : Int32).toInt = (0 : Int32).toInt := fun z => c_289 (Int32.toInt_inj.mp z)
                  have z_5 : ¬ (r_311 : Int32).toInt = (0 : Int32).toInt := fun z => c_317 (Int32.toInt_inj.mp z)
                  have y_0 : (0 : Int32).toInt = 0 := by decide
                  refine ⟨?_, ?_, ?_⟩ <;> omega
                refine cV (a := (Ma 0)) (As := []) (rest := []) (wr := [((Ma 2), .inl (tc 0, 2400, .inl sv_143)), ((Ma 3), .inl (tc 0, 7, .inl sv_144)), ((Ma 7), .inl (tc 0, 400, .inl sv_121))]) ⟨hx, hb, hml, hown, hts⟩ hK hX hA (ct_X12_passWord l D tc sk Ma (fun k => ([(Mv 0), (Mv 1), sv_307, sv_114, sv_115, (Mv 5), sv_116, sv_141, (Mv 8), sv_142, (Mv 10), (Mv 11), (Mv 12), (Mv 13), (Mv 14)] : List (Int32)).getD k 0) Mf Mj ha_366) k_1244 k_1241 k_1243 k_34 k_106 pl_X12_passWord ⟨Nat.le_of_ble_eq_true rfl, Nat.le_of_ble_eq_true rfl⟩ rfl rfl (va_recv hK hP (ci := 12) (q0 := 3) rfl rfl) hP hD hS [3, 4] [0, 1, 2] rfl rfl rfl rfl rfl (by decide) rfl hl.1 rfl (Nat.le_of_ble_eq_true rfl) dX12_tested_78 ⟨Nat.le_of_ble_eq_true rfl, Nat.le_of_ble_eq_true rfl⟩ (fun v_367 u_368 H locs hv_369 hP hD hS => ?_)
                obtain ⟨sv_370, rfl⟩ : ∃ z, z = u_368 := ⟨_, rfl⟩
                obtain ⟨rfl, pf_371, pf_372⟩ := hv_369
                have pf_371 : (sv_307 : Int32).toInt ≤ (sv_370 : Int32).toInt ∧ (sv_370 : Int32).toInt ≤ ((Mv 0) : Int32).toInt := pf_371
                have pf_372 : Pw (Mf 1) (Mv 0) sv_307 sv_370 := pf_372
                have ar_pf_372 := pf_372 pf_364
                refine W.eq (g2 := F0 m 81 ls []) rfl ?_
                have hP : va_P D classes [((Ma 2), .inl (tc 0, 2400, .inl sv_143)), ((Ma 3), .inl (tc 0, 7, .inl sv_144)), ((Ma 7), .inl (tc 0, 400, .inl sv_121)), ((Ma 0), .inr (12, [.ref (Ma 1), .int (Mv 0), .int (Mv 1), .ref (Ma 2), .ref (Ma 3), .ref (Ma 4), .ref (Ma 5), .ref (Ma 6), .int sv_370, .int sv_114, .int sv_115, .int (Mv 5), .int sv_116, .int sv_141, .int (Mv 8), .ref (Ma 7), .int sv_142, .ref (Ma 8), .int (Mv 10), .ref (Ma 9), .ref (Ma 10), .int (Mv 11), .int (Mv 12), .int (Mv 13), .ref (Ma 11), .int (Mv 14), .ref (Ma 12), .ref (Ma 13), .ref (Ma 14), .ref (Ma 15), .ref (Ma 16), .long (Mj 0), .ref (Ma 17), .ref (Ma 18), .ref (Ma 19), .ref (Ma 20)])), ((Ma 1), .inl (tc 2, 400, .inl (Mf 1)))] H := hP
                have hD : va_D A [((Ma 2), .inl (tc 0, 2400, .inl sv_143)), ((Ma 3), .inl (tc 0, 7, .inl sv_144)), ((Ma 7), .inl (tc 0, 400, .inl sv_121)), ((Ma 0), .inr (12, [.ref (Ma 1), .int (Mv 0), .int (Mv 1), .ref (Ma 2), .ref (Ma 3), .ref (Ma 4), .ref (Ma 5), .ref (Ma 6), .int sv_370, .int sv_114, .int sv_115, .int (Mv 5), .int sv_116, .int sv_141, .int (Mv 8), .ref (Ma 7), .int sv_142, .ref (Ma 8), .int (Mv 10), .ref (Ma 9), .ref (Ma 10), .int (Mv 11), .int (Mv 12), .int (Mv 13), .ref (Ma 11), .int (Mv 14), .ref (Ma 12), .ref (Ma 13), .ref (Ma 14), .ref (Ma 15), .ref (Ma 16), .long (Mj 0), .ref (Ma 17), .ref (Ma 18), .ref (Ma 19), .ref (Ma 20)])), ((Ma 1), .inl (tc 2, 400, .inl (Mf 1)))] := hD
                refine lv_aload_n hx hb dX12_tested_81 rfl (lv_at hl 2 rfl) ?_
                refine lv_iload_n hx hb dX12_tested_82 rfl (lv_at hl 0 rfl) ?_
                refine cS (As := [.int 12]) (rest := [.ref (Ma 0)]) (wr := [((Ma 2), .inl (tc 0, 2400, .inl sv_143)), ((Ma 3), .inl (tc 0, 7, .inl sv_144)), ((Ma 7), .inl (tc 0, 400, .inl sv_121)), ((Ma 0), .inr (12, [.ref (Ma 1), .int (Mv 0), .int (Mv 1), .ref (Ma 2), .ref (Ma 3), .ref (Ma 4), .ref (Ma 5), .ref (Ma 6), .int sv_370, .int sv_114, .int sv_115, .int (Mv 5), .int sv_116, .int sv_141, .int (Mv 8), .ref (Ma 7), .int sv_142, .ref (Ma 8), .int (Mv 10), .ref (Ma 9), .ref (Ma 10), .int (Mv 11), .int (Mv 12), .int (Mv 13), .ref (Ma 11), .int (Mv 14), .ref (Ma 12), .ref (Ma 13), .ref (Ma 14), .ref (Ma 15), .ref (Ma 16), .long (Mj 0), .ref (Ma 17), .ref (Ma 18), .ref (Ma 19), .ref (Ma 20)])), ((Ma 1), .inl (tc 2, 400, .inl (Mf 1)))]) ⟨hx, hb, hml, hown, hts⟩ hK hX hA (ct_X12_strength l D tc sk 12) k_1345 k_1343 k_1344 k_106 pl_X12_strength ⟨Nat.le_of_ble_eq_true rfl, Nat.le_of_ble_eq_true rfl⟩ rfl rfl  hP hD hS [] [0, 1, 2, 3, 4] rfl rfl rfl rfl rfl (by decide) rfl hl.1 rfl (Nat.le_of_ble_eq_true rfl) dX12_tested_83 ⟨Nat.le_of_ble_eq_true rfl, Nat.le_of_ble_eq_true rfl⟩ (fun v_373 u_374 H locs hv_375 hP hD hS => ?_)
                obtain ⟨r_376, rfl, he_377⟩ := hv_375
                have he_377 : (((12 : Int32).toInt = 13 ∧ r_376.toInt = 1) ∨ ((12 : Int32).toInt = 12 ∧ r_376.toInt = 2) ∨ ((12 : Int32).toInt = 11 ∧ r_376.toInt = 3) ∨ ((12 : Int32).toInt ≠ 13 ∧ (12 : Int32).toInt ≠ 12 ∧ (12 : Int32).toInt ≠ 11 ∧ r_376.toInt = 0)) := he_377
                refine W.eq (g2 := F0 m 86 ls [.int r_376, .ref (Ma 0)]) rfl ?_
                have hP : va_P D classes [((Ma 2), .inl (tc 0, 2400, .inl sv_143)), ((Ma 3), .inl (tc 0, 7, .inl sv_144)), ((Ma 7), .inl (tc 0, 400, .inl sv_121)), ((Ma 0), .inr (12, [.ref (Ma 1), .int (Mv 0), .int (Mv 1), .ref (Ma 2), .ref (Ma 3), .ref (Ma 4), .ref (Ma 5), .ref (Ma 6), .int sv_370, .int sv_114, .int sv_115, .int (Mv 5), .int sv_116, .int sv_141, .int (Mv 8), .ref (Ma 7), .int sv_142, .ref (Ma 8), .int (Mv 10), .ref (Ma 9), .ref (Ma 10), .int (Mv 11), .int (Mv 12), .int (Mv 13), .ref (Ma 11), .int (Mv 14), .ref (Ma 12), .ref (Ma 13), .ref (Ma 14), .ref (Ma 15), .ref (Ma 16), .long (Mj 0), .ref (Ma 17), .ref (Ma 18), .ref (Ma 19), .ref (Ma 20)])), ((Ma 1), .inl (tc 2, 400, .inl (Mf 1)))] H := hP
                have hD : va_D A [((Ma 2), .inl (tc 0, 2400, .inl sv_143)), ((Ma 3), .inl (tc 0, 7, .inl sv_144)), ((Ma 7), .inl (tc 0, 400, .inl sv_121)), ((Ma 0), .inr (12, [.ref (Ma 1), .int (Mv 0), .int (Mv 1), .ref (Ma 2), .ref (Ma 3), .ref (Ma 4), .ref (Ma 5), .ref (Ma 6), .int sv_370, .int sv_114, .int sv_115, .int (Mv 5), .int sv_116, .int sv_141, .int (Mv 8), .ref (Ma 7), .int sv_142, .ref (Ma 8), .int (Mv 10), .ref (Ma 9), .ref (Ma 10), .int (Mv 11), .int (Mv 12), .int (Mv 13), .ref (Ma 11), .int (Mv 14), .ref (Ma 12), .ref (Ma 13), .ref (Ma 14), .ref (Ma 15), .ref (Ma 16), .long (Mj 0), .ref (Ma 17), .ref (Ma 18), .ref (Ma 19), .ref (Ma 20)])), ((Ma 1), .inl (tc 2, 400, .inl (Mf 1)))] := hD
                have yy_378 : (12 : Int32).toInt = 12 := by decide
                have ha_379 : 1 ≤ r_376.toInt ∧ r_376.toInt ≤ 3 := by
                  have z_1 : ¬ (vy_20 : Int32).toInt = (0 : Int32).toInt := fun z => c_32 (Int32.toInt_inj.mp z)
                  have z_2 : ¬ (r_125 : Int32).toInt = (0 : Int32).toInt := fun z => c_129 (Int32.toInt_inj.mp z)
                  have z_3 := congrArg Int32.toInt c_164
                  have z_4 : ¬ (r_285 : Int32).toInt = (0 : Int32).toInt := fun z => c_289 (Int32.toInt_inj.mp z)
                  have z_5 : ¬ (r_311 : Int32).toInt = (0 : Int32).toInt := fun z => c_317 (Int32.toInt_inj.mp z)
                  have y_0 : (0 : Int32).toInt = 0 := by decide
                  refine ⟨?_, ?_⟩ <;> omega
                have ha_380 : (sv_144 (Mv 5).toNatClampNeg).toInt + (sv_142 : Int32).toInt ≤ 400 := by
                  have z_1 : ¬ (vy_20 : Int32).toInt = (0 : Int32).toInt := fun z => c_32 (Int32.toInt_inj.mp z)
                  have z_2 : ¬ (r_125 : Int32).toInt = (0 : Int32).toInt := fun z => c_129 (Int32.toInt_inj.mp z)
                  have z_3 := congrArg Int32.toInt c_164
                  have z_4 : ¬ (r_285 : Int32).toInt = (0 : Int32).toInt := fun z => c_289 (Int32.toInt_inj.mp z)
                  have z_5 : ¬ (r_311 : Int32).toInt = (0 : Int32).toInt := fun z => c_317 (Int32.toInt_inj.mp z)
                  have y_0 : (0 : Int32).toInt = 0 := by decide
                  omega
                refine cV (a := (Ma 0)) (As := [.int r_376]) (rest := []) (wr := [((Ma 1), .inl (tc 2, 400, .inl (Mf 1)))]) ⟨hx, hb, hml, hown, hts⟩ hK hX hA (ct_X12_layDown l D tc sk Ma (fun k => ([(Mv 0), (Mv 1), sv_370, sv_114, sv_115, (Mv 5), sv_116, sv_141, (Mv 8), sv_142, (Mv 10), (Mv 11), (Mv 12), (Mv 13), (Mv 14)] : List (Int32)).getD k 0) (fun k => ([(fun _ => 0), (fun _ => 0), sv_143, sv_144, (fun _ => 0), (fun _ => 0), (fun _ => 0), sv_121] : List (Nat → Int32)).getD k (fun _ => 0)) Mj r_376 b pf_147 ha_379 ha_380) k_1342 k_1339 k_1341 k_54 k_106 pl_X12_layDown ⟨Nat.le_of_ble_eq_true rfl, Nat.le_of_ble_eq_true rfl⟩ rfl rfl (va_recv hK hP (ci := 12) (q0 := 3) rfl rfl) hP hD hS [3, 0, 1, 2] [4] rfl rfl rfl rfl rfl (by decide) rfl hl.1 rfl (Nat.le_of_ble_eq_true rfl) dX12_tested_86 ⟨Nat.le_of_ble_eq_true rfl, Nat.le_of_ble_eq_true rfl⟩ (fun v_381 u_382 H locs hv_383 hP hD hS => ?_)
                obtain ⟨sv_384, sv_385, sv_386, sv_387⟩ := u_382
                obtain ⟨rfl, pf_388, pf_389, pf_390, pf_391, pf_392⟩ := hv_383
                have pf_388 : LSR sv_121 sv_385 sv_386 sv_387 (Mv 5) b sv_116 := pf_388
                obtain ⟨pn_393, pf_394, pf_395⟩ := id pf_388
                have ar_pf_388 := LSR.ar pf_388
                have ar_pf_395 := Cd.ar pf_395
                have pf_389 : (sv_387 (Mv 5).toNatClampNeg).toInt + (sv_385 : Int32).toInt = (sv_144 (Mv 5).toNatClampNeg).toInt + (sv_142 : Int32).toInt ∧ 0 ≤ (sv_385 : Int32).toInt ∧ (sv_385 : Int32).toInt ≤ (sv_142 : Int32).toInt := pf_389
                have pf_390 : Agr sv_143 sv_386 (400 * ((Mv 5) : Int32).toInt + (sv_144 (Mv 5).toNatClampNeg).toInt) := pf_390
                have pf_391 : LdE sv_121 sv_385 r_376 := pf_391
                have pf_392 : InK sv_121 sv_142 sv_385 := pf_392
                refine W.eq (g2 := F0 m 89 ls []) rfl ?_
                have hP : va_P D classes [((Ma 1), .inl (tc 2, 400, .inl (Mf 1))), ((Ma 0), .inr (12, [.ref (Ma 1), .int (Mv 0), .int (Mv 1), .ref (Ma 2), .ref (Ma 3), .ref (Ma 4), .ref (Ma 5), .ref (Ma 6), .int sv_370, .int sv_114, .int sv_115, .int (Mv 5), .int sv_116, .int sv_384, .int (Mv 8), .ref (Ma 7), .int sv_385, .ref (Ma 8), .int (Mv 10), .ref (Ma 9), .ref (Ma 10), .int (Mv 11), .int (Mv 12), .int (Mv 13), .ref (Ma 11), .int (Mv 14), .ref (Ma 12), .ref (Ma 13), .ref (Ma 14), .ref (Ma 15), .ref (Ma 16), .long (Mj 0), .ref (Ma 17), .ref (Ma 18), .ref (Ma 19), .ref (Ma 20)])), ((Ma 2), .inl (tc 0, 2400, .inl sv_386)), ((Ma 3), .inl (tc 0, 7, .inl sv_387)), ((Ma 7), .inl (tc 0, 400, .inl sv_121))] H := hP
                have hD : va_D A [((Ma 1), .inl (tc 2, 400, .inl (Mf 1))), ((Ma 0), .inr (12, [.ref (Ma 1), .int (Mv 0), .int (Mv 1), .ref (Ma 2), .ref (Ma 3), .ref (Ma 4), .ref (Ma 5), .ref (Ma 6), .int sv_370, .int sv_114, .int sv_115, .int (Mv 5), .int sv_116, .int sv_384, .int (Mv 8), .ref (Ma 7), .int sv_385, .ref (Ma 8), .int (Mv 10), .ref (Ma 9), .ref (Ma 10), .int (Mv 11), .int (Mv 12), .int (Mv 13), .ref (Ma 11), .int (Mv 14), .ref (Ma 12), .ref (Ma 13), .ref (Ma 14), .ref (Ma 15), .ref (Ma 16), .long (Mj 0), .ref (Ma 17), .ref (Ma 18), .ref (Ma 19), .ref (Ma 20)])), ((Ma 2), .inl (tc 0, 2400, .inl sv_386)), ((Ma 3), .inl (tc 0, 7, .inl sv_387)), ((Ma 7), .inl (tc 0, 400, .inl sv_121))] := hD
                refine lv_aload_n hx hb dX12_tested_89 rfl (lv_at hl 2 rfl) ?_
                refine gf_X12_29 hx hb hts hown hK hP 1 rfl rfl dX12_tested_90 ?_
                refine lv_aload_n hx hb dX12_tested_93 rfl (lv_at hl 2 rfl) ?_
                refine gf_X12_154 hx hb hts hown hK hP 1 rfl rfl dX12_tested_94 ?_
                refine lv_iload_n hx hb dX12_tested_97 rfl (lv_at hl 0 rfl) ?_
                have hi_396 : vp_in sv_385 400 := by
                  have z_1 : ¬ (vy_20 : Int32).toInt = (0 : Int32).toInt := fun z => c_32 (Int32.toInt_inj.mp z)
                  have z_2 : ¬ (r_125 : Int32).toInt = (0 : Int32).toInt := fun z => c_129 (Int32.toInt_inj.mp z)
                  have z_3 := congrArg Int32.toInt c_164
                  have z_4 : ¬ (r_285 : Int32).toInt = (0 : Int32).toInt := fun z => c_289 (Int32.toInt_inj.mp z)
                  have z_5 : ¬ (r_311 : Int32).toInt = (0 : Int32).toInt := fun z => c_317 (Int32.toInt_inj.mp z)
                  have y_0 : (0 : Int32).toInt = 0 := by decide
                  refine vp_in_iff.mpr ⟨?_, ?_⟩ <;> omega
                refine st_int hx hb hK hP hD hS 4 0 rfl rfl hi_396 dX12_tested_98 (fun g_397 H locs eg_397 hP hD hS => ?_)
                have hP : va_P D classes [((Ma 1), .inl (tc 2, 400, .inl (Mf 1))), ((Ma 0), .inr (12, [.ref (Ma 1), .int (Mv 0), .int (Mv 1), .ref (Ma 2), .ref (Ma 3), .ref (Ma 4), .ref (Ma 5), .ref (Ma 6), .int sv_370, .int sv_114, .int sv_115, .int (Mv 5), .int sv_116, .int sv_384, .int (Mv 8), .ref (Ma 7), .int sv_385, .ref (Ma 8), .int (Mv 10), .ref (Ma 9), .ref (Ma 10), .int (Mv 11), .int (Mv 12), .int (Mv 13), .ref (Ma 11), .int (Mv 14), .ref (Ma 12), .ref (Ma 13), .ref (Ma 14), .ref (Ma 15), .ref (Ma 16), .long (Mj 0), .ref (Ma 17), .ref (Ma 18), .ref (Ma 19), .ref (Ma 20)])), ((Ma 2), .inl (tc 0, 2400, .inl sv_386)), ((Ma 3), .inl (tc 0, 7, .inl sv_387)), ((Ma 7), .inl (tc 0, 400, .inl g_397))] H := hP
                have hD : va_D A [((Ma 1), .inl (tc 2, 400, .inl (Mf 1))), ((Ma 0), .inr (12, [.ref (Ma 1), .int (Mv 0), .int (Mv 1), .ref (Ma 2), .ref (Ma 3), .ref (Ma 4), .ref (Ma 5), .ref (Ma 6), .int sv_370, .int sv_114, .int sv_115, .int (Mv 5), .int sv_116, .int sv_384, .int (Mv 8), .ref (Ma 7), .int sv_385, .ref (Ma 8), .int (Mv 10), .ref (Ma 9), .ref (Ma 10), .int (Mv 11), .int (Mv 12), .int (Mv 13), .ref (Ma 11), .int (Mv 14), .ref (Ma 12), .ref (Ma 13), .ref (Ma 14), .ref (Ma 15), .ref (Ma 16), .long (Mj 0), .ref (Ma 17), .ref (Ma 18), .ref (Ma 19), .ref (Ma 20)])), ((Ma 2), .inl (tc 0, 2400, .inl sv_386)), ((Ma 3), .inl (tc 0, 7, .inl sv_387)), ((Ma 7), .inl (tc 0, 400, .inl g_397))] := hD
                refine lv_aload_n hx hb dX12_tested_99 rfl (lv_at hl 2 rfl) ?_
                refine lv_dup hx hb dX12_tested_100 rfl ?_
                refine gf_X12_154 hx hb hts hown hK hP 1 rfl rfl dX12_tested_101 ?_
                refine lv_iconst (v := 1) hx hb dX12_tested_104 (by decide) ?_
                refine lv_iadd hx hb dX12_tested_105 ?_
                refine lv_topi (fun x_398 ex_398 => ?_)
                refine pf_X12_154 hx hb hts hown hK hP hD hS 1 rfl (Nat.le_of_ble_eq_true rfl) rfl rfl dX12_tested_106 (fun H locs hP hD hS => ?_)
                have hP : va_P D classes [((Ma 1), .inl (tc 2, 400, .inl (Mf 1))), ((Ma 0), .inr (12, [.ref (Ma 1), .int (Mv 0), .int (Mv 1), .ref (Ma 2), .ref (Ma 3), .ref (Ma 4), .ref (Ma 5), .ref (Ma 6), .int sv_370, .int sv_114, .int sv_115, .int (Mv 5), .int sv_116, .int sv_384, .int (Mv 8), .ref (Ma 7), .int x_398, .ref (Ma 8), .int (Mv 10), .ref (Ma 9), .ref (Ma 10), .int (Mv 11), .int (Mv 12), .int (Mv 13), .ref (Ma 11), .int (Mv 14), .ref (Ma 12), .ref (Ma 13), .ref (Ma 14), .ref (Ma 15), .ref (Ma 16), .long (Mj 0), .ref (Ma 17), .ref (Ma 18), .ref (Ma 19), .ref (Ma 20)])), ((Ma 2), .inl (tc 0, 2400, .inl sv_386)), ((Ma 3), .inl (tc 0, 7, .inl sv_387)), ((Ma 7), .inl (tc 0, 400, .inl g_397))] H := hP
                have hD : va_D A [((Ma 1), .inl (tc 2, 400, .inl (Mf 1))), ((Ma 0), .inr (12, [.ref (Ma 1), .int (Mv 0), .int (Mv 1), .ref (Ma 2), .ref (Ma 3), .ref (Ma 4), .ref (Ma 5), .ref (Ma 6), .int sv_370, .int sv_114, .int sv_115, .int (Mv 5), .int sv_116, .int sv_384, .int (Mv 8), .ref (Ma 7), .int x_398, .ref (Ma 8), .int (Mv 10), .ref (Ma 9), .ref (Ma 10), .int (Mv 11), .int (Mv 12), .int (Mv 13), .ref (Ma 11), .int (Mv 14), .ref (Ma 12), .ref (Ma 13), .ref (Ma 14), .ref (Ma 15), .ref (Ma 16), .long (Mj 0), .ref (Ma 17), .ref (Ma 18), .ref (Ma 19), .ref (Ma 20)])), ((Ma 2), .inl (tc 0, 2400, .inl sv_386)), ((Ma 3), .inl (tc 0, 7, .inl sv_387)), ((Ma 7), .inl (tc 0, 400, .inl g_397))] := hD
                refine lv_goto (tgt := 12) hx hb dX12_tested_109 (by decide) ?_
                have hb_399 : 2 * (401 - (sv_370 : Int32).toInt) + (1 : Int32).toInt < 2 * (401 - (vy_11 : Int32).toInt) + (vy_20 : Int32).toInt ∧ 1 ≤ 2 * (401 - (vy_11 : Int32).toInt) + (vy_20 : Int32).toInt := by
                  have z_1 : ¬ (vy_20 : Int32).toInt = (0 : Int32).toInt := fun z => c_32 (Int32.toInt_inj.mp z)
                  have z_2 : ¬ (r_125 : Int32).toInt = (0 : Int32).toInt := fun z => c_129 (Int32.toInt_inj.mp z)
                  have z_3 := congrArg Int32.toInt c_164
                  have z_4 : ¬ (r_285 : Int32).toInt = (0 : Int32).toInt := fun z => c_289 (Int32.toInt_inj.mp z)
                  have z_5 : ¬ (r_311 : Int32).toInt = (0 : Int32).toInt := fun z => c_317 (Int32.toInt_inj.mp z)
                  have y_0 : (0 : Int32).toInt = 0 := by decide
                  have y_1 : (1 : Int32).toInt = 1 := by decide
                  refine ⟨?_, ?_⟩ <;> omega
                have ha_400 : 0 ≤ (sv_370 : Int32).toInt ∧ (sv_370 : Int32).toInt ≤ ((Mv 0) : Int32).toInt ∧ ((Mv 0) : Int32).toInt ≤ 400 := by
                  have z_1 : ¬ (vy_20 : Int32).toInt = (0 : Int32).toInt := fun z => c_32 (Int32.toInt_inj.mp z)
                  have z_2 : ¬ (r_125 : Int32).toInt = (0 : Int32).toInt := fun z => c_129 (Int32.toInt_inj.mp z)
                  have z_3 := congrArg Int32.toInt c_164
                  have z_4 : ¬ (r_285 : Int32).toInt = (0 : Int32).toInt := fun z => c_289 (Int32.toInt_inj.mp z)
                  have z_5 : ¬ (r_311 : Int32).toInt = (0 : Int32).toInt := fun z => c_317 (Int32.toInt_inj.mp z)
                  have y_0 : (0 : Int32).toInt = 0 := by decide
                  refine ⟨?_, ?_, ?_⟩ <;> omega
                have ha_401 : (Mv 2).toInt ≤ (sv_370 : Int32).toInt := by
                  have z_1 : ¬ (vy_20 : Int32).toInt = (0 : Int32).toInt := fun z => c_32 (Int32.toInt_inj.mp z)
                  have z_2 : ¬ (r_125 : Int32).toInt = (0 : Int32).toInt := fun z => c_129 (Int32.toInt_inj.mp z)
                  have z_3 := congrArg Int32.toInt c_164
                  have z_4 : ¬ (r_285 : Int32).toInt = (0 : Int32).toInt := fun z => c_289 (Int32.toInt_inj.mp z)
                  have z_5 : ¬ (r_311 : Int32).toInt = (0 : Int32).toInt := fun z => c_317 (Int32.toInt_inj.mp z)
                  have y_0 : (0 : Int32).toInt = 0 := by decide
                  omega
                have ha_402 : 0 ≤ (1 : Int32).toInt ∧ (1 : Int32).toInt ≤ 1 := by
                  have z_1 : ¬ (vy_20 : Int32).toInt = (0 : Int32).toInt := fun z => c_32 (Int32.toInt_inj.mp z)
                  have z_2 : ¬ (r_125 : Int32).toInt = (0 : Int32).toInt := fun z => c_129 (Int32.toInt_inj.mp z)
                  have z_3 := congrArg Int32.toInt c_164
                  have z_4 : ¬ (r_285 : Int32).toInt = (0 : Int32).toInt := fun z => c_289 (Int32.toInt_inj.mp z)
                  have z_5 : ¬ (r_311 : Int32).toInt = (0 : Int32).toInt := fun z => c_317 (Int32.toInt_inj.mp z)
                  have y_0 : (0 : Int32).toInt = 0 := by decide
                  have y_1 : (1 : Int32).toInt = 1 := by decide
                  refine ⟨?_, ?_⟩ <;> omega
                have ha_403 : (Mv 6).toInt ≤ (sv_116 : Int32).toInt ∧ (sv_116 : Int32).toInt ≤ 60 := by
                  have z_1 : ¬ (vy_20 : Int32).toInt = (0 : Int32).toInt := fun z => c_32 (Int32.toInt_inj.mp z)
                  have z_2 : ¬ (r_125 : Int32).toInt = (0 : Int32).toInt := fun z => c_129 (Int32.toInt_inj.mp z)
                  have z_3 := congrArg Int32.toInt c_164
                  have z_4 : ¬ (r_285 : Int32).toInt = (0 : Int32).toInt := fun z => c_289 (Int32.toInt_inj.mp z)
                  have z_5 : ¬ (r_311 : Int32).toInt = (0 : Int32).toInt := fun z => c_317 (Int32.toInt_inj.mp z)
                  have y_0 : (0 : Int32).toInt = 0 := by decide
                  refine ⟨?_, ?_⟩ <;> omega
                have hi_404 : (x_398 : Int32).toInt = (sv_385 : Int32).toInt + 1 := by
                  have z_1 : ¬ (vy_20 : Int32).toInt = (0 : Int32).toInt := fun z => c_32 (Int32.toInt_inj.mp z)
                  have z_2 : ¬ (r_125 : Int32).toInt = (0 : Int32).toInt := fun z => c_129 (Int32.toInt_inj.mp z)
                  have z_3 := congrArg Int32.toInt c_164
                  have z_4 : ¬ (r_285 : Int32).toInt = (0 : Int32).toInt := fun z => c_289 (Int32.toInt_inj.mp z)
                  have z_5 : ¬ (r_311 : Int32).toInt = (0 : Int32).toInt := fun z => c_317 (Int32.toInt_inj.mp z)
                  have y_0 : (0 : Int32).toInt = 0 := by decide
                  have y_1 : (1 : Int32).toInt = 1 := by decide
                  have t_x_398 : x_398.toInt = (sv_385 : Int32).toInt + (1 : Int32).toInt := by rw [ex_398]; exact add_toInt (by omega) (by omega)
                  omega
                have hr_405 : (sv_385 : Int32).toInt < 400 := by
                  have z_1 : ¬ (vy_20 : Int32).toInt = (0 : Int32).toInt := fun z => c_32 (Int32.toInt_inj.mp z)
                  have z_2 : ¬ (r_125 : Int32).toInt = (0 : Int32).toInt := fun z => c_129 (Int32.toInt_inj.mp z)
                  have z_3 := congrArg Int32.toInt c_164
                  have z_4 : ¬ (r_285 : Int32).toInt = (0 : Int32).toInt := fun z => c_289 (Int32.toInt_inj.mp z)
                  have z_5 : ¬ (r_311 : Int32).toInt = (0 : Int32).toInt := fun z => c_317 (Int32.toInt_inj.mp z)
                  have y_0 : (0 : Int32).toInt = 0 := by decide
                  omega
                have hr_406 : (12 : Int32).toInt = 12 ∨ (12 : Int32).toInt = 13 := by
                  have z_1 : ¬ (vy_20 : Int32).toInt = (0 : Int32).toInt := fun z => c_32 (Int32.toInt_inj.mp z)
                  have z_2 : ¬ (r_125 : Int32).toInt = (0 : Int32).toInt := fun z => c_129 (Int32.toInt_inj.mp z)
                  have z_3 := congrArg Int32.toInt c_164
                  have z_4 : ¬ (r_285 : Int32).toInt = (0 : Int32).toInt := fun z => c_289 (Int32.toInt_inj.mp z)
                  have z_5 : ¬ (r_311 : Int32).toInt = (0 : Int32).toInt := fun z => c_317 (Int32.toInt_inj.mp z)
                  have y_0 : (0 : Int32).toInt = 0 := by decide
                  have y_12 : (12 : Int32).toInt = 12 := by decide
                  omega
                have ha_407 : (sv_387 (Mv 5).toNatClampNeg).toInt + (x_398 : Int32).toInt ≤ (sv_370 : Int32).toInt ∧ ((Mf 3) (Mv 5).toNatClampNeg).toInt ≤ (sv_387 (Mv 5).toNatClampNeg).toInt ∧ 0 ≤ (x_398 : Int32).toInt ∧ (x_398 : Int32).toInt ≤ 400 := by
                  have z_1 : ¬ (vy_20 : Int32).toInt = (0 : Int32).toInt := fun z => c_32 (Int32.toInt_inj.mp z)
                  have z_2 : ¬ (r_125 : Int32).toInt = (0 : Int32).toInt := fun z => c_129 (Int32.toInt_inj.mp z)
                  have z_3 := congrArg Int32.toInt c_164
                  have z_4 : ¬ (r_285 : Int32).toInt = (0 : Int32).toInt := fun z => c_289 (Int32.toInt_inj.mp z)
                  have z_5 : ¬ (r_311 : Int32).toInt = (0 : Int32).toInt := fun z => c_317 (Int32.toInt_inj.mp z)
                  have y_0 : (0 : Int32).toInt = 0 := by decide
                  have y_1 : (1 : Int32).toInt = 1 := by decide
                  have t_x_398 : x_398.toInt = (sv_385 : Int32).toInt + (1 : Int32).toInt := by rw [ex_398]; exact add_toInt (by omega) (by omega)
                  refine ⟨?_, ?_, ?_, ?_⟩ <;> omega
                have hr_408 : (400 * ((Mv 5) : Int32).toInt + ((Mf 3) (Mv 5).toNatClampNeg).toInt) ≤ (400 * ((Mv 5) : Int32).toInt + ((Mf 3) (Mv 5).toNatClampNeg).toInt) := by
                  have z_1 : ¬ (vy_20 : Int32).toInt = (0 : Int32).toInt := fun z => c_32 (Int32.toInt_inj.mp z)
                  have z_2 : ¬ (r_125 : Int32).toInt = (0 : Int32).toInt := fun z => c_129 (Int32.toInt_inj.mp z)
                  have z_3 := congrArg Int32.toInt c_164
                  have z_4 : ¬ (r_285 : Int32).toInt = (0 : Int32).toInt := fun z => c_289 (Int32.toInt_inj.mp z)
                  have z_5 : ¬ (r_311 : Int32).toInt = (0 : Int32).toInt := fun z => c_317 (Int32.toInt_inj.mp z)
                  have y_0 : (0 : Int32).toInt = 0 := by decide
                  omega
                have hr_409 : (400 * ((Mv 5) : Int32).toInt + ((Mf 3) (Mv 5).toNatClampNeg).toInt) ≤ (400 * ((Mv 5) : Int32).toInt + (vy_18 (Mv 5).toNatClampNeg).toInt) := by
                  have z_1 : ¬ (vy_20 : Int32).toInt = (0 : Int32).toInt := fun z => c_32 (Int32.toInt_inj.mp z)
                  have z_2 : ¬ (r_125 : Int32).toInt = (0 : Int32).toInt := fun z => c_129 (Int32.toInt_inj.mp z)
                  have z_3 := congrArg Int32.toInt c_164
                  have z_4 : ¬ (r_285 : Int32).toInt = (0 : Int32).toInt := fun z => c_289 (Int32.toInt_inj.mp z)
                  have z_5 : ¬ (r_311 : Int32).toInt = (0 : Int32).toInt := fun z => c_317 (Int32.toInt_inj.mp z)
                  have y_0 : (0 : Int32).toInt = 0 := by decide
                  omega
                have hr_410 : (400 * ((Mv 5) : Int32).toInt + ((Mf 3) (Mv 5).toNatClampNeg).toInt) ≤ (400 * ((Mv 5) : Int32).toInt + (sv_120 (Mv 5).toNatClampNeg).toInt) := by
                  have z_1 : ¬ (vy_20 : Int32).toInt = (0 : Int32).toInt := fun z => c_32 (Int32.toInt_inj.mp z)
                  have z_2 : ¬ (r_125 : Int32).toInt = (0 : Int32).toInt := fun z => c_129 (Int32.toInt_inj.mp z)
                  have z_3 := congrArg Int32.toInt c_164
                  have z_4 : ¬ (r_285 : Int32).toInt = (0 : Int32).toInt := fun z => c_289 (Int32.toInt_inj.mp z)
                  have z_5 : ¬ (r_311 : Int32).toInt = (0 : Int32).toInt := fun z => c_317 (Int32.toInt_inj.mp z)
                  have y_0 : (0 : Int32).toInt = 0 := by decide
                  omega
                have hr_411 : (400 * ((Mv 5) : Int32).toInt + ((Mf 3) (Mv 5).toNatClampNeg).toInt) ≤ (400 * ((Mv 5) : Int32).toInt + (sv_144 (Mv 5).toNatClampNeg).toInt) := by
                  have z_1 : ¬ (vy_20 : Int32).toInt = (0 : Int32).toInt := fun z => c_32 (Int32.toInt_inj.mp z)
                  have z_2 : ¬ (r_125 : Int32).toInt = (0 : Int32).toInt := fun z => c_129 (Int32.toInt_inj.mp z)
                  have z_3 := congrArg Int32.toInt c_164
                  have z_4 : ¬ (r_285 : Int32).toInt = (0 : Int32).toInt := fun z => c_289 (Int32.toInt_inj.mp z)
                  have z_5 : ¬ (r_311 : Int32).toInt = (0 : Int32).toInt := fun z => c_317 (Int32.toInt_inj.mp z)
                  have y_0 : (0 : Int32).toInt = 0 := by decide
                  omega
                exact ih_22 sv_370 sv_114 sv_115 sv_116 sv_384 x_398 sv_386 sv_387 g_397 1 _ _ _ (by omega) ha_400 ha_401 ha_402 ha_403 ⟨fun _ => LSR.open2 pf_388 eg_397 hi_404 hr_405 hr_406, fun h => absurd h (by decide)⟩ ha_407 (Agr.trans (k' := (400 * ((Mv 5) : Int32).toInt + ((Mf 3) (Mv 5).toNatClampNeg).toInt)) (Agr.trans (k' := (400 * ((Mv 5) : Int32).toInt + ((Mf 3) (Mv 5).toNatClampNeg).toInt)) (Agr.trans (k' := (400 * ((Mv 5) : Int32).toInt + ((Mf 3) (Mv 5).toNatClampNeg).toInt)) (Agr.mono pf_30 hr_408) pf_124 ⟨Int.le_refl _, hr_409⟩) pf_146 ⟨Int.le_refl _, hr_410⟩) pf_390 ⟨Int.le_refl _, hr_411⟩) (hP.sub [1, 0, 2, 3, 4] rfl) (hD.sub [1, 0, 2, 3, 4] rfl rfl) hS (lv_sub hl [1, 2] rfl)
        · skip
          refine lv_iconst (v := 0) hx hb dX12_tested_23 (by decide) ?_
          have ha_412 : ((Mv 2) : Int32).toInt ≤ (sv_113 : Int32).toInt ∧ (sv_113 : Int32).toInt ≤ ((Mv 0) : Int32).toInt := by
            have z_1 : ¬ (vy_20 : Int32).toInt = (0 : Int32).toInt := fun z => c_32 (Int32.toInt_inj.mp z)
            have z_2 := congrArg Int32.toInt c_129
            have y_0 : (0 : Int32).toInt = 0 := by decide
            refine ⟨?_, ?_⟩ <;> omega
          have ha_413 : ((Mv 6) : Int32).toInt ≤ (sv_116 : Int32).toInt ∧ (sv_116 : Int32).toInt ≤ 60 := by
            have z_1 : ¬ (vy_20 : Int32).toInt = (0 : Int32).toInt := fun z => c_32 (Int32.toInt_inj.mp z)
            have z_2 := congrArg Int32.toInt c_129
            have y_0 : (0 : Int32).toInt = 0 := by decide
            refine ⟨?_, ?_⟩ <;> omega
          have hr_414 : (400 * ((Mv 5) : Int32).toInt + ((Mf 3) (Mv 5).toNatClampNeg).toInt) ≤ (400 * ((Mv 5) : Int32).toInt + ((Mf 3) (Mv 5).toNatClampNeg).toInt) := by
            have z_1 : ¬ (vy_20 : Int32).toInt = (0 : Int32).toInt := fun z => c_32 (Int32.toInt_inj.mp z)
            have z_2 := congrArg Int32.toInt c_129
            have y_0 : (0 : Int32).toInt = 0 := by decide
            omega
          have hr_415 : (400 * ((Mv 5) : Int32).toInt + ((Mf 3) (Mv 5).toNatClampNeg).toInt) ≤ (400 * ((Mv 5) : Int32).toInt + (vy_18 (Mv 5).toNatClampNeg).toInt) := by
            have z_1 : ¬ (vy_20 : Int32).toInt = (0 : Int32).toInt := fun z => c_32 (Int32.toInt_inj.mp z)
            have z_2 := congrArg Int32.toInt c_129
            have y_0 : (0 : Int32).toInt = 0 := by decide
            omega
          have hp_416 : (((0 : Int32).toInt = 0 ∧ ¬ (sv_114 : Int32).toInt = 0) ∨ ((0 : Int32).toInt = 1 ∧ ((Mf 3) (Mv 5).toNatClampNeg).toInt ≤ (sv_120 (Mv 5).toNatClampNeg).toInt ∧ (sv_120 (Mv 5).toNatClampNeg).toInt ≤ (sv_113 : Int32).toInt)) := by
            have z_1 : ¬ (vy_20 : Int32).toInt = (0 : Int32).toInt := fun z => c_32 (Int32.toInt_inj.mp z)
            have z_2 := congrArg Int32.toInt c_129
            have y_0 : (0 : Int32).toInt = 0 := by decide
            omega
          exact retI (v := 0) hx hb hr hlk (rfl) hP hD hS (sv_113, sv_114, sv_115, sv_116, sv_117, sv_118, sv_119, sv_120, sv_121) ⟨_, rfl, hp_416, ha_412, ha_413, (Agr.trans (k' := (400 * ((Mv 5) : Int32).toInt + ((Mf 3) (Mv 5).toNatClampNeg).toInt)) (Agr.mono pf_30 hr_414) pf_124 ⟨Int.le_refl _, hr_415⟩), (fun h => absurd h (by decide))⟩ [0, 1, 2, 3, 4] rfl rfl dX12_tested_24 (Nat.le_of_ble_eq_true rfl) (Nat.le_of_ble_eq_true rfl) rfl
  have ha_417 : 0 ≤ ((Mv 2) : Int32).toInt ∧ ((Mv 2) : Int32).toInt ≤ ((Mv 0) : Int32).toInt ∧ ((Mv 0) : Int32).toInt ≤ 400 := by
    refine ⟨?_, ?_, ?_⟩ <;> omega
  have ha_418 : (Mv 2).toInt ≤ ((Mv 2) : Int32).toInt := by
    omega
  have ha_419 : 0 ≤ (1 : Int32).toInt ∧ (1 : Int32).toInt ≤ 1 := by
    have y_1 : (1 : Int32).toInt = 1 := by decide
    refine ⟨?_, ?_⟩ <;> omega
  have ha_420 : (Mv 6).toInt ≤ ((Mv 6) : Int32).toInt ∧ ((Mv 6) : Int32).toInt ≤ 60 := by
    refine ⟨?_, ?_⟩ <;> omega
  have ha_421 : ((Mf 3) (Mv 5).toNatClampNeg).toInt + (0 : Int32).toInt ≤ ((Mv 2) : Int32).toInt ∧ ((Mf 3) (Mv 5).toNatClampNeg).toInt ≤ ((Mf 3) (Mv 5).toNatClampNeg).toInt ∧ 0 ≤ (0 : Int32).toInt ∧ (0 : Int32).toInt ≤ 400 := by
    have y_0 : (0 : Int32).toInt = 0 := by decide
    refine ⟨?_, ?_, ?_, ?_⟩ <;> omega
  exact loop_23 _ (Mv 2) (Mv 3) (Mv 4) (Mv 6) 0 0 (Mf 2) (Mf 3) (Mf 7) 1 _ _ _ (Nat.lt_succ_self _) ha_417 ha_418 ha_419 ha_420 ⟨fun _ => ⟨0, OpS.nil (by decide), h_cd⟩, fun h => absurd h (by decide)⟩ ha_421 (Agr.rf) hP hD hS hl
