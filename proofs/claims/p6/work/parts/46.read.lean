theorem dX12_closes_0 : decode cX12_closes 0 = .ok (.aload_n 0, 1) := by decide +kernel
theorem dX12_closes_1 : decode cX12_closes 1 = .ok (.iconst 3, 1) := by decide +kernel
theorem dX12_closes_2 : decode cX12_closes 2 = .ok (.invokevirtual 193, 3) := by decide +kernel
theorem dX12_closes_5 : decode cX12_closes 5 = .ok (.aload_n 0, 1) := by decide +kernel
theorem dX12_closes_6 : decode cX12_closes 6 = .ok (.invokevirtual 90, 3) := by decide +kernel
theorem dX12_closes_9 : decode cX12_closes 9 = .ok (.bipush 93, 2) := by decide +kernel
theorem dX12_closes_11 : decode cX12_closes 11 = .ok (.if_icmp .ne 53, 3) := by decide +kernel
theorem dX12_closes_14 : decode cX12_closes 14 = .ok (.aload_n 0, 1) := by decide +kernel
theorem dX12_closes_15 : decode cX12_closes 15 = .ok (.invokevirtual 196, 3) := by decide +kernel
theorem dX12_closes_18 : decode cX12_closes 18 = .ok (.ifCond .eq 46, 3) := by decide +kernel
theorem dX12_closes_21 : decode cX12_closes 21 = .ok (.aload_n 0, 1) := by decide +kernel
theorem dX12_closes_22 : decode cX12_closes 22 = .ok (.iconst 1, 1) := by decide +kernel
theorem dX12_closes_23 : decode cX12_closes 23 = .ok (.invokevirtual 193, 3) := by decide +kernel
theorem dX12_closes_26 : decode cX12_closes 26 = .ok (.aload_n 0, 1) := by decide +kernel
theorem dX12_closes_27 : decode cX12_closes 27 = .ok (.dup, 1) := by decide +kernel
theorem dX12_closes_28 : decode cX12_closes 28 = .ok (.getfield 154, 3) := by decide +kernel
theorem dX12_closes_31 : decode cX12_closes 31 = .ok (.iconst 1, 1) := by decide +kernel
theorem dX12_closes_32 : decode cX12_closes 32 = .ok (.isub, 1) := by decide +kernel
theorem dX12_closes_33 : decode cX12_closes 33 = .ok (.putfield 154, 3) := by decide +kernel
theorem dX12_closes_36 : decode cX12_closes 36 = .ok (.aload_n 0, 1) := by decide +kernel
theorem dX12_closes_37 : decode cX12_closes 37 = .ok (.dup, 1) := by decide +kernel
theorem dX12_closes_38 : decode cX12_closes 38 = .ok (.getfield 151, 3) := by decide +kernel
theorem dX12_closes_41 : decode cX12_closes 41 = .ok (.iconst 1, 1) := by decide +kernel
theorem dX12_closes_42 : decode cX12_closes 42 = .ok (.isub, 1) := by decide +kernel
theorem dX12_closes_43 : decode cX12_closes 43 = .ok (.putfield 151, 3) := by decide +kernel
theorem dX12_closes_46 : decode cX12_closes 46 = .ok (.aload_n 0, 1) := by decide +kernel
theorem dX12_closes_47 : decode cX12_closes 47 = .ok (.dup, 1) := by decide +kernel
theorem dX12_closes_48 : decode cX12_closes 48 = .ok (.getfield 87, 3) := by decide +kernel
theorem dX12_closes_51 : decode cX12_closes 51 = .ok (.iconst 1, 1) := by decide +kernel
theorem dX12_closes_52 : decode cX12_closes 52 = .ok (.iadd, 1) := by decide +kernel
theorem dX12_closes_53 : decode cX12_closes 53 = .ok (.putfield 87, 3) := by decide +kernel
theorem dX12_closes_56 : decode cX12_closes 56 = .ok (.aload_n 0, 1) := by decide +kernel
theorem dX12_closes_57 : decode cX12_closes 57 = .ok (.iconst 3, 1) := by decide +kernel
theorem dX12_closes_58 : decode cX12_closes 58 = .ok (.invokevirtual 193, 3) := by decide +kernel
theorem dX12_closes_61 : decode cX12_closes 61 = .ok (.goto (-56), 3) := by decide +kernel
theorem dX12_closes_64 : decode cX12_closes 64 = .ok (.return_, 1) := by decide +kernel
theorem dX12_fact_0 : decode cX12_fact 0 = .ok (.iconst 1, 1) := by decide +kernel
theorem dX12_fact_1 : decode cX12_fact 1 = .ok (.istore_n 1, 1) := by decide +kernel
theorem dX12_fact_2 : decode cX12_fact 2 = .ok (.iload_n 1, 1) := by decide +kernel
theorem dX12_fact_3 : decode cX12_fact 3 = .ok (.ifCond .eq 72, 3) := by decide +kernel
theorem dX12_fact_6 : decode cX12_fact 6 = .ok (.iconst 0, 1) := by decide +kernel
theorem dX12_fact_7 : decode cX12_fact 7 = .ok (.istore_n 1, 1) := by decide +kernel
theorem dX12_fact_8 : decode cX12_fact 8 = .ok (.aload_n 0, 1) := by decide +kernel
theorem dX12_fact_9 : decode cX12_fact 9 = .ok (.invokevirtual 90, 3) := by decide +kernel
theorem dX12_fact_12 : decode cX12_fact 12 = .ok (.istore_n 2, 1) := by decide +kernel
theorem dX12_fact_13 : decode cX12_fact 13 = .ok (.aload_n 0, 1) := by decide +kernel
theorem dX12_fact_14 : decode cX12_fact 14 = .ok (.ldc2_w 185, 3) := by decide +kernel
theorem dX12_fact_17 : decode cX12_fact 17 = .ok (.invokevirtual 98, 3) := by decide +kernel
theorem dX12_fact_20 : decode cX12_fact 20 = .ok (.ifCond .eq 23, 3) := by decide +kernel
theorem dX12_fact_23 : decode cX12_fact 23 = .ok (.aload_n 0, 1) := by decide +kernel
theorem dX12_fact_24 : decode cX12_fact 24 = .ok (.bipush 11, 2) := by decide +kernel
theorem dX12_fact_26 : decode cX12_fact 26 = .ok (.invokevirtual 187, 3) := by decide +kernel
theorem dX12_fact_29 : decode cX12_fact 29 = .ok (.ifCond .ne 5, 3) := by decide +kernel
theorem dX12_fact_32 : decode cX12_fact 32 = .ok (.iconst 0, 1) := by decide +kernel
theorem dX12_fact_33 : decode cX12_fact 33 = .ok (.ireturn, 1) := by decide +kernel
theorem dX12_fact_34 : decode cX12_fact 34 = .ok (.aload_n 0, 1) := by decide +kernel
theorem dX12_fact_35 : decode cX12_fact 35 = .ok (.invokevirtual 102, 3) := by decide +kernel
theorem dX12_fact_38 : decode cX12_fact 38 = .ok (.iconst 1, 1) := by decide +kernel
theorem dX12_fact_39 : decode cX12_fact 39 = .ok (.istore_n 1, 1) := by decide +kernel
theorem dX12_fact_40 : decode cX12_fact 40 = .ok (.goto 32, 3) := by decide +kernel
theorem dX12_fact_43 : decode cX12_fact 43 = .ok (.iload_n 2, 1) := by decide +kernel
theorem dX12_fact_44 : decode cX12_fact 44 = .ok (.bipush 91, 2) := by decide +kernel
theorem dX12_fact_46 : decode cX12_fact 46 = .ok (.if_icmp .ne 26, 3) := by decide +kernel
theorem dX12_fact_49 : decode cX12_fact 49 = .ok (.aload_n 0, 1) := by decide +kernel
theorem dX12_fact_50 : decode cX12_fact 50 = .ok (.bipush 91, 2) := by decide +kernel
theorem dX12_fact_52 : decode cX12_fact 52 = .ok (.invokevirtual 187, 3) := by decide +kernel
theorem dX12_fact_55 : decode cX12_fact 55 = .ok (.ifCond .ne 5, 3) := by decide +kernel
theorem dX12_fact_58 : decode cX12_fact 58 = .ok (.iconst 0, 1) := by decide +kernel
theorem dX12_fact_59 : decode cX12_fact 59 = .ok (.ireturn, 1) := by decide +kernel
theorem dX12_fact_60 : decode cX12_fact 60 = .ok (.aload_n 0, 1) := by decide +kernel
theorem dX12_fact_61 : decode cX12_fact 61 = .ok (.dup, 1) := by decide +kernel
theorem dX12_fact_62 : decode cX12_fact 62 = .ok (.getfield 87, 3) := by decide +kernel
theorem dX12_fact_65 : decode cX12_fact 65 = .ok (.iconst 1, 1) := by decide +kernel
theorem dX12_fact_66 : decode cX12_fact 66 = .ok (.iadd, 1) := by decide +kernel
theorem dX12_fact_67 : decode cX12_fact 67 = .ok (.putfield 87, 3) := by decide +kernel
theorem dX12_fact_70 : decode cX12_fact 70 = .ok (.iconst 1, 1) := by decide +kernel
theorem dX12_fact_71 : decode cX12_fact 71 = .ok (.istore_n 1, 1) := by decide +kernel
theorem dX12_fact_72 : decode cX12_fact 72 = .ok (.goto (-70), 3) := by decide +kernel
theorem dX12_fact_75 : decode cX12_fact 75 = .ok (.aload_n 0, 1) := by decide +kernel
theorem dX12_fact_76 : decode cX12_fact 76 = .ok (.invokevirtual 190, 3) := by decide +kernel
theorem dX12_fact_79 : decode cX12_fact 79 = .ok (.ireturn, 1) := by decide +kernel
theorem dX12_isInside_0 : decode cX12_isInside 0 = .ok (.iconst 0, 1) := by decide +kernel
theorem dX12_isInside_1 : decode cX12_isInside 1 = .ok (.istore_n 1, 1) := by decide +kernel
theorem dX12_isInside_2 : decode cX12_isInside 2 = .ok (.iload_n 1, 1) := by decide +kernel
theorem dX12_isInside_3 : decode cX12_isInside 3 = .ok (.aload_n 0, 1) := by decide +kernel
theorem dX12_isInside_4 : decode cX12_isInside 4 = .ok (.getfield 154, 3) := by decide +kernel
theorem dX12_isInside_7 : decode cX12_isInside 7 = .ok (.if_icmp .ge 22, 3) := by decide +kernel
theorem dX12_isInside_10 : decode cX12_isInside 10 = .ok (.aload_n 0, 1) := by decide +kernel
theorem dX12_isInside_11 : decode cX12_isInside 11 = .ok (.getfield 29, 3) := by decide +kernel
theorem dX12_isInside_14 : decode cX12_isInside 14 = .ok (.iload_n 1, 1) := by decide +kernel
theorem dX12_isInside_15 : decode cX12_isInside 15 = .ok (.iaload, 1) := by decide +kernel
theorem dX12_isInside_16 : decode cX12_isInside 16 = .ok (.bipush 91, 2) := by decide +kernel
theorem dX12_isInside_18 : decode cX12_isInside 18 = .ok (.if_icmp .ne 5, 3) := by decide +kernel
theorem dX12_isInside_21 : decode cX12_isInside 21 = .ok (.iconst 1, 1) := by decide +kernel
theorem dX12_isInside_22 : decode cX12_isInside 22 = .ok (.ireturn, 1) := by decide +kernel
theorem dX12_isInside_23 : decode cX12_isInside 23 = .ok (.iinc 1 1, 3) := by decide +kernel
theorem dX12_isInside_26 : decode cX12_isInside 26 = .ok (.goto (-24), 3) := by decide +kernel
theorem dX12_isInside_29 : decode cX12_isInside 29 = .ok (.iconst 0, 1) := by decide +kernel
theorem dX12_isInside_30 : decode cX12_isInside 30 = .ok (.ireturn, 1) := by decide +kernel
theorem dX12_layDown_0 : decode cX12_layDown 0 = .ok (.aload_n 0, 1) := by decide +kernel
theorem dX12_layDown_1 : decode cX12_layDown 1 = .ok (.getfield 154, 3) := by decide +kernel
theorem dX12_layDown_4 : decode cX12_layDown 4 = .ok (.ifCond .le 72, 3) := by decide +kernel
theorem dX12_layDown_7 : decode cX12_layDown 7 = .ok (.aload_n 0, 1) := by decide +kernel
theorem dX12_layDown_8 : decode cX12_layDown 8 = .ok (.getfield 29, 3) := by decide +kernel
theorem dX12_layDown_11 : decode cX12_layDown 11 = .ok (.aload_n 0, 1) := by decide +kernel
theorem dX12_layDown_12 : decode cX12_layDown 12 = .ok (.getfield 154, 3) := by decide +kernel
theorem dX12_layDown_15 : decode cX12_layDown 15 = .ok (.iconst 1, 1) := by decide +kernel
theorem dX12_layDown_16 : decode cX12_layDown 16 = .ok (.isub, 1) := by decide +kernel
theorem dX12_layDown_17 : decode cX12_layDown 17 = .ok (.iaload, 1) := by decide +kernel
theorem dX12_layDown_18 : decode cX12_layDown 18 = .ok (.invokestatic 157, 3) := by decide +kernel
theorem dX12_layDown_21 : decode cX12_layDown 21 = .ok (.iload_n 1, 1) := by decide +kernel
theorem dX12_layDown_22 : decode cX12_layDown 22 = .ok (.if_icmp .lt 54, 3) := by decide +kernel
theorem dX12_layDown_25 : decode cX12_layDown 25 = .ok (.aload_n 0, 1) := by decide +kernel
theorem dX12_layDown_26 : decode cX12_layDown 26 = .ok (.dup, 1) := by decide +kernel
theorem dX12_layDown_27 : decode cX12_layDown 27 = .ok (.getfield 154, 3) := by decide +kernel
theorem dX12_layDown_30 : decode cX12_layDown 30 = .ok (.iconst 1, 1) := by decide +kernel
theorem dX12_layDown_31 : decode cX12_layDown 31 = .ok (.isub, 1) := by decide +kernel
theorem dX12_layDown_32 : decode cX12_layDown 32 = .ok (.putfield 154, 3) := by decide +kernel
theorem dX12_layDown_35 : decode cX12_layDown 35 = .ok (.aload_n 0, 1) := by decide +kernel
theorem dX12_layDown_36 : decode cX12_layDown 36 = .ok (.aload_n 0, 1) := by decide +kernel
theorem dX12_layDown_37 : decode cX12_layDown 37 = .ok (.getfield 29, 3) := by decide +kernel
theorem dX12_layDown_40 : decode cX12_layDown 40 = .ok (.aload_n 0, 1) := by decide +kernel
theorem dX12_layDown_41 : decode cX12_layDown 41 = .ok (.getfield 154, 3) := by decide +kernel
theorem dX12_layDown_44 : decode cX12_layDown 44 = .ok (.iaload, 1) := by decide +kernel
theorem dX12_layDown_45 : decode cX12_layDown 45 = .ok (.iconst 0, 1) := by decide +kernel
theorem dX12_layDown_46 : decode cX12_layDown 46 = .ok (.invokevirtual 161, 3) := by decide +kernel
theorem dX12_layDown_49 : decode cX12_layDown 49 = .ok (.aload_n 0, 1) := by decide +kernel
theorem dX12_layDown_50 : decode cX12_layDown 50 = .ok (.getfield 29, 3) := by decide +kernel
theorem dX12_layDown_53 : decode cX12_layDown 53 = .ok (.aload_n 0, 1) := by decide +kernel
theorem dX12_layDown_54 : decode cX12_layDown 54 = .ok (.getfield 154, 3) := by decide +kernel
theorem dX12_layDown_57 : decode cX12_layDown 57 = .ok (.iaload, 1) := by decide +kernel
theorem dX12_layDown_58 : decode cX12_layDown 58 = .ok (.bipush 11, 2) := by decide +kernel
theorem dX12_layDown_60 : decode cX12_layDown 60 = .ok (.if_icmp .ne (-60), 3) := by decide +kernel
theorem dX12_layDown_63 : decode cX12_layDown 63 = .ok (.aload_n 0, 1) := by decide +kernel
theorem dX12_layDown_64 : decode cX12_layDown 64 = .ok (.dup, 1) := by decide +kernel
theorem dX12_layDown_65 : decode cX12_layDown 65 = .ok (.getfield 151, 3) := by decide +kernel
theorem dX12_layDown_68 : decode cX12_layDown 68 = .ok (.iconst 1, 1) := by decide +kernel
theorem dX12_layDown_69 : decode cX12_layDown 69 = .ok (.isub, 1) := by decide +kernel
theorem dX12_layDown_70 : decode cX12_layDown 70 = .ok (.putfield 151, 3) := by decide +kernel
theorem dX12_layDown_73 : decode cX12_layDown 73 = .ok (.goto (-73), 3) := by decide +kernel
theorem dX12_layDown_76 : decode cX12_layDown 76 = .ok (.return_, 1) := by decide +kernel
theorem dX12_opens_0 : decode cX12_opens 0 = .ok (.aload_n 0, 1) := by decide +kernel
theorem dX12_opens_1 : decode cX12_opens 1 = .ok (.getfield 151, 3) := by decide +kernel
theorem dX12_opens_4 : decode cX12_opens 4 = .ok (.bipush 10, 2) := by decide +kernel
theorem dX12_opens_6 : decode cX12_opens 6 = .ok (.if_icmp .ne 13, 3) := by decide +kernel
theorem dX12_opens_9 : decode cX12_opens 9 = .ok (.aload_n 0, 1) := by decide +kernel
theorem dX12_opens_10 : decode cX12_opens 10 = .ok (.iconst 2, 1) := by decide +kernel
theorem dX12_opens_11 : decode cX12_opens 11 = .ok (.aload_n 0, 1) := by decide +kernel
theorem dX12_opens_12 : decode cX12_opens 12 = .ok (.getfield 87, 3) := by decide +kernel
theorem dX12_opens_15 : decode cX12_opens 15 = .ok (.invokevirtual 108, 3) := by decide +kernel
theorem dX12_opens_18 : decode cX12_opens 18 = .ok (.ireturn, 1) := by decide +kernel
theorem dX12_opens_19 : decode cX12_opens 19 = .ok (.aload_n 0, 1) := by decide +kernel
theorem dX12_opens_20 : decode cX12_opens 20 = .ok (.dup, 1) := by decide +kernel
theorem dX12_opens_21 : decode cX12_opens 21 = .ok (.getfield 151, 3) := by decide +kernel
theorem dX12_opens_24 : decode cX12_opens 24 = .ok (.iconst 1, 1) := by decide +kernel
theorem dX12_opens_25 : decode cX12_opens 25 = .ok (.iadd, 1) := by decide +kernel
theorem dX12_opens_26 : decode cX12_opens 26 = .ok (.putfield 151, 3) := by decide +kernel
theorem dX12_opens_29 : decode cX12_opens 29 = .ok (.aload_n 0, 1) := by decide +kernel
theorem dX12_opens_30 : decode cX12_opens 30 = .ok (.getfield 29, 3) := by decide +kernel
theorem dX12_opens_33 : decode cX12_opens 33 = .ok (.aload_n 0, 1) := by decide +kernel
theorem dX12_opens_34 : decode cX12_opens 34 = .ok (.getfield 154, 3) := by decide +kernel
theorem dX12_opens_37 : decode cX12_opens 37 = .ok (.iload_n 1, 1) := by decide +kernel
theorem dX12_opens_38 : decode cX12_opens 38 = .ok (.iastore, 1) := by decide +kernel
theorem dX12_opens_39 : decode cX12_opens 39 = .ok (.aload_n 0, 1) := by decide +kernel
theorem dX12_opens_40 : decode cX12_opens 40 = .ok (.dup, 1) := by decide +kernel
theorem dX12_opens_41 : decode cX12_opens 41 = .ok (.getfield 154, 3) := by decide +kernel
theorem dX12_opens_44 : decode cX12_opens 44 = .ok (.iconst 1, 1) := by decide +kernel
theorem dX12_opens_45 : decode cX12_opens 45 = .ok (.iadd, 1) := by decide +kernel
theorem dX12_opens_46 : decode cX12_opens 46 = .ok (.putfield 154, 3) := by decide +kernel
theorem dX12_opens_49 : decode cX12_opens 49 = .ok (.iconst 1, 1) := by decide +kernel
theorem dX12_opens_50 : decode cX12_opens 50 = .ok (.ireturn, 1) := by decide +kernel
theorem dX12_strength_0 : decode cX12_strength 0 = .ok (.iload_n 0, 1) := by decide +kernel
theorem dX12_strength_1 : decode cX12_strength 1 = .ok (.bipush 13, 2) := by decide +kernel
theorem dX12_strength_3 : decode cX12_strength 3 = .ok (.if_icmp .ne 7, 3) := by decide +kernel
theorem dX12_strength_6 : decode cX12_strength 6 = .ok (.iconst 1, 1) := by decide +kernel
theorem dX12_strength_7 : decode cX12_strength 7 = .ok (.goto 24, 3) := by decide +kernel
theorem dX12_strength_10 : decode cX12_strength 10 = .ok (.iload_n 0, 1) := by decide +kernel
theorem dX12_strength_11 : decode cX12_strength 11 = .ok (.bipush 12, 2) := by decide +kernel
theorem dX12_strength_13 : decode cX12_strength 13 = .ok (.if_icmp .ne 7, 3) := by decide +kernel
theorem dX12_strength_16 : decode cX12_strength 16 = .ok (.iconst 2, 1) := by decide +kernel
theorem dX12_strength_17 : decode cX12_strength 17 = .ok (.goto 14, 3) := by decide +kernel
theorem dX12_strength_20 : decode cX12_strength 20 = .ok (.iload_n 0, 1) := by decide +kernel
theorem dX12_strength_21 : decode cX12_strength 21 = .ok (.bipush 11, 2) := by decide +kernel
theorem dX12_strength_23 : decode cX12_strength 23 = .ok (.if_icmp .ne 7, 3) := by decide +kernel
theorem dX12_strength_26 : decode cX12_strength 26 = .ok (.iconst 3, 1) := by decide +kernel
theorem dX12_strength_27 : decode cX12_strength 27 = .ok (.goto 4, 3) := by decide +kernel
theorem dX12_strength_30 : decode cX12_strength 30 = .ok (.iconst 0, 1) := by decide +kernel
theorem dX12_strength_31 : decode cX12_strength 31 = .ok (.ireturn, 1) := by decide +kernel
theorem dX12_tested_0 : decode cX12_tested 0 = .ok (.aload_n 0, 1) := by decide +kernel
theorem dX12_tested_1 : decode cX12_tested 1 = .ok (.iconst 0, 1) := by decide +kernel
theorem dX12_tested_2 : decode cX12_tested 2 = .ok (.putfield 154, 3) := by decide +kernel
theorem dX12_tested_5 : decode cX12_tested 5 = .ok (.aload_n 0, 1) := by decide +kernel
theorem dX12_tested_6 : decode cX12_tested 6 = .ok (.iconst 0, 1) := by decide +kernel
theorem dX12_tested_7 : decode cX12_tested 7 = .ok (.putfield 151, 3) := by decide +kernel
theorem dX12_tested_10 : decode cX12_tested 10 = .ok (.iconst 1, 1) := by decide +kernel
theorem dX12_tested_11 : decode cX12_tested 11 = .ok (.istore_n 1, 1) := by decide +kernel
theorem dX12_tested_12 : decode cX12_tested 12 = .ok (.iload_n 1, 1) := by decide +kernel
theorem dX12_tested_13 : decode cX12_tested 13 = .ok (.ifCond .eq 99, 3) := by decide +kernel
theorem dX12_tested_16 : decode cX12_tested 16 = .ok (.aload_n 0, 1) := by decide +kernel
theorem dX12_tested_17 : decode cX12_tested 17 = .ok (.invokevirtual 199, 3) := by decide +kernel
theorem dX12_tested_20 : decode cX12_tested 20 = .ok (.ifCond .ne 5, 3) := by decide +kernel
theorem dX12_tested_23 : decode cX12_tested 23 = .ok (.iconst 0, 1) := by decide +kernel
theorem dX12_tested_24 : decode cX12_tested 24 = .ok (.ireturn, 1) := by decide +kernel
theorem dX12_tested_25 : decode cX12_tested 25 = .ok (.aload_n 0, 1) := by decide +kernel
theorem dX12_tested_26 : decode cX12_tested 26 = .ok (.invokevirtual 202, 3) := by decide +kernel
theorem dX12_tested_29 : decode cX12_tested 29 = .ok (.aload_n 0, 1) := by decide +kernel
theorem dX12_tested_30 : decode cX12_tested 30 = .ok (.ldc2_w 205, 3) := by decide +kernel
theorem dX12_tested_33 : decode cX12_tested 33 = .ok (.invokevirtual 98, 3) := by decide +kernel
theorem dX12_tested_36 : decode cX12_tested 36 = .ok (.ifCond .ne 13, 3) := by decide +kernel
theorem dX12_tested_39 : decode cX12_tested 39 = .ok (.aload_n 0, 1) := by decide +kernel
theorem dX12_tested_40 : decode cX12_tested 40 = .ok (.ldc2_w 207, 3) := by decide +kernel
theorem dX12_tested_43 : decode cX12_tested 43 = .ok (.invokevirtual 98, 3) := by decide +kernel
theorem dX12_tested_46 : decode cX12_tested 46 = .ok (.ifCond .eq 7, 3) := by decide +kernel
theorem dX12_tested_49 : decode cX12_tested 49 = .ok (.iconst 1, 1) := by decide +kernel
theorem dX12_tested_50 : decode cX12_tested 50 = .ok (.goto 4, 3) := by decide +kernel
theorem dX12_tested_53 : decode cX12_tested 53 = .ok (.iconst 0, 1) := by decide +kernel
theorem dX12_tested_54 : decode cX12_tested 54 = .ok (.istore_n 1, 1) := by decide +kernel
theorem dX12_tested_55 : decode cX12_tested 55 = .ok (.iload_n 1, 1) := by decide +kernel
theorem dX12_tested_56 : decode cX12_tested 56 = .ok (.ifCond .eq (-44), 3) := by decide +kernel
theorem dX12_tested_59 : decode cX12_tested 59 = .ok (.aload_n 0, 1) := by decide +kernel
theorem dX12_tested_60 : decode cX12_tested 60 = .ok (.ldc2_w 205, 3) := by decide +kernel
theorem dX12_tested_63 : decode cX12_tested 63 = .ok (.invokevirtual 98, 3) := by decide +kernel
theorem dX12_tested_66 : decode cX12_tested 66 = .ok (.ifCond .eq 8, 3) := by decide +kernel
theorem dX12_tested_69 : decode cX12_tested 69 = .ok (.bipush 12, 2) := by decide +kernel
theorem dX12_tested_71 : decode cX12_tested 71 = .ok (.goto 5, 3) := by decide +kernel
theorem dX12_tested_74 : decode cX12_tested 74 = .ok (.bipush 13, 2) := by decide +kernel
theorem dX12_tested_76 : decode cX12_tested 76 = .ok (.istore_n 2, 1) := by decide +kernel
theorem dX12_tested_77 : decode cX12_tested 77 = .ok (.aload_n 0, 1) := by decide +kernel
theorem dX12_tested_78 : decode cX12_tested 78 = .ok (.invokevirtual 102, 3) := by decide +kernel
theorem dX12_tested_81 : decode cX12_tested 81 = .ok (.aload_n 0, 1) := by decide +kernel
theorem dX12_tested_82 : decode cX12_tested 82 = .ok (.iload_n 2, 1) := by decide +kernel
theorem dX12_tested_83 : decode cX12_tested 83 = .ok (.invokestatic 157, 3) := by decide +kernel
theorem dX12_tested_86 : decode cX12_tested 86 = .ok (.invokevirtual 193, 3) := by decide +kernel
theorem dX12_tested_89 : decode cX12_tested 89 = .ok (.aload_n 0, 1) := by decide +kernel
theorem dX12_tested_90 : decode cX12_tested 90 = .ok (.getfield 29, 3) := by decide +kernel
theorem dX12_tested_93 : decode cX12_tested 93 = .ok (.aload_n 0, 1) := by decide +kernel
theorem dX12_tested_94 : decode cX12_tested 94 = .ok (.getfield 154, 3) := by decide +kernel
theorem dX12_tested_97 : decode cX12_tested 97 = .ok (.iload_n 2, 1) := by decide +kernel
theorem dX12_tested_98 : decode cX12_tested 98 = .ok (.iastore, 1) := by decide +kernel
theorem dX12_tested_99 : decode cX12_tested 99 = .ok (.aload_n 0, 1) := by decide +kernel
theorem dX12_tested_100 : decode cX12_tested 100 = .ok (.dup, 1) := by decide +kernel
theorem dX12_tested_101 : decode cX12_tested 101 = .ok (.getfield 154, 3) := by decide +kernel
theorem dX12_tested_104 : decode cX12_tested 104 = .ok (.iconst 1, 1) := by decide +kernel
theorem dX12_tested_105 : decode cX12_tested 105 = .ok (.iadd, 1) := by decide +kernel
theorem dX12_tested_106 : decode cX12_tested 106 = .ok (.putfield 154, 3) := by decide +kernel
theorem dX12_tested_109 : decode cX12_tested 109 = .ok (.goto (-97), 3) := by decide +kernel
theorem dX12_tested_112 : decode cX12_tested 112 = .ok (.aload_n 0, 1) := by decide +kernel
theorem dX12_tested_113 : decode cX12_tested 113 = .ok (.invokevirtual 196, 3) := by decide +kernel
theorem dX12_tested_116 : decode cX12_tested 116 = .ok (.ifCond .eq 18, 3) := by decide +kernel
theorem dX12_tested_119 : decode cX12_tested 119 = .ok (.aload_n 0, 1) := by decide +kernel
theorem dX12_tested_120 : decode cX12_tested 120 = .ok (.invokevirtual 90, 3) := by decide +kernel
theorem dX12_tested_123 : decode cX12_tested 123 = .ok (.pop, 1) := by decide +kernel
theorem dX12_tested_124 : decode cX12_tested 124 = .ok (.aload_n 0, 1) := by decide +kernel
theorem dX12_tested_125 : decode cX12_tested 125 = .ok (.iconst 0, 1) := by decide +kernel
theorem dX12_tested_126 : decode cX12_tested 126 = .ok (.aload_n 0, 1) := by decide +kernel
theorem dX12_tested_127 : decode cX12_tested 127 = .ok (.getfield 87, 3) := by decide +kernel
theorem dX12_tested_130 : decode cX12_tested 130 = .ok (.invokevirtual 108, 3) := by decide +kernel
theorem dX12_tested_133 : decode cX12_tested 133 = .ok (.ireturn, 1) := by decide +kernel
theorem dX12_tested_134 : decode cX12_tested 134 = .ok (.aload_n 0, 1) := by decide +kernel
theorem dX12_tested_135 : decode cX12_tested 135 = .ok (.iconst 1, 1) := by decide +kernel
theorem dX12_tested_136 : decode cX12_tested 136 = .ok (.invokevirtual 193, 3) := by decide +kernel
theorem dX12_tested_139 : decode cX12_tested 139 = .ok (.iconst 1, 1) := by decide +kernel
theorem dX12_tested_140 : decode cX12_tested 140 = .ok (.ireturn, 1) := by decide +kernel
set_option maxHeartbeats 4000000 in
set_option maxRecDepth 100000 in
theorem ct_X12_opens (l : Launch) (D : va_G) (tc : Nat → ClassId) (sk : (Nat → Nat) × (Nat → Nat)) (Ma : Nat → Nat) (Mv : Nat → Int32) (Mf : Nat → Nat → Int32) (Mj : Nat → Int64) (x1 : Int32) (pq0 : Nat) (h_nx : 0 ≤ ((Mv 2) : Int32).toInt ∧ ((Mv 2) : Int32).toInt ≤ ((Mv 0) : Int32).toInt ∧ ((Mv 0) : Int32).toInt ≤ 400) (h_ops : OpS (Mf 7) (Mv 9) pq0) (h_o : ((Mv 9) : Int32).toInt < 400) (h_w : x1.toInt = 11 ∨ x1.toInt = 91) : Ct l yX12_opens cX12_opens 2 (some .boolean) { frames := 1, cells := 0, slots := 0, locals := 22 } D tc sk [.ref (Ma 0), .int x1] [((Ma 0), .inr (12, [.ref (Ma 1), .int (Mv 0), .int (Mv 1), .ref (Ma 2), .ref (Ma 3), .ref (Ma 4), .ref (Ma 5), .ref (Ma 6), .int (Mv 2), .int (Mv 3), .int (Mv 4), .int (Mv 5), .int (Mv 6), .int (Mv 7), .int (Mv 8), .ref (Ma 7), .int (Mv 9), .ref (Ma 8), .int (Mv 10), .ref (Ma 9), .ref (Ma 10), .int (Mv 11), .int (Mv 12), .int (Mv 13), .ref (Ma 11), .int (Mv 14), .ref (Ma 12), .ref (Ma 13), .ref (Ma 14), .ref (Ma 15), .ref (Ma 16), .long (Mj 0), .ref (Ma 17), .ref (Ma 18), .ref (Ma 19), .ref (Ma 20)])), ((Ma 7), .inl (tc 0, 400, .inl (Mf 7)))] (fun (v : Option Value) (u : (Int32) × (Int32) × (Int32) × (Nat → Int32)) => match u with | (oo0x1, oo0x2, oo0x3, oo0x4) => ∃ r : Int32, v = some (.int r) ∧ (((r.toInt = 0 ∧ ¬ (oo0x1 : Int32).toInt = 0) ∨ (r.toInt = 1 ∧ (oo0x3 : Int32).toInt = ((Mv 9) : Int32).toInt + 1))) ∧ (r.toInt = 1 → (OpS oo0x4 oo0x3 pq0))) (fun (u : (Int32) × (Int32) × (Int32) × (Nat → Int32)) => match u with | (oo0x1, oo0x2, oo0x3, oo0x4) => [((Ma 0), .inr (12, [.ref (Ma 1), .int (Mv 0), .int (Mv 1), .ref (Ma 2), .ref (Ma 3), .ref (Ma 4), .ref (Ma 5), .ref (Ma 6), .int (Mv 2), .int oo0x1, .int (Mv 4), .int (Mv 5), .int (Mv 6), .int oo0x2, .int (Mv 8), .ref (Ma 7), .int oo0x3, .ref (Ma 8), .int (Mv 10), .ref (Ma 9), .ref (Ma 10), .int (Mv 11), .int (Mv 12), .int (Mv 13), .ref (Ma 11), .int (Mv 14), .ref (Ma 12), .ref (Ma 13), .ref (Ma 14), .ref (Ma 15), .ref (Ma 16), .long (Mj 0), .ref (Ma 17), .ref (Ma 18), .ref (Ma 19), .ref (Ma 20)])), ((Ma 7), .inl (tc 0, 400, .inl oo0x4))]) 0 0 := by
  refine Ct.start (by decide) (Nat.le_of_ble_eq_true rfl) (fun p e s m below meth c A ls hx hb hr hlk hin hml hown hts hK hX hP hD hA hl hS => ?_)
  have hl : lv_has ls 2 [(0, .ref (Ma 0)), (1, .int x1)] := hl
  have ar_h_ops := OpS.ar h_ops
  refine lv_aload_n hx hb dX12_opens_0 rfl (lv_at hl 0 rfl) ?_
  refine gf_X12_151 hx hb hts hown hK hP 0 rfl rfl dX12_opens_1 ?_
  refine lv_bipush (v := 10) hx hb dX12_opens_4 (by decide) ?_
  refine lv_icmp_ne (tgt := 19) hx hb dX12_opens_6 (by decide) (fun c_1 => ?_) (fun c_1 => ?_)
  · skip
    refine lv_aload_n hx hb dX12_opens_19 rfl (lv_at hl 0 rfl) ?_
    refine lv_dup hx hb dX12_opens_20 rfl ?_
    refine gf_X12_151 hx hb hts hown hK hP 0 rfl rfl dX12_opens_21 ?_
    refine lv_iconst (v := 1) hx hb dX12_opens_24 (by decide) ?_
    refine lv_iadd hx hb dX12_opens_25 ?_
    refine lv_topi (fun x_2 ex_2 => ?_)
    refine pf_X12_151 hx hb hts hown hK hP hD hS 0 rfl (Nat.le_of_ble_eq_true rfl) rfl rfl dX12_opens_26 (fun H locs hP₀ hD₀ hS₀ => ?_)
    replace hP : va_P D classes [((Ma 0), .inr (12, [.ref (Ma 1), .int (Mv 0), .int (Mv 1), .ref (Ma 2), .ref (Ma 3), .ref (Ma 4), .ref (Ma 5), .ref (Ma 6), .int (Mv 2), .int (Mv 3), .int (Mv 4), .int (Mv 5), .int (Mv 6), .int x_2, .int (Mv 8), .ref (Ma 7), .int (Mv 9), .ref (Ma 8), .int (Mv 10), .ref (Ma 9), .ref (Ma 10), .int (Mv 11), .int (Mv 12), .int (Mv 13), .ref (Ma 11), .int (Mv 14), .ref (Ma 12), .ref (Ma 13), .ref (Ma 14), .ref (Ma 15), .ref (Ma 16), .long (Mj 0), .ref (Ma 17), .ref (Ma 18), .ref (Ma 19), .ref (Ma 20)])), ((Ma 7), .inl (tc 0, 400, .inl (Mf 7)))] H := hP₀
    replace hD : va_D A [((Ma 0), .inr (12, [.ref (Ma 1), .int (Mv 0), .int (Mv 1), .ref (Ma 2), .ref (Ma 3), .ref (Ma 4), .ref (Ma 5), .ref (Ma 6), .int (Mv 2), .int (Mv 3), .int (Mv 4), .int (Mv 5), .int (Mv 6), .int x_2, .int (Mv 8), .ref (Ma 7), .int (Mv 9), .ref (Ma 8), .int (Mv 10), .ref (Ma 9), .ref (Ma 10), .int (Mv 11), .int (Mv 12), .int (Mv 13), .ref (Ma 11), .int (Mv 14), .ref (Ma 12), .ref (Ma 13), .ref (Ma 14), .ref (Ma 15), .ref (Ma 16), .long (Mj 0), .ref (Ma 17), .ref (Ma 18), .ref (Ma 19), .ref (Ma 20)])), ((Ma 7), .inl (tc 0, 400, .inl (Mf 7)))] := hD₀
    replace hS := hS₀
    clear hP₀ hD₀ hS₀
    refine lv_aload_n hx hb dX12_opens_29 rfl (lv_at hl 0 rfl) ?_
    refine gf_X12_29 hx hb hts hown hK hP 0 rfl rfl dX12_opens_30 ?_
    refine lv_aload_n hx hb dX12_opens_33 rfl (lv_at hl 0 rfl) ?_
    refine gf_X12_154 hx hb hts hown hK hP 0 rfl rfl dX12_opens_34 ?_
    refine lv_iload_n hx hb dX12_opens_37 rfl (lv_at hl 1 rfl) ?_
    have hi_3 : vp_in (Mv 9) 400 := by
      have z_1 : ¬ ((Mv 7) : Int32).toInt = (10 : Int32).toInt := fun z => c_1 (Int32.toInt_inj.mp z)
      have y_10 : (10 : Int32).toInt = 10 := by decide
      refine vp_in_iff.mpr ⟨?_, ?_⟩ <;> omega
    refine st_int hx hb hK hP hD hS 1 0 rfl rfl hi_3 dX12_opens_38 (fun g_4 H locs eg_4 hP₀ hD₀ hS₀ => ?_)
    replace hP : va_P D classes [((Ma 0), .inr (12, [.ref (Ma 1), .int (Mv 0), .int (Mv 1), .ref (Ma 2), .ref (Ma 3), .ref (Ma 4), .ref (Ma 5), .ref (Ma 6), .int (Mv 2), .int (Mv 3), .int (Mv 4), .int (Mv 5), .int (Mv 6), .int x_2, .int (Mv 8), .ref (Ma 7), .int (Mv 9), .ref (Ma 8), .int (Mv 10), .ref (Ma 9), .ref (Ma 10), .int (Mv 11), .int (Mv 12), .int (Mv 13), .ref (Ma 11), .int (Mv 14), .ref (Ma 12), .ref (Ma 13), .ref (Ma 14), .ref (Ma 15), .ref (Ma 16), .long (Mj 0), .ref (Ma 17), .ref (Ma 18), .ref (Ma 19), .ref (Ma 20)])), ((Ma 7), .inl (tc 0, 400, .inl g_4))] H := hP₀
    replace hD : va_D A [((Ma 0), .inr (12, [.ref (Ma 1), .int (Mv 0), .int (Mv 1), .ref (Ma 2), .ref (Ma 3), .ref (Ma 4), .ref (Ma 5), .ref (Ma 6), .int (Mv 2), .int (Mv 3), .int (Mv 4), .int (Mv 5), .int (Mv 6), .int x_2, .int (Mv 8), .ref (Ma 7), .int (Mv 9), .ref (Ma 8), .int (Mv 10), .ref (Ma 9), .ref (Ma 10), .int (Mv 11), .int (Mv 12), .int (Mv 13), .ref (Ma 11), .int (Mv 14), .ref (Ma 12), .ref (Ma 13), .ref (Ma 14), .ref (Ma 15), .ref (Ma 16), .long (Mj 0), .ref (Ma 17), .ref (Ma 18), .ref (Ma 19), .ref (Ma 20)])), ((Ma 7), .inl (tc 0, 400, .inl g_4))] := hD₀
    replace hS := hS₀
    clear hP₀ hD₀ hS₀
    refine lv_aload_n hx hb dX12_opens_39 rfl (lv_at hl 0 rfl) ?_
    refine lv_dup hx hb dX12_opens_40 rfl ?_
    refine gf_X12_154 hx hb hts hown hK hP 0 rfl rfl dX12_opens_41 ?_
    refine lv_iconst (v := 1) hx hb dX12_opens_44 (by decide) ?_
    refine lv_iadd hx hb dX12_opens_45 ?_
    refine lv_topi (fun x_5 ex_5 => ?_)
    refine pf_X12_154 hx hb hts hown hK hP hD hS 0 rfl (Nat.le_of_ble_eq_true rfl) rfl rfl dX12_opens_46 (fun H locs hP₀ hD₀ hS₀ => ?_)
    replace hP : va_P D classes [((Ma 0), .inr (12, [.ref (Ma 1), .int (Mv 0), .int (Mv 1), .ref (Ma 2), .ref (Ma 3), .ref (Ma 4), .ref (Ma 5), .ref (Ma 6), .int (Mv 2), .int (Mv 3), .int (Mv 4), .int (Mv 5), .int (Mv 6), .int x_2, .int (Mv 8), .ref (Ma 7), .int x_5, .ref (Ma 8), .int (Mv 10), .ref (Ma 9), .ref (Ma 10), .int (Mv 11), .int (Mv 12), .int (Mv 13), .ref (Ma 11), .int (Mv 14), .ref (Ma 12), .ref (Ma 13), .ref (Ma 14), .ref (Ma 15), .ref (Ma 16), .long (Mj 0), .ref (Ma 17), .ref (Ma 18), .ref (Ma 19), .ref (Ma 20)])), ((Ma 7), .inl (tc 0, 400, .inl g_4))] H := hP₀
    replace hD : va_D A [((Ma 0), .inr (12, [.ref (Ma 1), .int (Mv 0), .int (Mv 1), .ref (Ma 2), .ref (Ma 3), .ref (Ma 4), .ref (Ma 5), .ref (Ma 6), .int (Mv 2), .int (Mv 3), .int (Mv 4), .int (Mv 5), .int (Mv 6), .int x_2, .int (Mv 8), .ref (Ma 7), .int x_5, .ref (Ma 8), .int (Mv 10), .ref (Ma 9), .ref (Ma 10), .int (Mv 11), .int (Mv 12), .int (Mv 13), .ref (Ma 11), .int (Mv 14), .ref (Ma 12), .ref (Ma 13), .ref (Ma 14), .ref (Ma 15), .ref (Ma 16), .long (Mj 0), .ref (Ma 17), .ref (Ma 18), .ref (Ma 19), .ref (Ma 20)])), ((Ma 7), .inl (tc 0, 400, .inl g_4))] := hD₀
    replace hS := hS₀
    clear hP₀ hD₀ hS₀
    have tp_x_5 : (x_5 : Int32).toInt = ((Mv 9) : Int32).toInt + 1 := by
      have z_1 : ¬ ((Mv 7) : Int32).toInt = (10 : Int32).toInt := fun z => c_1 (Int32.toInt_inj.mp z)
      have y_10 : (10 : Int32).toInt = 10 := by decide
      have y_1 : (1 : Int32).toInt = 1 := by decide
      have t_x_5 : x_5.toInt = ((Mv 9) : Int32).toInt + (1 : Int32).toInt := by rw [ex_5]; exact add_toInt (by omega) (by omega)
      omega
    refine lv_iconst (v := 1) hx hb dX12_opens_49 (by decide) ?_
    have hp_6 : (((1 : Int32).toInt = 0 ∧ ¬ ((Mv 3) : Int32).toInt = 0) ∨ ((1 : Int32).toInt = 1 ∧ (x_5 : Int32).toInt = ((Mv 9) : Int32).toInt + 1)) := by
      have z_1 : ¬ ((Mv 7) : Int32).toInt = (10 : Int32).toInt := fun z => c_1 (Int32.toInt_inj.mp z)
      have y_10 : (10 : Int32).toInt = 10 := by decide
      have y_1 : (1 : Int32).toInt = 1 := by decide
      have t_x_5 : x_5.toInt = ((Mv 9) : Int32).toInt + (1 : Int32).toInt := by rw [ex_5]; exact add_toInt (by omega) (by omega)
      have yr : (1 : Int32).toInt = 1 := by decide
      omega
    have hm_7 : (1 : Int32).toInt = 1 → (OpS g_4 x_5 pq0) := by
      intro h1r
      have hi_10 : (x_5 : Int32).toInt = ((Mv 9) : Int32).toInt + 1 := by
        have z_1 : ¬ ((Mv 7) : Int32).toInt = (10 : Int32).toInt := fun z => c_1 (Int32.toInt_inj.mp z)
        have y_10 : (10 : Int32).toInt = 10 := by decide
        have y_1 : (1 : Int32).toInt = 1 := by decide
        have t_x_5 : x_5.toInt = ((Mv 9) : Int32).toInt + (1 : Int32).toInt := by rw [ex_5]; exact add_toInt (by omega) (by omega)
        omega
      have hr_11 : ((Mv 9) : Int32).toInt < 400 := by
        have z_1 : ¬ ((Mv 7) : Int32).toInt = (10 : Int32).toInt := fun z => c_1 (Int32.toInt_inj.mp z)
        have y_10 : (10 : Int32).toInt = 10 := by decide
        omega
      have hr_12 : (x1 : Int32).toInt = 11 ∨ (x1 : Int32).toInt = 12 ∨ (x1 : Int32).toInt = 13 ∨ (x1 : Int32).toInt = 91 := by
        have z_1 : ¬ ((Mv 7) : Int32).toInt = (10 : Int32).toInt := fun z => c_1 (Int32.toInt_inj.mp z)
        have y_10 : (10 : Int32).toInt = 10 := by decide
        omega
      have hq_9 := OpS.push h_ops eg_4 hi_10 hr_11 hr_12
      have hr_13 : ¬ ((x1 : Int32).toInt = 12 ∨ (x1 : Int32).toInt = 13) := by
        have z_1 : ¬ ((Mv 7) : Int32).toInt = (10 : Int32).toInt := fun z => c_1 (Int32.toInt_inj.mp z)
        have y_10 : (10 : Int32).toInt = 10 := by decide
        omega
      rw [if_neg hr_13] at hq_9
      have ha_8 : OpS g_4 x_5 pq0 := hq_9
      exact ha_8
    exact retI (v := 1) hx hb hr hlk (rfl) hP hD hS ((Mv 3), x_2, x_5, g_4) ⟨_, rfl, hp_6, hm_7⟩ [0, 1] rfl rfl dX12_opens_50 (Nat.le_of_ble_eq_true rfl) (Nat.le_of_ble_eq_true rfl) rfl
  · skip
    refine lv_aload_n hx hb dX12_opens_9 rfl (lv_at hl 0 rfl) ?_
    refine lv_iconst (v := 2) hx hb dX12_opens_10 (by decide) ?_
    refine lv_aload_n hx hb dX12_opens_11 rfl (lv_at hl 0 rfl) ?_
    refine gf_X12_87 hx hb hts hown hK hP 0 rfl rfl dX12_opens_12 ?_
    have ha_14 : 0 ≤ (2 : Int32).toInt ∧ (2 : Int32).toInt ≤ 4 := by
      have z_1 := congrArg Int32.toInt c_1
      have y_10 : (10 : Int32).toInt = 10 := by decide
      have y_2 : (2 : Int32).toInt = 2 := by decide
      refine ⟨?_, ?_⟩ <;> omega
    have ha_15 : 0 ≤ (Mv 2).toInt ∧ (Mv 2).toInt ≤ 400 := by
      have z_1 := congrArg Int32.toInt c_1
      have y_10 : (10 : Int32).toInt = 10 := by decide
      refine ⟨?_, ?_⟩ <;> omega
    refine cV (a := (Ma 0)) (As := [.int 2, .int (Mv 2)]) (rest := []) (wr := [((Ma 7), .inl (tc 0, 400, .inl (Mf 7)))]) ⟨hx, hb, hml, hown, hts⟩ hK hX hA (cu_X12_fails l D tc sk (Ma 0) (Ma 1) (Ma 2) (Ma 3) (Ma 4) (Ma 5) (Ma 6) (Ma 7) (Ma 8) (Ma 9) (Ma 10) (Ma 11) (Ma 12) (Ma 13) (Ma 14) (Ma 15) (Ma 16) (Ma 17) (Ma 18) (Ma 19) (Ma 20) (Mv 0) (Mv 1) (Mv 2) (Mv 3) (Mv 4) (Mv 5) (Mv 6) (Mv 7) (Mv 8) (Mv 9) (Mv 10) (Mv 11) (Mv 12) (Mv 13) (Mv 14) (Mj 0) 2 (Mv 2) ha_14 ha_15) k_1232 k_1229 k_1231 k_31 k_106 pl_X12_fails ⟨Nat.le_of_ble_eq_true rfl, Nat.le_of_ble_eq_true rfl⟩ rfl rfl (va_recv hK hP (ci := 12) (q0 := 0) rfl rfl) hP hD hS [0] [1] rfl rfl rfl rfl rfl (by decide) rfl hl.1 rfl (Nat.le_of_ble_eq_true rfl) dX12_opens_15 ⟨Nat.le_of_ble_eq_true rfl, Nat.le_of_ble_eq_true rfl⟩ (fun v_16 u_17 H locs hv_18 hP₀ hD₀ hS₀ => ?_)
    obtain ⟨sv_19, rfl⟩ : ∃ z, z = u_17 := ⟨_, rfl⟩
    obtain ⟨r_21, rfl, he_22, pf_20⟩ := hv_18
    have he_22 : r_21.toInt = 0 := he_22
    have pf_20 : ¬ (sv_19 : Int32).toInt = 0 := pf_20
    refine W.eq (g2 := F0 m 18 ls [.int r_21]) rfl ?_
    replace hP : va_P D classes [((Ma 7), .inl (tc 0, 400, .inl (Mf 7))), ((Ma 0), .inr (12, [.ref (Ma 1), .int (Mv 0), .int (Mv 1), .ref (Ma 2), .ref (Ma 3), .ref (Ma 4), .ref (Ma 5), .ref (Ma 6), .int (Mv 2), .int sv_19, .int (Mv 4), .int (Mv 5), .int (Mv 6), .int (Mv 7), .int (Mv 8), .ref (Ma 7), .int (Mv 9), .ref (Ma 8), .int (Mv 10), .ref (Ma 9), .ref (Ma 10), .int (Mv 11), .int (Mv 12), .int (Mv 13), .ref (Ma 11), .int (Mv 14), .ref (Ma 12), .ref (Ma 13), .ref (Ma 14), .ref (Ma 15), .ref (Ma 16), .long (Mj 0), .ref (Ma 17), .ref (Ma 18), .ref (Ma 19), .ref (Ma 20)]))] H := hP₀
    replace hD : va_D A [((Ma 7), .inl (tc 0, 400, .inl (Mf 7))), ((Ma 0), .inr (12, [.ref (Ma 1), .int (Mv 0), .int (Mv 1), .ref (Ma 2), .ref (Ma 3), .ref (Ma 4), .ref (Ma 5), .ref (Ma 6), .int (Mv 2), .int sv_19, .int (Mv 4), .int (Mv 5), .int (Mv 6), .int (Mv 7), .int (Mv 8), .ref (Ma 7), .int (Mv 9), .ref (Ma 8), .int (Mv 10), .ref (Ma 9), .ref (Ma 10), .int (Mv 11), .int (Mv 12), .int (Mv 13), .ref (Ma 11), .int (Mv 14), .ref (Ma 12), .ref (Ma 13), .ref (Ma 14), .ref (Ma 15), .ref (Ma 16), .long (Mj 0), .ref (Ma 17), .ref (Ma 18), .ref (Ma 19), .ref (Ma 20)]))] := hD₀
    replace hS := hS₀
    clear hP₀ hD₀ hS₀
    have hb_24 : (r_21 : Int32).toInt = 0 ∨ (r_21 : Int32).toInt = 1 := by
      have z_1 := congrArg Int32.toInt c_1
      have y_10 : (10 : Int32).toInt = 10 := by decide
      omega
    have hp_25 : (((r_21 : Int32).toInt = 0 ∧ ¬ (sv_19 : Int32).toInt = 0) ∨ ((r_21 : Int32).toInt = 1 ∧ ((Mv 9) : Int32).toInt = ((Mv 9) : Int32).toInt + 1)) := by
      have z_1 := congrArg Int32.toInt c_1
      have y_10 : (10 : Int32).toInt = 10 := by decide
      omega
    have hm_26 : (r_21 : Int32).toInt = 1 → (OpS (Mf 7) (Mv 9) pq0) := by
      intro h1r
      exfalso
      have z_1 := congrArg Int32.toInt c_1
      have y_10 : (10 : Int32).toInt = 10 := by decide
      omega
    exact retI (v := r_21) hx hb hr hlk (nar01 hb_24) hP hD hS (sv_19, (Mv 7), (Mv 9), (Mf 7)) ⟨_, rfl, hp_25, hm_26⟩ [1, 0] rfl rfl dX12_opens_18 (Nat.le_of_ble_eq_true rfl) (Nat.le_of_ble_eq_true rfl) rfl
set_option maxRecDepth 100000 in
theorem cu_X12_opens (l : Launch) (D : va_G) (tc : Nat → ClassId) (sk : (Nat → Nat) × (Nat → Nat)) (Ma_0 : Nat) (Ma_1 : Nat) (Ma_2 : Nat) (Ma_3 : Nat) (Ma_4 : Nat) (Ma_5 : Nat) (Ma_6 : Nat) (Ma_7 : Nat) (Ma_8 : Nat) (Ma_9 : Nat) (Ma_10 : Nat) (Ma_11 : Nat) (Ma_12 : Nat) (Ma_13 : Nat) (Ma_14 : Nat) (Ma_15 : Nat) (Ma_16 : Nat) (Ma_17 : Nat) (Ma_18 : Nat) (Ma_19 : Nat) (Ma_20 : Nat) (Mv_0 : Int32) (Mv_1 : Int32) (Mv_2 : Int32) (Mv_3 : Int32) (Mv_4 : Int32) (Mv_5 : Int32) (Mv_6 : Int32) (Mv_7 : Int32) (Mv_8 : Int32) (Mv_9 : Int32) (Mv_10 : Int32) (Mv_11 : Int32) (Mv_12 : Int32) (Mv_13 : Int32) (Mv_14 : Int32) (Mf_7 : Nat → Int32) (Mj_0 : Int64) (x1 : Int32) (pq0 : Nat) (h_nx : 0 ≤ (Mv_2 : Int32).toInt ∧ (Mv_2 : Int32).toInt ≤ (Mv_0 : Int32).toInt ∧ (Mv_0 : Int32).toInt ≤ 400) (h_ops : OpS Mf_7 Mv_9 pq0) (h_o : (Mv_9 : Int32).toInt < 400) (h_w : x1.toInt = 11 ∨ x1.toInt = 91) : Ct l yX12_opens cX12_opens 2 (some .boolean) { frames := 1, cells := 0, slots := 0, locals := 22 } D tc sk [.ref Ma_0, .int x1] [(Ma_0, .inr (12, [.ref Ma_1, .int Mv_0, .int Mv_1, .ref Ma_2, .ref Ma_3, .ref Ma_4, .ref Ma_5, .ref Ma_6, .int Mv_2, .int Mv_3, .int Mv_4, .int Mv_5, .int Mv_6, .int Mv_7, .int Mv_8, .ref Ma_7, .int Mv_9, .ref Ma_8, .int Mv_10, .ref Ma_9, .ref Ma_10, .int Mv_11, .int Mv_12, .int Mv_13, .ref Ma_11, .int Mv_14, .ref Ma_12, .ref Ma_13, .ref Ma_14, .ref Ma_15, .ref Ma_16, .long Mj_0, .ref Ma_17, .ref Ma_18, .ref Ma_19, .ref Ma_20])), (Ma_7, .inl (tc 0, 400, .inl Mf_7))] (fun (v : Option Value) (u : (Int32) × (Int32) × (Int32) × (Nat → Int32)) => match u with | (oo0x1, oo0x2, oo0x3, oo0x4) => ∃ r : Int32, v = some (.int r) ∧ (((r.toInt = 0 ∧ ¬ (oo0x1 : Int32).toInt = 0) ∨ (r.toInt = 1 ∧ (oo0x3 : Int32).toInt = (Mv_9 : Int32).toInt + 1))) ∧ (r.toInt = 1 → (OpS oo0x4 oo0x3 pq0))) (fun (u : (Int32) × (Int32) × (Int32) × (Nat → Int32)) => match u with | (oo0x1, oo0x2, oo0x3, oo0x4) => [(Ma_0, .inr (12, [.ref Ma_1, .int Mv_0, .int Mv_1, .ref Ma_2, .ref Ma_3, .ref Ma_4, .ref Ma_5, .ref Ma_6, .int Mv_2, .int oo0x1, .int Mv_4, .int Mv_5, .int Mv_6, .int oo0x2, .int Mv_8, .ref Ma_7, .int oo0x3, .ref Ma_8, .int Mv_10, .ref Ma_9, .ref Ma_10, .int Mv_11, .int Mv_12, .int Mv_13, .ref Ma_11, .int Mv_14, .ref Ma_12, .ref Ma_13, .ref Ma_14, .ref Ma_15, .ref Ma_16, .long Mj_0, .ref Ma_17, .ref Ma_18, .ref Ma_19, .ref Ma_20])), (Ma_7, .inl (tc 0, 400, .inl oo0x4))]) 0 0 :=
  ct_X12_opens l D tc sk (fun k => ([Ma_0, Ma_1, Ma_2, Ma_3, Ma_4, Ma_5, Ma_6, Ma_7, Ma_8, Ma_9, Ma_10, Ma_11, Ma_12, Ma_13, Ma_14, Ma_15, Ma_16, Ma_17, Ma_18, Ma_19, Ma_20] : List (Nat)).getD k 0) (fun k => ([Mv_0, Mv_1, Mv_2, Mv_3, Mv_4, Mv_5, Mv_6, Mv_7, Mv_8, Mv_9, Mv_10, Mv_11, Mv_12, Mv_13, Mv_14] : List (Int32)).getD k 0) (fun k => ([(fun _ => 0), (fun _ => 0), (fun _ => 0), (fun _ => 0), (fun _ => 0), (fun _ => 0), (fun _ => 0), Mf_7] : List (Nat → Int32)).getD k (fun _ => 0)) (fun k => ([Mj_0] : List (Int64)).getD k 0) x1 pq0 h_nx h_ops h_o h_w
set_option maxHeartbeats 4000000 in
set_option maxRecDepth 100000 in
theorem ct_X12_strength (l : Launch) (D : va_G) (tc : Nat → ClassId) (sk : (Nat → Nat) × (Nat → Nat)) (x1 : Int32)  : Ct l yX12_strength cX12_strength 1 (some .int) { frames := 0, cells := 0, slots := 0, locals := 0 } D tc sk [.int x1] [] (fun (v : Option Value) (_ : Unit) => ∃ r : Int32, v = some (.int r) ∧ (((x1.toInt = 13 ∧ r.toInt = 1) ∨ (x1.toInt = 12 ∧ r.toInt = 2) ∨ (x1.toInt = 11 ∧ r.toInt = 3) ∨ (x1.toInt ≠ 13 ∧ x1.toInt ≠ 12 ∧ x1.toInt ≠ 11 ∧ r.toInt = 0)))) (fun (_ : Unit) => []) 0 0 := by
  refine Ct.start (by decide) (Nat.le_of_ble_eq_true rfl) (fun p e s m below meth c A ls hx hb hr hlk hin hml hown hts hK hX hP hD hA hl hS => ?_)
  have hl : lv_has ls 1 [(0, .int x1)] := hl
  refine lv_iload_n hx hb dX12_strength_0 rfl (lv_at hl 0 rfl) ?_
  refine lv_bipush (v := 13) hx hb dX12_strength_1 (by decide) ?_
  refine lv_icmp_ne (tgt := 10) hx hb dX12_strength_3 (by decide) (fun c_1 => ?_) (fun c_1 => ?_)
  · skip
    refine lv_iload_n hx hb dX12_strength_10 rfl (lv_at hl 0 rfl) ?_
    refine lv_bipush (v := 12) hx hb dX12_strength_11 (by decide) ?_
    refine lv_icmp_ne (tgt := 20) hx hb dX12_strength_13 (by decide) (fun c_2 => ?_) (fun c_2 => ?_)
    · skip
      refine lv_iload_n hx hb dX12_strength_20 rfl (lv_at hl 0 rfl) ?_
      refine lv_bipush (v := 11) hx hb dX12_strength_21 (by decide) ?_
      refine lv_icmp_ne (tgt := 30) hx hb dX12_strength_23 (by decide) (fun c_3 => ?_) (fun c_3 => ?_)
      · skip
        refine lv_iconst (v := 0) hx hb dX12_strength_30 (by decide) ?_
        have hp_4 : ((x1.toInt = 13 ∧ (0 : Int32).toInt = 1) ∨ (x1.toInt = 12 ∧ (0 : Int32).toInt = 2) ∨ (x1.toInt = 11 ∧ (0 : Int32).toInt = 3) ∨ (x1.toInt ≠ 13 ∧ x1.toInt ≠ 12 ∧ x1.toInt ≠ 11 ∧ (0 : Int32).toInt = 0)) := by
          have z_1 : ¬ (x1 : Int32).toInt = (13 : Int32).toInt := fun z => c_1 (Int32.toInt_inj.mp z)
          have z_2 : ¬ (x1 : Int32).toInt = (12 : Int32).toInt := fun z => c_2 (Int32.toInt_inj.mp z)
          have z_3 : ¬ (x1 : Int32).toInt = (11 : Int32).toInt := fun z => c_3 (Int32.toInt_inj.mp z)
          have y_11 : (11 : Int32).toInt = 11 := by decide
          have y_12 : (12 : Int32).toInt = 12 := by decide
          have y_13 : (13 : Int32).toInt = 13 := by decide
          have y_0 : (0 : Int32).toInt = 0 := by decide
          have yr : (0 : Int32).toInt = 0 := by decide
          omega
        exact retI (v := 0) hx hb hr hlk (rfl) hP hD hS () ⟨_, rfl, hp_4⟩ [] rfl rfl dX12_strength_31 (Nat.le_of_ble_eq_true rfl) (Nat.le_of_ble_eq_true rfl) rfl
      · skip
        refine lv_iconst (v := 3) hx hb dX12_strength_26 (by decide) ?_
        refine lv_goto (tgt := 31) hx hb dX12_strength_27 (by decide) ?_
        have hp_5 : ((x1.toInt = 13 ∧ (3 : Int32).toInt = 1) ∨ (x1.toInt = 12 ∧ (3 : Int32).toInt = 2) ∨ (x1.toInt = 11 ∧ (3 : Int32).toInt = 3) ∨ (x1.toInt ≠ 13 ∧ x1.toInt ≠ 12 ∧ x1.toInt ≠ 11 ∧ (3 : Int32).toInt = 0)) := by
          have z_1 : ¬ (x1 : Int32).toInt = (13 : Int32).toInt := fun z => c_1 (Int32.toInt_inj.mp z)
          have z_2 : ¬ (x1 : Int32).toInt = (12 : Int32).toInt := fun z => c_2 (Int32.toInt_inj.mp z)
          have z_3 := congrArg Int32.toInt c_3
          have y_11 : (11 : Int32).toInt = 11 := by decide
          have y_12 : (12 : Int32).toInt = 12 := by decide
          have y_13 : (13 : Int32).toInt = 13 := by decide
          have y_3 : (3 : Int32).toInt = 3 := by decide
          have yr : (3 : Int32).toInt = 3 := by decide
          omega
        exact retI (v := 3) hx hb hr hlk (rfl) hP hD hS () ⟨_, rfl, hp_5⟩ [] rfl rfl dX12_strength_31 (Nat.le_of_ble_eq_true rfl) (Nat.le_of_ble_eq_true rfl) rfl
    · skip
      refine lv_iconst (v := 2) hx hb dX12_strength_16 (by decide) ?_
      refine lv_goto (tgt := 31) hx hb dX12_strength_17 (by decide) ?_
      have hp_6 : ((x1.toInt = 13 ∧ (2 : Int32).toInt = 1) ∨ (x1.toInt = 12 ∧ (2 : Int32).toInt = 2) ∨ (x1.toInt = 11 ∧ (2 : Int32).toInt = 3) ∨ (x1.toInt ≠ 13 ∧ x1.toInt ≠ 12 ∧ x1.toInt ≠ 11 ∧ (2 : Int32).toInt = 0)) := by
        have z_1 : ¬ (x1 : Int32).toInt = (13 : Int32).toInt := fun z => c_1 (Int32.toInt_inj.mp z)
        have z_2 := congrArg Int32.toInt c_2
        have y_12 : (12 : Int32).toInt = 12 := by decide
        have y_13 : (13 : Int32).toInt = 13 := by decide
        have y_2 : (2 : Int32).toInt = 2 := by decide
        have yr : (2 : Int32).toInt = 2 := by decide
        omega
      exact retI (v := 2) hx hb hr hlk (rfl) hP hD hS () ⟨_, rfl, hp_6⟩ [] rfl rfl dX12_strength_31 (Nat.le_of_ble_eq_true rfl) (Nat.le_of_ble_eq_true rfl) rfl
  · skip
    refine lv_iconst (v := 1) hx hb dX12_strength_6 (by decide) ?_
    refine lv_goto (tgt := 31) hx hb dX12_strength_7 (by decide) ?_
    have hp_7 : ((x1.toInt = 13 ∧ (1 : Int32).toInt = 1) ∨ (x1.toInt = 12 ∧ (1 : Int32).toInt = 2) ∨ (x1.toInt = 11 ∧ (1 : Int32).toInt = 3) ∨ (x1.toInt ≠ 13 ∧ x1.toInt ≠ 12 ∧ x1.toInt ≠ 11 ∧ (1 : Int32).toInt = 0)) := by
      have z_1 := congrArg Int32.toInt c_1
      have y_13 : (13 : Int32).toInt = 13 := by decide
      have y_1 : (1 : Int32).toInt = 1 := by decide
      have yr : (1 : Int32).toInt = 1 := by decide
      omega
    exact retI (v := 1) hx hb hr hlk (rfl) hP hD hS () ⟨_, rfl, hp_7⟩ [] rfl rfl dX12_strength_31 (Nat.le_of_ble_eq_true rfl) (Nat.le_of_ble_eq_true rfl) rfl

set_option maxHeartbeats 4000000 in
set_option maxRecDepth 100000 in
theorem ct_X12_layDown (l : Launch) (D : va_G) (tc : Nat → ClassId) (sk : (Nat → Nat) × (Nat → Nat)) (Ma : Nat → Nat) (Mv : Nat → Int32) (Mf : Nat → Nat → Int32) (Mj : Nat → Int64) (x1 : Int32) (b : Int32) (h_ls : LSR (Mf 7) (Mv 9) (Mf 2) (Mf 3) (Mv 5) b (Mv 6)) (h_x : 1 ≤ x1.toInt ∧ x1.toInt ≤ 3) (h_s : ((Mf 3) (Mv 5).toNatClampNeg).toInt + ((Mv 9) : Int32).toInt ≤ 400) : Ct l yX12_layDown cX12_layDown 2 none { frames := 1, cells := 0, slots := 0, locals := 22 } D tc sk [.ref (Ma 0), .int x1] [((Ma 0), .inr (12, [.ref (Ma 1), .int (Mv 0), .int (Mv 1), .ref (Ma 2), .ref (Ma 3), .ref (Ma 4), .ref (Ma 5), .ref (Ma 6), .int (Mv 2), .int (Mv 3), .int (Mv 4), .int (Mv 5), .int (Mv 6), .int (Mv 7), .int (Mv 8), .ref (Ma 7), .int (Mv 9), .ref (Ma 8), .int (Mv 10), .ref (Ma 9), .ref (Ma 10), .int (Mv 11), .int (Mv 12), .int (Mv 13), .ref (Ma 11), .int (Mv 14), .ref (Ma 12), .ref (Ma 13), .ref (Ma 14), .ref (Ma 15), .ref (Ma 16), .long (Mj 0), .ref (Ma 17), .ref (Ma 18), .ref (Ma 19), .ref (Ma 20)])), ((Ma 2), .inl (tc 0, 2400, .inl (Mf 2))), ((Ma 3), .inl (tc 0, 7, .inl (Mf 3))), ((Ma 7), .inl (tc 0, 400, .inl (Mf 7)))] (fun (v : Option Value) (u : (Int32) × (Int32) × (Nat → Int32) × (Nat → Int32)) => match u with | (oo0x1, oo0x2, oo0x3, oo0x4) => v = none ∧ (LSR (Mf 7) oo0x2 oo0x3 oo0x4 (Mv 5) b (Mv 6)) ∧ ((oo0x4 (Mv 5).toNatClampNeg).toInt + (oo0x2 : Int32).toInt = ((Mf 3) (Mv 5).toNatClampNeg).toInt + ((Mv 9) : Int32).toInt ∧ 0 ≤ (oo0x2 : Int32).toInt ∧ (oo0x2 : Int32).toInt ≤ ((Mv 9) : Int32).toInt) ∧ (Agr (Mf 2) oo0x3 (400 * ((Mv 5) : Int32).toInt + ((Mf 3) (Mv 5).toNatClampNeg).toInt)) ∧ (LdE (Mf 7) oo0x2 x1) ∧ (InK (Mf 7) (Mv 9) oo0x2)) (fun (u : (Int32) × (Int32) × (Nat → Int32) × (Nat → Int32)) => match u with | (oo0x1, oo0x2, oo0x3, oo0x4) => [((Ma 0), .inr (12, [.ref (Ma 1), .int (Mv 0), .int (Mv 1), .ref (Ma 2), .ref (Ma 3), .ref (Ma 4), .ref (Ma 5), .ref (Ma 6), .int (Mv 2), .int (Mv 3), .int (Mv 4), .int (Mv 5), .int (Mv 6), .int oo0x1, .int (Mv 8), .ref (Ma 7), .int oo0x2, .ref (Ma 8), .int (Mv 10), .ref (Ma 9), .ref (Ma 10), .int (Mv 11), .int (Mv 12), .int (Mv 13), .ref (Ma 11), .int (Mv 14), .ref (Ma 12), .ref (Ma 13), .ref (Ma 14), .ref (Ma 15), .ref (Ma 16), .long (Mj 0), .ref (Ma 17), .ref (Ma 18), .ref (Ma 19), .ref (Ma 20)])), ((Ma 2), .inl (tc 0, 2400, .inl oo0x3)), ((Ma 3), .inl (tc 0, 7, .inl oo0x4)), ((Ma 7), .inl (tc 0, 400, .inl (Mf 7)))]) 0 0 := by
  refine Ct.start (by decide) (Nat.le_of_ble_eq_true rfl) (fun p e s m below meth c A ls hx hb hr hlk hin hml hown hts hK hX hP hD hA hl hS => ?_)
  have hl : lv_has ls 2 [(0, .ref (Ma 0)), (1, .int x1)] := hl
  obtain ⟨pn_1, pf_2, pf_3⟩ := id h_ls
  have ar_h_ls := LSR.ar h_ls
  have ar_pf_3 := Cd.ar pf_3
  have loop_14 : ∀ (n_12 : Nat) (vy_8 : Int32) (vy_9 : Nat → Int32) (vy_10 : Nat → Int32) (vy_11 : Int32) (H : Heap) (locs : List Loc) (ls : Array Slot), ((vy_8 : Int32).toInt).toNat < n_12 → (LSR (Mf 7) vy_8 vy_9 vy_10 (Mv 5) b (Mv 6)) → ((vy_10 (Mv 5).toNatClampNeg).toInt + (vy_8 : Int32).toInt = ((Mf 3) (Mv 5).toNatClampNeg).toInt + ((Mv 9) : Int32).toInt ∧ 0 ≤ (vy_8 : Int32).toInt ∧ (vy_8 : Int32).toInt ≤ ((Mv 9) : Int32).toInt) → (Agr (Mf 2) vy_9 (400 * ((Mv 5) : Int32).toInt + ((Mf 3) (Mv 5).toNatClampNeg).toInt)) → (InK (Mf 7) (Mv 9) vy_8) → va_P D classes [((Ma 0), .inr (12, [.ref (Ma 1), .int (Mv 0), .int (Mv 1), .ref (Ma 2), .ref (Ma 3), .ref (Ma 4), .ref (Ma 5), .ref (Ma 6), .int (Mv 2), .int (Mv 3), .int (Mv 4), .int (Mv 5), .int (Mv 6), .int vy_11, .int (Mv 8), .ref (Ma 7), .int vy_8, .ref (Ma 8), .int (Mv 10), .ref (Ma 9), .ref (Ma 10), .int (Mv 11), .int (Mv 12), .int (Mv 13), .ref (Ma 11), .int (Mv 14), .ref (Ma 12), .ref (Ma 13), .ref (Ma 14), .ref (Ma 15), .ref (Ma 16), .long (Mj 0), .ref (Ma 17), .ref (Ma 18), .ref (Ma 19), .ref (Ma 20)])), ((Ma 2), .inl (tc 0, 2400, .inl vy_9)), ((Ma 3), .inl (tc 0, 7, .inl vy_10)), ((Ma 7), .inl (tc 0, 400, .inl (Mf 7)))] H → va_D A [((Ma 0), .inr (12, [.ref (Ma 1), .int (Mv 0), .int (Mv 1), .ref (Ma 2), .ref (Ma 3), .ref (Ma 4), .ref (Ma 5), .ref (Ma 6), .int (Mv 2), .int (Mv 3), .int (Mv 4), .int (Mv 5), .int (Mv 6), .int vy_11, .int (Mv 8), .ref (Ma 7), .int vy_8, .ref (Ma 8), .int (Mv 10), .ref (Ma 9), .ref (Ma 10), .int (Mv 11), .int (Mv 12), .int (Mv 13), .ref (Ma 11), .int (Mv 14), .ref (Ma 12), .ref (Ma 13), .ref (Ma 14), .ref (Ma 15), .ref (Ma 16), .long (Mj 0), .ref (Ma 17), .ref (Ma 18), .ref (Ma 19), .ref (Ma 20)])), ((Ma 2), .inl (tc 0, 2400, .inl vy_9)), ((Ma 3), .inl (tc 0, 7, .inl vy_10)), ((Ma 7), .inl (tc 0, 400, .inl (Mf 7)))] → va_S A s.heap H locs → lv_has ls 2 [(0, .ref (Ma 0)), (1, .int x1)] → W p l e ({ frames := 1, cells := 0, slots := 0, locals := 22 }) s m ([.ref (Ma 0), .int x1].toArray) below meth c H locs 0 0 (MQ below (QW (fun (v : Option Value) (u : (Int32) × (Int32) × (Nat → Int32) × (Nat → Int32)) => match u with | (oo0x1, oo0x2, oo0x3, oo0x4) => v = none ∧ (LSR (Mf 7) oo0x2 oo0x3 oo0x4 (Mv 5) b (Mv 6)) ∧ ((oo0x4 (Mv 5).toNatClampNeg).toInt + (oo0x2 : Int32).toInt = ((Mf 3) (Mv 5).toNatClampNeg).toInt + ((Mv 9) : Int32).toInt ∧ 0 ≤ (oo0x2 : Int32).toInt ∧ (oo0x2 : Int32).toInt ≤ ((Mv 9) : Int32).toInt) ∧ (Agr (Mf 2) oo0x3 (400 * ((Mv 5) : Int32).toInt + ((Mf 3) (Mv 5).toNatClampNeg).toInt)) ∧ (LdE (Mf 7) oo0x2 x1) ∧ (InK (Mf 7) (Mv 9) oo0x2)) (BW D (fun (u : (Int32) × (Int32) × (Nat → Int32) × (Nat → Int32)) => match u with | (oo0x1, oo0x2, oo0x3, oo0x4) => [((Ma 0), .inr (12, [.ref (Ma 1), .int (Mv 0), .int (Mv 1), .ref (Ma 2), .ref (Ma 3), .ref (Ma 4), .ref (Ma 5), .ref (Ma 6), .int (Mv 2), .int (Mv 3), .int (Mv 4), .int (Mv 5), .int (Mv 6), .int oo0x1, .int (Mv 8), .ref (Ma 7), .int oo0x2, .ref (Ma 8), .int (Mv 10), .ref (Ma 9), .ref (Ma 10), .int (Mv 11), .int (Mv 12), .int (Mv 13), .ref (Ma 11), .int (Mv 14), .ref (Ma 12), .ref (Ma 13), .ref (Ma 14), .ref (Ma 15), .ref (Ma 16), .long (Mj 0), .ref (Ma 17), .ref (Ma 18), .ref (Ma 19), .ref (Ma 20)])), ((Ma 2), .inl (tc 0, 2400, .inl oo0x3)), ((Ma 3), .inl (tc 0, 7, .inl oo0x4)), ((Ma 7), .inl (tc 0, 400, .inl (Mf 7)))]) A) A) ([.ref (Ma 0), .int x1].toArray) s 0 0 A) (F0 m 0 ls []) := by
    clear hP hD hS hl
    intro n_12
    induction n_12 with
    | zero =>
      intro vy_8 vy_9 vy_10 vy_11 H locs ls h1
      exact absurd h1 (Nat.not_lt_zero _)
    | succ n_12 ih_13 =>
      intro vy_8 vy_9 vy_10 vy_11 H locs ls hn_19 pf_15 pf_16 pf_17 pf_18 hP hD hS hl
      obtain ⟨pn_20, pf_21, pf_22⟩ := id pf_15
      have ar_pf_15 := LSR.ar pf_15
      have ar_pf_22 := Cd.ar pf_22
      refine lv_aload_n hx hb dX12_layDown_0 rfl (lv_at hl 0 rfl) ?_
      refine gf_X12_154 hx hb hts hown hK hP 0 rfl rfl dX12_layDown_1 ?_
      refine lv_if_le (tgt := 76) hx hb dX12_layDown_4 (by decide) (fun c_23 => ?_) (fun c_23 => ?_)
      · skip
        have hr_24 : (vy_8 : Int32).toInt = 0 := by
          have z_1 := Int32.le_iff_toInt_le.mp c_23
          have y_0 : (0 : Int32).toInt = 0 := by decide
          omega
        exact retV hx hb hr hlk hP hD hS (vy_11, vy_8, vy_9, vy_10) ⟨rfl, pf_15, pf_16, pf_17, (Or.inl hr_24), pf_18⟩ [0, 1, 2, 3] rfl rfl dX12_layDown_76 (Nat.le_of_ble_eq_true rfl) (Nat.le_of_ble_eq_true rfl) rfl
      · skip
        refine lv_aload_n hx hb dX12_layDown_7 rfl (lv_at hl 0 rfl) ?_
        refine gf_X12_29 hx hb hts hown hK hP 0 rfl rfl dX12_layDown_8 ?_
        refine lv_aload_n hx hb dX12_layDown_11 rfl (lv_at hl 0 rfl) ?_
        refine gf_X12_154 hx hb hts hown hK hP 0 rfl rfl dX12_layDown_12 ?_
        refine lv_iconst (v := 1) hx hb dX12_layDown_15 (by decide) ?_
        refine lv_isub hx hb dX12_layDown_16 ?_
        refine lv_topi (fun x_25 ex_25 => ?_)
        have hi_26 : vp_in x_25 400 := by
          have z_1 := Int32.lt_iff_toInt_lt.mp (Int32.not_le.mp c_23)
          have y_0 : (0 : Int32).toInt = 0 := by decide
          have y_1 : (1 : Int32).toInt = 1 := by decide
          have t_x_25 : x_25.toInt = (vy_8 : Int32).toInt - (1 : Int32).toInt := by rw [ex_25]; exact sub_toInt (by omega) (by omega)
          refine vp_in_iff.mpr ⟨?_, ?_⟩ <;> omega
        refine va_iald hx hb hK hP 3 0 rfl rfl hi_26 dX12_layDown_17 ?_
        refine lv_topi (fun x_27 ex_27 => ?_)
        refine cS (As := [.int x_27]) (rest := []) (wr := [((Ma 0), .inr (12, [.ref (Ma 1), .int (Mv 0), .int (Mv 1), .ref (Ma 2), .ref (Ma 3), .ref (Ma 4), .ref (Ma 5), .ref (Ma 6), .int (Mv 2), .int (Mv 3), .int (Mv 4), .int (Mv 5), .int (Mv 6), .int vy_11, .int (Mv 8), .ref (Ma 7), .int vy_8, .ref (Ma 8), .int (Mv 10), .ref (Ma 9), .ref (Ma 10), .int (Mv 11), .int (Mv 12), .int (Mv 13), .ref (Ma 11), .int (Mv 14), .ref (Ma 12), .ref (Ma 13), .ref (Ma 14), .ref (Ma 15), .ref (Ma 16), .long (Mj 0), .ref (Ma 17), .ref (Ma 18), .ref (Ma 19), .ref (Ma 20)])), ((Ma 2), .inl (tc 0, 2400, .inl vy_9)), ((Ma 3), .inl (tc 0, 7, .inl vy_10)), ((Ma 7), .inl (tc 0, 400, .inl (Mf 7)))]) ⟨hx, hb, hml, hown, hts⟩ hK hX hA (ct_X12_strength l D tc sk x_27) k_1345 k_1343 k_1344 k_106 pl_X12_strength ⟨Nat.le_of_ble_eq_true rfl, Nat.le_of_ble_eq_true rfl⟩ rfl rfl  hP hD hS [] [0, 1, 2, 3] rfl rfl rfl rfl rfl (by decide) rfl hl.1 rfl (Nat.le_of_ble_eq_true rfl) dX12_layDown_18 ⟨Nat.le_of_ble_eq_true rfl, Nat.le_of_ble_eq_true rfl⟩ (fun v_28 u_29 H locs hv_30 hP₀ hD₀ hS₀ => ?_)
        obtain ⟨r_31, rfl, he_32⟩ := hv_30
        have he_32 : ((x_27.toInt = 13 ∧ r_31.toInt = 1) ∨ (x_27.toInt = 12 ∧ r_31.toInt = 2) ∨ (x_27.toInt = 11 ∧ r_31.toInt = 3) ∨ (x_27.toInt ≠ 13 ∧ x_27.toInt ≠ 12 ∧ x_27.toInt ≠ 11 ∧ r_31.toInt = 0)) := he_32
        refine W.eq (g2 := F0 m 21 ls [.int r_31]) rfl ?_
        replace hP : va_P D classes [((Ma 0), .inr (12, [.ref (Ma 1), .int (Mv 0), .int (Mv 1), .ref (Ma 2), .ref (Ma 3), .ref (Ma 4), .ref (Ma 5), .ref (Ma 6), .int (Mv 2), .int (Mv 3), .int (Mv 4), .int (Mv 5), .int (Mv 6), .int vy_11, .int (Mv 8), .ref (Ma 7), .int vy_8, .ref (Ma 8), .int (Mv 10), .ref (Ma 9), .ref (Ma 10), .int (Mv 11), .int (Mv 12), .int (Mv 13), .ref (Ma 11), .int (Mv 14), .ref (Ma 12), .ref (Ma 13), .ref (Ma 14), .ref (Ma 15), .ref (Ma 16), .long (Mj 0), .ref (Ma 17), .ref (Ma 18), .ref (Ma 19), .ref (Ma 20)])), ((Ma 2), .inl (tc 0, 2400, .inl vy_9)), ((Ma 3), .inl (tc 0, 7, .inl vy_10)), ((Ma 7), .inl (tc 0, 400, .inl (Mf 7)))] H := hP₀
        replace hD : va_D A [((Ma 0), .inr (12, [.ref (Ma 1), .int (Mv 0), .int (Mv 1), .ref (Ma 2), .ref (Ma 3), .ref (Ma 4), .ref (Ma 5), .ref (Ma 6), .int (Mv 2), .int (Mv 3), .int (Mv 4), .int (Mv 5), .int (Mv 6), .int vy_11, .int (Mv 8), .ref (Ma 7), .int vy_8, .ref (Ma 8), .int (Mv 10), .ref (Ma 9), .ref (Ma 10), .int (Mv 11), .int (Mv 12), .int (Mv 13), .ref (Ma 11), .int (Mv 14), .ref (Ma 12), .ref (Ma 13), .ref (Ma 14), .ref (Ma 15), .ref (Ma 16), .long (Mj 0), .ref (Ma 17), .ref (Ma 18), .ref (Ma 19), .ref (Ma 20)])), ((Ma 2), .inl (tc 0, 2400, .inl vy_9)), ((Ma 3), .inl (tc 0, 7, .inl vy_10)), ((Ma 7), .inl (tc 0, 400, .inl (Mf 7)))] := hD₀
        replace hS := hS₀
        clear hP₀ hD₀ hS₀
        refine lv_iload_n hx hb dX12_layDown_21 rfl (lv_at hl 1 rfl) ?_
        refine lv_icmp_lt (tgt := 76) hx hb dX12_layDown_22 (by decide) (fun c_34 => ?_) (fun c_34 => ?_)
        · skip
          have hi_35 : (x_25 : Int32).toInt = (vy_8 : Int32).toInt - 1 := by
            have z_1 := Int32.lt_iff_toInt_lt.mp (Int32.not_le.mp c_23)
            have z_2 := Int32.lt_iff_toInt_lt.mp c_34
            have y_0 : (0 : Int32).toInt = 0 := by decide
            have y_1 : (1 : Int32).toInt = 1 := by decide
            have t_x_25 : x_25.toInt = (vy_8 : Int32).toInt - (1 : Int32).toInt := by rw [ex_25]; exact sub_toInt (by omega) (by omega)
            omega
          have hr_36 : 1 ≤ (vy_8 : Int32).toInt := by
            have z_1 := Int32.lt_iff_toInt_lt.mp (Int32.not_le.mp c_23)
            have z_2 := Int32.lt_iff_toInt_lt.mp c_34
            have y_0 : (0 : Int32).toInt = 0 := by decide
            omega
          have hr_37 : ((x_27 : Int32).toInt ≠ 13 ∧ (x_27 : Int32).toInt ≠ 12 ∧ (x_27 : Int32).toInt ≠ 11) ∨ 1 < (x1 : Int32).toInt := by
            have z_1 := Int32.lt_iff_toInt_lt.mp (Int32.not_le.mp c_23)
            have z_2 := Int32.lt_iff_toInt_lt.mp c_34
            have y_0 : (0 : Int32).toInt = 0 := by decide
            omega
          exact retV hx hb hr hlk hP hD hS (vy_11, vy_8, vy_9, vy_10) ⟨rfl, pf_15, pf_16, pf_17, (LdE.of (least := x1) ex_27 hi_35 hr_36 hr_37), pf_18⟩ [0, 1, 2, 3] rfl rfl dX12_layDown_76 (Nat.le_of_ble_eq_true rfl) (Nat.le_of_ble_eq_true rfl) rfl
        · skip
          refine lv_aload_n hx hb dX12_layDown_25 rfl (lv_at hl 0 rfl) ?_
          refine lv_dup hx hb dX12_layDown_26 rfl ?_
          refine gf_X12_154 hx hb hts hown hK hP 0 rfl rfl dX12_layDown_27 ?_
          refine lv_iconst (v := 1) hx hb dX12_layDown_30 (by decide) ?_
          refine lv_isub hx hb dX12_layDown_31 ?_
          refine lv_topi (fun x_38 ex_38 => ?_)
          refine pf_X12_154 hx hb hts hown hK hP hD hS 0 rfl (Nat.le_of_ble_eq_true rfl) rfl rfl dX12_layDown_32 (fun H locs hP₀ hD₀ hS₀ => ?_)
          replace hP : va_P D classes [((Ma 0), .inr (12, [.ref (Ma 1), .int (Mv 0), .int (Mv 1), .ref (Ma 2), .ref (Ma 3), .ref (Ma 4), .ref (Ma 5), .ref (Ma 6), .int (Mv 2), .int (Mv 3), .int (Mv 4), .int (Mv 5), .int (Mv 6), .int vy_11, .int (Mv 8), .ref (Ma 7), .int x_38, .ref (Ma 8), .int (Mv 10), .ref (Ma 9), .ref (Ma 10), .int (Mv 11), .int (Mv 12), .int (Mv 13), .ref (Ma 11), .int (Mv 14), .ref (Ma 12), .ref (Ma 13), .ref (Ma 14), .ref (Ma 15), .ref (Ma 16), .long (Mj 0), .ref (Ma 17), .ref (Ma 18), .ref (Ma 19), .ref (Ma 20)])), ((Ma 2), .inl (tc 0, 2400, .inl vy_9)), ((Ma 3), .inl (tc 0, 7, .inl vy_10)), ((Ma 7), .inl (tc 0, 400, .inl (Mf 7)))] H := hP₀
          replace hD : va_D A [((Ma 0), .inr (12, [.ref (Ma 1), .int (Mv 0), .int (Mv 1), .ref (Ma 2), .ref (Ma 3), .ref (Ma 4), .ref (Ma 5), .ref (Ma 6), .int (Mv 2), .int (Mv 3), .int (Mv 4), .int (Mv 5), .int (Mv 6), .int vy_11, .int (Mv 8), .ref (Ma 7), .int x_38, .ref (Ma 8), .int (Mv 10), .ref (Ma 9), .ref (Ma 10), .int (Mv 11), .int (Mv 12), .int (Mv 13), .ref (Ma 11), .int (Mv 14), .ref (Ma 12), .ref (Ma 13), .ref (Ma 14), .ref (Ma 15), .ref (Ma 16), .long (Mj 0), .ref (Ma 17), .ref (Ma 18), .ref (Ma 19), .ref (Ma 20)])), ((Ma 2), .inl (tc 0, 2400, .inl vy_9)), ((Ma 3), .inl (tc 0, 7, .inl vy_10)), ((Ma 7), .inl (tc 0, 400, .inl (Mf 7)))] := hD₀
          replace hS := hS₀
          clear hP₀ hD₀ hS₀
          have tp_x_38 : (x_38 : Int32).toInt = (vy_8 : Int32).toInt - 1 := by
            have z_1 := Int32.lt_iff_toInt_lt.mp (Int32.not_le.mp c_23)
            have z_2 := Int32.le_iff_toInt_le.mp (Int32.not_lt.mp c_34)
            have y_0 : (0 : Int32).toInt = 0 := by decide
            have y_1 : (1 : Int32).toInt = 1 := by decide
            have t_x_38 : x_38.toInt = (vy_8 : Int32).toInt - (1 : Int32).toInt := by rw [ex_38]; exact sub_toInt (by omega) (by omega)
            omega
          refine lv_aload_n hx hb dX12_layDown_35 rfl (lv_at hl 0 rfl) ?_
          refine lv_aload_n hx hb dX12_layDown_36 rfl (lv_at hl 0 rfl) ?_
          refine gf_X12_29 hx hb hts hown hK hP 0 rfl rfl dX12_layDown_37 ?_
          refine lv_aload_n hx hb dX12_layDown_40 rfl (lv_at hl 0 rfl) ?_
          refine gf_X12_154 hx hb hts hown hK hP 0 rfl rfl dX12_layDown_41 ?_
          have hi_39 : vp_in x_38 400 := by
            have z_1 := Int32.lt_iff_toInt_lt.mp (Int32.not_le.mp c_23)
            have z_2 := Int32.le_iff_toInt_le.mp (Int32.not_lt.mp c_34)
            have y_0 : (0 : Int32).toInt = 0 := by decide
            have y_1 : (1 : Int32).toInt = 1 := by decide
            have t_x_38 : x_38.toInt = (vy_8 : Int32).toInt - (1 : Int32).toInt := by rw [ex_38]; exact sub_toInt (by omega) (by omega)
            refine vp_in_iff.mpr ⟨?_, ?_⟩ <;> omega
          refine va_iald hx hb hK hP 3 0 rfl rfl hi_39 dX12_layDown_44 ?_
          refine lv_topi (fun x_40 ex_40 => ?_)
          have qx_40 : x_40 = x_27 := by rw [ex_40, ex_27, ex_25, ex_38]
          have hx_41 : (x_40 : Int32).toInt = 11 ∨ (x_40 : Int32).toInt = 12 ∨ (x_40 : Int32).toInt = 13 := by
            rw [qx_40]
            have z_1 := Int32.lt_iff_toInt_lt.mp (Int32.not_le.mp c_23)
            have z_2 := Int32.le_iff_toInt_le.mp (Int32.not_lt.mp c_34)
            have y_0 : (0 : Int32).toInt = 0 := by decide
            omega
          have hi_42 : (x_38 : Int32).toInt = (vy_8 : Int32).toInt - 1 := by
            have z_1 := Int32.lt_iff_toInt_lt.mp (Int32.not_le.mp c_23)
            have z_2 := Int32.le_iff_toInt_le.mp (Int32.not_lt.mp c_34)
            have y_0 : (0 : Int32).toInt = 0 := by decide
            have y_1 : (1 : Int32).toInt = 1 := by decide
            have t_x_38 : x_38.toInt = (vy_8 : Int32).toInt - (1 : Int32).toInt := by rw [ex_38]; exact sub_toInt (by omega) (by omega)
            omega
          have hr_43 : 1 ≤ (vy_8 : Int32).toInt := by
            have z_1 := Int32.lt_iff_toInt_lt.mp (Int32.not_le.mp c_23)
            have z_2 := Int32.le_iff_toInt_le.mp (Int32.not_lt.mp c_34)
            have y_0 : (0 : Int32).toInt = 0 := by decide
            omega
          obtain ⟨dn_44, en_45, pf_46, pf_47, pf_48, pf_49⟩ := LSR.pop pf_15 hi_42 hr_43 ex_40 hx_41
          have ar_pf_46 := Cd.ar pf_46
          refine lv_iconst (v := 0) hx hb dX12_layDown_45 (by decide) ?_
          have ha_50 : (en_45 : Int) ≤ (Mv 6).toInt := by
            have z_1 := Int32.lt_iff_toInt_lt.mp (Int32.not_le.mp c_23)
            have z_2 := Int32.le_iff_toInt_le.mp (Int32.not_lt.mp c_34)
            have y_0 : (0 : Int32).toInt = 0 := by decide
            omega
          have ha_51 : (vy_10 (Mv 5).toNatClampNeg).toInt < 400 := by
            have z_1 := Int32.lt_iff_toInt_lt.mp (Int32.not_le.mp c_23)
            have z_2 := Int32.le_iff_toInt_le.mp (Int32.not_lt.mp c_34)
            have y_0 : (0 : Int32).toInt = 0 := by decide
            omega
          refine cV (a := (Ma 0)) (As := [.int x_40, .int 0]) (rest := []) (wr := [((Ma 7), .inl (tc 0, 400, .inl (Mf 7)))]) ⟨hx, hb, hml, hown, hts⟩ hK hX hA (cu_X12_puts l D tc sk (Ma 0) (Ma 1) (Ma 2) (Ma 3) (Ma 4) (Ma 5) (Ma 6) (Ma 7) (Ma 8) (Ma 9) (Ma 10) (Ma 11) (Ma 12) (Ma 13) (Ma 14) (Ma 15) (Ma 16) (Ma 17) (Ma 18) (Ma 19) (Ma 20) (Mv 0) (Mv 1) (Mv 2) (Mv 3) (Mv 4) (Mv 5) (Mv 6) vy_11 (Mv 8) x_38 (Mv 10) (Mv 11) (Mv 12) (Mv 13) (Mv 14) vy_9 vy_10 (Mj 0) x_40 0 b (Mv 6) dn_44 en_45 pf_46 pf_47 ha_50 ha_51) k_1296 k_1293 k_1295 k_46 k_106 pl_X12_puts ⟨Nat.le_of_ble_eq_true rfl, Nat.le_of_ble_eq_true rfl⟩ rfl rfl (va_recv hK hP (ci := 12) (q0 := 0) rfl rfl) hP hD hS [0, 1, 2] [3] rfl rfl rfl rfl rfl (by decide) rfl hl.1 rfl (Nat.le_of_ble_eq_true rfl) dX12_layDown_46 ⟨Nat.le_of_ble_eq_true rfl, Nat.le_of_ble_eq_true rfl⟩ (fun v_52 u_53 H locs hv_54 hP₀ hD₀ hS₀ => ?_)
          obtain ⟨sv_55, sv_56⟩ := u_53
          obtain ⟨rfl, pf_57, pf_58, pf_59⟩ := hv_54
          have pf_57 : Cd sv_55 sv_56 (Mv 5) b (Mv 6) en_45 := pf_57
          have ar_pf_57 := Cd.ar pf_57
          have pf_58 : Agr vy_9 sv_55 (400 * ((Mv 5) : Int32).toInt + (vy_10 (Mv 5).toNatClampNeg).toInt) := pf_58
          have pf_59 : (sv_56 (Mv 5).toNatClampNeg).toInt = (vy_10 (Mv 5).toNatClampNeg).toInt + 1 := pf_59
          refine W.eq (g2 := F0 m 49 ls []) rfl ?_
          replace hP : va_P D classes [((Ma 7), .inl (tc 0, 400, .inl (Mf 7))), ((Ma 0), .inr (12, [.ref (Ma 1), .int (Mv 0), .int (Mv 1), .ref (Ma 2), .ref (Ma 3), .ref (Ma 4), .ref (Ma 5), .ref (Ma 6), .int (Mv 2), .int (Mv 3), .int (Mv 4), .int (Mv 5), .int (Mv 6), .int vy_11, .int (Mv 8), .ref (Ma 7), .int x_38, .ref (Ma 8), .int (Mv 10), .ref (Ma 9), .ref (Ma 10), .int (Mv 11), .int (Mv 12), .int (Mv 13), .ref (Ma 11), .int (Mv 14), .ref (Ma 12), .ref (Ma 13), .ref (Ma 14), .ref (Ma 15), .ref (Ma 16), .long (Mj 0), .ref (Ma 17), .ref (Ma 18), .ref (Ma 19), .ref (Ma 20)])), ((Ma 2), .inl (tc 0, 2400, .inl sv_55)), ((Ma 3), .inl (tc 0, 7, .inl sv_56))] H := hP₀
          replace hD : va_D A [((Ma 7), .inl (tc 0, 400, .inl (Mf 7))), ((Ma 0), .inr (12, [.ref (Ma 1), .int (Mv 0), .int (Mv 1), .ref (Ma 2), .ref (Ma 3), .ref (Ma 4), .ref (Ma 5), .ref (Ma 6), .int (Mv 2), .int (Mv 3), .int (Mv 4), .int (Mv 5), .int (Mv 6), .int vy_11, .int (Mv 8), .ref (Ma 7), .int x_38, .ref (Ma 8), .int (Mv 10), .ref (Ma 9), .ref (Ma 10), .int (Mv 11), .int (Mv 12), .int (Mv 13), .ref (Ma 11), .int (Mv 14), .ref (Ma 12), .ref (Ma 13), .ref (Ma 14), .ref (Ma 15), .ref (Ma 16), .long (Mj 0), .ref (Ma 17), .ref (Ma 18), .ref (Ma 19), .ref (Ma 20)])), ((Ma 2), .inl (tc 0, 2400, .inl sv_55)), ((Ma 3), .inl (tc 0, 7, .inl sv_56))] := hD₀
          replace hS := hS₀
          clear hP₀ hD₀ hS₀
          refine lv_aload_n hx hb dX12_layDown_49 rfl (lv_at hl 0 rfl) ?_
          refine gf_X12_29 hx hb hts hown hK hP 1 rfl rfl dX12_layDown_50 ?_
          refine lv_aload_n hx hb dX12_layDown_53 rfl (lv_at hl 0 rfl) ?_
          refine gf_X12_154 hx hb hts hown hK hP 1 rfl rfl dX12_layDown_54 ?_
          have hi_60 : vp_in x_38 400 := by
            have z_1 := Int32.lt_iff_toInt_lt.mp (Int32.not_le.mp c_23)
            have z_2 := Int32.le_iff_toInt_le.mp (Int32.not_lt.mp c_34)
            have y_0 : (0 : Int32).toInt = 0 := by decide
            have y_1 : (1 : Int32).toInt = 1 := by decide
            have t_x_38 : x_38.toInt = (vy_8 : Int32).toInt - (1 : Int32).toInt := by rw [ex_38]; exact sub_toInt (by omega) (by omega)
            refine vp_in_iff.mpr ⟨?_, ?_⟩ <;> omega
          refine va_iald hx hb hK hP 0 0 rfl rfl hi_60 dX12_layDown_57 ?_
          refine lv_topi (fun x_61 ex_61 => ?_)
          refine lv_bipush (v := 11) hx hb dX12_layDown_58 (by decide) ?_
          refine lv_icmp_ne (tgt := 0) hx hb dX12_layDown_60 (by decide) (fun c_62 => ?_) (fun c_62 => ?_)
          · skip
            have hb_63 : (x_38 : Int32).toInt < (vy_8 : Int32).toInt ∧ 1 ≤ (vy_8 : Int32).toInt := by
              have z_1 := Int32.lt_iff_toInt_lt.mp (Int32.not_le.mp c_23)
              have z_2 := Int32.le_iff_toInt_le.mp (Int32.not_lt.mp c_34)
              have z_3 : ¬ (x_61 : Int32).toInt = (11 : Int32).toInt := fun z => c_62 (Int32.toInt_inj.mp z)
              have y_0 : (0 : Int32).toInt = 0 := by decide
              have y_11 : (11 : Int32).toInt = 11 := by decide
              have y_1 : (1 : Int32).toInt = 1 := by decide
              have t_x_38 : x_38.toInt = (vy_8 : Int32).toInt - (1 : Int32).toInt := by rw [ex_38]; exact sub_toInt (by omega) (by omega)
              refine ⟨?_, ?_⟩ <;> omega
            have ha_64 : (sv_56 (Mv 5).toNatClampNeg).toInt + (x_38 : Int32).toInt = ((Mf 3) (Mv 5).toNatClampNeg).toInt + ((Mv 9) : Int32).toInt ∧ 0 ≤ (x_38 : Int32).toInt ∧ (x_38 : Int32).toInt ≤ ((Mv 9) : Int32).toInt := by
              have z_1 := Int32.lt_iff_toInt_lt.mp (Int32.not_le.mp c_23)
              have z_2 := Int32.le_iff_toInt_le.mp (Int32.not_lt.mp c_34)
              have z_3 : ¬ (x_61 : Int32).toInt = (11 : Int32).toInt := fun z => c_62 (Int32.toInt_inj.mp z)
              have y_0 : (0 : Int32).toInt = 0 := by decide
              have y_11 : (11 : Int32).toInt = 11 := by decide
              have y_1 : (1 : Int32).toInt = 1 := by decide
              have t_x_38 : x_38.toInt = (vy_8 : Int32).toInt - (1 : Int32).toInt := by rw [ex_38]; exact sub_toInt (by omega) (by omega)
              refine ⟨?_, ?_, ?_⟩ <;> omega
            have hr_65 : (400 * ((Mv 5) : Int32).toInt + ((Mf 3) (Mv 5).toNatClampNeg).toInt) ≤ (400 * ((Mv 5) : Int32).toInt + ((Mf 3) (Mv 5).toNatClampNeg).toInt) := by
              have z_1 := Int32.lt_iff_toInt_lt.mp (Int32.not_le.mp c_23)
              have z_2 := Int32.le_iff_toInt_le.mp (Int32.not_lt.mp c_34)
              have z_3 : ¬ (x_61 : Int32).toInt = (11 : Int32).toInt := fun z => c_62 (Int32.toInt_inj.mp z)
              have y_0 : (0 : Int32).toInt = 0 := by decide
              have y_11 : (11 : Int32).toInt = 11 := by decide
              omega
            have hr_66 : (400 * ((Mv 5) : Int32).toInt + ((Mf 3) (Mv 5).toNatClampNeg).toInt) ≤ (400 * ((Mv 5) : Int32).toInt + (vy_10 (Mv 5).toNatClampNeg).toInt) := by
              have z_1 := Int32.lt_iff_toInt_lt.mp (Int32.not_le.mp c_23)
              have z_2 := Int32.le_iff_toInt_le.mp (Int32.not_lt.mp c_34)
              have z_3 : ¬ (x_61 : Int32).toInt = (11 : Int32).toInt := fun z => c_62 (Int32.toInt_inj.mp z)
              have y_0 : (0 : Int32).toInt = 0 := by decide
              have y_11 : (11 : Int32).toInt = 11 := by decide
              omega
            have hr_67 : (x_40 : Int32).toInt ≠ 91 := by
              have z_1 := Int32.lt_iff_toInt_lt.mp (Int32.not_le.mp c_23)
              have z_2 := Int32.le_iff_toInt_le.mp (Int32.not_lt.mp c_34)
              have z_3 : ¬ (x_61 : Int32).toInt = (11 : Int32).toInt := fun z => c_62 (Int32.toInt_inj.mp z)
              have y_0 : (0 : Int32).toInt = 0 := by decide
              have y_11 : (11 : Int32).toInt = 11 := by decide
              omega
            have hi_68 : (x_38 : Int32).toInt = (vy_8 : Int32).toInt - 1 := by
              have z_1 := Int32.lt_iff_toInt_lt.mp (Int32.not_le.mp c_23)
              have z_2 := Int32.le_iff_toInt_le.mp (Int32.not_lt.mp c_34)
              have z_3 : ¬ (x_61 : Int32).toInt = (11 : Int32).toInt := fun z => c_62 (Int32.toInt_inj.mp z)
              have y_0 : (0 : Int32).toInt = 0 := by decide
              have y_11 : (11 : Int32).toInt = 11 := by decide
              have y_1 : (1 : Int32).toInt = 1 := by decide
              have t_x_38 : x_38.toInt = (vy_8 : Int32).toInt - (1 : Int32).toInt := by rw [ex_38]; exact sub_toInt (by omega) (by omega)
              omega
            have hr_69 : 0 ≤ (x_38 : Int32).toInt := by
              have z_1 := Int32.lt_iff_toInt_lt.mp (Int32.not_le.mp c_23)
              have z_2 := Int32.le_iff_toInt_le.mp (Int32.not_lt.mp c_34)
              have z_3 : ¬ (x_61 : Int32).toInt = (11 : Int32).toInt := fun z => c_62 (Int32.toInt_inj.mp z)
              have y_0 : (0 : Int32).toInt = 0 := by decide
              have y_11 : (11 : Int32).toInt = 11 := by decide
              have y_1 : (1 : Int32).toInt = 1 := by decide
              have t_x_38 : x_38.toInt = (vy_8 : Int32).toInt - (1 : Int32).toInt := by rw [ex_38]; exact sub_toInt (by omega) (by omega)
              omega
            exact ih_13 x_38 sv_55 sv_56 vy_11 _ _ _ (by omega) (pf_49 _ _ pf_57) ha_64 (Agr.trans (k' := (400 * ((Mv 5) : Int32).toInt + ((Mf 3) (Mv 5).toNatClampNeg).toInt)) (Agr.mono pf_17 hr_65) pf_58 ⟨Int.le_refl _, hr_66⟩) (InK.step pf_18 ex_40 hr_67 hi_68 hr_69) (hP.sub [1, 2, 3, 0] rfl) (hD.sub [1, 2, 3, 0] rfl rfl) hS (lv_sub hl [0, 1] rfl)
          · skip
            refine lv_aload_n hx hb dX12_layDown_63 rfl (lv_at hl 0 rfl) ?_
            refine lv_dup hx hb dX12_layDown_64 rfl ?_
            refine gf_X12_151 hx hb hts hown hK hP 1 rfl rfl dX12_layDown_65 ?_
            refine lv_iconst (v := 1) hx hb dX12_layDown_68 (by decide) ?_
            refine lv_isub hx hb dX12_layDown_69 ?_
            refine lv_topi (fun x_70 ex_70 => ?_)
            refine pf_X12_151 hx hb hts hown hK hP hD hS 1 rfl (Nat.le_of_ble_eq_true rfl) rfl rfl dX12_layDown_70 (fun H locs hP₀ hD₀ hS₀ => ?_)
            replace hP : va_P D classes [((Ma 7), .inl (tc 0, 400, .inl (Mf 7))), ((Ma 0), .inr (12, [.ref (Ma 1), .int (Mv 0), .int (Mv 1), .ref (Ma 2), .ref (Ma 3), .ref (Ma 4), .ref (Ma 5), .ref (Ma 6), .int (Mv 2), .int (Mv 3), .int (Mv 4), .int (Mv 5), .int (Mv 6), .int x_70, .int (Mv 8), .ref (Ma 7), .int x_38, .ref (Ma 8), .int (Mv 10), .ref (Ma 9), .ref (Ma 10), .int (Mv 11), .int (Mv 12), .int (Mv 13), .ref (Ma 11), .int (Mv 14), .ref (Ma 12), .ref (Ma 13), .ref (Ma 14), .ref (Ma 15), .ref (Ma 16), .long (Mj 0), .ref (Ma 17), .ref (Ma 18), .ref (Ma 19), .ref (Ma 20)])), ((Ma 2), .inl (tc 0, 2400, .inl sv_55)), ((Ma 3), .inl (tc 0, 7, .inl sv_56))] H := hP₀
            replace hD : va_D A [((Ma 7), .inl (tc 0, 400, .inl (Mf 7))), ((Ma 0), .inr (12, [.ref (Ma 1), .int (Mv 0), .int (Mv 1), .ref (Ma 2), .ref (Ma 3), .ref (Ma 4), .ref (Ma 5), .ref (Ma 6), .int (Mv 2), .int (Mv 3), .int (Mv 4), .int (Mv 5), .int (Mv 6), .int x_70, .int (Mv 8), .ref (Ma 7), .int x_38, .ref (Ma 8), .int (Mv 10), .ref (Ma 9), .ref (Ma 10), .int (Mv 11), .int (Mv 12), .int (Mv 13), .ref (Ma 11), .int (Mv 14), .ref (Ma 12), .ref (Ma 13), .ref (Ma 14), .ref (Ma 15), .ref (Ma 16), .long (Mj 0), .ref (Ma 17), .ref (Ma 18), .ref (Ma 19), .ref (Ma 20)])), ((Ma 2), .inl (tc 0, 2400, .inl sv_55)), ((Ma 3), .inl (tc 0, 7, .inl sv_56))] := hD₀
            replace hS := hS₀
            clear hP₀ hD₀ hS₀
            refine lv_goto (tgt := 0) hx hb dX12_layDown_73 (by decide) ?_
            have hb_71 : (x_38 : Int32).toInt < (vy_8 : Int32).toInt ∧ 1 ≤ (vy_8 : Int32).toInt := by
              have z_1 := Int32.lt_iff_toInt_lt.mp (Int32.not_le.mp c_23)
              have z_2 := Int32.le_iff_toInt_le.mp (Int32.not_lt.mp c_34)
              have z_3 := congrArg Int32.toInt c_62
              have y_0 : (0 : Int32).toInt = 0 := by decide
              have y_11 : (11 : Int32).toInt = 11 := by decide
              have y_1 : (1 : Int32).toInt = 1 := by decide
              have t_x_38 : x_38.toInt = (vy_8 : Int32).toInt - (1 : Int32).toInt := by rw [ex_38]; exact sub_toInt (by omega) (by omega)
              refine ⟨?_, ?_⟩ <;> omega
            have ha_72 : (sv_56 (Mv 5).toNatClampNeg).toInt + (x_38 : Int32).toInt = ((Mf 3) (Mv 5).toNatClampNeg).toInt + ((Mv 9) : Int32).toInt ∧ 0 ≤ (x_38 : Int32).toInt ∧ (x_38 : Int32).toInt ≤ ((Mv 9) : Int32).toInt := by
              have z_1 := Int32.lt_iff_toInt_lt.mp (Int32.not_le.mp c_23)
              have z_2 := Int32.le_iff_toInt_le.mp (Int32.not_lt.mp c_34)
              have z_3 := congrArg Int32.toInt c_62
              have y_0 : (0 : Int32).toInt = 0 := by decide
              have y_11 : (11 : Int32).toInt = 11 := by decide
              have y_1 : (1 : Int32).toInt = 1 := by decide
              have t_x_38 : x_38.toInt = (vy_8 : Int32).toInt - (1 : Int32).toInt := by rw [ex_38]; exact sub_toInt (by omega) (by omega)
              refine ⟨?_, ?_, ?_⟩ <;> omega
            have hr_73 : (400 * ((Mv 5) : Int32).toInt + ((Mf 3) (Mv 5).toNatClampNeg).toInt) ≤ (400 * ((Mv 5) : Int32).toInt + ((Mf 3) (Mv 5).toNatClampNeg).toInt) := by
              have z_1 := Int32.lt_iff_toInt_lt.mp (Int32.not_le.mp c_23)
              have z_2 := Int32.le_iff_toInt_le.mp (Int32.not_lt.mp c_34)
              have z_3 := congrArg Int32.toInt c_62
              have y_0 : (0 : Int32).toInt = 0 := by decide
              have y_11 : (11 : Int32).toInt = 11 := by decide
              omega
            have hr_74 : (400 * ((Mv 5) : Int32).toInt + ((Mf 3) (Mv 5).toNatClampNeg).toInt) ≤ (400 * ((Mv 5) : Int32).toInt + (vy_10 (Mv 5).toNatClampNeg).toInt) := by
              have z_1 := Int32.lt_iff_toInt_lt.mp (Int32.not_le.mp c_23)
              have z_2 := Int32.le_iff_toInt_le.mp (Int32.not_lt.mp c_34)
              have z_3 := congrArg Int32.toInt c_62
              have y_0 : (0 : Int32).toInt = 0 := by decide
              have y_11 : (11 : Int32).toInt = 11 := by decide
              omega
            have hr_75 : (x_40 : Int32).toInt ≠ 91 := by
              have z_1 := Int32.lt_iff_toInt_lt.mp (Int32.not_le.mp c_23)
              have z_2 := Int32.le_iff_toInt_le.mp (Int32.not_lt.mp c_34)
              have z_3 := congrArg Int32.toInt c_62
              have y_0 : (0 : Int32).toInt = 0 := by decide
              have y_11 : (11 : Int32).toInt = 11 := by decide
              omega
            have hi_76 : (x_38 : Int32).toInt = (vy_8 : Int32).toInt - 1 := by
              have z_1 := Int32.lt_iff_toInt_lt.mp (Int32.not_le.mp c_23)
              have z_2 := Int32.le_iff_toInt_le.mp (Int32.not_lt.mp c_34)
              have z_3 := congrArg Int32.toInt c_62
              have y_0 : (0 : Int32).toInt = 0 := by decide
              have y_11 : (11 : Int32).toInt = 11 := by decide
              have y_1 : (1 : Int32).toInt = 1 := by decide
              have t_x_38 : x_38.toInt = (vy_8 : Int32).toInt - (1 : Int32).toInt := by rw [ex_38]; exact sub_toInt (by omega) (by omega)
              omega
            have hr_77 : 0 ≤ (x_38 : Int32).toInt := by
              have z_1 := Int32.lt_iff_toInt_lt.mp (Int32.not_le.mp c_23)
              have z_2 := Int32.le_iff_toInt_le.mp (Int32.not_lt.mp c_34)
              have z_3 := congrArg Int32.toInt c_62
              have y_0 : (0 : Int32).toInt = 0 := by decide
              have y_11 : (11 : Int32).toInt = 11 := by decide
              have y_1 : (1 : Int32).toInt = 1 := by decide
              have t_x_38 : x_38.toInt = (vy_8 : Int32).toInt - (1 : Int32).toInt := by rw [ex_38]; exact sub_toInt (by omega) (by omega)
              omega
            exact ih_13 x_38 sv_55 sv_56 x_70 _ _ _ (by omega) (pf_49 _ _ pf_57) ha_72 (Agr.trans (k' := (400 * ((Mv 5) : Int32).toInt + ((Mf 3) (Mv 5).toNatClampNeg).toInt)) (Agr.mono pf_17 hr_73) pf_58 ⟨Int.le_refl _, hr_74⟩) (InK.step pf_18 ex_40 hr_75 hi_76 hr_77) (hP.sub [1, 2, 3, 0] rfl) (hD.sub [1, 2, 3, 0] rfl rfl) hS (lv_sub hl [0, 1] rfl)
  have ha_78 : ((Mf 3) (Mv 5).toNatClampNeg).toInt + ((Mv 9) : Int32).toInt = ((Mf 3) (Mv 5).toNatClampNeg).toInt + ((Mv 9) : Int32).toInt ∧ 0 ≤ ((Mv 9) : Int32).toInt ∧ ((Mv 9) : Int32).toInt ≤ ((Mv 9) : Int32).toInt := by
    refine ⟨?_, ?_, ?_⟩ <;> omega
  exact loop_14 _ (Mv 9) (Mf 2) (Mf 3) (Mv 7) _ _ _ (Nat.lt_succ_self _) h_ls ha_78 (Agr.rf) (InK.rf) hP hD hS hl
set_option maxRecDepth 100000 in
theorem cu_X12_layDown (l : Launch) (D : va_G) (tc : Nat → ClassId) (sk : (Nat → Nat) × (Nat → Nat)) (Ma_0 : Nat) (Ma_1 : Nat) (Ma_2 : Nat) (Ma_3 : Nat) (Ma_4 : Nat) (Ma_5 : Nat) (Ma_6 : Nat) (Ma_7 : Nat) (Ma_8 : Nat) (Ma_9 : Nat) (Ma_10 : Nat) (Ma_11 : Nat) (Ma_12 : Nat) (Ma_13 : Nat) (Ma_14 : Nat) (Ma_15 : Nat) (Ma_16 : Nat) (Ma_17 : Nat) (Ma_18 : Nat) (Ma_19 : Nat) (Ma_20 : Nat) (Mv_0 : Int32) (Mv_1 : Int32) (Mv_2 : Int32) (Mv_3 : Int32) (Mv_4 : Int32) (Mv_5 : Int32) (Mv_6 : Int32) (Mv_7 : Int32) (Mv_8 : Int32) (Mv_9 : Int32) (Mv_10 : Int32) (Mv_11 : Int32) (Mv_12 : Int32) (Mv_13 : Int32) (Mv_14 : Int32) (Mf_2 : Nat → Int32) (Mf_3 : Nat → Int32) (Mf_7 : Nat → Int32) (Mj_0 : Int64) (x1 : Int32) (b : Int32) (h_ls : LSR Mf_7 Mv_9 Mf_2 Mf_3 Mv_5 b Mv_6) (h_x : 1 ≤ x1.toInt ∧ x1.toInt ≤ 3) (h_s : (Mf_3 Mv_5.toNatClampNeg).toInt + (Mv_9 : Int32).toInt ≤ 400) : Ct l yX12_layDown cX12_layDown 2 none { frames := 1, cells := 0, slots := 0, locals := 22 } D tc sk [.ref Ma_0, .int x1] [(Ma_0, .inr (12, [.ref Ma_1, .int Mv_0, .int Mv_1, .ref Ma_2, .ref Ma_3, .ref Ma_4, .ref Ma_5, .ref Ma_6, .int Mv_2, .int Mv_3, .int Mv_4, .int Mv_5, .int Mv_6, .int Mv_7, .int Mv_8, .ref Ma_7, .int Mv_9, .ref Ma_8, .int Mv_10, .ref Ma_9, .ref Ma_10, .int Mv_11, .int Mv_12, .int Mv_13, .ref Ma_11, .int Mv_14, .ref Ma_12, .ref Ma_13, .ref Ma_14, .ref Ma_15, .ref Ma_16, .long Mj_0, .ref Ma_17, .ref Ma_18, .ref Ma_19, .ref Ma_20])), (Ma_2, .inl (tc 0, 2400, .inl Mf_2)), (Ma_3, .inl (tc 0, 7, .inl Mf_3)), (Ma_7, .inl (tc 0, 400, .inl Mf_7))] (fun (v : Option Value) (u : (Int32) × (Int32) × (Nat → Int32) × (Nat → Int32)) => match u with | (oo0x1, oo0x2, oo0x3, oo0x4) => v = none ∧ (LSR Mf_7 oo0x2 oo0x3 oo0x4 Mv_5 b Mv_6) ∧ ((oo0x4 Mv_5.toNatClampNeg).toInt + (oo0x2 : Int32).toInt = (Mf_3 Mv_5.toNatClampNeg).toInt + (Mv_9 : Int32).toInt ∧ 0 ≤ (oo0x2 : Int32).toInt ∧ (oo0x2 : Int32).toInt ≤ (Mv_9 : Int32).toInt) ∧ (Agr Mf_2 oo0x3 (400 * (Mv_5 : Int32).toInt + (Mf_3 Mv_5.toNatClampNeg).toInt)) ∧ (LdE Mf_7 oo0x2 x1) ∧ (InK Mf_7 Mv_9 oo0x2)) (fun (u : (Int32) × (Int32) × (Nat → Int32) × (Nat → Int32)) => match u with | (oo0x1, oo0x2, oo0x3, oo0x4) => [(Ma_0, .inr (12, [.ref Ma_1, .int Mv_0, .int Mv_1, .ref Ma_2, .ref Ma_3, .ref Ma_4, .ref Ma_5, .ref Ma_6, .int Mv_2, .int Mv_3, .int Mv_4, .int Mv_5, .int Mv_6, .int oo0x1, .int Mv_8, .ref Ma_7, .int oo0x2, .ref Ma_8, .int Mv_10, .ref Ma_9, .ref Ma_10, .int Mv_11, .int Mv_12, .int Mv_13, .ref Ma_11, .int Mv_14, .ref Ma_12, .ref Ma_13, .ref Ma_14, .ref Ma_15, .ref Ma_16, .long Mj_0, .ref Ma_17, .ref Ma_18, .ref Ma_19, .ref Ma_20])), (Ma_2, .inl (tc 0, 2400, .inl oo0x3)), (Ma_3, .inl (tc 0, 7, .inl oo0x4)), (Ma_7, .inl (tc 0, 400, .inl Mf_7))]) 0 0 :=
  ct_X12_layDown l D tc sk (fun k => ([Ma_0, Ma_1, Ma_2, Ma_3, Ma_4, Ma_5, Ma_6, Ma_7, Ma_8, Ma_9, Ma_10, Ma_11, Ma_12, Ma_13, Ma_14, Ma_15, Ma_16, Ma_17, Ma_18, Ma_19, Ma_20] : List (Nat)).getD k 0) (fun k => ([Mv_0, Mv_1, Mv_2, Mv_3, Mv_4, Mv_5, Mv_6, Mv_7, Mv_8, Mv_9, Mv_10, Mv_11, Mv_12, Mv_13, Mv_14] : List (Int32)).getD k 0) (fun k => ([(fun _ => 0), (fun _ => 0), Mf_2, Mf_3, (fun _ => 0), (fun _ => 0), (fun _ => 0), Mf_7] : List (Nat → Int32)).getD k (fun _ => 0)) (fun k => ([Mj_0] : List (Int64)).getD k 0) x1 b h_ls h_x h_s
set_option maxHeartbeats 4000000 in
set_option maxRecDepth 100000 in
theorem ct_X12_fact (l : Launch) (D : va_G) (tc : Nat → ClassId) (sk : (Nat → Nat) × (Nat → Nat)) (Ma : Nat → Nat) (Mv : Nat → Int32) (Mf : Nat → Nat → Int32) (Mj : Nat → Int64) (b : Int32) (h_nx : 0 ≤ ((Mv 2) : Int32).toInt ∧ ((Mv 2) : Int32).toInt ≤ ((Mv 0) : Int32).toInt ∧ ((Mv 0) : Int32).toInt ≤ 400) (h_lb : LBR (Mf 7) (Mv 9) (Mf 2) (Mf 3) (Mv 5) b (Mv 6)) (h_s : ((Mf 3) (Mv 5).toNatClampNeg).toInt + ((Mv 9) : Int32).toInt ≤ ((Mv 2) : Int32).toInt) (h_md : 0 ≤ ((Mv 6) : Int32).toInt ∧ ((Mv 6) : Int32).toInt ≤ 60) : Ct l yX12_fact cX12_fact 3 (some .boolean) { frames := 7, cells := 0, slots := 0, locals := 154 } D tc sk [.ref (Ma 0)] [((Ma 0), .inr (12, [.ref (Ma 1), .int (Mv 0), .int (Mv 1), .ref (Ma 2), .ref (Ma 3), .ref (Ma 4), .ref (Ma 5), .ref (Ma 6), .int (Mv 2), .int (Mv 3), .int (Mv 4), .int (Mv 5), .int (Mv 6), .int (Mv 7), .int (Mv 8), .ref (Ma 7), .int (Mv 9), .ref (Ma 8), .int (Mv 10), .ref (Ma 9), .ref (Ma 10), .int (Mv 11), .int (Mv 12), .int (Mv 13), .ref (Ma 11), .int (Mv 14), .ref (Ma 12), .ref (Ma 13), .ref (Ma 14), .ref (Ma 15), .ref (Ma 16), .long (Mj 0), .ref (Ma 17), .ref (Ma 18), .ref (Ma 19), .ref (Ma 20)])), ((Ma 1), .inl (tc 2, 400, .inl (Mf 1))), ((Ma 2), .inl (tc 0, 2400, .inl (Mf 2))), ((Ma 3), .inl (tc 0, 7, .inl (Mf 3))), ((Ma 7), .inl (tc 0, 400, .inl (Mf 7)))] (fun (v : Option Value) (u : (Int32) × (Int32) × (Int32) × (Int32) × (Int32) × (Int32) × (Nat → Int32) × (Nat → Int32) × (Nat → Int32)) => match u with | (oo0x1, oo0x2, oo0x3, oo0x4, oo0x5, oo0x6, oo0x7, oo0x8, oo0x9) => ∃ r : Int32, v = some (.int r) ∧ (((r.toInt = 0 ∧ ¬ (oo0x2 : Int32).toInt = 0) ∨ (r.toInt = 1 ∧ (oo0x8 (Mv 5).toNatClampNeg).toInt + (oo0x6 : Int32).toInt + ((Mv 2) : Int32).toInt ≤ ((Mf 3) (Mv 5).toNatClampNeg).toInt + ((Mv 9) : Int32).toInt + (oo0x1 : Int32).toInt ∧ ((Mv 2) : Int32).toInt + 1 ≤ (oo0x1 : Int32).toInt ∧ ((Mf 3) (Mv 5).toNatClampNeg).toInt ≤ (oo0x8 (Mv 5).toNatClampNeg).toInt))) ∧ (((Mv 2) : Int32).toInt ≤ (oo0x1 : Int32).toInt ∧ (oo0x1 : Int32).toInt ≤ ((Mv 0) : Int32).toInt) ∧ (((Mv 6) : Int32).toInt ≤ (oo0x4 : Int32).toInt ∧ (oo0x4 : Int32).toInt ≤ 60) ∧ (Agr (Mf 2) oo0x7 (400 * ((Mv 5) : Int32).toInt + ((Mf 3) (Mv 5).toNatClampNeg).toInt)) ∧ (r.toInt = 1 → (LSR oo0x9 oo0x6 oo0x7 oo0x8 (Mv 5) b oo0x4))) (fun (u : (Int32) × (Int32) × (Int32) × (Int32) × (Int32) × (Int32) × (Nat → Int32) × (Nat → Int32) × (Nat → Int32)) => match u with | (oo0x1, oo0x2, oo0x3, oo0x4, oo0x5, oo0x6, oo0x7, oo0x8, oo0x9) => [((Ma 0), .inr (12, [.ref (Ma 1), .int (Mv 0), .int (Mv 1), .ref (Ma 2), .ref (Ma 3), .ref (Ma 4), .ref (Ma 5), .ref (Ma 6), .int oo0x1, .int oo0x2, .int oo0x3, .int (Mv 5), .int oo0x4, .int oo0x5, .int (Mv 8), .ref (Ma 7), .int oo0x6, .ref (Ma 8), .int (Mv 10), .ref (Ma 9), .ref (Ma 10), .int (Mv 11), .int (Mv 12), .int (Mv 13), .ref (Ma 11), .int (Mv 14), .ref (Ma 12), .ref (Ma 13), .ref (Ma 14), .ref (Ma 15), .ref (Ma 16), .long (Mj 0), .ref (Ma 17), .ref (Ma 18), .ref (Ma 19), .ref (Ma 20)])), ((Ma 1), .inl (tc 2, 400, .inl (Mf 1))), ((Ma 2), .inl (tc 0, 2400, .inl oo0x7)), ((Ma 3), .inl (tc 0, 7, .inl oo0x8)), ((Ma 7), .inl (tc 0, 400, .inl oo0x9))]) 0 0 := by
  refine Ct.start (by decide) (Nat.le_of_ble_eq_true rfl) (fun p e s m below meth c A ls hx hb hr hlk hin hml hown hts hK hX hP hD hA hl hS => ?_)
  have hl : lv_has ls 3 [(0, .ref (Ma 0))] := hl
  obtain ⟨pn_1, pf_2, pf_3⟩ := id h_lb
  have ar_h_lb := LBR.ar h_lb
  have ar_pf_3 := Cd.ar pf_3
  refine lv_iconst (v := 1) hx hb dX12_fact_0 (by decide) ?_
  refine lv_istore_n (lv' := [(1, .int 1), (0, .ref (Ma 0))]) hx hb dX12_fact_1 rfl hl (by decide) rfl (fun ls hl₀ => ?_)
  replace hl := hl₀
  clear hl₀
  have loop_18 : ∀ (n_16 : Nat) (vy_10 : Int32) (vy_11 : Int32) (vy_12 : Int32) (vy_13 : Int32) (vy_14 : Int32) (vy_15 : Nat → Int32) (H : Heap) (locs : List Loc) (ls : Array Slot), (2 * (400 - (vy_11 : Int32).toInt) + (vy_10 : Int32).toInt).toNat < n_16 → (0 ≤ (vy_11 : Int32).toInt ∧ (vy_11 : Int32).toInt ≤ ((Mv 0) : Int32).toInt ∧ ((Mv 0) : Int32).toInt ≤ 400) → ((Mv 2).toInt ≤ (vy_11 : Int32).toInt) → (0 ≤ (vy_10 : Int32).toInt ∧ (vy_10 : Int32).toInt ≤ 1) → (LBR vy_15 vy_14 (Mf 2) (Mf 3) (Mv 5) b (Mv 6)) → ((vy_14 : Int32).toInt + ((Mv 2) : Int32).toInt ≤ ((Mv 9) : Int32).toInt + (vy_11 : Int32).toInt ∧ 0 ≤ (vy_14 : Int32).toInt) → va_P D classes [((Ma 0), .inr (12, [.ref (Ma 1), .int (Mv 0), .int (Mv 1), .ref (Ma 2), .ref (Ma 3), .ref (Ma 4), .ref (Ma 5), .ref (Ma 6), .int vy_11, .int vy_12, .int (Mv 4), .int (Mv 5), .int (Mv 6), .int vy_13, .int (Mv 8), .ref (Ma 7), .int vy_14, .ref (Ma 8), .int (Mv 10), .ref (Ma 9), .ref (Ma 10), .int (Mv 11), .int (Mv 12), .int (Mv 13), .ref (Ma 11), .int (Mv 14), .ref (Ma 12), .ref (Ma 13), .ref (Ma 14), .ref (Ma 15), .ref (Ma 16), .long (Mj 0), .ref (Ma 17), .ref (Ma 18), .ref (Ma 19), .ref (Ma 20)])), ((Ma 1), .inl (tc 2, 400, .inl (Mf 1))), ((Ma 2), .inl (tc 0, 2400, .inl (Mf 2))), ((Ma 3), .inl (tc 0, 7, .inl (Mf 3))), ((Ma 7), .inl (tc 0, 400, .inl vy_15))] H → va_D A [((Ma 0), .inr (12, [.ref (Ma 1), .int (Mv 0), .int (Mv 1), .ref (Ma 2), .ref (Ma 3), .ref (Ma 4), .ref (Ma 5), .ref (Ma 6), .int vy_11, .int vy_12, .int (Mv 4), .int (Mv 5), .int (Mv 6), .int vy_13, .int (Mv 8), .ref (Ma 7), .int vy_14, .ref (Ma 8), .int (Mv 10), .ref (Ma 9), .ref (Ma 10), .int (Mv 11), .int (Mv 12), .int (Mv 13), .ref (Ma 11), .int (Mv 14), .ref (Ma 12), .ref (Ma 13), .ref (Ma 14), .ref (Ma 15), .ref (Ma 16), .long (Mj 0), .ref (Ma 17), .ref (Ma 18), .ref (Ma 19), .ref (Ma 20)])), ((Ma 1), .inl (tc 2, 400, .inl (Mf 1))), ((Ma 2), .inl (tc 0, 2400, .inl (Mf 2))), ((Ma 3), .inl (tc 0, 7, .inl (Mf 3))), ((Ma 7), .inl (tc 0, 400, .inl vy_15))] → va_S A s.heap H locs → lv_has ls 3 [(1, .int vy_10), (0, .ref (Ma 0))] → W p l e ({ frames := 7, cells := 0, slots := 0, locals := 154 }) s m ([.ref (Ma 0)].toArray) below meth c H locs 0 0 (MQ below (QW (fun (v : Option Value) (u : (Int32) × (Int32) × (Int32) × (Int32) × (Int32) × (Int32) × (Nat → Int32) × (Nat → Int32) × (Nat → Int32)) => match u with | (oo0x1, oo0x2, oo0x3, oo0x4, oo0x5, oo0x6, oo0x7, oo0x8, oo0x9) => ∃ r : Int32, v = some (.int r) ∧ (((r.toInt = 0 ∧ ¬ (oo0x2 : Int32).toInt = 0) ∨ (r.toInt = 1 ∧ (oo0x8 (Mv 5).toNatClampNeg).toInt + (oo0x6 : Int32).toInt + ((Mv 2) : Int32).toInt ≤ ((Mf 3) (Mv 5).toNatClampNeg).toInt + ((Mv 9) : Int32).toInt + (oo0x1 : Int32).toInt ∧ ((Mv 2) : Int32).toInt + 1 ≤ (oo0x1 : Int32).toInt ∧ ((Mf 3) (Mv 5).toNatClampNeg).toInt ≤ (oo0x8 (Mv 5).toNatClampNeg).toInt))) ∧ (((Mv 2) : Int32).toInt ≤ (oo0x1 : Int32).toInt ∧ (oo0x1 : Int32).toInt ≤ ((Mv 0) : Int32).toInt) ∧ (((Mv 6) : Int32).toInt ≤ (oo0x4 : Int32).toInt ∧ (oo0x4 : Int32).toInt ≤ 60) ∧ (Agr (Mf 2) oo0x7 (400 * ((Mv 5) : Int32).toInt + ((Mf 3) (Mv 5).toNatClampNeg).toInt)) ∧ (r.toInt = 1 → (LSR oo0x9 oo0x6 oo0x7 oo0x8 (Mv 5) b oo0x4))) (BW D (fun (u : (Int32) × (Int32) × (Int32) × (Int32) × (Int32) × (Int32) × (Nat → Int32) × (Nat → Int32) × (Nat → Int32)) => match u with | (oo0x1, oo0x2, oo0x3, oo0x4, oo0x5, oo0x6, oo0x7, oo0x8, oo0x9) => [((Ma 0), .inr (12, [.ref (Ma 1), .int (Mv 0), .int (Mv 1), .ref (Ma 2), .ref (Ma 3), .ref (Ma 4), .ref (Ma 5), .ref (Ma 6), .int oo0x1, .int oo0x2, .int oo0x3, .int (Mv 5), .int oo0x4, .int oo0x5, .int (Mv 8), .ref (Ma 7), .int oo0x6, .ref (Ma 8), .int (Mv 10), .ref (Ma 9), .ref (Ma 10), .int (Mv 11), .int (Mv 12), .int (Mv 13), .ref (Ma 11), .int (Mv 14), .ref (Ma 12), .ref (Ma 13), .ref (Ma 14), .ref (Ma 15), .ref (Ma 16), .long (Mj 0), .ref (Ma 17), .ref (Ma 18), .ref (Ma 19), .ref (Ma 20)])), ((Ma 1), .inl (tc 2, 400, .inl (Mf 1))), ((Ma 2), .inl (tc 0, 2400, .inl oo0x7)), ((Ma 3), .inl (tc 0, 7, .inl oo0x8)), ((Ma 7), .inl (tc 0, 400, .inl oo0x9))]) A) A) ([.ref (Ma 0)].toArray) s 0 0 A) (F0 m 2 ls []) := by
    clear hP hD hS hl
    intro n_16
    induction n_16 with
    | zero =>
      intro vy_10 vy_11 vy_12 vy_13 vy_14 vy_15 H locs ls h1
      exact absurd h1 (Nat.not_lt_zero _)
    | succ n_16 ih_17 =>
      intro vy_10 vy_11 vy_12 vy_13 vy_14 vy_15 H locs ls hn_24 pf_19 pf_20 pf_21 pf_22 pf_23 hP hD hS hl
      obtain ⟨pn_25, pf_26, pf_27⟩ := id pf_22
      have ar_pf_22 := LBR.ar pf_22
      have ar_pf_27 := Cd.ar pf_27
      refine lv_iload_n hx hb dX12_fact_2 rfl (lv_at hl 0 rfl) ?_
      refine lv_if_eq (tgt := 75) hx hb dX12_fact_3 (by decide) (fun c_28 => ?_) (fun c_28 => ?_)
      · skip
        refine lv_aload_n hx hb dX12_fact_75 rfl (lv_at hl 1 rfl) ?_
        have ha_29 : ((Mf 3) (Mv 5).toNatClampNeg).toInt ≤ (vy_11 : Int32).toInt := by
          have z_1 := congrArg Int32.toInt c_28
          have y_0 : (0 : Int32).toInt = 0 := by decide
          omega
        refine cV (a := (Ma 0)) (As := []) (rest := []) (wr := [((Ma 7), .inl (tc 0, 400, .inl vy_15))]) ⟨hx, hb, hml, hown, hts⟩ hK hX hA (cu_X12_compare l D tc sk (Ma 0) (Ma 1) (Ma 2) (Ma 3) (Ma 4) (Ma 5) (Ma 6) (Ma 7) (Ma 8) (Ma 9) (Ma 10) (Ma 11) (Ma 12) (Ma 13) (Ma 14) (Ma 15) (Ma 16) (Ma 17) (Ma 18) (Ma 19) (Ma 20) (Mv 0) (Mv 1) vy_11 vy_12 (Mv 4) (Mv 5) (Mv 6) vy_13 (Mv 8) vy_14 (Mv 10) (Mv 11) (Mv 12) (Mv 13) (Mv 14) (Mf 1) (Mf 2) (Mf 3) (Mj 0) b pn_25 pf_19 pf_27 ha_29 h_md) k_1334 k_1331 k_1333 k_52 k_106 pl_X12_compare ⟨Nat.le_of_ble_eq_true rfl, Nat.le_of_ble_eq_true rfl⟩ rfl rfl (va_recv hK hP (ci := 12) (q0 := 0) rfl rfl) hP hD hS [0, 1, 2, 3] [4] rfl rfl rfl rfl rfl (by decide) rfl hl.1 rfl (Nat.le_of_ble_eq_true rfl) dX12_fact_76 ⟨Nat.le_of_ble_eq_true rfl, Nat.le_of_ble_eq_true rfl⟩ (fun v_30 u_31 H locs hv_32 hP₀ hD₀ hS₀ => ?_)
        obtain ⟨sv_33, sv_34, sv_35, sv_36, sv_37, sv_38⟩ := u_31
        obtain ⟨r_42, rfl, he_43, pf_39, pf_40, pf_41, hm_45⟩ := hv_32
        have he_43 : ((r_42.toInt = 0 ∧ ¬ (sv_34 : Int32).toInt = 0) ∨ (r_42.toInt = 1 ∧ ((Mf 3) (Mv 5).toNatClampNeg).toInt + 1 ≤ (sv_38 (Mv 5).toNatClampNeg).toInt ∧ (sv_38 (Mv 5).toNatClampNeg).toInt + (vy_11 : Int32).toInt ≤ ((Mf 3) (Mv 5).toNatClampNeg).toInt + (sv_33 : Int32).toInt ∧ (vy_11 : Int32).toInt + 1 ≤ (sv_33 : Int32).toInt)) := he_43
        have pf_39 : (vy_11 : Int32).toInt ≤ (sv_33 : Int32).toInt ∧ (sv_33 : Int32).toInt ≤ ((Mv 0) : Int32).toInt := pf_39
        have pf_40 : ((Mv 6) : Int32).toInt ≤ (sv_36 : Int32).toInt ∧ (sv_36 : Int32).toInt ≤ 60 := pf_40
        have pf_41 : Agr (Mf 2) sv_37 (400 * ((Mv 5) : Int32).toInt + ((Mf 3) (Mv 5).toNatClampNeg).toInt) := pf_41
        refine W.eq (g2 := F0 m 79 ls [.int r_42]) rfl ?_
        replace hP : va_P D classes [((Ma 7), .inl (tc 0, 400, .inl vy_15)), ((Ma 0), .inr (12, [.ref (Ma 1), .int (Mv 0), .int (Mv 1), .ref (Ma 2), .ref (Ma 3), .ref (Ma 4), .ref (Ma 5), .ref (Ma 6), .int sv_33, .int sv_34, .int sv_35, .int (Mv 5), .int sv_36, .int vy_13, .int (Mv 8), .ref (Ma 7), .int vy_14, .ref (Ma 8), .int (Mv 10), .ref (Ma 9), .ref (Ma 10), .int (Mv 11), .int (Mv 12), .int (Mv 13), .ref (Ma 11), .int (Mv 14), .ref (Ma 12), .ref (Ma 13), .ref (Ma 14), .ref (Ma 15), .ref (Ma 16), .long (Mj 0), .ref (Ma 17), .ref (Ma 18), .ref (Ma 19), .ref (Ma 20)])), ((Ma 1), .inl (tc 2, 400, .inl (Mf 1))), ((Ma 2), .inl (tc 0, 2400, .inl sv_37)), ((Ma 3), .inl (tc 0, 7, .inl sv_38))] H := hP₀
        replace hD : va_D A [((Ma 7), .inl (tc 0, 400, .inl vy_15)), ((Ma 0), .inr (12, [.ref (Ma 1), .int (Mv 0), .int (Mv 1), .ref (Ma 2), .ref (Ma 3), .ref (Ma 4), .ref (Ma 5), .ref (Ma 6), .int sv_33, .int sv_34, .int sv_35, .int (Mv 5), .int sv_36, .int vy_13, .int (Mv 8), .ref (Ma 7), .int vy_14, .ref (Ma 8), .int (Mv 10), .ref (Ma 9), .ref (Ma 10), .int (Mv 11), .int (Mv 12), .int (Mv 13), .ref (Ma 11), .int (Mv 14), .ref (Ma 12), .ref (Ma 13), .ref (Ma 14), .ref (Ma 15), .ref (Ma 16), .long (Mj 0), .ref (Ma 17), .ref (Ma 18), .ref (Ma 19), .ref (Ma 20)])), ((Ma 1), .inl (tc 2, 400, .inl (Mf 1))), ((Ma 2), .inl (tc 0, 2400, .inl sv_37)), ((Ma 3), .inl (tc 0, 7, .inl sv_38))] := hD₀
        replace hS := hS₀
        clear hP₀ hD₀ hS₀
        have ha_46 : ((Mv 2) : Int32).toInt ≤ (sv_33 : Int32).toInt ∧ (sv_33 : Int32).toInt ≤ ((Mv 0) : Int32).toInt := by
          have z_1 := congrArg Int32.toInt c_28
          have y_0 : (0 : Int32).toInt = 0 := by decide
          refine ⟨?_, ?_⟩ <;> omega
        have hb_47 : (r_42 : Int32).toInt = 0 ∨ (r_42 : Int32).toInt = 1 := by
          have z_1 := congrArg Int32.toInt c_28
          have y_0 : (0 : Int32).toInt = 0 := by decide
          omega
        have hp_48 : (((r_42 : Int32).toInt = 0 ∧ ¬ (sv_34 : Int32).toInt = 0) ∨ ((r_42 : Int32).toInt = 1 ∧ (sv_38 (Mv 5).toNatClampNeg).toInt + (vy_14 : Int32).toInt + ((Mv 2) : Int32).toInt ≤ ((Mf 3) (Mv 5).toNatClampNeg).toInt + ((Mv 9) : Int32).toInt + (sv_33 : Int32).toInt ∧ ((Mv 2) : Int32).toInt + 1 ≤ (sv_33 : Int32).toInt ∧ ((Mf 3) (Mv 5).toNatClampNeg).toInt ≤ (sv_38 (Mv 5).toNatClampNeg).toInt)) := by
          have z_1 := congrArg Int32.toInt c_28
          have y_0 : (0 : Int32).toInt = 0 := by decide
          omega
        have hm_49 : (r_42 : Int32).toInt = 1 → (LSR vy_15 vy_14 sv_37 sv_38 (Mv 5) b sv_36) := by
          intro h1r
          obtain pf_50 := hm_45 h1r
          have pf_50 : Cd sv_37 sv_38 (Mv 5) b sv_36 (pn_25 + 1) := pf_50
          have ar_pf_50 := Cd.ar pf_50
          exact ⟨pn_25, pf_26, pf_50⟩
        exact retI (v := r_42) hx hb hr hlk (nar01 hb_47) hP hD hS (sv_33, sv_34, sv_35, sv_36, vy_13, vy_14, sv_37, sv_38, vy_15) ⟨_, rfl, hp_48, ha_46, pf_40, pf_41, hm_49⟩ [1, 2, 3, 4, 0] rfl rfl dX12_fact_79 (Nat.le_of_ble_eq_true rfl) (Nat.le_of_ble_eq_true rfl) rfl
      · skip
        refine lv_iconst (v := 0) hx hb dX12_fact_6 (by decide) ?_
        refine lv_istore_n (lv' := [(1, .int 0), (0, .ref (Ma 0))]) hx hb dX12_fact_7 rfl hl (by decide) rfl (fun ls hl₀ => ?_)
        replace hl := hl₀
        clear hl₀
        refine lv_aload_n hx hb dX12_fact_8 rfl (lv_at hl 1 rfl) ?_
        refine cV (a := (Ma 0)) (As := []) (rest := []) (wr := [((Ma 2), .inl (tc 0, 2400, .inl (Mf 2))), ((Ma 3), .inl (tc 0, 7, .inl (Mf 3))), ((Ma 7), .inl (tc 0, 400, .inl vy_15))]) ⟨hx, hb, hml, hown, hts⟩ hK hX hA (cu_X12_see l D tc sk (Ma 0) (Ma 1) (Ma 2) (Ma 3) (Ma 4) (Ma 5) (Ma 6) (Ma 7) (Ma 8) (Ma 9) (Ma 10) (Ma 11) (Ma 12) (Ma 13) (Ma 14) (Ma 15) (Ma 16) (Ma 17) (Ma 18) (Ma 19) (Ma 20) (Mv 0) (Mv 1) vy_11 vy_12 (Mv 4) (Mv 5) (Mv 6) vy_13 (Mv 8) vy_14 (Mv 10) (Mv 11) (Mv 12) (Mv 13) (Mv 14) (Mf 1) (Mj 0) pf_19) k_1211 k_1208 k_1210 k_27 k_106 pl_X12_see ⟨Nat.le_of_ble_eq_true rfl, Nat.le_of_ble_eq_true rfl⟩ rfl rfl (va_recv hK hP (ci := 12) (q0 := 0) rfl rfl) hP hD hS [0, 1] [2, 3, 4] rfl rfl rfl rfl rfl (by decide) rfl hl.1 rfl (Nat.le_of_ble_eq_true rfl) dX12_fact_9 ⟨Nat.le_of_ble_eq_true rfl, Nat.le_of_ble_eq_true rfl⟩ (fun v_51 u_52 H locs hv_53 hP₀ hD₀ hS₀ => ?_)
        obtain ⟨sv_54, rfl⟩ : ∃ z, z = u_52 := ⟨_, rfl⟩
        obtain ⟨r_58, rfl, he_59, pf_55, pf_56, pf_57⟩ := hv_53
        have he_59 : (r_58.toInt = -1 ∨ (sv_54 : Int32).toInt < ((Mv 0) : Int32).toInt) := he_59
        have pf_55 : (vy_11 : Int32).toInt ≤ (sv_54 : Int32).toInt ∧ (sv_54 : Int32).toInt ≤ ((Mv 0) : Int32).toInt := pf_55
        have pf_56 : NSq (Mf 1) (Mv 0) sv_54 := pf_56
        have pf_57 : Stl (Mf 1) (Mv 0) vy_11 sv_54 := pf_57
        refine W.eq (g2 := F0 m 12 ls [.int r_58]) rfl ?_
        replace hP : va_P D classes [((Ma 2), .inl (tc 0, 2400, .inl (Mf 2))), ((Ma 3), .inl (tc 0, 7, .inl (Mf 3))), ((Ma 7), .inl (tc 0, 400, .inl vy_15)), ((Ma 0), .inr (12, [.ref (Ma 1), .int (Mv 0), .int (Mv 1), .ref (Ma 2), .ref (Ma 3), .ref (Ma 4), .ref (Ma 5), .ref (Ma 6), .int sv_54, .int vy_12, .int (Mv 4), .int (Mv 5), .int (Mv 6), .int vy_13, .int (Mv 8), .ref (Ma 7), .int vy_14, .ref (Ma 8), .int (Mv 10), .ref (Ma 9), .ref (Ma 10), .int (Mv 11), .int (Mv 12), .int (Mv 13), .ref (Ma 11), .int (Mv 14), .ref (Ma 12), .ref (Ma 13), .ref (Ma 14), .ref (Ma 15), .ref (Ma 16), .long (Mj 0), .ref (Ma 17), .ref (Ma 18), .ref (Ma 19), .ref (Ma 20)])), ((Ma 1), .inl (tc 2, 400, .inl (Mf 1)))] H := hP₀
        replace hD : va_D A [((Ma 2), .inl (tc 0, 2400, .inl (Mf 2))), ((Ma 3), .inl (tc 0, 7, .inl (Mf 3))), ((Ma 7), .inl (tc 0, 400, .inl vy_15)), ((Ma 0), .inr (12, [.ref (Ma 1), .int (Mv 0), .int (Mv 1), .ref (Ma 2), .ref (Ma 3), .ref (Ma 4), .ref (Ma 5), .ref (Ma 6), .int sv_54, .int vy_12, .int (Mv 4), .int (Mv 5), .int (Mv 6), .int vy_13, .int (Mv 8), .ref (Ma 7), .int vy_14, .ref (Ma 8), .int (Mv 10), .ref (Ma 9), .ref (Ma 10), .int (Mv 11), .int (Mv 12), .int (Mv 13), .ref (Ma 11), .int (Mv 14), .ref (Ma 12), .ref (Ma 13), .ref (Ma 14), .ref (Ma 15), .ref (Ma 16), .long (Mj 0), .ref (Ma 17), .ref (Ma 18), .ref (Ma 19), .ref (Ma 20)])), ((Ma 1), .inl (tc 2, 400, .inl (Mf 1)))] := hD₀
        replace hS := hS₀
        clear hP₀ hD₀ hS₀
        refine lv_istore_n (lv' := [(2, .int r_58), (1, .int 0), (0, .ref (Ma 0))]) hx hb dX12_fact_12 rfl hl (by decide) rfl (fun ls hl₀ => ?_)
        replace hl := hl₀
        clear hl₀
        refine lv_aload_n hx hb dX12_fact_13 rfl (lv_at hl 2 rfl) ?_
        refine lv_ldc2 hx hb hown (hts _ k_1326) dX12_fact_14 ?_
        have ha_61 : 0 ≤ (sv_54 : Int32).toInt ∧ (sv_54 : Int32).toInt ≤ ((Mv 0) : Int32).toInt ∧ ((Mv 0) : Int32).toInt ≤ 400 := by
          have z_1 : ¬ (vy_10 : Int32).toInt = (0 : Int32).toInt := fun z => c_28 (Int32.toInt_inj.mp z)
          have y_0 : (0 : Int32).toInt = 0 := by decide
          refine ⟨?_, ?_, ?_⟩ <;> omega
        refine cV (a := (Ma 0)) (As := [.long 7237492]) (rest := []) (wr := [((Ma 2), .inl (tc 0, 2400, .inl (Mf 2))), ((Ma 3), .inl (tc 0, 7, .inl (Mf 3))), ((Ma 7), .inl (tc 0, 400, .inl vy_15))]) ⟨hx, hb, hml, hown, hts⟩ hK hX hA (cu_X12_isWord l D tc sk (Ma 0) (Ma 1) (Ma 2) (Ma 3) (Ma 4) (Ma 5) (Ma 6) (Ma 7) (Ma 8) (Ma 9) (Ma 10) (Ma 11) (Ma 12) (Ma 13) (Ma 14) (Ma 15) (Ma 16) (Ma 17) (Ma 18) (Ma 19) (Ma 20) (Mv 0) (Mv 1) sv_54 vy_12 (Mv 4) (Mv 5) (Mv 6) vy_13 (Mv 8) vy_14 (Mv 10) (Mv 11) (Mv 12) (Mv 13) (Mv 14) (Mf 1) (Mj 0) 7237492 ha_61) k_1220 k_1217 k_1219 k_29 k_106 pl_X12_isWord ⟨Nat.le_of_ble_eq_true rfl, Nat.le_of_ble_eq_true rfl⟩ rfl rfl (va_recv hK hP (ci := 12) (q0 := 3) rfl rfl) hP hD hS [3, 4] [0, 1, 2] rfl rfl rfl rfl rfl (by decide) rfl hl.1 rfl (Nat.le_of_ble_eq_true rfl) dX12_fact_17 ⟨Nat.le_of_ble_eq_true rfl, Nat.le_of_ble_eq_true rfl⟩ (fun v_62 u_63 H locs hv_64 hP₀ hD₀ hS₀ => ?_)
        obtain ⟨sv_65, rfl⟩ : ∃ z, z = u_63 := ⟨_, rfl⟩
        obtain ⟨r_69, rfl, he_70, pf_66, pf_67, pf_68, hm_72⟩ := hv_64
        have he_70 : (r_69.toInt = 0 ∨ r_69.toInt = 1) := he_70
        have pf_66 : (sv_54 : Int32).toInt ≤ (sv_65 : Int32).toInt ∧ (sv_65 : Int32).toInt ≤ ((Mv 0) : Int32).toInt := pf_66
        have pf_67 : NSq (Mf 1) (Mv 0) sv_65 := pf_67
        have pf_68 : Stl (Mf 1) (Mv 0) sv_54 sv_65 := pf_68
        have ar_pf_68 := Stl.or pf_68 pf_56
        refine W.eq (g2 := F0 m 20 ls [.int r_69]) rfl ?_
        replace hP : va_P D classes [((Ma 2), .inl (tc 0, 2400, .inl (Mf 2))), ((Ma 3), .inl (tc 0, 7, .inl (Mf 3))), ((Ma 7), .inl (tc 0, 400, .inl vy_15)), ((Ma 0), .inr (12, [.ref (Ma 1), .int (Mv 0), .int (Mv 1), .ref (Ma 2), .ref (Ma 3), .ref (Ma 4), .ref (Ma 5), .ref (Ma 6), .int sv_65, .int vy_12, .int (Mv 4), .int (Mv 5), .int (Mv 6), .int vy_13, .int (Mv 8), .ref (Ma 7), .int vy_14, .ref (Ma 8), .int (Mv 10), .ref (Ma 9), .ref (Ma 10), .int (Mv 11), .int (Mv 12), .int (Mv 13), .ref (Ma 11), .int (Mv 14), .ref (Ma 12), .ref (Ma 13), .ref (Ma 14), .ref (Ma 15), .ref (Ma 16), .long (Mj 0), .ref (Ma 17), .ref (Ma 18), .ref (Ma 19), .ref (Ma 20)])), ((Ma 1), .inl (tc 2, 400, .inl (Mf 1)))] H := hP₀
        replace hD : va_D A [((Ma 2), .inl (tc 0, 2400, .inl (Mf 2))), ((Ma 3), .inl (tc 0, 7, .inl (Mf 3))), ((Ma 7), .inl (tc 0, 400, .inl vy_15)), ((Ma 0), .inr (12, [.ref (Ma 1), .int (Mv 0), .int (Mv 1), .ref (Ma 2), .ref (Ma 3), .ref (Ma 4), .ref (Ma 5), .ref (Ma 6), .int sv_65, .int vy_12, .int (Mv 4), .int (Mv 5), .int (Mv 6), .int vy_13, .int (Mv 8), .ref (Ma 7), .int vy_14, .ref (Ma 8), .int (Mv 10), .ref (Ma 9), .ref (Ma 10), .int (Mv 11), .int (Mv 12), .int (Mv 13), .ref (Ma 11), .int (Mv 14), .ref (Ma 12), .ref (Ma 13), .ref (Ma 14), .ref (Ma 15), .ref (Ma 16), .long (Mj 0), .ref (Ma 17), .ref (Ma 18), .ref (Ma 19), .ref (Ma 20)])), ((Ma 1), .inl (tc 2, 400, .inl (Mf 1)))] := hD₀
        replace hS := hS₀
        clear hP₀ hD₀ hS₀
        refine lv_if_eq (tgt := 43) hx hb dX12_fact_20 (by decide) (fun c_73 => ?_) (fun c_73 => ?_)
        · skip
          refine lv_iload_n hx hb dX12_fact_43 rfl (lv_at hl 0 rfl) ?_
          refine lv_bipush (v := 91) hx hb dX12_fact_44 (by decide) ?_
          refine lv_icmp_ne (tgt := 72) hx hb dX12_fact_46 (by decide) (fun c_74 => ?_) (fun c_74 => ?_)
          · skip
            refine lv_goto (tgt := 2) hx hb dX12_fact_72 (by decide) ?_
            have hb_75 : 2 * (400 - (sv_65 : Int32).toInt) + (0 : Int32).toInt < 2 * (400 - (vy_11 : Int32).toInt) + (vy_10 : Int32).toInt ∧ 1 ≤ 2 * (400 - (vy_11 : Int32).toInt) + (vy_10 : Int32).toInt := by
              have z_1 : ¬ (vy_10 : Int32).toInt = (0 : Int32).toInt := fun z => c_28 (Int32.toInt_inj.mp z)
              have z_2 := congrArg Int32.toInt c_73
              have z_3 : ¬ (r_58 : Int32).toInt = (91 : Int32).toInt := fun z => c_74 (Int32.toInt_inj.mp z)
              have y_0 : (0 : Int32).toInt = 0 := by decide
              have y_91 : (91 : Int32).toInt = 91 := by decide
              refine ⟨?_, ?_⟩ <;> omega
            have ha_76 : 0 ≤ (sv_65 : Int32).toInt ∧ (sv_65 : Int32).toInt ≤ ((Mv 0) : Int32).toInt ∧ ((Mv 0) : Int32).toInt ≤ 400 := by
              have z_1 : ¬ (vy_10 : Int32).toInt = (0 : Int32).toInt := fun z => c_28 (Int32.toInt_inj.mp z)
              have z_2 := congrArg Int32.toInt c_73
              have z_3 : ¬ (r_58 : Int32).toInt = (91 : Int32).toInt := fun z => c_74 (Int32.toInt_inj.mp z)
              have y_0 : (0 : Int32).toInt = 0 := by decide
              have y_91 : (91 : Int32).toInt = 91 := by decide
              refine ⟨?_, ?_, ?_⟩ <;> omega
            have ha_77 : (Mv 2).toInt ≤ (sv_65 : Int32).toInt := by
              have z_1 : ¬ (vy_10 : Int32).toInt = (0 : Int32).toInt := fun z => c_28 (Int32.toInt_inj.mp z)
              have z_2 := congrArg Int32.toInt c_73
              have z_3 : ¬ (r_58 : Int32).toInt = (91 : Int32).toInt := fun z => c_74 (Int32.toInt_inj.mp z)
              have y_0 : (0 : Int32).toInt = 0 := by decide
              have y_91 : (91 : Int32).toInt = 91 := by decide
              omega
            have ha_78 : 0 ≤ (0 : Int32).toInt ∧ (0 : Int32).toInt ≤ 1 := by
              have z_1 : ¬ (vy_10 : Int32).toInt = (0 : Int32).toInt := fun z => c_28 (Int32.toInt_inj.mp z)
              have z_2 := congrArg Int32.toInt c_73
              have z_3 : ¬ (r_58 : Int32).toInt = (91 : Int32).toInt := fun z => c_74 (Int32.toInt_inj.mp z)
              have y_0 : (0 : Int32).toInt = 0 := by decide
              have y_91 : (91 : Int32).toInt = 91 := by decide
              refine ⟨?_, ?_⟩ <;> omega
            have ha_79 : (vy_14 : Int32).toInt + ((Mv 2) : Int32).toInt ≤ ((Mv 9) : Int32).toInt + (sv_65 : Int32).toInt ∧ 0 ≤ (vy_14 : Int32).toInt := by
              have z_1 : ¬ (vy_10 : Int32).toInt = (0 : Int32).toInt := fun z => c_28 (Int32.toInt_inj.mp z)
              have z_2 := congrArg Int32.toInt c_73
              have z_3 : ¬ (r_58 : Int32).toInt = (91 : Int32).toInt := fun z => c_74 (Int32.toInt_inj.mp z)
              have y_0 : (0 : Int32).toInt = 0 := by decide
              have y_91 : (91 : Int32).toInt = 91 := by decide
              refine ⟨?_, ?_⟩ <;> omega
            exact ih_17 0 sv_65 vy_12 vy_13 vy_14 vy_15 _ _ _ (by omega) ha_76 ha_77 ha_78 pf_22 ha_79 (hP.sub [3, 4, 0, 1, 2] rfl) (hD.sub [3, 4, 0, 1, 2] rfl rfl) hS (lv_sub hl [1, 2] rfl)
          · skip
            refine lv_aload_n hx hb dX12_fact_49 rfl (lv_at hl 2 rfl) ?_
            refine lv_bipush (v := 91) hx hb dX12_fact_50 (by decide) ?_
            have ha_80 : 0 ≤ (sv_65 : Int32).toInt ∧ (sv_65 : Int32).toInt ≤ ((Mv 0) : Int32).toInt ∧ ((Mv 0) : Int32).toInt ≤ 400 := by
              have z_1 : ¬ (vy_10 : Int32).toInt = (0 : Int32).toInt := fun z => c_28 (Int32.toInt_inj.mp z)
              have z_2 := congrArg Int32.toInt c_73
              have z_3 := congrArg Int32.toInt c_74
              have y_0 : (0 : Int32).toInt = 0 := by decide
              have y_91 : (91 : Int32).toInt = 91 := by decide
              refine ⟨?_, ?_, ?_⟩ <;> omega
            have ha_81 : (vy_14 : Int32).toInt < 400 := by
              have z_1 : ¬ (vy_10 : Int32).toInt = (0 : Int32).toInt := fun z => c_28 (Int32.toInt_inj.mp z)
              have z_2 := congrArg Int32.toInt c_73
              have z_3 := congrArg Int32.toInt c_74
              have y_0 : (0 : Int32).toInt = 0 := by decide
              have y_91 : (91 : Int32).toInt = 91 := by decide
              omega
            have ha_82 : (91 : Int32).toInt = 11 ∨ (91 : Int32).toInt = 91 := by
              have z_1 : ¬ (vy_10 : Int32).toInt = (0 : Int32).toInt := fun z => c_28 (Int32.toInt_inj.mp z)
              have z_2 := congrArg Int32.toInt c_73
              have z_3 := congrArg Int32.toInt c_74
              have y_0 : (0 : Int32).toInt = 0 := by decide
              have y_91 : (91 : Int32).toInt = 91 := by decide
              omega
            refine cV (a := (Ma 0)) (As := [.int 91]) (rest := []) (wr := [((Ma 2), .inl (tc 0, 2400, .inl (Mf 2))), ((Ma 3), .inl (tc 0, 7, .inl (Mf 3))), ((Ma 1), .inl (tc 2, 400, .inl (Mf 1)))]) ⟨hx, hb, hml, hown, hts⟩ hK hX hA (cu_X12_opens l D tc sk (Ma 0) (Ma 1) (Ma 2) (Ma 3) (Ma 4) (Ma 5) (Ma 6) (Ma 7) (Ma 8) (Ma 9) (Ma 10) (Ma 11) (Ma 12) (Ma 13) (Ma 14) (Ma 15) (Ma 16) (Ma 17) (Ma 18) (Ma 19) (Ma 20) (Mv 0) (Mv 1) sv_65 vy_12 (Mv 4) (Mv 5) (Mv 6) vy_13 (Mv 8) vy_14 (Mv 10) (Mv 11) (Mv 12) (Mv 13) (Mv 14) vy_15 (Mj 0) 91 pn_25 ha_80 pf_26 ha_81 ha_82) k_1330 k_1327 k_1329 k_51 k_106 pl_X12_opens ⟨Nat.le_of_ble_eq_true rfl, Nat.le_of_ble_eq_true rfl⟩ rfl rfl (va_recv hK hP (ci := 12) (q0 := 3) rfl rfl) hP hD hS [3, 2] [0, 1, 4] rfl rfl rfl rfl rfl (by decide) rfl hl.1 rfl (Nat.le_of_ble_eq_true rfl) dX12_fact_52 ⟨Nat.le_of_ble_eq_true rfl, Nat.le_of_ble_eq_true rfl⟩ (fun v_83 u_84 H locs hv_85 hP₀ hD₀ hS₀ => ?_)
            obtain ⟨sv_86, sv_87, sv_88, sv_89⟩ := u_84
            obtain ⟨r_90, rfl, he_91, hm_93⟩ := hv_85
            have he_91 : ((r_90.toInt = 0 ∧ ¬ (sv_86 : Int32).toInt = 0) ∨ (r_90.toInt = 1 ∧ (sv_88 : Int32).toInt = (vy_14 : Int32).toInt + 1)) := he_91
            refine W.eq (g2 := F0 m 55 ls [.int r_90]) rfl ?_
            replace hP : va_P D classes [((Ma 2), .inl (tc 0, 2400, .inl (Mf 2))), ((Ma 3), .inl (tc 0, 7, .inl (Mf 3))), ((Ma 1), .inl (tc 2, 400, .inl (Mf 1))), ((Ma 0), .inr (12, [.ref (Ma 1), .int (Mv 0), .int (Mv 1), .ref (Ma 2), .ref (Ma 3), .ref (Ma 4), .ref (Ma 5), .ref (Ma 6), .int sv_65, .int sv_86, .int (Mv 4), .int (Mv 5), .int (Mv 6), .int sv_87, .int (Mv 8), .ref (Ma 7), .int sv_88, .ref (Ma 8), .int (Mv 10), .ref (Ma 9), .ref (Ma 10), .int (Mv 11), .int (Mv 12), .int (Mv 13), .ref (Ma 11), .int (Mv 14), .ref (Ma 12), .ref (Ma 13), .ref (Ma 14), .ref (Ma 15), .ref (Ma 16), .long (Mj 0), .ref (Ma 17), .ref (Ma 18), .ref (Ma 19), .ref (Ma 20)])), ((Ma 7), .inl (tc 0, 400, .inl sv_89))] H := hP₀
            replace hD : va_D A [((Ma 2), .inl (tc 0, 2400, .inl (Mf 2))), ((Ma 3), .inl (tc 0, 7, .inl (Mf 3))), ((Ma 1), .inl (tc 2, 400, .inl (Mf 1))), ((Ma 0), .inr (12, [.ref (Ma 1), .int (Mv 0), .int (Mv 1), .ref (Ma 2), .ref (Ma 3), .ref (Ma 4), .ref (Ma 5), .ref (Ma 6), .int sv_65, .int sv_86, .int (Mv 4), .int (Mv 5), .int (Mv 6), .int sv_87, .int (Mv 8), .ref (Ma 7), .int sv_88, .ref (Ma 8), .int (Mv 10), .ref (Ma 9), .ref (Ma 10), .int (Mv 11), .int (Mv 12), .int (Mv 13), .ref (Ma 11), .int (Mv 14), .ref (Ma 12), .ref (Ma 13), .ref (Ma 14), .ref (Ma 15), .ref (Ma 16), .long (Mj 0), .ref (Ma 17), .ref (Ma 18), .ref (Ma 19), .ref (Ma 20)])), ((Ma 7), .inl (tc 0, 400, .inl sv_89))] := hD₀
            replace hS := hS₀
            clear hP₀ hD₀ hS₀
            refine lv_if_ne (tgt := 60) hx hb dX12_fact_55 (by decide) (fun c_94 => ?_) (fun c_94 => ?_)
            · skip
              have hz_96 : (r_90 : Int32).toInt = 1 := by
                have z_1 : ¬ (vy_10 : Int32).toInt = (0 : Int32).toInt := fun z => c_28 (Int32.toInt_inj.mp z)
                have z_2 := congrArg Int32.toInt c_73
                have z_3 := congrArg Int32.toInt c_74
                have z_4 : ¬ (r_90 : Int32).toInt = (0 : Int32).toInt := fun z => c_94 (Int32.toInt_inj.mp z)
                have y_0 : (0 : Int32).toInt = 0 := by decide
                have y_91 : (91 : Int32).toInt = 91 := by decide
                omega
              obtain pf_95 := hm_93 hz_96
              have pf_95 : OpS sv_89 sv_88 pn_25 := pf_95
              have ar_pf_95 := OpS.ar pf_95
              refine lv_aload_n hx hb dX12_fact_60 rfl (lv_at hl 2 rfl) ?_
              refine lv_dup hx hb dX12_fact_61 rfl ?_
              refine gf_X12_87 hx hb hts hown hK hP 3 rfl rfl dX12_fact_62 ?_
              refine lv_iconst (v := 1) hx hb dX12_fact_65 (by decide) ?_
              refine lv_iadd hx hb dX12_fact_66 ?_
              refine lv_topi (fun x_97 ex_97 => ?_)
              refine pf_X12_87 hx hb hts hown hK hP hD hS 3 rfl (Nat.le_of_ble_eq_true rfl) rfl rfl dX12_fact_67 (fun H locs hP₀ hD₀ hS₀ => ?_)
              replace hP : va_P D classes [((Ma 2), .inl (tc 0, 2400, .inl (Mf 2))), ((Ma 3), .inl (tc 0, 7, .inl (Mf 3))), ((Ma 1), .inl (tc 2, 400, .inl (Mf 1))), ((Ma 0), .inr (12, [.ref (Ma 1), .int (Mv 0), .int (Mv 1), .ref (Ma 2), .ref (Ma 3), .ref (Ma 4), .ref (Ma 5), .ref (Ma 6), .int x_97, .int sv_86, .int (Mv 4), .int (Mv 5), .int (Mv 6), .int sv_87, .int (Mv 8), .ref (Ma 7), .int sv_88, .ref (Ma 8), .int (Mv 10), .ref (Ma 9), .ref (Ma 10), .int (Mv 11), .int (Mv 12), .int (Mv 13), .ref (Ma 11), .int (Mv 14), .ref (Ma 12), .ref (Ma 13), .ref (Ma 14), .ref (Ma 15), .ref (Ma 16), .long (Mj 0), .ref (Ma 17), .ref (Ma 18), .ref (Ma 19), .ref (Ma 20)])), ((Ma 7), .inl (tc 0, 400, .inl sv_89))] H := hP₀
              replace hD : va_D A [((Ma 2), .inl (tc 0, 2400, .inl (Mf 2))), ((Ma 3), .inl (tc 0, 7, .inl (Mf 3))), ((Ma 1), .inl (tc 2, 400, .inl (Mf 1))), ((Ma 0), .inr (12, [.ref (Ma 1), .int (Mv 0), .int (Mv 1), .ref (Ma 2), .ref (Ma 3), .ref (Ma 4), .ref (Ma 5), .ref (Ma 6), .int x_97, .int sv_86, .int (Mv 4), .int (Mv 5), .int (Mv 6), .int sv_87, .int (Mv 8), .ref (Ma 7), .int sv_88, .ref (Ma 8), .int (Mv 10), .ref (Ma 9), .ref (Ma 10), .int (Mv 11), .int (Mv 12), .int (Mv 13), .ref (Ma 11), .int (Mv 14), .ref (Ma 12), .ref (Ma 13), .ref (Ma 14), .ref (Ma 15), .ref (Ma 16), .long (Mj 0), .ref (Ma 17), .ref (Ma 18), .ref (Ma 19), .ref (Ma 20)])), ((Ma 7), .inl (tc 0, 400, .inl sv_89))] := hD₀
              replace hS := hS₀
              clear hP₀ hD₀ hS₀
              have tp_x_97 : (x_97 : Int32).toInt = (sv_65 : Int32).toInt + 1 := by
                have z_1 : ¬ (vy_10 : Int32).toInt = (0 : Int32).toInt := fun z => c_28 (Int32.toInt_inj.mp z)
                have z_2 := congrArg Int32.toInt c_73
                have z_3 := congrArg Int32.toInt c_74
                have z_4 : ¬ (r_90 : Int32).toInt = (0 : Int32).toInt := fun z => c_94 (Int32.toInt_inj.mp z)
                have y_0 : (0 : Int32).toInt = 0 := by decide
                have y_91 : (91 : Int32).toInt = 91 := by decide
                have y_1 : (1 : Int32).toInt = 1 := by decide
                have t_x_97 : x_97.toInt = (sv_65 : Int32).toInt + (1 : Int32).toInt := by rw [ex_97]; exact add_toInt (by omega) (by omega)
                omega
              refine lv_iconst (v := 1) hx hb dX12_fact_70 (by decide) ?_
              refine lv_istore_n (lv' := [(1, .int 1), (2, .int r_58), (0, .ref (Ma 0))]) hx hb dX12_fact_71 rfl hl (by decide) rfl (fun ls hl₀ => ?_)
              replace hl := hl₀
              clear hl₀
              refine lv_goto (tgt := 2) hx hb dX12_fact_72 (by decide) ?_
              have hb_98 : 2 * (400 - (x_97 : Int32).toInt) + (1 : Int32).toInt < 2 * (400 - (vy_11 : Int32).toInt) + (vy_10 : Int32).toInt ∧ 1 ≤ 2 * (400 - (vy_11 : Int32).toInt) + (vy_10 : Int32).toInt := by
                have z_1 : ¬ (vy_10 : Int32).toInt = (0 : Int32).toInt := fun z => c_28 (Int32.toInt_inj.mp z)
                have z_2 := congrArg Int32.toInt c_73
                have z_3 := congrArg Int32.toInt c_74
                have z_4 : ¬ (r_90 : Int32).toInt = (0 : Int32).toInt := fun z => c_94 (Int32.toInt_inj.mp z)
                have y_0 : (0 : Int32).toInt = 0 := by decide
                have y_91 : (91 : Int32).toInt = 91 := by decide
                have y_1 : (1 : Int32).toInt = 1 := by decide
                have t_x_97 : x_97.toInt = (sv_65 : Int32).toInt + (1 : Int32).toInt := by rw [ex_97]; exact add_toInt (by omega) (by omega)
                refine ⟨?_, ?_⟩ <;> omega
              have ha_99 : 0 ≤ (x_97 : Int32).toInt ∧ (x_97 : Int32).toInt ≤ ((Mv 0) : Int32).toInt ∧ ((Mv 0) : Int32).toInt ≤ 400 := by
                have z_1 : ¬ (vy_10 : Int32).toInt = (0 : Int32).toInt := fun z => c_28 (Int32.toInt_inj.mp z)
                have z_2 := congrArg Int32.toInt c_73
                have z_3 := congrArg Int32.toInt c_74
                have z_4 : ¬ (r_90 : Int32).toInt = (0 : Int32).toInt := fun z => c_94 (Int32.toInt_inj.mp z)
                have y_0 : (0 : Int32).toInt = 0 := by decide
                have y_91 : (91 : Int32).toInt = 91 := by decide
                have y_1 : (1 : Int32).toInt = 1 := by decide
                have t_x_97 : x_97.toInt = (sv_65 : Int32).toInt + (1 : Int32).toInt := by rw [ex_97]; exact add_toInt (by omega) (by omega)
                refine ⟨?_, ?_, ?_⟩ <;> omega
              have ha_100 : (Mv 2).toInt ≤ (x_97 : Int32).toInt := by
                have z_1 : ¬ (vy_10 : Int32).toInt = (0 : Int32).toInt := fun z => c_28 (Int32.toInt_inj.mp z)
                have z_2 := congrArg Int32.toInt c_73
                have z_3 := congrArg Int32.toInt c_74
                have z_4 : ¬ (r_90 : Int32).toInt = (0 : Int32).toInt := fun z => c_94 (Int32.toInt_inj.mp z)
                have y_0 : (0 : Int32).toInt = 0 := by decide
                have y_91 : (91 : Int32).toInt = 91 := by decide
                have y_1 : (1 : Int32).toInt = 1 := by decide
                have t_x_97 : x_97.toInt = (sv_65 : Int32).toInt + (1 : Int32).toInt := by rw [ex_97]; exact add_toInt (by omega) (by omega)
                omega
              have ha_101 : 0 ≤ (1 : Int32).toInt ∧ (1 : Int32).toInt ≤ 1 := by
                have z_1 : ¬ (vy_10 : Int32).toInt = (0 : Int32).toInt := fun z => c_28 (Int32.toInt_inj.mp z)
                have z_2 := congrArg Int32.toInt c_73
                have z_3 := congrArg Int32.toInt c_74
                have z_4 : ¬ (r_90 : Int32).toInt = (0 : Int32).toInt := fun z => c_94 (Int32.toInt_inj.mp z)
                have y_0 : (0 : Int32).toInt = 0 := by decide
                have y_91 : (91 : Int32).toInt = 91 := by decide
                have y_1 : (1 : Int32).toInt = 1 := by decide
                refine ⟨?_, ?_⟩ <;> omega
              have ha_102 : (sv_88 : Int32).toInt + ((Mv 2) : Int32).toInt ≤ ((Mv 9) : Int32).toInt + (x_97 : Int32).toInt ∧ 0 ≤ (sv_88 : Int32).toInt := by
                have z_1 : ¬ (vy_10 : Int32).toInt = (0 : Int32).toInt := fun z => c_28 (Int32.toInt_inj.mp z)
                have z_2 := congrArg Int32.toInt c_73
                have z_3 := congrArg Int32.toInt c_74
                have z_4 : ¬ (r_90 : Int32).toInt = (0 : Int32).toInt := fun z => c_94 (Int32.toInt_inj.mp z)
                have y_0 : (0 : Int32).toInt = 0 := by decide
                have y_91 : (91 : Int32).toInt = 91 := by decide
                have y_1 : (1 : Int32).toInt = 1 := by decide
                have t_x_97 : x_97.toInt = (sv_65 : Int32).toInt + (1 : Int32).toInt := by rw [ex_97]; exact add_toInt (by omega) (by omega)
                refine ⟨?_, ?_⟩ <;> omega
              exact ih_17 1 x_97 sv_86 sv_87 sv_88 sv_89 _ _ _ (by omega) ha_99 ha_100 ha_101 ⟨pn_25, pf_95, pf_27⟩ ha_102 (hP.sub [3, 2, 0, 1, 4] rfl) (hD.sub [3, 2, 0, 1, 4] rfl rfl) hS (lv_sub hl [0, 2] rfl)
            · skip
              refine lv_iconst (v := 0) hx hb dX12_fact_58 (by decide) ?_
              have ha_103 : ((Mv 2) : Int32).toInt ≤ (sv_65 : Int32).toInt ∧ (sv_65 : Int32).toInt ≤ ((Mv 0) : Int32).toInt := by
                have z_1 : ¬ (vy_10 : Int32).toInt = (0 : Int32).toInt := fun z => c_28 (Int32.toInt_inj.mp z)
                have z_2 := congrArg Int32.toInt c_73
                have z_3 := congrArg Int32.toInt c_74
                have z_4 := congrArg Int32.toInt c_94
                have y_0 : (0 : Int32).toInt = 0 := by decide
                have y_91 : (91 : Int32).toInt = 91 := by decide
                refine ⟨?_, ?_⟩ <;> omega
              have ha_104 : ((Mv 6) : Int32).toInt ≤ ((Mv 6) : Int32).toInt ∧ ((Mv 6) : Int32).toInt ≤ 60 := by
                have z_1 : ¬ (vy_10 : Int32).toInt = (0 : Int32).toInt := fun z => c_28 (Int32.toInt_inj.mp z)
                have z_2 := congrArg Int32.toInt c_73
                have z_3 := congrArg Int32.toInt c_74
                have z_4 := congrArg Int32.toInt c_94
                have y_0 : (0 : Int32).toInt = 0 := by decide
                have y_91 : (91 : Int32).toInt = 91 := by decide
                refine ⟨?_, ?_⟩ <;> omega
              have hp_105 : (((0 : Int32).toInt = 0 ∧ ¬ (sv_86 : Int32).toInt = 0) ∨ ((0 : Int32).toInt = 1 ∧ ((Mf 3) (Mv 5).toNatClampNeg).toInt + (sv_88 : Int32).toInt + ((Mv 2) : Int32).toInt ≤ ((Mf 3) (Mv 5).toNatClampNeg).toInt + ((Mv 9) : Int32).toInt + (sv_65 : Int32).toInt ∧ ((Mv 2) : Int32).toInt + 1 ≤ (sv_65 : Int32).toInt ∧ ((Mf 3) (Mv 5).toNatClampNeg).toInt ≤ ((Mf 3) (Mv 5).toNatClampNeg).toInt)) := by
                have z_1 : ¬ (vy_10 : Int32).toInt = (0 : Int32).toInt := fun z => c_28 (Int32.toInt_inj.mp z)
                have z_2 := congrArg Int32.toInt c_73
                have z_3 := congrArg Int32.toInt c_74
                have z_4 := congrArg Int32.toInt c_94
                have y_0 : (0 : Int32).toInt = 0 := by decide
                have y_91 : (91 : Int32).toInt = 91 := by decide
                omega
              exact retI (v := 0) hx hb hr hlk (rfl) hP hD hS (sv_65, sv_86, (Mv 4), (Mv 6), sv_87, sv_88, (Mf 2), (Mf 3), sv_89) ⟨_, rfl, hp_105, ha_103, ha_104, (Agr.rf), (fun h => absurd h (by decide))⟩ [3, 2, 0, 1, 4] rfl rfl dX12_fact_59 (Nat.le_of_ble_eq_true rfl) (Nat.le_of_ble_eq_true rfl) rfl
        · skip
          have hz_107 : (r_69 : Int32).toInt = 1 := by
            have z_1 : ¬ (vy_10 : Int32).toInt = (0 : Int32).toInt := fun z => c_28 (Int32.toInt_inj.mp z)
            have z_2 : ¬ (r_69 : Int32).toInt = (0 : Int32).toInt := fun z => c_73 (Int32.toInt_inj.mp z)
            have y_0 : (0 : Int32).toInt = 0 := by decide
            omega
          obtain pf_106 := hm_72 hz_107
          have pf_106 : Ltr (Mf 1) (Mv 0) sv_65 := pf_106
          have ar_pf_106 := pf_106.1
          refine lv_aload_n hx hb dX12_fact_23 rfl (lv_at hl 2 rfl) ?_
          refine lv_bipush (v := 11) hx hb dX12_fact_24 (by decide) ?_
          have ha_108 : 0 ≤ (sv_65 : Int32).toInt ∧ (sv_65 : Int32).toInt ≤ ((Mv 0) : Int32).toInt ∧ ((Mv 0) : Int32).toInt ≤ 400 := by
            have z_1 : ¬ (vy_10 : Int32).toInt = (0 : Int32).toInt := fun z => c_28 (Int32.toInt_inj.mp z)
            have z_2 : ¬ (r_69 : Int32).toInt = (0 : Int32).toInt := fun z => c_73 (Int32.toInt_inj.mp z)
            have y_0 : (0 : Int32).toInt = 0 := by decide
            refine ⟨?_, ?_, ?_⟩ <;> omega
          have ha_109 : (vy_14 : Int32).toInt < 400 := by
            have z_1 : ¬ (vy_10 : Int32).toInt = (0 : Int32).toInt := fun z => c_28 (Int32.toInt_inj.mp z)
            have z_2 : ¬ (r_69 : Int32).toInt = (0 : Int32).toInt := fun z => c_73 (Int32.toInt_inj.mp z)
            have y_0 : (0 : Int32).toInt = 0 := by decide
            omega
          have ha_110 : (11 : Int32).toInt = 11 ∨ (11 : Int32).toInt = 91 := by
            have z_1 : ¬ (vy_10 : Int32).toInt = (0 : Int32).toInt := fun z => c_28 (Int32.toInt_inj.mp z)
            have z_2 : ¬ (r_69 : Int32).toInt = (0 : Int32).toInt := fun z => c_73 (Int32.toInt_inj.mp z)
            have y_0 : (0 : Int32).toInt = 0 := by decide
            have y_11 : (11 : Int32).toInt = 11 := by decide
            omega
          refine cV (a := (Ma 0)) (As := [.int 11]) (rest := []) (wr := [((Ma 2), .inl (tc 0, 2400, .inl (Mf 2))), ((Ma 3), .inl (tc 0, 7, .inl (Mf 3))), ((Ma 1), .inl (tc 2, 400, .inl (Mf 1)))]) ⟨hx, hb, hml, hown, hts⟩ hK hX hA (cu_X12_opens l D tc sk (Ma 0) (Ma 1) (Ma 2) (Ma 3) (Ma 4) (Ma 5) (Ma 6) (Ma 7) (Ma 8) (Ma 9) (Ma 10) (Ma 11) (Ma 12) (Ma 13) (Ma 14) (Ma 15) (Ma 16) (Ma 17) (Ma 18) (Ma 19) (Ma 20) (Mv 0) (Mv 1) sv_65 vy_12 (Mv 4) (Mv 5) (Mv 6) vy_13 (Mv 8) vy_14 (Mv 10) (Mv 11) (Mv 12) (Mv 13) (Mv 14) vy_15 (Mj 0) 11 pn_25 ha_108 pf_26 ha_109 ha_110) k_1330 k_1327 k_1329 k_51 k_106 pl_X12_opens ⟨Nat.le_of_ble_eq_true rfl, Nat.le_of_ble_eq_true rfl⟩ rfl rfl (va_recv hK hP (ci := 12) (q0 := 3) rfl rfl) hP hD hS [3, 2] [0, 1, 4] rfl rfl rfl rfl rfl (by decide) rfl hl.1 rfl (Nat.le_of_ble_eq_true rfl) dX12_fact_26 ⟨Nat.le_of_ble_eq_true rfl, Nat.le_of_ble_eq_true rfl⟩ (fun v_111 u_112 H locs hv_113 hP₀ hD₀ hS₀ => ?_)
          obtain ⟨sv_114, sv_115, sv_116, sv_117⟩ := u_112
          obtain ⟨r_118, rfl, he_119, hm_121⟩ := hv_113
          have he_119 : ((r_118.toInt = 0 ∧ ¬ (sv_114 : Int32).toInt = 0) ∨ (r_118.toInt = 1 ∧ (sv_116 : Int32).toInt = (vy_14 : Int32).toInt + 1)) := he_119
          refine W.eq (g2 := F0 m 29 ls [.int r_118]) rfl ?_
          replace hP : va_P D classes [((Ma 2), .inl (tc 0, 2400, .inl (Mf 2))), ((Ma 3), .inl (tc 0, 7, .inl (Mf 3))), ((Ma 1), .inl (tc 2, 400, .inl (Mf 1))), ((Ma 0), .inr (12, [.ref (Ma 1), .int (Mv 0), .int (Mv 1), .ref (Ma 2), .ref (Ma 3), .ref (Ma 4), .ref (Ma 5), .ref (Ma 6), .int sv_65, .int sv_114, .int (Mv 4), .int (Mv 5), .int (Mv 6), .int sv_115, .int (Mv 8), .ref (Ma 7), .int sv_116, .ref (Ma 8), .int (Mv 10), .ref (Ma 9), .ref (Ma 10), .int (Mv 11), .int (Mv 12), .int (Mv 13), .ref (Ma 11), .int (Mv 14), .ref (Ma 12), .ref (Ma 13), .ref (Ma 14), .ref (Ma 15), .ref (Ma 16), .long (Mj 0), .ref (Ma 17), .ref (Ma 18), .ref (Ma 19), .ref (Ma 20)])), ((Ma 7), .inl (tc 0, 400, .inl sv_117))] H := hP₀
          replace hD : va_D A [((Ma 2), .inl (tc 0, 2400, .inl (Mf 2))), ((Ma 3), .inl (tc 0, 7, .inl (Mf 3))), ((Ma 1), .inl (tc 2, 400, .inl (Mf 1))), ((Ma 0), .inr (12, [.ref (Ma 1), .int (Mv 0), .int (Mv 1), .ref (Ma 2), .ref (Ma 3), .ref (Ma 4), .ref (Ma 5), .ref (Ma 6), .int sv_65, .int sv_114, .int (Mv 4), .int (Mv 5), .int (Mv 6), .int sv_115, .int (Mv 8), .ref (Ma 7), .int sv_116, .ref (Ma 8), .int (Mv 10), .ref (Ma 9), .ref (Ma 10), .int (Mv 11), .int (Mv 12), .int (Mv 13), .ref (Ma 11), .int (Mv 14), .ref (Ma 12), .ref (Ma 13), .ref (Ma 14), .ref (Ma 15), .ref (Ma 16), .long (Mj 0), .ref (Ma 17), .ref (Ma 18), .ref (Ma 19), .ref (Ma 20)])), ((Ma 7), .inl (tc 0, 400, .inl sv_117))] := hD₀
          replace hS := hS₀
          clear hP₀ hD₀ hS₀
          refine lv_if_ne (tgt := 34) hx hb dX12_fact_29 (by decide) (fun c_122 => ?_) (fun c_122 => ?_)
          · skip
            have hz_124 : (r_118 : Int32).toInt = 1 := by
              have z_1 : ¬ (vy_10 : Int32).toInt = (0 : Int32).toInt := fun z => c_28 (Int32.toInt_inj.mp z)
              have z_2 : ¬ (r_69 : Int32).toInt = (0 : Int32).toInt := fun z => c_73 (Int32.toInt_inj.mp z)
              have z_3 : ¬ (r_118 : Int32).toInt = (0 : Int32).toInt := fun z => c_122 (Int32.toInt_inj.mp z)
              have y_0 : (0 : Int32).toInt = 0 := by decide
              omega
            obtain pf_123 := hm_121 hz_124
            have pf_123 : OpS sv_117 sv_116 pn_25 := pf_123
            have ar_pf_123 := OpS.ar pf_123
            refine lv_aload_n hx hb dX12_fact_34 rfl (lv_at hl 2 rfl) ?_
            have ha_125 : 0 ≤ (sv_65 : Int32).toInt ∧ (sv_65 : Int32).toInt ≤ ((Mv 0) : Int32).toInt ∧ ((Mv 0) : Int32).toInt ≤ 400 := by
              have z_1 : ¬ (vy_10 : Int32).toInt = (0 : Int32).toInt := fun z => c_28 (Int32.toInt_inj.mp z)
              have z_2 : ¬ (r_69 : Int32).toInt = (0 : Int32).toInt := fun z => c_73 (Int32.toInt_inj.mp z)
              have z_3 : ¬ (r_118 : Int32).toInt = (0 : Int32).toInt := fun z => c_122 (Int32.toInt_inj.mp z)
              have y_0 : (0 : Int32).toInt = 0 := by decide
              refine ⟨?_, ?_, ?_⟩ <;> omega
            refine cV (a := (Ma 0)) (As := []) (rest := []) (wr := [((Ma 2), .inl (tc 0, 2400, .inl (Mf 2))), ((Ma 3), .inl (tc 0, 7, .inl (Mf 3))), ((Ma 7), .inl (tc 0, 400, .inl sv_117))]) ⟨hx, hb, hml, hown, hts⟩ hK hX hA (cu_X12_passWord l D tc sk (Ma 0) (Ma 1) (Ma 2) (Ma 3) (Ma 4) (Ma 5) (Ma 6) (Ma 7) (Ma 8) (Ma 9) (Ma 10) (Ma 11) (Ma 12) (Ma 13) (Ma 14) (Ma 15) (Ma 16) (Ma 17) (Ma 18) (Ma 19) (Ma 20) (Mv 0) (Mv 1) sv_65 sv_114 (Mv 4) (Mv 5) (Mv 6) sv_115 (Mv 8) sv_116 (Mv 10) (Mv 11) (Mv 12) (Mv 13) (Mv 14) (Mf 1) (Mj 0) ha_125) k_1244 k_1241 k_1243 k_34 k_106 pl_X12_passWord ⟨Nat.le_of_ble_eq_true rfl, Nat.le_of_ble_eq_true rfl⟩ rfl rfl (va_recv hK hP (ci := 12) (q0 := 3) rfl rfl) hP hD hS [3, 2] [0, 1, 4] rfl rfl rfl rfl rfl (by decide) rfl hl.1 rfl (Nat.le_of_ble_eq_true rfl) dX12_fact_35 ⟨Nat.le_of_ble_eq_true rfl, Nat.le_of_ble_eq_true rfl⟩ (fun v_126 u_127 H locs hv_128 hP₀ hD₀ hS₀ => ?_)
            obtain ⟨sv_129, rfl⟩ : ∃ z, z = u_127 := ⟨_, rfl⟩
            obtain ⟨rfl, pf_130, pf_131⟩ := hv_128
            have pf_130 : (sv_65 : Int32).toInt ≤ (sv_129 : Int32).toInt ∧ (sv_129 : Int32).toInt ≤ ((Mv 0) : Int32).toInt := pf_130
            have pf_131 : Pw (Mf 1) (Mv 0) sv_65 sv_129 := pf_131
            have ar_pf_131 := pf_131 pf_106
            refine W.eq (g2 := F0 m 38 ls []) rfl ?_
            replace hP : va_P D classes [((Ma 2), .inl (tc 0, 2400, .inl (Mf 2))), ((Ma 3), .inl (tc 0, 7, .inl (Mf 3))), ((Ma 7), .inl (tc 0, 400, .inl sv_117)), ((Ma 0), .inr (12, [.ref (Ma 1), .int (Mv 0), .int (Mv 1), .ref (Ma 2), .ref (Ma 3), .ref (Ma 4), .ref (Ma 5), .ref (Ma 6), .int sv_129, .int sv_114, .int (Mv 4), .int (Mv 5), .int (Mv 6), .int sv_115, .int (Mv 8), .ref (Ma 7), .int sv_116, .ref (Ma 8), .int (Mv 10), .ref (Ma 9), .ref (Ma 10), .int (Mv 11), .int (Mv 12), .int (Mv 13), .ref (Ma 11), .int (Mv 14), .ref (Ma 12), .ref (Ma 13), .ref (Ma 14), .ref (Ma 15), .ref (Ma 16), .long (Mj 0), .ref (Ma 17), .ref (Ma 18), .ref (Ma 19), .ref (Ma 20)])), ((Ma 1), .inl (tc 2, 400, .inl (Mf 1)))] H := hP₀
            replace hD : va_D A [((Ma 2), .inl (tc 0, 2400, .inl (Mf 2))), ((Ma 3), .inl (tc 0, 7, .inl (Mf 3))), ((Ma 7), .inl (tc 0, 400, .inl sv_117)), ((Ma 0), .inr (12, [.ref (Ma 1), .int (Mv 0), .int (Mv 1), .ref (Ma 2), .ref (Ma 3), .ref (Ma 4), .ref (Ma 5), .ref (Ma 6), .int sv_129, .int sv_114, .int (Mv 4), .int (Mv 5), .int (Mv 6), .int sv_115, .int (Mv 8), .ref (Ma 7), .int sv_116, .ref (Ma 8), .int (Mv 10), .ref (Ma 9), .ref (Ma 10), .int (Mv 11), .int (Mv 12), .int (Mv 13), .ref (Ma 11), .int (Mv 14), .ref (Ma 12), .ref (Ma 13), .ref (Ma 14), .ref (Ma 15), .ref (Ma 16), .long (Mj 0), .ref (Ma 17), .ref (Ma 18), .ref (Ma 19), .ref (Ma 20)])), ((Ma 1), .inl (tc 2, 400, .inl (Mf 1)))] := hD₀
            replace hS := hS₀
            clear hP₀ hD₀ hS₀
            refine lv_iconst (v := 1) hx hb dX12_fact_38 (by decide) ?_
            refine lv_istore_n (lv' := [(1, .int 1), (2, .int r_58), (0, .ref (Ma 0))]) hx hb dX12_fact_39 rfl hl (by decide) rfl (fun ls hl₀ => ?_)
            replace hl := hl₀
            clear hl₀
            refine lv_goto (tgt := 72) hx hb dX12_fact_40 (by decide) ?_
            refine lv_goto (tgt := 2) hx hb dX12_fact_72 (by decide) ?_
            have hb_132 : 2 * (400 - (sv_129 : Int32).toInt) + (1 : Int32).toInt < 2 * (400 - (vy_11 : Int32).toInt) + (vy_10 : Int32).toInt ∧ 1 ≤ 2 * (400 - (vy_11 : Int32).toInt) + (vy_10 : Int32).toInt := by
              have z_1 : ¬ (vy_10 : Int32).toInt = (0 : Int32).toInt := fun z => c_28 (Int32.toInt_inj.mp z)
              have z_2 : ¬ (r_69 : Int32).toInt = (0 : Int32).toInt := fun z => c_73 (Int32.toInt_inj.mp z)
              have z_3 : ¬ (r_118 : Int32).toInt = (0 : Int32).toInt := fun z => c_122 (Int32.toInt_inj.mp z)
              have y_0 : (0 : Int32).toInt = 0 := by decide
              have y_1 : (1 : Int32).toInt = 1 := by decide
              refine ⟨?_, ?_⟩ <;> omega
            have ha_133 : 0 ≤ (sv_129 : Int32).toInt ∧ (sv_129 : Int32).toInt ≤ ((Mv 0) : Int32).toInt ∧ ((Mv 0) : Int32).toInt ≤ 400 := by
              have z_1 : ¬ (vy_10 : Int32).toInt = (0 : Int32).toInt := fun z => c_28 (Int32.toInt_inj.mp z)
              have z_2 : ¬ (r_69 : Int32).toInt = (0 : Int32).toInt := fun z => c_73 (Int32.toInt_inj.mp z)
              have z_3 : ¬ (r_118 : Int32).toInt = (0 : Int32).toInt := fun z => c_122 (Int32.toInt_inj.mp z)
              have y_0 : (0 : Int32).toInt = 0 := by decide
              refine ⟨?_, ?_, ?_⟩ <;> omega
            have ha_134 : (Mv 2).toInt ≤ (sv_129 : Int32).toInt := by
              have z_1 : ¬ (vy_10 : Int32).toInt = (0 : Int32).toInt := fun z => c_28 (Int32.toInt_inj.mp z)
              have z_2 : ¬ (r_69 : Int32).toInt = (0 : Int32).toInt := fun z => c_73 (Int32.toInt_inj.mp z)
              have z_3 : ¬ (r_118 : Int32).toInt = (0 : Int32).toInt := fun z => c_122 (Int32.toInt_inj.mp z)
              have y_0 : (0 : Int32).toInt = 0 := by decide
              omega
            have ha_135 : 0 ≤ (1 : Int32).toInt ∧ (1 : Int32).toInt ≤ 1 := by
              have z_1 : ¬ (vy_10 : Int32).toInt = (0 : Int32).toInt := fun z => c_28 (Int32.toInt_inj.mp z)
              have z_2 : ¬ (r_69 : Int32).toInt = (0 : Int32).toInt := fun z => c_73 (Int32.toInt_inj.mp z)
              have z_3 : ¬ (r_118 : Int32).toInt = (0 : Int32).toInt := fun z => c_122 (Int32.toInt_inj.mp z)
              have y_0 : (0 : Int32).toInt = 0 := by decide
              have y_1 : (1 : Int32).toInt = 1 := by decide
              refine ⟨?_, ?_⟩ <;> omega
            have ha_136 : (sv_116 : Int32).toInt + ((Mv 2) : Int32).toInt ≤ ((Mv 9) : Int32).toInt + (sv_129 : Int32).toInt ∧ 0 ≤ (sv_116 : Int32).toInt := by
              have z_1 : ¬ (vy_10 : Int32).toInt = (0 : Int32).toInt := fun z => c_28 (Int32.toInt_inj.mp z)
              have z_2 : ¬ (r_69 : Int32).toInt = (0 : Int32).toInt := fun z => c_73 (Int32.toInt_inj.mp z)
              have z_3 : ¬ (r_118 : Int32).toInt = (0 : Int32).toInt := fun z => c_122 (Int32.toInt_inj.mp z)
              have y_0 : (0 : Int32).toInt = 0 := by decide
              refine ⟨?_, ?_⟩ <;> omega
            exact ih_17 1 sv_129 sv_114 sv_115 sv_116 sv_117 _ _ _ (by omega) ha_133 ha_134 ha_135 ⟨pn_25, pf_123, pf_27⟩ ha_136 (hP.sub [3, 4, 0, 1, 2] rfl) (hD.sub [3, 4, 0, 1, 2] rfl rfl) hS (lv_sub hl [0, 2] rfl)
          · skip
            refine lv_iconst (v := 0) hx hb dX12_fact_32 (by decide) ?_
            have ha_137 : ((Mv 2) : Int32).toInt ≤ (sv_65 : Int32).toInt ∧ (sv_65 : Int32).toInt ≤ ((Mv 0) : Int32).toInt := by
              have z_1 : ¬ (vy_10 : Int32).toInt = (0 : Int32).toInt := fun z => c_28 (Int32.toInt_inj.mp z)
              have z_2 : ¬ (r_69 : Int32).toInt = (0 : Int32).toInt := fun z => c_73 (Int32.toInt_inj.mp z)
              have z_3 := congrArg Int32.toInt c_122
              have y_0 : (0 : Int32).toInt = 0 := by decide
              refine ⟨?_, ?_⟩ <;> omega
            have ha_138 : ((Mv 6) : Int32).toInt ≤ ((Mv 6) : Int32).toInt ∧ ((Mv 6) : Int32).toInt ≤ 60 := by
              have z_1 : ¬ (vy_10 : Int32).toInt = (0 : Int32).toInt := fun z => c_28 (Int32.toInt_inj.mp z)
              have z_2 : ¬ (r_69 : Int32).toInt = (0 : Int32).toInt := fun z => c_73 (Int32.toInt_inj.mp z)
              have z_3 := congrArg Int32.toInt c_122
              have y_0 : (0 : Int32).toInt = 0 := by decide
              refine ⟨?_, ?_⟩ <;> omega
            have hp_139 : (((0 : Int32).toInt = 0 ∧ ¬ (sv_114 : Int32).toInt = 0) ∨ ((0 : Int32).toInt = 1 ∧ ((Mf 3) (Mv 5).toNatClampNeg).toInt + (sv_116 : Int32).toInt + ((Mv 2) : Int32).toInt ≤ ((Mf 3) (Mv 5).toNatClampNeg).toInt + ((Mv 9) : Int32).toInt + (sv_65 : Int32).toInt ∧ ((Mv 2) : Int32).toInt + 1 ≤ (sv_65 : Int32).toInt ∧ ((Mf 3) (Mv 5).toNatClampNeg).toInt ≤ ((Mf 3) (Mv 5).toNatClampNeg).toInt)) := by
              have z_1 : ¬ (vy_10 : Int32).toInt = (0 : Int32).toInt := fun z => c_28 (Int32.toInt_inj.mp z)
              have z_2 : ¬ (r_69 : Int32).toInt = (0 : Int32).toInt := fun z => c_73 (Int32.toInt_inj.mp z)
              have z_3 := congrArg Int32.toInt c_122
              have y_0 : (0 : Int32).toInt = 0 := by decide
              omega
            exact retI (v := 0) hx hb hr hlk (rfl) hP hD hS (sv_65, sv_114, (Mv 4), (Mv 6), sv_115, sv_116, (Mf 2), (Mf 3), sv_117) ⟨_, rfl, hp_139, ha_137, ha_138, (Agr.rf), (fun h => absurd h (by decide))⟩ [3, 2, 0, 1, 4] rfl rfl dX12_fact_33 (Nat.le_of_ble_eq_true rfl) (Nat.le_of_ble_eq_true rfl) rfl
  have ha_140 : (Mv 2).toInt ≤ ((Mv 2) : Int32).toInt := by
    omega
  have ha_141 : 0 ≤ (1 : Int32).toInt ∧ (1 : Int32).toInt ≤ 1 := by
    have y_1 : (1 : Int32).toInt = 1 := by decide
    refine ⟨?_, ?_⟩ <;> omega
  have ha_142 : ((Mv 9) : Int32).toInt + ((Mv 2) : Int32).toInt ≤ ((Mv 9) : Int32).toInt + ((Mv 2) : Int32).toInt ∧ 0 ≤ ((Mv 9) : Int32).toInt := by
    refine ⟨?_, ?_⟩ <;> omega
  exact loop_18 _ 1 (Mv 2) (Mv 3) (Mv 7) (Mv 9) (Mf 7) _ _ _ (Nat.lt_succ_self _) h_nx ha_140 ha_141 h_lb ha_142 hP hD hS hl
set_option maxRecDepth 100000 in
theorem cu_X12_fact (l : Launch) (D : va_G) (tc : Nat → ClassId) (sk : (Nat → Nat) × (Nat → Nat)) (Ma_0 : Nat) (Ma_1 : Nat) (Ma_2 : Nat) (Ma_3 : Nat) (Ma_4 : Nat) (Ma_5 : Nat) (Ma_6 : Nat) (Ma_7 : Nat) (Ma_8 : Nat) (Ma_9 : Nat) (Ma_10 : Nat) (Ma_11 : Nat) (Ma_12 : Nat) (Ma_13 : Nat) (Ma_14 : Nat) (Ma_15 : Nat) (Ma_16 : Nat) (Ma_17 : Nat) (Ma_18 : Nat) (Ma_19 : Nat) (Ma_20 : Nat) (Mv_0 : Int32) (Mv_1 : Int32) (Mv_2 : Int32) (Mv_3 : Int32) (Mv_4 : Int32) (Mv_5 : Int32) (Mv_6 : Int32) (Mv_7 : Int32) (Mv_8 : Int32) (Mv_9 : Int32) (Mv_10 : Int32) (Mv_11 : Int32) (Mv_12 : Int32) (Mv_13 : Int32) (Mv_14 : Int32) (Mf_1 : Nat → Int32) (Mf_2 : Nat → Int32) (Mf_3 : Nat → Int32) (Mf_7 : Nat → Int32) (Mj_0 : Int64) (b : Int32) (h_nx : 0 ≤ (Mv_2 : Int32).toInt ∧ (Mv_2 : Int32).toInt ≤ (Mv_0 : Int32).toInt ∧ (Mv_0 : Int32).toInt ≤ 400) (h_lb : LBR Mf_7 Mv_9 Mf_2 Mf_3 Mv_5 b Mv_6) (h_s : (Mf_3 Mv_5.toNatClampNeg).toInt + (Mv_9 : Int32).toInt ≤ (Mv_2 : Int32).toInt) (h_md : 0 ≤ (Mv_6 : Int32).toInt ∧ (Mv_6 : Int32).toInt ≤ 60) : Ct l yX12_fact cX12_fact 3 (some .boolean) { frames := 7, cells := 0, slots := 0, locals := 154 } D tc sk [.ref Ma_0] [(Ma_0, .inr (12, [.ref Ma_1, .int Mv_0, .int Mv_1, .ref Ma_2, .ref Ma_3, .ref Ma_4, .ref Ma_5, .ref Ma_6, .int Mv_2, .int Mv_3, .int Mv_4, .int Mv_5, .int Mv_6, .int Mv_7, .int Mv_8, .ref Ma_7, .int Mv_9, .ref Ma_8, .int Mv_10, .ref Ma_9, .ref Ma_10, .int Mv_11, .int Mv_12, .int Mv_13, .ref Ma_11, .int Mv_14, .ref Ma_12, .ref Ma_13, .ref Ma_14, .ref Ma_15, .ref Ma_16, .long Mj_0, .ref Ma_17, .ref Ma_18, .ref Ma_19, .ref Ma_20])), (Ma_1, .inl (tc 2, 400, .inl Mf_1)), (Ma_2, .inl (tc 0, 2400, .inl Mf_2)), (Ma_3, .inl (tc 0, 7, .inl Mf_3)), (Ma_7, .inl (tc 0, 400, .inl Mf_7))] (fun (v : Option Value) (u : (Int32) × (Int32) × (Int32) × (Int32) × (Int32) × (Int32) × (Nat → Int32) × (Nat → Int32) × (Nat → Int32)) => match u with | (oo0x1, oo0x2, oo0x3, oo0x4, oo0x5, oo0x6, oo0x7, oo0x8, oo0x9) => ∃ r : Int32, v = some (.int r) ∧ (((r.toInt = 0 ∧ ¬ (oo0x2 : Int32).toInt = 0) ∨ (r.toInt = 1 ∧ (oo0x8 Mv_5.toNatClampNeg).toInt + (oo0x6 : Int32).toInt + (Mv_2 : Int32).toInt ≤ (Mf_3 Mv_5.toNatClampNeg).toInt + (Mv_9 : Int32).toInt + (oo0x1 : Int32).toInt ∧ (Mv_2 : Int32).toInt + 1 ≤ (oo0x1 : Int32).toInt ∧ (Mf_3 Mv_5.toNatClampNeg).toInt ≤ (oo0x8 Mv_5.toNatClampNeg).toInt))) ∧ ((Mv_2 : Int32).toInt ≤ (oo0x1 : Int32).toInt ∧ (oo0x1 : Int32).toInt ≤ (Mv_0 : Int32).toInt) ∧ ((Mv_6 : Int32).toInt ≤ (oo0x4 : Int32).toInt ∧ (oo0x4 : Int32).toInt ≤ 60) ∧ (Agr Mf_2 oo0x7 (400 * (Mv_5 : Int32).toInt + (Mf_3 Mv_5.toNatClampNeg).toInt)) ∧ (r.toInt = 1 → (LSR oo0x9 oo0x6 oo0x7 oo0x8 Mv_5 b oo0x4))) (fun (u : (Int32) × (Int32) × (Int32) × (Int32) × (Int32) × (Int32) × (Nat → Int32) × (Nat → Int32) × (Nat → Int32)) => match u with | (oo0x1, oo0x2, oo0x3, oo0x4, oo0x5, oo0x6, oo0x7, oo0x8, oo0x9) => [(Ma_0, .inr (12, [.ref Ma_1, .int Mv_0, .int Mv_1, .ref Ma_2, .ref Ma_3, .ref Ma_4, .ref Ma_5, .ref Ma_6, .int oo0x1, .int oo0x2, .int oo0x3, .int Mv_5, .int oo0x4, .int oo0x5, .int Mv_8, .ref Ma_7, .int oo0x6, .ref Ma_8, .int Mv_10, .ref Ma_9, .ref Ma_10, .int Mv_11, .int Mv_12, .int Mv_13, .ref Ma_11, .int Mv_14, .ref Ma_12, .ref Ma_13, .ref Ma_14, .ref Ma_15, .ref Ma_16, .long Mj_0, .ref Ma_17, .ref Ma_18, .ref Ma_19, .ref Ma_20])), (Ma_1, .inl (tc 2, 400, .inl Mf_1)), (Ma_2, .inl (tc 0, 2400, .inl oo0x7)), (Ma_3, .inl (tc 0, 7, .inl oo0x8)), (Ma_7, .inl (tc 0, 400, .inl oo0x9))]) 0 0 :=
  ct_X12_fact l D tc sk (fun k => ([Ma_0, Ma_1, Ma_2, Ma_3, Ma_4, Ma_5, Ma_6, Ma_7, Ma_8, Ma_9, Ma_10, Ma_11, Ma_12, Ma_13, Ma_14, Ma_15, Ma_16, Ma_17, Ma_18, Ma_19, Ma_20] : List (Nat)).getD k 0) (fun k => ([Mv_0, Mv_1, Mv_2, Mv_3, Mv_4, Mv_5, Mv_6, Mv_7, Mv_8, Mv_9, Mv_10, Mv_11, Mv_12, Mv_13, Mv_14] : List (Int32)).getD k 0) (fun k => ([(fun _ => 0), Mf_1, Mf_2, Mf_3, (fun _ => 0), (fun _ => 0), (fun _ => 0), Mf_7] : List (Nat → Int32)).getD k (fun _ => 0)) (fun k => ([Mj_0] : List (Int64)).getD k 0) b h_nx h_lb h_s h_md
set_option maxHeartbeats 4000000 in
set_option maxRecDepth 100000 in
theorem ct_X12_isInside (l : Launch) (D : va_G) (tc : Nat → ClassId) (sk : (Nat → Nat) × (Nat → Nat)) (Ma : Nat → Nat) (Mv : Nat → Int32) (Mf : Nat → Nat → Int32) (Mj : Nat → Int64) (h_o : 0 ≤ ((Mv 9) : Int32).toInt ∧ ((Mv 9) : Int32).toInt ≤ 400) : Ct l yX12_isInside cX12_isInside 2 (some .boolean) { frames := 0, cells := 0, slots := 0, locals := 0 } D tc sk [.ref (Ma 0)] [((Ma 0), .inr (12, [.ref (Ma 1), .int (Mv 0), .int (Mv 1), .ref (Ma 2), .ref (Ma 3), .ref (Ma 4), .ref (Ma 5), .ref (Ma 6), .int (Mv 2), .int (Mv 3), .int (Mv 4), .int (Mv 5), .int (Mv 6), .int (Mv 7), .int (Mv 8), .ref (Ma 7), .int (Mv 9), .ref (Ma 8), .int (Mv 10), .ref (Ma 9), .ref (Ma 10), .int (Mv 11), .int (Mv 12), .int (Mv 13), .ref (Ma 11), .int (Mv 14), .ref (Ma 12), .ref (Ma 13), .ref (Ma 14), .ref (Ma 15), .ref (Ma 16), .long (Mj 0), .ref (Ma 17), .ref (Ma 18), .ref (Ma 19), .ref (Ma 20)])), ((Ma 7), .inl (tc 0, 400, .inl (Mf 7)))] (fun (v : Option Value) (_ : Unit) => ∃ r : Int32, v = some (.int r) ∧ ((r.toInt = 0 ∨ r.toInt = 1)) ∧ (r.toInt = 1 → (Ins (Mf 7) (Mv 9))) ∧ (r.toInt = 0 → (NIns (Mf 7) (Mv 9)))) (fun (_ : Unit) => [((Ma 0), .inr (12, [.ref (Ma 1), .int (Mv 0), .int (Mv 1), .ref (Ma 2), .ref (Ma 3), .ref (Ma 4), .ref (Ma 5), .ref (Ma 6), .int (Mv 2), .int (Mv 3), .int (Mv 4), .int (Mv 5), .int (Mv 6), .int (Mv 7), .int (Mv 8), .ref (Ma 7), .int (Mv 9), .ref (Ma 8), .int (Mv 10), .ref (Ma 9), .ref (Ma 10), .int (Mv 11), .int (Mv 12), .int (Mv 13), .ref (Ma 11), .int (Mv 14), .ref (Ma 12), .ref (Ma 13), .ref (Ma 14), .ref (Ma 15), .ref (Ma 16), .long (Mj 0), .ref (Ma 17), .ref (Ma 18), .ref (Ma 19), .ref (Ma 20)])), ((Ma 7), .inl (tc 0, 400, .inl (Mf 7)))]) 0 0 := by
  refine Ct.start (by decide) (Nat.le_of_ble_eq_true rfl) (fun p e s m below meth c A ls hx hb hr hlk hin hml hown hts hK hX hP hD hA hl hS => ?_)
  have hl : lv_has ls 2 [(0, .ref (Ma 0))] := hl
  refine lv_iconst (v := 0) hx hb dX12_isInside_0 (by decide) ?_
  refine lv_istore_n (lv' := [(1, .int 0), (0, .ref (Ma 0))]) hx hb dX12_isInside_1 rfl hl (by decide) rfl (fun ls hl₀ => ?_)
  replace hl := hl₀
  clear hl₀
  have loop_5 : ∀ (n_3 : Nat) (vy_2 : Int32) (H : Heap) (locs : List Loc) (ls : Array Slot), (400 - (vy_2 : Int32).toInt).toNat < n_3 → (0 ≤ (vy_2 : Int32).toInt) → (NIns (Mf 7) vy_2) → va_P D classes [((Ma 0), .inr (12, [.ref (Ma 1), .int (Mv 0), .int (Mv 1), .ref (Ma 2), .ref (Ma 3), .ref (Ma 4), .ref (Ma 5), .ref (Ma 6), .int (Mv 2), .int (Mv 3), .int (Mv 4), .int (Mv 5), .int (Mv 6), .int (Mv 7), .int (Mv 8), .ref (Ma 7), .int (Mv 9), .ref (Ma 8), .int (Mv 10), .ref (Ma 9), .ref (Ma 10), .int (Mv 11), .int (Mv 12), .int (Mv 13), .ref (Ma 11), .int (Mv 14), .ref (Ma 12), .ref (Ma 13), .ref (Ma 14), .ref (Ma 15), .ref (Ma 16), .long (Mj 0), .ref (Ma 17), .ref (Ma 18), .ref (Ma 19), .ref (Ma 20)])), ((Ma 7), .inl (tc 0, 400, .inl (Mf 7)))] H → va_D A [((Ma 0), .inr (12, [.ref (Ma 1), .int (Mv 0), .int (Mv 1), .ref (Ma 2), .ref (Ma 3), .ref (Ma 4), .ref (Ma 5), .ref (Ma 6), .int (Mv 2), .int (Mv 3), .int (Mv 4), .int (Mv 5), .int (Mv 6), .int (Mv 7), .int (Mv 8), .ref (Ma 7), .int (Mv 9), .ref (Ma 8), .int (Mv 10), .ref (Ma 9), .ref (Ma 10), .int (Mv 11), .int (Mv 12), .int (Mv 13), .ref (Ma 11), .int (Mv 14), .ref (Ma 12), .ref (Ma 13), .ref (Ma 14), .ref (Ma 15), .ref (Ma 16), .long (Mj 0), .ref (Ma 17), .ref (Ma 18), .ref (Ma 19), .ref (Ma 20)])), ((Ma 7), .inl (tc 0, 400, .inl (Mf 7)))] → va_S A s.heap H locs → lv_has ls 2 [(1, .int vy_2), (0, .ref (Ma 0))] → W p l e ({ frames := 0, cells := 0, slots := 0, locals := 0 }) s m ([.ref (Ma 0)].toArray) below meth c H locs 0 0 (MQ below (QW (fun (v : Option Value) (_ : Unit) => ∃ r : Int32, v = some (.int r) ∧ ((r.toInt = 0 ∨ r.toInt = 1)) ∧ (r.toInt = 1 → (Ins (Mf 7) (Mv 9))) ∧ (r.toInt = 0 → (NIns (Mf 7) (Mv 9)))) (BW D (fun (_ : Unit) => [((Ma 0), .inr (12, [.ref (Ma 1), .int (Mv 0), .int (Mv 1), .ref (Ma 2), .ref (Ma 3), .ref (Ma 4), .ref (Ma 5), .ref (Ma 6), .int (Mv 2), .int (Mv 3), .int (Mv 4), .int (Mv 5), .int (Mv 6), .int (Mv 7), .int (Mv 8), .ref (Ma 7), .int (Mv 9), .ref (Ma 8), .int (Mv 10), .ref (Ma 9), .ref (Ma 10), .int (Mv 11), .int (Mv 12), .int (Mv 13), .ref (Ma 11), .int (Mv 14), .ref (Ma 12), .ref (Ma 13), .ref (Ma 14), .ref (Ma 15), .ref (Ma 16), .long (Mj 0), .ref (Ma 17), .ref (Ma 18), .ref (Ma 19), .ref (Ma 20)])), ((Ma 7), .inl (tc 0, 400, .inl (Mf 7)))]) A) A) ([.ref (Ma 0)].toArray) s 0 0 A) (F0 m 2 ls []) := by
    clear hP hD hS hl
    intro n_3
    induction n_3 with
    | zero =>
      intro vy_2 H locs ls h1
      exact absurd h1 (Nat.not_lt_zero _)
    | succ n_3 ih_4 =>
      intro vy_2 H locs ls hn_8 pf_6 pf_7 hP hD hS hl
      refine lv_iload_n hx hb dX12_isInside_2 rfl (lv_at hl 0 rfl) ?_
      refine lv_aload_n hx hb dX12_isInside_3 rfl (lv_at hl 1 rfl) ?_
      refine gf_X12_154 hx hb hts hown hK hP 0 rfl rfl dX12_isInside_4 ?_
      refine lv_icmp_ge (tgt := 29) hx hb dX12_isInside_7 (by decide) (fun c_9 => ?_) (fun c_9 => ?_)
      · skip
        refine lv_iconst (v := 0) hx hb dX12_isInside_29 (by decide) ?_
        have hp_10 : ((0 : Int32).toInt = 0 ∨ (0 : Int32).toInt = 1) := by
          have z_1 := Int32.le_iff_toInt_le.mp c_9
          have y_0 : (0 : Int32).toInt = 0 := by decide
          have yr : (0 : Int32).toInt = 0 := by decide
          omega
        have hm_11 : (0 : Int32).toInt = 0 → (NIns (Mf 7) (Mv 9)) := by
          intro h1r
          have hr_12 : ((Mv 9) : Int32).toInt ≤ (vy_2 : Int32).toInt := by
            have z_1 := Int32.le_iff_toInt_le.mp c_9
            omega
          exact (NIns.ge pf_7 hr_12)
        exact retI (v := 0) hx hb hr hlk (rfl) hP hD hS () ⟨_, rfl, hp_10, (fun h => absurd h (by decide)), hm_11⟩ [0, 1] rfl rfl dX12_isInside_30 (Nat.le_of_ble_eq_true rfl) (Nat.le_of_ble_eq_true rfl) rfl
      · skip
        refine lv_aload_n hx hb dX12_isInside_10 rfl (lv_at hl 1 rfl) ?_
        refine gf_X12_29 hx hb hts hown hK hP 0 rfl rfl dX12_isInside_11 ?_
        refine lv_iload_n hx hb dX12_isInside_14 rfl (lv_at hl 0 rfl) ?_
        have hi_13 : vp_in vy_2 400 := by
          have z_1 := Int32.lt_iff_toInt_lt.mp (Int32.not_le.mp c_9)
          refine vp_in_iff.mpr ⟨?_, ?_⟩ <;> omega
        refine va_iald hx hb hK hP 1 0 rfl rfl hi_13 dX12_isInside_15 ?_
        refine lv_topi (fun x_14 ex_14 => ?_)
        refine lv_bipush (v := 91) hx hb dX12_isInside_16 (by decide) ?_
        refine lv_icmp_ne (tgt := 23) hx hb dX12_isInside_18 (by decide) (fun c_15 => ?_) (fun c_15 => ?_)
        · skip
          obtain ⟨x_16, ex_16⟩ : ∃ y : Int32, y = vy_2 + 1 := ⟨_, rfl⟩
          refine lv_iinc (v := x_16) (lv' := [(1, .int x_16), (0, .ref (Ma 0))]) hx hb dX12_isInside_23 hl (k := 0) rfl (by rw [ex_16]; rfl) (by decide) rfl (fun ls hl₀ => ?_)
          replace hl := hl₀
          clear hl₀
          refine lv_goto (tgt := 2) hx hb dX12_isInside_26 (by decide) ?_
          have hb_17 : 400 - (x_16 : Int32).toInt < 400 - (vy_2 : Int32).toInt ∧ 1 ≤ 400 - (vy_2 : Int32).toInt := by
            have z_1 := Int32.lt_iff_toInt_lt.mp (Int32.not_le.mp c_9)
            have z_2 : ¬ (x_14 : Int32).toInt = (91 : Int32).toInt := fun z => c_15 (Int32.toInt_inj.mp z)
            have y_91 : (91 : Int32).toInt = 91 := by decide
            have y_1 : (1 : Int32).toInt = 1 := by decide
            have t_x_16 : x_16.toInt = (vy_2 : Int32).toInt + (1 : Int32).toInt := by rw [ex_16]; exact add_toInt (by omega) (by omega)
            refine ⟨?_, ?_⟩ <;> omega
          have ha_18 : 0 ≤ (x_16 : Int32).toInt := by
            have z_1 := Int32.lt_iff_toInt_lt.mp (Int32.not_le.mp c_9)
            have z_2 : ¬ (x_14 : Int32).toInt = (91 : Int32).toInt := fun z => c_15 (Int32.toInt_inj.mp z)
            have y_91 : (91 : Int32).toInt = 91 := by decide
            have y_1 : (1 : Int32).toInt = 1 := by decide
            have t_x_16 : x_16.toInt = (vy_2 : Int32).toInt + (1 : Int32).toInt := by rw [ex_16]; exact add_toInt (by omega) (by omega)
            omega
          have hr_19 : ¬ (x_14 : Int32).toInt = 91 := by
            have z_1 := Int32.lt_iff_toInt_lt.mp (Int32.not_le.mp c_9)
            have z_2 : ¬ (x_14 : Int32).toInt = (91 : Int32).toInt := fun z => c_15 (Int32.toInt_inj.mp z)
            have y_91 : (91 : Int32).toInt = 91 := by decide
            omega
          have hi_20 : (x_16 : Int32).toInt = (vy_2 : Int32).toInt + 1 := by
            have z_1 := Int32.lt_iff_toInt_lt.mp (Int32.not_le.mp c_9)
            have z_2 : ¬ (x_14 : Int32).toInt = (91 : Int32).toInt := fun z => c_15 (Int32.toInt_inj.mp z)
            have y_91 : (91 : Int32).toInt = 91 := by decide
            have y_1 : (1 : Int32).toInt = 1 := by decide
            have t_x_16 : x_16.toInt = (vy_2 : Int32).toInt + (1 : Int32).toInt := by rw [ex_16]; exact add_toInt (by omega) (by omega)
            omega
          have hr_21 : 0 ≤ (vy_2 : Int32).toInt := by
            have z_1 := Int32.lt_iff_toInt_lt.mp (Int32.not_le.mp c_9)
            have z_2 : ¬ (x_14 : Int32).toInt = (91 : Int32).toInt := fun z => c_15 (Int32.toInt_inj.mp z)
            have y_91 : (91 : Int32).toInt = 91 := by decide
            omega
          exact ih_4 x_16 _ _ _ (by omega) ha_18 (NIns.step pf_7 ex_14 hr_19 hi_20 hr_21) (hP.sub [0, 1] rfl) (hD.sub [0, 1] rfl rfl) hS (lv_sub hl [0, 1] rfl)
        · skip
          refine lv_iconst (v := 1) hx hb dX12_isInside_21 (by decide) ?_
          have hp_22 : ((1 : Int32).toInt = 0 ∨ (1 : Int32).toInt = 1) := by
            have z_1 := Int32.lt_iff_toInt_lt.mp (Int32.not_le.mp c_9)
            have z_2 := congrArg Int32.toInt c_15
            have y_91 : (91 : Int32).toInt = 91 := by decide
            have y_1 : (1 : Int32).toInt = 1 := by decide
            have yr : (1 : Int32).toInt = 1 := by decide
            omega
          have hm_23 : (1 : Int32).toInt = 1 → (Ins (Mf 7) (Mv 9)) := by
            intro h1r
            have hr_24 : (x_14 : Int32).toInt = 91 := by
              have z_1 := Int32.lt_iff_toInt_lt.mp (Int32.not_le.mp c_9)
              have z_2 := congrArg Int32.toInt c_15
              have y_91 : (91 : Int32).toInt = 91 := by decide
              omega
            have hr_25 : 0 ≤ (vy_2 : Int32).toInt ∧ (vy_2 : Int32).toInt < ((Mv 9) : Int32).toInt := by
              have z_1 := Int32.lt_iff_toInt_lt.mp (Int32.not_le.mp c_9)
              have z_2 := congrArg Int32.toInt c_15
              have y_91 : (91 : Int32).toInt = 91 := by decide
              refine ⟨?_, ?_⟩ <;> omega
            exact (Ins.of ex_14 hr_24 hr_25)
          exact retI (v := 1) hx hb hr hlk (rfl) hP hD hS () ⟨_, rfl, hp_22, hm_23, (fun h => absurd h (by decide))⟩ [0, 1] rfl rfl dX12_isInside_22 (Nat.le_of_ble_eq_true rfl) (Nat.le_of_ble_eq_true rfl) rfl
  have ha_26 : 0 ≤ (0 : Int32).toInt := by
    have y_0 : (0 : Int32).toInt = 0 := by decide
    omega
  exact loop_5 _ 0 _ _ _ (Nat.lt_succ_self _) ha_26 (NIns.nil (by decide)) hP hD hS hl
set_option maxRecDepth 100000 in
theorem cu_X12_isInside (l : Launch) (D : va_G) (tc : Nat → ClassId) (sk : (Nat → Nat) × (Nat → Nat)) (Ma_0 : Nat) (Ma_1 : Nat) (Ma_2 : Nat) (Ma_3 : Nat) (Ma_4 : Nat) (Ma_5 : Nat) (Ma_6 : Nat) (Ma_7 : Nat) (Ma_8 : Nat) (Ma_9 : Nat) (Ma_10 : Nat) (Ma_11 : Nat) (Ma_12 : Nat) (Ma_13 : Nat) (Ma_14 : Nat) (Ma_15 : Nat) (Ma_16 : Nat) (Ma_17 : Nat) (Ma_18 : Nat) (Ma_19 : Nat) (Ma_20 : Nat) (Mv_0 : Int32) (Mv_1 : Int32) (Mv_2 : Int32) (Mv_3 : Int32) (Mv_4 : Int32) (Mv_5 : Int32) (Mv_6 : Int32) (Mv_7 : Int32) (Mv_8 : Int32) (Mv_9 : Int32) (Mv_10 : Int32) (Mv_11 : Int32) (Mv_12 : Int32) (Mv_13 : Int32) (Mv_14 : Int32) (Mf_7 : Nat → Int32) (Mj_0 : Int64) (h_o : 0 ≤ (Mv_9 : Int32).toInt ∧ (Mv_9 : Int32).toInt ≤ 400) : Ct l yX12_isInside cX12_isInside 2 (some .boolean) { frames := 0, cells := 0, slots := 0, locals := 0 } D tc sk [.ref Ma_0] [(Ma_0, .inr (12, [.ref Ma_1, .int Mv_0, .int Mv_1, .ref Ma_2, .ref Ma_3, .ref Ma_4, .ref Ma_5, .ref Ma_6, .int Mv_2, .int Mv_3, .int Mv_4, .int Mv_5, .int Mv_6, .int Mv_7, .int Mv_8, .ref Ma_7, .int Mv_9, .ref Ma_8, .int Mv_10, .ref Ma_9, .ref Ma_10, .int Mv_11, .int Mv_12, .int Mv_13, .ref Ma_11, .int Mv_14, .ref Ma_12, .ref Ma_13, .ref Ma_14, .ref Ma_15, .ref Ma_16, .long Mj_0, .ref Ma_17, .ref Ma_18, .ref Ma_19, .ref Ma_20])), (Ma_7, .inl (tc 0, 400, .inl Mf_7))] (fun (v : Option Value) (_ : Unit) => ∃ r : Int32, v = some (.int r) ∧ ((r.toInt = 0 ∨ r.toInt = 1)) ∧ (r.toInt = 1 → (Ins Mf_7 Mv_9)) ∧ (r.toInt = 0 → (NIns Mf_7 Mv_9))) (fun (_ : Unit) => [(Ma_0, .inr (12, [.ref Ma_1, .int Mv_0, .int Mv_1, .ref Ma_2, .ref Ma_3, .ref Ma_4, .ref Ma_5, .ref Ma_6, .int Mv_2, .int Mv_3, .int Mv_4, .int Mv_5, .int Mv_6, .int Mv_7, .int Mv_8, .ref Ma_7, .int Mv_9, .ref Ma_8, .int Mv_10, .ref Ma_9, .ref Ma_10, .int Mv_11, .int Mv_12, .int Mv_13, .ref Ma_11, .int Mv_14, .ref Ma_12, .ref Ma_13, .ref Ma_14, .ref Ma_15, .ref Ma_16, .long Mj_0, .ref Ma_17, .ref Ma_18, .ref Ma_19, .ref Ma_20])), (Ma_7, .inl (tc 0, 400, .inl Mf_7))]) 0 0 :=
  ct_X12_isInside l D tc sk (fun k => ([Ma_0, Ma_1, Ma_2, Ma_3, Ma_4, Ma_5, Ma_6, Ma_7, Ma_8, Ma_9, Ma_10, Ma_11, Ma_12, Ma_13, Ma_14, Ma_15, Ma_16, Ma_17, Ma_18, Ma_19, Ma_20] : List (Nat)).getD k 0) (fun k => ([Mv_0, Mv_1, Mv_2, Mv_3, Mv_4, Mv_5, Mv_6, Mv_7, Mv_8, Mv_9, Mv_10, Mv_11, Mv_12, Mv_13, Mv_14] : List (Int32)).getD k 0) (fun k => ([(fun _ => 0), (fun _ => 0), (fun _ => 0), (fun _ => 0), (fun _ => 0), (fun _ => 0), (fun _ => 0), Mf_7] : List (Nat → Int32)).getD k (fun _ => 0)) (fun k => ([Mj_0] : List (Int64)).getD k 0) h_o
set_option maxHeartbeats 4000000 in
set_option maxRecDepth 100000 in
theorem ct_X12_closes (l : Launch) (D : va_G) (tc : Nat → ClassId) (sk : (Nat → Nat) × (Nat → Nat)) (Ma : Nat → Nat) (Mv : Nat → Int32) (Mf : Nat → Nat → Int32) (Mj : Nat → Int64) (b : Int32) (h_nx : 0 ≤ ((Mv 2) : Int32).toInt ∧ ((Mv 2) : Int32).toInt ≤ ((Mv 0) : Int32).toInt ∧ ((Mv 0) : Int32).toInt ≤ 400) (h_ls : LSR (Mf 7) (Mv 9) (Mf 2) (Mf 3) (Mv 5) b (Mv 6)) (h_s : ((Mf 3) (Mv 5).toNatClampNeg).toInt + ((Mv 9) : Int32).toInt ≤ ((Mv 2) : Int32).toInt) : Ct l yX12_closes cX12_closes 1 none { frames := 2, cells := 0, slots := 0, locals := 43 } D tc sk [.ref (Ma 0)] [((Ma 0), .inr (12, [.ref (Ma 1), .int (Mv 0), .int (Mv 1), .ref (Ma 2), .ref (Ma 3), .ref (Ma 4), .ref (Ma 5), .ref (Ma 6), .int (Mv 2), .int (Mv 3), .int (Mv 4), .int (Mv 5), .int (Mv 6), .int (Mv 7), .int (Mv 8), .ref (Ma 7), .int (Mv 9), .ref (Ma 8), .int (Mv 10), .ref (Ma 9), .ref (Ma 10), .int (Mv 11), .int (Mv 12), .int (Mv 13), .ref (Ma 11), .int (Mv 14), .ref (Ma 12), .ref (Ma 13), .ref (Ma 14), .ref (Ma 15), .ref (Ma 16), .long (Mj 0), .ref (Ma 17), .ref (Ma 18), .ref (Ma 19), .ref (Ma 20)])), ((Ma 1), .inl (tc 2, 400, .inl (Mf 1))), ((Ma 2), .inl (tc 0, 2400, .inl (Mf 2))), ((Ma 3), .inl (tc 0, 7, .inl (Mf 3))), ((Ma 7), .inl (tc 0, 400, .inl (Mf 7)))] (fun (v : Option Value) (u : (Int32) × (Int32) × (Int32) × (Nat → Int32) × (Nat → Int32)) => match u with | (oo0x1, oo0x2, oo0x3, oo0x4, oo0x5) => v = none ∧ (((Mv 2) : Int32).toInt ≤ (oo0x1 : Int32).toInt ∧ (oo0x1 : Int32).toInt ≤ ((Mv 0) : Int32).toInt) ∧ (Agr (Mf 2) oo0x4 (400 * ((Mv 5) : Int32).toInt + ((Mf 3) (Mv 5).toNatClampNeg).toInt)) ∧ (LSR (Mf 7) oo0x3 oo0x4 oo0x5 (Mv 5) b (Mv 6)) ∧ ((oo0x5 (Mv 5).toNatClampNeg).toInt + (oo0x3 : Int32).toInt + ((Mv 2) : Int32).toInt ≤ ((Mf 3) (Mv 5).toNatClampNeg).toInt + ((Mv 9) : Int32).toInt + (oo0x1 : Int32).toInt ∧ ((Mf 3) (Mv 5).toNatClampNeg).toInt ≤ (oo0x5 (Mv 5).toNatClampNeg).toInt)) (fun (u : (Int32) × (Int32) × (Int32) × (Nat → Int32) × (Nat → Int32)) => match u with | (oo0x1, oo0x2, oo0x3, oo0x4, oo0x5) => [((Ma 0), .inr (12, [.ref (Ma 1), .int (Mv 0), .int (Mv 1), .ref (Ma 2), .ref (Ma 3), .ref (Ma 4), .ref (Ma 5), .ref (Ma 6), .int oo0x1, .int (Mv 3), .int (Mv 4), .int (Mv 5), .int (Mv 6), .int oo0x2, .int (Mv 8), .ref (Ma 7), .int oo0x3, .ref (Ma 8), .int (Mv 10), .ref (Ma 9), .ref (Ma 10), .int (Mv 11), .int (Mv 12), .int (Mv 13), .ref (Ma 11), .int (Mv 14), .ref (Ma 12), .ref (Ma 13), .ref (Ma 14), .ref (Ma 15), .ref (Ma 16), .long (Mj 0), .ref (Ma 17), .ref (Ma 18), .ref (Ma 19), .ref (Ma 20)])), ((Ma 1), .inl (tc 2, 400, .inl (Mf 1))), ((Ma 2), .inl (tc 0, 2400, .inl oo0x4)), ((Ma 3), .inl (tc 0, 7, .inl oo0x5)), ((Ma 7), .inl (tc 0, 400, .inl (Mf 7)))]) 0 0 := by
  refine Ct.start (by decide) (Nat.le_of_ble_eq_true rfl) (fun p e s m below meth c A ls hx hb hr hlk hin hml hown hts hK hX hP hD hA hl hS => ?_)
  have hl : lv_has ls 1 [(0, .ref (Ma 0))] := hl
  obtain ⟨pn_1, pf_2, pf_3⟩ := id h_ls
  have ar_h_ls := LSR.ar h_ls
  have ar_pf_3 := Cd.ar pf_3
  refine lv_aload_n hx hb dX12_closes_0 rfl (lv_at hl 0 rfl) ?_
  refine lv_iconst (v := 3) hx hb dX12_closes_1 (by decide) ?_
  have ha_4 : 1 ≤ (3 : Int32).toInt ∧ (3 : Int32).toInt ≤ 3 := by
    have y_3 : (3 : Int32).toInt = 3 := by decide
    refine ⟨?_, ?_⟩ <;> omega
  have ha_5 : ((Mf 3) (Mv 5).toNatClampNeg).toInt + ((Mv 9) : Int32).toInt ≤ 400 := by
    omega
  refine cV (a := (Ma 0)) (As := [.int 3]) (rest := []) (wr := [((Ma 1), .inl (tc 2, 400, .inl (Mf 1)))]) ⟨hx, hb, hml, hown, hts⟩ hK hX hA (cu_X12_layDown l D tc sk (Ma 0) (Ma 1) (Ma 2) (Ma 3) (Ma 4) (Ma 5) (Ma 6) (Ma 7) (Ma 8) (Ma 9) (Ma 10) (Ma 11) (Ma 12) (Ma 13) (Ma 14) (Ma 15) (Ma 16) (Ma 17) (Ma 18) (Ma 19) (Ma 20) (Mv 0) (Mv 1) (Mv 2) (Mv 3) (Mv 4) (Mv 5) (Mv 6) (Mv 7) (Mv 8) (Mv 9) (Mv 10) (Mv 11) (Mv 12) (Mv 13) (Mv 14) (Mf 2) (Mf 3) (Mf 7) (Mj 0) 3 b h_ls ha_4 ha_5) k_1342 k_1339 k_1341 k_54 k_106 pl_X12_layDown ⟨Nat.le_of_ble_eq_true rfl, Nat.le_of_ble_eq_true rfl⟩ rfl rfl (va_recv hK hP (ci := 12) (q0 := 0) rfl rfl) hP hD hS [0, 2, 3, 4] [1] rfl rfl rfl rfl rfl (by decide) rfl hl.1 rfl (Nat.le_of_ble_eq_true rfl) dX12_closes_2 ⟨Nat.le_of_ble_eq_true rfl, Nat.le_of_ble_eq_true rfl⟩ (fun v_6 u_7 H locs hv_8 hP₀ hD₀ hS₀ => ?_)
  obtain ⟨sv_9, sv_10, sv_11, sv_12⟩ := u_7
  obtain ⟨rfl, pf_13, pf_14, pf_15, pf_16, pf_17⟩ := hv_8
  have pf_13 : LSR (Mf 7) sv_10 sv_11 sv_12 (Mv 5) b (Mv 6) := pf_13
  obtain ⟨pn_18, pf_19, pf_20⟩ := id pf_13
  have ar_pf_13 := LSR.ar pf_13
  have ar_pf_20 := Cd.ar pf_20
  have pf_14 : (sv_12 (Mv 5).toNatClampNeg).toInt + (sv_10 : Int32).toInt = ((Mf 3) (Mv 5).toNatClampNeg).toInt + ((Mv 9) : Int32).toInt ∧ 0 ≤ (sv_10 : Int32).toInt ∧ (sv_10 : Int32).toInt ≤ ((Mv 9) : Int32).toInt := pf_14
  have pf_15 : Agr (Mf 2) sv_11 (400 * ((Mv 5) : Int32).toInt + ((Mf 3) (Mv 5).toNatClampNeg).toInt) := pf_15
  have pf_16 : LdE (Mf 7) sv_10 (3 : Int32) := pf_16
  have pf_17 : InK (Mf 7) (Mv 9) sv_10 := pf_17
  refine W.eq (g2 := F0 m 5 ls []) rfl ?_
  replace hP : va_P D classes [((Ma 1), .inl (tc 2, 400, .inl (Mf 1))), ((Ma 0), .inr (12, [.ref (Ma 1), .int (Mv 0), .int (Mv 1), .ref (Ma 2), .ref (Ma 3), .ref (Ma 4), .ref (Ma 5), .ref (Ma 6), .int (Mv 2), .int (Mv 3), .int (Mv 4), .int (Mv 5), .int (Mv 6), .int sv_9, .int (Mv 8), .ref (Ma 7), .int sv_10, .ref (Ma 8), .int (Mv 10), .ref (Ma 9), .ref (Ma 10), .int (Mv 11), .int (Mv 12), .int (Mv 13), .ref (Ma 11), .int (Mv 14), .ref (Ma 12), .ref (Ma 13), .ref (Ma 14), .ref (Ma 15), .ref (Ma 16), .long (Mj 0), .ref (Ma 17), .ref (Ma 18), .ref (Ma 19), .ref (Ma 20)])), ((Ma 2), .inl (tc 0, 2400, .inl sv_11)), ((Ma 3), .inl (tc 0, 7, .inl sv_12)), ((Ma 7), .inl (tc 0, 400, .inl (Mf 7)))] H := hP₀
  replace hD : va_D A [((Ma 1), .inl (tc 2, 400, .inl (Mf 1))), ((Ma 0), .inr (12, [.ref (Ma 1), .int (Mv 0), .int (Mv 1), .ref (Ma 2), .ref (Ma 3), .ref (Ma 4), .ref (Ma 5), .ref (Ma 6), .int (Mv 2), .int (Mv 3), .int (Mv 4), .int (Mv 5), .int (Mv 6), .int sv_9, .int (Mv 8), .ref (Ma 7), .int sv_10, .ref (Ma 8), .int (Mv 10), .ref (Ma 9), .ref (Ma 10), .int (Mv 11), .int (Mv 12), .int (Mv 13), .ref (Ma 11), .int (Mv 14), .ref (Ma 12), .ref (Ma 13), .ref (Ma 14), .ref (Ma 15), .ref (Ma 16), .long (Mj 0), .ref (Ma 17), .ref (Ma 18), .ref (Ma 19), .ref (Ma 20)])), ((Ma 2), .inl (tc 0, 2400, .inl sv_11)), ((Ma 3), .inl (tc 0, 7, .inl sv_12)), ((Ma 7), .inl (tc 0, 400, .inl (Mf 7)))] := hD₀
  replace hS := hS₀
  clear hP₀ hD₀ hS₀
  have loop_33 : ∀ (n_31 : Nat) (vy_26 : Int32) (vy_27 : Int32) (vy_28 : Int32) (vy_29 : Nat → Int32) (vy_30 : Nat → Int32) (H : Heap) (locs : List Loc) (ls : Array Slot), (401 - (vy_26 : Int32).toInt).toNat < n_31 → (0 ≤ (vy_26 : Int32).toInt ∧ (vy_26 : Int32).toInt ≤ ((Mv 0) : Int32).toInt ∧ ((Mv 0) : Int32).toInt ≤ 400) → ((Mv 2).toInt ≤ (vy_26 : Int32).toInt) → (LSR (Mf 7) vy_28 vy_29 vy_30 (Mv 5) b (Mv 6)) → ((vy_30 (Mv 5).toNatClampNeg).toInt + (vy_28 : Int32).toInt + ((Mv 2) : Int32).toInt ≤ ((Mf 3) (Mv 5).toNatClampNeg).toInt + ((Mv 9) : Int32).toInt + (vy_26 : Int32).toInt ∧ ((Mf 3) (Mv 5).toNatClampNeg).toInt ≤ (vy_30 (Mv 5).toNatClampNeg).toInt) → (Agr (Mf 2) vy_29 (400 * ((Mv 5) : Int32).toInt + ((Mf 3) (Mv 5).toNatClampNeg).toInt)) → va_P D classes [((Ma 1), .inl (tc 2, 400, .inl (Mf 1))), ((Ma 0), .inr (12, [.ref (Ma 1), .int (Mv 0), .int (Mv 1), .ref (Ma 2), .ref (Ma 3), .ref (Ma 4), .ref (Ma 5), .ref (Ma 6), .int vy_26, .int (Mv 3), .int (Mv 4), .int (Mv 5), .int (Mv 6), .int vy_27, .int (Mv 8), .ref (Ma 7), .int vy_28, .ref (Ma 8), .int (Mv 10), .ref (Ma 9), .ref (Ma 10), .int (Mv 11), .int (Mv 12), .int (Mv 13), .ref (Ma 11), .int (Mv 14), .ref (Ma 12), .ref (Ma 13), .ref (Ma 14), .ref (Ma 15), .ref (Ma 16), .long (Mj 0), .ref (Ma 17), .ref (Ma 18), .ref (Ma 19), .ref (Ma 20)])), ((Ma 2), .inl (tc 0, 2400, .inl vy_29)), ((Ma 3), .inl (tc 0, 7, .inl vy_30)), ((Ma 7), .inl (tc 0, 400, .inl (Mf 7)))] H → va_D A [((Ma 1), .inl (tc 2, 400, .inl (Mf 1))), ((Ma 0), .inr (12, [.ref (Ma 1), .int (Mv 0), .int (Mv 1), .ref (Ma 2), .ref (Ma 3), .ref (Ma 4), .ref (Ma 5), .ref (Ma 6), .int vy_26, .int (Mv 3), .int (Mv 4), .int (Mv 5), .int (Mv 6), .int vy_27, .int (Mv 8), .ref (Ma 7), .int vy_28, .ref (Ma 8), .int (Mv 10), .ref (Ma 9), .ref (Ma 10), .int (Mv 11), .int (Mv 12), .int (Mv 13), .ref (Ma 11), .int (Mv 14), .ref (Ma 12), .ref (Ma 13), .ref (Ma 14), .ref (Ma 15), .ref (Ma 16), .long (Mj 0), .ref (Ma 17), .ref (Ma 18), .ref (Ma 19), .ref (Ma 20)])), ((Ma 2), .inl (tc 0, 2400, .inl vy_29)), ((Ma 3), .inl (tc 0, 7, .inl vy_30)), ((Ma 7), .inl (tc 0, 400, .inl (Mf 7)))] → va_S A s.heap H locs → lv_has ls 1 [(0, .ref (Ma 0))] → W p l e ({ frames := 2, cells := 0, slots := 0, locals := 43 }) s m ([.ref (Ma 0)].toArray) below meth c H locs 0 0 (MQ below (QW (fun (v : Option Value) (u : (Int32) × (Int32) × (Int32) × (Nat → Int32) × (Nat → Int32)) => match u with | (oo0x1, oo0x2, oo0x3, oo0x4, oo0x5) => v = none ∧ (((Mv 2) : Int32).toInt ≤ (oo0x1 : Int32).toInt ∧ (oo0x1 : Int32).toInt ≤ ((Mv 0) : Int32).toInt) ∧ (Agr (Mf 2) oo0x4 (400 * ((Mv 5) : Int32).toInt + ((Mf 3) (Mv 5).toNatClampNeg).toInt)) ∧ (LSR (Mf 7) oo0x3 oo0x4 oo0x5 (Mv 5) b (Mv 6)) ∧ ((oo0x5 (Mv 5).toNatClampNeg).toInt + (oo0x3 : Int32).toInt + ((Mv 2) : Int32).toInt ≤ ((Mf 3) (Mv 5).toNatClampNeg).toInt + ((Mv 9) : Int32).toInt + (oo0x1 : Int32).toInt ∧ ((Mf 3) (Mv 5).toNatClampNeg).toInt ≤ (oo0x5 (Mv 5).toNatClampNeg).toInt)) (BW D (fun (u : (Int32) × (Int32) × (Int32) × (Nat → Int32) × (Nat → Int32)) => match u with | (oo0x1, oo0x2, oo0x3, oo0x4, oo0x5) => [((Ma 0), .inr (12, [.ref (Ma 1), .int (Mv 0), .int (Mv 1), .ref (Ma 2), .ref (Ma 3), .ref (Ma 4), .ref (Ma 5), .ref (Ma 6), .int oo0x1, .int (Mv 3), .int (Mv 4), .int (Mv 5), .int (Mv 6), .int oo0x2, .int (Mv 8), .ref (Ma 7), .int oo0x3, .ref (Ma 8), .int (Mv 10), .ref (Ma 9), .ref (Ma 10), .int (Mv 11), .int (Mv 12), .int (Mv 13), .ref (Ma 11), .int (Mv 14), .ref (Ma 12), .ref (Ma 13), .ref (Ma 14), .ref (Ma 15), .ref (Ma 16), .long (Mj 0), .ref (Ma 17), .ref (Ma 18), .ref (Ma 19), .ref (Ma 20)])), ((Ma 1), .inl (tc 2, 400, .inl (Mf 1))), ((Ma 2), .inl (tc 0, 2400, .inl oo0x4)), ((Ma 3), .inl (tc 0, 7, .inl oo0x5)), ((Ma 7), .inl (tc 0, 400, .inl (Mf 7)))]) A) A) ([.ref (Ma 0)].toArray) s 0 0 A) (F0 m 5 ls []) := by
    clear hP hD hS hl
    intro n_31
    induction n_31 with
    | zero =>
      intro vy_26 vy_27 vy_28 vy_29 vy_30 H locs ls h1
      exact absurd h1 (Nat.not_lt_zero _)
    | succ n_31 ih_32 =>
      intro vy_26 vy_27 vy_28 vy_29 vy_30 H locs ls hn_39 pf_34 pf_35 pf_36 pf_37 pf_38 hP hD hS hl
      obtain ⟨pn_40, pf_41, pf_42⟩ := id pf_36
      have ar_pf_36 := LSR.ar pf_36
      have ar_pf_42 := Cd.ar pf_42
      refine lv_aload_n hx hb dX12_closes_5 rfl (lv_at hl 0 rfl) ?_
      refine cV (a := (Ma 0)) (As := []) (rest := []) (wr := [((Ma 2), .inl (tc 0, 2400, .inl vy_29)), ((Ma 3), .inl (tc 0, 7, .inl vy_30)), ((Ma 7), .inl (tc 0, 400, .inl (Mf 7)))]) ⟨hx, hb, hml, hown, hts⟩ hK hX hA (cu_X12_see l D tc sk (Ma 0) (Ma 1) (Ma 2) (Ma 3) (Ma 4) (Ma 5) (Ma 6) (Ma 7) (Ma 8) (Ma 9) (Ma 10) (Ma 11) (Ma 12) (Ma 13) (Ma 14) (Ma 15) (Ma 16) (Ma 17) (Ma 18) (Ma 19) (Ma 20) (Mv 0) (Mv 1) vy_26 (Mv 3) (Mv 4) (Mv 5) (Mv 6) vy_27 (Mv 8) vy_28 (Mv 10) (Mv 11) (Mv 12) (Mv 13) (Mv 14) (Mf 1) (Mj 0) pf_34) k_1211 k_1208 k_1210 k_27 k_106 pl_X12_see ⟨Nat.le_of_ble_eq_true rfl, Nat.le_of_ble_eq_true rfl⟩ rfl rfl (va_recv hK hP (ci := 12) (q0 := 1) rfl rfl) hP hD hS [1, 0] [2, 3, 4] rfl rfl rfl rfl rfl (by decide) rfl hl.1 rfl (Nat.le_of_ble_eq_true rfl) dX12_closes_6 ⟨Nat.le_of_ble_eq_true rfl, Nat.le_of_ble_eq_true rfl⟩ (fun v_43 u_44 H locs hv_45 hP₀ hD₀ hS₀ => ?_)
      obtain ⟨sv_46, rfl⟩ : ∃ z, z = u_44 := ⟨_, rfl⟩
      obtain ⟨r_50, rfl, he_51, pf_47, pf_48, pf_49⟩ := hv_45
      have he_51 : (r_50.toInt = -1 ∨ (sv_46 : Int32).toInt < ((Mv 0) : Int32).toInt) := he_51
      have pf_47 : (vy_26 : Int32).toInt ≤ (sv_46 : Int32).toInt ∧ (sv_46 : Int32).toInt ≤ ((Mv 0) : Int32).toInt := pf_47
      have pf_48 : NSq (Mf 1) (Mv 0) sv_46 := pf_48
      have pf_49 : Stl (Mf 1) (Mv 0) vy_26 sv_46 := pf_49
      refine W.eq (g2 := F0 m 9 ls [.int r_50]) rfl ?_
      replace hP : va_P D classes [((Ma 2), .inl (tc 0, 2400, .inl vy_29)), ((Ma 3), .inl (tc 0, 7, .inl vy_30)), ((Ma 7), .inl (tc 0, 400, .inl (Mf 7))), ((Ma 0), .inr (12, [.ref (Ma 1), .int (Mv 0), .int (Mv 1), .ref (Ma 2), .ref (Ma 3), .ref (Ma 4), .ref (Ma 5), .ref (Ma 6), .int sv_46, .int (Mv 3), .int (Mv 4), .int (Mv 5), .int (Mv 6), .int vy_27, .int (Mv 8), .ref (Ma 7), .int vy_28, .ref (Ma 8), .int (Mv 10), .ref (Ma 9), .ref (Ma 10), .int (Mv 11), .int (Mv 12), .int (Mv 13), .ref (Ma 11), .int (Mv 14), .ref (Ma 12), .ref (Ma 13), .ref (Ma 14), .ref (Ma 15), .ref (Ma 16), .long (Mj 0), .ref (Ma 17), .ref (Ma 18), .ref (Ma 19), .ref (Ma 20)])), ((Ma 1), .inl (tc 2, 400, .inl (Mf 1)))] H := hP₀
      replace hD : va_D A [((Ma 2), .inl (tc 0, 2400, .inl vy_29)), ((Ma 3), .inl (tc 0, 7, .inl vy_30)), ((Ma 7), .inl (tc 0, 400, .inl (Mf 7))), ((Ma 0), .inr (12, [.ref (Ma 1), .int (Mv 0), .int (Mv 1), .ref (Ma 2), .ref (Ma 3), .ref (Ma 4), .ref (Ma 5), .ref (Ma 6), .int sv_46, .int (Mv 3), .int (Mv 4), .int (Mv 5), .int (Mv 6), .int vy_27, .int (Mv 8), .ref (Ma 7), .int vy_28, .ref (Ma 8), .int (Mv 10), .ref (Ma 9), .ref (Ma 10), .int (Mv 11), .int (Mv 12), .int (Mv 13), .ref (Ma 11), .int (Mv 14), .ref (Ma 12), .ref (Ma 13), .ref (Ma 14), .ref (Ma 15), .ref (Ma 16), .long (Mj 0), .ref (Ma 17), .ref (Ma 18), .ref (Ma 19), .ref (Ma 20)])), ((Ma 1), .inl (tc 2, 400, .inl (Mf 1)))] := hD₀
      replace hS := hS₀
      clear hP₀ hD₀ hS₀
      refine lv_bipush (v := 93) hx hb dX12_closes_9 (by decide) ?_
      refine lv_icmp_ne (tgt := 64) hx hb dX12_closes_11 (by decide) (fun c_53 => ?_) (fun c_53 => ?_)
      · skip
        have ha_54 : ((Mv 2) : Int32).toInt ≤ (sv_46 : Int32).toInt ∧ (sv_46 : Int32).toInt ≤ ((Mv 0) : Int32).toInt := by
          have z_1 : ¬ (r_50 : Int32).toInt = (93 : Int32).toInt := fun z => c_53 (Int32.toInt_inj.mp z)
          have y_93 : (93 : Int32).toInt = 93 := by decide
          refine ⟨?_, ?_⟩ <;> omega
        have ha_55 : (vy_30 (Mv 5).toNatClampNeg).toInt + (vy_28 : Int32).toInt + ((Mv 2) : Int32).toInt ≤ ((Mf 3) (Mv 5).toNatClampNeg).toInt + ((Mv 9) : Int32).toInt + (sv_46 : Int32).toInt ∧ ((Mf 3) (Mv 5).toNatClampNeg).toInt ≤ (vy_30 (Mv 5).toNatClampNeg).toInt := by
          have z_1 : ¬ (r_50 : Int32).toInt = (93 : Int32).toInt := fun z => c_53 (Int32.toInt_inj.mp z)
          have y_93 : (93 : Int32).toInt = 93 := by decide
          refine ⟨?_, ?_⟩ <;> omega
        exact retV hx hb hr hlk hP hD hS (sv_46, vy_27, vy_28, vy_29, vy_30) ⟨rfl, ha_54, pf_38, pf_36, ha_55⟩ [3, 4, 0, 1, 2] rfl rfl dX12_closes_64 (Nat.le_of_ble_eq_true rfl) (Nat.le_of_ble_eq_true rfl) rfl
      · skip
        refine lv_aload_n hx hb dX12_closes_14 rfl (lv_at hl 0 rfl) ?_
        have ha_56 : 0 ≤ (vy_28 : Int32).toInt ∧ (vy_28 : Int32).toInt ≤ 400 := by
          have z_1 := congrArg Int32.toInt c_53
          have y_93 : (93 : Int32).toInt = 93 := by decide
          refine ⟨?_, ?_⟩ <;> omega
        refine cV (a := (Ma 0)) (As := []) (rest := []) (wr := [((Ma 2), .inl (tc 0, 2400, .inl vy_29)), ((Ma 3), .inl (tc 0, 7, .inl vy_30)), ((Ma 1), .inl (tc 2, 400, .inl (Mf 1)))]) ⟨hx, hb, hml, hown, hts⟩ hK hX hA (cu_X12_isInside l D tc sk (Ma 0) (Ma 1) (Ma 2) (Ma 3) (Ma 4) (Ma 5) (Ma 6) (Ma 7) (Ma 8) (Ma 9) (Ma 10) (Ma 11) (Ma 12) (Ma 13) (Ma 14) (Ma 15) (Ma 16) (Ma 17) (Ma 18) (Ma 19) (Ma 20) (Mv 0) (Mv 1) sv_46 (Mv 3) (Mv 4) (Mv 5) (Mv 6) vy_27 (Mv 8) vy_28 (Mv 10) (Mv 11) (Mv 12) (Mv 13) (Mv 14) (Mf 7) (Mj 0) ha_56) k_1349 k_1346 k_1348 k_55 k_106 pl_X12_isInside ⟨Nat.le_of_ble_eq_true rfl, Nat.le_of_ble_eq_true rfl⟩ rfl rfl (va_recv hK hP (ci := 12) (q0 := 3) rfl rfl) hP hD hS [3, 2] [0, 1, 4] rfl rfl rfl rfl rfl (by decide) rfl hl.1 rfl (Nat.le_of_ble_eq_true rfl) dX12_closes_15 ⟨Nat.le_of_ble_eq_true rfl, Nat.le_of_ble_eq_true rfl⟩ (fun v_57 u_58 H locs hv_59 hP₀ hD₀ hS₀ => ?_)
        obtain ⟨r_60, rfl, he_61, hm_63, hm_64⟩ := hv_59
        have he_61 : (r_60.toInt = 0 ∨ r_60.toInt = 1) := he_61
        refine W.eq (g2 := F0 m 18 ls [.int r_60]) rfl ?_
        replace hP : va_P D classes [((Ma 2), .inl (tc 0, 2400, .inl vy_29)), ((Ma 3), .inl (tc 0, 7, .inl vy_30)), ((Ma 1), .inl (tc 2, 400, .inl (Mf 1))), ((Ma 0), .inr (12, [.ref (Ma 1), .int (Mv 0), .int (Mv 1), .ref (Ma 2), .ref (Ma 3), .ref (Ma 4), .ref (Ma 5), .ref (Ma 6), .int sv_46, .int (Mv 3), .int (Mv 4), .int (Mv 5), .int (Mv 6), .int vy_27, .int (Mv 8), .ref (Ma 7), .int vy_28, .ref (Ma 8), .int (Mv 10), .ref (Ma 9), .ref (Ma 10), .int (Mv 11), .int (Mv 12), .int (Mv 13), .ref (Ma 11), .int (Mv 14), .ref (Ma 12), .ref (Ma 13), .ref (Ma 14), .ref (Ma 15), .ref (Ma 16), .long (Mj 0), .ref (Ma 17), .ref (Ma 18), .ref (Ma 19), .ref (Ma 20)])), ((Ma 7), .inl (tc 0, 400, .inl (Mf 7)))] H := hP₀
        replace hD : va_D A [((Ma 2), .inl (tc 0, 2400, .inl vy_29)), ((Ma 3), .inl (tc 0, 7, .inl vy_30)), ((Ma 1), .inl (tc 2, 400, .inl (Mf 1))), ((Ma 0), .inr (12, [.ref (Ma 1), .int (Mv 0), .int (Mv 1), .ref (Ma 2), .ref (Ma 3), .ref (Ma 4), .ref (Ma 5), .ref (Ma 6), .int sv_46, .int (Mv 3), .int (Mv 4), .int (Mv 5), .int (Mv 6), .int vy_27, .int (Mv 8), .ref (Ma 7), .int vy_28, .ref (Ma 8), .int (Mv 10), .ref (Ma 9), .ref (Ma 10), .int (Mv 11), .int (Mv 12), .int (Mv 13), .ref (Ma 11), .int (Mv 14), .ref (Ma 12), .ref (Ma 13), .ref (Ma 14), .ref (Ma 15), .ref (Ma 16), .long (Mj 0), .ref (Ma 17), .ref (Ma 18), .ref (Ma 19), .ref (Ma 20)])), ((Ma 7), .inl (tc 0, 400, .inl (Mf 7)))] := hD₀
        replace hS := hS₀
        clear hP₀ hD₀ hS₀
        refine lv_if_eq (tgt := 64) hx hb dX12_closes_18 (by decide) (fun c_65 => ?_) (fun c_65 => ?_)
        · skip
          have hz_67 : (r_60 : Int32).toInt = 0 := by
            have z_1 := congrArg Int32.toInt c_53
            have z_2 := congrArg Int32.toInt c_65
            have y_0 : (0 : Int32).toInt = 0 := by decide
            have y_93 : (93 : Int32).toInt = 93 := by decide
            omega
          obtain pf_66 := hm_64 hz_67
          have pf_66 : NIns (Mf 7) vy_28 := pf_66
          have ha_68 : ((Mv 2) : Int32).toInt ≤ (sv_46 : Int32).toInt ∧ (sv_46 : Int32).toInt ≤ ((Mv 0) : Int32).toInt := by
            have z_1 := congrArg Int32.toInt c_53
            have z_2 := congrArg Int32.toInt c_65
            have y_0 : (0 : Int32).toInt = 0 := by decide
            have y_93 : (93 : Int32).toInt = 93 := by decide
            refine ⟨?_, ?_⟩ <;> omega
          have ha_69 : (vy_30 (Mv 5).toNatClampNeg).toInt + (vy_28 : Int32).toInt + ((Mv 2) : Int32).toInt ≤ ((Mf 3) (Mv 5).toNatClampNeg).toInt + ((Mv 9) : Int32).toInt + (sv_46 : Int32).toInt ∧ ((Mf 3) (Mv 5).toNatClampNeg).toInt ≤ (vy_30 (Mv 5).toNatClampNeg).toInt := by
            have z_1 := congrArg Int32.toInt c_53
            have z_2 := congrArg Int32.toInt c_65
            have y_0 : (0 : Int32).toInt = 0 := by decide
            have y_93 : (93 : Int32).toInt = 93 := by decide
            refine ⟨?_, ?_⟩ <;> omega
          exact retV hx hb hr hlk hP hD hS (sv_46, vy_27, vy_28, vy_29, vy_30) ⟨rfl, ha_68, pf_38, pf_36, ha_69⟩ [3, 2, 0, 1, 4] rfl rfl dX12_closes_64 (Nat.le_of_ble_eq_true rfl) (Nat.le_of_ble_eq_true rfl) rfl
        · skip
          have hz_71 : (r_60 : Int32).toInt = 1 := by
            have z_1 := congrArg Int32.toInt c_53
            have z_2 : ¬ (r_60 : Int32).toInt = (0 : Int32).toInt := fun z => c_65 (Int32.toInt_inj.mp z)
            have y_0 : (0 : Int32).toInt = 0 := by decide
            have y_93 : (93 : Int32).toInt = 93 := by decide
            omega
          obtain pf_70 := hm_63 hz_71
          have pf_70 : Ins (Mf 7) vy_28 := pf_70
          have ar_pf_70 := Ins.ar pf_70
          refine lv_aload_n hx hb dX12_closes_21 rfl (lv_at hl 0 rfl) ?_
          refine lv_iconst (v := 1) hx hb dX12_closes_22 (by decide) ?_
          have ha_72 : 1 ≤ (1 : Int32).toInt ∧ (1 : Int32).toInt ≤ 3 := by
            have z_1 := congrArg Int32.toInt c_53
            have z_2 : ¬ (r_60 : Int32).toInt = (0 : Int32).toInt := fun z => c_65 (Int32.toInt_inj.mp z)
            have y_0 : (0 : Int32).toInt = 0 := by decide
            have y_93 : (93 : Int32).toInt = 93 := by decide
            have y_1 : (1 : Int32).toInt = 1 := by decide
            refine ⟨?_, ?_⟩ <;> omega
          have ha_73 : (vy_30 (Mv 5).toNatClampNeg).toInt + (vy_28 : Int32).toInt ≤ 400 := by
            have z_1 := congrArg Int32.toInt c_53
            have z_2 : ¬ (r_60 : Int32).toInt = (0 : Int32).toInt := fun z => c_65 (Int32.toInt_inj.mp z)
            have y_0 : (0 : Int32).toInt = 0 := by decide
            have y_93 : (93 : Int32).toInt = 93 := by decide
            omega
          refine cV (a := (Ma 0)) (As := [.int 1]) (rest := []) (wr := [((Ma 1), .inl (tc 2, 400, .inl (Mf 1)))]) ⟨hx, hb, hml, hown, hts⟩ hK hX hA (cu_X12_layDown l D tc sk (Ma 0) (Ma 1) (Ma 2) (Ma 3) (Ma 4) (Ma 5) (Ma 6) (Ma 7) (Ma 8) (Ma 9) (Ma 10) (Ma 11) (Ma 12) (Ma 13) (Ma 14) (Ma 15) (Ma 16) (Ma 17) (Ma 18) (Ma 19) (Ma 20) (Mv 0) (Mv 1) sv_46 (Mv 3) (Mv 4) (Mv 5) (Mv 6) vy_27 (Mv 8) vy_28 (Mv 10) (Mv 11) (Mv 12) (Mv 13) (Mv 14) vy_29 vy_30 (Mf 7) (Mj 0) 1 b pf_36 ha_72 ha_73) k_1342 k_1339 k_1341 k_54 k_106 pl_X12_layDown ⟨Nat.le_of_ble_eq_true rfl, Nat.le_of_ble_eq_true rfl⟩ rfl rfl (va_recv hK hP (ci := 12) (q0 := 3) rfl rfl) hP hD hS [3, 0, 1, 4] [2] rfl rfl rfl rfl rfl (by decide) rfl hl.1 rfl (Nat.le_of_ble_eq_true rfl) dX12_closes_23 ⟨Nat.le_of_ble_eq_true rfl, Nat.le_of_ble_eq_true rfl⟩ (fun v_74 u_75 H locs hv_76 hP₀ hD₀ hS₀ => ?_)
          obtain ⟨sv_77, sv_78, sv_79, sv_80⟩ := u_75
          obtain ⟨rfl, pf_81, pf_82, pf_83, pf_84, pf_85⟩ := hv_76
          have pf_81 : LSR (Mf 7) sv_78 sv_79 sv_80 (Mv 5) b (Mv 6) := pf_81
          obtain ⟨pn_86, pf_87, pf_88⟩ := id pf_81
          have ar_pf_81 := LSR.ar pf_81
          have ar_pf_88 := Cd.ar pf_88
          have pf_82 : (sv_80 (Mv 5).toNatClampNeg).toInt + (sv_78 : Int32).toInt = (vy_30 (Mv 5).toNatClampNeg).toInt + (vy_28 : Int32).toInt ∧ 0 ≤ (sv_78 : Int32).toInt ∧ (sv_78 : Int32).toInt ≤ (vy_28 : Int32).toInt := pf_82
          have pf_83 : Agr vy_29 sv_79 (400 * ((Mv 5) : Int32).toInt + (vy_30 (Mv 5).toNatClampNeg).toInt) := pf_83
          have pf_84 : LdE (Mf 7) sv_78 (1 : Int32) := pf_84
          have pf_85 : InK (Mf 7) vy_28 sv_78 := pf_85
          refine W.eq (g2 := F0 m 26 ls []) rfl ?_
          replace hP : va_P D classes [((Ma 1), .inl (tc 2, 400, .inl (Mf 1))), ((Ma 0), .inr (12, [.ref (Ma 1), .int (Mv 0), .int (Mv 1), .ref (Ma 2), .ref (Ma 3), .ref (Ma 4), .ref (Ma 5), .ref (Ma 6), .int sv_46, .int (Mv 3), .int (Mv 4), .int (Mv 5), .int (Mv 6), .int sv_77, .int (Mv 8), .ref (Ma 7), .int sv_78, .ref (Ma 8), .int (Mv 10), .ref (Ma 9), .ref (Ma 10), .int (Mv 11), .int (Mv 12), .int (Mv 13), .ref (Ma 11), .int (Mv 14), .ref (Ma 12), .ref (Ma 13), .ref (Ma 14), .ref (Ma 15), .ref (Ma 16), .long (Mj 0), .ref (Ma 17), .ref (Ma 18), .ref (Ma 19), .ref (Ma 20)])), ((Ma 2), .inl (tc 0, 2400, .inl sv_79)), ((Ma 3), .inl (tc 0, 7, .inl sv_80)), ((Ma 7), .inl (tc 0, 400, .inl (Mf 7)))] H := hP₀
          replace hD : va_D A [((Ma 1), .inl (tc 2, 400, .inl (Mf 1))), ((Ma 0), .inr (12, [.ref (Ma 1), .int (Mv 0), .int (Mv 1), .ref (Ma 2), .ref (Ma 3), .ref (Ma 4), .ref (Ma 5), .ref (Ma 6), .int sv_46, .int (Mv 3), .int (Mv 4), .int (Mv 5), .int (Mv 6), .int sv_77, .int (Mv 8), .ref (Ma 7), .int sv_78, .ref (Ma 8), .int (Mv 10), .ref (Ma 9), .ref (Ma 10), .int (Mv 11), .int (Mv 12), .int (Mv 13), .ref (Ma 11), .int (Mv 14), .ref (Ma 12), .ref (Ma 13), .ref (Ma 14), .ref (Ma 15), .ref (Ma 16), .long (Mj 0), .ref (Ma 17), .ref (Ma 18), .ref (Ma 19), .ref (Ma 20)])), ((Ma 2), .inl (tc 0, 2400, .inl sv_79)), ((Ma 3), .inl (tc 0, 7, .inl sv_80)), ((Ma 7), .inl (tc 0, 400, .inl (Mf 7)))] := hD₀
          replace hS := hS₀
          clear hP₀ hD₀ hS₀
          refine lv_aload_n hx hb dX12_closes_26 rfl (lv_at hl 0 rfl) ?_
          refine lv_dup hx hb dX12_closes_27 rfl ?_
          refine gf_X12_154 hx hb hts hown hK hP 1 rfl rfl dX12_closes_28 ?_
          refine lv_iconst (v := 1) hx hb dX12_closes_31 (by decide) ?_
          refine lv_isub hx hb dX12_closes_32 ?_
          refine lv_topi (fun x_89 ex_89 => ?_)
          refine pf_X12_154 hx hb hts hown hK hP hD hS 1 rfl (Nat.le_of_ble_eq_true rfl) rfl rfl dX12_closes_33 (fun H locs hP₀ hD₀ hS₀ => ?_)
          replace hP : va_P D classes [((Ma 1), .inl (tc 2, 400, .inl (Mf 1))), ((Ma 0), .inr (12, [.ref (Ma 1), .int (Mv 0), .int (Mv 1), .ref (Ma 2), .ref (Ma 3), .ref (Ma 4), .ref (Ma 5), .ref (Ma 6), .int sv_46, .int (Mv 3), .int (Mv 4), .int (Mv 5), .int (Mv 6), .int sv_77, .int (Mv 8), .ref (Ma 7), .int x_89, .ref (Ma 8), .int (Mv 10), .ref (Ma 9), .ref (Ma 10), .int (Mv 11), .int (Mv 12), .int (Mv 13), .ref (Ma 11), .int (Mv 14), .ref (Ma 12), .ref (Ma 13), .ref (Ma 14), .ref (Ma 15), .ref (Ma 16), .long (Mj 0), .ref (Ma 17), .ref (Ma 18), .ref (Ma 19), .ref (Ma 20)])), ((Ma 2), .inl (tc 0, 2400, .inl sv_79)), ((Ma 3), .inl (tc 0, 7, .inl sv_80)), ((Ma 7), .inl (tc 0, 400, .inl (Mf 7)))] H := hP₀
          replace hD : va_D A [((Ma 1), .inl (tc 2, 400, .inl (Mf 1))), ((Ma 0), .inr (12, [.ref (Ma 1), .int (Mv 0), .int (Mv 1), .ref (Ma 2), .ref (Ma 3), .ref (Ma 4), .ref (Ma 5), .ref (Ma 6), .int sv_46, .int (Mv 3), .int (Mv 4), .int (Mv 5), .int (Mv 6), .int sv_77, .int (Mv 8), .ref (Ma 7), .int x_89, .ref (Ma 8), .int (Mv 10), .ref (Ma 9), .ref (Ma 10), .int (Mv 11), .int (Mv 12), .int (Mv 13), .ref (Ma 11), .int (Mv 14), .ref (Ma 12), .ref (Ma 13), .ref (Ma 14), .ref (Ma 15), .ref (Ma 16), .long (Mj 0), .ref (Ma 17), .ref (Ma 18), .ref (Ma 19), .ref (Ma 20)])), ((Ma 2), .inl (tc 0, 2400, .inl sv_79)), ((Ma 3), .inl (tc 0, 7, .inl sv_80)), ((Ma 7), .inl (tc 0, 400, .inl (Mf 7)))] := hD₀
          replace hS := hS₀
          clear hP₀ hD₀ hS₀
          have tp_x_89 : (x_89 : Int32).toInt = (sv_78 : Int32).toInt - 1 := by
            have z_1 := congrArg Int32.toInt c_53
            have z_2 : ¬ (r_60 : Int32).toInt = (0 : Int32).toInt := fun z => c_65 (Int32.toInt_inj.mp z)
            have y_0 : (0 : Int32).toInt = 0 := by decide
            have y_93 : (93 : Int32).toInt = 93 := by decide
            have y_1 : (1 : Int32).toInt = 1 := by decide
            have t_x_89 : x_89.toInt = (sv_78 : Int32).toInt - (1 : Int32).toInt := by rw [ex_89]; exact sub_toInt (by omega) (by omega)
            omega
          have hk_90 := Ins.ar (Ins.keep pf_70 pf_85)
          have hi_92 : (x_89 : Int32).toInt = (sv_78 : Int32).toInt - 1 := by
            have z_1 := congrArg Int32.toInt c_53
            have z_2 : ¬ (r_60 : Int32).toInt = (0 : Int32).toInt := fun z => c_65 (Int32.toInt_inj.mp z)
            have y_0 : (0 : Int32).toInt = 0 := by decide
            have y_93 : (93 : Int32).toInt = 93 := by decide
            have y_1 : (1 : Int32).toInt = 1 := by decide
            have t_x_89 : x_89.toInt = (sv_78 : Int32).toInt - (1 : Int32).toInt := by rw [ex_89]; exact sub_toInt (by omega) (by omega)
            omega
          have pf_91 : LSR (Mf 7) x_89 sv_79 sv_80 (Mv 5) b (Mv 6) := LSR.drop pf_81 pf_84 (by decide) hk_90 hi_92
          obtain ⟨pn_93, pf_94, pf_95⟩ := id pf_91
          have ar_pf_91 := LSR.ar pf_91
          have ar_pf_95 := Cd.ar pf_95
          refine lv_aload_n hx hb dX12_closes_36 rfl (lv_at hl 0 rfl) ?_
          refine lv_dup hx hb dX12_closes_37 rfl ?_
          refine gf_X12_151 hx hb hts hown hK hP 1 rfl rfl dX12_closes_38 ?_
          refine lv_iconst (v := 1) hx hb dX12_closes_41 (by decide) ?_
          refine lv_isub hx hb dX12_closes_42 ?_
          refine lv_topi (fun x_96 ex_96 => ?_)
          refine pf_X12_151 hx hb hts hown hK hP hD hS 1 rfl (Nat.le_of_ble_eq_true rfl) rfl rfl dX12_closes_43 (fun H locs hP₀ hD₀ hS₀ => ?_)
          replace hP : va_P D classes [((Ma 1), .inl (tc 2, 400, .inl (Mf 1))), ((Ma 0), .inr (12, [.ref (Ma 1), .int (Mv 0), .int (Mv 1), .ref (Ma 2), .ref (Ma 3), .ref (Ma 4), .ref (Ma 5), .ref (Ma 6), .int sv_46, .int (Mv 3), .int (Mv 4), .int (Mv 5), .int (Mv 6), .int x_96, .int (Mv 8), .ref (Ma 7), .int x_89, .ref (Ma 8), .int (Mv 10), .ref (Ma 9), .ref (Ma 10), .int (Mv 11), .int (Mv 12), .int (Mv 13), .ref (Ma 11), .int (Mv 14), .ref (Ma 12), .ref (Ma 13), .ref (Ma 14), .ref (Ma 15), .ref (Ma 16), .long (Mj 0), .ref (Ma 17), .ref (Ma 18), .ref (Ma 19), .ref (Ma 20)])), ((Ma 2), .inl (tc 0, 2400, .inl sv_79)), ((Ma 3), .inl (tc 0, 7, .inl sv_80)), ((Ma 7), .inl (tc 0, 400, .inl (Mf 7)))] H := hP₀
          replace hD : va_D A [((Ma 1), .inl (tc 2, 400, .inl (Mf 1))), ((Ma 0), .inr (12, [.ref (Ma 1), .int (Mv 0), .int (Mv 1), .ref (Ma 2), .ref (Ma 3), .ref (Ma 4), .ref (Ma 5), .ref (Ma 6), .int sv_46, .int (Mv 3), .int (Mv 4), .int (Mv 5), .int (Mv 6), .int x_96, .int (Mv 8), .ref (Ma 7), .int x_89, .ref (Ma 8), .int (Mv 10), .ref (Ma 9), .ref (Ma 10), .int (Mv 11), .int (Mv 12), .int (Mv 13), .ref (Ma 11), .int (Mv 14), .ref (Ma 12), .ref (Ma 13), .ref (Ma 14), .ref (Ma 15), .ref (Ma 16), .long (Mj 0), .ref (Ma 17), .ref (Ma 18), .ref (Ma 19), .ref (Ma 20)])), ((Ma 2), .inl (tc 0, 2400, .inl sv_79)), ((Ma 3), .inl (tc 0, 7, .inl sv_80)), ((Ma 7), .inl (tc 0, 400, .inl (Mf 7)))] := hD₀
          replace hS := hS₀
          clear hP₀ hD₀ hS₀
          refine lv_aload_n hx hb dX12_closes_46 rfl (lv_at hl 0 rfl) ?_
          refine lv_dup hx hb dX12_closes_47 rfl ?_
          refine gf_X12_87 hx hb hts hown hK hP 1 rfl rfl dX12_closes_48 ?_
          refine lv_iconst (v := 1) hx hb dX12_closes_51 (by decide) ?_
          refine lv_iadd hx hb dX12_closes_52 ?_
          refine lv_topi (fun x_97 ex_97 => ?_)
          refine pf_X12_87 hx hb hts hown hK hP hD hS 1 rfl (Nat.le_of_ble_eq_true rfl) rfl rfl dX12_closes_53 (fun H locs hP₀ hD₀ hS₀ => ?_)
          replace hP : va_P D classes [((Ma 1), .inl (tc 2, 400, .inl (Mf 1))), ((Ma 0), .inr (12, [.ref (Ma 1), .int (Mv 0), .int (Mv 1), .ref (Ma 2), .ref (Ma 3), .ref (Ma 4), .ref (Ma 5), .ref (Ma 6), .int x_97, .int (Mv 3), .int (Mv 4), .int (Mv 5), .int (Mv 6), .int x_96, .int (Mv 8), .ref (Ma 7), .int x_89, .ref (Ma 8), .int (Mv 10), .ref (Ma 9), .ref (Ma 10), .int (Mv 11), .int (Mv 12), .int (Mv 13), .ref (Ma 11), .int (Mv 14), .ref (Ma 12), .ref (Ma 13), .ref (Ma 14), .ref (Ma 15), .ref (Ma 16), .long (Mj 0), .ref (Ma 17), .ref (Ma 18), .ref (Ma 19), .ref (Ma 20)])), ((Ma 2), .inl (tc 0, 2400, .inl sv_79)), ((Ma 3), .inl (tc 0, 7, .inl sv_80)), ((Ma 7), .inl (tc 0, 400, .inl (Mf 7)))] H := hP₀
          replace hD : va_D A [((Ma 1), .inl (tc 2, 400, .inl (Mf 1))), ((Ma 0), .inr (12, [.ref (Ma 1), .int (Mv 0), .int (Mv 1), .ref (Ma 2), .ref (Ma 3), .ref (Ma 4), .ref (Ma 5), .ref (Ma 6), .int x_97, .int (Mv 3), .int (Mv 4), .int (Mv 5), .int (Mv 6), .int x_96, .int (Mv 8), .ref (Ma 7), .int x_89, .ref (Ma 8), .int (Mv 10), .ref (Ma 9), .ref (Ma 10), .int (Mv 11), .int (Mv 12), .int (Mv 13), .ref (Ma 11), .int (Mv 14), .ref (Ma 12), .ref (Ma 13), .ref (Ma 14), .ref (Ma 15), .ref (Ma 16), .long (Mj 0), .ref (Ma 17), .ref (Ma 18), .ref (Ma 19), .ref (Ma 20)])), ((Ma 2), .inl (tc 0, 2400, .inl sv_79)), ((Ma 3), .inl (tc 0, 7, .inl sv_80)), ((Ma 7), .inl (tc 0, 400, .inl (Mf 7)))] := hD₀
          replace hS := hS₀
          clear hP₀ hD₀ hS₀
          have tp_x_97 : (x_97 : Int32).toInt = (sv_46 : Int32).toInt + 1 := by
            have z_1 := congrArg Int32.toInt c_53
            have z_2 : ¬ (r_60 : Int32).toInt = (0 : Int32).toInt := fun z => c_65 (Int32.toInt_inj.mp z)
            have y_0 : (0 : Int32).toInt = 0 := by decide
            have y_93 : (93 : Int32).toInt = 93 := by decide
            have y_1 : (1 : Int32).toInt = 1 := by decide
            have t_x_97 : x_97.toInt = (sv_46 : Int32).toInt + (1 : Int32).toInt := by rw [ex_97]; exact add_toInt (by omega) (by omega)
            omega
          refine lv_aload_n hx hb dX12_closes_56 rfl (lv_at hl 0 rfl) ?_
          refine lv_iconst (v := 3) hx hb dX12_closes_57 (by decide) ?_
          have ha_98 : 1 ≤ (3 : Int32).toInt ∧ (3 : Int32).toInt ≤ 3 := by
            have z_1 := congrArg Int32.toInt c_53
            have z_2 : ¬ (r_60 : Int32).toInt = (0 : Int32).toInt := fun z => c_65 (Int32.toInt_inj.mp z)
            have y_0 : (0 : Int32).toInt = 0 := by decide
            have y_93 : (93 : Int32).toInt = 93 := by decide
            have y_3 : (3 : Int32).toInt = 3 := by decide
            refine ⟨?_, ?_⟩ <;> omega
          have ha_99 : (sv_80 (Mv 5).toNatClampNeg).toInt + (x_89 : Int32).toInt ≤ 400 := by
            have z_1 := congrArg Int32.toInt c_53
            have z_2 : ¬ (r_60 : Int32).toInt = (0 : Int32).toInt := fun z => c_65 (Int32.toInt_inj.mp z)
            have y_0 : (0 : Int32).toInt = 0 := by decide
            have y_93 : (93 : Int32).toInt = 93 := by decide
            have y_1 : (1 : Int32).toInt = 1 := by decide
            have t_x_89 : x_89.toInt = (sv_78 : Int32).toInt - (1 : Int32).toInt := by rw [ex_89]; exact sub_toInt (by omega) (by omega)
            omega
          refine cV (a := (Ma 0)) (As := [.int 3]) (rest := []) (wr := [((Ma 1), .inl (tc 2, 400, .inl (Mf 1)))]) ⟨hx, hb, hml, hown, hts⟩ hK hX hA (cu_X12_layDown l D tc sk (Ma 0) (Ma 1) (Ma 2) (Ma 3) (Ma 4) (Ma 5) (Ma 6) (Ma 7) (Ma 8) (Ma 9) (Ma 10) (Ma 11) (Ma 12) (Ma 13) (Ma 14) (Ma 15) (Ma 16) (Ma 17) (Ma 18) (Ma 19) (Ma 20) (Mv 0) (Mv 1) x_97 (Mv 3) (Mv 4) (Mv 5) (Mv 6) x_96 (Mv 8) x_89 (Mv 10) (Mv 11) (Mv 12) (Mv 13) (Mv 14) sv_79 sv_80 (Mf 7) (Mj 0) 3 b pf_91 ha_98 ha_99) k_1342 k_1339 k_1341 k_54 k_106 pl_X12_layDown ⟨Nat.le_of_ble_eq_true rfl, Nat.le_of_ble_eq_true rfl⟩ rfl rfl (va_recv hK hP (ci := 12) (q0 := 1) rfl rfl) hP hD hS [1, 2, 3, 4] [0] rfl rfl rfl rfl rfl (by decide) rfl hl.1 rfl (Nat.le_of_ble_eq_true rfl) dX12_closes_58 ⟨Nat.le_of_ble_eq_true rfl, Nat.le_of_ble_eq_true rfl⟩ (fun v_100 u_101 H locs hv_102 hP₀ hD₀ hS₀ => ?_)
          obtain ⟨sv_103, sv_104, sv_105, sv_106⟩ := u_101
          obtain ⟨rfl, pf_107, pf_108, pf_109, pf_110, pf_111⟩ := hv_102
          have pf_107 : LSR (Mf 7) sv_104 sv_105 sv_106 (Mv 5) b (Mv 6) := pf_107
          obtain ⟨pn_112, pf_113, pf_114⟩ := id pf_107
          have ar_pf_107 := LSR.ar pf_107
          have ar_pf_114 := Cd.ar pf_114
          have pf_108 : (sv_106 (Mv 5).toNatClampNeg).toInt + (sv_104 : Int32).toInt = (sv_80 (Mv 5).toNatClampNeg).toInt + (x_89 : Int32).toInt ∧ 0 ≤ (sv_104 : Int32).toInt ∧ (sv_104 : Int32).toInt ≤ (x_89 : Int32).toInt := pf_108
          have pf_109 : Agr sv_79 sv_105 (400 * ((Mv 5) : Int32).toInt + (sv_80 (Mv 5).toNatClampNeg).toInt) := pf_109
          have pf_110 : LdE (Mf 7) sv_104 (3 : Int32) := pf_110
          have pf_111 : InK (Mf 7) x_89 sv_104 := pf_111
          refine W.eq (g2 := F0 m 61 ls []) rfl ?_
          replace hP : va_P D classes [((Ma 1), .inl (tc 2, 400, .inl (Mf 1))), ((Ma 0), .inr (12, [.ref (Ma 1), .int (Mv 0), .int (Mv 1), .ref (Ma 2), .ref (Ma 3), .ref (Ma 4), .ref (Ma 5), .ref (Ma 6), .int x_97, .int (Mv 3), .int (Mv 4), .int (Mv 5), .int (Mv 6), .int sv_103, .int (Mv 8), .ref (Ma 7), .int sv_104, .ref (Ma 8), .int (Mv 10), .ref (Ma 9), .ref (Ma 10), .int (Mv 11), .int (Mv 12), .int (Mv 13), .ref (Ma 11), .int (Mv 14), .ref (Ma 12), .ref (Ma 13), .ref (Ma 14), .ref (Ma 15), .ref (Ma 16), .long (Mj 0), .ref (Ma 17), .ref (Ma 18), .ref (Ma 19), .ref (Ma 20)])), ((Ma 2), .inl (tc 0, 2400, .inl sv_105)), ((Ma 3), .inl (tc 0, 7, .inl sv_106)), ((Ma 7), .inl (tc 0, 400, .inl (Mf 7)))] H := hP₀
          replace hD : va_D A [((Ma 1), .inl (tc 2, 400, .inl (Mf 1))), ((Ma 0), .inr (12, [.ref (Ma 1), .int (Mv 0), .int (Mv 1), .ref (Ma 2), .ref (Ma 3), .ref (Ma 4), .ref (Ma 5), .ref (Ma 6), .int x_97, .int (Mv 3), .int (Mv 4), .int (Mv 5), .int (Mv 6), .int sv_103, .int (Mv 8), .ref (Ma 7), .int sv_104, .ref (Ma 8), .int (Mv 10), .ref (Ma 9), .ref (Ma 10), .int (Mv 11), .int (Mv 12), .int (Mv 13), .ref (Ma 11), .int (Mv 14), .ref (Ma 12), .ref (Ma 13), .ref (Ma 14), .ref (Ma 15), .ref (Ma 16), .long (Mj 0), .ref (Ma 17), .ref (Ma 18), .ref (Ma 19), .ref (Ma 20)])), ((Ma 2), .inl (tc 0, 2400, .inl sv_105)), ((Ma 3), .inl (tc 0, 7, .inl sv_106)), ((Ma 7), .inl (tc 0, 400, .inl (Mf 7)))] := hD₀
          replace hS := hS₀
          clear hP₀ hD₀ hS₀
          refine lv_goto (tgt := 5) hx hb dX12_closes_61 (by decide) ?_
          have hb_115 : 401 - (x_97 : Int32).toInt < 401 - (vy_26 : Int32).toInt ∧ 1 ≤ 401 - (vy_26 : Int32).toInt := by
            have z_1 := congrArg Int32.toInt c_53
            have z_2 : ¬ (r_60 : Int32).toInt = (0 : Int32).toInt := fun z => c_65 (Int32.toInt_inj.mp z)
            have y_0 : (0 : Int32).toInt = 0 := by decide
            have y_93 : (93 : Int32).toInt = 93 := by decide
            have y_1 : (1 : Int32).toInt = 1 := by decide
            have t_x_97 : x_97.toInt = (sv_46 : Int32).toInt + (1 : Int32).toInt := by rw [ex_97]; exact add_toInt (by omega) (by omega)
            refine ⟨?_, ?_⟩ <;> omega
          have ha_116 : 0 ≤ (x_97 : Int32).toInt ∧ (x_97 : Int32).toInt ≤ ((Mv 0) : Int32).toInt ∧ ((Mv 0) : Int32).toInt ≤ 400 := by
            have z_1 := congrArg Int32.toInt c_53
            have z_2 : ¬ (r_60 : Int32).toInt = (0 : Int32).toInt := fun z => c_65 (Int32.toInt_inj.mp z)
            have y_0 : (0 : Int32).toInt = 0 := by decide
            have y_93 : (93 : Int32).toInt = 93 := by decide
            have y_1 : (1 : Int32).toInt = 1 := by decide
            have t_x_97 : x_97.toInt = (sv_46 : Int32).toInt + (1 : Int32).toInt := by rw [ex_97]; exact add_toInt (by omega) (by omega)
            refine ⟨?_, ?_, ?_⟩ <;> omega
          have ha_117 : (Mv 2).toInt ≤ (x_97 : Int32).toInt := by
            have z_1 := congrArg Int32.toInt c_53
            have z_2 : ¬ (r_60 : Int32).toInt = (0 : Int32).toInt := fun z => c_65 (Int32.toInt_inj.mp z)
            have y_0 : (0 : Int32).toInt = 0 := by decide
            have y_93 : (93 : Int32).toInt = 93 := by decide
            have y_1 : (1 : Int32).toInt = 1 := by decide
            have t_x_97 : x_97.toInt = (sv_46 : Int32).toInt + (1 : Int32).toInt := by rw [ex_97]; exact add_toInt (by omega) (by omega)
            omega
          have ha_118 : (sv_106 (Mv 5).toNatClampNeg).toInt + (sv_104 : Int32).toInt + ((Mv 2) : Int32).toInt ≤ ((Mf 3) (Mv 5).toNatClampNeg).toInt + ((Mv 9) : Int32).toInt + (x_97 : Int32).toInt ∧ ((Mf 3) (Mv 5).toNatClampNeg).toInt ≤ (sv_106 (Mv 5).toNatClampNeg).toInt := by
            have z_1 := congrArg Int32.toInt c_53
            have z_2 : ¬ (r_60 : Int32).toInt = (0 : Int32).toInt := fun z => c_65 (Int32.toInt_inj.mp z)
            have y_0 : (0 : Int32).toInt = 0 := by decide
            have y_93 : (93 : Int32).toInt = 93 := by decide
            have y_1 : (1 : Int32).toInt = 1 := by decide
            have t_x_97 : x_97.toInt = (sv_46 : Int32).toInt + (1 : Int32).toInt := by rw [ex_97]; exact add_toInt (by omega) (by omega)
            refine ⟨?_, ?_⟩ <;> omega
          have hr_119 : (400 * ((Mv 5) : Int32).toInt + ((Mf 3) (Mv 5).toNatClampNeg).toInt) ≤ (400 * ((Mv 5) : Int32).toInt + ((Mf 3) (Mv 5).toNatClampNeg).toInt) := by
            have z_1 := congrArg Int32.toInt c_53
            have z_2 : ¬ (r_60 : Int32).toInt = (0 : Int32).toInt := fun z => c_65 (Int32.toInt_inj.mp z)
            have y_0 : (0 : Int32).toInt = 0 := by decide
            have y_93 : (93 : Int32).toInt = 93 := by decide
            omega
          have hr_120 : (400 * ((Mv 5) : Int32).toInt + ((Mf 3) (Mv 5).toNatClampNeg).toInt) ≤ (400 * ((Mv 5) : Int32).toInt + (vy_30 (Mv 5).toNatClampNeg).toInt) := by
            have z_1 := congrArg Int32.toInt c_53
            have z_2 : ¬ (r_60 : Int32).toInt = (0 : Int32).toInt := fun z => c_65 (Int32.toInt_inj.mp z)
            have y_0 : (0 : Int32).toInt = 0 := by decide
            have y_93 : (93 : Int32).toInt = 93 := by decide
            omega
          have hr_121 : (400 * ((Mv 5) : Int32).toInt + ((Mf 3) (Mv 5).toNatClampNeg).toInt) ≤ (400 * ((Mv 5) : Int32).toInt + (sv_80 (Mv 5).toNatClampNeg).toInt) := by
            have z_1 := congrArg Int32.toInt c_53
            have z_2 : ¬ (r_60 : Int32).toInt = (0 : Int32).toInt := fun z => c_65 (Int32.toInt_inj.mp z)
            have y_0 : (0 : Int32).toInt = 0 := by decide
            have y_93 : (93 : Int32).toInt = 93 := by decide
            omega
          exact ih_32 x_97 sv_103 sv_104 sv_105 sv_106 _ _ _ (by omega) ha_116 ha_117 pf_107 ha_118 (Agr.trans (k' := (400 * ((Mv 5) : Int32).toInt + ((Mf 3) (Mv 5).toNatClampNeg).toInt)) (Agr.trans (k' := (400 * ((Mv 5) : Int32).toInt + ((Mf 3) (Mv 5).toNatClampNeg).toInt)) (Agr.mono pf_38 hr_119) pf_83 ⟨Int.le_refl _, hr_120⟩) pf_109 ⟨Int.le_refl _, hr_121⟩) (hP.sub [0, 1, 2, 3, 4] rfl) (hD.sub [0, 1, 2, 3, 4] rfl rfl) hS (lv_sub hl [0] rfl)
  have ha_122 : (Mv 2).toInt ≤ ((Mv 2) : Int32).toInt := by
    omega
  have ha_123 : (sv_12 (Mv 5).toNatClampNeg).toInt + (sv_10 : Int32).toInt + ((Mv 2) : Int32).toInt ≤ ((Mf 3) (Mv 5).toNatClampNeg).toInt + ((Mv 9) : Int32).toInt + ((Mv 2) : Int32).toInt ∧ ((Mf 3) (Mv 5).toNatClampNeg).toInt ≤ (sv_12 (Mv 5).toNatClampNeg).toInt := by
    refine ⟨?_, ?_⟩ <;> omega
  exact loop_33 _ (Mv 2) sv_9 sv_10 sv_11 sv_12 _ _ _ (Nat.lt_succ_self _) h_nx ha_122 pf_13 ha_123 pf_15 hP hD hS hl
set_option maxRecDepth 100000 in
theorem cu_X12_closes (l : Launch) (D : va_G) (tc : Nat → ClassId) (sk : (Nat → Nat) × (Nat → Nat)) (Ma_0 : Nat) (Ma_1 : Nat) (Ma_2 : Nat) (Ma_3 : Nat) (Ma_4 : Nat) (Ma_5 : Nat) (Ma_6 : Nat) (Ma_7 : Nat) (Ma_8 : Nat) (Ma_9 : Nat) (Ma_10 : Nat) (Ma_11 : Nat) (Ma_12 : Nat) (Ma_13 : Nat) (Ma_14 : Nat) (Ma_15 : Nat) (Ma_16 : Nat) (Ma_17 : Nat) (Ma_18 : Nat) (Ma_19 : Nat) (Ma_20 : Nat) (Mv_0 : Int32) (Mv_1 : Int32) (Mv_2 : Int32) (Mv_3 : Int32) (Mv_4 : Int32) (Mv_5 : Int32) (Mv_6 : Int32) (Mv_7 : Int32) (Mv_8 : Int32) (Mv_9 : Int32) (Mv_10 : Int32) (Mv_11 : Int32) (Mv_12 : Int32) (Mv_13 : Int32) (Mv_14 : Int32) (Mf_1 : Nat → Int32) (Mf_2 : Nat → Int32) (Mf_3 : Nat → Int32) (Mf_7 : Nat → Int32) (Mj_0 : Int64) (b : Int32) (h_nx : 0 ≤ (Mv_2 : Int32).toInt ∧ (Mv_2 : Int32).toInt ≤ (Mv_0 : Int32).toInt ∧ (Mv_0 : Int32).toInt ≤ 400) (h_ls : LSR Mf_7 Mv_9 Mf_2 Mf_3 Mv_5 b Mv_6) (h_s : (Mf_3 Mv_5.toNatClampNeg).toInt + (Mv_9 : Int32).toInt ≤ (Mv_2 : Int32).toInt) : Ct l yX12_closes cX12_closes 1 none { frames := 2, cells := 0, slots := 0, locals := 43 } D tc sk [.ref Ma_0] [(Ma_0, .inr (12, [.ref Ma_1, .int Mv_0, .int Mv_1, .ref Ma_2, .ref Ma_3, .ref Ma_4, .ref Ma_5, .ref Ma_6, .int Mv_2, .int Mv_3, .int Mv_4, .int Mv_5, .int Mv_6, .int Mv_7, .int Mv_8, .ref Ma_7, .int Mv_9, .ref Ma_8, .int Mv_10, .ref Ma_9, .ref Ma_10, .int Mv_11, .int Mv_12, .int Mv_13, .ref Ma_11, .int Mv_14, .ref Ma_12, .ref Ma_13, .ref Ma_14, .ref Ma_15, .ref Ma_16, .long Mj_0, .ref Ma_17, .ref Ma_18, .ref Ma_19, .ref Ma_20])), (Ma_1, .inl (tc 2, 400, .inl Mf_1)), (Ma_2, .inl (tc 0, 2400, .inl Mf_2)), (Ma_3, .inl (tc 0, 7, .inl Mf_3)), (Ma_7, .inl (tc 0, 400, .inl Mf_7))] (fun (v : Option Value) (u : (Int32) × (Int32) × (Int32) × (Nat → Int32) × (Nat → Int32)) => match u with | (oo0x1, oo0x2, oo0x3, oo0x4, oo0x5) => v = none ∧ ((Mv_2 : Int32).toInt ≤ (oo0x1 : Int32).toInt ∧ (oo0x1 : Int32).toInt ≤ (Mv_0 : Int32).toInt) ∧ (Agr Mf_2 oo0x4 (400 * (Mv_5 : Int32).toInt + (Mf_3 Mv_5.toNatClampNeg).toInt)) ∧ (LSR Mf_7 oo0x3 oo0x4 oo0x5 Mv_5 b Mv_6) ∧ ((oo0x5 Mv_5.toNatClampNeg).toInt + (oo0x3 : Int32).toInt + (Mv_2 : Int32).toInt ≤ (Mf_3 Mv_5.toNatClampNeg).toInt + (Mv_9 : Int32).toInt + (oo0x1 : Int32).toInt ∧ (Mf_3 Mv_5.toNatClampNeg).toInt ≤ (oo0x5 Mv_5.toNatClampNeg).toInt)) (fun (u : (Int32) × (Int32) × (Int32) × (Nat → Int32) × (Nat → Int32)) => match u with | (oo0x1, oo0x2, oo0x3, oo0x4, oo0x5) => [(Ma_0, .inr (12, [.ref Ma_1, .int Mv_0, .int Mv_1, .ref Ma_2, .ref Ma_3, .ref Ma_4, .ref Ma_5, .ref Ma_6, .int oo0x1, .int Mv_3, .int Mv_4, .int Mv_5, .int Mv_6, .int oo0x2, .int Mv_8, .ref Ma_7, .int oo0x3, .ref Ma_8, .int Mv_10, .ref Ma_9, .ref Ma_10, .int Mv_11, .int Mv_12, .int Mv_13, .ref Ma_11, .int Mv_14, .ref Ma_12, .ref Ma_13, .ref Ma_14, .ref Ma_15, .ref Ma_16, .long Mj_0, .ref Ma_17, .ref Ma_18, .ref Ma_19, .ref Ma_20])), (Ma_1, .inl (tc 2, 400, .inl Mf_1)), (Ma_2, .inl (tc 0, 2400, .inl oo0x4)), (Ma_3, .inl (tc 0, 7, .inl oo0x5)), (Ma_7, .inl (tc 0, 400, .inl Mf_7))]) 0 0 :=
  ct_X12_closes l D tc sk (fun k => ([Ma_0, Ma_1, Ma_2, Ma_3, Ma_4, Ma_5, Ma_6, Ma_7, Ma_8, Ma_9, Ma_10, Ma_11, Ma_12, Ma_13, Ma_14, Ma_15, Ma_16, Ma_17, Ma_18, Ma_19, Ma_20] : List (Nat)).getD k 0) (fun k => ([Mv_0, Mv_1, Mv_2, Mv_3, Mv_4, Mv_5, Mv_6, Mv_7, Mv_8, Mv_9, Mv_10, Mv_11, Mv_12, Mv_13, Mv_14] : List (Int32)).getD k 0) (fun k => ([(fun _ => 0), Mf_1, Mf_2, Mf_3, (fun _ => 0), (fun _ => 0), (fun _ => 0), Mf_7] : List (Nat → Int32)).getD k (fun _ => 0)) (fun k => ([Mj_0] : List (Int64)).getD k 0) b h_nx h_ls h_s
set_option maxHeartbeats 4000000 in
set_option maxRecDepth 100000 in
theorem ct_X12_tested (l : Launch) (D : va_G) (tc : Nat → ClassId) (sk : (Nat → Nat) × (Nat → Nat)) (Ma : Nat → Nat) (Mv : Nat → Int32) (Mf : Nat → Nat → Int32) (Mj : Nat → Int64) (b : Int32) (h_nx : 0 ≤ ((Mv 2) : Int32).toInt ∧ ((Mv 2) : Int32).toInt ≤ ((Mv 0) : Int32).toInt ∧ ((Mv 0) : Int32).toInt ≤ 400) (h_cd : Cd (Mf 2) (Mf 3) (Mv 5) b (Mv 6) 0) (h_L : ((Mf 3) (Mv 5).toNatClampNeg).toInt ≤ ((Mv 2) : Int32).toInt) (h_md : 0 ≤ ((Mv 6) : Int32).toInt ∧ ((Mv 6) : Int32).toInt ≤ 60) : Ct l yX12_tested cX12_tested 3 (some .boolean) { frames := 8, cells := 0, slots := 0, locals := 176 } D tc sk [.ref (Ma 0)] [((Ma 0), .inr (12, [.ref (Ma 1), .int (Mv 0), .int (Mv 1), .ref (Ma 2), .ref (Ma 3), .ref (Ma 4), .ref (Ma 5), .ref (Ma 6), .int (Mv 2), .int (Mv 3), .int (Mv 4), .int (Mv 5), .int (Mv 6), .int (Mv 7), .int (Mv 8), .ref (Ma 7), .int (Mv 9), .ref (Ma 8), .int (Mv 10), .ref (Ma 9), .ref (Ma 10), .int (Mv 11), .int (Mv 12), .int (Mv 13), .ref (Ma 11), .int (Mv 14), .ref (Ma 12), .ref (Ma 13), .ref (Ma 14), .ref (Ma 15), .ref (Ma 16), .long (Mj 0), .ref (Ma 17), .ref (Ma 18), .ref (Ma 19), .ref (Ma 20)])), ((Ma 1), .inl (tc 2, 400, .inl (Mf 1))), ((Ma 2), .inl (tc 0, 2400, .inl (Mf 2))), ((Ma 3), .inl (tc 0, 7, .inl (Mf 3))), ((Ma 7), .inl (tc 0, 400, .inl (Mf 7)))] (fun (v : Option Value) (u : (Int32) × (Int32) × (Int32) × (Int32) × (Int32) × (Int32) × (Nat → Int32) × (Nat → Int32) × (Nat → Int32)) => match u with | (oo0x1, oo0x2, oo0x3, oo0x4, oo0x5, oo0x6, oo0x7, oo0x8, oo0x9) => ∃ r : Int32, v = some (.int r) ∧ (((r.toInt = 0 ∧ ¬ (oo0x2 : Int32).toInt = 0) ∨ (r.toInt = 1 ∧ ((Mf 3) (Mv 5).toNatClampNeg).toInt ≤ (oo0x8 (Mv 5).toNatClampNeg).toInt ∧ (oo0x8 (Mv 5).toNatClampNeg).toInt ≤ (oo0x1 : Int32).toInt))) ∧ (((Mv 2) : Int32).toInt ≤ (oo0x1 : Int32).toInt ∧ (oo0x1 : Int32).toInt ≤ ((Mv 0) : Int32).toInt) ∧ (((Mv 6) : Int32).toInt ≤ (oo0x4 : Int32).toInt ∧ (oo0x4 : Int32).toInt ≤ 60) ∧ (Agr (Mf 2) oo0x7 (400 * ((Mv 5) : Int32).toInt + ((Mf 3) (Mv 5).toNatClampNeg).toInt)) ∧ (r.toInt = 1 → (Cd oo0x7 oo0x8 (Mv 5) b oo0x4 1))) (fun (u : (Int32) × (Int32) × (Int32) × (Int32) × (Int32) × (Int32) × (Nat → Int32) × (Nat → Int32) × (Nat → Int32)) => match u with | (oo0x1, oo0x2, oo0x3, oo0x4, oo0x5, oo0x6, oo0x7, oo0x8, oo0x9) => [((Ma 0), .inr (12, [.ref (Ma 1), .int (Mv 0), .int (Mv 1), .ref (Ma 2), .ref (Ma 3), .ref (Ma 4), .ref (Ma 5), .ref (Ma 6), .int oo0x1, .int oo0x2, .int oo0x3, .int (Mv 5), .int oo0x4, .int oo0x5, .int (Mv 8), .ref (Ma 7), .int oo0x6, .ref (Ma 8), .int (Mv 10), .ref (Ma 9), .ref (Ma 10), .int (Mv 11), .int (Mv 12), .int (Mv 13), .ref (Ma 11), .int (Mv 14), .ref (Ma 12), .ref (Ma 13), .ref (Ma 14), .ref (Ma 15), .ref (Ma 16), .long (Mj 0), .ref (Ma 17), .ref (Ma 18), .ref (Ma 19), .ref (Ma 20)])), ((Ma 1), .inl (tc 2, 400, .inl (Mf 1))), ((Ma 2), .inl (tc 0, 2400, .inl oo0x7)), ((Ma 3), .inl (tc 0, 7, .inl oo0x8)), ((Ma 7), .inl (tc 0, 400, .inl oo0x9))]) 0 0 := by
  refine Ct.start (by decide) (Nat.le_of_ble_eq_true rfl) (fun p e s m below meth c A ls hx hb hr hlk hin hml hown hts hK hX hP hD hA hl hS => ?_)
  have hl : lv_has ls 3 [(0, .ref (Ma 0))] := hl
  have ar_h_cd := Cd.ar h_cd
  refine lv_aload_n hx hb dX12_tested_0 rfl (lv_at hl 0 rfl) ?_
  refine lv_iconst (v := 0) hx hb dX12_tested_1 (by decide) ?_
  refine pf_X12_154 hx hb hts hown hK hP hD hS 0 rfl (Nat.le_of_ble_eq_true rfl) rfl rfl dX12_tested_2 (fun H locs hP₀ hD₀ hS₀ => ?_)
  replace hP : va_P D classes [((Ma 0), .inr (12, [.ref (Ma 1), .int (Mv 0), .int (Mv 1), .ref (Ma 2), .ref (Ma 3), .ref (Ma 4), .ref (Ma 5), .ref (Ma 6), .int (Mv 2), .int (Mv 3), .int (Mv 4), .int (Mv 5), .int (Mv 6), .int (Mv 7), .int (Mv 8), .ref (Ma 7), .int 0, .ref (Ma 8), .int (Mv 10), .ref (Ma 9), .ref (Ma 10), .int (Mv 11), .int (Mv 12), .int (Mv 13), .ref (Ma 11), .int (Mv 14), .ref (Ma 12), .ref (Ma 13), .ref (Ma 14), .ref (Ma 15), .ref (Ma 16), .long (Mj 0), .ref (Ma 17), .ref (Ma 18), .ref (Ma 19), .ref (Ma 20)])), ((Ma 1), .inl (tc 2, 400, .inl (Mf 1))), ((Ma 2), .inl (tc 0, 2400, .inl (Mf 2))), ((Ma 3), .inl (tc 0, 7, .inl (Mf 3))), ((Ma 7), .inl (tc 0, 400, .inl (Mf 7)))] H := hP₀
  replace hD : va_D A [((Ma 0), .inr (12, [.ref (Ma 1), .int (Mv 0), .int (Mv 1), .ref (Ma 2), .ref (Ma 3), .ref (Ma 4), .ref (Ma 5), .ref (Ma 6), .int (Mv 2), .int (Mv 3), .int (Mv 4), .int (Mv 5), .int (Mv 6), .int (Mv 7), .int (Mv 8), .ref (Ma 7), .int 0, .ref (Ma 8), .int (Mv 10), .ref (Ma 9), .ref (Ma 10), .int (Mv 11), .int (Mv 12), .int (Mv 13), .ref (Ma 11), .int (Mv 14), .ref (Ma 12), .ref (Ma 13), .ref (Ma 14), .ref (Ma 15), .ref (Ma 16), .long (Mj 0), .ref (Ma 17), .ref (Ma 18), .ref (Ma 19), .ref (Ma 20)])), ((Ma 1), .inl (tc 2, 400, .inl (Mf 1))), ((Ma 2), .inl (tc 0, 2400, .inl (Mf 2))), ((Ma 3), .inl (tc 0, 7, .inl (Mf 3))), ((Ma 7), .inl (tc 0, 400, .inl (Mf 7)))] := hD₀
  replace hS := hS₀
  clear hP₀ hD₀ hS₀
  refine lv_aload_n hx hb dX12_tested_5 rfl (lv_at hl 0 rfl) ?_
  refine lv_iconst (v := 0) hx hb dX12_tested_6 (by decide) ?_
  refine pf_X12_151 hx hb hts hown hK hP hD hS 0 rfl (Nat.le_of_ble_eq_true rfl) rfl rfl dX12_tested_7 (fun H locs hP₀ hD₀ hS₀ => ?_)
  replace hP : va_P D classes [((Ma 0), .inr (12, [.ref (Ma 1), .int (Mv 0), .int (Mv 1), .ref (Ma 2), .ref (Ma 3), .ref (Ma 4), .ref (Ma 5), .ref (Ma 6), .int (Mv 2), .int (Mv 3), .int (Mv 4), .int (Mv 5), .int (Mv 6), .int 0, .int (Mv 8), .ref (Ma 7), .int 0, .ref (Ma 8), .int (Mv 10), .ref (Ma 9), .ref (Ma 10), .int (Mv 11), .int (Mv 12), .int (Mv 13), .ref (Ma 11), .int (Mv 14), .ref (Ma 12), .ref (Ma 13), .ref (Ma 14), .ref (Ma 15), .ref (Ma 16), .long (Mj 0), .ref (Ma 17), .ref (Ma 18), .ref (Ma 19), .ref (Ma 20)])), ((Ma 1), .inl (tc 2, 400, .inl (Mf 1))), ((Ma 2), .inl (tc 0, 2400, .inl (Mf 2))), ((Ma 3), .inl (tc 0, 7, .inl (Mf 3))), ((Ma 7), .inl (tc 0, 400, .inl (Mf 7)))] H := hP₀
  replace hD : va_D A [((Ma 0), .inr (12, [.ref (Ma 1), .int (Mv 0), .int (Mv 1), .ref (Ma 2), .ref (Ma 3), .ref (Ma 4), .ref (Ma 5), .ref (Ma 6), .int (Mv 2), .int (Mv 3), .int (Mv 4), .int (Mv 5), .int (Mv 6), .int 0, .int (Mv 8), .ref (Ma 7), .int 0, .ref (Ma 8), .int (Mv 10), .ref (Ma 9), .ref (Ma 10), .int (Mv 11), .int (Mv 12), .int (Mv 13), .ref (Ma 11), .int (Mv 14), .ref (Ma 12), .ref (Ma 13), .ref (Ma 14), .ref (Ma 15), .ref (Ma 16), .long (Mj 0), .ref (Ma 17), .ref (Ma 18), .ref (Ma 19), .ref (Ma 20)])), ((Ma 1), .inl (tc 2, 400, .inl (Mf 1))), ((Ma 2), .inl (tc 0, 2400, .inl (Mf 2))), ((Ma 3), .inl (tc 0, 7, .inl (Mf 3))), ((Ma 7), .inl (tc 0, 400, .inl (Mf 7)))] := hD₀
  replace hS := hS₀
  clear hP₀ hD₀ hS₀
  refine lv_iconst (v := 1) hx hb dX12_tested_10 (by decide) ?_
  refine lv_istore_n (lv' := [(1, .int 1), (0, .ref (Ma 0))]) hx hb dX12_tested_11 rfl hl (by decide) rfl (fun ls hl₀ => ?_)
  replace hl := hl₀
  clear hl₀
  have loop_23 : ∀ (n_21 : Nat) (vy_11 : Int32) (vy_12 : Int32) (vy_13 : Int32) (vy_14 : Int32) (vy_15 : Int32) (vy_16 : Int32) (vy_17 : Nat → Int32) (vy_18 : Nat → Int32) (vy_19 : Nat → Int32) (vy_20 : Int32) (H : Heap) (locs : List Loc) (ls : Array Slot), (2 * (401 - (vy_11 : Int32).toInt) + (vy_20 : Int32).toInt).toNat < n_21 → (0 ≤ (vy_11 : Int32).toInt ∧ (vy_11 : Int32).toInt ≤ ((Mv 0) : Int32).toInt ∧ ((Mv 0) : Int32).toInt ≤ 400) → ((Mv 2).toInt ≤ (vy_11 : Int32).toInt) → (0 ≤ (vy_20 : Int32).toInt ∧ (vy_20 : Int32).toInt ≤ 1) → ((Mv 6).toInt ≤ (vy_14 : Int32).toInt ∧ (vy_14 : Int32).toInt ≤ 60) → (LX vy_19 vy_16 vy_17 vy_18 (Mv 5) b vy_14 vy_20) → ((vy_18 (Mv 5).toNatClampNeg).toInt + (vy_16 : Int32).toInt ≤ (vy_11 : Int32).toInt ∧ ((Mf 3) (Mv 5).toNatClampNeg).toInt ≤ (vy_18 (Mv 5).toNatClampNeg).toInt ∧ 0 ≤ (vy_16 : Int32).toInt ∧ (vy_16 : Int32).toInt ≤ 400) → (Agr (Mf 2) vy_17 (400 * ((Mv 5) : Int32).toInt + ((Mf 3) (Mv 5).toNatClampNeg).toInt)) → va_P D classes [((Ma 0), .inr (12, [.ref (Ma 1), .int (Mv 0), .int (Mv 1), .ref (Ma 2), .ref (Ma 3), .ref (Ma 4), .ref (Ma 5), .ref (Ma 6), .int vy_11, .int vy_12, .int vy_13, .int (Mv 5), .int vy_14, .int vy_15, .int (Mv 8), .ref (Ma 7), .int vy_16, .ref (Ma 8), .int (Mv 10), .ref (Ma 9), .ref (Ma 10), .int (Mv 11), .int (Mv 12), .int (Mv 13), .ref (Ma 11), .int (Mv 14), .ref (Ma 12), .ref (Ma 13), .ref (Ma 14), .ref (Ma 15), .ref (Ma 16), .long (Mj 0), .ref (Ma 17), .ref (Ma 18), .ref (Ma 19), .ref (Ma 20)])), ((Ma 1), .inl (tc 2, 400, .inl (Mf 1))), ((Ma 2), .inl (tc 0, 2400, .inl vy_17)), ((Ma 3), .inl (tc 0, 7, .inl vy_18)), ((Ma 7), .inl (tc 0, 400, .inl vy_19))] H → va_D A [((Ma 0), .inr (12, [.ref (Ma 1), .int (Mv 0), .int (Mv 1), .ref (Ma 2), .ref (Ma 3), .ref (Ma 4), .ref (Ma 5), .ref (Ma 6), .int vy_11, .int vy_12, .int vy_13, .int (Mv 5), .int vy_14, .int vy_15, .int (Mv 8), .ref (Ma 7), .int vy_16, .ref (Ma 8), .int (Mv 10), .ref (Ma 9), .ref (Ma 10), .int (Mv 11), .int (Mv 12), .int (Mv 13), .ref (Ma 11), .int (Mv 14), .ref (Ma 12), .ref (Ma 13), .ref (Ma 14), .ref (Ma 15), .ref (Ma 16), .long (Mj 0), .ref (Ma 17), .ref (Ma 18), .ref (Ma 19), .ref (Ma 20)])), ((Ma 1), .inl (tc 2, 400, .inl (Mf 1))), ((Ma 2), .inl (tc 0, 2400, .inl vy_17)), ((Ma 3), .inl (tc 0, 7, .inl vy_18)), ((Ma 7), .inl (tc 0, 400, .inl vy_19))] → va_S A s.heap H locs → lv_has ls 3 [(1, .int vy_20), (0, .ref (Ma 0))] → W p l e ({ frames := 8, cells := 0, slots := 0, locals := 176 }) s m ([.ref (Ma 0)].toArray) below meth c H locs 0 0 (MQ below (QW (fun (v : Option Value) (u : (Int32) × (Int32) × (Int32) × (Int32) × (Int32) × (Int32) × (Nat → Int32) × (Nat → Int32) × (Nat → Int32)) => match u with | (oo0x1, oo0x2, oo0x3, oo0x4, oo0x5, oo0x6, oo0x7, oo0x8, oo0x9) => ∃ r : Int32, v = some (.int r) ∧ (((r.toInt = 0 ∧ ¬ (oo0x2 : Int32).toInt = 0) ∨ (r.toInt = 1 ∧ ((Mf 3) (Mv 5).toNatClampNeg).toInt ≤ (oo0x8 (Mv 5).toNatClampNeg).toInt ∧ (oo0x8 (Mv 5).toNatClampNeg).toInt ≤ (oo0x1 : Int32).toInt))) ∧ (((Mv 2) : Int32).toInt ≤ (oo0x1 : Int32).toInt ∧ (oo0x1 : Int32).toInt ≤ ((Mv 0) : Int32).toInt) ∧ (((Mv 6) : Int32).toInt ≤ (oo0x4 : Int32).toInt ∧ (oo0x4 : Int32).toInt ≤ 60) ∧ (Agr (Mf 2) oo0x7 (400 * ((Mv 5) : Int32).toInt + ((Mf 3) (Mv 5).toNatClampNeg).toInt)) ∧ (r.toInt = 1 → (Cd oo0x7 oo0x8 (Mv 5) b oo0x4 1))) (BW D (fun (u : (Int32) × (Int32) × (Int32) × (Int32) × (Int32) × (Int32) × (Nat → Int32) × (Nat → Int32) × (Nat → Int32)) => match u with | (oo0x1, oo0x2, oo0x3, oo0x4, oo0x5, oo0x6, oo0x7, oo0x8, oo0x9) => [((Ma 0), .inr (12, [.ref (Ma 1), .int (Mv 0), .int (Mv 1), .ref (Ma 2), .ref (Ma 3), .ref (Ma 4), .ref (Ma 5), .ref (Ma 6), .int oo0x1, .int oo0x2, .int oo0x3, .int (Mv 5), .int oo0x4, .int oo0x5, .int (Mv 8), .ref (Ma 7), .int oo0x6, .ref (Ma 8), .int (Mv 10), .ref (Ma 9), .ref (Ma 10), .int (Mv 11), .int (Mv 12), .int (Mv 13), .ref (Ma 11), .int (Mv 14), .ref (Ma 12), .ref (Ma 13), .ref (Ma 14), .ref (Ma 15), .ref (Ma 16), .long (Mj 0), .ref (Ma 17), .ref (Ma 18), .ref (Ma 19), .ref (Ma 20)])), ((Ma 1), .inl (tc 2, 400, .inl (Mf 1))), ((Ma 2), .inl (tc 0, 2400, .inl oo0x7)), ((Ma 3), .inl (tc 0, 7, .inl oo0x8)), ((Ma 7), .inl (tc 0, 400, .inl oo0x9))]) A) A) ([.ref (Ma 0)].toArray) s 0 0 A) (F0 m 12 ls []) := by
    clear hP hD hS hl
    intro n_21
    induction n_21 with
    | zero =>
      intro vy_11 vy_12 vy_13 vy_14 vy_15 vy_16 vy_17 vy_18 vy_19 vy_20 H locs ls h1
      exact absurd h1 (Nat.not_lt_zero _)
    | succ n_21 ih_22 =>
      intro vy_11 vy_12 vy_13 vy_14 vy_15 vy_16 vy_17 vy_18 vy_19 vy_20 H locs ls hn_31 pf_24 pf_25 pf_26 pf_27 pf_28 pf_29 pf_30 hP hD hS hl
      refine lv_iload_n hx hb dX12_tested_12 rfl (lv_at hl 0 rfl) ?_
      refine lv_if_eq (tgt := 112) hx hb dX12_tested_13 (by decide) (fun c_32 => ?_) (fun c_32 => ?_)
      · skip
        have hr_34 : (vy_20 : Int32).toInt = 0 := by
          have z_1 := congrArg Int32.toInt c_32
          have y_0 : (0 : Int32).toInt = 0 := by decide
          omega
        have pf_33 : LSR vy_19 vy_16 vy_17 vy_18 (Mv 5) b vy_14 := pf_28.2 hr_34
        obtain ⟨pn_35, pf_36, pf_37⟩ := id pf_33
        have ar_pf_33 := LSR.ar pf_33
        have ar_pf_37 := Cd.ar pf_37
        refine lv_aload_n hx hb dX12_tested_112 rfl (lv_at hl 1 rfl) ?_
        have ha_38 : 0 ≤ (vy_16 : Int32).toInt ∧ (vy_16 : Int32).toInt ≤ 400 := by
          have z_1 := congrArg Int32.toInt c_32
          have y_0 : (0 : Int32).toInt = 0 := by decide
          refine ⟨?_, ?_⟩ <;> omega
        refine cV (a := (Ma 0)) (As := []) (rest := []) (wr := [((Ma 1), .inl (tc 2, 400, .inl (Mf 1))), ((Ma 2), .inl (tc 0, 2400, .inl vy_17)), ((Ma 3), .inl (tc 0, 7, .inl vy_18))]) ⟨hx, hb, hml, hown, hts⟩ hK hX hA (cu_X12_isInside l D tc sk (Ma 0) (Ma 1) (Ma 2) (Ma 3) (Ma 4) (Ma 5) (Ma 6) (Ma 7) (Ma 8) (Ma 9) (Ma 10) (Ma 11) (Ma 12) (Ma 13) (Ma 14) (Ma 15) (Ma 16) (Ma 17) (Ma 18) (Ma 19) (Ma 20) (Mv 0) (Mv 1) vy_11 vy_12 vy_13 (Mv 5) vy_14 vy_15 (Mv 8) vy_16 (Mv 10) (Mv 11) (Mv 12) (Mv 13) (Mv 14) vy_19 (Mj 0) ha_38) k_1349 k_1346 k_1348 k_55 k_106 pl_X12_isInside ⟨Nat.le_of_ble_eq_true rfl, Nat.le_of_ble_eq_true rfl⟩ rfl rfl (va_recv hK hP (ci := 12) (q0 := 0) rfl rfl) hP hD hS [0, 4] [1, 2, 3] rfl rfl rfl rfl rfl (by decide) rfl hl.1 rfl (Nat.le_of_ble_eq_true rfl) dX12_tested_113 ⟨Nat.le_of_ble_eq_true rfl, Nat.le_of_ble_eq_true rfl⟩ (fun v_39 u_40 H locs hv_41 hP₀ hD₀ hS₀ => ?_)
        obtain ⟨r_42, rfl, he_43, hm_45, hm_46⟩ := hv_41
        have he_43 : (r_42.toInt = 0 ∨ r_42.toInt = 1) := he_43
        refine W.eq (g2 := F0 m 116 ls [.int r_42]) rfl ?_
        replace hP : va_P D classes [((Ma 1), .inl (tc 2, 400, .inl (Mf 1))), ((Ma 2), .inl (tc 0, 2400, .inl vy_17)), ((Ma 3), .inl (tc 0, 7, .inl vy_18)), ((Ma 0), .inr (12, [.ref (Ma 1), .int (Mv 0), .int (Mv 1), .ref (Ma 2), .ref (Ma 3), .ref (Ma 4), .ref (Ma 5), .ref (Ma 6), .int vy_11, .int vy_12, .int vy_13, .int (Mv 5), .int vy_14, .int vy_15, .int (Mv 8), .ref (Ma 7), .int vy_16, .ref (Ma 8), .int (Mv 10), .ref (Ma 9), .ref (Ma 10), .int (Mv 11), .int (Mv 12), .int (Mv 13), .ref (Ma 11), .int (Mv 14), .ref (Ma 12), .ref (Ma 13), .ref (Ma 14), .ref (Ma 15), .ref (Ma 16), .long (Mj 0), .ref (Ma 17), .ref (Ma 18), .ref (Ma 19), .ref (Ma 20)])), ((Ma 7), .inl (tc 0, 400, .inl vy_19))] H := hP₀
        replace hD : va_D A [((Ma 1), .inl (tc 2, 400, .inl (Mf 1))), ((Ma 2), .inl (tc 0, 2400, .inl vy_17)), ((Ma 3), .inl (tc 0, 7, .inl vy_18)), ((Ma 0), .inr (12, [.ref (Ma 1), .int (Mv 0), .int (Mv 1), .ref (Ma 2), .ref (Ma 3), .ref (Ma 4), .ref (Ma 5), .ref (Ma 6), .int vy_11, .int vy_12, .int vy_13, .int (Mv 5), .int vy_14, .int vy_15, .int (Mv 8), .ref (Ma 7), .int vy_16, .ref (Ma 8), .int (Mv 10), .ref (Ma 9), .ref (Ma 10), .int (Mv 11), .int (Mv 12), .int (Mv 13), .ref (Ma 11), .int (Mv 14), .ref (Ma 12), .ref (Ma 13), .ref (Ma 14), .ref (Ma 15), .ref (Ma 16), .long (Mj 0), .ref (Ma 17), .ref (Ma 18), .ref (Ma 19), .ref (Ma 20)])), ((Ma 7), .inl (tc 0, 400, .inl vy_19))] := hD₀
        replace hS := hS₀
        clear hP₀ hD₀ hS₀
        refine lv_if_eq (tgt := 134) hx hb dX12_tested_116 (by decide) (fun c_47 => ?_) (fun c_47 => ?_)
        · skip
          have hz_49 : (r_42 : Int32).toInt = 0 := by
            have z_1 := congrArg Int32.toInt c_32
            have z_2 := congrArg Int32.toInt c_47
            have y_0 : (0 : Int32).toInt = 0 := by decide
            omega
          obtain pf_48 := hm_46 hz_49
          have pf_48 : NIns vy_19 vy_16 := pf_48
          refine lv_aload_n hx hb dX12_tested_134 rfl (lv_at hl 1 rfl) ?_
          refine lv_iconst (v := 1) hx hb dX12_tested_135 (by decide) ?_
          have ha_50 : 1 ≤ (1 : Int32).toInt ∧ (1 : Int32).toInt ≤ 3 := by
            have z_1 := congrArg Int32.toInt c_32
            have z_2 := congrArg Int32.toInt c_47
            have y_0 : (0 : Int32).toInt = 0 := by decide
            have y_1 : (1 : Int32).toInt = 1 := by decide
            refine ⟨?_, ?_⟩ <;> omega
          have ha_51 : (vy_18 (Mv 5).toNatClampNeg).toInt + (vy_16 : Int32).toInt ≤ 400 := by
            have z_1 := congrArg Int32.toInt c_32
            have z_2 := congrArg Int32.toInt c_47
            have y_0 : (0 : Int32).toInt = 0 := by decide
            omega
          refine cV (a := (Ma 0)) (As := [.int 1]) (rest := []) (wr := [((Ma 1), .inl (tc 2, 400, .inl (Mf 1)))]) ⟨hx, hb, hml, hown, hts⟩ hK hX hA (cu_X12_layDown l D tc sk (Ma 0) (Ma 1) (Ma 2) (Ma 3) (Ma 4) (Ma 5) (Ma 6) (Ma 7) (Ma 8) (Ma 9) (Ma 10) (Ma 11) (Ma 12) (Ma 13) (Ma 14) (Ma 15) (Ma 16) (Ma 17) (Ma 18) (Ma 19) (Ma 20) (Mv 0) (Mv 1) vy_11 vy_12 vy_13 (Mv 5) vy_14 vy_15 (Mv 8) vy_16 (Mv 10) (Mv 11) (Mv 12) (Mv 13) (Mv 14) vy_17 vy_18 vy_19 (Mj 0) 1 b pf_33 ha_50 ha_51) k_1342 k_1339 k_1341 k_54 k_106 pl_X12_layDown ⟨Nat.le_of_ble_eq_true rfl, Nat.le_of_ble_eq_true rfl⟩ rfl rfl (va_recv hK hP (ci := 12) (q0 := 3) rfl rfl) hP hD hS [3, 1, 2, 4] [0] rfl rfl rfl rfl rfl (by decide) rfl hl.1 rfl (Nat.le_of_ble_eq_true rfl) dX12_tested_136 ⟨Nat.le_of_ble_eq_true rfl, Nat.le_of_ble_eq_true rfl⟩ (fun v_52 u_53 H locs hv_54 hP₀ hD₀ hS₀ => ?_)
          obtain ⟨sv_55, sv_56, sv_57, sv_58⟩ := u_53
          obtain ⟨rfl, pf_59, pf_60, pf_61, pf_62, pf_63⟩ := hv_54
          have pf_59 : LSR vy_19 sv_56 sv_57 sv_58 (Mv 5) b vy_14 := pf_59
          obtain ⟨pn_64, pf_65, pf_66⟩ := id pf_59
          have ar_pf_59 := LSR.ar pf_59
          have ar_pf_66 := Cd.ar pf_66
          have pf_60 : (sv_58 (Mv 5).toNatClampNeg).toInt + (sv_56 : Int32).toInt = (vy_18 (Mv 5).toNatClampNeg).toInt + (vy_16 : Int32).toInt ∧ 0 ≤ (sv_56 : Int32).toInt ∧ (sv_56 : Int32).toInt ≤ (vy_16 : Int32).toInt := pf_60
          have pf_61 : Agr vy_17 sv_57 (400 * ((Mv 5) : Int32).toInt + (vy_18 (Mv 5).toNatClampNeg).toInt) := pf_61
          have pf_62 : LdE vy_19 sv_56 (1 : Int32) := pf_62
          have pf_63 : InK vy_19 vy_16 sv_56 := pf_63
          refine W.eq (g2 := F0 m 139 ls []) rfl ?_
          replace hP : va_P D classes [((Ma 1), .inl (tc 2, 400, .inl (Mf 1))), ((Ma 0), .inr (12, [.ref (Ma 1), .int (Mv 0), .int (Mv 1), .ref (Ma 2), .ref (Ma 3), .ref (Ma 4), .ref (Ma 5), .ref (Ma 6), .int vy_11, .int vy_12, .int vy_13, .int (Mv 5), .int vy_14, .int sv_55, .int (Mv 8), .ref (Ma 7), .int sv_56, .ref (Ma 8), .int (Mv 10), .ref (Ma 9), .ref (Ma 10), .int (Mv 11), .int (Mv 12), .int (Mv 13), .ref (Ma 11), .int (Mv 14), .ref (Ma 12), .ref (Ma 13), .ref (Ma 14), .ref (Ma 15), .ref (Ma 16), .long (Mj 0), .ref (Ma 17), .ref (Ma 18), .ref (Ma 19), .ref (Ma 20)])), ((Ma 2), .inl (tc 0, 2400, .inl sv_57)), ((Ma 3), .inl (tc 0, 7, .inl sv_58)), ((Ma 7), .inl (tc 0, 400, .inl vy_19))] H := hP₀
          replace hD : va_D A [((Ma 1), .inl (tc 2, 400, .inl (Mf 1))), ((Ma 0), .inr (12, [.ref (Ma 1), .int (Mv 0), .int (Mv 1), .ref (Ma 2), .ref (Ma 3), .ref (Ma 4), .ref (Ma 5), .ref (Ma 6), .int vy_11, .int vy_12, .int vy_13, .int (Mv 5), .int vy_14, .int sv_55, .int (Mv 8), .ref (Ma 7), .int sv_56, .ref (Ma 8), .int (Mv 10), .ref (Ma 9), .ref (Ma 10), .int (Mv 11), .int (Mv 12), .int (Mv 13), .ref (Ma 11), .int (Mv 14), .ref (Ma 12), .ref (Ma 13), .ref (Ma 14), .ref (Ma 15), .ref (Ma 16), .long (Mj 0), .ref (Ma 17), .ref (Ma 18), .ref (Ma 19), .ref (Ma 20)])), ((Ma 2), .inl (tc 0, 2400, .inl sv_57)), ((Ma 3), .inl (tc 0, 7, .inl sv_58)), ((Ma 7), .inl (tc 0, 400, .inl vy_19))] := hD₀
          replace hS := hS₀
          clear hP₀ hD₀ hS₀
          refine lv_iconst (v := 1) hx hb dX12_tested_139 (by decide) ?_
          have ha_67 : ((Mv 2) : Int32).toInt ≤ (vy_11 : Int32).toInt ∧ (vy_11 : Int32).toInt ≤ ((Mv 0) : Int32).toInt := by
            have z_1 := congrArg Int32.toInt c_32
            have z_2 := congrArg Int32.toInt c_47
            have y_0 : (0 : Int32).toInt = 0 := by decide
            refine ⟨?_, ?_⟩ <;> omega
          have ha_68 : ((Mv 6) : Int32).toInt ≤ (vy_14 : Int32).toInt ∧ (vy_14 : Int32).toInt ≤ 60 := by
            have z_1 := congrArg Int32.toInt c_32
            have z_2 := congrArg Int32.toInt c_47
            have y_0 : (0 : Int32).toInt = 0 := by decide
            refine ⟨?_, ?_⟩ <;> omega
          have hr_69 : (400 * ((Mv 5) : Int32).toInt + ((Mf 3) (Mv 5).toNatClampNeg).toInt) ≤ (400 * ((Mv 5) : Int32).toInt + ((Mf 3) (Mv 5).toNatClampNeg).toInt) := by
            have z_1 := congrArg Int32.toInt c_32
            have z_2 := congrArg Int32.toInt c_47
            have y_0 : (0 : Int32).toInt = 0 := by decide
            omega
          have hr_70 : (400 * ((Mv 5) : Int32).toInt + ((Mf 3) (Mv 5).toNatClampNeg).toInt) ≤ (400 * ((Mv 5) : Int32).toInt + (vy_18 (Mv 5).toNatClampNeg).toInt) := by
            have z_1 := congrArg Int32.toInt c_32
            have z_2 := congrArg Int32.toInt c_47
            have y_0 : (0 : Int32).toInt = 0 := by decide
            omega
          have hp_71 : (((1 : Int32).toInt = 0 ∧ ¬ (vy_12 : Int32).toInt = 0) ∨ ((1 : Int32).toInt = 1 ∧ ((Mf 3) (Mv 5).toNatClampNeg).toInt ≤ (sv_58 (Mv 5).toNatClampNeg).toInt ∧ (sv_58 (Mv 5).toNatClampNeg).toInt ≤ (vy_11 : Int32).toInt)) := by
            have z_1 := congrArg Int32.toInt c_32
            have z_2 := congrArg Int32.toInt c_47
            have y_0 : (0 : Int32).toInt = 0 := by decide
            have y_1 : (1 : Int32).toInt = 1 := by decide
            have yr : (1 : Int32).toInt = 1 := by decide
            omega
          have hm_72 : (1 : Int32).toInt = 1 → (Cd sv_57 sv_58 (Mv 5) b vy_14 1) := by
            intro h1r
            have hr_73 : (sv_56 : Int32).toInt ≤ (vy_16 : Int32).toInt := by
              have z_1 := congrArg Int32.toInt c_32
              have z_2 := congrArg Int32.toInt c_47
              have y_0 : (0 : Int32).toInt = 0 := by decide
              omega
            exact (LSR.fin pf_59 pf_62 (by decide) pf_48 hr_73)
          exact retI (v := 1) hx hb hr hlk (rfl) hP hD hS (vy_11, vy_12, vy_13, vy_14, sv_55, sv_56, sv_57, sv_58, vy_19) ⟨_, rfl, hp_71, ha_67, ha_68, (Agr.trans (k' := (400 * ((Mv 5) : Int32).toInt + ((Mf 3) (Mv 5).toNatClampNeg).toInt)) (Agr.mono pf_30 hr_69) pf_61 ⟨Int.le_refl _, hr_70⟩), hm_72⟩ [1, 0, 2, 3, 4] rfl rfl dX12_tested_140 (Nat.le_of_ble_eq_true rfl) (Nat.le_of_ble_eq_true rfl) rfl
        · skip
          have hz_75 : (r_42 : Int32).toInt = 1 := by
            have z_1 := congrArg Int32.toInt c_32
            have z_2 : ¬ (r_42 : Int32).toInt = (0 : Int32).toInt := fun z => c_47 (Int32.toInt_inj.mp z)
            have y_0 : (0 : Int32).toInt = 0 := by decide
            omega
          obtain pf_74 := hm_45 hz_75
          have pf_74 : Ins vy_19 vy_16 := pf_74
          have ar_pf_74 := Ins.ar pf_74
          refine lv_aload_n hx hb dX12_tested_119 rfl (lv_at hl 1 rfl) ?_
          refine cV (a := (Ma 0)) (As := []) (rest := []) (wr := [((Ma 2), .inl (tc 0, 2400, .inl vy_17)), ((Ma 3), .inl (tc 0, 7, .inl vy_18)), ((Ma 7), .inl (tc 0, 400, .inl vy_19))]) ⟨hx, hb, hml, hown, hts⟩ hK hX hA (cu_X12_see l D tc sk (Ma 0) (Ma 1) (Ma 2) (Ma 3) (Ma 4) (Ma 5) (Ma 6) (Ma 7) (Ma 8) (Ma 9) (Ma 10) (Ma 11) (Ma 12) (Ma 13) (Ma 14) (Ma 15) (Ma 16) (Ma 17) (Ma 18) (Ma 19) (Ma 20) (Mv 0) (Mv 1) vy_11 vy_12 vy_13 (Mv 5) vy_14 vy_15 (Mv 8) vy_16 (Mv 10) (Mv 11) (Mv 12) (Mv 13) (Mv 14) (Mf 1) (Mj 0) pf_24) k_1211 k_1208 k_1210 k_27 k_106 pl_X12_see ⟨Nat.le_of_ble_eq_true rfl, Nat.le_of_ble_eq_true rfl⟩ rfl rfl (va_recv hK hP (ci := 12) (q0 := 3) rfl rfl) hP hD hS [3, 0] [1, 2, 4] rfl rfl rfl rfl rfl (by decide) rfl hl.1 rfl (Nat.le_of_ble_eq_true rfl) dX12_tested_120 ⟨Nat.le_of_ble_eq_true rfl, Nat.le_of_ble_eq_true rfl⟩ (fun v_76 u_77 H locs hv_78 hP₀ hD₀ hS₀ => ?_)
          obtain ⟨sv_79, rfl⟩ : ∃ z, z = u_77 := ⟨_, rfl⟩
          obtain ⟨r_83, rfl, he_84, pf_80, pf_81, pf_82⟩ := hv_78
          have he_84 : (r_83.toInt = -1 ∨ (sv_79 : Int32).toInt < ((Mv 0) : Int32).toInt) := he_84
          have pf_80 : (vy_11 : Int32).toInt ≤ (sv_79 : Int32).toInt ∧ (sv_79 : Int32).toInt ≤ ((Mv 0) : Int32).toInt := pf_80
          have pf_81 : NSq (Mf 1) (Mv 0) sv_79 := pf_81
          have pf_82 : Stl (Mf 1) (Mv 0) vy_11 sv_79 := pf_82
          refine W.eq (g2 := F0 m 123 ls [.int r_83]) rfl ?_
          replace hP : va_P D classes [((Ma 2), .inl (tc 0, 2400, .inl vy_17)), ((Ma 3), .inl (tc 0, 7, .inl vy_18)), ((Ma 7), .inl (tc 0, 400, .inl vy_19)), ((Ma 0), .inr (12, [.ref (Ma 1), .int (Mv 0), .int (Mv 1), .ref (Ma 2), .ref (Ma 3), .ref (Ma 4), .ref (Ma 5), .ref (Ma 6), .int sv_79, .int vy_12, .int vy_13, .int (Mv 5), .int vy_14, .int vy_15, .int (Mv 8), .ref (Ma 7), .int vy_16, .ref (Ma 8), .int (Mv 10), .ref (Ma 9), .ref (Ma 10), .int (Mv 11), .int (Mv 12), .int (Mv 13), .ref (Ma 11), .int (Mv 14), .ref (Ma 12), .ref (Ma 13), .ref (Ma 14), .ref (Ma 15), .ref (Ma 16), .long (Mj 0), .ref (Ma 17), .ref (Ma 18), .ref (Ma 19), .ref (Ma 20)])), ((Ma 1), .inl (tc 2, 400, .inl (Mf 1)))] H := hP₀
          replace hD : va_D A [((Ma 2), .inl (tc 0, 2400, .inl vy_17)), ((Ma 3), .inl (tc 0, 7, .inl vy_18)), ((Ma 7), .inl (tc 0, 400, .inl vy_19)), ((Ma 0), .inr (12, [.ref (Ma 1), .int (Mv 0), .int (Mv 1), .ref (Ma 2), .ref (Ma 3), .ref (Ma 4), .ref (Ma 5), .ref (Ma 6), .int sv_79, .int vy_12, .int vy_13, .int (Mv 5), .int vy_14, .int vy_15, .int (Mv 8), .ref (Ma 7), .int vy_16, .ref (Ma 8), .int (Mv 10), .ref (Ma 9), .ref (Ma 10), .int (Mv 11), .int (Mv 12), .int (Mv 13), .ref (Ma 11), .int (Mv 14), .ref (Ma 12), .ref (Ma 13), .ref (Ma 14), .ref (Ma 15), .ref (Ma 16), .long (Mj 0), .ref (Ma 17), .ref (Ma 18), .ref (Ma 19), .ref (Ma 20)])), ((Ma 1), .inl (tc 2, 400, .inl (Mf 1)))] := hD₀
          replace hS := hS₀
          clear hP₀ hD₀ hS₀
          refine lv_pop hx hb dX12_tested_123 rfl ?_
          refine lv_aload_n hx hb dX12_tested_124 rfl (lv_at hl 1 rfl) ?_
          refine lv_iconst (v := 0) hx hb dX12_tested_125 (by decide) ?_
          refine lv_aload_n hx hb dX12_tested_126 rfl (lv_at hl 1 rfl) ?_
          refine gf_X12_87 hx hb hts hown hK hP 3 rfl rfl dX12_tested_127 ?_
          have ha_86 : 0 ≤ (0 : Int32).toInt ∧ (0 : Int32).toInt ≤ 4 := by
            have z_1 := congrArg Int32.toInt c_32
            have z_2 : ¬ (r_42 : Int32).toInt = (0 : Int32).toInt := fun z => c_47 (Int32.toInt_inj.mp z)
            have y_0 : (0 : Int32).toInt = 0 := by decide
            refine ⟨?_, ?_⟩ <;> omega
          have ha_87 : 0 ≤ sv_79.toInt ∧ sv_79.toInt ≤ 400 := by
            have z_1 := congrArg Int32.toInt c_32
            have z_2 : ¬ (r_42 : Int32).toInt = (0 : Int32).toInt := fun z => c_47 (Int32.toInt_inj.mp z)
            have y_0 : (0 : Int32).toInt = 0 := by decide
            refine ⟨?_, ?_⟩ <;> omega
          refine cV (a := (Ma 0)) (As := [.int 0, .int sv_79]) (rest := []) (wr := [((Ma 2), .inl (tc 0, 2400, .inl vy_17)), ((Ma 3), .inl (tc 0, 7, .inl vy_18)), ((Ma 7), .inl (tc 0, 400, .inl vy_19)), ((Ma 1), .inl (tc 2, 400, .inl (Mf 1)))]) ⟨hx, hb, hml, hown, hts⟩ hK hX hA (cu_X12_fails l D tc sk (Ma 0) (Ma 1) (Ma 2) (Ma 3) (Ma 4) (Ma 5) (Ma 6) (Ma 7) (Ma 8) (Ma 9) (Ma 10) (Ma 11) (Ma 12) (Ma 13) (Ma 14) (Ma 15) (Ma 16) (Ma 17) (Ma 18) (Ma 19) (Ma 20) (Mv 0) (Mv 1) sv_79 vy_12 vy_13 (Mv 5) vy_14 vy_15 (Mv 8) vy_16 (Mv 10) (Mv 11) (Mv 12) (Mv 13) (Mv 14) (Mj 0) 0 sv_79 ha_86 ha_87) k_1232 k_1229 k_1231 k_31 k_106 pl_X12_fails ⟨Nat.le_of_ble_eq_true rfl, Nat.le_of_ble_eq_true rfl⟩ rfl rfl (va_recv hK hP (ci := 12) (q0 := 3) rfl rfl) hP hD hS [3] [0, 1, 2, 4] rfl rfl rfl rfl rfl (by decide) rfl hl.1 rfl (Nat.le_of_ble_eq_true rfl) dX12_tested_130 ⟨Nat.le_of_ble_eq_true rfl, Nat.le_of_ble_eq_true rfl⟩ (fun v_88 u_89 H locs hv_90 hP₀ hD₀ hS₀ => ?_)
          obtain ⟨sv_91, rfl⟩ : ∃ z, z = u_89 := ⟨_, rfl⟩
          obtain ⟨r_93, rfl, he_94, pf_92⟩ := hv_90
          have he_94 : r_93.toInt = 0 := he_94
          have pf_92 : ¬ (sv_91 : Int32).toInt = 0 := pf_92
          refine W.eq (g2 := F0 m 133 ls [.int r_93]) rfl ?_
          replace hP : va_P D classes [((Ma 2), .inl (tc 0, 2400, .inl vy_17)), ((Ma 3), .inl (tc 0, 7, .inl vy_18)), ((Ma 7), .inl (tc 0, 400, .inl vy_19)), ((Ma 1), .inl (tc 2, 400, .inl (Mf 1))), ((Ma 0), .inr (12, [.ref (Ma 1), .int (Mv 0), .int (Mv 1), .ref (Ma 2), .ref (Ma 3), .ref (Ma 4), .ref (Ma 5), .ref (Ma 6), .int sv_79, .int sv_91, .int vy_13, .int (Mv 5), .int vy_14, .int vy_15, .int (Mv 8), .ref (Ma 7), .int vy_16, .ref (Ma 8), .int (Mv 10), .ref (Ma 9), .ref (Ma 10), .int (Mv 11), .int (Mv 12), .int (Mv 13), .ref (Ma 11), .int (Mv 14), .ref (Ma 12), .ref (Ma 13), .ref (Ma 14), .ref (Ma 15), .ref (Ma 16), .long (Mj 0), .ref (Ma 17), .ref (Ma 18), .ref (Ma 19), .ref (Ma 20)]))] H := hP₀
          replace hD : va_D A [((Ma 2), .inl (tc 0, 2400, .inl vy_17)), ((Ma 3), .inl (tc 0, 7, .inl vy_18)), ((Ma 7), .inl (tc 0, 400, .inl vy_19)), ((Ma 1), .inl (tc 2, 400, .inl (Mf 1))), ((Ma 0), .inr (12, [.ref (Ma 1), .int (Mv 0), .int (Mv 1), .ref (Ma 2), .ref (Ma 3), .ref (Ma 4), .ref (Ma 5), .ref (Ma 6), .int sv_79, .int sv_91, .int vy_13, .int (Mv 5), .int vy_14, .int vy_15, .int (Mv 8), .ref (Ma 7), .int vy_16, .ref (Ma 8), .int (Mv 10), .ref (Ma 9), .ref (Ma 10), .int (Mv 11), .int (Mv 12), .int (Mv 13), .ref (Ma 11), .int (Mv 14), .ref (Ma 12), .ref (Ma 13), .ref (Ma 14), .ref (Ma 15), .ref (Ma 16), .long (Mj 0), .ref (Ma 17), .ref (Ma 18), .ref (Ma 19), .ref (Ma 20)]))] := hD₀
          replace hS := hS₀
          clear hP₀ hD₀ hS₀
          have ha_96 : ((Mv 2) : Int32).toInt ≤ (sv_79 : Int32).toInt ∧ (sv_79 : Int32).toInt ≤ ((Mv 0) : Int32).toInt := by
            have z_1 := congrArg Int32.toInt c_32
            have z_2 : ¬ (r_42 : Int32).toInt = (0 : Int32).toInt := fun z => c_47 (Int32.toInt_inj.mp z)
            have y_0 : (0 : Int32).toInt = 0 := by decide
            refine ⟨?_, ?_⟩ <;> omega
          have ha_97 : ((Mv 6) : Int32).toInt ≤ (vy_14 : Int32).toInt ∧ (vy_14 : Int32).toInt ≤ 60 := by
            have z_1 := congrArg Int32.toInt c_32
            have z_2 : ¬ (r_42 : Int32).toInt = (0 : Int32).toInt := fun z => c_47 (Int32.toInt_inj.mp z)
            have y_0 : (0 : Int32).toInt = 0 := by decide
            refine ⟨?_, ?_⟩ <;> omega
          have hb_98 : (r_93 : Int32).toInt = 0 ∨ (r_93 : Int32).toInt = 1 := by
            have z_1 := congrArg Int32.toInt c_32
            have z_2 : ¬ (r_42 : Int32).toInt = (0 : Int32).toInt := fun z => c_47 (Int32.toInt_inj.mp z)
            have y_0 : (0 : Int32).toInt = 0 := by decide
            omega
          have hp_99 : (((r_93 : Int32).toInt = 0 ∧ ¬ (sv_91 : Int32).toInt = 0) ∨ ((r_93 : Int32).toInt = 1 ∧ ((Mf 3) (Mv 5).toNatClampNeg).toInt ≤ (vy_18 (Mv 5).toNatClampNeg).toInt ∧ (vy_18 (Mv 5).toNatClampNeg).toInt ≤ (sv_79 : Int32).toInt)) := by
            have z_1 := congrArg Int32.toInt c_32
            have z_2 : ¬ (r_42 : Int32).toInt = (0 : Int32).toInt := fun z => c_47 (Int32.toInt_inj.mp z)
            have y_0 : (0 : Int32).toInt = 0 := by decide
            omega
          have hm_100 : (r_93 : Int32).toInt = 1 → (Cd vy_17 vy_18 (Mv 5) b vy_14 1) := by
            intro h1r
            exfalso
            have z_1 := congrArg Int32.toInt c_32
            have z_2 : ¬ (r_42 : Int32).toInt = (0 : Int32).toInt := fun z => c_47 (Int32.toInt_inj.mp z)
            have y_0 : (0 : Int32).toInt = 0 := by decide
            omega
          exact retI (v := r_93) hx hb hr hlk (nar01 hb_98) hP hD hS (sv_79, sv_91, vy_13, vy_14, vy_15, vy_16, vy_17, vy_18, vy_19) ⟨_, rfl, hp_99, ha_96, ha_97, pf_30, hm_100⟩ [4, 3, 0, 1, 2] rfl rfl dX12_tested_133 (Nat.le_of_ble_eq_true rfl) (Nat.le_of_ble_eq_true rfl) rfl
      · skip
        have hr_102 : (vy_20 : Int32).toInt = 1 := by
          have z_1 : ¬ (vy_20 : Int32).toInt = (0 : Int32).toInt := fun z => c_32 (Int32.toInt_inj.mp z)
          have y_0 : (0 : Int32).toInt = 0 := by decide
          omega
        have pf_101 : LBR vy_19 vy_16 vy_17 vy_18 (Mv 5) b vy_14 := pf_28.1 hr_102
        obtain ⟨pn_103, pf_104, pf_105⟩ := id pf_101
        have ar_pf_101 := LBR.ar pf_101
        have ar_pf_105 := Cd.ar pf_105
        refine lv_aload_n hx hb dX12_tested_16 rfl (lv_at hl 1 rfl) ?_
        have ha_106 : (vy_18 (Mv 5).toNatClampNeg).toInt + (vy_16 : Int32).toInt ≤ (vy_11 : Int32).toInt := by
          have z_1 : ¬ (vy_20 : Int32).toInt = (0 : Int32).toInt := fun z => c_32 (Int32.toInt_inj.mp z)
          have y_0 : (0 : Int32).toInt = 0 := by decide
          omega
        have ha_107 : 0 ≤ (vy_14 : Int32).toInt ∧ (vy_14 : Int32).toInt ≤ 60 := by
          have z_1 : ¬ (vy_20 : Int32).toInt = (0 : Int32).toInt := fun z => c_32 (Int32.toInt_inj.mp z)
          have y_0 : (0 : Int32).toInt = 0 := by decide
          refine ⟨?_, ?_⟩ <;> omega
        refine cV (a := (Ma 0)) (As := []) (rest := []) (wr := []) ⟨hx, hb, hml, hown, hts⟩ hK hX hA (cu_X12_fact l D tc sk (Ma 0) (Ma 1) (Ma 2) (Ma 3) (Ma 4) (Ma 5) (Ma 6) (Ma 7) (Ma 8) (Ma 9) (Ma 10) (Ma 11) (Ma 12) (Ma 13) (Ma 14) (Ma 15) (Ma 16) (Ma 17) (Ma 18) (Ma 19) (Ma 20) (Mv 0) (Mv 1) vy_11 vy_12 vy_13 (Mv 5) vy_14 vy_15 (Mv 8) vy_16 (Mv 10) (Mv 11) (Mv 12) (Mv 13) (Mv 14) (Mf 1) vy_17 vy_18 vy_19 (Mj 0) b pf_24 pf_101 ha_106 ha_107) k_1325 k_1322 k_1324 k_50 k_106 pl_X12_fact ⟨Nat.le_of_ble_eq_true rfl, Nat.le_of_ble_eq_true rfl⟩ rfl rfl (va_recv hK hP (ci := 12) (q0 := 0) rfl rfl) hP hD hS [0, 1, 2, 3, 4] [] rfl rfl rfl rfl rfl (by decide) rfl hl.1 rfl (Nat.le_of_ble_eq_true rfl) dX12_tested_17 ⟨Nat.le_of_ble_eq_true rfl, Nat.le_of_ble_eq_true rfl⟩ (fun v_108 u_109 H locs hv_110 hP₀ hD₀ hS₀ => ?_)
        obtain ⟨sv_111, sv_112, sv_113, sv_114, sv_115, sv_116, sv_117, sv_118, sv_119⟩ := u_109
        obtain ⟨r_123, rfl, he_124, pf_120, pf_121, pf_122, hm_126⟩ := hv_110
        have he_124 : ((r_123.toInt = 0 ∧ ¬ (sv_112 : Int32).toInt = 0) ∨ (r_123.toInt = 1 ∧ (sv_118 (Mv 5).toNatClampNeg).toInt + (sv_116 : Int32).toInt + (vy_11 : Int32).toInt ≤ (vy_18 (Mv 5).toNatClampNeg).toInt + (vy_16 : Int32).toInt + (sv_111 : Int32).toInt ∧ (vy_11 : Int32).toInt + 1 ≤ (sv_111 : Int32).toInt ∧ (vy_18 (Mv 5).toNatClampNeg).toInt ≤ (sv_118 (Mv 5).toNatClampNeg).toInt)) := he_124
        have pf_120 : (vy_11 : Int32).toInt ≤ (sv_111 : Int32).toInt ∧ (sv_111 : Int32).toInt ≤ ((Mv 0) : Int32).toInt := pf_120
        have pf_121 : (vy_14 : Int32).toInt ≤ (sv_114 : Int32).toInt ∧ (sv_114 : Int32).toInt ≤ 60 := pf_121
        have pf_122 : Agr vy_17 sv_117 (400 * ((Mv 5) : Int32).toInt + (vy_18 (Mv 5).toNatClampNeg).toInt) := pf_122
        refine W.eq (g2 := F0 m 20 ls [.int r_123]) rfl ?_
        replace hP : va_P D classes [((Ma 0), .inr (12, [.ref (Ma 1), .int (Mv 0), .int (Mv 1), .ref (Ma 2), .ref (Ma 3), .ref (Ma 4), .ref (Ma 5), .ref (Ma 6), .int sv_111, .int sv_112, .int sv_113, .int (Mv 5), .int sv_114, .int sv_115, .int (Mv 8), .ref (Ma 7), .int sv_116, .ref (Ma 8), .int (Mv 10), .ref (Ma 9), .ref (Ma 10), .int (Mv 11), .int (Mv 12), .int (Mv 13), .ref (Ma 11), .int (Mv 14), .ref (Ma 12), .ref (Ma 13), .ref (Ma 14), .ref (Ma 15), .ref (Ma 16), .long (Mj 0), .ref (Ma 17), .ref (Ma 18), .ref (Ma 19), .ref (Ma 20)])), ((Ma 1), .inl (tc 2, 400, .inl (Mf 1))), ((Ma 2), .inl (tc 0, 2400, .inl sv_117)), ((Ma 3), .inl (tc 0, 7, .inl sv_118)), ((Ma 7), .inl (tc 0, 400, .inl sv_119))] H := hP₀
        replace hD : va_D A [((Ma 0), .inr (12, [.ref (Ma 1), .int (Mv 0), .int (Mv 1), .ref (Ma 2), .ref (Ma 3), .ref (Ma 4), .ref (Ma 5), .ref (Ma 6), .int sv_111, .int sv_112, .int sv_113, .int (Mv 5), .int sv_114, .int sv_115, .int (Mv 8), .ref (Ma 7), .int sv_116, .ref (Ma 8), .int (Mv 10), .ref (Ma 9), .ref (Ma 10), .int (Mv 11), .int (Mv 12), .int (Mv 13), .ref (Ma 11), .int (Mv 14), .ref (Ma 12), .ref (Ma 13), .ref (Ma 14), .ref (Ma 15), .ref (Ma 16), .long (Mj 0), .ref (Ma 17), .ref (Ma 18), .ref (Ma 19), .ref (Ma 20)])), ((Ma 1), .inl (tc 2, 400, .inl (Mf 1))), ((Ma 2), .inl (tc 0, 2400, .inl sv_117)), ((Ma 3), .inl (tc 0, 7, .inl sv_118)), ((Ma 7), .inl (tc 0, 400, .inl sv_119))] := hD₀
        replace hS := hS₀
        clear hP₀ hD₀ hS₀
        refine lv_if_ne (tgt := 25) hx hb dX12_tested_20 (by decide) (fun c_127 => ?_) (fun c_127 => ?_)
        · skip
          have hz_129 : (r_123 : Int32).toInt = 1 := by
            have z_1 : ¬ (vy_20 : Int32).toInt = (0 : Int32).toInt := fun z => c_32 (Int32.toInt_inj.mp z)
            have z_2 : ¬ (r_123 : Int32).toInt = (0 : Int32).toInt := fun z => c_127 (Int32.toInt_inj.mp z)
            have y_0 : (0 : Int32).toInt = 0 := by decide
            omega
          obtain pf_128 := hm_126 hz_129
          have pf_128 : LSR sv_119 sv_116 sv_117 sv_118 (Mv 5) b sv_114 := pf_128
          obtain ⟨pn_130, pf_131, pf_132⟩ := id pf_128
          have ar_pf_128 := LSR.ar pf_128
          have ar_pf_132 := Cd.ar pf_132
          refine lv_aload_n hx hb dX12_tested_25 rfl (lv_at hl 1 rfl) ?_
          have ha_133 : 0 ≤ (sv_111 : Int32).toInt ∧ (sv_111 : Int32).toInt ≤ ((Mv 0) : Int32).toInt ∧ ((Mv 0) : Int32).toInt ≤ 400 := by
            have z_1 : ¬ (vy_20 : Int32).toInt = (0 : Int32).toInt := fun z => c_32 (Int32.toInt_inj.mp z)
            have z_2 : ¬ (r_123 : Int32).toInt = (0 : Int32).toInt := fun z => c_127 (Int32.toInt_inj.mp z)
            have y_0 : (0 : Int32).toInt = 0 := by decide
            refine ⟨?_, ?_, ?_⟩ <;> omega
          have ha_134 : (sv_118 (Mv 5).toNatClampNeg).toInt + (sv_116 : Int32).toInt ≤ (sv_111 : Int32).toInt := by
            have z_1 : ¬ (vy_20 : Int32).toInt = (0 : Int32).toInt := fun z => c_32 (Int32.toInt_inj.mp z)
            have z_2 : ¬ (r_123 : Int32).toInt = (0 : Int32).toInt := fun z => c_127 (Int32.toInt_inj.mp z)
            have y_0 : (0 : Int32).toInt = 0 := by decide
            omega
          refine cV (a := (Ma 0)) (As := []) (rest := []) (wr := []) ⟨hx, hb, hml, hown, hts⟩ hK hX hA (cu_X12_closes l D tc sk (Ma 0) (Ma 1) (Ma 2) (Ma 3) (Ma 4) (Ma 5) (Ma 6) (Ma 7) (Ma 8) (Ma 9) (Ma 10) (Ma 11) (Ma 12) (Ma 13) (Ma 14) (Ma 15) (Ma 16) (Ma 17) (Ma 18) (Ma 19) (Ma 20) (Mv 0) (Mv 1) sv_111 sv_112 sv_113 (Mv 5) sv_114 sv_115 (Mv 8) sv_116 (Mv 10) (Mv 11) (Mv 12) (Mv 13) (Mv 14) (Mf 1) sv_117 sv_118 sv_119 (Mj 0) b ha_133 pf_128 ha_134) k_1338 k_1335 k_1337 k_53 k_106 pl_X12_closes ⟨Nat.le_of_ble_eq_true rfl, Nat.le_of_ble_eq_true rfl⟩ rfl rfl (va_recv hK hP (ci := 12) (q0 := 0) rfl rfl) hP hD hS [0, 1, 2, 3, 4] [] rfl rfl rfl rfl rfl (by decide) rfl hl.1 rfl (Nat.le_of_ble_eq_true rfl) dX12_tested_26 ⟨Nat.le_of_ble_eq_true rfl, Nat.le_of_ble_eq_true rfl⟩ (fun v_135 u_136 H locs hv_137 hP₀ hD₀ hS₀ => ?_)
          obtain ⟨sv_138, sv_139, sv_140, sv_141, sv_142⟩ := u_136
          obtain ⟨rfl, pf_143, pf_144, pf_145, pf_146⟩ := hv_137
          have pf_143 : (sv_111 : Int32).toInt ≤ (sv_138 : Int32).toInt ∧ (sv_138 : Int32).toInt ≤ ((Mv 0) : Int32).toInt := pf_143
          have pf_144 : Agr sv_117 sv_141 (400 * ((Mv 5) : Int32).toInt + (sv_118 (Mv 5).toNatClampNeg).toInt) := pf_144
          have pf_145 : LSR sv_119 sv_140 sv_141 sv_142 (Mv 5) b sv_114 := pf_145
          obtain ⟨pn_147, pf_148, pf_149⟩ := id pf_145
          have ar_pf_145 := LSR.ar pf_145
          have ar_pf_149 := Cd.ar pf_149
          have pf_146 : (sv_142 (Mv 5).toNatClampNeg).toInt + (sv_140 : Int32).toInt + (sv_111 : Int32).toInt ≤ (sv_118 (Mv 5).toNatClampNeg).toInt + (sv_116 : Int32).toInt + (sv_138 : Int32).toInt ∧ (sv_118 (Mv 5).toNatClampNeg).toInt ≤ (sv_142 (Mv 5).toNatClampNeg).toInt := pf_146
          refine W.eq (g2 := F0 m 29 ls []) rfl ?_
          replace hP : va_P D classes [((Ma 0), .inr (12, [.ref (Ma 1), .int (Mv 0), .int (Mv 1), .ref (Ma 2), .ref (Ma 3), .ref (Ma 4), .ref (Ma 5), .ref (Ma 6), .int sv_138, .int sv_112, .int sv_113, .int (Mv 5), .int sv_114, .int sv_139, .int (Mv 8), .ref (Ma 7), .int sv_140, .ref (Ma 8), .int (Mv 10), .ref (Ma 9), .ref (Ma 10), .int (Mv 11), .int (Mv 12), .int (Mv 13), .ref (Ma 11), .int (Mv 14), .ref (Ma 12), .ref (Ma 13), .ref (Ma 14), .ref (Ma 15), .ref (Ma 16), .long (Mj 0), .ref (Ma 17), .ref (Ma 18), .ref (Ma 19), .ref (Ma 20)])), ((Ma 1), .inl (tc 2, 400, .inl (Mf 1))), ((Ma 2), .inl (tc 0, 2400, .inl sv_141)), ((Ma 3), .inl (tc 0, 7, .inl sv_142)), ((Ma 7), .inl (tc 0, 400, .inl sv_119))] H := hP₀
          replace hD : va_D A [((Ma 0), .inr (12, [.ref (Ma 1), .int (Mv 0), .int (Mv 1), .ref (Ma 2), .ref (Ma 3), .ref (Ma 4), .ref (Ma 5), .ref (Ma 6), .int sv_138, .int sv_112, .int sv_113, .int (Mv 5), .int sv_114, .int sv_139, .int (Mv 8), .ref (Ma 7), .int sv_140, .ref (Ma 8), .int (Mv 10), .ref (Ma 9), .ref (Ma 10), .int (Mv 11), .int (Mv 12), .int (Mv 13), .ref (Ma 11), .int (Mv 14), .ref (Ma 12), .ref (Ma 13), .ref (Ma 14), .ref (Ma 15), .ref (Ma 16), .long (Mj 0), .ref (Ma 17), .ref (Ma 18), .ref (Ma 19), .ref (Ma 20)])), ((Ma 1), .inl (tc 2, 400, .inl (Mf 1))), ((Ma 2), .inl (tc 0, 2400, .inl sv_141)), ((Ma 3), .inl (tc 0, 7, .inl sv_142)), ((Ma 7), .inl (tc 0, 400, .inl sv_119))] := hD₀
          replace hS := hS₀
          clear hP₀ hD₀ hS₀
          refine lv_aload_n hx hb dX12_tested_29 rfl (lv_at hl 1 rfl) ?_
          refine lv_ldc2 hx hb hown (hts _ k_1350) dX12_tested_30 ?_
          have ha_150 : 0 ≤ (sv_138 : Int32).toInt ∧ (sv_138 : Int32).toInt ≤ ((Mv 0) : Int32).toInt ∧ ((Mv 0) : Int32).toInt ≤ 400 := by
            have z_1 : ¬ (vy_20 : Int32).toInt = (0 : Int32).toInt := fun z => c_32 (Int32.toInt_inj.mp z)
            have z_2 : ¬ (r_123 : Int32).toInt = (0 : Int32).toInt := fun z => c_127 (Int32.toInt_inj.mp z)
            have y_0 : (0 : Int32).toInt = 0 := by decide
            refine ⟨?_, ?_, ?_⟩ <;> omega
          refine cV (a := (Ma 0)) (As := [.long 6385252]) (rest := []) (wr := [((Ma 2), .inl (tc 0, 2400, .inl sv_141)), ((Ma 3), .inl (tc 0, 7, .inl sv_142)), ((Ma 7), .inl (tc 0, 400, .inl sv_119))]) ⟨hx, hb, hml, hown, hts⟩ hK hX hA (cu_X12_isWord l D tc sk (Ma 0) (Ma 1) (Ma 2) (Ma 3) (Ma 4) (Ma 5) (Ma 6) (Ma 7) (Ma 8) (Ma 9) (Ma 10) (Ma 11) (Ma 12) (Ma 13) (Ma 14) (Ma 15) (Ma 16) (Ma 17) (Ma 18) (Ma 19) (Ma 20) (Mv 0) (Mv 1) sv_138 sv_112 sv_113 (Mv 5) sv_114 sv_139 (Mv 8) sv_140 (Mv 10) (Mv 11) (Mv 12) (Mv 13) (Mv 14) (Mf 1) (Mj 0) 6385252 ha_150) k_1220 k_1217 k_1219 k_29 k_106 pl_X12_isWord ⟨Nat.le_of_ble_eq_true rfl, Nat.le_of_ble_eq_true rfl⟩ rfl rfl (va_recv hK hP (ci := 12) (q0 := 0) rfl rfl) hP hD hS [0, 1] [2, 3, 4] rfl rfl rfl rfl rfl (by decide) rfl hl.1 rfl (Nat.le_of_ble_eq_true rfl) dX12_tested_33 ⟨Nat.le_of_ble_eq_true rfl, Nat.le_of_ble_eq_true rfl⟩ (fun v_151 u_152 H locs hv_153 hP₀ hD₀ hS₀ => ?_)
          obtain ⟨sv_154, rfl⟩ : ∃ z, z = u_152 := ⟨_, rfl⟩
          obtain ⟨r_158, rfl, he_159, pf_155, pf_156, pf_157, hm_161⟩ := hv_153
          have he_159 : (r_158.toInt = 0 ∨ r_158.toInt = 1) := he_159
          have pf_155 : (sv_138 : Int32).toInt ≤ (sv_154 : Int32).toInt ∧ (sv_154 : Int32).toInt ≤ ((Mv 0) : Int32).toInt := pf_155
          have pf_156 : NSq (Mf 1) (Mv 0) sv_154 := pf_156
          have pf_157 : Stl (Mf 1) (Mv 0) sv_138 sv_154 := pf_157
          refine W.eq (g2 := F0 m 36 ls [.int r_158]) rfl ?_
          replace hP : va_P D classes [((Ma 2), .inl (tc 0, 2400, .inl sv_141)), ((Ma 3), .inl (tc 0, 7, .inl sv_142)), ((Ma 7), .inl (tc 0, 400, .inl sv_119)), ((Ma 0), .inr (12, [.ref (Ma 1), .int (Mv 0), .int (Mv 1), .ref (Ma 2), .ref (Ma 3), .ref (Ma 4), .ref (Ma 5), .ref (Ma 6), .int sv_154, .int sv_112, .int sv_113, .int (Mv 5), .int sv_114, .int sv_139, .int (Mv 8), .ref (Ma 7), .int sv_140, .ref (Ma 8), .int (Mv 10), .ref (Ma 9), .ref (Ma 10), .int (Mv 11), .int (Mv 12), .int (Mv 13), .ref (Ma 11), .int (Mv 14), .ref (Ma 12), .ref (Ma 13), .ref (Ma 14), .ref (Ma 15), .ref (Ma 16), .long (Mj 0), .ref (Ma 17), .ref (Ma 18), .ref (Ma 19), .ref (Ma 20)])), ((Ma 1), .inl (tc 2, 400, .inl (Mf 1)))] H := hP₀
          replace hD : va_D A [((Ma 2), .inl (tc 0, 2400, .inl sv_141)), ((Ma 3), .inl (tc 0, 7, .inl sv_142)), ((Ma 7), .inl (tc 0, 400, .inl sv_119)), ((Ma 0), .inr (12, [.ref (Ma 1), .int (Mv 0), .int (Mv 1), .ref (Ma 2), .ref (Ma 3), .ref (Ma 4), .ref (Ma 5), .ref (Ma 6), .int sv_154, .int sv_112, .int sv_113, .int (Mv 5), .int sv_114, .int sv_139, .int (Mv 8), .ref (Ma 7), .int sv_140, .ref (Ma 8), .int (Mv 10), .ref (Ma 9), .ref (Ma 10), .int (Mv 11), .int (Mv 12), .int (Mv 13), .ref (Ma 11), .int (Mv 14), .ref (Ma 12), .ref (Ma 13), .ref (Ma 14), .ref (Ma 15), .ref (Ma 16), .long (Mj 0), .ref (Ma 17), .ref (Ma 18), .ref (Ma 19), .ref (Ma 20)])), ((Ma 1), .inl (tc 2, 400, .inl (Mf 1)))] := hD₀
          replace hS := hS₀
          clear hP₀ hD₀ hS₀
          refine lv_if_ne (tgt := 49) hx hb dX12_tested_36 (by decide) (fun c_162 => ?_) (fun c_162 => ?_)
          · skip
            have hz_164 : (r_158 : Int32).toInt = 1 := by
              have z_1 : ¬ (vy_20 : Int32).toInt = (0 : Int32).toInt := fun z => c_32 (Int32.toInt_inj.mp z)
              have z_2 : ¬ (r_123 : Int32).toInt = (0 : Int32).toInt := fun z => c_127 (Int32.toInt_inj.mp z)
              have z_3 : ¬ (r_158 : Int32).toInt = (0 : Int32).toInt := fun z => c_162 (Int32.toInt_inj.mp z)
              have y_0 : (0 : Int32).toInt = 0 := by decide
              omega
            obtain pf_163 := hm_161 hz_164
            have pf_163 : Ltr (Mf 1) (Mv 0) sv_154 := pf_163
            have ar_pf_163 := pf_163.1
            refine lv_iconst (v := 1) hx hb dX12_tested_49 (by decide) ?_
            refine lv_goto (tgt := 54) hx hb dX12_tested_50 (by decide) ?_
            refine lv_istore_n (lv' := [(1, .int 1), (0, .ref (Ma 0))]) hx hb dX12_tested_54 rfl hl (by decide) rfl (fun ls hl₀ => ?_)
            replace hl := hl₀
            clear hl₀
            refine lv_iload_n hx hb dX12_tested_55 rfl (lv_at hl 0 rfl) ?_
            refine lv_if_eq (tgt := 12) hx hb dX12_tested_56 (by decide) (fun c_165 => absurd c_165 (by decide)) (fun c_165 => ?_)
            refine lv_aload_n hx hb dX12_tested_59 rfl (lv_at hl 1 rfl) ?_
            refine lv_ldc2 hx hb hown (hts _ k_1350) dX12_tested_60 ?_
            have ha_166 : 0 ≤ (sv_154 : Int32).toInt ∧ (sv_154 : Int32).toInt ≤ ((Mv 0) : Int32).toInt ∧ ((Mv 0) : Int32).toInt ≤ 400 := by
              have z_1 : ¬ (vy_20 : Int32).toInt = (0 : Int32).toInt := fun z => c_32 (Int32.toInt_inj.mp z)
              have z_2 : ¬ (r_123 : Int32).toInt = (0 : Int32).toInt := fun z => c_127 (Int32.toInt_inj.mp z)
              have z_3 : ¬ (r_158 : Int32).toInt = (0 : Int32).toInt := fun z => c_162 (Int32.toInt_inj.mp z)
              have y_0 : (0 : Int32).toInt = 0 := by decide
              refine ⟨?_, ?_, ?_⟩ <;> omega
            refine cV (a := (Ma 0)) (As := [.long 6385252]) (rest := []) (wr := [((Ma 2), .inl (tc 0, 2400, .inl sv_141)), ((Ma 3), .inl (tc 0, 7, .inl sv_142)), ((Ma 7), .inl (tc 0, 400, .inl sv_119))]) ⟨hx, hb, hml, hown, hts⟩ hK hX hA (cu_X12_isWord l D tc sk (Ma 0) (Ma 1) (Ma 2) (Ma 3) (Ma 4) (Ma 5) (Ma 6) (Ma 7) (Ma 8) (Ma 9) (Ma 10) (Ma 11) (Ma 12) (Ma 13) (Ma 14) (Ma 15) (Ma 16) (Ma 17) (Ma 18) (Ma 19) (Ma 20) (Mv 0) (Mv 1) sv_154 sv_112 sv_113 (Mv 5) sv_114 sv_139 (Mv 8) sv_140 (Mv 10) (Mv 11) (Mv 12) (Mv 13) (Mv 14) (Mf 1) (Mj 0) 6385252 ha_166) k_1220 k_1217 k_1219 k_29 k_106 pl_X12_isWord ⟨Nat.le_of_ble_eq_true rfl, Nat.le_of_ble_eq_true rfl⟩ rfl rfl (va_recv hK hP (ci := 12) (q0 := 3) rfl rfl) hP hD hS [3, 4] [0, 1, 2] rfl rfl rfl rfl rfl (by decide) rfl hl.1 rfl (Nat.le_of_ble_eq_true rfl) dX12_tested_63 ⟨Nat.le_of_ble_eq_true rfl, Nat.le_of_ble_eq_true rfl⟩ (fun v_167 u_168 H locs hv_169 hP₀ hD₀ hS₀ => ?_)
            obtain ⟨sv_170, rfl⟩ : ∃ z, z = u_168 := ⟨_, rfl⟩
            obtain ⟨r_174, rfl, he_175, pf_171, pf_172, pf_173, hm_177⟩ := hv_169
            have he_175 : (r_174.toInt = 0 ∨ r_174.toInt = 1) := he_175
            have pf_171 : (sv_154 : Int32).toInt ≤ (sv_170 : Int32).toInt ∧ (sv_170 : Int32).toInt ≤ ((Mv 0) : Int32).toInt := pf_171
            have pf_172 : NSq (Mf 1) (Mv 0) sv_170 := pf_172
            have pf_173 : Stl (Mf 1) (Mv 0) sv_154 sv_170 := pf_173
            have pf_178 := Stl.ltr pf_173 pf_163
            have ar_pf_178 := pf_178.2
            have pf_179 : Ltr (Mf 1) (Mv 0) sv_170 := pf_178.1
            have ar_pf_173 := Stl.or pf_173 pf_156
            refine W.eq (g2 := F0 m 66 ls [.int r_174]) rfl ?_
            replace hP : va_P D classes [((Ma 2), .inl (tc 0, 2400, .inl sv_141)), ((Ma 3), .inl (tc 0, 7, .inl sv_142)), ((Ma 7), .inl (tc 0, 400, .inl sv_119)), ((Ma 0), .inr (12, [.ref (Ma 1), .int (Mv 0), .int (Mv 1), .ref (Ma 2), .ref (Ma 3), .ref (Ma 4), .ref (Ma 5), .ref (Ma 6), .int sv_170, .int sv_112, .int sv_113, .int (Mv 5), .int sv_114, .int sv_139, .int (Mv 8), .ref (Ma 7), .int sv_140, .ref (Ma 8), .int (Mv 10), .ref (Ma 9), .ref (Ma 10), .int (Mv 11), .int (Mv 12), .int (Mv 13), .ref (Ma 11), .int (Mv 14), .ref (Ma 12), .ref (Ma 13), .ref (Ma 14), .ref (Ma 15), .ref (Ma 16), .long (Mj 0), .ref (Ma 17), .ref (Ma 18), .ref (Ma 19), .ref (Ma 20)])), ((Ma 1), .inl (tc 2, 400, .inl (Mf 1)))] H := hP₀
            replace hD : va_D A [((Ma 2), .inl (tc 0, 2400, .inl sv_141)), ((Ma 3), .inl (tc 0, 7, .inl sv_142)), ((Ma 7), .inl (tc 0, 400, .inl sv_119)), ((Ma 0), .inr (12, [.ref (Ma 1), .int (Mv 0), .int (Mv 1), .ref (Ma 2), .ref (Ma 3), .ref (Ma 4), .ref (Ma 5), .ref (Ma 6), .int sv_170, .int sv_112, .int sv_113, .int (Mv 5), .int sv_114, .int sv_139, .int (Mv 8), .ref (Ma 7), .int sv_140, .ref (Ma 8), .int (Mv 10), .ref (Ma 9), .ref (Ma 10), .int (Mv 11), .int (Mv 12), .int (Mv 13), .ref (Ma 11), .int (Mv 14), .ref (Ma 12), .ref (Ma 13), .ref (Ma 14), .ref (Ma 15), .ref (Ma 16), .long (Mj 0), .ref (Ma 17), .ref (Ma 18), .ref (Ma 19), .ref (Ma 20)])), ((Ma 1), .inl (tc 2, 400, .inl (Mf 1)))] := hD₀
            replace hS := hS₀
            clear hP₀ hD₀ hS₀
            refine lv_if_eq (tgt := 74) hx hb dX12_tested_66 (by decide) (fun c_180 => ?_) (fun c_180 => ?_)
            · skip
              refine lv_bipush (v := 13) hx hb dX12_tested_74 (by decide) ?_
              refine lv_istore_n (lv' := [(2, .int 13), (1, .int 1), (0, .ref (Ma 0))]) hx hb dX12_tested_76 rfl hl (by decide) rfl (fun ls hl₀ => ?_)
              replace hl := hl₀
              clear hl₀
              refine lv_aload_n hx hb dX12_tested_77 rfl (lv_at hl 2 rfl) ?_
              have ha_181 : 0 ≤ (sv_170 : Int32).toInt ∧ (sv_170 : Int32).toInt ≤ ((Mv 0) : Int32).toInt ∧ ((Mv 0) : Int32).toInt ≤ 400 := by
                have z_1 : ¬ (vy_20 : Int32).toInt = (0 : Int32).toInt := fun z => c_32 (Int32.toInt_inj.mp z)
                have z_2 : ¬ (r_123 : Int32).toInt = (0 : Int32).toInt := fun z => c_127 (Int32.toInt_inj.mp z)
                have z_3 : ¬ (r_158 : Int32).toInt = (0 : Int32).toInt := fun z => c_162 (Int32.toInt_inj.mp z)
                have z_4 := congrArg Int32.toInt c_180
                have y_0 : (0 : Int32).toInt = 0 := by decide
                refine ⟨?_, ?_, ?_⟩ <;> omega
              refine cV (a := (Ma 0)) (As := []) (rest := []) (wr := [((Ma 2), .inl (tc 0, 2400, .inl sv_141)), ((Ma 3), .inl (tc 0, 7, .inl sv_142)), ((Ma 7), .inl (tc 0, 400, .inl sv_119))]) ⟨hx, hb, hml, hown, hts⟩ hK hX hA (cu_X12_passWord l D tc sk (Ma 0) (Ma 1) (Ma 2) (Ma 3) (Ma 4) (Ma 5) (Ma 6) (Ma 7) (Ma 8) (Ma 9) (Ma 10) (Ma 11) (Ma 12) (Ma 13) (Ma 14) (Ma 15) (Ma 16) (Ma 17) (Ma 18) (Ma 19) (Ma 20) (Mv 0) (Mv 1) sv_170 sv_112 sv_113 (Mv 5) sv_114 sv_139 (Mv 8) sv_140 (Mv 10) (Mv 11) (Mv 12) (Mv 13) (Mv 14) (Mf 1) (Mj 0) ha_181) k_1244 k_1241 k_1243 k_34 k_106 pl_X12_passWord ⟨Nat.le_of_ble_eq_true rfl, Nat.le_of_ble_eq_true rfl⟩ rfl rfl (va_recv hK hP (ci := 12) (q0 := 3) rfl rfl) hP hD hS [3, 4] [0, 1, 2] rfl rfl rfl rfl rfl (by decide) rfl hl.1 rfl (Nat.le_of_ble_eq_true rfl) dX12_tested_78 ⟨Nat.le_of_ble_eq_true rfl, Nat.le_of_ble_eq_true rfl⟩ (fun v_182 u_183 H locs hv_184 hP₀ hD₀ hS₀ => ?_)
              obtain ⟨sv_185, rfl⟩ : ∃ z, z = u_183 := ⟨_, rfl⟩
              obtain ⟨rfl, pf_186, pf_187⟩ := hv_184
              have pf_186 : (sv_170 : Int32).toInt ≤ (sv_185 : Int32).toInt ∧ (sv_185 : Int32).toInt ≤ ((Mv 0) : Int32).toInt := pf_186
              have pf_187 : Pw (Mf 1) (Mv 0) sv_170 sv_185 := pf_187
              have ar_pf_187 := pf_187 pf_179
              refine W.eq (g2 := F0 m 81 ls []) rfl ?_
              replace hP : va_P D classes [((Ma 2), .inl (tc 0, 2400, .inl sv_141)), ((Ma 3), .inl (tc 0, 7, .inl sv_142)), ((Ma 7), .inl (tc 0, 400, .inl sv_119)), ((Ma 0), .inr (12, [.ref (Ma 1), .int (Mv 0), .int (Mv 1), .ref (Ma 2), .ref (Ma 3), .ref (Ma 4), .ref (Ma 5), .ref (Ma 6), .int sv_185, .int sv_112, .int sv_113, .int (Mv 5), .int sv_114, .int sv_139, .int (Mv 8), .ref (Ma 7), .int sv_140, .ref (Ma 8), .int (Mv 10), .ref (Ma 9), .ref (Ma 10), .int (Mv 11), .int (Mv 12), .int (Mv 13), .ref (Ma 11), .int (Mv 14), .ref (Ma 12), .ref (Ma 13), .ref (Ma 14), .ref (Ma 15), .ref (Ma 16), .long (Mj 0), .ref (Ma 17), .ref (Ma 18), .ref (Ma 19), .ref (Ma 20)])), ((Ma 1), .inl (tc 2, 400, .inl (Mf 1)))] H := hP₀
              replace hD : va_D A [((Ma 2), .inl (tc 0, 2400, .inl sv_141)), ((Ma 3), .inl (tc 0, 7, .inl sv_142)), ((Ma 7), .inl (tc 0, 400, .inl sv_119)), ((Ma 0), .inr (12, [.ref (Ma 1), .int (Mv 0), .int (Mv 1), .ref (Ma 2), .ref (Ma 3), .ref (Ma 4), .ref (Ma 5), .ref (Ma 6), .int sv_185, .int sv_112, .int sv_113, .int (Mv 5), .int sv_114, .int sv_139, .int (Mv 8), .ref (Ma 7), .int sv_140, .ref (Ma 8), .int (Mv 10), .ref (Ma 9), .ref (Ma 10), .int (Mv 11), .int (Mv 12), .int (Mv 13), .ref (Ma 11), .int (Mv 14), .ref (Ma 12), .ref (Ma 13), .ref (Ma 14), .ref (Ma 15), .ref (Ma 16), .long (Mj 0), .ref (Ma 17), .ref (Ma 18), .ref (Ma 19), .ref (Ma 20)])), ((Ma 1), .inl (tc 2, 400, .inl (Mf 1)))] := hD₀
              replace hS := hS₀
              clear hP₀ hD₀ hS₀
              refine lv_aload_n hx hb dX12_tested_81 rfl (lv_at hl 2 rfl) ?_
              refine lv_iload_n hx hb dX12_tested_82 rfl (lv_at hl 0 rfl) ?_
              refine cS (As := [.int 13]) (rest := [.ref (Ma 0)]) (wr := [((Ma 2), .inl (tc 0, 2400, .inl sv_141)), ((Ma 3), .inl (tc 0, 7, .inl sv_142)), ((Ma 7), .inl (tc 0, 400, .inl sv_119)), ((Ma 0), .inr (12, [.ref (Ma 1), .int (Mv 0), .int (Mv 1), .ref (Ma 2), .ref (Ma 3), .ref (Ma 4), .ref (Ma 5), .ref (Ma 6), .int sv_185, .int sv_112, .int sv_113, .int (Mv 5), .int sv_114, .int sv_139, .int (Mv 8), .ref (Ma 7), .int sv_140, .ref (Ma 8), .int (Mv 10), .ref (Ma 9), .ref (Ma 10), .int (Mv 11), .int (Mv 12), .int (Mv 13), .ref (Ma 11), .int (Mv 14), .ref (Ma 12), .ref (Ma 13), .ref (Ma 14), .ref (Ma 15), .ref (Ma 16), .long (Mj 0), .ref (Ma 17), .ref (Ma 18), .ref (Ma 19), .ref (Ma 20)])), ((Ma 1), .inl (tc 2, 400, .inl (Mf 1)))]) ⟨hx, hb, hml, hown, hts⟩ hK hX hA (ct_X12_strength l D tc sk 13) k_1345 k_1343 k_1344 k_106 pl_X12_strength ⟨Nat.le_of_ble_eq_true rfl, Nat.le_of_ble_eq_true rfl⟩ rfl rfl  hP hD hS [] [0, 1, 2, 3, 4] rfl rfl rfl rfl rfl (by decide) rfl hl.1 rfl (Nat.le_of_ble_eq_true rfl) dX12_tested_83 ⟨Nat.le_of_ble_eq_true rfl, Nat.le_of_ble_eq_true rfl⟩ (fun v_188 u_189 H locs hv_190 hP₀ hD₀ hS₀ => ?_)
              obtain ⟨r_191, rfl, he_192⟩ := hv_190
              have he_192 : (((13 : Int32).toInt = 13 ∧ r_191.toInt = 1) ∨ ((13 : Int32).toInt = 12 ∧ r_191.toInt = 2) ∨ ((13 : Int32).toInt = 11 ∧ r_191.toInt = 3) ∨ ((13 : Int32).toInt ≠ 13 ∧ (13 : Int32).toInt ≠ 12 ∧ (13 : Int32).toInt ≠ 11 ∧ r_191.toInt = 0)) := he_192
              refine W.eq (g2 := F0 m 86 ls [.int r_191, .ref (Ma 0)]) rfl ?_
              replace hP : va_P D classes [((Ma 2), .inl (tc 0, 2400, .inl sv_141)), ((Ma 3), .inl (tc 0, 7, .inl sv_142)), ((Ma 7), .inl (tc 0, 400, .inl sv_119)), ((Ma 0), .inr (12, [.ref (Ma 1), .int (Mv 0), .int (Mv 1), .ref (Ma 2), .ref (Ma 3), .ref (Ma 4), .ref (Ma 5), .ref (Ma 6), .int sv_185, .int sv_112, .int sv_113, .int (Mv 5), .int sv_114, .int sv_139, .int (Mv 8), .ref (Ma 7), .int sv_140, .ref (Ma 8), .int (Mv 10), .ref (Ma 9), .ref (Ma 10), .int (Mv 11), .int (Mv 12), .int (Mv 13), .ref (Ma 11), .int (Mv 14), .ref (Ma 12), .ref (Ma 13), .ref (Ma 14), .ref (Ma 15), .ref (Ma 16), .long (Mj 0), .ref (Ma 17), .ref (Ma 18), .ref (Ma 19), .ref (Ma 20)])), ((Ma 1), .inl (tc 2, 400, .inl (Mf 1)))] H := hP₀
              replace hD : va_D A [((Ma 2), .inl (tc 0, 2400, .inl sv_141)), ((Ma 3), .inl (tc 0, 7, .inl sv_142)), ((Ma 7), .inl (tc 0, 400, .inl sv_119)), ((Ma 0), .inr (12, [.ref (Ma 1), .int (Mv 0), .int (Mv 1), .ref (Ma 2), .ref (Ma 3), .ref (Ma 4), .ref (Ma 5), .ref (Ma 6), .int sv_185, .int sv_112, .int sv_113, .int (Mv 5), .int sv_114, .int sv_139, .int (Mv 8), .ref (Ma 7), .int sv_140, .ref (Ma 8), .int (Mv 10), .ref (Ma 9), .ref (Ma 10), .int (Mv 11), .int (Mv 12), .int (Mv 13), .ref (Ma 11), .int (Mv 14), .ref (Ma 12), .ref (Ma 13), .ref (Ma 14), .ref (Ma 15), .ref (Ma 16), .long (Mj 0), .ref (Ma 17), .ref (Ma 18), .ref (Ma 19), .ref (Ma 20)])), ((Ma 1), .inl (tc 2, 400, .inl (Mf 1)))] := hD₀
              replace hS := hS₀
              clear hP₀ hD₀ hS₀
              have yy_193 : (13 : Int32).toInt = 13 := by decide
              have ha_194 : 1 ≤ r_191.toInt ∧ r_191.toInt ≤ 3 := by
                have z_1 : ¬ (vy_20 : Int32).toInt = (0 : Int32).toInt := fun z => c_32 (Int32.toInt_inj.mp z)
                have z_2 : ¬ (r_123 : Int32).toInt = (0 : Int32).toInt := fun z => c_127 (Int32.toInt_inj.mp z)
                have z_3 : ¬ (r_158 : Int32).toInt = (0 : Int32).toInt := fun z => c_162 (Int32.toInt_inj.mp z)
                have z_4 := congrArg Int32.toInt c_180
                have y_0 : (0 : Int32).toInt = 0 := by decide
                refine ⟨?_, ?_⟩ <;> omega
              have ha_195 : (sv_142 (Mv 5).toNatClampNeg).toInt + (sv_140 : Int32).toInt ≤ 400 := by
                have z_1 : ¬ (vy_20 : Int32).toInt = (0 : Int32).toInt := fun z => c_32 (Int32.toInt_inj.mp z)
                have z_2 : ¬ (r_123 : Int32).toInt = (0 : Int32).toInt := fun z => c_127 (Int32.toInt_inj.mp z)
                have z_3 : ¬ (r_158 : Int32).toInt = (0 : Int32).toInt := fun z => c_162 (Int32.toInt_inj.mp z)
                have z_4 := congrArg Int32.toInt c_180
                have y_0 : (0 : Int32).toInt = 0 := by decide
                omega
              refine cV (a := (Ma 0)) (As := [.int r_191]) (rest := []) (wr := [((Ma 1), .inl (tc 2, 400, .inl (Mf 1)))]) ⟨hx, hb, hml, hown, hts⟩ hK hX hA (cu_X12_layDown l D tc sk (Ma 0) (Ma 1) (Ma 2) (Ma 3) (Ma 4) (Ma 5) (Ma 6) (Ma 7) (Ma 8) (Ma 9) (Ma 10) (Ma 11) (Ma 12) (Ma 13) (Ma 14) (Ma 15) (Ma 16) (Ma 17) (Ma 18) (Ma 19) (Ma 20) (Mv 0) (Mv 1) sv_185 sv_112 sv_113 (Mv 5) sv_114 sv_139 (Mv 8) sv_140 (Mv 10) (Mv 11) (Mv 12) (Mv 13) (Mv 14) sv_141 sv_142 sv_119 (Mj 0) r_191 b pf_145 ha_194 ha_195) k_1342 k_1339 k_1341 k_54 k_106 pl_X12_layDown ⟨Nat.le_of_ble_eq_true rfl, Nat.le_of_ble_eq_true rfl⟩ rfl rfl (va_recv hK hP (ci := 12) (q0 := 3) rfl rfl) hP hD hS [3, 0, 1, 2] [4] rfl rfl rfl rfl rfl (by decide) rfl hl.1 rfl (Nat.le_of_ble_eq_true rfl) dX12_tested_86 ⟨Nat.le_of_ble_eq_true rfl, Nat.le_of_ble_eq_true rfl⟩ (fun v_196 u_197 H locs hv_198 hP₀ hD₀ hS₀ => ?_)
              obtain ⟨sv_199, sv_200, sv_201, sv_202⟩ := u_197
              obtain ⟨rfl, pf_203, pf_204, pf_205, pf_206, pf_207⟩ := hv_198
              have pf_203 : LSR sv_119 sv_200 sv_201 sv_202 (Mv 5) b sv_114 := pf_203
              obtain ⟨pn_208, pf_209, pf_210⟩ := id pf_203
              have ar_pf_203 := LSR.ar pf_203
              have ar_pf_210 := Cd.ar pf_210
              have pf_204 : (sv_202 (Mv 5).toNatClampNeg).toInt + (sv_200 : Int32).toInt = (sv_142 (Mv 5).toNatClampNeg).toInt + (sv_140 : Int32).toInt ∧ 0 ≤ (sv_200 : Int32).toInt ∧ (sv_200 : Int32).toInt ≤ (sv_140 : Int32).toInt := pf_204
              have pf_205 : Agr sv_141 sv_201 (400 * ((Mv 5) : Int32).toInt + (sv_142 (Mv 5).toNatClampNeg).toInt) := pf_205
              have pf_206 : LdE sv_119 sv_200 r_191 := pf_206
              have pf_207 : InK sv_119 sv_140 sv_200 := pf_207
              refine W.eq (g2 := F0 m 89 ls []) rfl ?_
              replace hP : va_P D classes [((Ma 1), .inl (tc 2, 400, .inl (Mf 1))), ((Ma 0), .inr (12, [.ref (Ma 1), .int (Mv 0), .int (Mv 1), .ref (Ma 2), .ref (Ma 3), .ref (Ma 4), .ref (Ma 5), .ref (Ma 6), .int sv_185, .int sv_112, .int sv_113, .int (Mv 5), .int sv_114, .int sv_199, .int (Mv 8), .ref (Ma 7), .int sv_200, .ref (Ma 8), .int (Mv 10), .ref (Ma 9), .ref (Ma 10), .int (Mv 11), .int (Mv 12), .int (Mv 13), .ref (Ma 11), .int (Mv 14), .ref (Ma 12), .ref (Ma 13), .ref (Ma 14), .ref (Ma 15), .ref (Ma 16), .long (Mj 0), .ref (Ma 17), .ref (Ma 18), .ref (Ma 19), .ref (Ma 20)])), ((Ma 2), .inl (tc 0, 2400, .inl sv_201)), ((Ma 3), .inl (tc 0, 7, .inl sv_202)), ((Ma 7), .inl (tc 0, 400, .inl sv_119))] H := hP₀
              replace hD : va_D A [((Ma 1), .inl (tc 2, 400, .inl (Mf 1))), ((Ma 0), .inr (12, [.ref (Ma 1), .int (Mv 0), .int (Mv 1), .ref (Ma 2), .ref (Ma 3), .ref (Ma 4), .ref (Ma 5), .ref (Ma 6), .int sv_185, .int sv_112, .int sv_113, .int (Mv 5), .int sv_114, .int sv_199, .int (Mv 8), .ref (Ma 7), .int sv_200, .ref (Ma 8), .int (Mv 10), .ref (Ma 9), .ref (Ma 10), .int (Mv 11), .int (Mv 12), .int (Mv 13), .ref (Ma 11), .int (Mv 14), .ref (Ma 12), .ref (Ma 13), .ref (Ma 14), .ref (Ma 15), .ref (Ma 16), .long (Mj 0), .ref (Ma 17), .ref (Ma 18), .ref (Ma 19), .ref (Ma 20)])), ((Ma 2), .inl (tc 0, 2400, .inl sv_201)), ((Ma 3), .inl (tc 0, 7, .inl sv_202)), ((Ma 7), .inl (tc 0, 400, .inl sv_119))] := hD₀
              replace hS := hS₀
              clear hP₀ hD₀ hS₀
              refine lv_aload_n hx hb dX12_tested_89 rfl (lv_at hl 2 rfl) ?_
              refine gf_X12_29 hx hb hts hown hK hP 1 rfl rfl dX12_tested_90 ?_
              refine lv_aload_n hx hb dX12_tested_93 rfl (lv_at hl 2 rfl) ?_
              refine gf_X12_154 hx hb hts hown hK hP 1 rfl rfl dX12_tested_94 ?_
              refine lv_iload_n hx hb dX12_tested_97 rfl (lv_at hl 0 rfl) ?_
              have hi_211 : vp_in sv_200 400 := by
                have z_1 : ¬ (vy_20 : Int32).toInt = (0 : Int32).toInt := fun z => c_32 (Int32.toInt_inj.mp z)
                have z_2 : ¬ (r_123 : Int32).toInt = (0 : Int32).toInt := fun z => c_127 (Int32.toInt_inj.mp z)
                have z_3 : ¬ (r_158 : Int32).toInt = (0 : Int32).toInt := fun z => c_162 (Int32.toInt_inj.mp z)
                have z_4 := congrArg Int32.toInt c_180
                have y_0 : (0 : Int32).toInt = 0 := by decide
                refine vp_in_iff.mpr ⟨?_, ?_⟩ <;> omega
              refine st_int hx hb hK hP hD hS 4 0 rfl rfl hi_211 dX12_tested_98 (fun g_212 H locs eg_212 hP₀ hD₀ hS₀ => ?_)
              replace hP : va_P D classes [((Ma 1), .inl (tc 2, 400, .inl (Mf 1))), ((Ma 0), .inr (12, [.ref (Ma 1), .int (Mv 0), .int (Mv 1), .ref (Ma 2), .ref (Ma 3), .ref (Ma 4), .ref (Ma 5), .ref (Ma 6), .int sv_185, .int sv_112, .int sv_113, .int (Mv 5), .int sv_114, .int sv_199, .int (Mv 8), .ref (Ma 7), .int sv_200, .ref (Ma 8), .int (Mv 10), .ref (Ma 9), .ref (Ma 10), .int (Mv 11), .int (Mv 12), .int (Mv 13), .ref (Ma 11), .int (Mv 14), .ref (Ma 12), .ref (Ma 13), .ref (Ma 14), .ref (Ma 15), .ref (Ma 16), .long (Mj 0), .ref (Ma 17), .ref (Ma 18), .ref (Ma 19), .ref (Ma 20)])), ((Ma 2), .inl (tc 0, 2400, .inl sv_201)), ((Ma 3), .inl (tc 0, 7, .inl sv_202)), ((Ma 7), .inl (tc 0, 400, .inl g_212))] H := hP₀
              replace hD : va_D A [((Ma 1), .inl (tc 2, 400, .inl (Mf 1))), ((Ma 0), .inr (12, [.ref (Ma 1), .int (Mv 0), .int (Mv 1), .ref (Ma 2), .ref (Ma 3), .ref (Ma 4), .ref (Ma 5), .ref (Ma 6), .int sv_185, .int sv_112, .int sv_113, .int (Mv 5), .int sv_114, .int sv_199, .int (Mv 8), .ref (Ma 7), .int sv_200, .ref (Ma 8), .int (Mv 10), .ref (Ma 9), .ref (Ma 10), .int (Mv 11), .int (Mv 12), .int (Mv 13), .ref (Ma 11), .int (Mv 14), .ref (Ma 12), .ref (Ma 13), .ref (Ma 14), .ref (Ma 15), .ref (Ma 16), .long (Mj 0), .ref (Ma 17), .ref (Ma 18), .ref (Ma 19), .ref (Ma 20)])), ((Ma 2), .inl (tc 0, 2400, .inl sv_201)), ((Ma 3), .inl (tc 0, 7, .inl sv_202)), ((Ma 7), .inl (tc 0, 400, .inl g_212))] := hD₀
              replace hS := hS₀
              clear hP₀ hD₀ hS₀
              refine lv_aload_n hx hb dX12_tested_99 rfl (lv_at hl 2 rfl) ?_
              refine lv_dup hx hb dX12_tested_100 rfl ?_
              refine gf_X12_154 hx hb hts hown hK hP 1 rfl rfl dX12_tested_101 ?_
              refine lv_iconst (v := 1) hx hb dX12_tested_104 (by decide) ?_
              refine lv_iadd hx hb dX12_tested_105 ?_
              refine lv_topi (fun x_213 ex_213 => ?_)
              refine pf_X12_154 hx hb hts hown hK hP hD hS 1 rfl (Nat.le_of_ble_eq_true rfl) rfl rfl dX12_tested_106 (fun H locs hP₀ hD₀ hS₀ => ?_)
              replace hP : va_P D classes [((Ma 1), .inl (tc 2, 400, .inl (Mf 1))), ((Ma 0), .inr (12, [.ref (Ma 1), .int (Mv 0), .int (Mv 1), .ref (Ma 2), .ref (Ma 3), .ref (Ma 4), .ref (Ma 5), .ref (Ma 6), .int sv_185, .int sv_112, .int sv_113, .int (Mv 5), .int sv_114, .int sv_199, .int (Mv 8), .ref (Ma 7), .int x_213, .ref (Ma 8), .int (Mv 10), .ref (Ma 9), .ref (Ma 10), .int (Mv 11), .int (Mv 12), .int (Mv 13), .ref (Ma 11), .int (Mv 14), .ref (Ma 12), .ref (Ma 13), .ref (Ma 14), .ref (Ma 15), .ref (Ma 16), .long (Mj 0), .ref (Ma 17), .ref (Ma 18), .ref (Ma 19), .ref (Ma 20)])), ((Ma 2), .inl (tc 0, 2400, .inl sv_201)), ((Ma 3), .inl (tc 0, 7, .inl sv_202)), ((Ma 7), .inl (tc 0, 400, .inl g_212))] H := hP₀
              replace hD : va_D A [((Ma 1), .inl (tc 2, 400, .inl (Mf 1))), ((Ma 0), .inr (12, [.ref (Ma 1), .int (Mv 0), .int (Mv 1), .ref (Ma 2), .ref (Ma 3), .ref (Ma 4), .ref (Ma 5), .ref (Ma 6), .int sv_185, .int sv_112, .int sv_113, .int (Mv 5), .int sv_114, .int sv_199, .int (Mv 8), .ref (Ma 7), .int x_213, .ref (Ma 8), .int (Mv 10), .ref (Ma 9), .ref (Ma 10), .int (Mv 11), .int (Mv 12), .int (Mv 13), .ref (Ma 11), .int (Mv 14), .ref (Ma 12), .ref (Ma 13), .ref (Ma 14), .ref (Ma 15), .ref (Ma 16), .long (Mj 0), .ref (Ma 17), .ref (Ma 18), .ref (Ma 19), .ref (Ma 20)])), ((Ma 2), .inl (tc 0, 2400, .inl sv_201)), ((Ma 3), .inl (tc 0, 7, .inl sv_202)), ((Ma 7), .inl (tc 0, 400, .inl g_212))] := hD₀
              replace hS := hS₀
              clear hP₀ hD₀ hS₀
              have tp_x_213 : (x_213 : Int32).toInt = (sv_200 : Int32).toInt + 1 := by
                have z_1 : ¬ (vy_20 : Int32).toInt = (0 : Int32).toInt := fun z => c_32 (Int32.toInt_inj.mp z)
                have z_2 : ¬ (r_123 : Int32).toInt = (0 : Int32).toInt := fun z => c_127 (Int32.toInt_inj.mp z)
                have z_3 : ¬ (r_158 : Int32).toInt = (0 : Int32).toInt := fun z => c_162 (Int32.toInt_inj.mp z)
                have z_4 := congrArg Int32.toInt c_180
                have y_0 : (0 : Int32).toInt = 0 := by decide
                have y_1 : (1 : Int32).toInt = 1 := by decide
                have t_x_213 : x_213.toInt = (sv_200 : Int32).toInt + (1 : Int32).toInt := by rw [ex_213]; exact add_toInt (by omega) (by omega)
                omega
              refine lv_goto (tgt := 12) hx hb dX12_tested_109 (by decide) ?_
              have hb_214 : 2 * (401 - (sv_185 : Int32).toInt) + (1 : Int32).toInt < 2 * (401 - (vy_11 : Int32).toInt) + (vy_20 : Int32).toInt ∧ 1 ≤ 2 * (401 - (vy_11 : Int32).toInt) + (vy_20 : Int32).toInt := by
                have z_1 : ¬ (vy_20 : Int32).toInt = (0 : Int32).toInt := fun z => c_32 (Int32.toInt_inj.mp z)
                have z_2 : ¬ (r_123 : Int32).toInt = (0 : Int32).toInt := fun z => c_127 (Int32.toInt_inj.mp z)
                have z_3 : ¬ (r_158 : Int32).toInt = (0 : Int32).toInt := fun z => c_162 (Int32.toInt_inj.mp z)
                have z_4 := congrArg Int32.toInt c_180
                have y_0 : (0 : Int32).toInt = 0 := by decide
                have y_1 : (1 : Int32).toInt = 1 := by decide
                refine ⟨?_, ?_⟩ <;> omega
              have ha_215 : 0 ≤ (sv_185 : Int32).toInt ∧ (sv_185 : Int32).toInt ≤ ((Mv 0) : Int32).toInt ∧ ((Mv 0) : Int32).toInt ≤ 400 := by
                have z_1 : ¬ (vy_20 : Int32).toInt = (0 : Int32).toInt := fun z => c_32 (Int32.toInt_inj.mp z)
                have z_2 : ¬ (r_123 : Int32).toInt = (0 : Int32).toInt := fun z => c_127 (Int32.toInt_inj.mp z)
                have z_3 : ¬ (r_158 : Int32).toInt = (0 : Int32).toInt := fun z => c_162 (Int32.toInt_inj.mp z)
                have z_4 := congrArg Int32.toInt c_180
                have y_0 : (0 : Int32).toInt = 0 := by decide
                refine ⟨?_, ?_, ?_⟩ <;> omega
              have ha_216 : (Mv 2).toInt ≤ (sv_185 : Int32).toInt := by
                have z_1 : ¬ (vy_20 : Int32).toInt = (0 : Int32).toInt := fun z => c_32 (Int32.toInt_inj.mp z)
                have z_2 : ¬ (r_123 : Int32).toInt = (0 : Int32).toInt := fun z => c_127 (Int32.toInt_inj.mp z)
                have z_3 : ¬ (r_158 : Int32).toInt = (0 : Int32).toInt := fun z => c_162 (Int32.toInt_inj.mp z)
                have z_4 := congrArg Int32.toInt c_180
                have y_0 : (0 : Int32).toInt = 0 := by decide
                omega
              have ha_217 : 0 ≤ (1 : Int32).toInt ∧ (1 : Int32).toInt ≤ 1 := by
                have z_1 : ¬ (vy_20 : Int32).toInt = (0 : Int32).toInt := fun z => c_32 (Int32.toInt_inj.mp z)
                have z_2 : ¬ (r_123 : Int32).toInt = (0 : Int32).toInt := fun z => c_127 (Int32.toInt_inj.mp z)
                have z_3 : ¬ (r_158 : Int32).toInt = (0 : Int32).toInt := fun z => c_162 (Int32.toInt_inj.mp z)
                have z_4 := congrArg Int32.toInt c_180
                have y_0 : (0 : Int32).toInt = 0 := by decide
                have y_1 : (1 : Int32).toInt = 1 := by decide
                refine ⟨?_, ?_⟩ <;> omega
              have ha_218 : (Mv 6).toInt ≤ (sv_114 : Int32).toInt ∧ (sv_114 : Int32).toInt ≤ 60 := by
                have z_1 : ¬ (vy_20 : Int32).toInt = (0 : Int32).toInt := fun z => c_32 (Int32.toInt_inj.mp z)
                have z_2 : ¬ (r_123 : Int32).toInt = (0 : Int32).toInt := fun z => c_127 (Int32.toInt_inj.mp z)
                have z_3 : ¬ (r_158 : Int32).toInt = (0 : Int32).toInt := fun z => c_162 (Int32.toInt_inj.mp z)
                have z_4 := congrArg Int32.toInt c_180
                have y_0 : (0 : Int32).toInt = 0 := by decide
                refine ⟨?_, ?_⟩ <;> omega
              have hi_219 : (x_213 : Int32).toInt = (sv_200 : Int32).toInt + 1 := by
                have z_1 : ¬ (vy_20 : Int32).toInt = (0 : Int32).toInt := fun z => c_32 (Int32.toInt_inj.mp z)
                have z_2 : ¬ (r_123 : Int32).toInt = (0 : Int32).toInt := fun z => c_127 (Int32.toInt_inj.mp z)
                have z_3 : ¬ (r_158 : Int32).toInt = (0 : Int32).toInt := fun z => c_162 (Int32.toInt_inj.mp z)
                have z_4 := congrArg Int32.toInt c_180
                have y_0 : (0 : Int32).toInt = 0 := by decide
                have y_1 : (1 : Int32).toInt = 1 := by decide
                have t_x_213 : x_213.toInt = (sv_200 : Int32).toInt + (1 : Int32).toInt := by rw [ex_213]; exact add_toInt (by omega) (by omega)
                omega
              have hr_220 : (sv_200 : Int32).toInt < 400 := by
                have z_1 : ¬ (vy_20 : Int32).toInt = (0 : Int32).toInt := fun z => c_32 (Int32.toInt_inj.mp z)
                have z_2 : ¬ (r_123 : Int32).toInt = (0 : Int32).toInt := fun z => c_127 (Int32.toInt_inj.mp z)
                have z_3 : ¬ (r_158 : Int32).toInt = (0 : Int32).toInt := fun z => c_162 (Int32.toInt_inj.mp z)
                have z_4 := congrArg Int32.toInt c_180
                have y_0 : (0 : Int32).toInt = 0 := by decide
                omega
              have hr_221 : (13 : Int32).toInt = 12 ∨ (13 : Int32).toInt = 13 := by
                have z_1 : ¬ (vy_20 : Int32).toInt = (0 : Int32).toInt := fun z => c_32 (Int32.toInt_inj.mp z)
                have z_2 : ¬ (r_123 : Int32).toInt = (0 : Int32).toInt := fun z => c_127 (Int32.toInt_inj.mp z)
                have z_3 : ¬ (r_158 : Int32).toInt = (0 : Int32).toInt := fun z => c_162 (Int32.toInt_inj.mp z)
                have z_4 := congrArg Int32.toInt c_180
                have y_0 : (0 : Int32).toInt = 0 := by decide
                have y_13 : (13 : Int32).toInt = 13 := by decide
                omega
              have ha_222 : (sv_202 (Mv 5).toNatClampNeg).toInt + (x_213 : Int32).toInt ≤ (sv_185 : Int32).toInt ∧ ((Mf 3) (Mv 5).toNatClampNeg).toInt ≤ (sv_202 (Mv 5).toNatClampNeg).toInt ∧ 0 ≤ (x_213 : Int32).toInt ∧ (x_213 : Int32).toInt ≤ 400 := by
                have z_1 : ¬ (vy_20 : Int32).toInt = (0 : Int32).toInt := fun z => c_32 (Int32.toInt_inj.mp z)
                have z_2 : ¬ (r_123 : Int32).toInt = (0 : Int32).toInt := fun z => c_127 (Int32.toInt_inj.mp z)
                have z_3 : ¬ (r_158 : Int32).toInt = (0 : Int32).toInt := fun z => c_162 (Int32.toInt_inj.mp z)
                have z_4 := congrArg Int32.toInt c_180
                have y_0 : (0 : Int32).toInt = 0 := by decide
                have y_1 : (1 : Int32).toInt = 1 := by decide
                have t_x_213 : x_213.toInt = (sv_200 : Int32).toInt + (1 : Int32).toInt := by rw [ex_213]; exact add_toInt (by omega) (by omega)
                refine ⟨?_, ?_, ?_, ?_⟩ <;> omega
              have hr_223 : (400 * ((Mv 5) : Int32).toInt + ((Mf 3) (Mv 5).toNatClampNeg).toInt) ≤ (400 * ((Mv 5) : Int32).toInt + ((Mf 3) (Mv 5).toNatClampNeg).toInt) := by
                have z_1 : ¬ (vy_20 : Int32).toInt = (0 : Int32).toInt := fun z => c_32 (Int32.toInt_inj.mp z)
                have z_2 : ¬ (r_123 : Int32).toInt = (0 : Int32).toInt := fun z => c_127 (Int32.toInt_inj.mp z)
                have z_3 : ¬ (r_158 : Int32).toInt = (0 : Int32).toInt := fun z => c_162 (Int32.toInt_inj.mp z)
                have z_4 := congrArg Int32.toInt c_180
                have y_0 : (0 : Int32).toInt = 0 := by decide
                omega
              have hr_224 : (400 * ((Mv 5) : Int32).toInt + ((Mf 3) (Mv 5).toNatClampNeg).toInt) ≤ (400 * ((Mv 5) : Int32).toInt + (vy_18 (Mv 5).toNatClampNeg).toInt) := by
                have z_1 : ¬ (vy_20 : Int32).toInt = (0 : Int32).toInt := fun z => c_32 (Int32.toInt_inj.mp z)
                have z_2 : ¬ (r_123 : Int32).toInt = (0 : Int32).toInt := fun z => c_127 (Int32.toInt_inj.mp z)
                have z_3 : ¬ (r_158 : Int32).toInt = (0 : Int32).toInt := fun z => c_162 (Int32.toInt_inj.mp z)
                have z_4 := congrArg Int32.toInt c_180
                have y_0 : (0 : Int32).toInt = 0 := by decide
                omega
              have hr_225 : (400 * ((Mv 5) : Int32).toInt + ((Mf 3) (Mv 5).toNatClampNeg).toInt) ≤ (400 * ((Mv 5) : Int32).toInt + (sv_118 (Mv 5).toNatClampNeg).toInt) := by
                have z_1 : ¬ (vy_20 : Int32).toInt = (0 : Int32).toInt := fun z => c_32 (Int32.toInt_inj.mp z)
                have z_2 : ¬ (r_123 : Int32).toInt = (0 : Int32).toInt := fun z => c_127 (Int32.toInt_inj.mp z)
                have z_3 : ¬ (r_158 : Int32).toInt = (0 : Int32).toInt := fun z => c_162 (Int32.toInt_inj.mp z)
                have z_4 := congrArg Int32.toInt c_180
                have y_0 : (0 : Int32).toInt = 0 := by decide
                omega
              have hr_226 : (400 * ((Mv 5) : Int32).toInt + ((Mf 3) (Mv 5).toNatClampNeg).toInt) ≤ (400 * ((Mv 5) : Int32).toInt + (sv_142 (Mv 5).toNatClampNeg).toInt) := by
                have z_1 : ¬ (vy_20 : Int32).toInt = (0 : Int32).toInt := fun z => c_32 (Int32.toInt_inj.mp z)
                have z_2 : ¬ (r_123 : Int32).toInt = (0 : Int32).toInt := fun z => c_127 (Int32.toInt_inj.mp z)
                have z_3 : ¬ (r_158 : Int32).toInt = (0 : Int32).toInt := fun z => c_162 (Int32.toInt_inj.mp z)
                have z_4 := congrArg Int32.toInt c_180
                have y_0 : (0 : Int32).toInt = 0 := by decide
                omega
              exact ih_22 sv_185 sv_112 sv_113 sv_114 sv_199 x_213 sv_201 sv_202 g_212 1 _ _ _ (by omega) ha_215 ha_216 ha_217 ha_218 ⟨fun _ => LSR.open2 pf_203 eg_212 hi_219 hr_220 hr_221, fun h => absurd h (by decide)⟩ ha_222 (Agr.trans (k' := (400 * ((Mv 5) : Int32).toInt + ((Mf 3) (Mv 5).toNatClampNeg).toInt)) (Agr.trans (k' := (400 * ((Mv 5) : Int32).toInt + ((Mf 3) (Mv 5).toNatClampNeg).toInt)) (Agr.trans (k' := (400 * ((Mv 5) : Int32).toInt + ((Mf 3) (Mv 5).toNatClampNeg).toInt)) (Agr.mono pf_30 hr_223) pf_122 ⟨Int.le_refl _, hr_224⟩) pf_144 ⟨Int.le_refl _, hr_225⟩) pf_205 ⟨Int.le_refl _, hr_226⟩) (hP.sub [1, 0, 2, 3, 4] rfl) (hD.sub [1, 0, 2, 3, 4] rfl rfl) hS (lv_sub hl [1, 2] rfl)
            · skip
              have hz_228 : (r_174 : Int32).toInt = 1 := by
                have z_1 : ¬ (vy_20 : Int32).toInt = (0 : Int32).toInt := fun z => c_32 (Int32.toInt_inj.mp z)
                have z_2 : ¬ (r_123 : Int32).toInt = (0 : Int32).toInt := fun z => c_127 (Int32.toInt_inj.mp z)
                have z_3 : ¬ (r_158 : Int32).toInt = (0 : Int32).toInt := fun z => c_162 (Int32.toInt_inj.mp z)
                have z_4 : ¬ (r_174 : Int32).toInt = (0 : Int32).toInt := fun z => c_180 (Int32.toInt_inj.mp z)
                have y_0 : (0 : Int32).toInt = 0 := by decide
                omega
              obtain pf_227 := hm_177 hz_228
              have pf_227 : Ltr (Mf 1) (Mv 0) sv_170 := pf_227
              have ar_pf_227 := pf_227.1
              refine lv_bipush (v := 12) hx hb dX12_tested_69 (by decide) ?_
              refine lv_goto (tgt := 76) hx hb dX12_tested_71 (by decide) ?_
              refine lv_istore_n (lv' := [(2, .int 12), (1, .int 1), (0, .ref (Ma 0))]) hx hb dX12_tested_76 rfl hl (by decide) rfl (fun ls hl₀ => ?_)
              replace hl := hl₀
              clear hl₀
              refine lv_aload_n hx hb dX12_tested_77 rfl (lv_at hl 2 rfl) ?_
              have ha_229 : 0 ≤ (sv_170 : Int32).toInt ∧ (sv_170 : Int32).toInt ≤ ((Mv 0) : Int32).toInt ∧ ((Mv 0) : Int32).toInt ≤ 400 := by
                have z_1 : ¬ (vy_20 : Int32).toInt = (0 : Int32).toInt := fun z => c_32 (Int32.toInt_inj.mp z)
                have z_2 : ¬ (r_123 : Int32).toInt = (0 : Int32).toInt := fun z => c_127 (Int32.toInt_inj.mp z)
                have z_3 : ¬ (r_158 : Int32).toInt = (0 : Int32).toInt := fun z => c_162 (Int32.toInt_inj.mp z)
                have z_4 : ¬ (r_174 : Int32).toInt = (0 : Int32).toInt := fun z => c_180 (Int32.toInt_inj.mp z)
                have y_0 : (0 : Int32).toInt = 0 := by decide
                refine ⟨?_, ?_, ?_⟩ <;> omega
              refine cV (a := (Ma 0)) (As := []) (rest := []) (wr := [((Ma 2), .inl (tc 0, 2400, .inl sv_141)), ((Ma 3), .inl (tc 0, 7, .inl sv_142)), ((Ma 7), .inl (tc 0, 400, .inl sv_119))]) ⟨hx, hb, hml, hown, hts⟩ hK hX hA (cu_X12_passWord l D tc sk (Ma 0) (Ma 1) (Ma 2) (Ma 3) (Ma 4) (Ma 5) (Ma 6) (Ma 7) (Ma 8) (Ma 9) (Ma 10) (Ma 11) (Ma 12) (Ma 13) (Ma 14) (Ma 15) (Ma 16) (Ma 17) (Ma 18) (Ma 19) (Ma 20) (Mv 0) (Mv 1) sv_170 sv_112 sv_113 (Mv 5) sv_114 sv_139 (Mv 8) sv_140 (Mv 10) (Mv 11) (Mv 12) (Mv 13) (Mv 14) (Mf 1) (Mj 0) ha_229) k_1244 k_1241 k_1243 k_34 k_106 pl_X12_passWord ⟨Nat.le_of_ble_eq_true rfl, Nat.le_of_ble_eq_true rfl⟩ rfl rfl (va_recv hK hP (ci := 12) (q0 := 3) rfl rfl) hP hD hS [3, 4] [0, 1, 2] rfl rfl rfl rfl rfl (by decide) rfl hl.1 rfl (Nat.le_of_ble_eq_true rfl) dX12_tested_78 ⟨Nat.le_of_ble_eq_true rfl, Nat.le_of_ble_eq_true rfl⟩ (fun v_230 u_231 H locs hv_232 hP₀ hD₀ hS₀ => ?_)
              obtain ⟨sv_233, rfl⟩ : ∃ z, z = u_231 := ⟨_, rfl⟩
              obtain ⟨rfl, pf_234, pf_235⟩ := hv_232
              have pf_234 : (sv_170 : Int32).toInt ≤ (sv_233 : Int32).toInt ∧ (sv_233 : Int32).toInt ≤ ((Mv 0) : Int32).toInt := pf_234
              have pf_235 : Pw (Mf 1) (Mv 0) sv_170 sv_233 := pf_235
              have ar_pf_235 := pf_235 pf_227
              refine W.eq (g2 := F0 m 81 ls []) rfl ?_
              replace hP : va_P D classes [((Ma 2), .inl (tc 0, 2400, .inl sv_141)), ((Ma 3), .inl (tc 0, 7, .inl sv_142)), ((Ma 7), .inl (tc 0, 400, .inl sv_119)), ((Ma 0), .inr (12, [.ref (Ma 1), .int (Mv 0), .int (Mv 1), .ref (Ma 2), .ref (Ma 3), .ref (Ma 4), .ref (Ma 5), .ref (Ma 6), .int sv_233, .int sv_112, .int sv_113, .int (Mv 5), .int sv_114, .int sv_139, .int (Mv 8), .ref (Ma 7), .int sv_140, .ref (Ma 8), .int (Mv 10), .ref (Ma 9), .ref (Ma 10), .int (Mv 11), .int (Mv 12), .int (Mv 13), .ref (Ma 11), .int (Mv 14), .ref (Ma 12), .ref (Ma 13), .ref (Ma 14), .ref (Ma 15), .ref (Ma 16), .long (Mj 0), .ref (Ma 17), .ref (Ma 18), .ref (Ma 19), .ref (Ma 20)])), ((Ma 1), .inl (tc 2, 400, .inl (Mf 1)))] H := hP₀
              replace hD : va_D A [((Ma 2), .inl (tc 0, 2400, .inl sv_141)), ((Ma 3), .inl (tc 0, 7, .inl sv_142)), ((Ma 7), .inl (tc 0, 400, .inl sv_119)), ((Ma 0), .inr (12, [.ref (Ma 1), .int (Mv 0), .int (Mv 1), .ref (Ma 2), .ref (Ma 3), .ref (Ma 4), .ref (Ma 5), .ref (Ma 6), .int sv_233, .int sv_112, .int sv_113, .int (Mv 5), .int sv_114, .int sv_139, .int (Mv 8), .ref (Ma 7), .int sv_140, .ref (Ma 8), .int (Mv 10), .ref (Ma 9), .ref (Ma 10), .int (Mv 11), .int (Mv 12), .int (Mv 13), .ref (Ma 11), .int (Mv 14), .ref (Ma 12), .ref (Ma 13), .ref (Ma 14), .ref (Ma 15), .ref (Ma 16), .long (Mj 0), .ref (Ma 17), .ref (Ma 18), .ref (Ma 19), .ref (Ma 20)])), ((Ma 1), .inl (tc 2, 400, .inl (Mf 1)))] := hD₀
              replace hS := hS₀
              clear hP₀ hD₀ hS₀
              refine lv_aload_n hx hb dX12_tested_81 rfl (lv_at hl 2 rfl) ?_
              refine lv_iload_n hx hb dX12_tested_82 rfl (lv_at hl 0 rfl) ?_
              refine cS (As := [.int 12]) (rest := [.ref (Ma 0)]) (wr := [((Ma 2), .inl (tc 0, 2400, .inl sv_141)), ((Ma 3), .inl (tc 0, 7, .inl sv_142)), ((Ma 7), .inl (tc 0, 400, .inl sv_119)), ((Ma 0), .inr (12, [.ref (Ma 1), .int (Mv 0), .int (Mv 1), .ref (Ma 2), .ref (Ma 3), .ref (Ma 4), .ref (Ma 5), .ref (Ma 6), .int sv_233, .int sv_112, .int sv_113, .int (Mv 5), .int sv_114, .int sv_139, .int (Mv 8), .ref (Ma 7), .int sv_140, .ref (Ma 8), .int (Mv 10), .ref (Ma 9), .ref (Ma 10), .int (Mv 11), .int (Mv 12), .int (Mv 13), .ref (Ma 11), .int (Mv 14), .ref (Ma 12), .ref (Ma 13), .ref (Ma 14), .ref (Ma 15), .ref (Ma 16), .long (Mj 0), .ref (Ma 17), .ref (Ma 18), .ref (Ma 19), .ref (Ma 20)])), ((Ma 1), .inl (tc 2, 400, .inl (Mf 1)))]) ⟨hx, hb, hml, hown, hts⟩ hK hX hA (ct_X12_strength l D tc sk 12) k_1345 k_1343 k_1344 k_106 pl_X12_strength ⟨Nat.le_of_ble_eq_true rfl, Nat.le_of_ble_eq_true rfl⟩ rfl rfl  hP hD hS [] [0, 1, 2, 3, 4] rfl rfl rfl rfl rfl (by decide) rfl hl.1 rfl (Nat.le_of_ble_eq_true rfl) dX12_tested_83 ⟨Nat.le_of_ble_eq_true rfl, Nat.le_of_ble_eq_true rfl⟩ (fun v_236 u_237 H locs hv_238 hP₀ hD₀ hS₀ => ?_)
              obtain ⟨r_239, rfl, he_240⟩ := hv_238
              have he_240 : (((12 : Int32).toInt = 13 ∧ r_239.toInt = 1) ∨ ((12 : Int32).toInt = 12 ∧ r_239.toInt = 2) ∨ ((12 : Int32).toInt = 11 ∧ r_239.toInt = 3) ∨ ((12 : Int32).toInt ≠ 13 ∧ (12 : Int32).toInt ≠ 12 ∧ (12 : Int32).toInt ≠ 11 ∧ r_239.toInt = 0)) := he_240
              refine W.eq (g2 := F0 m 86 ls [.int r_239, .ref (Ma 0)]) rfl ?_
              replace hP : va_P D classes [((Ma 2), .inl (tc 0, 2400, .inl sv_141)), ((Ma 3), .inl (tc 0, 7, .inl sv_142)), ((Ma 7), .inl (tc 0, 400, .inl sv_119)), ((Ma 0), .inr (12, [.ref (Ma 1), .int (Mv 0), .int (Mv 1), .ref (Ma 2), .ref (Ma 3), .ref (Ma 4), .ref (Ma 5), .ref (Ma 6), .int sv_233, .int sv_112, .int sv_113, .int (Mv 5), .int sv_114, .int sv_139, .int (Mv 8), .ref (Ma 7), .int sv_140, .ref (Ma 8), .int (Mv 10), .ref (Ma 9), .ref (Ma 10), .int (Mv 11), .int (Mv 12), .int (Mv 13), .ref (Ma 11), .int (Mv 14), .ref (Ma 12), .ref (Ma 13), .ref (Ma 14), .ref (Ma 15), .ref (Ma 16), .long (Mj 0), .ref (Ma 17), .ref (Ma 18), .ref (Ma 19), .ref (Ma 20)])), ((Ma 1), .inl (tc 2, 400, .inl (Mf 1)))] H := hP₀
              replace hD : va_D A [((Ma 2), .inl (tc 0, 2400, .inl sv_141)), ((Ma 3), .inl (tc 0, 7, .inl sv_142)), ((Ma 7), .inl (tc 0, 400, .inl sv_119)), ((Ma 0), .inr (12, [.ref (Ma 1), .int (Mv 0), .int (Mv 1), .ref (Ma 2), .ref (Ma 3), .ref (Ma 4), .ref (Ma 5), .ref (Ma 6), .int sv_233, .int sv_112, .int sv_113, .int (Mv 5), .int sv_114, .int sv_139, .int (Mv 8), .ref (Ma 7), .int sv_140, .ref (Ma 8), .int (Mv 10), .ref (Ma 9), .ref (Ma 10), .int (Mv 11), .int (Mv 12), .int (Mv 13), .ref (Ma 11), .int (Mv 14), .ref (Ma 12), .ref (Ma 13), .ref (Ma 14), .ref (Ma 15), .ref (Ma 16), .long (Mj 0), .ref (Ma 17), .ref (Ma 18), .ref (Ma 19), .ref (Ma 20)])), ((Ma 1), .inl (tc 2, 400, .inl (Mf 1)))] := hD₀
              replace hS := hS₀
              clear hP₀ hD₀ hS₀
              have yy_241 : (12 : Int32).toInt = 12 := by decide
              have ha_242 : 1 ≤ r_239.toInt ∧ r_239.toInt ≤ 3 := by
                have z_1 : ¬ (vy_20 : Int32).toInt = (0 : Int32).toInt := fun z => c_32 (Int32.toInt_inj.mp z)
                have z_2 : ¬ (r_123 : Int32).toInt = (0 : Int32).toInt := fun z => c_127 (Int32.toInt_inj.mp z)
                have z_3 : ¬ (r_158 : Int32).toInt = (0 : Int32).toInt := fun z => c_162 (Int32.toInt_inj.mp z)
                have z_4 : ¬ (r_174 : Int32).toInt = (0 : Int32).toInt := fun z => c_180 (Int32.toInt_inj.mp z)
                have y_0 : (0 : Int32).toInt = 0 := by decide
                refine ⟨?_, ?_⟩ <;> omega
              have ha_243 : (sv_142 (Mv 5).toNatClampNeg).toInt + (sv_140 : Int32).toInt ≤ 400 := by
                have z_1 : ¬ (vy_20 : Int32).toInt = (0 : Int32).toInt := fun z => c_32 (Int32.toInt_inj.mp z)
                have z_2 : ¬ (r_123 : Int32).toInt = (0 : Int32).toInt := fun z => c_127 (Int32.toInt_inj.mp z)
                have z_3 : ¬ (r_158 : Int32).toInt = (0 : Int32).toInt := fun z => c_162 (Int32.toInt_inj.mp z)
                have z_4 : ¬ (r_174 : Int32).toInt = (0 : Int32).toInt := fun z => c_180 (Int32.toInt_inj.mp z)
                have y_0 : (0 : Int32).toInt = 0 := by decide
                omega
              refine cV (a := (Ma 0)) (As := [.int r_239]) (rest := []) (wr := [((Ma 1), .inl (tc 2, 400, .inl (Mf 1)))]) ⟨hx, hb, hml, hown, hts⟩ hK hX hA (cu_X12_layDown l D tc sk (Ma 0) (Ma 1) (Ma 2) (Ma 3) (Ma 4) (Ma 5) (Ma 6) (Ma 7) (Ma 8) (Ma 9) (Ma 10) (Ma 11) (Ma 12) (Ma 13) (Ma 14) (Ma 15) (Ma 16) (Ma 17) (Ma 18) (Ma 19) (Ma 20) (Mv 0) (Mv 1) sv_233 sv_112 sv_113 (Mv 5) sv_114 sv_139 (Mv 8) sv_140 (Mv 10) (Mv 11) (Mv 12) (Mv 13) (Mv 14) sv_141 sv_142 sv_119 (Mj 0) r_239 b pf_145 ha_242 ha_243) k_1342 k_1339 k_1341 k_54 k_106 pl_X12_layDown ⟨Nat.le_of_ble_eq_true rfl, Nat.le_of_ble_eq_true rfl⟩ rfl rfl (va_recv hK hP (ci := 12) (q0 := 3) rfl rfl) hP hD hS [3, 0, 1, 2] [4] rfl rfl rfl rfl rfl (by decide) rfl hl.1 rfl (Nat.le_of_ble_eq_true rfl) dX12_tested_86 ⟨Nat.le_of_ble_eq_true rfl, Nat.le_of_ble_eq_true rfl⟩ (fun v_244 u_245 H locs hv_246 hP₀ hD₀ hS₀ => ?_)
              obtain ⟨sv_247, sv_248, sv_249, sv_250⟩ := u_245
              obtain ⟨rfl, pf_251, pf_252, pf_253, pf_254, pf_255⟩ := hv_246
              have pf_251 : LSR sv_119 sv_248 sv_249 sv_250 (Mv 5) b sv_114 := pf_251
              obtain ⟨pn_256, pf_257, pf_258⟩ := id pf_251
              have ar_pf_251 := LSR.ar pf_251
              have ar_pf_258 := Cd.ar pf_258
              have pf_252 : (sv_250 (Mv 5).toNatClampNeg).toInt + (sv_248 : Int32).toInt = (sv_142 (Mv 5).toNatClampNeg).toInt + (sv_140 : Int32).toInt ∧ 0 ≤ (sv_248 : Int32).toInt ∧ (sv_248 : Int32).toInt ≤ (sv_140 : Int32).toInt := pf_252
              have pf_253 : Agr sv_141 sv_249 (400 * ((Mv 5) : Int32).toInt + (sv_142 (Mv 5).toNatClampNeg).toInt) := pf_253
              have pf_254 : LdE sv_119 sv_248 r_239 := pf_254
              have pf_255 : InK sv_119 sv_140 sv_248 := pf_255
              refine W.eq (g2 := F0 m 89 ls []) rfl ?_
              replace hP : va_P D classes [((Ma 1), .inl (tc 2, 400, .inl (Mf 1))), ((Ma 0), .inr (12, [.ref (Ma 1), .int (Mv 0), .int (Mv 1), .ref (Ma 2), .ref (Ma 3), .ref (Ma 4), .ref (Ma 5), .ref (Ma 6), .int sv_233, .int sv_112, .int sv_113, .int (Mv 5), .int sv_114, .int sv_247, .int (Mv 8), .ref (Ma 7), .int sv_248, .ref (Ma 8), .int (Mv 10), .ref (Ma 9), .ref (Ma 10), .int (Mv 11), .int (Mv 12), .int (Mv 13), .ref (Ma 11), .int (Mv 14), .ref (Ma 12), .ref (Ma 13), .ref (Ma 14), .ref (Ma 15), .ref (Ma 16), .long (Mj 0), .ref (Ma 17), .ref (Ma 18), .ref (Ma 19), .ref (Ma 20)])), ((Ma 2), .inl (tc 0, 2400, .inl sv_249)), ((Ma 3), .inl (tc 0, 7, .inl sv_250)), ((Ma 7), .inl (tc 0, 400, .inl sv_119))] H := hP₀
              replace hD : va_D A [((Ma 1), .inl (tc 2, 400, .inl (Mf 1))), ((Ma 0), .inr (12, [.ref (Ma 1), .int (Mv 0), .int (Mv 1), .ref (Ma 2), .ref (Ma 3), .ref (Ma 4), .ref (Ma 5), .ref (Ma 6), .int sv_233, .int sv_112, .int sv_113, .int (Mv 5), .int sv_114, .int sv_247, .int (Mv 8), .ref (Ma 7), .int sv_248, .ref (Ma 8), .int (Mv 10), .ref (Ma 9), .ref (Ma 10), .int (Mv 11), .int (Mv 12), .int (Mv 13), .ref (Ma 11), .int (Mv 14), .ref (Ma 12), .ref (Ma 13), .ref (Ma 14), .ref (Ma 15), .ref (Ma 16), .long (Mj 0), .ref (Ma 17), .ref (Ma 18), .ref (Ma 19), .ref (Ma 20)])), ((Ma 2), .inl (tc 0, 2400, .inl sv_249)), ((Ma 3), .inl (tc 0, 7, .inl sv_250)), ((Ma 7), .inl (tc 0, 400, .inl sv_119))] := hD₀
              replace hS := hS₀
              clear hP₀ hD₀ hS₀
              refine lv_aload_n hx hb dX12_tested_89 rfl (lv_at hl 2 rfl) ?_
              refine gf_X12_29 hx hb hts hown hK hP 1 rfl rfl dX12_tested_90 ?_
              refine lv_aload_n hx hb dX12_tested_93 rfl (lv_at hl 2 rfl) ?_
              refine gf_X12_154 hx hb hts hown hK hP 1 rfl rfl dX12_tested_94 ?_
              refine lv_iload_n hx hb dX12_tested_97 rfl (lv_at hl 0 rfl) ?_
              have hi_259 : vp_in sv_248 400 := by
                have z_1 : ¬ (vy_20 : Int32).toInt = (0 : Int32).toInt := fun z => c_32 (Int32.toInt_inj.mp z)
                have z_2 : ¬ (r_123 : Int32).toInt = (0 : Int32).toInt := fun z => c_127 (Int32.toInt_inj.mp z)
                have z_3 : ¬ (r_158 : Int32).toInt = (0 : Int32).toInt := fun z => c_162 (Int32.toInt_inj.mp z)
                have z_4 : ¬ (r_174 : Int32).toInt = (0 : Int32).toInt := fun z => c_180 (Int32.toInt_inj.mp z)
                have y_0 : (0 : Int32).toInt = 0 := by decide
                refine vp_in_iff.mpr ⟨?_, ?_⟩ <;> omega
              refine st_int hx hb hK hP hD hS 4 0 rfl rfl hi_259 dX12_tested_98 (fun g_260 H locs eg_260 hP₀ hD₀ hS₀ => ?_)
              replace hP : va_P D classes [((Ma 1), .inl (tc 2, 400, .inl (Mf 1))), ((Ma 0), .inr (12, [.ref (Ma 1), .int (Mv 0), .int (Mv 1), .ref (Ma 2), .ref (Ma 3), .ref (Ma 4), .ref (Ma 5), .ref (Ma 6), .int sv_233, .int sv_112, .int sv_113, .int (Mv 5), .int sv_114, .int sv_247, .int (Mv 8), .ref (Ma 7), .int sv_248, .ref (Ma 8), .int (Mv 10), .ref (Ma 9), .ref (Ma 10), .int (Mv 11), .int (Mv 12), .int (Mv 13), .ref (Ma 11), .int (Mv 14), .ref (Ma 12), .ref (Ma 13), .ref (Ma 14), .ref (Ma 15), .ref (Ma 16), .long (Mj 0), .ref (Ma 17), .ref (Ma 18), .ref (Ma 19), .ref (Ma 20)])), ((Ma 2), .inl (tc 0, 2400, .inl sv_249)), ((Ma 3), .inl (tc 0, 7, .inl sv_250)), ((Ma 7), .inl (tc 0, 400, .inl g_260))] H := hP₀
              replace hD : va_D A [((Ma 1), .inl (tc 2, 400, .inl (Mf 1))), ((Ma 0), .inr (12, [.ref (Ma 1), .int (Mv 0), .int (Mv 1), .ref (Ma 2), .ref (Ma 3), .ref (Ma 4), .ref (Ma 5), .ref (Ma 6), .int sv_233, .int sv_112, .int sv_113, .int (Mv 5), .int sv_114, .int sv_247, .int (Mv 8), .ref (Ma 7), .int sv_248, .ref (Ma 8), .int (Mv 10), .ref (Ma 9), .ref (Ma 10), .int (Mv 11), .int (Mv 12), .int (Mv 13), .ref (Ma 11), .int (Mv 14), .ref (Ma 12), .ref (Ma 13), .ref (Ma 14), .ref (Ma 15), .ref (Ma 16), .long (Mj 0), .ref (Ma 17), .ref (Ma 18), .ref (Ma 19), .ref (Ma 20)])), ((Ma 2), .inl (tc 0, 2400, .inl sv_249)), ((Ma 3), .inl (tc 0, 7, .inl sv_250)), ((Ma 7), .inl (tc 0, 400, .inl g_260))] := hD₀
              replace hS := hS₀
              clear hP₀ hD₀ hS₀
              refine lv_aload_n hx hb dX12_tested_99 rfl (lv_at hl 2 rfl) ?_
              refine lv_dup hx hb dX12_tested_100 rfl ?_
              refine gf_X12_154 hx hb hts hown hK hP 1 rfl rfl dX12_tested_101 ?_
              refine lv_iconst (v := 1) hx hb dX12_tested_104 (by decide) ?_
              refine lv_iadd hx hb dX12_tested_105 ?_
              refine lv_topi (fun x_261 ex_261 => ?_)
              refine pf_X12_154 hx hb hts hown hK hP hD hS 1 rfl (Nat.le_of_ble_eq_true rfl) rfl rfl dX12_tested_106 (fun H locs hP₀ hD₀ hS₀ => ?_)
              replace hP : va_P D classes [((Ma 1), .inl (tc 2, 400, .inl (Mf 1))), ((Ma 0), .inr (12, [.ref (Ma 1), .int (Mv 0), .int (Mv 1), .ref (Ma 2), .ref (Ma 3), .ref (Ma 4), .ref (Ma 5), .ref (Ma 6), .int sv_233, .int sv_112, .int sv_113, .int (Mv 5), .int sv_114, .int sv_247, .int (Mv 8), .ref (Ma 7), .int x_261, .ref (Ma 8), .int (Mv 10), .ref (Ma 9), .ref (Ma 10), .int (Mv 11), .int (Mv 12), .int (Mv 13), .ref (Ma 11), .int (Mv 14), .ref (Ma 12), .ref (Ma 13), .ref (Ma 14), .ref (Ma 15), .ref (Ma 16), .long (Mj 0), .ref (Ma 17), .ref (Ma 18), .ref (Ma 19), .ref (Ma 20)])), ((Ma 2), .inl (tc 0, 2400, .inl sv_249)), ((Ma 3), .inl (tc 0, 7, .inl sv_250)), ((Ma 7), .inl (tc 0, 400, .inl g_260))] H := hP₀
              replace hD : va_D A [((Ma 1), .inl (tc 2, 400, .inl (Mf 1))), ((Ma 0), .inr (12, [.ref (Ma 1), .int (Mv 0), .int (Mv 1), .ref (Ma 2), .ref (Ma 3), .ref (Ma 4), .ref (Ma 5), .ref (Ma 6), .int sv_233, .int sv_112, .int sv_113, .int (Mv 5), .int sv_114, .int sv_247, .int (Mv 8), .ref (Ma 7), .int x_261, .ref (Ma 8), .int (Mv 10), .ref (Ma 9), .ref (Ma 10), .int (Mv 11), .int (Mv 12), .int (Mv 13), .ref (Ma 11), .int (Mv 14), .ref (Ma 12), .ref (Ma 13), .ref (Ma 14), .ref (Ma 15), .ref (Ma 16), .long (Mj 0), .ref (Ma 17), .ref (Ma 18), .ref (Ma 19), .ref (Ma 20)])), ((Ma 2), .inl (tc 0, 2400, .inl sv_249)), ((Ma 3), .inl (tc 0, 7, .inl sv_250)), ((Ma 7), .inl (tc 0, 400, .inl g_260))] := hD₀
              replace hS := hS₀
              clear hP₀ hD₀ hS₀
              have tp_x_261 : (x_261 : Int32).toInt = (sv_248 : Int32).toInt + 1 := by
                have z_1 : ¬ (vy_20 : Int32).toInt = (0 : Int32).toInt := fun z => c_32 (Int32.toInt_inj.mp z)
                have z_2 : ¬ (r_123 : Int32).toInt = (0 : Int32).toInt := fun z => c_127 (Int32.toInt_inj.mp z)
                have z_3 : ¬ (r_158 : Int32).toInt = (0 : Int32).toInt := fun z => c_162 (Int32.toInt_inj.mp z)
                have z_4 : ¬ (r_174 : Int32).toInt = (0 : Int32).toInt := fun z => c_180 (Int32.toInt_inj.mp z)
                have y_0 : (0 : Int32).toInt = 0 := by decide
                have y_1 : (1 : Int32).toInt = 1 := by decide
                have t_x_261 : x_261.toInt = (sv_248 : Int32).toInt + (1 : Int32).toInt := by rw [ex_261]; exact add_toInt (by omega) (by omega)
                omega
              refine lv_goto (tgt := 12) hx hb dX12_tested_109 (by decide) ?_
              have hb_262 : 2 * (401 - (sv_233 : Int32).toInt) + (1 : Int32).toInt < 2 * (401 - (vy_11 : Int32).toInt) + (vy_20 : Int32).toInt ∧ 1 ≤ 2 * (401 - (vy_11 : Int32).toInt) + (vy_20 : Int32).toInt := by
                have z_1 : ¬ (vy_20 : Int32).toInt = (0 : Int32).toInt := fun z => c_32 (Int32.toInt_inj.mp z)
                have z_2 : ¬ (r_123 : Int32).toInt = (0 : Int32).toInt := fun z => c_127 (Int32.toInt_inj.mp z)
                have z_3 : ¬ (r_158 : Int32).toInt = (0 : Int32).toInt := fun z => c_162 (Int32.toInt_inj.mp z)
                have z_4 : ¬ (r_174 : Int32).toInt = (0 : Int32).toInt := fun z => c_180 (Int32.toInt_inj.mp z)
                have y_0 : (0 : Int32).toInt = 0 := by decide
                have y_1 : (1 : Int32).toInt = 1 := by decide
                refine ⟨?_, ?_⟩ <;> omega
              have ha_263 : 0 ≤ (sv_233 : Int32).toInt ∧ (sv_233 : Int32).toInt ≤ ((Mv 0) : Int32).toInt ∧ ((Mv 0) : Int32).toInt ≤ 400 := by
                have z_1 : ¬ (vy_20 : Int32).toInt = (0 : Int32).toInt := fun z => c_32 (Int32.toInt_inj.mp z)
                have z_2 : ¬ (r_123 : Int32).toInt = (0 : Int32).toInt := fun z => c_127 (Int32.toInt_inj.mp z)
                have z_3 : ¬ (r_158 : Int32).toInt = (0 : Int32).toInt := fun z => c_162 (Int32.toInt_inj.mp z)
                have z_4 : ¬ (r_174 : Int32).toInt = (0 : Int32).toInt := fun z => c_180 (Int32.toInt_inj.mp z)
                have y_0 : (0 : Int32).toInt = 0 := by decide
                refine ⟨?_, ?_, ?_⟩ <;> omega
              have ha_264 : (Mv 2).toInt ≤ (sv_233 : Int32).toInt := by
                have z_1 : ¬ (vy_20 : Int32).toInt = (0 : Int32).toInt := fun z => c_32 (Int32.toInt_inj.mp z)
                have z_2 : ¬ (r_123 : Int32).toInt = (0 : Int32).toInt := fun z => c_127 (Int32.toInt_inj.mp z)
                have z_3 : ¬ (r_158 : Int32).toInt = (0 : Int32).toInt := fun z => c_162 (Int32.toInt_inj.mp z)
                have z_4 : ¬ (r_174 : Int32).toInt = (0 : Int32).toInt := fun z => c_180 (Int32.toInt_inj.mp z)
                have y_0 : (0 : Int32).toInt = 0 := by decide
                omega
              have ha_265 : 0 ≤ (1 : Int32).toInt ∧ (1 : Int32).toInt ≤ 1 := by
                have z_1 : ¬ (vy_20 : Int32).toInt = (0 : Int32).toInt := fun z => c_32 (Int32.toInt_inj.mp z)
                have z_2 : ¬ (r_123 : Int32).toInt = (0 : Int32).toInt := fun z => c_127 (Int32.toInt_inj.mp z)
                have z_3 : ¬ (r_158 : Int32).toInt = (0 : Int32).toInt := fun z => c_162 (Int32.toInt_inj.mp z)
                have z_4 : ¬ (r_174 : Int32).toInt = (0 : Int32).toInt := fun z => c_180 (Int32.toInt_inj.mp z)
                have y_0 : (0 : Int32).toInt = 0 := by decide
                have y_1 : (1 : Int32).toInt = 1 := by decide
                refine ⟨?_, ?_⟩ <;> omega
              have ha_266 : (Mv 6).toInt ≤ (sv_114 : Int32).toInt ∧ (sv_114 : Int32).toInt ≤ 60 := by
                have z_1 : ¬ (vy_20 : Int32).toInt = (0 : Int32).toInt := fun z => c_32 (Int32.toInt_inj.mp z)
                have z_2 : ¬ (r_123 : Int32).toInt = (0 : Int32).toInt := fun z => c_127 (Int32.toInt_inj.mp z)
                have z_3 : ¬ (r_158 : Int32).toInt = (0 : Int32).toInt := fun z => c_162 (Int32.toInt_inj.mp z)
                have z_4 : ¬ (r_174 : Int32).toInt = (0 : Int32).toInt := fun z => c_180 (Int32.toInt_inj.mp z)
                have y_0 : (0 : Int32).toInt = 0 := by decide
                refine ⟨?_, ?_⟩ <;> omega
              have hi_267 : (x_261 : Int32).toInt = (sv_248 : Int32).toInt + 1 := by
                have z_1 : ¬ (vy_20 : Int32).toInt = (0 : Int32).toInt := fun z => c_32 (Int32.toInt_inj.mp z)
                have z_2 : ¬ (r_123 : Int32).toInt = (0 : Int32).toInt := fun z => c_127 (Int32.toInt_inj.mp z)
                have z_3 : ¬ (r_158 : Int32).toInt = (0 : Int32).toInt := fun z => c_162 (Int32.toInt_inj.mp z)
                have z_4 : ¬ (r_174 : Int32).toInt = (0 : Int32).toInt := fun z => c_180 (Int32.toInt_inj.mp z)
                have y_0 : (0 : Int32).toInt = 0 := by decide
                have y_1 : (1 : Int32).toInt = 1 := by decide
                have t_x_261 : x_261.toInt = (sv_248 : Int32).toInt + (1 : Int32).toInt := by rw [ex_261]; exact add_toInt (by omega) (by omega)
                omega
              have hr_268 : (sv_248 : Int32).toInt < 400 := by
                have z_1 : ¬ (vy_20 : Int32).toInt = (0 : Int32).toInt := fun z => c_32 (Int32.toInt_inj.mp z)
                have z_2 : ¬ (r_123 : Int32).toInt = (0 : Int32).toInt := fun z => c_127 (Int32.toInt_inj.mp z)
                have z_3 : ¬ (r_158 : Int32).toInt = (0 : Int32).toInt := fun z => c_162 (Int32.toInt_inj.mp z)
                have z_4 : ¬ (r_174 : Int32).toInt = (0 : Int32).toInt := fun z => c_180 (Int32.toInt_inj.mp z)
                have y_0 : (0 : Int32).toInt = 0 := by decide
                omega
              have hr_269 : (12 : Int32).toInt = 12 ∨ (12 : Int32).toInt = 13 := by
                have z_1 : ¬ (vy_20 : Int32).toInt = (0 : Int32).toInt := fun z => c_32 (Int32.toInt_inj.mp z)
                have z_2 : ¬ (r_123 : Int32).toInt = (0 : Int32).toInt := fun z => c_127 (Int32.toInt_inj.mp z)
                have z_3 : ¬ (r_158 : Int32).toInt = (0 : Int32).toInt := fun z => c_162 (Int32.toInt_inj.mp z)
                have z_4 : ¬ (r_174 : Int32).toInt = (0 : Int32).toInt := fun z => c_180 (Int32.toInt_inj.mp z)
                have y_0 : (0 : Int32).toInt = 0 := by decide
                have y_12 : (12 : Int32).toInt = 12 := by decide
                omega
              have ha_270 : (sv_250 (Mv 5).toNatClampNeg).toInt + (x_261 : Int32).toInt ≤ (sv_233 : Int32).toInt ∧ ((Mf 3) (Mv 5).toNatClampNeg).toInt ≤ (sv_250 (Mv 5).toNatClampNeg).toInt ∧ 0 ≤ (x_261 : Int32).toInt ∧ (x_261 : Int32).toInt ≤ 400 := by
                have z_1 : ¬ (vy_20 : Int32).toInt = (0 : Int32).toInt := fun z => c_32 (Int32.toInt_inj.mp z)
                have z_2 : ¬ (r_123 : Int32).toInt = (0 : Int32).toInt := fun z => c_127 (Int32.toInt_inj.mp z)
                have z_3 : ¬ (r_158 : Int32).toInt = (0 : Int32).toInt := fun z => c_162 (Int32.toInt_inj.mp z)
                have z_4 : ¬ (r_174 : Int32).toInt = (0 : Int32).toInt := fun z => c_180 (Int32.toInt_inj.mp z)
                have y_0 : (0 : Int32).toInt = 0 := by decide
                have y_1 : (1 : Int32).toInt = 1 := by decide
                have t_x_261 : x_261.toInt = (sv_248 : Int32).toInt + (1 : Int32).toInt := by rw [ex_261]; exact add_toInt (by omega) (by omega)
                refine ⟨?_, ?_, ?_, ?_⟩ <;> omega
              have hr_271 : (400 * ((Mv 5) : Int32).toInt + ((Mf 3) (Mv 5).toNatClampNeg).toInt) ≤ (400 * ((Mv 5) : Int32).toInt + ((Mf 3) (Mv 5).toNatClampNeg).toInt) := by
                have z_1 : ¬ (vy_20 : Int32).toInt = (0 : Int32).toInt := fun z => c_32 (Int32.toInt_inj.mp z)
                have z_2 : ¬ (r_123 : Int32).toInt = (0 : Int32).toInt := fun z => c_127 (Int32.toInt_inj.mp z)
                have z_3 : ¬ (r_158 : Int32).toInt = (0 : Int32).toInt := fun z => c_162 (Int32.toInt_inj.mp z)
                have z_4 : ¬ (r_174 : Int32).toInt = (0 : Int32).toInt := fun z => c_180 (Int32.toInt_inj.mp z)
                have y_0 : (0 : Int32).toInt = 0 := by decide
                omega
              have hr_272 : (400 * ((Mv 5) : Int32).toInt + ((Mf 3) (Mv 5).toNatClampNeg).toInt) ≤ (400 * ((Mv 5) : Int32).toInt + (vy_18 (Mv 5).toNatClampNeg).toInt) := by
                have z_1 : ¬ (vy_20 : Int32).toInt = (0 : Int32).toInt := fun z => c_32 (Int32.toInt_inj.mp z)
                have z_2 : ¬ (r_123 : Int32).toInt = (0 : Int32).toInt := fun z => c_127 (Int32.toInt_inj.mp z)
                have z_3 : ¬ (r_158 : Int32).toInt = (0 : Int32).toInt := fun z => c_162 (Int32.toInt_inj.mp z)
                have z_4 : ¬ (r_174 : Int32).toInt = (0 : Int32).toInt := fun z => c_180 (Int32.toInt_inj.mp z)
                have y_0 : (0 : Int32).toInt = 0 := by decide
                omega
              have hr_273 : (400 * ((Mv 5) : Int32).toInt + ((Mf 3) (Mv 5).toNatClampNeg).toInt) ≤ (400 * ((Mv 5) : Int32).toInt + (sv_118 (Mv 5).toNatClampNeg).toInt) := by
                have z_1 : ¬ (vy_20 : Int32).toInt = (0 : Int32).toInt := fun z => c_32 (Int32.toInt_inj.mp z)
                have z_2 : ¬ (r_123 : Int32).toInt = (0 : Int32).toInt := fun z => c_127 (Int32.toInt_inj.mp z)
                have z_3 : ¬ (r_158 : Int32).toInt = (0 : Int32).toInt := fun z => c_162 (Int32.toInt_inj.mp z)
                have z_4 : ¬ (r_174 : Int32).toInt = (0 : Int32).toInt := fun z => c_180 (Int32.toInt_inj.mp z)
                have y_0 : (0 : Int32).toInt = 0 := by decide
                omega
              have hr_274 : (400 * ((Mv 5) : Int32).toInt + ((Mf 3) (Mv 5).toNatClampNeg).toInt) ≤ (400 * ((Mv 5) : Int32).toInt + (sv_142 (Mv 5).toNatClampNeg).toInt) := by
                have z_1 : ¬ (vy_20 : Int32).toInt = (0 : Int32).toInt := fun z => c_32 (Int32.toInt_inj.mp z)
                have z_2 : ¬ (r_123 : Int32).toInt = (0 : Int32).toInt := fun z => c_127 (Int32.toInt_inj.mp z)
                have z_3 : ¬ (r_158 : Int32).toInt = (0 : Int32).toInt := fun z => c_162 (Int32.toInt_inj.mp z)
                have z_4 : ¬ (r_174 : Int32).toInt = (0 : Int32).toInt := fun z => c_180 (Int32.toInt_inj.mp z)
                have y_0 : (0 : Int32).toInt = 0 := by decide
                omega
              exact ih_22 sv_233 sv_112 sv_113 sv_114 sv_247 x_261 sv_249 sv_250 g_260 1 _ _ _ (by omega) ha_263 ha_264 ha_265 ha_266 ⟨fun _ => LSR.open2 pf_251 eg_260 hi_267 hr_268 hr_269, fun h => absurd h (by decide)⟩ ha_270 (Agr.trans (k' := (400 * ((Mv 5) : Int32).toInt + ((Mf 3) (Mv 5).toNatClampNeg).toInt)) (Agr.trans (k' := (400 * ((Mv 5) : Int32).toInt + ((Mf 3) (Mv 5).toNatClampNeg).toInt)) (Agr.trans (k' := (400 * ((Mv 5) : Int32).toInt + ((Mf 3) (Mv 5).toNatClampNeg).toInt)) (Agr.mono pf_30 hr_271) pf_122 ⟨Int.le_refl _, hr_272⟩) pf_144 ⟨Int.le_refl _, hr_273⟩) pf_253 ⟨Int.le_refl _, hr_274⟩) (hP.sub [1, 0, 2, 3, 4] rfl) (hD.sub [1, 0, 2, 3, 4] rfl rfl) hS (lv_sub hl [1, 2] rfl)
          · skip
            refine lv_aload_n hx hb dX12_tested_39 rfl (lv_at hl 1 rfl) ?_
            refine lv_ldc2 hx hb hown (hts _ k_1351) dX12_tested_40 ?_
            have ha_275 : 0 ≤ (sv_154 : Int32).toInt ∧ (sv_154 : Int32).toInt ≤ ((Mv 0) : Int32).toInt ∧ ((Mv 0) : Int32).toInt ≤ 400 := by
              have z_1 : ¬ (vy_20 : Int32).toInt = (0 : Int32).toInt := fun z => c_32 (Int32.toInt_inj.mp z)
              have z_2 : ¬ (r_123 : Int32).toInt = (0 : Int32).toInt := fun z => c_127 (Int32.toInt_inj.mp z)
              have z_3 := congrArg Int32.toInt c_162
              have y_0 : (0 : Int32).toInt = 0 := by decide
              refine ⟨?_, ?_, ?_⟩ <;> omega
            refine cV (a := (Ma 0)) (As := [.long 28530]) (rest := []) (wr := [((Ma 2), .inl (tc 0, 2400, .inl sv_141)), ((Ma 3), .inl (tc 0, 7, .inl sv_142)), ((Ma 7), .inl (tc 0, 400, .inl sv_119))]) ⟨hx, hb, hml, hown, hts⟩ hK hX hA (cu_X12_isWord l D tc sk (Ma 0) (Ma 1) (Ma 2) (Ma 3) (Ma 4) (Ma 5) (Ma 6) (Ma 7) (Ma 8) (Ma 9) (Ma 10) (Ma 11) (Ma 12) (Ma 13) (Ma 14) (Ma 15) (Ma 16) (Ma 17) (Ma 18) (Ma 19) (Ma 20) (Mv 0) (Mv 1) sv_154 sv_112 sv_113 (Mv 5) sv_114 sv_139 (Mv 8) sv_140 (Mv 10) (Mv 11) (Mv 12) (Mv 13) (Mv 14) (Mf 1) (Mj 0) 28530 ha_275) k_1220 k_1217 k_1219 k_29 k_106 pl_X12_isWord ⟨Nat.le_of_ble_eq_true rfl, Nat.le_of_ble_eq_true rfl⟩ rfl rfl (va_recv hK hP (ci := 12) (q0 := 3) rfl rfl) hP hD hS [3, 4] [0, 1, 2] rfl rfl rfl rfl rfl (by decide) rfl hl.1 rfl (Nat.le_of_ble_eq_true rfl) dX12_tested_43 ⟨Nat.le_of_ble_eq_true rfl, Nat.le_of_ble_eq_true rfl⟩ (fun v_276 u_277 H locs hv_278 hP₀ hD₀ hS₀ => ?_)
            obtain ⟨sv_279, rfl⟩ : ∃ z, z = u_277 := ⟨_, rfl⟩
            obtain ⟨r_283, rfl, he_284, pf_280, pf_281, pf_282, hm_286⟩ := hv_278
            have he_284 : (r_283.toInt = 0 ∨ r_283.toInt = 1) := he_284
            have pf_280 : (sv_154 : Int32).toInt ≤ (sv_279 : Int32).toInt ∧ (sv_279 : Int32).toInt ≤ ((Mv 0) : Int32).toInt := pf_280
            have pf_281 : NSq (Mf 1) (Mv 0) sv_279 := pf_281
            have pf_282 : Stl (Mf 1) (Mv 0) sv_154 sv_279 := pf_282
            have ar_pf_282 := Stl.or pf_282 pf_156
            refine W.eq (g2 := F0 m 46 ls [.int r_283]) rfl ?_
            replace hP : va_P D classes [((Ma 2), .inl (tc 0, 2400, .inl sv_141)), ((Ma 3), .inl (tc 0, 7, .inl sv_142)), ((Ma 7), .inl (tc 0, 400, .inl sv_119)), ((Ma 0), .inr (12, [.ref (Ma 1), .int (Mv 0), .int (Mv 1), .ref (Ma 2), .ref (Ma 3), .ref (Ma 4), .ref (Ma 5), .ref (Ma 6), .int sv_279, .int sv_112, .int sv_113, .int (Mv 5), .int sv_114, .int sv_139, .int (Mv 8), .ref (Ma 7), .int sv_140, .ref (Ma 8), .int (Mv 10), .ref (Ma 9), .ref (Ma 10), .int (Mv 11), .int (Mv 12), .int (Mv 13), .ref (Ma 11), .int (Mv 14), .ref (Ma 12), .ref (Ma 13), .ref (Ma 14), .ref (Ma 15), .ref (Ma 16), .long (Mj 0), .ref (Ma 17), .ref (Ma 18), .ref (Ma 19), .ref (Ma 20)])), ((Ma 1), .inl (tc 2, 400, .inl (Mf 1)))] H := hP₀
            replace hD : va_D A [((Ma 2), .inl (tc 0, 2400, .inl sv_141)), ((Ma 3), .inl (tc 0, 7, .inl sv_142)), ((Ma 7), .inl (tc 0, 400, .inl sv_119)), ((Ma 0), .inr (12, [.ref (Ma 1), .int (Mv 0), .int (Mv 1), .ref (Ma 2), .ref (Ma 3), .ref (Ma 4), .ref (Ma 5), .ref (Ma 6), .int sv_279, .int sv_112, .int sv_113, .int (Mv 5), .int sv_114, .int sv_139, .int (Mv 8), .ref (Ma 7), .int sv_140, .ref (Ma 8), .int (Mv 10), .ref (Ma 9), .ref (Ma 10), .int (Mv 11), .int (Mv 12), .int (Mv 13), .ref (Ma 11), .int (Mv 14), .ref (Ma 12), .ref (Ma 13), .ref (Ma 14), .ref (Ma 15), .ref (Ma 16), .long (Mj 0), .ref (Ma 17), .ref (Ma 18), .ref (Ma 19), .ref (Ma 20)])), ((Ma 1), .inl (tc 2, 400, .inl (Mf 1)))] := hD₀
            replace hS := hS₀
            clear hP₀ hD₀ hS₀
            refine lv_if_eq (tgt := 53) hx hb dX12_tested_46 (by decide) (fun c_287 => ?_) (fun c_287 => ?_)
            · skip
              refine lv_iconst (v := 0) hx hb dX12_tested_53 (by decide) ?_
              refine lv_istore_n (lv' := [(1, .int 0), (0, .ref (Ma 0))]) hx hb dX12_tested_54 rfl hl (by decide) rfl (fun ls hl₀ => ?_)
              replace hl := hl₀
              clear hl₀
              refine lv_iload_n hx hb dX12_tested_55 rfl (lv_at hl 0 rfl) ?_
              refine lv_if_eq (tgt := 12) hx hb dX12_tested_56 (by decide) (fun c_288 => ?_) (fun c_288 => absurd c_288 (by decide))
              have hb_289 : 2 * (401 - (sv_279 : Int32).toInt) + (0 : Int32).toInt < 2 * (401 - (vy_11 : Int32).toInt) + (vy_20 : Int32).toInt ∧ 1 ≤ 2 * (401 - (vy_11 : Int32).toInt) + (vy_20 : Int32).toInt := by
                have z_1 : ¬ (vy_20 : Int32).toInt = (0 : Int32).toInt := fun z => c_32 (Int32.toInt_inj.mp z)
                have z_2 : ¬ (r_123 : Int32).toInt = (0 : Int32).toInt := fun z => c_127 (Int32.toInt_inj.mp z)
                have z_3 := congrArg Int32.toInt c_162
                have z_4 := congrArg Int32.toInt c_287
                have y_0 : (0 : Int32).toInt = 0 := by decide
                refine ⟨?_, ?_⟩ <;> omega
              have ha_290 : 0 ≤ (sv_279 : Int32).toInt ∧ (sv_279 : Int32).toInt ≤ ((Mv 0) : Int32).toInt ∧ ((Mv 0) : Int32).toInt ≤ 400 := by
                have z_1 : ¬ (vy_20 : Int32).toInt = (0 : Int32).toInt := fun z => c_32 (Int32.toInt_inj.mp z)
                have z_2 : ¬ (r_123 : Int32).toInt = (0 : Int32).toInt := fun z => c_127 (Int32.toInt_inj.mp z)
                have z_3 := congrArg Int32.toInt c_162
                have z_4 := congrArg Int32.toInt c_287
                have y_0 : (0 : Int32).toInt = 0 := by decide
                refine ⟨?_, ?_, ?_⟩ <;> omega
              have ha_291 : (Mv 2).toInt ≤ (sv_279 : Int32).toInt := by
                have z_1 : ¬ (vy_20 : Int32).toInt = (0 : Int32).toInt := fun z => c_32 (Int32.toInt_inj.mp z)
                have z_2 : ¬ (r_123 : Int32).toInt = (0 : Int32).toInt := fun z => c_127 (Int32.toInt_inj.mp z)
                have z_3 := congrArg Int32.toInt c_162
                have z_4 := congrArg Int32.toInt c_287
                have y_0 : (0 : Int32).toInt = 0 := by decide
                omega
              have ha_292 : 0 ≤ (0 : Int32).toInt ∧ (0 : Int32).toInt ≤ 1 := by
                have z_1 : ¬ (vy_20 : Int32).toInt = (0 : Int32).toInt := fun z => c_32 (Int32.toInt_inj.mp z)
                have z_2 : ¬ (r_123 : Int32).toInt = (0 : Int32).toInt := fun z => c_127 (Int32.toInt_inj.mp z)
                have z_3 := congrArg Int32.toInt c_162
                have z_4 := congrArg Int32.toInt c_287
                have y_0 : (0 : Int32).toInt = 0 := by decide
                refine ⟨?_, ?_⟩ <;> omega
              have ha_293 : (Mv 6).toInt ≤ (sv_114 : Int32).toInt ∧ (sv_114 : Int32).toInt ≤ 60 := by
                have z_1 : ¬ (vy_20 : Int32).toInt = (0 : Int32).toInt := fun z => c_32 (Int32.toInt_inj.mp z)
                have z_2 : ¬ (r_123 : Int32).toInt = (0 : Int32).toInt := fun z => c_127 (Int32.toInt_inj.mp z)
                have z_3 := congrArg Int32.toInt c_162
                have z_4 := congrArg Int32.toInt c_287
                have y_0 : (0 : Int32).toInt = 0 := by decide
                refine ⟨?_, ?_⟩ <;> omega
              have ha_294 : (sv_142 (Mv 5).toNatClampNeg).toInt + (sv_140 : Int32).toInt ≤ (sv_279 : Int32).toInt ∧ ((Mf 3) (Mv 5).toNatClampNeg).toInt ≤ (sv_142 (Mv 5).toNatClampNeg).toInt ∧ 0 ≤ (sv_140 : Int32).toInt ∧ (sv_140 : Int32).toInt ≤ 400 := by
                have z_1 : ¬ (vy_20 : Int32).toInt = (0 : Int32).toInt := fun z => c_32 (Int32.toInt_inj.mp z)
                have z_2 : ¬ (r_123 : Int32).toInt = (0 : Int32).toInt := fun z => c_127 (Int32.toInt_inj.mp z)
                have z_3 := congrArg Int32.toInt c_162
                have z_4 := congrArg Int32.toInt c_287
                have y_0 : (0 : Int32).toInt = 0 := by decide
                refine ⟨?_, ?_, ?_, ?_⟩ <;> omega
              have hr_295 : (400 * ((Mv 5) : Int32).toInt + ((Mf 3) (Mv 5).toNatClampNeg).toInt) ≤ (400 * ((Mv 5) : Int32).toInt + ((Mf 3) (Mv 5).toNatClampNeg).toInt) := by
                have z_1 : ¬ (vy_20 : Int32).toInt = (0 : Int32).toInt := fun z => c_32 (Int32.toInt_inj.mp z)
                have z_2 : ¬ (r_123 : Int32).toInt = (0 : Int32).toInt := fun z => c_127 (Int32.toInt_inj.mp z)
                have z_3 := congrArg Int32.toInt c_162
                have z_4 := congrArg Int32.toInt c_287
                have y_0 : (0 : Int32).toInt = 0 := by decide
                omega
              have hr_296 : (400 * ((Mv 5) : Int32).toInt + ((Mf 3) (Mv 5).toNatClampNeg).toInt) ≤ (400 * ((Mv 5) : Int32).toInt + (vy_18 (Mv 5).toNatClampNeg).toInt) := by
                have z_1 : ¬ (vy_20 : Int32).toInt = (0 : Int32).toInt := fun z => c_32 (Int32.toInt_inj.mp z)
                have z_2 : ¬ (r_123 : Int32).toInt = (0 : Int32).toInt := fun z => c_127 (Int32.toInt_inj.mp z)
                have z_3 := congrArg Int32.toInt c_162
                have z_4 := congrArg Int32.toInt c_287
                have y_0 : (0 : Int32).toInt = 0 := by decide
                omega
              have hr_297 : (400 * ((Mv 5) : Int32).toInt + ((Mf 3) (Mv 5).toNatClampNeg).toInt) ≤ (400 * ((Mv 5) : Int32).toInt + (sv_118 (Mv 5).toNatClampNeg).toInt) := by
                have z_1 : ¬ (vy_20 : Int32).toInt = (0 : Int32).toInt := fun z => c_32 (Int32.toInt_inj.mp z)
                have z_2 : ¬ (r_123 : Int32).toInt = (0 : Int32).toInt := fun z => c_127 (Int32.toInt_inj.mp z)
                have z_3 := congrArg Int32.toInt c_162
                have z_4 := congrArg Int32.toInt c_287
                have y_0 : (0 : Int32).toInt = 0 := by decide
                omega
              exact ih_22 sv_279 sv_112 sv_113 sv_114 sv_139 sv_140 sv_141 sv_142 sv_119 0 _ _ _ (by omega) ha_290 ha_291 ha_292 ha_293 ⟨fun h => absurd h (by decide), fun _ => pf_145⟩ ha_294 (Agr.trans (k' := (400 * ((Mv 5) : Int32).toInt + ((Mf 3) (Mv 5).toNatClampNeg).toInt)) (Agr.trans (k' := (400 * ((Mv 5) : Int32).toInt + ((Mf 3) (Mv 5).toNatClampNeg).toInt)) (Agr.mono pf_30 hr_295) pf_122 ⟨Int.le_refl _, hr_296⟩) pf_144 ⟨Int.le_refl _, hr_297⟩) (hP.sub [3, 4, 0, 1, 2] rfl) (hD.sub [3, 4, 0, 1, 2] rfl rfl) hS (lv_sub hl [0, 1] rfl)
            · skip
              have hz_299 : (r_283 : Int32).toInt = 1 := by
                have z_1 : ¬ (vy_20 : Int32).toInt = (0 : Int32).toInt := fun z => c_32 (Int32.toInt_inj.mp z)
                have z_2 : ¬ (r_123 : Int32).toInt = (0 : Int32).toInt := fun z => c_127 (Int32.toInt_inj.mp z)
                have z_3 := congrArg Int32.toInt c_162
                have z_4 : ¬ (r_283 : Int32).toInt = (0 : Int32).toInt := fun z => c_287 (Int32.toInt_inj.mp z)
                have y_0 : (0 : Int32).toInt = 0 := by decide
                omega
              obtain pf_298 := hm_286 hz_299
              have pf_298 : Ltr (Mf 1) (Mv 0) sv_279 := pf_298
              have ar_pf_298 := pf_298.1
              refine lv_iconst (v := 1) hx hb dX12_tested_49 (by decide) ?_
              refine lv_goto (tgt := 54) hx hb dX12_tested_50 (by decide) ?_
              refine lv_istore_n (lv' := [(1, .int 1), (0, .ref (Ma 0))]) hx hb dX12_tested_54 rfl hl (by decide) rfl (fun ls hl₀ => ?_)
              replace hl := hl₀
              clear hl₀
              refine lv_iload_n hx hb dX12_tested_55 rfl (lv_at hl 0 rfl) ?_
              refine lv_if_eq (tgt := 12) hx hb dX12_tested_56 (by decide) (fun c_300 => absurd c_300 (by decide)) (fun c_300 => ?_)
              refine lv_aload_n hx hb dX12_tested_59 rfl (lv_at hl 1 rfl) ?_
              refine lv_ldc2 hx hb hown (hts _ k_1350) dX12_tested_60 ?_
              have ha_301 : 0 ≤ (sv_279 : Int32).toInt ∧ (sv_279 : Int32).toInt ≤ ((Mv 0) : Int32).toInt ∧ ((Mv 0) : Int32).toInt ≤ 400 := by
                have z_1 : ¬ (vy_20 : Int32).toInt = (0 : Int32).toInt := fun z => c_32 (Int32.toInt_inj.mp z)
                have z_2 : ¬ (r_123 : Int32).toInt = (0 : Int32).toInt := fun z => c_127 (Int32.toInt_inj.mp z)
                have z_3 := congrArg Int32.toInt c_162
                have z_4 : ¬ (r_283 : Int32).toInt = (0 : Int32).toInt := fun z => c_287 (Int32.toInt_inj.mp z)
                have y_0 : (0 : Int32).toInt = 0 := by decide
                refine ⟨?_, ?_, ?_⟩ <;> omega
              refine cV (a := (Ma 0)) (As := [.long 6385252]) (rest := []) (wr := [((Ma 2), .inl (tc 0, 2400, .inl sv_141)), ((Ma 3), .inl (tc 0, 7, .inl sv_142)), ((Ma 7), .inl (tc 0, 400, .inl sv_119))]) ⟨hx, hb, hml, hown, hts⟩ hK hX hA (cu_X12_isWord l D tc sk (Ma 0) (Ma 1) (Ma 2) (Ma 3) (Ma 4) (Ma 5) (Ma 6) (Ma 7) (Ma 8) (Ma 9) (Ma 10) (Ma 11) (Ma 12) (Ma 13) (Ma 14) (Ma 15) (Ma 16) (Ma 17) (Ma 18) (Ma 19) (Ma 20) (Mv 0) (Mv 1) sv_279 sv_112 sv_113 (Mv 5) sv_114 sv_139 (Mv 8) sv_140 (Mv 10) (Mv 11) (Mv 12) (Mv 13) (Mv 14) (Mf 1) (Mj 0) 6385252 ha_301) k_1220 k_1217 k_1219 k_29 k_106 pl_X12_isWord ⟨Nat.le_of_ble_eq_true rfl, Nat.le_of_ble_eq_true rfl⟩ rfl rfl (va_recv hK hP (ci := 12) (q0 := 3) rfl rfl) hP hD hS [3, 4] [0, 1, 2] rfl rfl rfl rfl rfl (by decide) rfl hl.1 rfl (Nat.le_of_ble_eq_true rfl) dX12_tested_63 ⟨Nat.le_of_ble_eq_true rfl, Nat.le_of_ble_eq_true rfl⟩ (fun v_302 u_303 H locs hv_304 hP₀ hD₀ hS₀ => ?_)
              obtain ⟨sv_305, rfl⟩ : ∃ z, z = u_303 := ⟨_, rfl⟩
              obtain ⟨r_309, rfl, he_310, pf_306, pf_307, pf_308, hm_312⟩ := hv_304
              have he_310 : (r_309.toInt = 0 ∨ r_309.toInt = 1) := he_310
              have pf_306 : (sv_279 : Int32).toInt ≤ (sv_305 : Int32).toInt ∧ (sv_305 : Int32).toInt ≤ ((Mv 0) : Int32).toInt := pf_306
              have pf_307 : NSq (Mf 1) (Mv 0) sv_305 := pf_307
              have pf_308 : Stl (Mf 1) (Mv 0) sv_279 sv_305 := pf_308
              have pf_313 := Stl.ltr pf_308 pf_298
              have ar_pf_313 := pf_313.2
              have pf_314 : Ltr (Mf 1) (Mv 0) sv_305 := pf_313.1
              have ar_pf_308 := Stl.or pf_308 pf_281
              refine W.eq (g2 := F0 m 66 ls [.int r_309]) rfl ?_
              replace hP : va_P D classes [((Ma 2), .inl (tc 0, 2400, .inl sv_141)), ((Ma 3), .inl (tc 0, 7, .inl sv_142)), ((Ma 7), .inl (tc 0, 400, .inl sv_119)), ((Ma 0), .inr (12, [.ref (Ma 1), .int (Mv 0), .int (Mv 1), .ref (Ma 2), .ref (Ma 3), .ref (Ma 4), .ref (Ma 5), .ref (Ma 6), .int sv_305, .int sv_112, .int sv_113, .int (Mv 5), .int sv_114, .int sv_139, .int (Mv 8), .ref (Ma 7), .int sv_140, .ref (Ma 8), .int (Mv 10), .ref (Ma 9), .ref (Ma 10), .int (Mv 11), .int (Mv 12), .int (Mv 13), .ref (Ma 11), .int (Mv 14), .ref (Ma 12), .ref (Ma 13), .ref (Ma 14), .ref (Ma 15), .ref (Ma 16), .long (Mj 0), .ref (Ma 17), .ref (Ma 18), .ref (Ma 19), .ref (Ma 20)])), ((Ma 1), .inl (tc 2, 400, .inl (Mf 1)))] H := hP₀
              replace hD : va_D A [((Ma 2), .inl (tc 0, 2400, .inl sv_141)), ((Ma 3), .inl (tc 0, 7, .inl sv_142)), ((Ma 7), .inl (tc 0, 400, .inl sv_119)), ((Ma 0), .inr (12, [.ref (Ma 1), .int (Mv 0), .int (Mv 1), .ref (Ma 2), .ref (Ma 3), .ref (Ma 4), .ref (Ma 5), .ref (Ma 6), .int sv_305, .int sv_112, .int sv_113, .int (Mv 5), .int sv_114, .int sv_139, .int (Mv 8), .ref (Ma 7), .int sv_140, .ref (Ma 8), .int (Mv 10), .ref (Ma 9), .ref (Ma 10), .int (Mv 11), .int (Mv 12), .int (Mv 13), .ref (Ma 11), .int (Mv 14), .ref (Ma 12), .ref (Ma 13), .ref (Ma 14), .ref (Ma 15), .ref (Ma 16), .long (Mj 0), .ref (Ma 17), .ref (Ma 18), .ref (Ma 19), .ref (Ma 20)])), ((Ma 1), .inl (tc 2, 400, .inl (Mf 1)))] := hD₀
              replace hS := hS₀
              clear hP₀ hD₀ hS₀
              refine lv_if_eq (tgt := 74) hx hb dX12_tested_66 (by decide) (fun c_315 => ?_) (fun c_315 => ?_)
              · skip
                refine lv_bipush (v := 13) hx hb dX12_tested_74 (by decide) ?_
                refine lv_istore_n (lv' := [(2, .int 13), (1, .int 1), (0, .ref (Ma 0))]) hx hb dX12_tested_76 rfl hl (by decide) rfl (fun ls hl₀ => ?_)
                replace hl := hl₀
                clear hl₀
                refine lv_aload_n hx hb dX12_tested_77 rfl (lv_at hl 2 rfl) ?_
                have ha_316 : 0 ≤ (sv_305 : Int32).toInt ∧ (sv_305 : Int32).toInt ≤ ((Mv 0) : Int32).toInt ∧ ((Mv 0) : Int32).toInt ≤ 400 := by
                  have z_1 : ¬ (vy_20 : Int32).toInt = (0 : Int32).toInt := fun z => c_32 (Int32.toInt_inj.mp z)
                  have z_2 : ¬ (r_123 : Int32).toInt = (0 : Int32).toInt := fun z => c_127 (Int32.toInt_inj.mp z)
                  have z_3 := congrArg Int32.toInt c_162
                  have z_4 : ¬ (r_283 : Int32).toInt = (0 : Int32).toInt := fun z => c_287 (Int32.toInt_inj.mp z)
                  have z_5 := congrArg Int32.toInt c_315
                  have y_0 : (0 : Int32).toInt = 0 := by decide
                  refine ⟨?_, ?_, ?_⟩ <;> omega
                refine cV (a := (Ma 0)) (As := []) (rest := []) (wr := [((Ma 2), .inl (tc 0, 2400, .inl sv_141)), ((Ma 3), .inl (tc 0, 7, .inl sv_142)), ((Ma 7), .inl (tc 0, 400, .inl sv_119))]) ⟨hx, hb, hml, hown, hts⟩ hK hX hA (cu_X12_passWord l D tc sk (Ma 0) (Ma 1) (Ma 2) (Ma 3) (Ma 4) (Ma 5) (Ma 6) (Ma 7) (Ma 8) (Ma 9) (Ma 10) (Ma 11) (Ma 12) (Ma 13) (Ma 14) (Ma 15) (Ma 16) (Ma 17) (Ma 18) (Ma 19) (Ma 20) (Mv 0) (Mv 1) sv_305 sv_112 sv_113 (Mv 5) sv_114 sv_139 (Mv 8) sv_140 (Mv 10) (Mv 11) (Mv 12) (Mv 13) (Mv 14) (Mf 1) (Mj 0) ha_316) k_1244 k_1241 k_1243 k_34 k_106 pl_X12_passWord ⟨Nat.le_of_ble_eq_true rfl, Nat.le_of_ble_eq_true rfl⟩ rfl rfl (va_recv hK hP (ci := 12) (q0 := 3) rfl rfl) hP hD hS [3, 4] [0, 1, 2] rfl rfl rfl rfl rfl (by decide) rfl hl.1 rfl (Nat.le_of_ble_eq_true rfl) dX12_tested_78 ⟨Nat.le_of_ble_eq_true rfl, Nat.le_of_ble_eq_true rfl⟩ (fun v_317 u_318 H locs hv_319 hP₀ hD₀ hS₀ => ?_)
                obtain ⟨sv_320, rfl⟩ : ∃ z, z = u_318 := ⟨_, rfl⟩
                obtain ⟨rfl, pf_321, pf_322⟩ := hv_319
                have pf_321 : (sv_305 : Int32).toInt ≤ (sv_320 : Int32).toInt ∧ (sv_320 : Int32).toInt ≤ ((Mv 0) : Int32).toInt := pf_321
                have pf_322 : Pw (Mf 1) (Mv 0) sv_305 sv_320 := pf_322
                have ar_pf_322 := pf_322 pf_314
                refine W.eq (g2 := F0 m 81 ls []) rfl ?_
                replace hP : va_P D classes [((Ma 2), .inl (tc 0, 2400, .inl sv_141)), ((Ma 3), .inl (tc 0, 7, .inl sv_142)), ((Ma 7), .inl (tc 0, 400, .inl sv_119)), ((Ma 0), .inr (12, [.ref (Ma 1), .int (Mv 0), .int (Mv 1), .ref (Ma 2), .ref (Ma 3), .ref (Ma 4), .ref (Ma 5), .ref (Ma 6), .int sv_320, .int sv_112, .int sv_113, .int (Mv 5), .int sv_114, .int sv_139, .int (Mv 8), .ref (Ma 7), .int sv_140, .ref (Ma 8), .int (Mv 10), .ref (Ma 9), .ref (Ma 10), .int (Mv 11), .int (Mv 12), .int (Mv 13), .ref (Ma 11), .int (Mv 14), .ref (Ma 12), .ref (Ma 13), .ref (Ma 14), .ref (Ma 15), .ref (Ma 16), .long (Mj 0), .ref (Ma 17), .ref (Ma 18), .ref (Ma 19), .ref (Ma 20)])), ((Ma 1), .inl (tc 2, 400, .inl (Mf 1)))] H := hP₀
                replace hD : va_D A [((Ma 2), .inl (tc 0, 2400, .inl sv_141)), ((Ma 3), .inl (tc 0, 7, .inl sv_142)), ((Ma 7), .inl (tc 0, 400, .inl sv_119)), ((Ma 0), .inr (12, [.ref (Ma 1), .int (Mv 0), .int (Mv 1), .ref (Ma 2), .ref (Ma 3), .ref (Ma 4), .ref (Ma 5), .ref (Ma 6), .int sv_320, .int sv_112, .int sv_113, .int (Mv 5), .int sv_114, .int sv_139, .int (Mv 8), .ref (Ma 7), .int sv_140, .ref (Ma 8), .int (Mv 10), .ref (Ma 9), .ref (Ma 10), .int (Mv 11), .int (Mv 12), .int (Mv 13), .ref (Ma 11), .int (Mv 14), .ref (Ma 12), .ref (Ma 13), .ref (Ma 14), .ref (Ma 15), .ref (Ma 16), .long (Mj 0), .ref (Ma 17), .ref (Ma 18), .ref (Ma 19), .ref (Ma 20)])), ((Ma 1), .inl (tc 2, 400, .inl (Mf 1)))] := hD₀
                replace hS := hS₀
                clear hP₀ hD₀ hS₀
                refine lv_aload_n hx hb dX12_tested_81 rfl (lv_at hl 2 rfl) ?_
                refine lv_iload_n hx hb dX12_tested_82 rfl (lv_at hl 0 rfl) ?_
                refine cS (As := [.int 13]) (rest := [.ref (Ma 0)]) (wr := [((Ma 2), .inl (tc 0, 2400, .inl sv_141)), ((Ma 3), .inl (tc 0, 7, .inl sv_142)), ((Ma 7), .inl (tc 0, 400, .inl sv_119)), ((Ma 0), .inr (12, [.ref (Ma 1), .int (Mv 0), .int (Mv 1), .ref (Ma 2), .ref (Ma 3), .ref (Ma 4), .ref (Ma 5), .ref (Ma 6), .int sv_320, .int sv_112, .int sv_113, .int (Mv 5), .int sv_114, .int sv_139, .int (Mv 8), .ref (Ma 7), .int sv_140, .ref (Ma 8), .int (Mv 10), .ref (Ma 9), .ref (Ma 10), .int (Mv 11), .int (Mv 12), .int (Mv 13), .ref (Ma 11), .int (Mv 14), .ref (Ma 12), .ref (Ma 13), .ref (Ma 14), .ref (Ma 15), .ref (Ma 16), .long (Mj 0), .ref (Ma 17), .ref (Ma 18), .ref (Ma 19), .ref (Ma 20)])), ((Ma 1), .inl (tc 2, 400, .inl (Mf 1)))]) ⟨hx, hb, hml, hown, hts⟩ hK hX hA (ct_X12_strength l D tc sk 13) k_1345 k_1343 k_1344 k_106 pl_X12_strength ⟨Nat.le_of_ble_eq_true rfl, Nat.le_of_ble_eq_true rfl⟩ rfl rfl  hP hD hS [] [0, 1, 2, 3, 4] rfl rfl rfl rfl rfl (by decide) rfl hl.1 rfl (Nat.le_of_ble_eq_true rfl) dX12_tested_83 ⟨Nat.le_of_ble_eq_true rfl, Nat.le_of_ble_eq_true rfl⟩ (fun v_323 u_324 H locs hv_325 hP₀ hD₀ hS₀ => ?_)
                obtain ⟨r_326, rfl, he_327⟩ := hv_325
                have he_327 : (((13 : Int32).toInt = 13 ∧ r_326.toInt = 1) ∨ ((13 : Int32).toInt = 12 ∧ r_326.toInt = 2) ∨ ((13 : Int32).toInt = 11 ∧ r_326.toInt = 3) ∨ ((13 : Int32).toInt ≠ 13 ∧ (13 : Int32).toInt ≠ 12 ∧ (13 : Int32).toInt ≠ 11 ∧ r_326.toInt = 0)) := he_327
                refine W.eq (g2 := F0 m 86 ls [.int r_326, .ref (Ma 0)]) rfl ?_
                replace hP : va_P D classes [((Ma 2), .inl (tc 0, 2400, .inl sv_141)), ((Ma 3), .inl (tc 0, 7, .inl sv_142)), ((Ma 7), .inl (tc 0, 400, .inl sv_119)), ((Ma 0), .inr (12, [.ref (Ma 1), .int (Mv 0), .int (Mv 1), .ref (Ma 2), .ref (Ma 3), .ref (Ma 4), .ref (Ma 5), .ref (Ma 6), .int sv_320, .int sv_112, .int sv_113, .int (Mv 5), .int sv_114, .int sv_139, .int (Mv 8), .ref (Ma 7), .int sv_140, .ref (Ma 8), .int (Mv 10), .ref (Ma 9), .ref (Ma 10), .int (Mv 11), .int (Mv 12), .int (Mv 13), .ref (Ma 11), .int (Mv 14), .ref (Ma 12), .ref (Ma 13), .ref (Ma 14), .ref (Ma 15), .ref (Ma 16), .long (Mj 0), .ref (Ma 17), .ref (Ma 18), .ref (Ma 19), .ref (Ma 20)])), ((Ma 1), .inl (tc 2, 400, .inl (Mf 1)))] H := hP₀
                replace hD : va_D A [((Ma 2), .inl (tc 0, 2400, .inl sv_141)), ((Ma 3), .inl (tc 0, 7, .inl sv_142)), ((Ma 7), .inl (tc 0, 400, .inl sv_119)), ((Ma 0), .inr (12, [.ref (Ma 1), .int (Mv 0), .int (Mv 1), .ref (Ma 2), .ref (Ma 3), .ref (Ma 4), .ref (Ma 5), .ref (Ma 6), .int sv_320, .int sv_112, .int sv_113, .int (Mv 5), .int sv_114, .int sv_139, .int (Mv 8), .ref (Ma 7), .int sv_140, .ref (Ma 8), .int (Mv 10), .ref (Ma 9), .ref (Ma 10), .int (Mv 11), .int (Mv 12), .int (Mv 13), .ref (Ma 11), .int (Mv 14), .ref (Ma 12), .ref (Ma 13), .ref (Ma 14), .ref (Ma 15), .ref (Ma 16), .long (Mj 0), .ref (Ma 17), .ref (Ma 18), .ref (Ma 19), .ref (Ma 20)])), ((Ma 1), .inl (tc 2, 400, .inl (Mf 1)))] := hD₀
                replace hS := hS₀
                clear hP₀ hD₀ hS₀
                have yy_328 : (13 : Int32).toInt = 13 := by decide
                have ha_329 : 1 ≤ r_326.toInt ∧ r_326.toInt ≤ 3 := by
                  have z_1 : ¬ (vy_20 : Int32).toInt = (0 : Int32).toInt := fun z => c_32 (Int32.toInt_inj.mp z)
                  have z_2 : ¬ (r_123 : Int32).toInt = (0 : Int32).toInt := fun z => c_127 (Int32.toInt_inj.mp z)
                  have z_3 := congrArg Int32.toInt c_162
                  have z_4 : ¬ (r_283 : Int32).toInt = (0 : Int32).toInt := fun z => c_287 (Int32.toInt_inj.mp z)
                  have z_5 := congrArg Int32.toInt c_315
                  have y_0 : (0 : Int32).toInt = 0 := by decide
                  refine ⟨?_, ?_⟩ <;> omega
                have ha_330 : (sv_142 (Mv 5).toNatClampNeg).toInt + (sv_140 : Int32).toInt ≤ 400 := by
                  have z_1 : ¬ (vy_20 : Int32).toInt = (0 : Int32).toInt := fun z => c_32 (Int32.toInt_inj.mp z)
                  have z_2 : ¬ (r_123 : Int32).toInt = (0 : Int32).toInt := fun z => c_127 (Int32.toInt_inj.mp z)
                  have z_3 := congrArg Int32.toInt c_162
                  have z_4 : ¬ (r_283 : Int32).toInt = (0 : Int32).toInt := fun z => c_287 (Int32.toInt_inj.mp z)
                  have z_5 := congrArg Int32.toInt c_315
                  have y_0 : (0 : Int32).toInt = 0 := by decide
                  omega
                refine cV (a := (Ma 0)) (As := [.int r_326]) (rest := []) (wr := [((Ma 1), .inl (tc 2, 400, .inl (Mf 1)))]) ⟨hx, hb, hml, hown, hts⟩ hK hX hA (cu_X12_layDown l D tc sk (Ma 0) (Ma 1) (Ma 2) (Ma 3) (Ma 4) (Ma 5) (Ma 6) (Ma 7) (Ma 8) (Ma 9) (Ma 10) (Ma 11) (Ma 12) (Ma 13) (Ma 14) (Ma 15) (Ma 16) (Ma 17) (Ma 18) (Ma 19) (Ma 20) (Mv 0) (Mv 1) sv_320 sv_112 sv_113 (Mv 5) sv_114 sv_139 (Mv 8) sv_140 (Mv 10) (Mv 11) (Mv 12) (Mv 13) (Mv 14) sv_141 sv_142 sv_119 (Mj 0) r_326 b pf_145 ha_329 ha_330) k_1342 k_1339 k_1341 k_54 k_106 pl_X12_layDown ⟨Nat.le_of_ble_eq_true rfl, Nat.le_of_ble_eq_true rfl⟩ rfl rfl (va_recv hK hP (ci := 12) (q0 := 3) rfl rfl) hP hD hS [3, 0, 1, 2] [4] rfl rfl rfl rfl rfl (by decide) rfl hl.1 rfl (Nat.le_of_ble_eq_true rfl) dX12_tested_86 ⟨Nat.le_of_ble_eq_true rfl, Nat.le_of_ble_eq_true rfl⟩ (fun v_331 u_332 H locs hv_333 hP₀ hD₀ hS₀ => ?_)
                obtain ⟨sv_334, sv_335, sv_336, sv_337⟩ := u_332
                obtain ⟨rfl, pf_338, pf_339, pf_340, pf_341, pf_342⟩ := hv_333
                have pf_338 : LSR sv_119 sv_335 sv_336 sv_337 (Mv 5) b sv_114 := pf_338
                obtain ⟨pn_343, pf_344, pf_345⟩ := id pf_338
                have ar_pf_338 := LSR.ar pf_338
                have ar_pf_345 := Cd.ar pf_345
                have pf_339 : (sv_337 (Mv 5).toNatClampNeg).toInt + (sv_335 : Int32).toInt = (sv_142 (Mv 5).toNatClampNeg).toInt + (sv_140 : Int32).toInt ∧ 0 ≤ (sv_335 : Int32).toInt ∧ (sv_335 : Int32).toInt ≤ (sv_140 : Int32).toInt := pf_339
                have pf_340 : Agr sv_141 sv_336 (400 * ((Mv 5) : Int32).toInt + (sv_142 (Mv 5).toNatClampNeg).toInt) := pf_340
                have pf_341 : LdE sv_119 sv_335 r_326 := pf_341
                have pf_342 : InK sv_119 sv_140 sv_335 := pf_342
                refine W.eq (g2 := F0 m 89 ls []) rfl ?_
                replace hP : va_P D classes [((Ma 1), .inl (tc 2, 400, .inl (Mf 1))), ((Ma 0), .inr (12, [.ref (Ma 1), .int (Mv 0), .int (Mv 1), .ref (Ma 2), .ref (Ma 3), .ref (Ma 4), .ref (Ma 5), .ref (Ma 6), .int sv_320, .int sv_112, .int sv_113, .int (Mv 5), .int sv_114, .int sv_334, .int (Mv 8), .ref (Ma 7), .int sv_335, .ref (Ma 8), .int (Mv 10), .ref (Ma 9), .ref (Ma 10), .int (Mv 11), .int (Mv 12), .int (Mv 13), .ref (Ma 11), .int (Mv 14), .ref (Ma 12), .ref (Ma 13), .ref (Ma 14), .ref (Ma 15), .ref (Ma 16), .long (Mj 0), .ref (Ma 17), .ref (Ma 18), .ref (Ma 19), .ref (Ma 20)])), ((Ma 2), .inl (tc 0, 2400, .inl sv_336)), ((Ma 3), .inl (tc 0, 7, .inl sv_337)), ((Ma 7), .inl (tc 0, 400, .inl sv_119))] H := hP₀
                replace hD : va_D A [((Ma 1), .inl (tc 2, 400, .inl (Mf 1))), ((Ma 0), .inr (12, [.ref (Ma 1), .int (Mv 0), .int (Mv 1), .ref (Ma 2), .ref (Ma 3), .ref (Ma 4), .ref (Ma 5), .ref (Ma 6), .int sv_320, .int sv_112, .int sv_113, .int (Mv 5), .int sv_114, .int sv_334, .int (Mv 8), .ref (Ma 7), .int sv_335, .ref (Ma 8), .int (Mv 10), .ref (Ma 9), .ref (Ma 10), .int (Mv 11), .int (Mv 12), .int (Mv 13), .ref (Ma 11), .int (Mv 14), .ref (Ma 12), .ref (Ma 13), .ref (Ma 14), .ref (Ma 15), .ref (Ma 16), .long (Mj 0), .ref (Ma 17), .ref (Ma 18), .ref (Ma 19), .ref (Ma 20)])), ((Ma 2), .inl (tc 0, 2400, .inl sv_336)), ((Ma 3), .inl (tc 0, 7, .inl sv_337)), ((Ma 7), .inl (tc 0, 400, .inl sv_119))] := hD₀
                replace hS := hS₀
                clear hP₀ hD₀ hS₀
                refine lv_aload_n hx hb dX12_tested_89 rfl (lv_at hl 2 rfl) ?_
                refine gf_X12_29 hx hb hts hown hK hP 1 rfl rfl dX12_tested_90 ?_
                refine lv_aload_n hx hb dX12_tested_93 rfl (lv_at hl 2 rfl) ?_
                refine gf_X12_154 hx hb hts hown hK hP 1 rfl rfl dX12_tested_94 ?_
                refine lv_iload_n hx hb dX12_tested_97 rfl (lv_at hl 0 rfl) ?_
                have hi_346 : vp_in sv_335 400 := by
                  have z_1 : ¬ (vy_20 : Int32).toInt = (0 : Int32).toInt := fun z => c_32 (Int32.toInt_inj.mp z)
                  have z_2 : ¬ (r_123 : Int32).toInt = (0 : Int32).toInt := fun z => c_127 (Int32.toInt_inj.mp z)
                  have z_3 := congrArg Int32.toInt c_162
                  have z_4 : ¬ (r_283 : Int32).toInt = (0 : Int32).toInt := fun z => c_287 (Int32.toInt_inj.mp z)
                  have z_5 := congrArg Int32.toInt c_315
                  have y_0 : (0 : Int32).toInt = 0 := by decide
                  refine vp_in_iff.mpr ⟨?_, ?_⟩ <;> omega
                refine st_int hx hb hK hP hD hS 4 0 rfl rfl hi_346 dX12_tested_98 (fun g_347 H locs eg_347 hP₀ hD₀ hS₀ => ?_)
                replace hP : va_P D classes [((Ma 1), .inl (tc 2, 400, .inl (Mf 1))), ((Ma 0), .inr (12, [.ref (Ma 1), .int (Mv 0), .int (Mv 1), .ref (Ma 2), .ref (Ma 3), .ref (Ma 4), .ref (Ma 5), .ref (Ma 6), .int sv_320, .int sv_112, .int sv_113, .int (Mv 5), .int sv_114, .int sv_334, .int (Mv 8), .ref (Ma 7), .int sv_335, .ref (Ma 8), .int (Mv 10), .ref (Ma 9), .ref (Ma 10), .int (Mv 11), .int (Mv 12), .int (Mv 13), .ref (Ma 11), .int (Mv 14), .ref (Ma 12), .ref (Ma 13), .ref (Ma 14), .ref (Ma 15), .ref (Ma 16), .long (Mj 0), .ref (Ma 17), .ref (Ma 18), .ref (Ma 19), .ref (Ma 20)])), ((Ma 2), .inl (tc 0, 2400, .inl sv_336)), ((Ma 3), .inl (tc 0, 7, .inl sv_337)), ((Ma 7), .inl (tc 0, 400, .inl g_347))] H := hP₀
                replace hD : va_D A [((Ma 1), .inl (tc 2, 400, .inl (Mf 1))), ((Ma 0), .inr (12, [.ref (Ma 1), .int (Mv 0), .int (Mv 1), .ref (Ma 2), .ref (Ma 3), .ref (Ma 4), .ref (Ma 5), .ref (Ma 6), .int sv_320, .int sv_112, .int sv_113, .int (Mv 5), .int sv_114, .int sv_334, .int (Mv 8), .ref (Ma 7), .int sv_335, .ref (Ma 8), .int (Mv 10), .ref (Ma 9), .ref (Ma 10), .int (Mv 11), .int (Mv 12), .int (Mv 13), .ref (Ma 11), .int (Mv 14), .ref (Ma 12), .ref (Ma 13), .ref (Ma 14), .ref (Ma 15), .ref (Ma 16), .long (Mj 0), .ref (Ma 17), .ref (Ma 18), .ref (Ma 19), .ref (Ma 20)])), ((Ma 2), .inl (tc 0, 2400, .inl sv_336)), ((Ma 3), .inl (tc 0, 7, .inl sv_337)), ((Ma 7), .inl (tc 0, 400, .inl g_347))] := hD₀
                replace hS := hS₀
                clear hP₀ hD₀ hS₀
                refine lv_aload_n hx hb dX12_tested_99 rfl (lv_at hl 2 rfl) ?_
                refine lv_dup hx hb dX12_tested_100 rfl ?_
                refine gf_X12_154 hx hb hts hown hK hP 1 rfl rfl dX12_tested_101 ?_
                refine lv_iconst (v := 1) hx hb dX12_tested_104 (by decide) ?_
                refine lv_iadd hx hb dX12_tested_105 ?_
                refine lv_topi (fun x_348 ex_348 => ?_)
                refine pf_X12_154 hx hb hts hown hK hP hD hS 1 rfl (Nat.le_of_ble_eq_true rfl) rfl rfl dX12_tested_106 (fun H locs hP₀ hD₀ hS₀ => ?_)
                replace hP : va_P D classes [((Ma 1), .inl (tc 2, 400, .inl (Mf 1))), ((Ma 0), .inr (12, [.ref (Ma 1), .int (Mv 0), .int (Mv 1), .ref (Ma 2), .ref (Ma 3), .ref (Ma 4), .ref (Ma 5), .ref (Ma 6), .int sv_320, .int sv_112, .int sv_113, .int (Mv 5), .int sv_114, .int sv_334, .int (Mv 8), .ref (Ma 7), .int x_348, .ref (Ma 8), .int (Mv 10), .ref (Ma 9), .ref (Ma 10), .int (Mv 11), .int (Mv 12), .int (Mv 13), .ref (Ma 11), .int (Mv 14), .ref (Ma 12), .ref (Ma 13), .ref (Ma 14), .ref (Ma 15), .ref (Ma 16), .long (Mj 0), .ref (Ma 17), .ref (Ma 18), .ref (Ma 19), .ref (Ma 20)])), ((Ma 2), .inl (tc 0, 2400, .inl sv_336)), ((Ma 3), .inl (tc 0, 7, .inl sv_337)), ((Ma 7), .inl (tc 0, 400, .inl g_347))] H := hP₀
                replace hD : va_D A [((Ma 1), .inl (tc 2, 400, .inl (Mf 1))), ((Ma 0), .inr (12, [.ref (Ma 1), .int (Mv 0), .int (Mv 1), .ref (Ma 2), .ref (Ma 3), .ref (Ma 4), .ref (Ma 5), .ref (Ma 6), .int sv_320, .int sv_112, .int sv_113, .int (Mv 5), .int sv_114, .int sv_334, .int (Mv 8), .ref (Ma 7), .int x_348, .ref (Ma 8), .int (Mv 10), .ref (Ma 9), .ref (Ma 10), .int (Mv 11), .int (Mv 12), .int (Mv 13), .ref (Ma 11), .int (Mv 14), .ref (Ma 12), .ref (Ma 13), .ref (Ma 14), .ref (Ma 15), .ref (Ma 16), .long (Mj 0), .ref (Ma 17), .ref (Ma 18), .ref (Ma 19), .ref (Ma 20)])), ((Ma 2), .inl (tc 0, 2400, .inl sv_336)), ((Ma 3), .inl (tc 0, 7, .inl sv_337)), ((Ma 7), .inl (tc 0, 400, .inl g_347))] := hD₀
                replace hS := hS₀
                clear hP₀ hD₀ hS₀
                have tp_x_348 : (x_348 : Int32).toInt = (sv_335 : Int32).toInt + 1 := by
                  have z_1 : ¬ (vy_20 : Int32).toInt = (0 : Int32).toInt := fun z => c_32 (Int32.toInt_inj.mp z)
                  have z_2 : ¬ (r_123 : Int32).toInt = (0 : Int32).toInt := fun z => c_127 (Int32.toInt_inj.mp z)
                  have z_3 := congrArg Int32.toInt c_162
                  have z_4 : ¬ (r_283 : Int32).toInt = (0 : Int32).toInt := fun z => c_287 (Int32.toInt_inj.mp z)
                  have z_5 := congrArg Int32.toInt c_315
                  have y_0 : (0 : Int32).toInt = 0 := by decide
                  have y_1 : (1 : Int32).toInt = 1 := by decide
                  have t_x_348 : x_348.toInt = (sv_335 : Int32).toInt + (1 : Int32).toInt := by rw [ex_348]; exact add_toInt (by omega) (by omega)
                  omega
                refine lv_goto (tgt := 12) hx hb dX12_tested_109 (by decide) ?_
                have hb_349 : 2 * (401 - (sv_320 : Int32).toInt) + (1 : Int32).toInt < 2 * (401 - (vy_11 : Int32).toInt) + (vy_20 : Int32).toInt ∧ 1 ≤ 2 * (401 - (vy_11 : Int32).toInt) + (vy_20 : Int32).toInt := by
                  have z_1 : ¬ (vy_20 : Int32).toInt = (0 : Int32).toInt := fun z => c_32 (Int32.toInt_inj.mp z)
                  have z_2 : ¬ (r_123 : Int32).toInt = (0 : Int32).toInt := fun z => c_127 (Int32.toInt_inj.mp z)
                  have z_3 := congrArg Int32.toInt c_162
                  have z_4 : ¬ (r_283 : Int32).toInt = (0 : Int32).toInt := fun z => c_287 (Int32.toInt_inj.mp z)
                  have z_5 := congrArg Int32.toInt c_315
                  have y_0 : (0 : Int32).toInt = 0 := by decide
                  have y_1 : (1 : Int32).toInt = 1 := by decide
                  refine ⟨?_, ?_⟩ <;> omega
                have ha_350 : 0 ≤ (sv_320 : Int32).toInt ∧ (sv_320 : Int32).toInt ≤ ((Mv 0) : Int32).toInt ∧ ((Mv 0) : Int32).toInt ≤ 400 := by
                  have z_1 : ¬ (vy_20 : Int32).toInt = (0 : Int32).toInt := fun z => c_32 (Int32.toInt_inj.mp z)
                  have z_2 : ¬ (r_123 : Int32).toInt = (0 : Int32).toInt := fun z => c_127 (Int32.toInt_inj.mp z)
                  have z_3 := congrArg Int32.toInt c_162
                  have z_4 : ¬ (r_283 : Int32).toInt = (0 : Int32).toInt := fun z => c_287 (Int32.toInt_inj.mp z)
                  have z_5 := congrArg Int32.toInt c_315
                  have y_0 : (0 : Int32).toInt = 0 := by decide
                  refine ⟨?_, ?_, ?_⟩ <;> omega
                have ha_351 : (Mv 2).toInt ≤ (sv_320 : Int32).toInt := by
                  have z_1 : ¬ (vy_20 : Int32).toInt = (0 : Int32).toInt := fun z => c_32 (Int32.toInt_inj.mp z)
                  have z_2 : ¬ (r_123 : Int32).toInt = (0 : Int32).toInt := fun z => c_127 (Int32.toInt_inj.mp z)
                  have z_3 := congrArg Int32.toInt c_162
                  have z_4 : ¬ (r_283 : Int32).toInt = (0 : Int32).toInt := fun z => c_287 (Int32.toInt_inj.mp z)
                  have z_5 := congrArg Int32.toInt c_315
                  have y_0 : (0 : Int32).toInt = 0 := by decide
                  omega
                have ha_352 : 0 ≤ (1 : Int32).toInt ∧ (1 : Int32).toInt ≤ 1 := by
                  have z_1 : ¬ (vy_20 : Int32).toInt = (0 : Int32).toInt := fun z => c_32 (Int32.toInt_inj.mp z)
                  have z_2 : ¬ (r_123 : Int32).toInt = (0 : Int32).toInt := fun z => c_127 (Int32.toInt_inj.mp z)
                  have z_3 := congrArg Int32.toInt c_162
                  have z_4 : ¬ (r_283 : Int32).toInt = (0 : Int32).toInt := fun z => c_287 (Int32.toInt_inj.mp z)
                  have z_5 := congrArg Int32.toInt c_315
                  have y_0 : (0 : Int32).toInt = 0 := by decide
                  have y_1 : (1 : Int32).toInt = 1 := by decide
                  refine ⟨?_, ?_⟩ <;> omega
                have ha_353 : (Mv 6).toInt ≤ (sv_114 : Int32).toInt ∧ (sv_114 : Int32).toInt ≤ 60 := by
                  have z_1 : ¬ (vy_20 : Int32).toInt = (0 : Int32).toInt := fun z => c_32 (Int32.toInt_inj.mp z)
                  have z_2 : ¬ (r_123 : Int32).toInt = (0 : Int32).toInt := fun z => c_127 (Int32.toInt_inj.mp z)
                  have z_3 := congrArg Int32.toInt c_162
                  have z_4 : ¬ (r_283 : Int32).toInt = (0 : Int32).toInt := fun z => c_287 (Int32.toInt_inj.mp z)
                  have z_5 := congrArg Int32.toInt c_315
                  have y_0 : (0 : Int32).toInt = 0 := by decide
                  refine ⟨?_, ?_⟩ <;> omega
                have hi_354 : (x_348 : Int32).toInt = (sv_335 : Int32).toInt + 1 := by
                  have z_1 : ¬ (vy_20 : Int32).toInt = (0 : Int32).toInt := fun z => c_32 (Int32.toInt_inj.mp z)
                  have z_2 : ¬ (r_123 : Int32).toInt = (0 : Int32).toInt := fun z => c_127 (Int32.toInt_inj.mp z)
                  have z_3 := congrArg Int32.toInt c_162
                  have z_4 : ¬ (r_283 : Int32).toInt = (0 : Int32).toInt := fun z => c_287 (Int32.toInt_inj.mp z)
                  have z_5 := congrArg Int32.toInt c_315
                  have y_0 : (0 : Int32).toInt = 0 := by decide
                  have y_1 : (1 : Int32).toInt = 1 := by decide
                  have t_x_348 : x_348.toInt = (sv_335 : Int32).toInt + (1 : Int32).toInt := by rw [ex_348]; exact add_toInt (by omega) (by omega)
                  omega
                have hr_355 : (sv_335 : Int32).toInt < 400 := by
                  have z_1 : ¬ (vy_20 : Int32).toInt = (0 : Int32).toInt := fun z => c_32 (Int32.toInt_inj.mp z)
                  have z_2 : ¬ (r_123 : Int32).toInt = (0 : Int32).toInt := fun z => c_127 (Int32.toInt_inj.mp z)
                  have z_3 := congrArg Int32.toInt c_162
                  have z_4 : ¬ (r_283 : Int32).toInt = (0 : Int32).toInt := fun z => c_287 (Int32.toInt_inj.mp z)
                  have z_5 := congrArg Int32.toInt c_315
                  have y_0 : (0 : Int32).toInt = 0 := by decide
                  omega
                have hr_356 : (13 : Int32).toInt = 12 ∨ (13 : Int32).toInt = 13 := by
                  have z_1 : ¬ (vy_20 : Int32).toInt = (0 : Int32).toInt := fun z => c_32 (Int32.toInt_inj.mp z)
                  have z_2 : ¬ (r_123 : Int32).toInt = (0 : Int32).toInt := fun z => c_127 (Int32.toInt_inj.mp z)
                  have z_3 := congrArg Int32.toInt c_162
                  have z_4 : ¬ (r_283 : Int32).toInt = (0 : Int32).toInt := fun z => c_287 (Int32.toInt_inj.mp z)
                  have z_5 := congrArg Int32.toInt c_315
                  have y_0 : (0 : Int32).toInt = 0 := by decide
                  have y_13 : (13 : Int32).toInt = 13 := by decide
                  omega
                have ha_357 : (sv_337 (Mv 5).toNatClampNeg).toInt + (x_348 : Int32).toInt ≤ (sv_320 : Int32).toInt ∧ ((Mf 3) (Mv 5).toNatClampNeg).toInt ≤ (sv_337 (Mv 5).toNatClampNeg).toInt ∧ 0 ≤ (x_348 : Int32).toInt ∧ (x_348 : Int32).toInt ≤ 400 := by
                  have z_1 : ¬ (vy_20 : Int32).toInt = (0 : Int32).toInt := fun z => c_32 (Int32.toInt_inj.mp z)
                  have z_2 : ¬ (r_123 : Int32).toInt = (0 : Int32).toInt := fun z => c_127 (Int32.toInt_inj.mp z)
                  have z_3 := congrArg Int32.toInt c_162
                  have z_4 : ¬ (r_283 : Int32).toInt = (0 : Int32).toInt := fun z => c_287 (Int32.toInt_inj.mp z)
                  have z_5 := congrArg Int32.toInt c_315
                  have y_0 : (0 : Int32).toInt = 0 := by decide
                  have y_1 : (1 : Int32).toInt = 1 := by decide
                  have t_x_348 : x_348.toInt = (sv_335 : Int32).toInt + (1 : Int32).toInt := by rw [ex_348]; exact add_toInt (by omega) (by omega)
                  refine ⟨?_, ?_, ?_, ?_⟩ <;> omega
                have hr_358 : (400 * ((Mv 5) : Int32).toInt + ((Mf 3) (Mv 5).toNatClampNeg).toInt) ≤ (400 * ((Mv 5) : Int32).toInt + ((Mf 3) (Mv 5).toNatClampNeg).toInt) := by
                  have z_1 : ¬ (vy_20 : Int32).toInt = (0 : Int32).toInt := fun z => c_32 (Int32.toInt_inj.mp z)
                  have z_2 : ¬ (r_123 : Int32).toInt = (0 : Int32).toInt := fun z => c_127 (Int32.toInt_inj.mp z)
                  have z_3 := congrArg Int32.toInt c_162
                  have z_4 : ¬ (r_283 : Int32).toInt = (0 : Int32).toInt := fun z => c_287 (Int32.toInt_inj.mp z)
                  have z_5 := congrArg Int32.toInt c_315
                  have y_0 : (0 : Int32).toInt = 0 := by decide
                  omega
                have hr_359 : (400 * ((Mv 5) : Int32).toInt + ((Mf 3) (Mv 5).toNatClampNeg).toInt) ≤ (400 * ((Mv 5) : Int32).toInt + (vy_18 (Mv 5).toNatClampNeg).toInt) := by
                  have z_1 : ¬ (vy_20 : Int32).toInt = (0 : Int32).toInt := fun z => c_32 (Int32.toInt_inj.mp z)
                  have z_2 : ¬ (r_123 : Int32).toInt = (0 : Int32).toInt := fun z => c_127 (Int32.toInt_inj.mp z)
                  have z_3 := congrArg Int32.toInt c_162
                  have z_4 : ¬ (r_283 : Int32).toInt = (0 : Int32).toInt := fun z => c_287 (Int32.toInt_inj.mp z)
                  have z_5 := congrArg Int32.toInt c_315
                  have y_0 : (0 : Int32).toInt = 0 := by decide
                  omega
                have hr_360 : (400 * ((Mv 5) : Int32).toInt + ((Mf 3) (Mv 5).toNatClampNeg).toInt) ≤ (400 * ((Mv 5) : Int32).toInt + (sv_118 (Mv 5).toNatClampNeg).toInt) := by
                  have z_1 : ¬ (vy_20 : Int32).toInt = (0 : Int32).toInt := fun z => c_32 (Int32.toInt_inj.mp z)
                  have z_2 : ¬ (r_123 : Int32).toInt = (0 : Int32).toInt := fun z => c_127 (Int32.toInt_inj.mp z)
                  have z_3 := congrArg Int32.toInt c_162
                  have z_4 : ¬ (r_283 : Int32).toInt = (0 : Int32).toInt := fun z => c_287 (Int32.toInt_inj.mp z)
                  have z_5 := congrArg Int32.toInt c_315
                  have y_0 : (0 : Int32).toInt = 0 := by decide
                  omega
                have hr_361 : (400 * ((Mv 5) : Int32).toInt + ((Mf 3) (Mv 5).toNatClampNeg).toInt) ≤ (400 * ((Mv 5) : Int32).toInt + (sv_142 (Mv 5).toNatClampNeg).toInt) := by
                  have z_1 : ¬ (vy_20 : Int32).toInt = (0 : Int32).toInt := fun z => c_32 (Int32.toInt_inj.mp z)
                  have z_2 : ¬ (r_123 : Int32).toInt = (0 : Int32).toInt := fun z => c_127 (Int32.toInt_inj.mp z)
                  have z_3 := congrArg Int32.toInt c_162
                  have z_4 : ¬ (r_283 : Int32).toInt = (0 : Int32).toInt := fun z => c_287 (Int32.toInt_inj.mp z)
                  have z_5 := congrArg Int32.toInt c_315
                  have y_0 : (0 : Int32).toInt = 0 := by decide
                  omega
                exact ih_22 sv_320 sv_112 sv_113 sv_114 sv_334 x_348 sv_336 sv_337 g_347 1 _ _ _ (by omega) ha_350 ha_351 ha_352 ha_353 ⟨fun _ => LSR.open2 pf_338 eg_347 hi_354 hr_355 hr_356, fun h => absurd h (by decide)⟩ ha_357 (Agr.trans (k' := (400 * ((Mv 5) : Int32).toInt + ((Mf 3) (Mv 5).toNatClampNeg).toInt)) (Agr.trans (k' := (400 * ((Mv 5) : Int32).toInt + ((Mf 3) (Mv 5).toNatClampNeg).toInt)) (Agr.trans (k' := (400 * ((Mv 5) : Int32).toInt + ((Mf 3) (Mv 5).toNatClampNeg).toInt)) (Agr.mono pf_30 hr_358) pf_122 ⟨Int.le_refl _, hr_359⟩) pf_144 ⟨Int.le_refl _, hr_360⟩) pf_340 ⟨Int.le_refl _, hr_361⟩) (hP.sub [1, 0, 2, 3, 4] rfl) (hD.sub [1, 0, 2, 3, 4] rfl rfl) hS (lv_sub hl [1, 2] rfl)
              · skip
                have hz_363 : (r_309 : Int32).toInt = 1 := by
                  have z_1 : ¬ (vy_20 : Int32).toInt = (0 : Int32).toInt := fun z => c_32 (Int32.toInt_inj.mp z)
                  have z_2 : ¬ (r_123 : Int32).toInt = (0 : Int32).toInt := fun z => c_127 (Int32.toInt_inj.mp z)
                  have z_3 := congrArg Int32.toInt c_162
                  have z_4 : ¬ (r_283 : Int32).toInt = (0 : Int32).toInt := fun z => c_287 (Int32.toInt_inj.mp z)
                  have z_5 : ¬ (r_309 : Int32).toInt = (0 : Int32).toInt := fun z => c_315 (Int32.toInt_inj.mp z)
                  have y_0 : (0 : Int32).toInt = 0 := by decide
                  omega
                obtain pf_362 := hm_312 hz_363
                have pf_362 : Ltr (Mf 1) (Mv 0) sv_305 := pf_362
                have ar_pf_362 := pf_362.1
                refine lv_bipush (v := 12) hx hb dX12_tested_69 (by decide) ?_
                refine lv_goto (tgt := 76) hx hb dX12_tested_71 (by decide) ?_
                refine lv_istore_n (lv' := [(2, .int 12), (1, .int 1), (0, .ref (Ma 0))]) hx hb dX12_tested_76 rfl hl (by decide) rfl (fun ls hl₀ => ?_)
                replace hl := hl₀
                clear hl₀
                refine lv_aload_n hx hb dX12_tested_77 rfl (lv_at hl 2 rfl) ?_
                have ha_364 : 0 ≤ (sv_305 : Int32).toInt ∧ (sv_305 : Int32).toInt ≤ ((Mv 0) : Int32).toInt ∧ ((Mv 0) : Int32).toInt ≤ 400 := by
                  have z_1 : ¬ (vy_20 : Int32).toInt = (0 : Int32).toInt := fun z => c_32 (Int32.toInt_inj.mp z)
                  have z_2 : ¬ (r_123 : Int32).toInt = (0 : Int32).toInt := fun z => c_127 (Int32.toInt_inj.mp z)
                  have z_3 := congrArg Int32.toInt c_162
                  have z_4 : ¬ (r_283 : Int32).toInt = (0 : Int32).toInt := fun z => c_287 (Int32.toInt_inj.mp z)
                  have z_5 : ¬ (r_309 : Int32).toInt = (0 : Int32).toInt := fun z => c_315 (Int32.toInt_inj.mp z)
                  have y_0 : (0 : Int32).toInt = 0 := by decide
                  refine ⟨?_, ?_, ?_⟩ <;> omega
                refine cV (a := (Ma 0)) (As := []) (rest := []) (wr := [((Ma 2), .inl (tc 0, 2400, .inl sv_141)), ((Ma 3), .inl (tc 0, 7, .inl sv_142)), ((Ma 7), .inl (tc 0, 400, .inl sv_119))]) ⟨hx, hb, hml, hown, hts⟩ hK hX hA (cu_X12_passWord l D tc sk (Ma 0) (Ma 1) (Ma 2) (Ma 3) (Ma 4) (Ma 5) (Ma 6) (Ma 7) (Ma 8) (Ma 9) (Ma 10) (Ma 11) (Ma 12) (Ma 13) (Ma 14) (Ma 15) (Ma 16) (Ma 17) (Ma 18) (Ma 19) (Ma 20) (Mv 0) (Mv 1) sv_305 sv_112 sv_113 (Mv 5) sv_114 sv_139 (Mv 8) sv_140 (Mv 10) (Mv 11) (Mv 12) (Mv 13) (Mv 14) (Mf 1) (Mj 0) ha_364) k_1244 k_1241 k_1243 k_34 k_106 pl_X12_passWord ⟨Nat.le_of_ble_eq_true rfl, Nat.le_of_ble_eq_true rfl⟩ rfl rfl (va_recv hK hP (ci := 12) (q0 := 3) rfl rfl) hP hD hS [3, 4] [0, 1, 2] rfl rfl rfl rfl rfl (by decide) rfl hl.1 rfl (Nat.le_of_ble_eq_true rfl) dX12_tested_78 ⟨Nat.le_of_ble_eq_true rfl, Nat.le_of_ble_eq_true rfl⟩ (fun v_365 u_366 H locs hv_367 hP₀ hD₀ hS₀ => ?_)
                obtain ⟨sv_368, rfl⟩ : ∃ z, z = u_366 := ⟨_, rfl⟩
                obtain ⟨rfl, pf_369, pf_370⟩ := hv_367
                have pf_369 : (sv_305 : Int32).toInt ≤ (sv_368 : Int32).toInt ∧ (sv_368 : Int32).toInt ≤ ((Mv 0) : Int32).toInt := pf_369
                have pf_370 : Pw (Mf 1) (Mv 0) sv_305 sv_368 := pf_370
                have ar_pf_370 := pf_370 pf_362
                refine W.eq (g2 := F0 m 81 ls []) rfl ?_
                replace hP : va_P D classes [((Ma 2), .inl (tc 0, 2400, .inl sv_141)), ((Ma 3), .inl (tc 0, 7, .inl sv_142)), ((Ma 7), .inl (tc 0, 400, .inl sv_119)), ((Ma 0), .inr (12, [.ref (Ma 1), .int (Mv 0), .int (Mv 1), .ref (Ma 2), .ref (Ma 3), .ref (Ma 4), .ref (Ma 5), .ref (Ma 6), .int sv_368, .int sv_112, .int sv_113, .int (Mv 5), .int sv_114, .int sv_139, .int (Mv 8), .ref (Ma 7), .int sv_140, .ref (Ma 8), .int (Mv 10), .ref (Ma 9), .ref (Ma 10), .int (Mv 11), .int (Mv 12), .int (Mv 13), .ref (Ma 11), .int (Mv 14), .ref (Ma 12), .ref (Ma 13), .ref (Ma 14), .ref (Ma 15), .ref (Ma 16), .long (Mj 0), .ref (Ma 17), .ref (Ma 18), .ref (Ma 19), .ref (Ma 20)])), ((Ma 1), .inl (tc 2, 400, .inl (Mf 1)))] H := hP₀
                replace hD : va_D A [((Ma 2), .inl (tc 0, 2400, .inl sv_141)), ((Ma 3), .inl (tc 0, 7, .inl sv_142)), ((Ma 7), .inl (tc 0, 400, .inl sv_119)), ((Ma 0), .inr (12, [.ref (Ma 1), .int (Mv 0), .int (Mv 1), .ref (Ma 2), .ref (Ma 3), .ref (Ma 4), .ref (Ma 5), .ref (Ma 6), .int sv_368, .int sv_112, .int sv_113, .int (Mv 5), .int sv_114, .int sv_139, .int (Mv 8), .ref (Ma 7), .int sv_140, .ref (Ma 8), .int (Mv 10), .ref (Ma 9), .ref (Ma 10), .int (Mv 11), .int (Mv 12), .int (Mv 13), .ref (Ma 11), .int (Mv 14), .ref (Ma 12), .ref (Ma 13), .ref (Ma 14), .ref (Ma 15), .ref (Ma 16), .long (Mj 0), .ref (Ma 17), .ref (Ma 18), .ref (Ma 19), .ref (Ma 20)])), ((Ma 1), .inl (tc 2, 400, .inl (Mf 1)))] := hD₀
                replace hS := hS₀
                clear hP₀ hD₀ hS₀
                refine lv_aload_n hx hb dX12_tested_81 rfl (lv_at hl 2 rfl) ?_
                refine lv_iload_n hx hb dX12_tested_82 rfl (lv_at hl 0 rfl) ?_
                refine cS (As := [.int 12]) (rest := [.ref (Ma 0)]) (wr := [((Ma 2), .inl (tc 0, 2400, .inl sv_141)), ((Ma 3), .inl (tc 0, 7, .inl sv_142)), ((Ma 7), .inl (tc 0, 400, .inl sv_119)), ((Ma 0), .inr (12, [.ref (Ma 1), .int (Mv 0), .int (Mv 1), .ref (Ma 2), .ref (Ma 3), .ref (Ma 4), .ref (Ma 5), .ref (Ma 6), .int sv_368, .int sv_112, .int sv_113, .int (Mv 5), .int sv_114, .int sv_139, .int (Mv 8), .ref (Ma 7), .int sv_140, .ref (Ma 8), .int (Mv 10), .ref (Ma 9), .ref (Ma 10), .int (Mv 11), .int (Mv 12), .int (Mv 13), .ref (Ma 11), .int (Mv 14), .ref (Ma 12), .ref (Ma 13), .ref (Ma 14), .ref (Ma 15), .ref (Ma 16), .long (Mj 0), .ref (Ma 17), .ref (Ma 18), .ref (Ma 19), .ref (Ma 20)])), ((Ma 1), .inl (tc 2, 400, .inl (Mf 1)))]) ⟨hx, hb, hml, hown, hts⟩ hK hX hA (ct_X12_strength l D tc sk 12) k_1345 k_1343 k_1344 k_106 pl_X12_strength ⟨Nat.le_of_ble_eq_true rfl, Nat.le_of_ble_eq_true rfl⟩ rfl rfl  hP hD hS [] [0, 1, 2, 3, 4] rfl rfl rfl rfl rfl (by decide) rfl hl.1 rfl (Nat.le_of_ble_eq_true rfl) dX12_tested_83 ⟨Nat.le_of_ble_eq_true rfl, Nat.le_of_ble_eq_true rfl⟩ (fun v_371 u_372 H locs hv_373 hP₀ hD₀ hS₀ => ?_)
                obtain ⟨r_374, rfl, he_375⟩ := hv_373
                have he_375 : (((12 : Int32).toInt = 13 ∧ r_374.toInt = 1) ∨ ((12 : Int32).toInt = 12 ∧ r_374.toInt = 2) ∨ ((12 : Int32).toInt = 11 ∧ r_374.toInt = 3) ∨ ((12 : Int32).toInt ≠ 13 ∧ (12 : Int32).toInt ≠ 12 ∧ (12 : Int32).toInt ≠ 11 ∧ r_374.toInt = 0)) := he_375
                refine W.eq (g2 := F0 m 86 ls [.int r_374, .ref (Ma 0)]) rfl ?_
                replace hP : va_P D classes [((Ma 2), .inl (tc 0, 2400, .inl sv_141)), ((Ma 3), .inl (tc 0, 7, .inl sv_142)), ((Ma 7), .inl (tc 0, 400, .inl sv_119)), ((Ma 0), .inr (12, [.ref (Ma 1), .int (Mv 0), .int (Mv 1), .ref (Ma 2), .ref (Ma 3), .ref (Ma 4), .ref (Ma 5), .ref (Ma 6), .int sv_368, .int sv_112, .int sv_113, .int (Mv 5), .int sv_114, .int sv_139, .int (Mv 8), .ref (Ma 7), .int sv_140, .ref (Ma 8), .int (Mv 10), .ref (Ma 9), .ref (Ma 10), .int (Mv 11), .int (Mv 12), .int (Mv 13), .ref (Ma 11), .int (Mv 14), .ref (Ma 12), .ref (Ma 13), .ref (Ma 14), .ref (Ma 15), .ref (Ma 16), .long (Mj 0), .ref (Ma 17), .ref (Ma 18), .ref (Ma 19), .ref (Ma 20)])), ((Ma 1), .inl (tc 2, 400, .inl (Mf 1)))] H := hP₀
                replace hD : va_D A [((Ma 2), .inl (tc 0, 2400, .inl sv_141)), ((Ma 3), .inl (tc 0, 7, .inl sv_142)), ((Ma 7), .inl (tc 0, 400, .inl sv_119)), ((Ma 0), .inr (12, [.ref (Ma 1), .int (Mv 0), .int (Mv 1), .ref (Ma 2), .ref (Ma 3), .ref (Ma 4), .ref (Ma 5), .ref (Ma 6), .int sv_368, .int sv_112, .int sv_113, .int (Mv 5), .int sv_114, .int sv_139, .int (Mv 8), .ref (Ma 7), .int sv_140, .ref (Ma 8), .int (Mv 10), .ref (Ma 9), .ref (Ma 10), .int (Mv 11), .int (Mv 12), .int (Mv 13), .ref (Ma 11), .int (Mv 14), .ref (Ma 12), .ref (Ma 13), .ref (Ma 14), .ref (Ma 15), .ref (Ma 16), .long (Mj 0), .ref (Ma 17), .ref (Ma 18), .ref (Ma 19), .ref (Ma 20)])), ((Ma 1), .inl (tc 2, 400, .inl (Mf 1)))] := hD₀
                replace hS := hS₀
                clear hP₀ hD₀ hS₀
                have yy_376 : (12 : Int32).toInt = 12 := by decide
                have ha_377 : 1 ≤ r_374.toInt ∧ r_374.toInt ≤ 3 := by
                  have z_1 : ¬ (vy_20 : Int32).toInt = (0 : Int32).toInt := fun z => c_32 (Int32.toInt_inj.mp z)
                  have z_2 : ¬ (r_123 : Int32).toInt = (0 : Int32).toInt := fun z => c_127 (Int32.toInt_inj.mp z)
                  have z_3 := congrArg Int32.toInt c_162
                  have z_4 : ¬ (r_283 : Int32).toInt = (0 : Int32).toInt := fun z => c_287 (Int32.toInt_inj.mp z)
                  have z_5 : ¬ (r_309 : Int32).toInt = (0 : Int32).toInt := fun z => c_315 (Int32.toInt_inj.mp z)
                  have y_0 : (0 : Int32).toInt = 0 := by decide
                  refine ⟨?_, ?_⟩ <;> omega
                have ha_378 : (sv_142 (Mv 5).toNatClampNeg).toInt + (sv_140 : Int32).toInt ≤ 400 := by
                  have z_1 : ¬ (vy_20 : Int32).toInt = (0 : Int32).toInt := fun z => c_32 (Int32.toInt_inj.mp z)
                  have z_2 : ¬ (r_123 : Int32).toInt = (0 : Int32).toInt := fun z => c_127 (Int32.toInt_inj.mp z)
                  have z_3 := congrArg Int32.toInt c_162
                  have z_4 : ¬ (r_283 : Int32).toInt = (0 : Int32).toInt := fun z => c_287 (Int32.toInt_inj.mp z)
                  have z_5 : ¬ (r_309 : Int32).toInt = (0 : Int32).toInt := fun z => c_315 (Int32.toInt_inj.mp z)
                  have y_0 : (0 : Int32).toInt = 0 := by decide
                  omega
                refine cV (a := (Ma 0)) (As := [.int r_374]) (rest := []) (wr := [((Ma 1), .inl (tc 2, 400, .inl (Mf 1)))]) ⟨hx, hb, hml, hown, hts⟩ hK hX hA (cu_X12_layDown l D tc sk (Ma 0) (Ma 1) (Ma 2) (Ma 3) (Ma 4) (Ma 5) (Ma 6) (Ma 7) (Ma 8) (Ma 9) (Ma 10) (Ma 11) (Ma 12) (Ma 13) (Ma 14) (Ma 15) (Ma 16) (Ma 17) (Ma 18) (Ma 19) (Ma 20) (Mv 0) (Mv 1) sv_368 sv_112 sv_113 (Mv 5) sv_114 sv_139 (Mv 8) sv_140 (Mv 10) (Mv 11) (Mv 12) (Mv 13) (Mv 14) sv_141 sv_142 sv_119 (Mj 0) r_374 b pf_145 ha_377 ha_378) k_1342 k_1339 k_1341 k_54 k_106 pl_X12_layDown ⟨Nat.le_of_ble_eq_true rfl, Nat.le_of_ble_eq_true rfl⟩ rfl rfl (va_recv hK hP (ci := 12) (q0 := 3) rfl rfl) hP hD hS [3, 0, 1, 2] [4] rfl rfl rfl rfl rfl (by decide) rfl hl.1 rfl (Nat.le_of_ble_eq_true rfl) dX12_tested_86 ⟨Nat.le_of_ble_eq_true rfl, Nat.le_of_ble_eq_true rfl⟩ (fun v_379 u_380 H locs hv_381 hP₀ hD₀ hS₀ => ?_)
                obtain ⟨sv_382, sv_383, sv_384, sv_385⟩ := u_380
                obtain ⟨rfl, pf_386, pf_387, pf_388, pf_389, pf_390⟩ := hv_381
                have pf_386 : LSR sv_119 sv_383 sv_384 sv_385 (Mv 5) b sv_114 := pf_386
                obtain ⟨pn_391, pf_392, pf_393⟩ := id pf_386
                have ar_pf_386 := LSR.ar pf_386
                have ar_pf_393 := Cd.ar pf_393
                have pf_387 : (sv_385 (Mv 5).toNatClampNeg).toInt + (sv_383 : Int32).toInt = (sv_142 (Mv 5).toNatClampNeg).toInt + (sv_140 : Int32).toInt ∧ 0 ≤ (sv_383 : Int32).toInt ∧ (sv_383 : Int32).toInt ≤ (sv_140 : Int32).toInt := pf_387
                have pf_388 : Agr sv_141 sv_384 (400 * ((Mv 5) : Int32).toInt + (sv_142 (Mv 5).toNatClampNeg).toInt) := pf_388
                have pf_389 : LdE sv_119 sv_383 r_374 := pf_389
                have pf_390 : InK sv_119 sv_140 sv_383 := pf_390
                refine W.eq (g2 := F0 m 89 ls []) rfl ?_
                replace hP : va_P D classes [((Ma 1), .inl (tc 2, 400, .inl (Mf 1))), ((Ma 0), .inr (12, [.ref (Ma 1), .int (Mv 0), .int (Mv 1), .ref (Ma 2), .ref (Ma 3), .ref (Ma 4), .ref (Ma 5), .ref (Ma 6), .int sv_368, .int sv_112, .int sv_113, .int (Mv 5), .int sv_114, .int sv_382, .int (Mv 8), .ref (Ma 7), .int sv_383, .ref (Ma 8), .int (Mv 10), .ref (Ma 9), .ref (Ma 10), .int (Mv 11), .int (Mv 12), .int (Mv 13), .ref (Ma 11), .int (Mv 14), .ref (Ma 12), .ref (Ma 13), .ref (Ma 14), .ref (Ma 15), .ref (Ma 16), .long (Mj 0), .ref (Ma 17), .ref (Ma 18), .ref (Ma 19), .ref (Ma 20)])), ((Ma 2), .inl (tc 0, 2400, .inl sv_384)), ((Ma 3), .inl (tc 0, 7, .inl sv_385)), ((Ma 7), .inl (tc 0, 400, .inl sv_119))] H := hP₀
                replace hD : va_D A [((Ma 1), .inl (tc 2, 400, .inl (Mf 1))), ((Ma 0), .inr (12, [.ref (Ma 1), .int (Mv 0), .int (Mv 1), .ref (Ma 2), .ref (Ma 3), .ref (Ma 4), .ref (Ma 5), .ref (Ma 6), .int sv_368, .int sv_112, .int sv_113, .int (Mv 5), .int sv_114, .int sv_382, .int (Mv 8), .ref (Ma 7), .int sv_383, .ref (Ma 8), .int (Mv 10), .ref (Ma 9), .ref (Ma 10), .int (Mv 11), .int (Mv 12), .int (Mv 13), .ref (Ma 11), .int (Mv 14), .ref (Ma 12), .ref (Ma 13), .ref (Ma 14), .ref (Ma 15), .ref (Ma 16), .long (Mj 0), .ref (Ma 17), .ref (Ma 18), .ref (Ma 19), .ref (Ma 20)])), ((Ma 2), .inl (tc 0, 2400, .inl sv_384)), ((Ma 3), .inl (tc 0, 7, .inl sv_385)), ((Ma 7), .inl (tc 0, 400, .inl sv_119))] := hD₀
                replace hS := hS₀
                clear hP₀ hD₀ hS₀
                refine lv_aload_n hx hb dX12_tested_89 rfl (lv_at hl 2 rfl) ?_
                refine gf_X12_29 hx hb hts hown hK hP 1 rfl rfl dX12_tested_90 ?_
                refine lv_aload_n hx hb dX12_tested_93 rfl (lv_at hl 2 rfl) ?_
                refine gf_X12_154 hx hb hts hown hK hP 1 rfl rfl dX12_tested_94 ?_
                refine lv_iload_n hx hb dX12_tested_97 rfl (lv_at hl 0 rfl) ?_
                have hi_394 : vp_in sv_383 400 := by
                  have z_1 : ¬ (vy_20 : Int32).toInt = (0 : Int32).toInt := fun z => c_32 (Int32.toInt_inj.mp z)
                  have z_2 : ¬ (r_123 : Int32).toInt = (0 : Int32).toInt := fun z => c_127 (Int32.toInt_inj.mp z)
                  have z_3 := congrArg Int32.toInt c_162
                  have z_4 : ¬ (r_283 : Int32).toInt = (0 : Int32).toInt := fun z => c_287 (Int32.toInt_inj.mp z)
                  have z_5 : ¬ (r_309 : Int32).toInt = (0 : Int32).toInt := fun z => c_315 (Int32.toInt_inj.mp z)
                  have y_0 : (0 : Int32).toInt = 0 := by decide
                  refine vp_in_iff.mpr ⟨?_, ?_⟩ <;> omega
                refine st_int hx hb hK hP hD hS 4 0 rfl rfl hi_394 dX12_tested_98 (fun g_395 H locs eg_395 hP₀ hD₀ hS₀ => ?_)
                replace hP : va_P D classes [((Ma 1), .inl (tc 2, 400, .inl (Mf 1))), ((Ma 0), .inr (12, [.ref (Ma 1), .int (Mv 0), .int (Mv 1), .ref (Ma 2), .ref (Ma 3), .ref (Ma 4), .ref (Ma 5), .ref (Ma 6), .int sv_368, .int sv_112, .int sv_113, .int (Mv 5), .int sv_114, .int sv_382, .int (Mv 8), .ref (Ma 7), .int sv_383, .ref (Ma 8), .int (Mv 10), .ref (Ma 9), .ref (Ma 10), .int (Mv 11), .int (Mv 12), .int (Mv 13), .ref (Ma 11), .int (Mv 14), .ref (Ma 12), .ref (Ma 13), .ref (Ma 14), .ref (Ma 15), .ref (Ma 16), .long (Mj 0), .ref (Ma 17), .ref (Ma 18), .ref (Ma 19), .ref (Ma 20)])), ((Ma 2), .inl (tc 0, 2400, .inl sv_384)), ((Ma 3), .inl (tc 0, 7, .inl sv_385)), ((Ma 7), .inl (tc 0, 400, .inl g_395))] H := hP₀
                replace hD : va_D A [((Ma 1), .inl (tc 2, 400, .inl (Mf 1))), ((Ma 0), .inr (12, [.ref (Ma 1), .int (Mv 0), .int (Mv 1), .ref (Ma 2), .ref (Ma 3), .ref (Ma 4), .ref (Ma 5), .ref (Ma 6), .int sv_368, .int sv_112, .int sv_113, .int (Mv 5), .int sv_114, .int sv_382, .int (Mv 8), .ref (Ma 7), .int sv_383, .ref (Ma 8), .int (Mv 10), .ref (Ma 9), .ref (Ma 10), .int (Mv 11), .int (Mv 12), .int (Mv 13), .ref (Ma 11), .int (Mv 14), .ref (Ma 12), .ref (Ma 13), .ref (Ma 14), .ref (Ma 15), .ref (Ma 16), .long (Mj 0), .ref (Ma 17), .ref (Ma 18), .ref (Ma 19), .ref (Ma 20)])), ((Ma 2), .inl (tc 0, 2400, .inl sv_384)), ((Ma 3), .inl (tc 0, 7, .inl sv_385)), ((Ma 7), .inl (tc 0, 400, .inl g_395))] := hD₀
                replace hS := hS₀
                clear hP₀ hD₀ hS₀
                refine lv_aload_n hx hb dX12_tested_99 rfl (lv_at hl 2 rfl) ?_
                refine lv_dup hx hb dX12_tested_100 rfl ?_
                refine gf_X12_154 hx hb hts hown hK hP 1 rfl rfl dX12_tested_101 ?_
                refine lv_iconst (v := 1) hx hb dX12_tested_104 (by decide) ?_
                refine lv_iadd hx hb dX12_tested_105 ?_
                refine lv_topi (fun x_396 ex_396 => ?_)
                refine pf_X12_154 hx hb hts hown hK hP hD hS 1 rfl (Nat.le_of_ble_eq_true rfl) rfl rfl dX12_tested_106 (fun H locs hP₀ hD₀ hS₀ => ?_)
                replace hP : va_P D classes [((Ma 1), .inl (tc 2, 400, .inl (Mf 1))), ((Ma 0), .inr (12, [.ref (Ma 1), .int (Mv 0), .int (Mv 1), .ref (Ma 2), .ref (Ma 3), .ref (Ma 4), .ref (Ma 5), .ref (Ma 6), .int sv_368, .int sv_112, .int sv_113, .int (Mv 5), .int sv_114, .int sv_382, .int (Mv 8), .ref (Ma 7), .int x_396, .ref (Ma 8), .int (Mv 10), .ref (Ma 9), .ref (Ma 10), .int (Mv 11), .int (Mv 12), .int (Mv 13), .ref (Ma 11), .int (Mv 14), .ref (Ma 12), .ref (Ma 13), .ref (Ma 14), .ref (Ma 15), .ref (Ma 16), .long (Mj 0), .ref (Ma 17), .ref (Ma 18), .ref (Ma 19), .ref (Ma 20)])), ((Ma 2), .inl (tc 0, 2400, .inl sv_384)), ((Ma 3), .inl (tc 0, 7, .inl sv_385)), ((Ma 7), .inl (tc 0, 400, .inl g_395))] H := hP₀
                replace hD : va_D A [((Ma 1), .inl (tc 2, 400, .inl (Mf 1))), ((Ma 0), .inr (12, [.ref (Ma 1), .int (Mv 0), .int (Mv 1), .ref (Ma 2), .ref (Ma 3), .ref (Ma 4), .ref (Ma 5), .ref (Ma 6), .int sv_368, .int sv_112, .int sv_113, .int (Mv 5), .int sv_114, .int sv_382, .int (Mv 8), .ref (Ma 7), .int x_396, .ref (Ma 8), .int (Mv 10), .ref (Ma 9), .ref (Ma 10), .int (Mv 11), .int (Mv 12), .int (Mv 13), .ref (Ma 11), .int (Mv 14), .ref (Ma 12), .ref (Ma 13), .ref (Ma 14), .ref (Ma 15), .ref (Ma 16), .long (Mj 0), .ref (Ma 17), .ref (Ma 18), .ref (Ma 19), .ref (Ma 20)])), ((Ma 2), .inl (tc 0, 2400, .inl sv_384)), ((Ma 3), .inl (tc 0, 7, .inl sv_385)), ((Ma 7), .inl (tc 0, 400, .inl g_395))] := hD₀
                replace hS := hS₀
                clear hP₀ hD₀ hS₀
                have tp_x_396 : (x_396 : Int32).toInt = (sv_383 : Int32).toInt + 1 := by
                  have z_1 : ¬ (vy_20 : Int32).toInt = (0 : Int32).toInt := fun z => c_32 (Int32.toInt_inj.mp z)
                  have z_2 : ¬ (r_123 : Int32).toInt = (0 : Int32).toInt := fun z => c_127 (Int32.toInt_inj.mp z)
                  have z_3 := congrArg Int32.toInt c_162
                  have z_4 : ¬ (r_283 : Int32).toInt = (0 : Int32).toInt := fun z => c_287 (Int32.toInt_inj.mp z)
                  have z_5 : ¬ (r_309 : Int32).toInt = (0 : Int32).toInt := fun z => c_315 (Int32.toInt_inj.mp z)
                  have y_0 : (0 : Int32).toInt = 0 := by decide
                  have y_1 : (1 : Int32).toInt = 1 := by decide
                  have t_x_396 : x_396.toInt = (sv_383 : Int32).toInt + (1 : Int32).toInt := by rw [ex_396]; exact add_toInt (by omega) (by omega)
                  omega
                refine lv_goto (tgt := 12) hx hb dX12_tested_109 (by decide) ?_
                have hb_397 : 2 * (401 - (sv_368 : Int32).toInt) + (1 : Int32).toInt < 2 * (401 - (vy_11 : Int32).toInt) + (vy_20 : Int32).toInt ∧ 1 ≤ 2 * (401 - (vy_11 : Int32).toInt) + (vy_20 : Int32).toInt := by
                  have z_1 : ¬ (vy_20 : Int32).toInt = (0 : Int32).toInt := fun z => c_32 (Int32.toInt_inj.mp z)
                  have z_2 : ¬ (r_123 : Int32).toInt = (0 : Int32).toInt := fun z => c_127 (Int32.toInt_inj.mp z)
                  have z_3 := congrArg Int32.toInt c_162
                  have z_4 : ¬ (r_283 : Int32).toInt = (0 : Int32).toInt := fun z => c_287 (Int32.toInt_inj.mp z)
                  have z_5 : ¬ (r_309 : Int32).toInt = (0 : Int32).toInt := fun z => c_315 (Int32.toInt_inj.mp z)
                  have y_0 : (0 : Int32).toInt = 0 := by decide
                  have y_1 : (1 : Int32).toInt = 1 := by decide
                  refine ⟨?_, ?_⟩ <;> omega
                have ha_398 : 0 ≤ (sv_368 : Int32).toInt ∧ (sv_368 : Int32).toInt ≤ ((Mv 0) : Int32).toInt ∧ ((Mv 0) : Int32).toInt ≤ 400 := by
                  have z_1 : ¬ (vy_20 : Int32).toInt = (0 : Int32).toInt := fun z => c_32 (Int32.toInt_inj.mp z)
                  have z_2 : ¬ (r_123 : Int32).toInt = (0 : Int32).toInt := fun z => c_127 (Int32.toInt_inj.mp z)
                  have z_3 := congrArg Int32.toInt c_162
                  have z_4 : ¬ (r_283 : Int32).toInt = (0 : Int32).toInt := fun z => c_287 (Int32.toInt_inj.mp z)
                  have z_5 : ¬ (r_309 : Int32).toInt = (0 : Int32).toInt := fun z => c_315 (Int32.toInt_inj.mp z)
                  have y_0 : (0 : Int32).toInt = 0 := by decide
                  refine ⟨?_, ?_, ?_⟩ <;> omega
                have ha_399 : (Mv 2).toInt ≤ (sv_368 : Int32).toInt := by
                  have z_1 : ¬ (vy_20 : Int32).toInt = (0 : Int32).toInt := fun z => c_32 (Int32.toInt_inj.mp z)
                  have z_2 : ¬ (r_123 : Int32).toInt = (0 : Int32).toInt := fun z => c_127 (Int32.toInt_inj.mp z)
                  have z_3 := congrArg Int32.toInt c_162
                  have z_4 : ¬ (r_283 : Int32).toInt = (0 : Int32).toInt := fun z => c_287 (Int32.toInt_inj.mp z)
                  have z_5 : ¬ (r_309 : Int32).toInt = (0 : Int32).toInt := fun z => c_315 (Int32.toInt_inj.mp z)
                  have y_0 : (0 : Int32).toInt = 0 := by decide
                  omega
                have ha_400 : 0 ≤ (1 : Int32).toInt ∧ (1 : Int32).toInt ≤ 1 := by
                  have z_1 : ¬ (vy_20 : Int32).toInt = (0 : Int32).toInt := fun z => c_32 (Int32.toInt_inj.mp z)
                  have z_2 : ¬ (r_123 : Int32).toInt = (0 : Int32).toInt := fun z => c_127 (Int32.toInt_inj.mp z)
                  have z_3 := congrArg Int32.toInt c_162
                  have z_4 : ¬ (r_283 : Int32).toInt = (0 : Int32).toInt := fun z => c_287 (Int32.toInt_inj.mp z)
                  have z_5 : ¬ (r_309 : Int32).toInt = (0 : Int32).toInt := fun z => c_315 (Int32.toInt_inj.mp z)
                  have y_0 : (0 : Int32).toInt = 0 := by decide
                  have y_1 : (1 : Int32).toInt = 1 := by decide
                  refine ⟨?_, ?_⟩ <;> omega
                have ha_401 : (Mv 6).toInt ≤ (sv_114 : Int32).toInt ∧ (sv_114 : Int32).toInt ≤ 60 := by
                  have z_1 : ¬ (vy_20 : Int32).toInt = (0 : Int32).toInt := fun z => c_32 (Int32.toInt_inj.mp z)
                  have z_2 : ¬ (r_123 : Int32).toInt = (0 : Int32).toInt := fun z => c_127 (Int32.toInt_inj.mp z)
                  have z_3 := congrArg Int32.toInt c_162
                  have z_4 : ¬ (r_283 : Int32).toInt = (0 : Int32).toInt := fun z => c_287 (Int32.toInt_inj.mp z)
                  have z_5 : ¬ (r_309 : Int32).toInt = (0 : Int32).toInt := fun z => c_315 (Int32.toInt_inj.mp z)
                  have y_0 : (0 : Int32).toInt = 0 := by decide
                  refine ⟨?_, ?_⟩ <;> omega
                have hi_402 : (x_396 : Int32).toInt = (sv_383 : Int32).toInt + 1 := by
                  have z_1 : ¬ (vy_20 : Int32).toInt = (0 : Int32).toInt := fun z => c_32 (Int32.toInt_inj.mp z)
                  have z_2 : ¬ (r_123 : Int32).toInt = (0 : Int32).toInt := fun z => c_127 (Int32.toInt_inj.mp z)
                  have z_3 := congrArg Int32.toInt c_162
                  have z_4 : ¬ (r_283 : Int32).toInt = (0 : Int32).toInt := fun z => c_287 (Int32.toInt_inj.mp z)
                  have z_5 : ¬ (r_309 : Int32).toInt = (0 : Int32).toInt := fun z => c_315 (Int32.toInt_inj.mp z)
                  have y_0 : (0 : Int32).toInt = 0 := by decide
                  have y_1 : (1 : Int32).toInt = 1 := by decide
                  have t_x_396 : x_396.toInt = (sv_383 : Int32).toInt + (1 : Int32).toInt := by rw [ex_396]; exact add_toInt (by omega) (by omega)
                  omega
                have hr_403 : (sv_383 : Int32).toInt < 400 := by
                  have z_1 : ¬ (vy_20 : Int32).toInt = (0 : Int32).toInt := fun z => c_32 (Int32.toInt_inj.mp z)
                  have z_2 : ¬ (r_123 : Int32).toInt = (0 : Int32).toInt := fun z => c_127 (Int32.toInt_inj.mp z)
                  have z_3 := congrArg Int32.toInt c_162
                  have z_4 : ¬ (r_283 : Int32).toInt = (0 : Int32).toInt := fun z => c_287 (Int32.toInt_inj.mp z)
                  have z_5 : ¬ (r_309 : Int32).toInt = (0 : Int32).toInt := fun z => c_315 (Int32.toInt_inj.mp z)
                  have y_0 : (0 : Int32).toInt = 0 := by decide
                  omega
                have hr_404 : (12 : Int32).toInt = 12 ∨ (12 : Int32).toInt = 13 := by
                  have z_1 : ¬ (vy_20 : Int32).toInt = (0 : Int32).toInt := fun z => c_32 (Int32.toInt_inj.mp z)
                  have z_2 : ¬ (r_123 : Int32).toInt = (0 : Int32).toInt := fun z => c_127 (Int32.toInt_inj.mp z)
                  have z_3 := congrArg Int32.toInt c_162
                  have z_4 : ¬ (r_283 : Int32).toInt = (0 : Int32).toInt := fun z => c_287 (Int32.toInt_inj.mp z)
                  have z_5 : ¬ (r_309 : Int32).toInt = (0 : Int32).toInt := fun z => c_315 (Int32.toInt_inj.mp z)
                  have y_0 : (0 : Int32).toInt = 0 := by decide
                  have y_12 : (12 : Int32).toInt = 12 := by decide
                  omega
                have ha_405 : (sv_385 (Mv 5).toNatClampNeg).toInt + (x_396 : Int32).toInt ≤ (sv_368 : Int32).toInt ∧ ((Mf 3) (Mv 5).toNatClampNeg).toInt ≤ (sv_385 (Mv 5).toNatClampNeg).toInt ∧ 0 ≤ (x_396 : Int32).toInt ∧ (x_396 : Int32).toInt ≤ 400 := by
                  have z_1 : ¬ (vy_20 : Int32).toInt = (0 : Int32).toInt := fun z => c_32 (Int32.toInt_inj.mp z)
                  have z_2 : ¬ (r_123 : Int32).toInt = (0 : Int32).toInt := fun z => c_127 (Int32.toInt_inj.mp z)
                  have z_3 := congrArg Int32.toInt c_162
                  have z_4 : ¬ (r_283 : Int32).toInt = (0 : Int32).toInt := fun z => c_287 (Int32.toInt_inj.mp z)
                  have z_5 : ¬ (r_309 : Int32).toInt = (0 : Int32).toInt := fun z => c_315 (Int32.toInt_inj.mp z)
                  have y_0 : (0 : Int32).toInt = 0 := by decide
                  have y_1 : (1 : Int32).toInt = 1 := by decide
                  have t_x_396 : x_396.toInt = (sv_383 : Int32).toInt + (1 : Int32).toInt := by rw [ex_396]; exact add_toInt (by omega) (by omega)
                  refine ⟨?_, ?_, ?_, ?_⟩ <;> omega
                have hr_406 : (400 * ((Mv 5) : Int32).toInt + ((Mf 3) (Mv 5).toNatClampNeg).toInt) ≤ (400 * ((Mv 5) : Int32).toInt + ((Mf 3) (Mv 5).toNatClampNeg).toInt) := by
                  have z_1 : ¬ (vy_20 : Int32).toInt = (0 : Int32).toInt := fun z => c_32 (Int32.toInt_inj.mp z)
                  have z_2 : ¬ (r_123 : Int32).toInt = (0 : Int32).toInt := fun z => c_127 (Int32.toInt_inj.mp z)
                  have z_3 := congrArg Int32.toInt c_162
                  have z_4 : ¬ (r_283 : Int32).toInt = (0 : Int32).toInt := fun z => c_287 (Int32.toInt_inj.mp z)
                  have z_5 : ¬ (r_309 : Int32).toInt = (0 : Int32).toInt := fun z => c_315 (Int32.toInt_inj.mp z)
                  have y_0 : (0 : Int32).toInt = 0 := by decide
                  omega
                have hr_407 : (400 * ((Mv 5) : Int32).toInt + ((Mf 3) (Mv 5).toNatClampNeg).toInt) ≤ (400 * ((Mv 5) : Int32).toInt + (vy_18 (Mv 5).toNatClampNeg).toInt) := by
                  have z_1 : ¬ (vy_20 : Int32).toInt = (0 : Int32).toInt := fun z => c_32 (Int32.toInt_inj.mp z)
                  have z_2 : ¬ (r_123 : Int32).toInt = (0 : Int32).toInt := fun z => c_127 (Int32.toInt_inj.mp z)
                  have z_3 := congrArg Int32.toInt c_162
                  have z_4 : ¬ (r_283 : Int32).toInt = (0 : Int32).toInt := fun z => c_287 (Int32.toInt_inj.mp z)
                  have z_5 : ¬ (r_309 : Int32).toInt = (0 : Int32).toInt := fun z => c_315 (Int32.toInt_inj.mp z)
                  have y_0 : (0 : Int32).toInt = 0 := by decide
                  omega
                have hr_408 : (400 * ((Mv 5) : Int32).toInt + ((Mf 3) (Mv 5).toNatClampNeg).toInt) ≤ (400 * ((Mv 5) : Int32).toInt + (sv_118 (Mv 5).toNatClampNeg).toInt) := by
                  have z_1 : ¬ (vy_20 : Int32).toInt = (0 : Int32).toInt := fun z => c_32 (Int32.toInt_inj.mp z)
                  have z_2 : ¬ (r_123 : Int32).toInt = (0 : Int32).toInt := fun z => c_127 (Int32.toInt_inj.mp z)
                  have z_3 := congrArg Int32.toInt c_162
                  have z_4 : ¬ (r_283 : Int32).toInt = (0 : Int32).toInt := fun z => c_287 (Int32.toInt_inj.mp z)
                  have z_5 : ¬ (r_309 : Int32).toInt = (0 : Int32).toInt := fun z => c_315 (Int32.toInt_inj.mp z)
                  have y_0 : (0 : Int32).toInt = 0 := by decide
                  omega
                have hr_409 : (400 * ((Mv 5) : Int32).toInt + ((Mf 3) (Mv 5).toNatClampNeg).toInt) ≤ (400 * ((Mv 5) : Int32).toInt + (sv_142 (Mv 5).toNatClampNeg).toInt) := by
                  have z_1 : ¬ (vy_20 : Int32).toInt = (0 : Int32).toInt := fun z => c_32 (Int32.toInt_inj.mp z)
                  have z_2 : ¬ (r_123 : Int32).toInt = (0 : Int32).toInt := fun z => c_127 (Int32.toInt_inj.mp z)
                  have z_3 := congrArg Int32.toInt c_162
                  have z_4 : ¬ (r_283 : Int32).toInt = (0 : Int32).toInt := fun z => c_287 (Int32.toInt_inj.mp z)
                  have z_5 : ¬ (r_309 : Int32).toInt = (0 : Int32).toInt := fun z => c_315 (Int32.toInt_inj.mp z)
                  have y_0 : (0 : Int32).toInt = 0 := by decide
                  omega
                exact ih_22 sv_368 sv_112 sv_113 sv_114 sv_382 x_396 sv_384 sv_385 g_395 1 _ _ _ (by omega) ha_398 ha_399 ha_400 ha_401 ⟨fun _ => LSR.open2 pf_386 eg_395 hi_402 hr_403 hr_404, fun h => absurd h (by decide)⟩ ha_405 (Agr.trans (k' := (400 * ((Mv 5) : Int32).toInt + ((Mf 3) (Mv 5).toNatClampNeg).toInt)) (Agr.trans (k' := (400 * ((Mv 5) : Int32).toInt + ((Mf 3) (Mv 5).toNatClampNeg).toInt)) (Agr.trans (k' := (400 * ((Mv 5) : Int32).toInt + ((Mf 3) (Mv 5).toNatClampNeg).toInt)) (Agr.mono pf_30 hr_406) pf_122 ⟨Int.le_refl _, hr_407⟩) pf_144 ⟨Int.le_refl _, hr_408⟩) pf_388 ⟨Int.le_refl _, hr_409⟩) (hP.sub [1, 0, 2, 3, 4] rfl) (hD.sub [1, 0, 2, 3, 4] rfl rfl) hS (lv_sub hl [1, 2] rfl)
        · skip
          refine lv_iconst (v := 0) hx hb dX12_tested_23 (by decide) ?_
          have ha_410 : ((Mv 2) : Int32).toInt ≤ (sv_111 : Int32).toInt ∧ (sv_111 : Int32).toInt ≤ ((Mv 0) : Int32).toInt := by
            have z_1 : ¬ (vy_20 : Int32).toInt = (0 : Int32).toInt := fun z => c_32 (Int32.toInt_inj.mp z)
            have z_2 := congrArg Int32.toInt c_127
            have y_0 : (0 : Int32).toInt = 0 := by decide
            refine ⟨?_, ?_⟩ <;> omega
          have ha_411 : ((Mv 6) : Int32).toInt ≤ (sv_114 : Int32).toInt ∧ (sv_114 : Int32).toInt ≤ 60 := by
            have z_1 : ¬ (vy_20 : Int32).toInt = (0 : Int32).toInt := fun z => c_32 (Int32.toInt_inj.mp z)
            have z_2 := congrArg Int32.toInt c_127
            have y_0 : (0 : Int32).toInt = 0 := by decide
            refine ⟨?_, ?_⟩ <;> omega
          have hr_412 : (400 * ((Mv 5) : Int32).toInt + ((Mf 3) (Mv 5).toNatClampNeg).toInt) ≤ (400 * ((Mv 5) : Int32).toInt + ((Mf 3) (Mv 5).toNatClampNeg).toInt) := by
            have z_1 : ¬ (vy_20 : Int32).toInt = (0 : Int32).toInt := fun z => c_32 (Int32.toInt_inj.mp z)
            have z_2 := congrArg Int32.toInt c_127
            have y_0 : (0 : Int32).toInt = 0 := by decide
            omega
          have hr_413 : (400 * ((Mv 5) : Int32).toInt + ((Mf 3) (Mv 5).toNatClampNeg).toInt) ≤ (400 * ((Mv 5) : Int32).toInt + (vy_18 (Mv 5).toNatClampNeg).toInt) := by
            have z_1 : ¬ (vy_20 : Int32).toInt = (0 : Int32).toInt := fun z => c_32 (Int32.toInt_inj.mp z)
            have z_2 := congrArg Int32.toInt c_127
            have y_0 : (0 : Int32).toInt = 0 := by decide
            omega
          have hp_414 : (((0 : Int32).toInt = 0 ∧ ¬ (sv_112 : Int32).toInt = 0) ∨ ((0 : Int32).toInt = 1 ∧ ((Mf 3) (Mv 5).toNatClampNeg).toInt ≤ (sv_118 (Mv 5).toNatClampNeg).toInt ∧ (sv_118 (Mv 5).toNatClampNeg).toInt ≤ (sv_111 : Int32).toInt)) := by
            have z_1 : ¬ (vy_20 : Int32).toInt = (0 : Int32).toInt := fun z => c_32 (Int32.toInt_inj.mp z)
            have z_2 := congrArg Int32.toInt c_127
            have y_0 : (0 : Int32).toInt = 0 := by decide
            omega
          exact retI (v := 0) hx hb hr hlk (rfl) hP hD hS (sv_111, sv_112, sv_113, sv_114, sv_115, sv_116, sv_117, sv_118, sv_119) ⟨_, rfl, hp_414, ha_410, ha_411, (Agr.trans (k' := (400 * ((Mv 5) : Int32).toInt + ((Mf 3) (Mv 5).toNatClampNeg).toInt)) (Agr.mono pf_30 hr_412) pf_122 ⟨Int.le_refl _, hr_413⟩), (fun h => absurd h (by decide))⟩ [0, 1, 2, 3, 4] rfl rfl dX12_tested_24 (Nat.le_of_ble_eq_true rfl) (Nat.le_of_ble_eq_true rfl) rfl
  have ha_415 : (Mv 2).toInt ≤ ((Mv 2) : Int32).toInt := by
    omega
  have ha_416 : 0 ≤ (1 : Int32).toInt ∧ (1 : Int32).toInt ≤ 1 := by
    have y_1 : (1 : Int32).toInt = 1 := by decide
    refine ⟨?_, ?_⟩ <;> omega
  have ha_417 : (Mv 6).toInt ≤ ((Mv 6) : Int32).toInt ∧ ((Mv 6) : Int32).toInt ≤ 60 := by
    refine ⟨?_, ?_⟩ <;> omega
  have ha_418 : ((Mf 3) (Mv 5).toNatClampNeg).toInt + (0 : Int32).toInt ≤ ((Mv 2) : Int32).toInt ∧ ((Mf 3) (Mv 5).toNatClampNeg).toInt ≤ ((Mf 3) (Mv 5).toNatClampNeg).toInt ∧ 0 ≤ (0 : Int32).toInt ∧ (0 : Int32).toInt ≤ 400 := by
    have y_0 : (0 : Int32).toInt = 0 := by decide
    refine ⟨?_, ?_, ?_, ?_⟩ <;> omega
  exact loop_23 _ (Mv 2) (Mv 3) (Mv 4) (Mv 6) 0 0 (Mf 2) (Mf 3) (Mf 7) 1 _ _ _ (Nat.lt_succ_self _) h_nx ha_415 ha_416 ha_417 ⟨fun _ => ⟨0, OpS.nil (by decide), h_cd⟩, fun h => absurd h (by decide)⟩ ha_418 (Agr.rf) hP hD hS hl
set_option maxRecDepth 100000 in
theorem cu_X12_tested (l : Launch) (D : va_G) (tc : Nat → ClassId) (sk : (Nat → Nat) × (Nat → Nat)) (Ma_0 : Nat) (Ma_1 : Nat) (Ma_2 : Nat) (Ma_3 : Nat) (Ma_4 : Nat) (Ma_5 : Nat) (Ma_6 : Nat) (Ma_7 : Nat) (Ma_8 : Nat) (Ma_9 : Nat) (Ma_10 : Nat) (Ma_11 : Nat) (Ma_12 : Nat) (Ma_13 : Nat) (Ma_14 : Nat) (Ma_15 : Nat) (Ma_16 : Nat) (Ma_17 : Nat) (Ma_18 : Nat) (Ma_19 : Nat) (Ma_20 : Nat) (Mv_0 : Int32) (Mv_1 : Int32) (Mv_2 : Int32) (Mv_3 : Int32) (Mv_4 : Int32) (Mv_5 : Int32) (Mv_6 : Int32) (Mv_7 : Int32) (Mv_8 : Int32) (Mv_9 : Int32) (Mv_10 : Int32) (Mv_11 : Int32) (Mv_12 : Int32) (Mv_13 : Int32) (Mv_14 : Int32) (Mf_1 : Nat → Int32) (Mf_2 : Nat → Int32) (Mf_3 : Nat → Int32) (Mf_7 : Nat → Int32) (Mj_0 : Int64) (b : Int32) (h_nx : 0 ≤ (Mv_2 : Int32).toInt ∧ (Mv_2 : Int32).toInt ≤ (Mv_0 : Int32).toInt ∧ (Mv_0 : Int32).toInt ≤ 400) (h_cd : Cd Mf_2 Mf_3 Mv_5 b Mv_6 0) (h_L : (Mf_3 Mv_5.toNatClampNeg).toInt ≤ (Mv_2 : Int32).toInt) (h_md : 0 ≤ (Mv_6 : Int32).toInt ∧ (Mv_6 : Int32).toInt ≤ 60) : Ct l yX12_tested cX12_tested 3 (some .boolean) { frames := 8, cells := 0, slots := 0, locals := 176 } D tc sk [.ref Ma_0] [(Ma_0, .inr (12, [.ref Ma_1, .int Mv_0, .int Mv_1, .ref Ma_2, .ref Ma_3, .ref Ma_4, .ref Ma_5, .ref Ma_6, .int Mv_2, .int Mv_3, .int Mv_4, .int Mv_5, .int Mv_6, .int Mv_7, .int Mv_8, .ref Ma_7, .int Mv_9, .ref Ma_8, .int Mv_10, .ref Ma_9, .ref Ma_10, .int Mv_11, .int Mv_12, .int Mv_13, .ref Ma_11, .int Mv_14, .ref Ma_12, .ref Ma_13, .ref Ma_14, .ref Ma_15, .ref Ma_16, .long Mj_0, .ref Ma_17, .ref Ma_18, .ref Ma_19, .ref Ma_20])), (Ma_1, .inl (tc 2, 400, .inl Mf_1)), (Ma_2, .inl (tc 0, 2400, .inl Mf_2)), (Ma_3, .inl (tc 0, 7, .inl Mf_3)), (Ma_7, .inl (tc 0, 400, .inl Mf_7))] (fun (v : Option Value) (u : (Int32) × (Int32) × (Int32) × (Int32) × (Int32) × (Int32) × (Nat → Int32) × (Nat → Int32) × (Nat → Int32)) => match u with | (oo0x1, oo0x2, oo0x3, oo0x4, oo0x5, oo0x6, oo0x7, oo0x8, oo0x9) => ∃ r : Int32, v = some (.int r) ∧ (((r.toInt = 0 ∧ ¬ (oo0x2 : Int32).toInt = 0) ∨ (r.toInt = 1 ∧ (Mf_3 Mv_5.toNatClampNeg).toInt ≤ (oo0x8 Mv_5.toNatClampNeg).toInt ∧ (oo0x8 Mv_5.toNatClampNeg).toInt ≤ (oo0x1 : Int32).toInt))) ∧ ((Mv_2 : Int32).toInt ≤ (oo0x1 : Int32).toInt ∧ (oo0x1 : Int32).toInt ≤ (Mv_0 : Int32).toInt) ∧ ((Mv_6 : Int32).toInt ≤ (oo0x4 : Int32).toInt ∧ (oo0x4 : Int32).toInt ≤ 60) ∧ (Agr Mf_2 oo0x7 (400 * (Mv_5 : Int32).toInt + (Mf_3 Mv_5.toNatClampNeg).toInt)) ∧ (r.toInt = 1 → (Cd oo0x7 oo0x8 Mv_5 b oo0x4 1))) (fun (u : (Int32) × (Int32) × (Int32) × (Int32) × (Int32) × (Int32) × (Nat → Int32) × (Nat → Int32) × (Nat → Int32)) => match u with | (oo0x1, oo0x2, oo0x3, oo0x4, oo0x5, oo0x6, oo0x7, oo0x8, oo0x9) => [(Ma_0, .inr (12, [.ref Ma_1, .int Mv_0, .int Mv_1, .ref Ma_2, .ref Ma_3, .ref Ma_4, .ref Ma_5, .ref Ma_6, .int oo0x1, .int oo0x2, .int oo0x3, .int Mv_5, .int oo0x4, .int oo0x5, .int Mv_8, .ref Ma_7, .int oo0x6, .ref Ma_8, .int Mv_10, .ref Ma_9, .ref Ma_10, .int Mv_11, .int Mv_12, .int Mv_13, .ref Ma_11, .int Mv_14, .ref Ma_12, .ref Ma_13, .ref Ma_14, .ref Ma_15, .ref Ma_16, .long Mj_0, .ref Ma_17, .ref Ma_18, .ref Ma_19, .ref Ma_20])), (Ma_1, .inl (tc 2, 400, .inl Mf_1)), (Ma_2, .inl (tc 0, 2400, .inl oo0x7)), (Ma_3, .inl (tc 0, 7, .inl oo0x8)), (Ma_7, .inl (tc 0, 400, .inl oo0x9))]) 0 0 :=
  ct_X12_tested l D tc sk (fun k => ([Ma_0, Ma_1, Ma_2, Ma_3, Ma_4, Ma_5, Ma_6, Ma_7, Ma_8, Ma_9, Ma_10, Ma_11, Ma_12, Ma_13, Ma_14, Ma_15, Ma_16, Ma_17, Ma_18, Ma_19, Ma_20] : List (Nat)).getD k 0) (fun k => ([Mv_0, Mv_1, Mv_2, Mv_3, Mv_4, Mv_5, Mv_6, Mv_7, Mv_8, Mv_9, Mv_10, Mv_11, Mv_12, Mv_13, Mv_14] : List (Int32)).getD k 0) (fun k => ([(fun _ => 0), Mf_1, Mf_2, Mf_3, (fun _ => 0), (fun _ => 0), (fun _ => 0), Mf_7] : List (Nat → Int32)).getD k (fun _ => 0)) (fun k => ([Mj_0] : List (Int64)).getD k 0) b h_nx h_cd h_L h_md
