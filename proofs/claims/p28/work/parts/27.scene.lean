theorem dX2_agrees_0 : decode cX2_agrees 0 = .ok (.iconst 0, 1) := by decide +kernel
theorem dX2_agrees_1 : decode cX2_agrees 1 = .ok (.istore_n 3, 1) := by decide +kernel
theorem dX2_agrees_2 : decode cX2_agrees 2 = .ok (.iload_n 3, 1) := by decide +kernel
theorem dX2_agrees_3 : decode cX2_agrees 3 = .ok (.aload_n 2, 1) := by decide +kernel
theorem dX2_agrees_4 : decode cX2_agrees 4 = .ok (.getfield 51, 3) := by decide +kernel
theorem dX2_agrees_7 : decode cX2_agrees 7 = .ok (.if_icmp .ge 46, 3) := by decide +kernel
theorem dX2_agrees_10 : decode cX2_agrees 10 = .ok (.iload_n 3, 1) := by decide +kernel
theorem dX2_agrees_11 : decode cX2_agrees 11 = .ok (.bipush 10, 2) := by decide +kernel
theorem dX2_agrees_13 : decode cX2_agrees 13 = .ok (.if_icmp .ge 40, 3) := by decide +kernel
theorem dX2_agrees_16 : decode cX2_agrees 16 = .ok (.aload_n 0, 1) := by decide +kernel
theorem dX2_agrees_17 : decode cX2_agrees 17 = .ok (.iload_n 1, 1) := by decide +kernel
theorem dX2_agrees_18 : decode cX2_agrees 18 = .ok (.aload_n 2, 1) := by decide +kernel
theorem dX2_agrees_19 : decode cX2_agrees 19 = .ok (.getfield 56, 3) := by decide +kernel
theorem dX2_agrees_22 : decode cX2_agrees 22 = .ok (.iload_n 3, 1) := by decide +kernel
theorem dX2_agrees_23 : decode cX2_agrees 23 = .ok (.iaload, 1) := by decide +kernel
theorem dX2_agrees_24 : decode cX2_agrees 24 = .ok (.invokevirtual 59, 3) := by decide +kernel
theorem dX2_agrees_27 : decode cX2_agrees 27 = .ok (.aload_n 2, 1) := by decide +kernel
theorem dX2_agrees_28 : decode cX2_agrees 28 = .ok (.getfield 63, 3) := by decide +kernel
theorem dX2_agrees_31 : decode cX2_agrees 31 = .ok (.iload_n 3, 1) := by decide +kernel
theorem dX2_agrees_32 : decode cX2_agrees 32 = .ok (.iaload, 1) := by decide +kernel
theorem dX2_agrees_33 : decode cX2_agrees 33 = .ok (.ishr, 1) := by decide +kernel
theorem dX2_agrees_34 : decode cX2_agrees 34 = .ok (.iconst 1, 1) := by decide +kernel
theorem dX2_agrees_35 : decode cX2_agrees 35 = .ok (.iand, 1) := by decide +kernel
theorem dX2_agrees_36 : decode cX2_agrees 36 = .ok (.aload_n 2, 1) := by decide +kernel
theorem dX2_agrees_37 : decode cX2_agrees 37 = .ok (.getfield 66, 3) := by decide +kernel
theorem dX2_agrees_40 : decode cX2_agrees 40 = .ok (.iload_n 3, 1) := by decide +kernel
theorem dX2_agrees_41 : decode cX2_agrees 41 = .ok (.iaload, 1) := by decide +kernel
theorem dX2_agrees_42 : decode cX2_agrees 42 = .ok (.if_icmp .eq 5, 3) := by decide +kernel
theorem dX2_agrees_45 : decode cX2_agrees 45 = .ok (.iconst 0, 1) := by decide +kernel
theorem dX2_agrees_46 : decode cX2_agrees 46 = .ok (.ireturn, 1) := by decide +kernel
theorem dX2_agrees_47 : decode cX2_agrees 47 = .ok (.iinc 3 1, 3) := by decide +kernel
theorem dX2_agrees_50 : decode cX2_agrees 50 = .ok (.goto (-48), 3) := by decide +kernel
theorem dX2_agrees_53 : decode cX2_agrees 53 = .ok (.iconst 1, 1) := by decide +kernel
theorem dX2_agrees_54 : decode cX2_agrees 54 = .ok (.ireturn, 1) := by decide +kernel
theorem dX2_dayToLook_0 : decode cX2_dayToLook 0 = .ok (.aload_n 0, 1) := by decide +kernel
theorem dX2_dayToLook_1 : decode cX2_dayToLook 1 = .ok (.getfield 26, 3) := by decide +kernel
theorem dX2_dayToLook_4 : decode cX2_dayToLook 4 = .ok (.ifCond .ne 6, 3) := by decide +kernel
theorem dX2_dayToLook_7 : decode cX2_dayToLook 7 = .ok (.bipush (-2), 2) := by decide +kernel
theorem dX2_dayToLook_9 : decode cX2_dayToLook 9 = .ok (.ireturn, 1) := by decide +kernel
theorem dX2_dayToLook_10 : decode cX2_dayToLook 10 = .ok (.iconst 0, 1) := by decide +kernel
theorem dX2_dayToLook_11 : decode cX2_dayToLook 11 = .ok (.istore_n 2, 1) := by decide +kernel
theorem dX2_dayToLook_12 : decode cX2_dayToLook 12 = .ok (.bipush 8, 2) := by decide +kernel
theorem dX2_dayToLook_14 : decode cX2_dayToLook 14 = .ok (.istore_n 3, 1) := by decide +kernel
theorem dX2_dayToLook_15 : decode cX2_dayToLook 15 = .ok (.iconst 0, 1) := by decide +kernel
theorem dX2_dayToLook_16 : decode cX2_dayToLook 16 = .ok (.istore 4, 2) := by decide +kernel
theorem dX2_dayToLook_18 : decode cX2_dayToLook 18 = .ok (.iload 4, 2) := by decide +kernel
theorem dX2_dayToLook_20 : decode cX2_dayToLook 20 = .ok (.bipush 61, 2) := by decide +kernel
theorem dX2_dayToLook_22 : decode cX2_dayToLook 22 = .ok (.if_icmp .ge 29, 3) := by decide +kernel
theorem dX2_dayToLook_25 : decode cX2_dayToLook 25 = .ok (.aload_n 0, 1) := by decide +kernel
theorem dX2_dayToLook_26 : decode cX2_dayToLook 26 = .ok (.iload 4, 2) := by decide +kernel
theorem dX2_dayToLook_28 : decode cX2_dayToLook 28 = .ok (.invokevirtual 69, 3) := by decide +kernel
theorem dX2_dayToLook_31 : decode cX2_dayToLook 31 = .ok (.istore 5, 2) := by decide +kernel
theorem dX2_dayToLook_33 : decode cX2_dayToLook 33 = .ok (.iload 5, 2) := by decide +kernel
theorem dX2_dayToLook_35 : decode cX2_dayToLook 35 = .ok (.iload_n 3, 1) := by decide +kernel
theorem dX2_dayToLook_36 : decode cX2_dayToLook 36 = .ok (.if_icmp .ge 9, 3) := by decide +kernel
theorem dX2_dayToLook_39 : decode cX2_dayToLook 39 = .ok (.iload 5, 2) := by decide +kernel
theorem dX2_dayToLook_41 : decode cX2_dayToLook 41 = .ok (.istore_n 3, 1) := by decide +kernel
theorem dX2_dayToLook_42 : decode cX2_dayToLook 42 = .ok (.iload 4, 2) := by decide +kernel
theorem dX2_dayToLook_44 : decode cX2_dayToLook 44 = .ok (.istore_n 2, 1) := by decide +kernel
theorem dX2_dayToLook_45 : decode cX2_dayToLook 45 = .ok (.iinc 4 1, 3) := by decide +kernel
theorem dX2_dayToLook_48 : decode cX2_dayToLook 48 = .ok (.goto (-30), 3) := by decide +kernel
theorem dX2_dayToLook_51 : decode cX2_dayToLook 51 = .ok (.iload_n 1, 1) := by decide +kernel
theorem dX2_dayToLook_52 : decode cX2_dayToLook 52 = .ok (.ifCond .ne 7, 3) := by decide +kernel
theorem dX2_dayToLook_55 : decode cX2_dayToLook 55 = .ok (.iload_n 2, 1) := by decide +kernel
theorem dX2_dayToLook_56 : decode cX2_dayToLook 56 = .ok (.goto 4, 3) := by decide +kernel
theorem dX2_dayToLook_59 : decode cX2_dayToLook 59 = .ok (.iload_n 3, 1) := by decide +kernel
theorem dX2_dayToLook_60 : decode cX2_dayToLook 60 = .ok (.ireturn, 1) := by decide +kernel
theorem dX2_firstFitting_0 : decode cX2_firstFitting 0 = .ok (.iconst 0, 1) := by decide +kernel
theorem dX2_firstFitting_1 : decode cX2_firstFitting 1 = .ok (.istore_n 1, 1) := by decide +kernel
theorem dX2_firstFitting_2 : decode cX2_firstFitting 2 = .ok (.iload_n 1, 1) := by decide +kernel
theorem dX2_firstFitting_3 : decode cX2_firstFitting 3 = .ok (.bipush 7, 2) := by decide +kernel
theorem dX2_firstFitting_5 : decode cX2_firstFitting 5 = .ok (.if_icmp .ge 22, 3) := by decide +kernel
theorem dX2_firstFitting_8 : decode cX2_firstFitting 8 = .ok (.aload_n 0, 1) := by decide +kernel
theorem dX2_firstFitting_9 : decode cX2_firstFitting 9 = .ok (.getfield 22, 3) := by decide +kernel
theorem dX2_firstFitting_12 : decode cX2_firstFitting 12 = .ok (.iload_n 1, 1) := by decide +kernel
theorem dX2_firstFitting_13 : decode cX2_firstFitting 13 = .ok (.baload, 1) := by decide +kernel
theorem dX2_firstFitting_14 : decode cX2_firstFitting 14 = .ok (.ifCond .eq 7, 3) := by decide +kernel
theorem dX2_firstFitting_17 : decode cX2_firstFitting 17 = .ok (.iload_n 1, 1) := by decide +kernel
theorem dX2_firstFitting_18 : decode cX2_firstFitting 18 = .ok (.iconst 1, 1) := by decide +kernel
theorem dX2_firstFitting_19 : decode cX2_firstFitting 19 = .ok (.isub, 1) := by decide +kernel
theorem dX2_firstFitting_20 : decode cX2_firstFitting 20 = .ok (.ireturn, 1) := by decide +kernel
theorem dX2_firstFitting_21 : decode cX2_firstFitting 21 = .ok (.iinc 1 1, 3) := by decide +kernel
theorem dX2_firstFitting_24 : decode cX2_firstFitting 24 = .ok (.goto (-22), 3) := by decide +kernel
theorem dX2_firstFitting_27 : decode cX2_firstFitting 27 = .ok (.bipush (-2), 2) := by decide +kernel
theorem dX2_firstFitting_29 : decode cX2_firstFitting 29 = .ok (.ireturn, 1) := by decide +kernel
theorem dX2_mostAlike_0 : decode cX2_mostAlike 0 = .ok (.iconst 0, 1) := by decide +kernel
theorem dX2_mostAlike_1 : decode cX2_mostAlike 1 = .ok (.istore_n 2, 1) := by decide +kernel
theorem dX2_mostAlike_2 : decode cX2_mostAlike 2 = .ok (.iconst 0, 1) := by decide +kernel
theorem dX2_mostAlike_3 : decode cX2_mostAlike 3 = .ok (.istore_n 3, 1) := by decide +kernel
theorem dX2_mostAlike_4 : decode cX2_mostAlike 4 = .ok (.iload_n 3, 1) := by decide +kernel
theorem dX2_mostAlike_5 : decode cX2_mostAlike 5 = .ok (.bipush 7, 2) := by decide +kernel
theorem dX2_mostAlike_7 : decode cX2_mostAlike 7 = .ok (.if_icmp .ge 73, 3) := by decide +kernel
theorem dX2_mostAlike_10 : decode cX2_mostAlike 10 = .ok (.iconst 0, 1) := by decide +kernel
theorem dX2_mostAlike_11 : decode cX2_mostAlike 11 = .ok (.istore 4, 2) := by decide +kernel
theorem dX2_mostAlike_13 : decode cX2_mostAlike 13 = .ok (.iconst 0, 1) := by decide +kernel
theorem dX2_mostAlike_14 : decode cX2_mostAlike 14 = .ok (.istore 5, 2) := by decide +kernel
theorem dX2_mostAlike_16 : decode cX2_mostAlike 16 = .ok (.iload 5, 2) := by decide +kernel
theorem dX2_mostAlike_18 : decode cX2_mostAlike 18 = .ok (.bipush 7, 2) := by decide +kernel
theorem dX2_mostAlike_20 : decode cX2_mostAlike 20 = .ok (.if_icmp .ge 47, 3) := by decide +kernel
theorem dX2_mostAlike_23 : decode cX2_mostAlike 23 = .ok (.aload_n 0, 1) := by decide +kernel
theorem dX2_mostAlike_24 : decode cX2_mostAlike 24 = .ok (.getfield 22, 3) := by decide +kernel
theorem dX2_mostAlike_27 : decode cX2_mostAlike 27 = .ok (.iload_n 3, 1) := by decide +kernel
theorem dX2_mostAlike_28 : decode cX2_mostAlike 28 = .ok (.baload, 1) := by decide +kernel
theorem dX2_mostAlike_29 : decode cX2_mostAlike 29 = .ok (.ifCond .eq 32, 3) := by decide +kernel
theorem dX2_mostAlike_32 : decode cX2_mostAlike 32 = .ok (.aload_n 0, 1) := by decide +kernel
theorem dX2_mostAlike_33 : decode cX2_mostAlike 33 = .ok (.getfield 22, 3) := by decide +kernel
theorem dX2_mostAlike_36 : decode cX2_mostAlike 36 = .ok (.iload 5, 2) := by decide +kernel
theorem dX2_mostAlike_38 : decode cX2_mostAlike 38 = .ok (.baload, 1) := by decide +kernel
theorem dX2_mostAlike_39 : decode cX2_mostAlike 39 = .ok (.ifCond .eq 22, 3) := by decide +kernel
theorem dX2_mostAlike_42 : decode cX2_mostAlike 42 = .ok (.aload_n 0, 1) := by decide +kernel
theorem dX2_mostAlike_43 : decode cX2_mostAlike 43 = .ok (.iload_n 3, 1) := by decide +kernel
theorem dX2_mostAlike_44 : decode cX2_mostAlike 44 = .ok (.iload_n 1, 1) := by decide +kernel
theorem dX2_mostAlike_45 : decode cX2_mostAlike 45 = .ok (.invokevirtual 59, 3) := by decide +kernel
theorem dX2_mostAlike_48 : decode cX2_mostAlike 48 = .ok (.aload_n 0, 1) := by decide +kernel
theorem dX2_mostAlike_49 : decode cX2_mostAlike 49 = .ok (.iload 5, 2) := by decide +kernel
theorem dX2_mostAlike_51 : decode cX2_mostAlike 51 = .ok (.iload_n 1, 1) := by decide +kernel
theorem dX2_mostAlike_52 : decode cX2_mostAlike 52 = .ok (.invokevirtual 59, 3) := by decide +kernel
theorem dX2_mostAlike_55 : decode cX2_mostAlike 55 = .ok (.if_icmp .ne 6, 3) := by decide +kernel
theorem dX2_mostAlike_58 : decode cX2_mostAlike 58 = .ok (.iinc 4 1, 3) := by decide +kernel
theorem dX2_mostAlike_61 : decode cX2_mostAlike 61 = .ok (.iinc 5 1, 3) := by decide +kernel
theorem dX2_mostAlike_64 : decode cX2_mostAlike 64 = .ok (.goto (-48), 3) := by decide +kernel
theorem dX2_mostAlike_67 : decode cX2_mostAlike 67 = .ok (.iload_n 2, 1) := by decide +kernel
theorem dX2_mostAlike_68 : decode cX2_mostAlike 68 = .ok (.iload 4, 2) := by decide +kernel
theorem dX2_mostAlike_70 : decode cX2_mostAlike 70 = .ok (.invokestatic 73, 3) := by decide +kernel
theorem dX2_mostAlike_73 : decode cX2_mostAlike 73 = .ok (.istore_n 2, 1) := by decide +kernel
theorem dX2_mostAlike_74 : decode cX2_mostAlike 74 = .ok (.iinc 3 1, 3) := by decide +kernel
theorem dX2_mostAlike_77 : decode cX2_mostAlike 77 = .ok (.goto (-73), 3) := by decide +kernel
theorem dX2_mostAlike_80 : decode cX2_mostAlike 80 = .ok (.iload_n 2, 1) := by decide +kernel
theorem dX2_mostAlike_81 : decode cX2_mostAlike 81 = .ok (.ireturn, 1) := by decide +kernel
theorem dX2_whoOn_0 : decode cX2_whoOn 0 = .ok (.iload_n 1, 1) := by decide +kernel
theorem dX2_whoOn_1 : decode cX2_whoOn 1 = .ok (.bipush 61, 2) := by decide +kernel
theorem dX2_whoOn_3 : decode cX2_whoOn 3 = .ok (.imul, 1) := by decide +kernel
theorem dX2_whoOn_4 : decode cX2_whoOn 4 = .ok (.iload_n 2, 1) := by decide +kernel
theorem dX2_whoOn_5 : decode cX2_whoOn 5 = .ok (.iadd, 1) := by decide +kernel
theorem dX2_whoOn_6 : decode cX2_whoOn 6 = .ok (.istore_n 3, 1) := by decide +kernel
theorem dX2_whoOn_7 : decode cX2_whoOn 7 = .ok (.iload_n 3, 1) := by decide +kernel
theorem dX2_whoOn_8 : decode cX2_whoOn 8 = .ok (.ifCond .lt 21, 3) := by decide +kernel
theorem dX2_whoOn_11 : decode cX2_whoOn 11 = .ok (.iload_n 3, 1) := by decide +kernel
theorem dX2_whoOn_12 : decode cX2_whoOn 12 = .ok (.aload_n 0, 1) := by decide +kernel
theorem dX2_whoOn_13 : decode cX2_whoOn 13 = .ok (.getfield 18, 3) := by decide +kernel
theorem dX2_whoOn_16 : decode cX2_whoOn 16 = .ok (.arraylength, 1) := by decide +kernel
theorem dX2_whoOn_17 : decode cX2_whoOn 17 = .ok (.if_icmp .ge 12, 3) := by decide +kernel
theorem dX2_whoOn_20 : decode cX2_whoOn 20 = .ok (.aload_n 0, 1) := by decide +kernel
theorem dX2_whoOn_21 : decode cX2_whoOn 21 = .ok (.getfield 18, 3) := by decide +kernel
theorem dX2_whoOn_24 : decode cX2_whoOn 24 = .ok (.iload_n 3, 1) := by decide +kernel
theorem dX2_whoOn_25 : decode cX2_whoOn 25 = .ok (.iaload, 1) := by decide +kernel
theorem dX2_whoOn_26 : decode cX2_whoOn 26 = .ok (.goto 4, 3) := by decide +kernel
theorem dX2_whoOn_29 : decode cX2_whoOn 29 = .ok (.iconst 0, 1) := by decide +kernel
theorem dX2_whoOn_30 : decode cX2_whoOn 30 = .ok (.ireturn, 1) := by decide +kernel
theorem dX3_add_0 : decode cX3_add 0 = .ok (.aload_n 0, 1) := by decide +kernel
theorem dX3_add_1 : decode cX3_add 1 = .ok (.getfield 19, 3) := by decide +kernel
theorem dX3_add_4 : decode cX3_add 4 = .ok (.ifCond .lt 12, 3) := by decide +kernel
theorem dX3_add_7 : decode cX3_add 7 = .ok (.aload_n 0, 1) := by decide +kernel
theorem dX3_add_8 : decode cX3_add 8 = .ok (.getfield 19, 3) := by decide +kernel
theorem dX3_add_11 : decode cX3_add 11 = .ok (.bipush 10, 2) := by decide +kernel
theorem dX3_add_13 : decode cX3_add 13 = .ok (.if_icmp .lt 5, 3) := by decide +kernel
theorem dX3_add_16 : decode cX3_add 16 = .ok (.iconst 0, 1) := by decide +kernel
theorem dX3_add_17 : decode cX3_add 17 = .ok (.ireturn, 1) := by decide +kernel
theorem dX3_add_18 : decode cX3_add 18 = .ok (.aload_n 0, 1) := by decide +kernel
theorem dX3_add_19 : decode cX3_add 19 = .ok (.getfield 9, 3) := by decide +kernel
theorem dX3_add_22 : decode cX3_add 22 = .ok (.aload_n 0, 1) := by decide +kernel
theorem dX3_add_23 : decode cX3_add 23 = .ok (.getfield 19, 3) := by decide +kernel
theorem dX3_add_26 : decode cX3_add 26 = .ok (.iload_n 1, 1) := by decide +kernel
theorem dX3_add_27 : decode cX3_add 27 = .ok (.iastore, 1) := by decide +kernel
theorem dX3_add_28 : decode cX3_add 28 = .ok (.aload_n 0, 1) := by decide +kernel
theorem dX3_add_29 : decode cX3_add 29 = .ok (.getfield 13, 3) := by decide +kernel
theorem dX3_add_32 : decode cX3_add 32 = .ok (.aload_n 0, 1) := by decide +kernel
theorem dX3_add_33 : decode cX3_add 33 = .ok (.getfield 19, 3) := by decide +kernel
theorem dX3_add_36 : decode cX3_add 36 = .ok (.iload_n 2, 1) := by decide +kernel
theorem dX3_add_37 : decode cX3_add 37 = .ok (.iastore, 1) := by decide +kernel
theorem dX3_add_38 : decode cX3_add 38 = .ok (.aload_n 0, 1) := by decide +kernel
theorem dX3_add_39 : decode cX3_add 39 = .ok (.getfield 16, 3) := by decide +kernel
theorem dX3_add_42 : decode cX3_add 42 = .ok (.aload_n 0, 1) := by decide +kernel
theorem dX3_add_43 : decode cX3_add 43 = .ok (.getfield 19, 3) := by decide +kernel
theorem dX3_add_46 : decode cX3_add 46 = .ok (.iload_n 3, 1) := by decide +kernel
theorem dX3_add_47 : decode cX3_add 47 = .ok (.iastore, 1) := by decide +kernel
theorem dX3_add_48 : decode cX3_add 48 = .ok (.aload_n 0, 1) := by decide +kernel
theorem dX3_add_49 : decode cX3_add 49 = .ok (.dup, 1) := by decide +kernel
theorem dX3_add_50 : decode cX3_add 50 = .ok (.getfield 19, 3) := by decide +kernel
theorem dX3_add_53 : decode cX3_add 53 = .ok (.iconst 1, 1) := by decide +kernel
theorem dX3_add_54 : decode cX3_add 54 = .ok (.iadd, 1) := by decide +kernel
theorem dX3_add_55 : decode cX3_add 55 = .ok (.putfield 19, 3) := by decide +kernel
theorem dX3_add_58 : decode cX3_add 58 = .ok (.iconst 1, 1) := by decide +kernel
theorem dX3_add_59 : decode cX3_add 59 = .ok (.ireturn, 1) := by decide +kernel
theorem dX3_copyFrom_0 : decode cX3_copyFrom 0 = .ok (.aload_n 1, 1) := by decide +kernel
theorem dX3_copyFrom_1 : decode cX3_copyFrom 1 = .ok (.getfield 9, 3) := by decide +kernel
theorem dX3_copyFrom_4 : decode cX3_copyFrom 4 = .ok (.iconst 0, 1) := by decide +kernel
theorem dX3_copyFrom_5 : decode cX3_copyFrom 5 = .ok (.aload_n 0, 1) := by decide +kernel
theorem dX3_copyFrom_6 : decode cX3_copyFrom 6 = .ok (.getfield 9, 3) := by decide +kernel
theorem dX3_copyFrom_9 : decode cX3_copyFrom 9 = .ok (.iconst 0, 1) := by decide +kernel
theorem dX3_copyFrom_10 : decode cX3_copyFrom 10 = .ok (.bipush 10, 2) := by decide +kernel
theorem dX3_copyFrom_12 : decode cX3_copyFrom 12 = .ok (.invokestatic 23, 3) := by decide +kernel
theorem dX3_copyFrom_15 : decode cX3_copyFrom 15 = .ok (.aload_n 1, 1) := by decide +kernel
theorem dX3_copyFrom_16 : decode cX3_copyFrom 16 = .ok (.getfield 13, 3) := by decide +kernel
theorem dX3_copyFrom_19 : decode cX3_copyFrom 19 = .ok (.iconst 0, 1) := by decide +kernel
theorem dX3_copyFrom_20 : decode cX3_copyFrom 20 = .ok (.aload_n 0, 1) := by decide +kernel
theorem dX3_copyFrom_21 : decode cX3_copyFrom 21 = .ok (.getfield 13, 3) := by decide +kernel
theorem dX3_copyFrom_24 : decode cX3_copyFrom 24 = .ok (.iconst 0, 1) := by decide +kernel
theorem dX3_copyFrom_25 : decode cX3_copyFrom 25 = .ok (.bipush 10, 2) := by decide +kernel
theorem dX3_copyFrom_27 : decode cX3_copyFrom 27 = .ok (.invokestatic 23, 3) := by decide +kernel
theorem dX3_copyFrom_30 : decode cX3_copyFrom 30 = .ok (.aload_n 1, 1) := by decide +kernel
theorem dX3_copyFrom_31 : decode cX3_copyFrom 31 = .ok (.getfield 16, 3) := by decide +kernel
theorem dX3_copyFrom_34 : decode cX3_copyFrom 34 = .ok (.iconst 0, 1) := by decide +kernel
theorem dX3_copyFrom_35 : decode cX3_copyFrom 35 = .ok (.aload_n 0, 1) := by decide +kernel
theorem dX3_copyFrom_36 : decode cX3_copyFrom 36 = .ok (.getfield 16, 3) := by decide +kernel
theorem dX3_copyFrom_39 : decode cX3_copyFrom 39 = .ok (.iconst 0, 1) := by decide +kernel
theorem dX3_copyFrom_40 : decode cX3_copyFrom 40 = .ok (.bipush 10, 2) := by decide +kernel
theorem dX3_copyFrom_42 : decode cX3_copyFrom 42 = .ok (.invokestatic 23, 3) := by decide +kernel
theorem dX3_copyFrom_45 : decode cX3_copyFrom 45 = .ok (.aload_n 0, 1) := by decide +kernel
theorem dX3_copyFrom_46 : decode cX3_copyFrom 46 = .ok (.aload_n 1, 1) := by decide +kernel
theorem dX3_copyFrom_47 : decode cX3_copyFrom 47 = .ok (.getfield 19, 3) := by decide +kernel
theorem dX3_copyFrom_50 : decode cX3_copyFrom 50 = .ok (.putfield 19, 3) := by decide +kernel
theorem dX3_copyFrom_53 : decode cX3_copyFrom 53 = .ok (.return_, 1) := by decide +kernel
theorem dX8_copyFrom_0 : decode cX8_copyFrom 0 = .ok (.aload_n 0, 1) := by decide +kernel
theorem dX8_copyFrom_1 : decode cX8_copyFrom 1 = .ok (.getfield 12, 3) := by decide +kernel
theorem dX8_copyFrom_4 : decode cX8_copyFrom 4 = .ok (.aload_n 1, 1) := by decide +kernel
theorem dX8_copyFrom_5 : decode cX8_copyFrom 5 = .ok (.getfield 12, 3) := by decide +kernel
theorem dX8_copyFrom_8 : decode cX8_copyFrom 8 = .ok (.invokevirtual 35, 3) := by decide +kernel
theorem dX8_copyFrom_11 : decode cX8_copyFrom 11 = .ok (.aload_n 0, 1) := by decide +kernel
theorem dX8_copyFrom_12 : decode cX8_copyFrom 12 = .ok (.getfield 18, 3) := by decide +kernel
theorem dX8_copyFrom_15 : decode cX8_copyFrom 15 = .ok (.aload_n 1, 1) := by decide +kernel
theorem dX8_copyFrom_16 : decode cX8_copyFrom 16 = .ok (.getfield 18, 3) := by decide +kernel
theorem dX8_copyFrom_19 : decode cX8_copyFrom 19 = .ok (.invokevirtual 35, 3) := by decide +kernel
theorem dX8_copyFrom_22 : decode cX8_copyFrom 22 = .ok (.aload_n 0, 1) := by decide +kernel
theorem dX8_copyFrom_23 : decode cX8_copyFrom 23 = .ok (.getfield 24, 3) := by decide +kernel
theorem dX8_copyFrom_26 : decode cX8_copyFrom 26 = .ok (.aload_n 1, 1) := by decide +kernel
theorem dX8_copyFrom_27 : decode cX8_copyFrom 27 = .ok (.getfield 24, 3) := by decide +kernel
theorem dX8_copyFrom_30 : decode cX8_copyFrom 30 = .ok (.invokevirtual 39, 3) := by decide +kernel
theorem dX8_copyFrom_33 : decode cX8_copyFrom 33 = .ok (.aload_n 0, 1) := by decide +kernel
theorem dX8_copyFrom_34 : decode cX8_copyFrom 34 = .ok (.aload_n 1, 1) := by decide +kernel
theorem dX8_copyFrom_35 : decode cX8_copyFrom 35 = .ok (.getfield 28, 3) := by decide +kernel
theorem dX8_copyFrom_38 : decode cX8_copyFrom 38 = .ok (.putfield 28, 3) := by decide +kernel
theorem dX8_copyFrom_41 : decode cX8_copyFrom 41 = .ok (.aload_n 0, 1) := by decide +kernel
theorem dX8_copyFrom_42 : decode cX8_copyFrom 42 = .ok (.aload_n 1, 1) := by decide +kernel
theorem dX8_copyFrom_43 : decode cX8_copyFrom 43 = .ok (.getfield 32, 3) := by decide +kernel
theorem dX8_copyFrom_46 : decode cX8_copyFrom 46 = .ok (.putfield 32, 3) := by decide +kernel
theorem dX8_copyFrom_49 : decode cX8_copyFrom 49 = .ok (.return_, 1) := by decide +kernel
set_option maxHeartbeats 4000000 in
set_option maxRecDepth 100000 in
theorem ct_X3_copyFrom (l : Launch) (D : va_G) (tc : Nat → ClassId) (sk : (Nat → Nat) × (Nat → Nat)) (Na : Nat → Nat) (Nv : Nat → Int32) (Nf : Nat → Nat → Int32) (Ma : Nat → Nat) (Mv : Nat → Int32) (Mf : Nat → Nat → Int32)  : Ct l yX3_copyFrom cX3_copyFrom 2 none { frames := 1, cells := 0, slots := 0, locals := 40 } D tc sk [.ref (Na 0), .ref (Ma 0)] [((Na 0), .inr (3, [.ref (Na 1), .ref (Na 2), .ref (Na 3), .int (Nv 0)])), ((Na 1), .inl (tc 0, 10, .inl (Nf 1))), ((Na 2), .inl (tc 0, 10, .inl (Nf 2))), ((Na 3), .inl (tc 0, 10, .inl (Nf 3))), ((Ma 0), .inr (3, [.ref (Ma 1), .ref (Ma 2), .ref (Ma 3), .int (Mv 0)])), ((Ma 1), .inl (tc 0, 10, .inl (Mf 1))), ((Ma 2), .inl (tc 0, 10, .inl (Mf 2))), ((Ma 3), .inl (tc 0, 10, .inl (Mf 3)))] (fun (v : Option Value) (u : (Nat → Int32) × (Nat → Int32) × (Nat → Int32)) => match u with | (o1, o2, o3) => v = none) (fun (u : (Nat → Int32) × (Nat → Int32) × (Nat → Int32)) => match u with | (o1, o2, o3) => [((Na 0), .inr (3, [.ref (Na 1), .ref (Na 2), .ref (Na 3), .int (Mv 0)])), ((Na 1), .inl (tc 0, 10, .inl o1)), ((Na 2), .inl (tc 0, 10, .inl o2)), ((Na 3), .inl (tc 0, 10, .inl o3)), ((Ma 0), .inr (3, [.ref (Ma 1), .ref (Ma 2), .ref (Ma 3), .int (Mv 0)])), ((Ma 1), .inl (tc 0, 10, .inl (Mf 1))), ((Ma 2), .inl (tc 0, 10, .inl (Mf 2))), ((Ma 3), .inl (tc 0, 10, .inl (Mf 3)))]) 0 0 := by
  refine Ct.start (by decide) (Nat.le_of_ble_eq_true rfl) (fun p e s m below meth c A ls hx hb hr hlk hin hml hown hts hK hX hP hD hA hl hS => ?_)
  have hl : lv_has ls 2 [(0, .ref (Na 0)), (1, .ref (Ma 0))] := hl
  refine lv_aload_n hx hb dX3_copyFrom_0 rfl (lv_at hl 1 rfl) ?_
  refine gf_X3_9 hx hb hts hown hK hP 4 rfl rfl dX3_copyFrom_1 ?_
  refine lv_iconst (v := 0) hx hb dX3_copyFrom_4 (by decide) ?_
  refine lv_aload_n hx hb dX3_copyFrom_5 rfl (lv_at hl 0 rfl) ?_
  refine gf_X3_9 hx hb hts hown hK hP 0 rfl rfl dX3_copyFrom_6 ?_
  refine lv_iconst (v := 0) hx hb dX3_copyFrom_9 (by decide) ?_
  refine lv_bipush (v := 10) hx hb dX3_copyFrom_10 (by decide) ?_
  refine cp_int hx hb (hml.trans hl.1.symm) hown (hts _ k_1064) (hts _ k_602) (hts _ k_601) (hts _ k_111) hK hP hD hS 5 1 0 0 rfl rfl rfl rfl (by decide) (by decide) (by decide) (by decide) (by decide) (Nat.le_of_ble_eq_true rfl) (Nat.le_of_ble_eq_true rfl) dX3_copyFrom_12 (fun g_1 H locs eg_1 hP₀ hD₀ hS₀ => ?_)
  replace hP : va_P D classes [((Na 0), .inr (3, [.ref (Na 1), .ref (Na 2), .ref (Na 3), .int (Nv 0)])), ((Na 1), .inl (tc 0, 10, .inl g_1)), ((Na 2), .inl (tc 0, 10, .inl (Nf 2))), ((Na 3), .inl (tc 0, 10, .inl (Nf 3))), ((Ma 0), .inr (3, [.ref (Ma 1), .ref (Ma 2), .ref (Ma 3), .int (Mv 0)])), ((Ma 1), .inl (tc 0, 10, .inl (Mf 1))), ((Ma 2), .inl (tc 0, 10, .inl (Mf 2))), ((Ma 3), .inl (tc 0, 10, .inl (Mf 3)))] H := hP₀
  replace hD : va_D A [((Na 0), .inr (3, [.ref (Na 1), .ref (Na 2), .ref (Na 3), .int (Nv 0)])), ((Na 1), .inl (tc 0, 10, .inl g_1)), ((Na 2), .inl (tc 0, 10, .inl (Nf 2))), ((Na 3), .inl (tc 0, 10, .inl (Nf 3))), ((Ma 0), .inr (3, [.ref (Ma 1), .ref (Ma 2), .ref (Ma 3), .int (Mv 0)])), ((Ma 1), .inl (tc 0, 10, .inl (Mf 1))), ((Ma 2), .inl (tc 0, 10, .inl (Mf 2))), ((Ma 3), .inl (tc 0, 10, .inl (Mf 3)))] := hD₀
  replace hS := hS₀
  clear hP₀ hD₀ hS₀
  refine lv_aload_n hx hb dX3_copyFrom_15 rfl (lv_at hl 1 rfl) ?_
  refine gf_X3_13 hx hb hts hown hK hP 4 rfl rfl dX3_copyFrom_16 ?_
  refine lv_iconst (v := 0) hx hb dX3_copyFrom_19 (by decide) ?_
  refine lv_aload_n hx hb dX3_copyFrom_20 rfl (lv_at hl 0 rfl) ?_
  refine gf_X3_13 hx hb hts hown hK hP 0 rfl rfl dX3_copyFrom_21 ?_
  refine lv_iconst (v := 0) hx hb dX3_copyFrom_24 (by decide) ?_
  refine lv_bipush (v := 10) hx hb dX3_copyFrom_25 (by decide) ?_
  refine cp_int hx hb (hml.trans hl.1.symm) hown (hts _ k_1064) (hts _ k_602) (hts _ k_601) (hts _ k_111) hK hP hD hS 6 2 0 0 rfl rfl rfl rfl (by decide) (by decide) (by decide) (by decide) (by decide) (Nat.le_of_ble_eq_true rfl) (Nat.le_of_ble_eq_true rfl) dX3_copyFrom_27 (fun g_2 H locs eg_2 hP₀ hD₀ hS₀ => ?_)
  replace hP : va_P D classes [((Na 0), .inr (3, [.ref (Na 1), .ref (Na 2), .ref (Na 3), .int (Nv 0)])), ((Na 1), .inl (tc 0, 10, .inl g_1)), ((Na 2), .inl (tc 0, 10, .inl g_2)), ((Na 3), .inl (tc 0, 10, .inl (Nf 3))), ((Ma 0), .inr (3, [.ref (Ma 1), .ref (Ma 2), .ref (Ma 3), .int (Mv 0)])), ((Ma 1), .inl (tc 0, 10, .inl (Mf 1))), ((Ma 2), .inl (tc 0, 10, .inl (Mf 2))), ((Ma 3), .inl (tc 0, 10, .inl (Mf 3)))] H := hP₀
  replace hD : va_D A [((Na 0), .inr (3, [.ref (Na 1), .ref (Na 2), .ref (Na 3), .int (Nv 0)])), ((Na 1), .inl (tc 0, 10, .inl g_1)), ((Na 2), .inl (tc 0, 10, .inl g_2)), ((Na 3), .inl (tc 0, 10, .inl (Nf 3))), ((Ma 0), .inr (3, [.ref (Ma 1), .ref (Ma 2), .ref (Ma 3), .int (Mv 0)])), ((Ma 1), .inl (tc 0, 10, .inl (Mf 1))), ((Ma 2), .inl (tc 0, 10, .inl (Mf 2))), ((Ma 3), .inl (tc 0, 10, .inl (Mf 3)))] := hD₀
  replace hS := hS₀
  clear hP₀ hD₀ hS₀
  refine lv_aload_n hx hb dX3_copyFrom_30 rfl (lv_at hl 1 rfl) ?_
  refine gf_X3_16 hx hb hts hown hK hP 4 rfl rfl dX3_copyFrom_31 ?_
  refine lv_iconst (v := 0) hx hb dX3_copyFrom_34 (by decide) ?_
  refine lv_aload_n hx hb dX3_copyFrom_35 rfl (lv_at hl 0 rfl) ?_
  refine gf_X3_16 hx hb hts hown hK hP 0 rfl rfl dX3_copyFrom_36 ?_
  refine lv_iconst (v := 0) hx hb dX3_copyFrom_39 (by decide) ?_
  refine lv_bipush (v := 10) hx hb dX3_copyFrom_40 (by decide) ?_
  refine cp_int hx hb (hml.trans hl.1.symm) hown (hts _ k_1064) (hts _ k_602) (hts _ k_601) (hts _ k_111) hK hP hD hS 7 3 0 0 rfl rfl rfl rfl (by decide) (by decide) (by decide) (by decide) (by decide) (Nat.le_of_ble_eq_true rfl) (Nat.le_of_ble_eq_true rfl) dX3_copyFrom_42 (fun g_3 H locs eg_3 hP₀ hD₀ hS₀ => ?_)
  replace hP : va_P D classes [((Na 0), .inr (3, [.ref (Na 1), .ref (Na 2), .ref (Na 3), .int (Nv 0)])), ((Na 1), .inl (tc 0, 10, .inl g_1)), ((Na 2), .inl (tc 0, 10, .inl g_2)), ((Na 3), .inl (tc 0, 10, .inl g_3)), ((Ma 0), .inr (3, [.ref (Ma 1), .ref (Ma 2), .ref (Ma 3), .int (Mv 0)])), ((Ma 1), .inl (tc 0, 10, .inl (Mf 1))), ((Ma 2), .inl (tc 0, 10, .inl (Mf 2))), ((Ma 3), .inl (tc 0, 10, .inl (Mf 3)))] H := hP₀
  replace hD : va_D A [((Na 0), .inr (3, [.ref (Na 1), .ref (Na 2), .ref (Na 3), .int (Nv 0)])), ((Na 1), .inl (tc 0, 10, .inl g_1)), ((Na 2), .inl (tc 0, 10, .inl g_2)), ((Na 3), .inl (tc 0, 10, .inl g_3)), ((Ma 0), .inr (3, [.ref (Ma 1), .ref (Ma 2), .ref (Ma 3), .int (Mv 0)])), ((Ma 1), .inl (tc 0, 10, .inl (Mf 1))), ((Ma 2), .inl (tc 0, 10, .inl (Mf 2))), ((Ma 3), .inl (tc 0, 10, .inl (Mf 3)))] := hD₀
  replace hS := hS₀
  clear hP₀ hD₀ hS₀
  refine lv_aload_n hx hb dX3_copyFrom_45 rfl (lv_at hl 0 rfl) ?_
  refine lv_aload_n hx hb dX3_copyFrom_46 rfl (lv_at hl 1 rfl) ?_
  refine gf_X3_19 hx hb hts hown hK hP 4 rfl rfl dX3_copyFrom_47 ?_
  refine pf_X3_19 hx hb hts hown hK hP hD hS 0 rfl (Nat.le_of_ble_eq_true rfl) rfl rfl dX3_copyFrom_50 (fun H locs hP₀ hD₀ hS₀ => ?_)
  replace hP : va_P D classes [((Na 0), .inr (3, [.ref (Na 1), .ref (Na 2), .ref (Na 3), .int (Mv 0)])), ((Na 1), .inl (tc 0, 10, .inl g_1)), ((Na 2), .inl (tc 0, 10, .inl g_2)), ((Na 3), .inl (tc 0, 10, .inl g_3)), ((Ma 0), .inr (3, [.ref (Ma 1), .ref (Ma 2), .ref (Ma 3), .int (Mv 0)])), ((Ma 1), .inl (tc 0, 10, .inl (Mf 1))), ((Ma 2), .inl (tc 0, 10, .inl (Mf 2))), ((Ma 3), .inl (tc 0, 10, .inl (Mf 3)))] H := hP₀
  replace hD : va_D A [((Na 0), .inr (3, [.ref (Na 1), .ref (Na 2), .ref (Na 3), .int (Mv 0)])), ((Na 1), .inl (tc 0, 10, .inl g_1)), ((Na 2), .inl (tc 0, 10, .inl g_2)), ((Na 3), .inl (tc 0, 10, .inl g_3)), ((Ma 0), .inr (3, [.ref (Ma 1), .ref (Ma 2), .ref (Ma 3), .int (Mv 0)])), ((Ma 1), .inl (tc 0, 10, .inl (Mf 1))), ((Ma 2), .inl (tc 0, 10, .inl (Mf 2))), ((Ma 3), .inl (tc 0, 10, .inl (Mf 3)))] := hD₀
  replace hS := hS₀
  clear hP₀ hD₀ hS₀
  exact retV hx hb hr hlk hP hD hS (g_1, g_2, g_3) rfl [0, 1, 2, 3, 4, 5, 6, 7] rfl rfl dX3_copyFrom_53 (Nat.le_of_ble_eq_true rfl) (Nat.le_of_ble_eq_true rfl) rfl
set_option maxRecDepth 100000 in
theorem cu_X3_copyFrom (l : Launch) (D : va_G) (tc : Nat → ClassId) (sk : (Nat → Nat) × (Nat → Nat)) (Na_0 : Nat) (Na_1 : Nat) (Na_2 : Nat) (Na_3 : Nat) (Nv_0 : Int32) (Nf_1 : Nat → Int32) (Nf_2 : Nat → Int32) (Nf_3 : Nat → Int32) (Ma_0 : Nat) (Ma_1 : Nat) (Ma_2 : Nat) (Ma_3 : Nat) (Mv_0 : Int32) (Mf_1 : Nat → Int32) (Mf_2 : Nat → Int32) (Mf_3 : Nat → Int32)  : Ct l yX3_copyFrom cX3_copyFrom 2 none { frames := 1, cells := 0, slots := 0, locals := 40 } D tc sk [.ref Na_0, .ref Ma_0] [(Na_0, .inr (3, [.ref Na_1, .ref Na_2, .ref Na_3, .int Nv_0])), (Na_1, .inl (tc 0, 10, .inl Nf_1)), (Na_2, .inl (tc 0, 10, .inl Nf_2)), (Na_3, .inl (tc 0, 10, .inl Nf_3)), (Ma_0, .inr (3, [.ref Ma_1, .ref Ma_2, .ref Ma_3, .int Mv_0])), (Ma_1, .inl (tc 0, 10, .inl Mf_1)), (Ma_2, .inl (tc 0, 10, .inl Mf_2)), (Ma_3, .inl (tc 0, 10, .inl Mf_3))] (fun (v : Option Value) (u : (Nat → Int32) × (Nat → Int32) × (Nat → Int32)) => match u with | (o1, o2, o3) => v = none) (fun (u : (Nat → Int32) × (Nat → Int32) × (Nat → Int32)) => match u with | (o1, o2, o3) => [(Na_0, .inr (3, [.ref Na_1, .ref Na_2, .ref Na_3, .int Mv_0])), (Na_1, .inl (tc 0, 10, .inl o1)), (Na_2, .inl (tc 0, 10, .inl o2)), (Na_3, .inl (tc 0, 10, .inl o3)), (Ma_0, .inr (3, [.ref Ma_1, .ref Ma_2, .ref Ma_3, .int Mv_0])), (Ma_1, .inl (tc 0, 10, .inl Mf_1)), (Ma_2, .inl (tc 0, 10, .inl Mf_2)), (Ma_3, .inl (tc 0, 10, .inl Mf_3))]) 0 0 :=
  ct_X3_copyFrom l D tc sk (fun k => ([Na_0, Na_1, Na_2, Na_3] : List (Nat)).getD k 0) (fun k => ([Nv_0] : List (Int32)).getD k 0) (fun k => ([(fun _ => 0), Nf_1, Nf_2, Nf_3] : List (Nat → Int32)).getD k (fun _ => 0)) (fun k => ([Ma_0, Ma_1, Ma_2, Ma_3] : List (Nat)).getD k 0) (fun k => ([Mv_0] : List (Int32)).getD k 0) (fun k => ([(fun _ => 0), Mf_1, Mf_2, Mf_3] : List (Nat → Int32)).getD k (fun _ => 0)) 
set_option maxHeartbeats 4000000 in
set_option maxRecDepth 100000 in
theorem ct_X8_copyFrom (l : Launch) (D : va_G) (tc : Nat → ClassId) (sk : (Nat → Nat) × (Nat → Nat)) (Sa : Nat → Nat) (Sv : Nat → Int32) (Aa : Nat → Nat) (Av : Nat → Int32) (Af : Nat → Nat → Int32) (Ba : Nat → Nat) (Bv : Nat → Int32) (Bf : Nat → Nat → Int32) (Na : Nat → Nat) (Nv : Nat → Int32) (Nf : Nat → Nat → Int32) (Ua : Nat → Nat) (Uv : Nat → Int32) (Ea : Nat → Nat) (Ev : Nat → Int32) (Ef : Nat → Nat → Int32) (Fa : Nat → Nat) (Fv : Nat → Int32) (Ff : Nat → Nat → Int32) (Ma : Nat → Nat) (Mv : Nat → Int32) (Mf : Nat → Nat → Int32)  : Ct l yX8_copyFrom cX8_copyFrom 2 none { frames := 2, cells := 0, slots := 0, locals := 61 } D tc sk [.ref (Sa 0), .ref (Ua 0)] [((Sa 0), .inr (8, [.ref (Aa 0), .ref (Ba 0), .ref (Na 0), .int (Sv 0), .int (Sv 1)])), ((Aa 0), .inr (9, [.int (Av 0), .int (Av 1), .int (Av 2), .int (Av 3), .int (Av 4), .int (Av 5), .ref (Aa 1), .ref (Aa 2), .ref (Aa 3), .ref (Aa 4), .ref (Aa 5), .ref (Aa 6), .ref (Aa 7), .ref (Aa 8)])), ((Aa 1), .inl (tc 0, 10, .inl (Af 1))), ((Aa 2), .inl (tc 0, 10, .inl (Af 2))), ((Aa 3), .inl (tc 0, 6, .inl (Af 3))), ((Aa 4), .inl (tc 0, 6, .inl (Af 4))), ((Aa 5), .inl (tc 0, 6, .inl (Af 5))), ((Aa 6), .inl (tc 0, 6, .inl (Af 6))), ((Aa 7), .inl (tc 0, 6, .inl (Af 7))), ((Aa 8), .inl (tc 0, 6, .inl (Af 8))), ((Ba 0), .inr (9, [.int (Bv 0), .int (Bv 1), .int (Bv 2), .int (Bv 3), .int (Bv 4), .int (Bv 5), .ref (Ba 1), .ref (Ba 2), .ref (Ba 3), .ref (Ba 4), .ref (Ba 5), .ref (Ba 6), .ref (Ba 7), .ref (Ba 8)])), ((Ba 1), .inl (tc 0, 10, .inl (Bf 1))), ((Ba 2), .inl (tc 0, 10, .inl (Bf 2))), ((Ba 3), .inl (tc 0, 6, .inl (Bf 3))), ((Ba 4), .inl (tc 0, 6, .inl (Bf 4))), ((Ba 5), .inl (tc 0, 6, .inl (Bf 5))), ((Ba 6), .inl (tc 0, 6, .inl (Bf 6))), ((Ba 7), .inl (tc 0, 6, .inl (Bf 7))), ((Ba 8), .inl (tc 0, 6, .inl (Bf 8))), ((Na 0), .inr (3, [.ref (Na 1), .ref (Na 2), .ref (Na 3), .int (Nv 0)])), ((Na 1), .inl (tc 0, 10, .inl (Nf 1))), ((Na 2), .inl (tc 0, 10, .inl (Nf 2))), ((Na 3), .inl (tc 0, 10, .inl (Nf 3))), ((Ua 0), .inr (8, [.ref (Ea 0), .ref (Fa 0), .ref (Ma 0), .int (Uv 0), .int (Uv 1)])), ((Ea 0), .inr (9, [.int (Ev 0), .int (Ev 1), .int (Ev 2), .int (Ev 3), .int (Ev 4), .int (Ev 5), .ref (Ea 1), .ref (Ea 2), .ref (Ea 3), .ref (Ea 4), .ref (Ea 5), .ref (Ea 6), .ref (Ea 7), .ref (Ea 8)])), ((Ea 1), .inl (tc 0, 10, .inl (Ef 1))), ((Ea 2), .inl (tc 0, 10, .inl (Ef 2))), ((Ea 3), .inl (tc 0, 6, .inl (Ef 3))), ((Ea 4), .inl (tc 0, 6, .inl (Ef 4))), ((Ea 5), .inl (tc 0, 6, .inl (Ef 5))), ((Ea 6), .inl (tc 0, 6, .inl (Ef 6))), ((Ea 7), .inl (tc 0, 6, .inl (Ef 7))), ((Ea 8), .inl (tc 0, 6, .inl (Ef 8))), ((Fa 0), .inr (9, [.int (Fv 0), .int (Fv 1), .int (Fv 2), .int (Fv 3), .int (Fv 4), .int (Fv 5), .ref (Fa 1), .ref (Fa 2), .ref (Fa 3), .ref (Fa 4), .ref (Fa 5), .ref (Fa 6), .ref (Fa 7), .ref (Fa 8)])), ((Fa 1), .inl (tc 0, 10, .inl (Ff 1))), ((Fa 2), .inl (tc 0, 10, .inl (Ff 2))), ((Fa 3), .inl (tc 0, 6, .inl (Ff 3))), ((Fa 4), .inl (tc 0, 6, .inl (Ff 4))), ((Fa 5), .inl (tc 0, 6, .inl (Ff 5))), ((Fa 6), .inl (tc 0, 6, .inl (Ff 6))), ((Fa 7), .inl (tc 0, 6, .inl (Ff 7))), ((Fa 8), .inl (tc 0, 6, .inl (Ff 8))), ((Ma 0), .inr (3, [.ref (Ma 1), .ref (Ma 2), .ref (Ma 3), .int (Mv 0)])), ((Ma 1), .inl (tc 0, 10, .inl (Mf 1))), ((Ma 2), .inl (tc 0, 10, .inl (Mf 2))), ((Ma 3), .inl (tc 0, 10, .inl (Mf 3)))] (fun (v : Option Value) (u : (Nat → Int32) × (Nat → Int32) × (Nat → Int32) × (Nat → Int32) × (Nat → Int32) × (Nat → Int32) × (Nat → Int32) × (Nat → Int32) × (Nat → Int32) × (Nat → Int32) × (Nat → Int32) × (Nat → Int32) × (Nat → Int32) × (Nat → Int32) × (Nat → Int32) × (Nat → Int32) × (Nat → Int32) × (Nat → Int32) × (Nat → Int32)) => match u with | (o1, o2, o3, o4, o5, o6, o7, o8, o9, o10, o11, o12, o13, o14, o15, o16, o17, o18, o19) => v = none) (fun (u : (Nat → Int32) × (Nat → Int32) × (Nat → Int32) × (Nat → Int32) × (Nat → Int32) × (Nat → Int32) × (Nat → Int32) × (Nat → Int32) × (Nat → Int32) × (Nat → Int32) × (Nat → Int32) × (Nat → Int32) × (Nat → Int32) × (Nat → Int32) × (Nat → Int32) × (Nat → Int32) × (Nat → Int32) × (Nat → Int32) × (Nat → Int32)) => match u with | (o1, o2, o3, o4, o5, o6, o7, o8, o9, o10, o11, o12, o13, o14, o15, o16, o17, o18, o19) => [((Sa 0), .inr (8, [.ref (Aa 0), .ref (Ba 0), .ref (Na 0), .int (Uv 0), .int (Uv 1)])), ((Aa 0), .inr (9, [.int (Ev 0), .int (Ev 1), .int (Ev 2), .int (Ev 3), .int (Ev 4), .int (Ev 5), .ref (Aa 1), .ref (Aa 2), .ref (Aa 3), .ref (Aa 4), .ref (Aa 5), .ref (Aa 6), .ref (Aa 7), .ref (Aa 8)])), ((Aa 1), .inl (tc 0, 10, .inl o1)), ((Aa 2), .inl (tc 0, 10, .inl o2)), ((Aa 3), .inl (tc 0, 6, .inl o3)), ((Aa 4), .inl (tc 0, 6, .inl o4)), ((Aa 5), .inl (tc 0, 6, .inl o5)), ((Aa 6), .inl (tc 0, 6, .inl o6)), ((Aa 7), .inl (tc 0, 6, .inl o7)), ((Aa 8), .inl (tc 0, 6, .inl o8)), ((Ba 0), .inr (9, [.int (Fv 0), .int (Fv 1), .int (Fv 2), .int (Fv 3), .int (Fv 4), .int (Fv 5), .ref (Ba 1), .ref (Ba 2), .ref (Ba 3), .ref (Ba 4), .ref (Ba 5), .ref (Ba 6), .ref (Ba 7), .ref (Ba 8)])), ((Ba 1), .inl (tc 0, 10, .inl o9)), ((Ba 2), .inl (tc 0, 10, .inl o10)), ((Ba 3), .inl (tc 0, 6, .inl o11)), ((Ba 4), .inl (tc 0, 6, .inl o12)), ((Ba 5), .inl (tc 0, 6, .inl o13)), ((Ba 6), .inl (tc 0, 6, .inl o14)), ((Ba 7), .inl (tc 0, 6, .inl o15)), ((Ba 8), .inl (tc 0, 6, .inl o16)), ((Na 0), .inr (3, [.ref (Na 1), .ref (Na 2), .ref (Na 3), .int (Mv 0)])), ((Na 1), .inl (tc 0, 10, .inl o17)), ((Na 2), .inl (tc 0, 10, .inl o18)), ((Na 3), .inl (tc 0, 10, .inl o19)), ((Ua 0), .inr (8, [.ref (Ea 0), .ref (Fa 0), .ref (Ma 0), .int (Uv 0), .int (Uv 1)])), ((Ea 0), .inr (9, [.int (Ev 0), .int (Ev 1), .int (Ev 2), .int (Ev 3), .int (Ev 4), .int (Ev 5), .ref (Ea 1), .ref (Ea 2), .ref (Ea 3), .ref (Ea 4), .ref (Ea 5), .ref (Ea 6), .ref (Ea 7), .ref (Ea 8)])), ((Ea 1), .inl (tc 0, 10, .inl (Ef 1))), ((Ea 2), .inl (tc 0, 10, .inl (Ef 2))), ((Ea 3), .inl (tc 0, 6, .inl (Ef 3))), ((Ea 4), .inl (tc 0, 6, .inl (Ef 4))), ((Ea 5), .inl (tc 0, 6, .inl (Ef 5))), ((Ea 6), .inl (tc 0, 6, .inl (Ef 6))), ((Ea 7), .inl (tc 0, 6, .inl (Ef 7))), ((Ea 8), .inl (tc 0, 6, .inl (Ef 8))), ((Fa 0), .inr (9, [.int (Fv 0), .int (Fv 1), .int (Fv 2), .int (Fv 3), .int (Fv 4), .int (Fv 5), .ref (Fa 1), .ref (Fa 2), .ref (Fa 3), .ref (Fa 4), .ref (Fa 5), .ref (Fa 6), .ref (Fa 7), .ref (Fa 8)])), ((Fa 1), .inl (tc 0, 10, .inl (Ff 1))), ((Fa 2), .inl (tc 0, 10, .inl (Ff 2))), ((Fa 3), .inl (tc 0, 6, .inl (Ff 3))), ((Fa 4), .inl (tc 0, 6, .inl (Ff 4))), ((Fa 5), .inl (tc 0, 6, .inl (Ff 5))), ((Fa 6), .inl (tc 0, 6, .inl (Ff 6))), ((Fa 7), .inl (tc 0, 6, .inl (Ff 7))), ((Fa 8), .inl (tc 0, 6, .inl (Ff 8))), ((Ma 0), .inr (3, [.ref (Ma 1), .ref (Ma 2), .ref (Ma 3), .int (Mv 0)])), ((Ma 1), .inl (tc 0, 10, .inl (Mf 1))), ((Ma 2), .inl (tc 0, 10, .inl (Mf 2))), ((Ma 3), .inl (tc 0, 10, .inl (Mf 3)))]) 0 0 := by
  refine Ct.start (by decide) (Nat.le_of_ble_eq_true rfl) (fun p e s m below meth c A ls hx hb hr hlk hin hml hown hts hK hX hP hD hA hl hS => ?_)
  have hl : lv_has ls 2 [(0, .ref (Sa 0)), (1, .ref (Ua 0))] := hl
  refine lv_aload_n hx hb dX8_copyFrom_0 rfl (lv_at hl 0 rfl) ?_
  refine gf_X8_12 hx hb hts hown hK hP 0 rfl rfl dX8_copyFrom_1 ?_
  refine lv_aload_n hx hb dX8_copyFrom_4 rfl (lv_at hl 1 rfl) ?_
  refine gf_X8_12 hx hb hts hown hK hP 23 rfl rfl dX8_copyFrom_5 ?_
  refine cV (a := (Aa 0)) (As := [.ref (Ea 0)]) (rest := []) (wr := [((Sa 0), .inr (8, [.ref (Aa 0), .ref (Ba 0), .ref (Na 0), .int (Sv 0), .int (Sv 1)])), ((Ba 0), .inr (9, [.int (Bv 0), .int (Bv 1), .int (Bv 2), .int (Bv 3), .int (Bv 4), .int (Bv 5), .ref (Ba 1), .ref (Ba 2), .ref (Ba 3), .ref (Ba 4), .ref (Ba 5), .ref (Ba 6), .ref (Ba 7), .ref (Ba 8)])), ((Ba 1), .inl (tc 0, 10, .inl (Bf 1))), ((Ba 2), .inl (tc 0, 10, .inl (Bf 2))), ((Ba 3), .inl (tc 0, 6, .inl (Bf 3))), ((Ba 4), .inl (tc 0, 6, .inl (Bf 4))), ((Ba 5), .inl (tc 0, 6, .inl (Bf 5))), ((Ba 6), .inl (tc 0, 6, .inl (Bf 6))), ((Ba 7), .inl (tc 0, 6, .inl (Bf 7))), ((Ba 8), .inl (tc 0, 6, .inl (Bf 8))), ((Na 0), .inr (3, [.ref (Na 1), .ref (Na 2), .ref (Na 3), .int (Nv 0)])), ((Na 1), .inl (tc 0, 10, .inl (Nf 1))), ((Na 2), .inl (tc 0, 10, .inl (Nf 2))), ((Na 3), .inl (tc 0, 10, .inl (Nf 3))), ((Ua 0), .inr (8, [.ref (Ea 0), .ref (Fa 0), .ref (Ma 0), .int (Uv 0), .int (Uv 1)])), ((Fa 0), .inr (9, [.int (Fv 0), .int (Fv 1), .int (Fv 2), .int (Fv 3), .int (Fv 4), .int (Fv 5), .ref (Fa 1), .ref (Fa 2), .ref (Fa 3), .ref (Fa 4), .ref (Fa 5), .ref (Fa 6), .ref (Fa 7), .ref (Fa 8)])), ((Fa 1), .inl (tc 0, 10, .inl (Ff 1))), ((Fa 2), .inl (tc 0, 10, .inl (Ff 2))), ((Fa 3), .inl (tc 0, 6, .inl (Ff 3))), ((Fa 4), .inl (tc 0, 6, .inl (Ff 4))), ((Fa 5), .inl (tc 0, 6, .inl (Ff 5))), ((Fa 6), .inl (tc 0, 6, .inl (Ff 6))), ((Fa 7), .inl (tc 0, 6, .inl (Ff 7))), ((Fa 8), .inl (tc 0, 6, .inl (Ff 8))), ((Ma 0), .inr (3, [.ref (Ma 1), .ref (Ma 2), .ref (Ma 3), .int (Mv 0)])), ((Ma 1), .inl (tc 0, 10, .inl (Mf 1))), ((Ma 2), .inl (tc 0, 10, .inl (Mf 2))), ((Ma 3), .inl (tc 0, 10, .inl (Mf 3)))]) ⟨hx, hb, hml, hown, hts⟩ hK hX hA (cu_X9_copyFrom l D tc sk (Aa 0) (Aa 1) (Aa 2) (Aa 3) (Aa 4) (Aa 5) (Aa 6) (Aa 7) (Aa 8) (Av 0) (Av 1) (Av 2) (Av 3) (Av 4) (Av 5) (Af 1) (Af 2) (Af 3) (Af 4) (Af 5) (Af 6) (Af 7) (Af 8) (Ea 0) (Ea 1) (Ea 2) (Ea 3) (Ea 4) (Ea 5) (Ea 6) (Ea 7) (Ea 8) (Ev 0) (Ev 1) (Ev 2) (Ev 3) (Ev 4) (Ev 5) (Ef 1) (Ef 2) (Ef 3) (Ef 4) (Ef 5) (Ef 6) (Ef 7) (Ef 8)) k_599 k_1059 k_597 k_598 k_98 pl_X9_copyFrom ⟨Nat.le_of_ble_eq_true rfl, Nat.le_of_ble_eq_true rfl⟩ rfl rfl (va_recv hK hP (ci := 9) (q0 := 1) rfl rfl) hP hD hS [1, 2, 3, 4, 5, 6, 7, 8, 9, 24, 25, 26, 27, 28, 29, 30, 31, 32] [0, 10, 11, 12, 13, 14, 15, 16, 17, 18, 19, 20, 21, 22, 23, 33, 34, 35, 36, 37, 38, 39, 40, 41, 42, 43, 44, 45] rfl rfl rfl rfl rfl (by decide) rfl hl.1 rfl (Nat.le_of_ble_eq_true rfl) dX8_copyFrom_8 ⟨Nat.le_of_ble_eq_true rfl, Nat.le_of_ble_eq_true rfl⟩ (fun v_1 u_2 H locs hv_3 hP₀ hD₀ hS₀ => ?_)
  obtain ⟨sv_4, sv_5, sv_6, sv_7, sv_8, sv_9, sv_10, sv_11⟩ := u_2
  obtain rfl : v_1 = none := hv_3
  refine W.eq (g2 := F0 m 11 ls []) rfl ?_
  replace hP : va_P D classes [((Sa 0), .inr (8, [.ref (Aa 0), .ref (Ba 0), .ref (Na 0), .int (Sv 0), .int (Sv 1)])), ((Ba 0), .inr (9, [.int (Bv 0), .int (Bv 1), .int (Bv 2), .int (Bv 3), .int (Bv 4), .int (Bv 5), .ref (Ba 1), .ref (Ba 2), .ref (Ba 3), .ref (Ba 4), .ref (Ba 5), .ref (Ba 6), .ref (Ba 7), .ref (Ba 8)])), ((Ba 1), .inl (tc 0, 10, .inl (Bf 1))), ((Ba 2), .inl (tc 0, 10, .inl (Bf 2))), ((Ba 3), .inl (tc 0, 6, .inl (Bf 3))), ((Ba 4), .inl (tc 0, 6, .inl (Bf 4))), ((Ba 5), .inl (tc 0, 6, .inl (Bf 5))), ((Ba 6), .inl (tc 0, 6, .inl (Bf 6))), ((Ba 7), .inl (tc 0, 6, .inl (Bf 7))), ((Ba 8), .inl (tc 0, 6, .inl (Bf 8))), ((Na 0), .inr (3, [.ref (Na 1), .ref (Na 2), .ref (Na 3), .int (Nv 0)])), ((Na 1), .inl (tc 0, 10, .inl (Nf 1))), ((Na 2), .inl (tc 0, 10, .inl (Nf 2))), ((Na 3), .inl (tc 0, 10, .inl (Nf 3))), ((Ua 0), .inr (8, [.ref (Ea 0), .ref (Fa 0), .ref (Ma 0), .int (Uv 0), .int (Uv 1)])), ((Fa 0), .inr (9, [.int (Fv 0), .int (Fv 1), .int (Fv 2), .int (Fv 3), .int (Fv 4), .int (Fv 5), .ref (Fa 1), .ref (Fa 2), .ref (Fa 3), .ref (Fa 4), .ref (Fa 5), .ref (Fa 6), .ref (Fa 7), .ref (Fa 8)])), ((Fa 1), .inl (tc 0, 10, .inl (Ff 1))), ((Fa 2), .inl (tc 0, 10, .inl (Ff 2))), ((Fa 3), .inl (tc 0, 6, .inl (Ff 3))), ((Fa 4), .inl (tc 0, 6, .inl (Ff 4))), ((Fa 5), .inl (tc 0, 6, .inl (Ff 5))), ((Fa 6), .inl (tc 0, 6, .inl (Ff 6))), ((Fa 7), .inl (tc 0, 6, .inl (Ff 7))), ((Fa 8), .inl (tc 0, 6, .inl (Ff 8))), ((Ma 0), .inr (3, [.ref (Ma 1), .ref (Ma 2), .ref (Ma 3), .int (Mv 0)])), ((Ma 1), .inl (tc 0, 10, .inl (Mf 1))), ((Ma 2), .inl (tc 0, 10, .inl (Mf 2))), ((Ma 3), .inl (tc 0, 10, .inl (Mf 3))), ((Aa 0), .inr (9, [.int (Ev 0), .int (Ev 1), .int (Ev 2), .int (Ev 3), .int (Ev 4), .int (Ev 5), .ref (Aa 1), .ref (Aa 2), .ref (Aa 3), .ref (Aa 4), .ref (Aa 5), .ref (Aa 6), .ref (Aa 7), .ref (Aa 8)])), ((Aa 1), .inl (tc 0, 10, .inl sv_4)), ((Aa 2), .inl (tc 0, 10, .inl sv_5)), ((Aa 3), .inl (tc 0, 6, .inl sv_6)), ((Aa 4), .inl (tc 0, 6, .inl sv_7)), ((Aa 5), .inl (tc 0, 6, .inl sv_8)), ((Aa 6), .inl (tc 0, 6, .inl sv_9)), ((Aa 7), .inl (tc 0, 6, .inl sv_10)), ((Aa 8), .inl (tc 0, 6, .inl sv_11)), ((Ea 0), .inr (9, [.int (Ev 0), .int (Ev 1), .int (Ev 2), .int (Ev 3), .int (Ev 4), .int (Ev 5), .ref (Ea 1), .ref (Ea 2), .ref (Ea 3), .ref (Ea 4), .ref (Ea 5), .ref (Ea 6), .ref (Ea 7), .ref (Ea 8)])), ((Ea 1), .inl (tc 0, 10, .inl (Ef 1))), ((Ea 2), .inl (tc 0, 10, .inl (Ef 2))), ((Ea 3), .inl (tc 0, 6, .inl (Ef 3))), ((Ea 4), .inl (tc 0, 6, .inl (Ef 4))), ((Ea 5), .inl (tc 0, 6, .inl (Ef 5))), ((Ea 6), .inl (tc 0, 6, .inl (Ef 6))), ((Ea 7), .inl (tc 0, 6, .inl (Ef 7))), ((Ea 8), .inl (tc 0, 6, .inl (Ef 8)))] H := hP₀
  replace hD : va_D A [((Sa 0), .inr (8, [.ref (Aa 0), .ref (Ba 0), .ref (Na 0), .int (Sv 0), .int (Sv 1)])), ((Ba 0), .inr (9, [.int (Bv 0), .int (Bv 1), .int (Bv 2), .int (Bv 3), .int (Bv 4), .int (Bv 5), .ref (Ba 1), .ref (Ba 2), .ref (Ba 3), .ref (Ba 4), .ref (Ba 5), .ref (Ba 6), .ref (Ba 7), .ref (Ba 8)])), ((Ba 1), .inl (tc 0, 10, .inl (Bf 1))), ((Ba 2), .inl (tc 0, 10, .inl (Bf 2))), ((Ba 3), .inl (tc 0, 6, .inl (Bf 3))), ((Ba 4), .inl (tc 0, 6, .inl (Bf 4))), ((Ba 5), .inl (tc 0, 6, .inl (Bf 5))), ((Ba 6), .inl (tc 0, 6, .inl (Bf 6))), ((Ba 7), .inl (tc 0, 6, .inl (Bf 7))), ((Ba 8), .inl (tc 0, 6, .inl (Bf 8))), ((Na 0), .inr (3, [.ref (Na 1), .ref (Na 2), .ref (Na 3), .int (Nv 0)])), ((Na 1), .inl (tc 0, 10, .inl (Nf 1))), ((Na 2), .inl (tc 0, 10, .inl (Nf 2))), ((Na 3), .inl (tc 0, 10, .inl (Nf 3))), ((Ua 0), .inr (8, [.ref (Ea 0), .ref (Fa 0), .ref (Ma 0), .int (Uv 0), .int (Uv 1)])), ((Fa 0), .inr (9, [.int (Fv 0), .int (Fv 1), .int (Fv 2), .int (Fv 3), .int (Fv 4), .int (Fv 5), .ref (Fa 1), .ref (Fa 2), .ref (Fa 3), .ref (Fa 4), .ref (Fa 5), .ref (Fa 6), .ref (Fa 7), .ref (Fa 8)])), ((Fa 1), .inl (tc 0, 10, .inl (Ff 1))), ((Fa 2), .inl (tc 0, 10, .inl (Ff 2))), ((Fa 3), .inl (tc 0, 6, .inl (Ff 3))), ((Fa 4), .inl (tc 0, 6, .inl (Ff 4))), ((Fa 5), .inl (tc 0, 6, .inl (Ff 5))), ((Fa 6), .inl (tc 0, 6, .inl (Ff 6))), ((Fa 7), .inl (tc 0, 6, .inl (Ff 7))), ((Fa 8), .inl (tc 0, 6, .inl (Ff 8))), ((Ma 0), .inr (3, [.ref (Ma 1), .ref (Ma 2), .ref (Ma 3), .int (Mv 0)])), ((Ma 1), .inl (tc 0, 10, .inl (Mf 1))), ((Ma 2), .inl (tc 0, 10, .inl (Mf 2))), ((Ma 3), .inl (tc 0, 10, .inl (Mf 3))), ((Aa 0), .inr (9, [.int (Ev 0), .int (Ev 1), .int (Ev 2), .int (Ev 3), .int (Ev 4), .int (Ev 5), .ref (Aa 1), .ref (Aa 2), .ref (Aa 3), .ref (Aa 4), .ref (Aa 5), .ref (Aa 6), .ref (Aa 7), .ref (Aa 8)])), ((Aa 1), .inl (tc 0, 10, .inl sv_4)), ((Aa 2), .inl (tc 0, 10, .inl sv_5)), ((Aa 3), .inl (tc 0, 6, .inl sv_6)), ((Aa 4), .inl (tc 0, 6, .inl sv_7)), ((Aa 5), .inl (tc 0, 6, .inl sv_8)), ((Aa 6), .inl (tc 0, 6, .inl sv_9)), ((Aa 7), .inl (tc 0, 6, .inl sv_10)), ((Aa 8), .inl (tc 0, 6, .inl sv_11)), ((Ea 0), .inr (9, [.int (Ev 0), .int (Ev 1), .int (Ev 2), .int (Ev 3), .int (Ev 4), .int (Ev 5), .ref (Ea 1), .ref (Ea 2), .ref (Ea 3), .ref (Ea 4), .ref (Ea 5), .ref (Ea 6), .ref (Ea 7), .ref (Ea 8)])), ((Ea 1), .inl (tc 0, 10, .inl (Ef 1))), ((Ea 2), .inl (tc 0, 10, .inl (Ef 2))), ((Ea 3), .inl (tc 0, 6, .inl (Ef 3))), ((Ea 4), .inl (tc 0, 6, .inl (Ef 4))), ((Ea 5), .inl (tc 0, 6, .inl (Ef 5))), ((Ea 6), .inl (tc 0, 6, .inl (Ef 6))), ((Ea 7), .inl (tc 0, 6, .inl (Ef 7))), ((Ea 8), .inl (tc 0, 6, .inl (Ef 8)))] := hD₀
  replace hS := hS₀
  clear hP₀ hD₀ hS₀
  refine lv_aload_n hx hb dX8_copyFrom_11 rfl (lv_at hl 0 rfl) ?_
  refine gf_X8_18 hx hb hts hown hK hP 0 rfl rfl dX8_copyFrom_12 ?_
  refine lv_aload_n hx hb dX8_copyFrom_15 rfl (lv_at hl 1 rfl) ?_
  refine gf_X8_18 hx hb hts hown hK hP 14 rfl rfl dX8_copyFrom_16 ?_
  refine cV (a := (Ba 0)) (As := [.ref (Fa 0)]) (rest := []) (wr := [((Sa 0), .inr (8, [.ref (Aa 0), .ref (Ba 0), .ref (Na 0), .int (Sv 0), .int (Sv 1)])), ((Na 0), .inr (3, [.ref (Na 1), .ref (Na 2), .ref (Na 3), .int (Nv 0)])), ((Na 1), .inl (tc 0, 10, .inl (Nf 1))), ((Na 2), .inl (tc 0, 10, .inl (Nf 2))), ((Na 3), .inl (tc 0, 10, .inl (Nf 3))), ((Ua 0), .inr (8, [.ref (Ea 0), .ref (Fa 0), .ref (Ma 0), .int (Uv 0), .int (Uv 1)])), ((Ma 0), .inr (3, [.ref (Ma 1), .ref (Ma 2), .ref (Ma 3), .int (Mv 0)])), ((Ma 1), .inl (tc 0, 10, .inl (Mf 1))), ((Ma 2), .inl (tc 0, 10, .inl (Mf 2))), ((Ma 3), .inl (tc 0, 10, .inl (Mf 3))), ((Aa 0), .inr (9, [.int (Ev 0), .int (Ev 1), .int (Ev 2), .int (Ev 3), .int (Ev 4), .int (Ev 5), .ref (Aa 1), .ref (Aa 2), .ref (Aa 3), .ref (Aa 4), .ref (Aa 5), .ref (Aa 6), .ref (Aa 7), .ref (Aa 8)])), ((Aa 1), .inl (tc 0, 10, .inl sv_4)), ((Aa 2), .inl (tc 0, 10, .inl sv_5)), ((Aa 3), .inl (tc 0, 6, .inl sv_6)), ((Aa 4), .inl (tc 0, 6, .inl sv_7)), ((Aa 5), .inl (tc 0, 6, .inl sv_8)), ((Aa 6), .inl (tc 0, 6, .inl sv_9)), ((Aa 7), .inl (tc 0, 6, .inl sv_10)), ((Aa 8), .inl (tc 0, 6, .inl sv_11)), ((Ea 0), .inr (9, [.int (Ev 0), .int (Ev 1), .int (Ev 2), .int (Ev 3), .int (Ev 4), .int (Ev 5), .ref (Ea 1), .ref (Ea 2), .ref (Ea 3), .ref (Ea 4), .ref (Ea 5), .ref (Ea 6), .ref (Ea 7), .ref (Ea 8)])), ((Ea 1), .inl (tc 0, 10, .inl (Ef 1))), ((Ea 2), .inl (tc 0, 10, .inl (Ef 2))), ((Ea 3), .inl (tc 0, 6, .inl (Ef 3))), ((Ea 4), .inl (tc 0, 6, .inl (Ef 4))), ((Ea 5), .inl (tc 0, 6, .inl (Ef 5))), ((Ea 6), .inl (tc 0, 6, .inl (Ef 6))), ((Ea 7), .inl (tc 0, 6, .inl (Ef 7))), ((Ea 8), .inl (tc 0, 6, .inl (Ef 8)))]) ⟨hx, hb, hml, hown, hts⟩ hK hX hA (cu_X9_copyFrom l D tc sk (Ba 0) (Ba 1) (Ba 2) (Ba 3) (Ba 4) (Ba 5) (Ba 6) (Ba 7) (Ba 8) (Bv 0) (Bv 1) (Bv 2) (Bv 3) (Bv 4) (Bv 5) (Bf 1) (Bf 2) (Bf 3) (Bf 4) (Bf 5) (Bf 6) (Bf 7) (Bf 8) (Fa 0) (Fa 1) (Fa 2) (Fa 3) (Fa 4) (Fa 5) (Fa 6) (Fa 7) (Fa 8) (Fv 0) (Fv 1) (Fv 2) (Fv 3) (Fv 4) (Fv 5) (Ff 1) (Ff 2) (Ff 3) (Ff 4) (Ff 5) (Ff 6) (Ff 7) (Ff 8)) k_599 k_1059 k_597 k_598 k_98 pl_X9_copyFrom ⟨Nat.le_of_ble_eq_true rfl, Nat.le_of_ble_eq_true rfl⟩ rfl rfl (va_recv hK hP (ci := 9) (q0 := 1) rfl rfl) hP hD hS [1, 2, 3, 4, 5, 6, 7, 8, 9, 15, 16, 17, 18, 19, 20, 21, 22, 23] [0, 10, 11, 12, 13, 14, 24, 25, 26, 27, 28, 29, 30, 31, 32, 33, 34, 35, 36, 37, 38, 39, 40, 41, 42, 43, 44, 45] rfl rfl rfl rfl rfl (by decide) rfl hl.1 rfl (Nat.le_of_ble_eq_true rfl) dX8_copyFrom_19 ⟨Nat.le_of_ble_eq_true rfl, Nat.le_of_ble_eq_true rfl⟩ (fun v_12 u_13 H locs hv_14 hP₀ hD₀ hS₀ => ?_)
  obtain ⟨sv_15, sv_16, sv_17, sv_18, sv_19, sv_20, sv_21, sv_22⟩ := u_13
  obtain rfl : v_12 = none := hv_14
  refine W.eq (g2 := F0 m 22 ls []) rfl ?_
  replace hP : va_P D classes [((Sa 0), .inr (8, [.ref (Aa 0), .ref (Ba 0), .ref (Na 0), .int (Sv 0), .int (Sv 1)])), ((Na 0), .inr (3, [.ref (Na 1), .ref (Na 2), .ref (Na 3), .int (Nv 0)])), ((Na 1), .inl (tc 0, 10, .inl (Nf 1))), ((Na 2), .inl (tc 0, 10, .inl (Nf 2))), ((Na 3), .inl (tc 0, 10, .inl (Nf 3))), ((Ua 0), .inr (8, [.ref (Ea 0), .ref (Fa 0), .ref (Ma 0), .int (Uv 0), .int (Uv 1)])), ((Ma 0), .inr (3, [.ref (Ma 1), .ref (Ma 2), .ref (Ma 3), .int (Mv 0)])), ((Ma 1), .inl (tc 0, 10, .inl (Mf 1))), ((Ma 2), .inl (tc 0, 10, .inl (Mf 2))), ((Ma 3), .inl (tc 0, 10, .inl (Mf 3))), ((Aa 0), .inr (9, [.int (Ev 0), .int (Ev 1), .int (Ev 2), .int (Ev 3), .int (Ev 4), .int (Ev 5), .ref (Aa 1), .ref (Aa 2), .ref (Aa 3), .ref (Aa 4), .ref (Aa 5), .ref (Aa 6), .ref (Aa 7), .ref (Aa 8)])), ((Aa 1), .inl (tc 0, 10, .inl sv_4)), ((Aa 2), .inl (tc 0, 10, .inl sv_5)), ((Aa 3), .inl (tc 0, 6, .inl sv_6)), ((Aa 4), .inl (tc 0, 6, .inl sv_7)), ((Aa 5), .inl (tc 0, 6, .inl sv_8)), ((Aa 6), .inl (tc 0, 6, .inl sv_9)), ((Aa 7), .inl (tc 0, 6, .inl sv_10)), ((Aa 8), .inl (tc 0, 6, .inl sv_11)), ((Ea 0), .inr (9, [.int (Ev 0), .int (Ev 1), .int (Ev 2), .int (Ev 3), .int (Ev 4), .int (Ev 5), .ref (Ea 1), .ref (Ea 2), .ref (Ea 3), .ref (Ea 4), .ref (Ea 5), .ref (Ea 6), .ref (Ea 7), .ref (Ea 8)])), ((Ea 1), .inl (tc 0, 10, .inl (Ef 1))), ((Ea 2), .inl (tc 0, 10, .inl (Ef 2))), ((Ea 3), .inl (tc 0, 6, .inl (Ef 3))), ((Ea 4), .inl (tc 0, 6, .inl (Ef 4))), ((Ea 5), .inl (tc 0, 6, .inl (Ef 5))), ((Ea 6), .inl (tc 0, 6, .inl (Ef 6))), ((Ea 7), .inl (tc 0, 6, .inl (Ef 7))), ((Ea 8), .inl (tc 0, 6, .inl (Ef 8))), ((Ba 0), .inr (9, [.int (Fv 0), .int (Fv 1), .int (Fv 2), .int (Fv 3), .int (Fv 4), .int (Fv 5), .ref (Ba 1), .ref (Ba 2), .ref (Ba 3), .ref (Ba 4), .ref (Ba 5), .ref (Ba 6), .ref (Ba 7), .ref (Ba 8)])), ((Ba 1), .inl (tc 0, 10, .inl sv_15)), ((Ba 2), .inl (tc 0, 10, .inl sv_16)), ((Ba 3), .inl (tc 0, 6, .inl sv_17)), ((Ba 4), .inl (tc 0, 6, .inl sv_18)), ((Ba 5), .inl (tc 0, 6, .inl sv_19)), ((Ba 6), .inl (tc 0, 6, .inl sv_20)), ((Ba 7), .inl (tc 0, 6, .inl sv_21)), ((Ba 8), .inl (tc 0, 6, .inl sv_22)), ((Fa 0), .inr (9, [.int (Fv 0), .int (Fv 1), .int (Fv 2), .int (Fv 3), .int (Fv 4), .int (Fv 5), .ref (Fa 1), .ref (Fa 2), .ref (Fa 3), .ref (Fa 4), .ref (Fa 5), .ref (Fa 6), .ref (Fa 7), .ref (Fa 8)])), ((Fa 1), .inl (tc 0, 10, .inl (Ff 1))), ((Fa 2), .inl (tc 0, 10, .inl (Ff 2))), ((Fa 3), .inl (tc 0, 6, .inl (Ff 3))), ((Fa 4), .inl (tc 0, 6, .inl (Ff 4))), ((Fa 5), .inl (tc 0, 6, .inl (Ff 5))), ((Fa 6), .inl (tc 0, 6, .inl (Ff 6))), ((Fa 7), .inl (tc 0, 6, .inl (Ff 7))), ((Fa 8), .inl (tc 0, 6, .inl (Ff 8)))] H := hP₀
  replace hD : va_D A [((Sa 0), .inr (8, [.ref (Aa 0), .ref (Ba 0), .ref (Na 0), .int (Sv 0), .int (Sv 1)])), ((Na 0), .inr (3, [.ref (Na 1), .ref (Na 2), .ref (Na 3), .int (Nv 0)])), ((Na 1), .inl (tc 0, 10, .inl (Nf 1))), ((Na 2), .inl (tc 0, 10, .inl (Nf 2))), ((Na 3), .inl (tc 0, 10, .inl (Nf 3))), ((Ua 0), .inr (8, [.ref (Ea 0), .ref (Fa 0), .ref (Ma 0), .int (Uv 0), .int (Uv 1)])), ((Ma 0), .inr (3, [.ref (Ma 1), .ref (Ma 2), .ref (Ma 3), .int (Mv 0)])), ((Ma 1), .inl (tc 0, 10, .inl (Mf 1))), ((Ma 2), .inl (tc 0, 10, .inl (Mf 2))), ((Ma 3), .inl (tc 0, 10, .inl (Mf 3))), ((Aa 0), .inr (9, [.int (Ev 0), .int (Ev 1), .int (Ev 2), .int (Ev 3), .int (Ev 4), .int (Ev 5), .ref (Aa 1), .ref (Aa 2), .ref (Aa 3), .ref (Aa 4), .ref (Aa 5), .ref (Aa 6), .ref (Aa 7), .ref (Aa 8)])), ((Aa 1), .inl (tc 0, 10, .inl sv_4)), ((Aa 2), .inl (tc 0, 10, .inl sv_5)), ((Aa 3), .inl (tc 0, 6, .inl sv_6)), ((Aa 4), .inl (tc 0, 6, .inl sv_7)), ((Aa 5), .inl (tc 0, 6, .inl sv_8)), ((Aa 6), .inl (tc 0, 6, .inl sv_9)), ((Aa 7), .inl (tc 0, 6, .inl sv_10)), ((Aa 8), .inl (tc 0, 6, .inl sv_11)), ((Ea 0), .inr (9, [.int (Ev 0), .int (Ev 1), .int (Ev 2), .int (Ev 3), .int (Ev 4), .int (Ev 5), .ref (Ea 1), .ref (Ea 2), .ref (Ea 3), .ref (Ea 4), .ref (Ea 5), .ref (Ea 6), .ref (Ea 7), .ref (Ea 8)])), ((Ea 1), .inl (tc 0, 10, .inl (Ef 1))), ((Ea 2), .inl (tc 0, 10, .inl (Ef 2))), ((Ea 3), .inl (tc 0, 6, .inl (Ef 3))), ((Ea 4), .inl (tc 0, 6, .inl (Ef 4))), ((Ea 5), .inl (tc 0, 6, .inl (Ef 5))), ((Ea 6), .inl (tc 0, 6, .inl (Ef 6))), ((Ea 7), .inl (tc 0, 6, .inl (Ef 7))), ((Ea 8), .inl (tc 0, 6, .inl (Ef 8))), ((Ba 0), .inr (9, [.int (Fv 0), .int (Fv 1), .int (Fv 2), .int (Fv 3), .int (Fv 4), .int (Fv 5), .ref (Ba 1), .ref (Ba 2), .ref (Ba 3), .ref (Ba 4), .ref (Ba 5), .ref (Ba 6), .ref (Ba 7), .ref (Ba 8)])), ((Ba 1), .inl (tc 0, 10, .inl sv_15)), ((Ba 2), .inl (tc 0, 10, .inl sv_16)), ((Ba 3), .inl (tc 0, 6, .inl sv_17)), ((Ba 4), .inl (tc 0, 6, .inl sv_18)), ((Ba 5), .inl (tc 0, 6, .inl sv_19)), ((Ba 6), .inl (tc 0, 6, .inl sv_20)), ((Ba 7), .inl (tc 0, 6, .inl sv_21)), ((Ba 8), .inl (tc 0, 6, .inl sv_22)), ((Fa 0), .inr (9, [.int (Fv 0), .int (Fv 1), .int (Fv 2), .int (Fv 3), .int (Fv 4), .int (Fv 5), .ref (Fa 1), .ref (Fa 2), .ref (Fa 3), .ref (Fa 4), .ref (Fa 5), .ref (Fa 6), .ref (Fa 7), .ref (Fa 8)])), ((Fa 1), .inl (tc 0, 10, .inl (Ff 1))), ((Fa 2), .inl (tc 0, 10, .inl (Ff 2))), ((Fa 3), .inl (tc 0, 6, .inl (Ff 3))), ((Fa 4), .inl (tc 0, 6, .inl (Ff 4))), ((Fa 5), .inl (tc 0, 6, .inl (Ff 5))), ((Fa 6), .inl (tc 0, 6, .inl (Ff 6))), ((Fa 7), .inl (tc 0, 6, .inl (Ff 7))), ((Fa 8), .inl (tc 0, 6, .inl (Ff 8)))] := hD₀
  replace hS := hS₀
  clear hP₀ hD₀ hS₀
  refine lv_aload_n hx hb dX8_copyFrom_22 rfl (lv_at hl 0 rfl) ?_
  refine gf_X8_24 hx hb hts hown hK hP 0 rfl rfl dX8_copyFrom_23 ?_
  refine lv_aload_n hx hb dX8_copyFrom_26 rfl (lv_at hl 1 rfl) ?_
  refine gf_X8_24 hx hb hts hown hK hP 5 rfl rfl dX8_copyFrom_27 ?_
  refine cV (a := (Na 0)) (As := [.ref (Ma 0)]) (rest := []) (wr := [((Sa 0), .inr (8, [.ref (Aa 0), .ref (Ba 0), .ref (Na 0), .int (Sv 0), .int (Sv 1)])), ((Ua 0), .inr (8, [.ref (Ea 0), .ref (Fa 0), .ref (Ma 0), .int (Uv 0), .int (Uv 1)])), ((Aa 0), .inr (9, [.int (Ev 0), .int (Ev 1), .int (Ev 2), .int (Ev 3), .int (Ev 4), .int (Ev 5), .ref (Aa 1), .ref (Aa 2), .ref (Aa 3), .ref (Aa 4), .ref (Aa 5), .ref (Aa 6), .ref (Aa 7), .ref (Aa 8)])), ((Aa 1), .inl (tc 0, 10, .inl sv_4)), ((Aa 2), .inl (tc 0, 10, .inl sv_5)), ((Aa 3), .inl (tc 0, 6, .inl sv_6)), ((Aa 4), .inl (tc 0, 6, .inl sv_7)), ((Aa 5), .inl (tc 0, 6, .inl sv_8)), ((Aa 6), .inl (tc 0, 6, .inl sv_9)), ((Aa 7), .inl (tc 0, 6, .inl sv_10)), ((Aa 8), .inl (tc 0, 6, .inl sv_11)), ((Ea 0), .inr (9, [.int (Ev 0), .int (Ev 1), .int (Ev 2), .int (Ev 3), .int (Ev 4), .int (Ev 5), .ref (Ea 1), .ref (Ea 2), .ref (Ea 3), .ref (Ea 4), .ref (Ea 5), .ref (Ea 6), .ref (Ea 7), .ref (Ea 8)])), ((Ea 1), .inl (tc 0, 10, .inl (Ef 1))), ((Ea 2), .inl (tc 0, 10, .inl (Ef 2))), ((Ea 3), .inl (tc 0, 6, .inl (Ef 3))), ((Ea 4), .inl (tc 0, 6, .inl (Ef 4))), ((Ea 5), .inl (tc 0, 6, .inl (Ef 5))), ((Ea 6), .inl (tc 0, 6, .inl (Ef 6))), ((Ea 7), .inl (tc 0, 6, .inl (Ef 7))), ((Ea 8), .inl (tc 0, 6, .inl (Ef 8))), ((Ba 0), .inr (9, [.int (Fv 0), .int (Fv 1), .int (Fv 2), .int (Fv 3), .int (Fv 4), .int (Fv 5), .ref (Ba 1), .ref (Ba 2), .ref (Ba 3), .ref (Ba 4), .ref (Ba 5), .ref (Ba 6), .ref (Ba 7), .ref (Ba 8)])), ((Ba 1), .inl (tc 0, 10, .inl sv_15)), ((Ba 2), .inl (tc 0, 10, .inl sv_16)), ((Ba 3), .inl (tc 0, 6, .inl sv_17)), ((Ba 4), .inl (tc 0, 6, .inl sv_18)), ((Ba 5), .inl (tc 0, 6, .inl sv_19)), ((Ba 6), .inl (tc 0, 6, .inl sv_20)), ((Ba 7), .inl (tc 0, 6, .inl sv_21)), ((Ba 8), .inl (tc 0, 6, .inl sv_22)), ((Fa 0), .inr (9, [.int (Fv 0), .int (Fv 1), .int (Fv 2), .int (Fv 3), .int (Fv 4), .int (Fv 5), .ref (Fa 1), .ref (Fa 2), .ref (Fa 3), .ref (Fa 4), .ref (Fa 5), .ref (Fa 6), .ref (Fa 7), .ref (Fa 8)])), ((Fa 1), .inl (tc 0, 10, .inl (Ff 1))), ((Fa 2), .inl (tc 0, 10, .inl (Ff 2))), ((Fa 3), .inl (tc 0, 6, .inl (Ff 3))), ((Fa 4), .inl (tc 0, 6, .inl (Ff 4))), ((Fa 5), .inl (tc 0, 6, .inl (Ff 5))), ((Fa 6), .inl (tc 0, 6, .inl (Ff 6))), ((Fa 7), .inl (tc 0, 6, .inl (Ff 7))), ((Fa 8), .inl (tc 0, 6, .inl (Ff 8)))]) ⟨hx, hb, hml, hown, hts⟩ hK hX hA (cu_X3_copyFrom l D tc sk (Na 0) (Na 1) (Na 2) (Na 3) (Nv 0) (Nf 1) (Nf 2) (Nf 3) (Ma 0) (Ma 1) (Ma 2) (Ma 3) (Mv 0) (Mf 1) (Mf 2) (Mf 3)) k_1063 k_1060 k_1061 k_1062 k_101 pl_X3_copyFrom ⟨Nat.le_of_ble_eq_true rfl, Nat.le_of_ble_eq_true rfl⟩ rfl rfl (va_recv hK hP (ci := 3) (q0 := 1) rfl rfl) hP hD hS [1, 2, 3, 4, 6, 7, 8, 9] [0, 5, 10, 11, 12, 13, 14, 15, 16, 17, 18, 19, 20, 21, 22, 23, 24, 25, 26, 27, 28, 29, 30, 31, 32, 33, 34, 35, 36, 37, 38, 39, 40, 41, 42, 43, 44, 45] rfl rfl rfl rfl rfl (by decide) rfl hl.1 rfl (Nat.le_of_ble_eq_true rfl) dX8_copyFrom_30 ⟨Nat.le_of_ble_eq_true rfl, Nat.le_of_ble_eq_true rfl⟩ (fun v_23 u_24 H locs hv_25 hP₀ hD₀ hS₀ => ?_)
  obtain ⟨sv_26, sv_27, sv_28⟩ := u_24
  obtain rfl : v_23 = none := hv_25
  refine W.eq (g2 := F0 m 33 ls []) rfl ?_
  replace hP : va_P D classes [((Sa 0), .inr (8, [.ref (Aa 0), .ref (Ba 0), .ref (Na 0), .int (Sv 0), .int (Sv 1)])), ((Ua 0), .inr (8, [.ref (Ea 0), .ref (Fa 0), .ref (Ma 0), .int (Uv 0), .int (Uv 1)])), ((Aa 0), .inr (9, [.int (Ev 0), .int (Ev 1), .int (Ev 2), .int (Ev 3), .int (Ev 4), .int (Ev 5), .ref (Aa 1), .ref (Aa 2), .ref (Aa 3), .ref (Aa 4), .ref (Aa 5), .ref (Aa 6), .ref (Aa 7), .ref (Aa 8)])), ((Aa 1), .inl (tc 0, 10, .inl sv_4)), ((Aa 2), .inl (tc 0, 10, .inl sv_5)), ((Aa 3), .inl (tc 0, 6, .inl sv_6)), ((Aa 4), .inl (tc 0, 6, .inl sv_7)), ((Aa 5), .inl (tc 0, 6, .inl sv_8)), ((Aa 6), .inl (tc 0, 6, .inl sv_9)), ((Aa 7), .inl (tc 0, 6, .inl sv_10)), ((Aa 8), .inl (tc 0, 6, .inl sv_11)), ((Ea 0), .inr (9, [.int (Ev 0), .int (Ev 1), .int (Ev 2), .int (Ev 3), .int (Ev 4), .int (Ev 5), .ref (Ea 1), .ref (Ea 2), .ref (Ea 3), .ref (Ea 4), .ref (Ea 5), .ref (Ea 6), .ref (Ea 7), .ref (Ea 8)])), ((Ea 1), .inl (tc 0, 10, .inl (Ef 1))), ((Ea 2), .inl (tc 0, 10, .inl (Ef 2))), ((Ea 3), .inl (tc 0, 6, .inl (Ef 3))), ((Ea 4), .inl (tc 0, 6, .inl (Ef 4))), ((Ea 5), .inl (tc 0, 6, .inl (Ef 5))), ((Ea 6), .inl (tc 0, 6, .inl (Ef 6))), ((Ea 7), .inl (tc 0, 6, .inl (Ef 7))), ((Ea 8), .inl (tc 0, 6, .inl (Ef 8))), ((Ba 0), .inr (9, [.int (Fv 0), .int (Fv 1), .int (Fv 2), .int (Fv 3), .int (Fv 4), .int (Fv 5), .ref (Ba 1), .ref (Ba 2), .ref (Ba 3), .ref (Ba 4), .ref (Ba 5), .ref (Ba 6), .ref (Ba 7), .ref (Ba 8)])), ((Ba 1), .inl (tc 0, 10, .inl sv_15)), ((Ba 2), .inl (tc 0, 10, .inl sv_16)), ((Ba 3), .inl (tc 0, 6, .inl sv_17)), ((Ba 4), .inl (tc 0, 6, .inl sv_18)), ((Ba 5), .inl (tc 0, 6, .inl sv_19)), ((Ba 6), .inl (tc 0, 6, .inl sv_20)), ((Ba 7), .inl (tc 0, 6, .inl sv_21)), ((Ba 8), .inl (tc 0, 6, .inl sv_22)), ((Fa 0), .inr (9, [.int (Fv 0), .int (Fv 1), .int (Fv 2), .int (Fv 3), .int (Fv 4), .int (Fv 5), .ref (Fa 1), .ref (Fa 2), .ref (Fa 3), .ref (Fa 4), .ref (Fa 5), .ref (Fa 6), .ref (Fa 7), .ref (Fa 8)])), ((Fa 1), .inl (tc 0, 10, .inl (Ff 1))), ((Fa 2), .inl (tc 0, 10, .inl (Ff 2))), ((Fa 3), .inl (tc 0, 6, .inl (Ff 3))), ((Fa 4), .inl (tc 0, 6, .inl (Ff 4))), ((Fa 5), .inl (tc 0, 6, .inl (Ff 5))), ((Fa 6), .inl (tc 0, 6, .inl (Ff 6))), ((Fa 7), .inl (tc 0, 6, .inl (Ff 7))), ((Fa 8), .inl (tc 0, 6, .inl (Ff 8))), ((Na 0), .inr (3, [.ref (Na 1), .ref (Na 2), .ref (Na 3), .int (Mv 0)])), ((Na 1), .inl (tc 0, 10, .inl sv_26)), ((Na 2), .inl (tc 0, 10, .inl sv_27)), ((Na 3), .inl (tc 0, 10, .inl sv_28)), ((Ma 0), .inr (3, [.ref (Ma 1), .ref (Ma 2), .ref (Ma 3), .int (Mv 0)])), ((Ma 1), .inl (tc 0, 10, .inl (Mf 1))), ((Ma 2), .inl (tc 0, 10, .inl (Mf 2))), ((Ma 3), .inl (tc 0, 10, .inl (Mf 3)))] H := hP₀
  replace hD : va_D A [((Sa 0), .inr (8, [.ref (Aa 0), .ref (Ba 0), .ref (Na 0), .int (Sv 0), .int (Sv 1)])), ((Ua 0), .inr (8, [.ref (Ea 0), .ref (Fa 0), .ref (Ma 0), .int (Uv 0), .int (Uv 1)])), ((Aa 0), .inr (9, [.int (Ev 0), .int (Ev 1), .int (Ev 2), .int (Ev 3), .int (Ev 4), .int (Ev 5), .ref (Aa 1), .ref (Aa 2), .ref (Aa 3), .ref (Aa 4), .ref (Aa 5), .ref (Aa 6), .ref (Aa 7), .ref (Aa 8)])), ((Aa 1), .inl (tc 0, 10, .inl sv_4)), ((Aa 2), .inl (tc 0, 10, .inl sv_5)), ((Aa 3), .inl (tc 0, 6, .inl sv_6)), ((Aa 4), .inl (tc 0, 6, .inl sv_7)), ((Aa 5), .inl (tc 0, 6, .inl sv_8)), ((Aa 6), .inl (tc 0, 6, .inl sv_9)), ((Aa 7), .inl (tc 0, 6, .inl sv_10)), ((Aa 8), .inl (tc 0, 6, .inl sv_11)), ((Ea 0), .inr (9, [.int (Ev 0), .int (Ev 1), .int (Ev 2), .int (Ev 3), .int (Ev 4), .int (Ev 5), .ref (Ea 1), .ref (Ea 2), .ref (Ea 3), .ref (Ea 4), .ref (Ea 5), .ref (Ea 6), .ref (Ea 7), .ref (Ea 8)])), ((Ea 1), .inl (tc 0, 10, .inl (Ef 1))), ((Ea 2), .inl (tc 0, 10, .inl (Ef 2))), ((Ea 3), .inl (tc 0, 6, .inl (Ef 3))), ((Ea 4), .inl (tc 0, 6, .inl (Ef 4))), ((Ea 5), .inl (tc 0, 6, .inl (Ef 5))), ((Ea 6), .inl (tc 0, 6, .inl (Ef 6))), ((Ea 7), .inl (tc 0, 6, .inl (Ef 7))), ((Ea 8), .inl (tc 0, 6, .inl (Ef 8))), ((Ba 0), .inr (9, [.int (Fv 0), .int (Fv 1), .int (Fv 2), .int (Fv 3), .int (Fv 4), .int (Fv 5), .ref (Ba 1), .ref (Ba 2), .ref (Ba 3), .ref (Ba 4), .ref (Ba 5), .ref (Ba 6), .ref (Ba 7), .ref (Ba 8)])), ((Ba 1), .inl (tc 0, 10, .inl sv_15)), ((Ba 2), .inl (tc 0, 10, .inl sv_16)), ((Ba 3), .inl (tc 0, 6, .inl sv_17)), ((Ba 4), .inl (tc 0, 6, .inl sv_18)), ((Ba 5), .inl (tc 0, 6, .inl sv_19)), ((Ba 6), .inl (tc 0, 6, .inl sv_20)), ((Ba 7), .inl (tc 0, 6, .inl sv_21)), ((Ba 8), .inl (tc 0, 6, .inl sv_22)), ((Fa 0), .inr (9, [.int (Fv 0), .int (Fv 1), .int (Fv 2), .int (Fv 3), .int (Fv 4), .int (Fv 5), .ref (Fa 1), .ref (Fa 2), .ref (Fa 3), .ref (Fa 4), .ref (Fa 5), .ref (Fa 6), .ref (Fa 7), .ref (Fa 8)])), ((Fa 1), .inl (tc 0, 10, .inl (Ff 1))), ((Fa 2), .inl (tc 0, 10, .inl (Ff 2))), ((Fa 3), .inl (tc 0, 6, .inl (Ff 3))), ((Fa 4), .inl (tc 0, 6, .inl (Ff 4))), ((Fa 5), .inl (tc 0, 6, .inl (Ff 5))), ((Fa 6), .inl (tc 0, 6, .inl (Ff 6))), ((Fa 7), .inl (tc 0, 6, .inl (Ff 7))), ((Fa 8), .inl (tc 0, 6, .inl (Ff 8))), ((Na 0), .inr (3, [.ref (Na 1), .ref (Na 2), .ref (Na 3), .int (Mv 0)])), ((Na 1), .inl (tc 0, 10, .inl sv_26)), ((Na 2), .inl (tc 0, 10, .inl sv_27)), ((Na 3), .inl (tc 0, 10, .inl sv_28)), ((Ma 0), .inr (3, [.ref (Ma 1), .ref (Ma 2), .ref (Ma 3), .int (Mv 0)])), ((Ma 1), .inl (tc 0, 10, .inl (Mf 1))), ((Ma 2), .inl (tc 0, 10, .inl (Mf 2))), ((Ma 3), .inl (tc 0, 10, .inl (Mf 3)))] := hD₀
  replace hS := hS₀
  clear hP₀ hD₀ hS₀
  refine lv_aload_n hx hb dX8_copyFrom_33 rfl (lv_at hl 0 rfl) ?_
  refine lv_aload_n hx hb dX8_copyFrom_34 rfl (lv_at hl 1 rfl) ?_
  refine gf_X8_28 hx hb hts hown hK hP 1 rfl rfl dX8_copyFrom_35 ?_
  refine pf_X8_28 hx hb hts hown hK hP hD hS 0 rfl (Nat.le_of_ble_eq_true rfl) rfl rfl dX8_copyFrom_38 (fun H locs hP₀ hD₀ hS₀ => ?_)
  replace hP : va_P D classes [((Sa 0), .inr (8, [.ref (Aa 0), .ref (Ba 0), .ref (Na 0), .int (Uv 0), .int (Sv 1)])), ((Ua 0), .inr (8, [.ref (Ea 0), .ref (Fa 0), .ref (Ma 0), .int (Uv 0), .int (Uv 1)])), ((Aa 0), .inr (9, [.int (Ev 0), .int (Ev 1), .int (Ev 2), .int (Ev 3), .int (Ev 4), .int (Ev 5), .ref (Aa 1), .ref (Aa 2), .ref (Aa 3), .ref (Aa 4), .ref (Aa 5), .ref (Aa 6), .ref (Aa 7), .ref (Aa 8)])), ((Aa 1), .inl (tc 0, 10, .inl sv_4)), ((Aa 2), .inl (tc 0, 10, .inl sv_5)), ((Aa 3), .inl (tc 0, 6, .inl sv_6)), ((Aa 4), .inl (tc 0, 6, .inl sv_7)), ((Aa 5), .inl (tc 0, 6, .inl sv_8)), ((Aa 6), .inl (tc 0, 6, .inl sv_9)), ((Aa 7), .inl (tc 0, 6, .inl sv_10)), ((Aa 8), .inl (tc 0, 6, .inl sv_11)), ((Ea 0), .inr (9, [.int (Ev 0), .int (Ev 1), .int (Ev 2), .int (Ev 3), .int (Ev 4), .int (Ev 5), .ref (Ea 1), .ref (Ea 2), .ref (Ea 3), .ref (Ea 4), .ref (Ea 5), .ref (Ea 6), .ref (Ea 7), .ref (Ea 8)])), ((Ea 1), .inl (tc 0, 10, .inl (Ef 1))), ((Ea 2), .inl (tc 0, 10, .inl (Ef 2))), ((Ea 3), .inl (tc 0, 6, .inl (Ef 3))), ((Ea 4), .inl (tc 0, 6, .inl (Ef 4))), ((Ea 5), .inl (tc 0, 6, .inl (Ef 5))), ((Ea 6), .inl (tc 0, 6, .inl (Ef 6))), ((Ea 7), .inl (tc 0, 6, .inl (Ef 7))), ((Ea 8), .inl (tc 0, 6, .inl (Ef 8))), ((Ba 0), .inr (9, [.int (Fv 0), .int (Fv 1), .int (Fv 2), .int (Fv 3), .int (Fv 4), .int (Fv 5), .ref (Ba 1), .ref (Ba 2), .ref (Ba 3), .ref (Ba 4), .ref (Ba 5), .ref (Ba 6), .ref (Ba 7), .ref (Ba 8)])), ((Ba 1), .inl (tc 0, 10, .inl sv_15)), ((Ba 2), .inl (tc 0, 10, .inl sv_16)), ((Ba 3), .inl (tc 0, 6, .inl sv_17)), ((Ba 4), .inl (tc 0, 6, .inl sv_18)), ((Ba 5), .inl (tc 0, 6, .inl sv_19)), ((Ba 6), .inl (tc 0, 6, .inl sv_20)), ((Ba 7), .inl (tc 0, 6, .inl sv_21)), ((Ba 8), .inl (tc 0, 6, .inl sv_22)), ((Fa 0), .inr (9, [.int (Fv 0), .int (Fv 1), .int (Fv 2), .int (Fv 3), .int (Fv 4), .int (Fv 5), .ref (Fa 1), .ref (Fa 2), .ref (Fa 3), .ref (Fa 4), .ref (Fa 5), .ref (Fa 6), .ref (Fa 7), .ref (Fa 8)])), ((Fa 1), .inl (tc 0, 10, .inl (Ff 1))), ((Fa 2), .inl (tc 0, 10, .inl (Ff 2))), ((Fa 3), .inl (tc 0, 6, .inl (Ff 3))), ((Fa 4), .inl (tc 0, 6, .inl (Ff 4))), ((Fa 5), .inl (tc 0, 6, .inl (Ff 5))), ((Fa 6), .inl (tc 0, 6, .inl (Ff 6))), ((Fa 7), .inl (tc 0, 6, .inl (Ff 7))), ((Fa 8), .inl (tc 0, 6, .inl (Ff 8))), ((Na 0), .inr (3, [.ref (Na 1), .ref (Na 2), .ref (Na 3), .int (Mv 0)])), ((Na 1), .inl (tc 0, 10, .inl sv_26)), ((Na 2), .inl (tc 0, 10, .inl sv_27)), ((Na 3), .inl (tc 0, 10, .inl sv_28)), ((Ma 0), .inr (3, [.ref (Ma 1), .ref (Ma 2), .ref (Ma 3), .int (Mv 0)])), ((Ma 1), .inl (tc 0, 10, .inl (Mf 1))), ((Ma 2), .inl (tc 0, 10, .inl (Mf 2))), ((Ma 3), .inl (tc 0, 10, .inl (Mf 3)))] H := hP₀
  replace hD : va_D A [((Sa 0), .inr (8, [.ref (Aa 0), .ref (Ba 0), .ref (Na 0), .int (Uv 0), .int (Sv 1)])), ((Ua 0), .inr (8, [.ref (Ea 0), .ref (Fa 0), .ref (Ma 0), .int (Uv 0), .int (Uv 1)])), ((Aa 0), .inr (9, [.int (Ev 0), .int (Ev 1), .int (Ev 2), .int (Ev 3), .int (Ev 4), .int (Ev 5), .ref (Aa 1), .ref (Aa 2), .ref (Aa 3), .ref (Aa 4), .ref (Aa 5), .ref (Aa 6), .ref (Aa 7), .ref (Aa 8)])), ((Aa 1), .inl (tc 0, 10, .inl sv_4)), ((Aa 2), .inl (tc 0, 10, .inl sv_5)), ((Aa 3), .inl (tc 0, 6, .inl sv_6)), ((Aa 4), .inl (tc 0, 6, .inl sv_7)), ((Aa 5), .inl (tc 0, 6, .inl sv_8)), ((Aa 6), .inl (tc 0, 6, .inl sv_9)), ((Aa 7), .inl (tc 0, 6, .inl sv_10)), ((Aa 8), .inl (tc 0, 6, .inl sv_11)), ((Ea 0), .inr (9, [.int (Ev 0), .int (Ev 1), .int (Ev 2), .int (Ev 3), .int (Ev 4), .int (Ev 5), .ref (Ea 1), .ref (Ea 2), .ref (Ea 3), .ref (Ea 4), .ref (Ea 5), .ref (Ea 6), .ref (Ea 7), .ref (Ea 8)])), ((Ea 1), .inl (tc 0, 10, .inl (Ef 1))), ((Ea 2), .inl (tc 0, 10, .inl (Ef 2))), ((Ea 3), .inl (tc 0, 6, .inl (Ef 3))), ((Ea 4), .inl (tc 0, 6, .inl (Ef 4))), ((Ea 5), .inl (tc 0, 6, .inl (Ef 5))), ((Ea 6), .inl (tc 0, 6, .inl (Ef 6))), ((Ea 7), .inl (tc 0, 6, .inl (Ef 7))), ((Ea 8), .inl (tc 0, 6, .inl (Ef 8))), ((Ba 0), .inr (9, [.int (Fv 0), .int (Fv 1), .int (Fv 2), .int (Fv 3), .int (Fv 4), .int (Fv 5), .ref (Ba 1), .ref (Ba 2), .ref (Ba 3), .ref (Ba 4), .ref (Ba 5), .ref (Ba 6), .ref (Ba 7), .ref (Ba 8)])), ((Ba 1), .inl (tc 0, 10, .inl sv_15)), ((Ba 2), .inl (tc 0, 10, .inl sv_16)), ((Ba 3), .inl (tc 0, 6, .inl sv_17)), ((Ba 4), .inl (tc 0, 6, .inl sv_18)), ((Ba 5), .inl (tc 0, 6, .inl sv_19)), ((Ba 6), .inl (tc 0, 6, .inl sv_20)), ((Ba 7), .inl (tc 0, 6, .inl sv_21)), ((Ba 8), .inl (tc 0, 6, .inl sv_22)), ((Fa 0), .inr (9, [.int (Fv 0), .int (Fv 1), .int (Fv 2), .int (Fv 3), .int (Fv 4), .int (Fv 5), .ref (Fa 1), .ref (Fa 2), .ref (Fa 3), .ref (Fa 4), .ref (Fa 5), .ref (Fa 6), .ref (Fa 7), .ref (Fa 8)])), ((Fa 1), .inl (tc 0, 10, .inl (Ff 1))), ((Fa 2), .inl (tc 0, 10, .inl (Ff 2))), ((Fa 3), .inl (tc 0, 6, .inl (Ff 3))), ((Fa 4), .inl (tc 0, 6, .inl (Ff 4))), ((Fa 5), .inl (tc 0, 6, .inl (Ff 5))), ((Fa 6), .inl (tc 0, 6, .inl (Ff 6))), ((Fa 7), .inl (tc 0, 6, .inl (Ff 7))), ((Fa 8), .inl (tc 0, 6, .inl (Ff 8))), ((Na 0), .inr (3, [.ref (Na 1), .ref (Na 2), .ref (Na 3), .int (Mv 0)])), ((Na 1), .inl (tc 0, 10, .inl sv_26)), ((Na 2), .inl (tc 0, 10, .inl sv_27)), ((Na 3), .inl (tc 0, 10, .inl sv_28)), ((Ma 0), .inr (3, [.ref (Ma 1), .ref (Ma 2), .ref (Ma 3), .int (Mv 0)])), ((Ma 1), .inl (tc 0, 10, .inl (Mf 1))), ((Ma 2), .inl (tc 0, 10, .inl (Mf 2))), ((Ma 3), .inl (tc 0, 10, .inl (Mf 3)))] := hD₀
  replace hS := hS₀
  clear hP₀ hD₀ hS₀
  refine lv_aload_n hx hb dX8_copyFrom_41 rfl (lv_at hl 0 rfl) ?_
  refine lv_aload_n hx hb dX8_copyFrom_42 rfl (lv_at hl 1 rfl) ?_
  refine gf_X8_32 hx hb hts hown hK hP 1 rfl rfl dX8_copyFrom_43 ?_
  refine pf_X8_32 hx hb hts hown hK hP hD hS 0 rfl (Nat.le_of_ble_eq_true rfl) rfl rfl dX8_copyFrom_46 (fun H locs hP₀ hD₀ hS₀ => ?_)
  replace hP : va_P D classes [((Sa 0), .inr (8, [.ref (Aa 0), .ref (Ba 0), .ref (Na 0), .int (Uv 0), .int (Uv 1)])), ((Ua 0), .inr (8, [.ref (Ea 0), .ref (Fa 0), .ref (Ma 0), .int (Uv 0), .int (Uv 1)])), ((Aa 0), .inr (9, [.int (Ev 0), .int (Ev 1), .int (Ev 2), .int (Ev 3), .int (Ev 4), .int (Ev 5), .ref (Aa 1), .ref (Aa 2), .ref (Aa 3), .ref (Aa 4), .ref (Aa 5), .ref (Aa 6), .ref (Aa 7), .ref (Aa 8)])), ((Aa 1), .inl (tc 0, 10, .inl sv_4)), ((Aa 2), .inl (tc 0, 10, .inl sv_5)), ((Aa 3), .inl (tc 0, 6, .inl sv_6)), ((Aa 4), .inl (tc 0, 6, .inl sv_7)), ((Aa 5), .inl (tc 0, 6, .inl sv_8)), ((Aa 6), .inl (tc 0, 6, .inl sv_9)), ((Aa 7), .inl (tc 0, 6, .inl sv_10)), ((Aa 8), .inl (tc 0, 6, .inl sv_11)), ((Ea 0), .inr (9, [.int (Ev 0), .int (Ev 1), .int (Ev 2), .int (Ev 3), .int (Ev 4), .int (Ev 5), .ref (Ea 1), .ref (Ea 2), .ref (Ea 3), .ref (Ea 4), .ref (Ea 5), .ref (Ea 6), .ref (Ea 7), .ref (Ea 8)])), ((Ea 1), .inl (tc 0, 10, .inl (Ef 1))), ((Ea 2), .inl (tc 0, 10, .inl (Ef 2))), ((Ea 3), .inl (tc 0, 6, .inl (Ef 3))), ((Ea 4), .inl (tc 0, 6, .inl (Ef 4))), ((Ea 5), .inl (tc 0, 6, .inl (Ef 5))), ((Ea 6), .inl (tc 0, 6, .inl (Ef 6))), ((Ea 7), .inl (tc 0, 6, .inl (Ef 7))), ((Ea 8), .inl (tc 0, 6, .inl (Ef 8))), ((Ba 0), .inr (9, [.int (Fv 0), .int (Fv 1), .int (Fv 2), .int (Fv 3), .int (Fv 4), .int (Fv 5), .ref (Ba 1), .ref (Ba 2), .ref (Ba 3), .ref (Ba 4), .ref (Ba 5), .ref (Ba 6), .ref (Ba 7), .ref (Ba 8)])), ((Ba 1), .inl (tc 0, 10, .inl sv_15)), ((Ba 2), .inl (tc 0, 10, .inl sv_16)), ((Ba 3), .inl (tc 0, 6, .inl sv_17)), ((Ba 4), .inl (tc 0, 6, .inl sv_18)), ((Ba 5), .inl (tc 0, 6, .inl sv_19)), ((Ba 6), .inl (tc 0, 6, .inl sv_20)), ((Ba 7), .inl (tc 0, 6, .inl sv_21)), ((Ba 8), .inl (tc 0, 6, .inl sv_22)), ((Fa 0), .inr (9, [.int (Fv 0), .int (Fv 1), .int (Fv 2), .int (Fv 3), .int (Fv 4), .int (Fv 5), .ref (Fa 1), .ref (Fa 2), .ref (Fa 3), .ref (Fa 4), .ref (Fa 5), .ref (Fa 6), .ref (Fa 7), .ref (Fa 8)])), ((Fa 1), .inl (tc 0, 10, .inl (Ff 1))), ((Fa 2), .inl (tc 0, 10, .inl (Ff 2))), ((Fa 3), .inl (tc 0, 6, .inl (Ff 3))), ((Fa 4), .inl (tc 0, 6, .inl (Ff 4))), ((Fa 5), .inl (tc 0, 6, .inl (Ff 5))), ((Fa 6), .inl (tc 0, 6, .inl (Ff 6))), ((Fa 7), .inl (tc 0, 6, .inl (Ff 7))), ((Fa 8), .inl (tc 0, 6, .inl (Ff 8))), ((Na 0), .inr (3, [.ref (Na 1), .ref (Na 2), .ref (Na 3), .int (Mv 0)])), ((Na 1), .inl (tc 0, 10, .inl sv_26)), ((Na 2), .inl (tc 0, 10, .inl sv_27)), ((Na 3), .inl (tc 0, 10, .inl sv_28)), ((Ma 0), .inr (3, [.ref (Ma 1), .ref (Ma 2), .ref (Ma 3), .int (Mv 0)])), ((Ma 1), .inl (tc 0, 10, .inl (Mf 1))), ((Ma 2), .inl (tc 0, 10, .inl (Mf 2))), ((Ma 3), .inl (tc 0, 10, .inl (Mf 3)))] H := hP₀
  replace hD : va_D A [((Sa 0), .inr (8, [.ref (Aa 0), .ref (Ba 0), .ref (Na 0), .int (Uv 0), .int (Uv 1)])), ((Ua 0), .inr (8, [.ref (Ea 0), .ref (Fa 0), .ref (Ma 0), .int (Uv 0), .int (Uv 1)])), ((Aa 0), .inr (9, [.int (Ev 0), .int (Ev 1), .int (Ev 2), .int (Ev 3), .int (Ev 4), .int (Ev 5), .ref (Aa 1), .ref (Aa 2), .ref (Aa 3), .ref (Aa 4), .ref (Aa 5), .ref (Aa 6), .ref (Aa 7), .ref (Aa 8)])), ((Aa 1), .inl (tc 0, 10, .inl sv_4)), ((Aa 2), .inl (tc 0, 10, .inl sv_5)), ((Aa 3), .inl (tc 0, 6, .inl sv_6)), ((Aa 4), .inl (tc 0, 6, .inl sv_7)), ((Aa 5), .inl (tc 0, 6, .inl sv_8)), ((Aa 6), .inl (tc 0, 6, .inl sv_9)), ((Aa 7), .inl (tc 0, 6, .inl sv_10)), ((Aa 8), .inl (tc 0, 6, .inl sv_11)), ((Ea 0), .inr (9, [.int (Ev 0), .int (Ev 1), .int (Ev 2), .int (Ev 3), .int (Ev 4), .int (Ev 5), .ref (Ea 1), .ref (Ea 2), .ref (Ea 3), .ref (Ea 4), .ref (Ea 5), .ref (Ea 6), .ref (Ea 7), .ref (Ea 8)])), ((Ea 1), .inl (tc 0, 10, .inl (Ef 1))), ((Ea 2), .inl (tc 0, 10, .inl (Ef 2))), ((Ea 3), .inl (tc 0, 6, .inl (Ef 3))), ((Ea 4), .inl (tc 0, 6, .inl (Ef 4))), ((Ea 5), .inl (tc 0, 6, .inl (Ef 5))), ((Ea 6), .inl (tc 0, 6, .inl (Ef 6))), ((Ea 7), .inl (tc 0, 6, .inl (Ef 7))), ((Ea 8), .inl (tc 0, 6, .inl (Ef 8))), ((Ba 0), .inr (9, [.int (Fv 0), .int (Fv 1), .int (Fv 2), .int (Fv 3), .int (Fv 4), .int (Fv 5), .ref (Ba 1), .ref (Ba 2), .ref (Ba 3), .ref (Ba 4), .ref (Ba 5), .ref (Ba 6), .ref (Ba 7), .ref (Ba 8)])), ((Ba 1), .inl (tc 0, 10, .inl sv_15)), ((Ba 2), .inl (tc 0, 10, .inl sv_16)), ((Ba 3), .inl (tc 0, 6, .inl sv_17)), ((Ba 4), .inl (tc 0, 6, .inl sv_18)), ((Ba 5), .inl (tc 0, 6, .inl sv_19)), ((Ba 6), .inl (tc 0, 6, .inl sv_20)), ((Ba 7), .inl (tc 0, 6, .inl sv_21)), ((Ba 8), .inl (tc 0, 6, .inl sv_22)), ((Fa 0), .inr (9, [.int (Fv 0), .int (Fv 1), .int (Fv 2), .int (Fv 3), .int (Fv 4), .int (Fv 5), .ref (Fa 1), .ref (Fa 2), .ref (Fa 3), .ref (Fa 4), .ref (Fa 5), .ref (Fa 6), .ref (Fa 7), .ref (Fa 8)])), ((Fa 1), .inl (tc 0, 10, .inl (Ff 1))), ((Fa 2), .inl (tc 0, 10, .inl (Ff 2))), ((Fa 3), .inl (tc 0, 6, .inl (Ff 3))), ((Fa 4), .inl (tc 0, 6, .inl (Ff 4))), ((Fa 5), .inl (tc 0, 6, .inl (Ff 5))), ((Fa 6), .inl (tc 0, 6, .inl (Ff 6))), ((Fa 7), .inl (tc 0, 6, .inl (Ff 7))), ((Fa 8), .inl (tc 0, 6, .inl (Ff 8))), ((Na 0), .inr (3, [.ref (Na 1), .ref (Na 2), .ref (Na 3), .int (Mv 0)])), ((Na 1), .inl (tc 0, 10, .inl sv_26)), ((Na 2), .inl (tc 0, 10, .inl sv_27)), ((Na 3), .inl (tc 0, 10, .inl sv_28)), ((Ma 0), .inr (3, [.ref (Ma 1), .ref (Ma 2), .ref (Ma 3), .int (Mv 0)])), ((Ma 1), .inl (tc 0, 10, .inl (Mf 1))), ((Ma 2), .inl (tc 0, 10, .inl (Mf 2))), ((Ma 3), .inl (tc 0, 10, .inl (Mf 3)))] := hD₀
  replace hS := hS₀
  clear hP₀ hD₀ hS₀
  exact retV hx hb hr hlk hP hD hS (sv_4, sv_5, sv_6, sv_7, sv_8, sv_9, sv_10, sv_11, sv_15, sv_16, sv_17, sv_18, sv_19, sv_20, sv_21, sv_22, sv_26, sv_27, sv_28) rfl [0, 2, 3, 4, 5, 6, 7, 8, 9, 10, 20, 21, 22, 23, 24, 25, 26, 27, 28, 38, 39, 40, 41, 1, 11, 12, 13, 14, 15, 16, 17, 18, 19, 29, 30, 31, 32, 33, 34, 35, 36, 37, 42, 43, 44, 45] rfl rfl dX8_copyFrom_49 (Nat.le_of_ble_eq_true rfl) (Nat.le_of_ble_eq_true rfl) rfl
set_option maxRecDepth 100000 in
theorem cu_X8_copyFrom (l : Launch) (D : va_G) (tc : Nat → ClassId) (sk : (Nat → Nat) × (Nat → Nat)) (Sa_0 : Nat) (Sv_0 : Int32) (Sv_1 : Int32) (Aa_0 : Nat) (Aa_1 : Nat) (Aa_2 : Nat) (Aa_3 : Nat) (Aa_4 : Nat) (Aa_5 : Nat) (Aa_6 : Nat) (Aa_7 : Nat) (Aa_8 : Nat) (Av_0 : Int32) (Av_1 : Int32) (Av_2 : Int32) (Av_3 : Int32) (Av_4 : Int32) (Av_5 : Int32) (Af_1 : Nat → Int32) (Af_2 : Nat → Int32) (Af_3 : Nat → Int32) (Af_4 : Nat → Int32) (Af_5 : Nat → Int32) (Af_6 : Nat → Int32) (Af_7 : Nat → Int32) (Af_8 : Nat → Int32) (Ba_0 : Nat) (Ba_1 : Nat) (Ba_2 : Nat) (Ba_3 : Nat) (Ba_4 : Nat) (Ba_5 : Nat) (Ba_6 : Nat) (Ba_7 : Nat) (Ba_8 : Nat) (Bv_0 : Int32) (Bv_1 : Int32) (Bv_2 : Int32) (Bv_3 : Int32) (Bv_4 : Int32) (Bv_5 : Int32) (Bf_1 : Nat → Int32) (Bf_2 : Nat → Int32) (Bf_3 : Nat → Int32) (Bf_4 : Nat → Int32) (Bf_5 : Nat → Int32) (Bf_6 : Nat → Int32) (Bf_7 : Nat → Int32) (Bf_8 : Nat → Int32) (Na_0 : Nat) (Na_1 : Nat) (Na_2 : Nat) (Na_3 : Nat) (Nv_0 : Int32) (Nf_1 : Nat → Int32) (Nf_2 : Nat → Int32) (Nf_3 : Nat → Int32) (Ua_0 : Nat) (Uv_0 : Int32) (Uv_1 : Int32) (Ea_0 : Nat) (Ea_1 : Nat) (Ea_2 : Nat) (Ea_3 : Nat) (Ea_4 : Nat) (Ea_5 : Nat) (Ea_6 : Nat) (Ea_7 : Nat) (Ea_8 : Nat) (Ev_0 : Int32) (Ev_1 : Int32) (Ev_2 : Int32) (Ev_3 : Int32) (Ev_4 : Int32) (Ev_5 : Int32) (Ef_1 : Nat → Int32) (Ef_2 : Nat → Int32) (Ef_3 : Nat → Int32) (Ef_4 : Nat → Int32) (Ef_5 : Nat → Int32) (Ef_6 : Nat → Int32) (Ef_7 : Nat → Int32) (Ef_8 : Nat → Int32) (Fa_0 : Nat) (Fa_1 : Nat) (Fa_2 : Nat) (Fa_3 : Nat) (Fa_4 : Nat) (Fa_5 : Nat) (Fa_6 : Nat) (Fa_7 : Nat) (Fa_8 : Nat) (Fv_0 : Int32) (Fv_1 : Int32) (Fv_2 : Int32) (Fv_3 : Int32) (Fv_4 : Int32) (Fv_5 : Int32) (Ff_1 : Nat → Int32) (Ff_2 : Nat → Int32) (Ff_3 : Nat → Int32) (Ff_4 : Nat → Int32) (Ff_5 : Nat → Int32) (Ff_6 : Nat → Int32) (Ff_7 : Nat → Int32) (Ff_8 : Nat → Int32) (Ma_0 : Nat) (Ma_1 : Nat) (Ma_2 : Nat) (Ma_3 : Nat) (Mv_0 : Int32) (Mf_1 : Nat → Int32) (Mf_2 : Nat → Int32) (Mf_3 : Nat → Int32)  : Ct l yX8_copyFrom cX8_copyFrom 2 none { frames := 2, cells := 0, slots := 0, locals := 61 } D tc sk [.ref Sa_0, .ref Ua_0] [(Sa_0, .inr (8, [.ref Aa_0, .ref Ba_0, .ref Na_0, .int Sv_0, .int Sv_1])), (Aa_0, .inr (9, [.int Av_0, .int Av_1, .int Av_2, .int Av_3, .int Av_4, .int Av_5, .ref Aa_1, .ref Aa_2, .ref Aa_3, .ref Aa_4, .ref Aa_5, .ref Aa_6, .ref Aa_7, .ref Aa_8])), (Aa_1, .inl (tc 0, 10, .inl Af_1)), (Aa_2, .inl (tc 0, 10, .inl Af_2)), (Aa_3, .inl (tc 0, 6, .inl Af_3)), (Aa_4, .inl (tc 0, 6, .inl Af_4)), (Aa_5, .inl (tc 0, 6, .inl Af_5)), (Aa_6, .inl (tc 0, 6, .inl Af_6)), (Aa_7, .inl (tc 0, 6, .inl Af_7)), (Aa_8, .inl (tc 0, 6, .inl Af_8)), (Ba_0, .inr (9, [.int Bv_0, .int Bv_1, .int Bv_2, .int Bv_3, .int Bv_4, .int Bv_5, .ref Ba_1, .ref Ba_2, .ref Ba_3, .ref Ba_4, .ref Ba_5, .ref Ba_6, .ref Ba_7, .ref Ba_8])), (Ba_1, .inl (tc 0, 10, .inl Bf_1)), (Ba_2, .inl (tc 0, 10, .inl Bf_2)), (Ba_3, .inl (tc 0, 6, .inl Bf_3)), (Ba_4, .inl (tc 0, 6, .inl Bf_4)), (Ba_5, .inl (tc 0, 6, .inl Bf_5)), (Ba_6, .inl (tc 0, 6, .inl Bf_6)), (Ba_7, .inl (tc 0, 6, .inl Bf_7)), (Ba_8, .inl (tc 0, 6, .inl Bf_8)), (Na_0, .inr (3, [.ref Na_1, .ref Na_2, .ref Na_3, .int Nv_0])), (Na_1, .inl (tc 0, 10, .inl Nf_1)), (Na_2, .inl (tc 0, 10, .inl Nf_2)), (Na_3, .inl (tc 0, 10, .inl Nf_3)), (Ua_0, .inr (8, [.ref Ea_0, .ref Fa_0, .ref Ma_0, .int Uv_0, .int Uv_1])), (Ea_0, .inr (9, [.int Ev_0, .int Ev_1, .int Ev_2, .int Ev_3, .int Ev_4, .int Ev_5, .ref Ea_1, .ref Ea_2, .ref Ea_3, .ref Ea_4, .ref Ea_5, .ref Ea_6, .ref Ea_7, .ref Ea_8])), (Ea_1, .inl (tc 0, 10, .inl Ef_1)), (Ea_2, .inl (tc 0, 10, .inl Ef_2)), (Ea_3, .inl (tc 0, 6, .inl Ef_3)), (Ea_4, .inl (tc 0, 6, .inl Ef_4)), (Ea_5, .inl (tc 0, 6, .inl Ef_5)), (Ea_6, .inl (tc 0, 6, .inl Ef_6)), (Ea_7, .inl (tc 0, 6, .inl Ef_7)), (Ea_8, .inl (tc 0, 6, .inl Ef_8)), (Fa_0, .inr (9, [.int Fv_0, .int Fv_1, .int Fv_2, .int Fv_3, .int Fv_4, .int Fv_5, .ref Fa_1, .ref Fa_2, .ref Fa_3, .ref Fa_4, .ref Fa_5, .ref Fa_6, .ref Fa_7, .ref Fa_8])), (Fa_1, .inl (tc 0, 10, .inl Ff_1)), (Fa_2, .inl (tc 0, 10, .inl Ff_2)), (Fa_3, .inl (tc 0, 6, .inl Ff_3)), (Fa_4, .inl (tc 0, 6, .inl Ff_4)), (Fa_5, .inl (tc 0, 6, .inl Ff_5)), (Fa_6, .inl (tc 0, 6, .inl Ff_6)), (Fa_7, .inl (tc 0, 6, .inl Ff_7)), (Fa_8, .inl (tc 0, 6, .inl Ff_8)), (Ma_0, .inr (3, [.ref Ma_1, .ref Ma_2, .ref Ma_3, .int Mv_0])), (Ma_1, .inl (tc 0, 10, .inl Mf_1)), (Ma_2, .inl (tc 0, 10, .inl Mf_2)), (Ma_3, .inl (tc 0, 10, .inl Mf_3))] (fun (v : Option Value) (u : (Nat → Int32) × (Nat → Int32) × (Nat → Int32) × (Nat → Int32) × (Nat → Int32) × (Nat → Int32) × (Nat → Int32) × (Nat → Int32) × (Nat → Int32) × (Nat → Int32) × (Nat → Int32) × (Nat → Int32) × (Nat → Int32) × (Nat → Int32) × (Nat → Int32) × (Nat → Int32) × (Nat → Int32) × (Nat → Int32) × (Nat → Int32)) => match u with | (o1, o2, o3, o4, o5, o6, o7, o8, o9, o10, o11, o12, o13, o14, o15, o16, o17, o18, o19) => v = none) (fun (u : (Nat → Int32) × (Nat → Int32) × (Nat → Int32) × (Nat → Int32) × (Nat → Int32) × (Nat → Int32) × (Nat → Int32) × (Nat → Int32) × (Nat → Int32) × (Nat → Int32) × (Nat → Int32) × (Nat → Int32) × (Nat → Int32) × (Nat → Int32) × (Nat → Int32) × (Nat → Int32) × (Nat → Int32) × (Nat → Int32) × (Nat → Int32)) => match u with | (o1, o2, o3, o4, o5, o6, o7, o8, o9, o10, o11, o12, o13, o14, o15, o16, o17, o18, o19) => [(Sa_0, .inr (8, [.ref Aa_0, .ref Ba_0, .ref Na_0, .int Uv_0, .int Uv_1])), (Aa_0, .inr (9, [.int Ev_0, .int Ev_1, .int Ev_2, .int Ev_3, .int Ev_4, .int Ev_5, .ref Aa_1, .ref Aa_2, .ref Aa_3, .ref Aa_4, .ref Aa_5, .ref Aa_6, .ref Aa_7, .ref Aa_8])), (Aa_1, .inl (tc 0, 10, .inl o1)), (Aa_2, .inl (tc 0, 10, .inl o2)), (Aa_3, .inl (tc 0, 6, .inl o3)), (Aa_4, .inl (tc 0, 6, .inl o4)), (Aa_5, .inl (tc 0, 6, .inl o5)), (Aa_6, .inl (tc 0, 6, .inl o6)), (Aa_7, .inl (tc 0, 6, .inl o7)), (Aa_8, .inl (tc 0, 6, .inl o8)), (Ba_0, .inr (9, [.int Fv_0, .int Fv_1, .int Fv_2, .int Fv_3, .int Fv_4, .int Fv_5, .ref Ba_1, .ref Ba_2, .ref Ba_3, .ref Ba_4, .ref Ba_5, .ref Ba_6, .ref Ba_7, .ref Ba_8])), (Ba_1, .inl (tc 0, 10, .inl o9)), (Ba_2, .inl (tc 0, 10, .inl o10)), (Ba_3, .inl (tc 0, 6, .inl o11)), (Ba_4, .inl (tc 0, 6, .inl o12)), (Ba_5, .inl (tc 0, 6, .inl o13)), (Ba_6, .inl (tc 0, 6, .inl o14)), (Ba_7, .inl (tc 0, 6, .inl o15)), (Ba_8, .inl (tc 0, 6, .inl o16)), (Na_0, .inr (3, [.ref Na_1, .ref Na_2, .ref Na_3, .int Mv_0])), (Na_1, .inl (tc 0, 10, .inl o17)), (Na_2, .inl (tc 0, 10, .inl o18)), (Na_3, .inl (tc 0, 10, .inl o19)), (Ua_0, .inr (8, [.ref Ea_0, .ref Fa_0, .ref Ma_0, .int Uv_0, .int Uv_1])), (Ea_0, .inr (9, [.int Ev_0, .int Ev_1, .int Ev_2, .int Ev_3, .int Ev_4, .int Ev_5, .ref Ea_1, .ref Ea_2, .ref Ea_3, .ref Ea_4, .ref Ea_5, .ref Ea_6, .ref Ea_7, .ref Ea_8])), (Ea_1, .inl (tc 0, 10, .inl Ef_1)), (Ea_2, .inl (tc 0, 10, .inl Ef_2)), (Ea_3, .inl (tc 0, 6, .inl Ef_3)), (Ea_4, .inl (tc 0, 6, .inl Ef_4)), (Ea_5, .inl (tc 0, 6, .inl Ef_5)), (Ea_6, .inl (tc 0, 6, .inl Ef_6)), (Ea_7, .inl (tc 0, 6, .inl Ef_7)), (Ea_8, .inl (tc 0, 6, .inl Ef_8)), (Fa_0, .inr (9, [.int Fv_0, .int Fv_1, .int Fv_2, .int Fv_3, .int Fv_4, .int Fv_5, .ref Fa_1, .ref Fa_2, .ref Fa_3, .ref Fa_4, .ref Fa_5, .ref Fa_6, .ref Fa_7, .ref Fa_8])), (Fa_1, .inl (tc 0, 10, .inl Ff_1)), (Fa_2, .inl (tc 0, 10, .inl Ff_2)), (Fa_3, .inl (tc 0, 6, .inl Ff_3)), (Fa_4, .inl (tc 0, 6, .inl Ff_4)), (Fa_5, .inl (tc 0, 6, .inl Ff_5)), (Fa_6, .inl (tc 0, 6, .inl Ff_6)), (Fa_7, .inl (tc 0, 6, .inl Ff_7)), (Fa_8, .inl (tc 0, 6, .inl Ff_8)), (Ma_0, .inr (3, [.ref Ma_1, .ref Ma_2, .ref Ma_3, .int Mv_0])), (Ma_1, .inl (tc 0, 10, .inl Mf_1)), (Ma_2, .inl (tc 0, 10, .inl Mf_2)), (Ma_3, .inl (tc 0, 10, .inl Mf_3))]) 0 0 :=
  ct_X8_copyFrom l D tc sk (fun k => ([Sa_0] : List (Nat)).getD k 0) (fun k => ([Sv_0, Sv_1] : List (Int32)).getD k 0) (fun k => ([Aa_0, Aa_1, Aa_2, Aa_3, Aa_4, Aa_5, Aa_6, Aa_7, Aa_8] : List (Nat)).getD k 0) (fun k => ([Av_0, Av_1, Av_2, Av_3, Av_4, Av_5] : List (Int32)).getD k 0) (fun k => ([(fun _ => 0), Af_1, Af_2, Af_3, Af_4, Af_5, Af_6, Af_7, Af_8] : List (Nat → Int32)).getD k (fun _ => 0)) (fun k => ([Ba_0, Ba_1, Ba_2, Ba_3, Ba_4, Ba_5, Ba_6, Ba_7, Ba_8] : List (Nat)).getD k 0) (fun k => ([Bv_0, Bv_1, Bv_2, Bv_3, Bv_4, Bv_5] : List (Int32)).getD k 0) (fun k => ([(fun _ => 0), Bf_1, Bf_2, Bf_3, Bf_4, Bf_5, Bf_6, Bf_7, Bf_8] : List (Nat → Int32)).getD k (fun _ => 0)) (fun k => ([Na_0, Na_1, Na_2, Na_3] : List (Nat)).getD k 0) (fun k => ([Nv_0] : List (Int32)).getD k 0) (fun k => ([(fun _ => 0), Nf_1, Nf_2, Nf_3] : List (Nat → Int32)).getD k (fun _ => 0)) (fun k => ([Ua_0] : List (Nat)).getD k 0) (fun k => ([Uv_0, Uv_1] : List (Int32)).getD k 0) (fun k => ([Ea_0, Ea_1, Ea_2, Ea_3, Ea_4, Ea_5, Ea_6, Ea_7, Ea_8] : List (Nat)).getD k 0) (fun k => ([Ev_0, Ev_1, Ev_2, Ev_3, Ev_4, Ev_5] : List (Int32)).getD k 0) (fun k => ([(fun _ => 0), Ef_1, Ef_2, Ef_3, Ef_4, Ef_5, Ef_6, Ef_7, Ef_8] : List (Nat → Int32)).getD k (fun _ => 0)) (fun k => ([Fa_0, Fa_1, Fa_2, Fa_3, Fa_4, Fa_5, Fa_6, Fa_7, Fa_8] : List (Nat)).getD k 0) (fun k => ([Fv_0, Fv_1, Fv_2, Fv_3, Fv_4, Fv_5] : List (Int32)).getD k 0) (fun k => ([(fun _ => 0), Ff_1, Ff_2, Ff_3, Ff_4, Ff_5, Ff_6, Ff_7, Ff_8] : List (Nat → Int32)).getD k (fun _ => 0)) (fun k => ([Ma_0, Ma_1, Ma_2, Ma_3] : List (Nat)).getD k 0) (fun k => ([Mv_0] : List (Int32)).getD k 0) (fun k => ([(fun _ => 0), Mf_1, Mf_2, Mf_3] : List (Nat → Int32)).getD k (fun _ => 0)) 
set_option maxHeartbeats 4000000 in
set_option maxRecDepth 100000 in
theorem ct_X2_whoOn (l : Launch) (D : va_G) (tc : Nat → ClassId) (sk : (Nat → Nat) × (Nat → Nat)) (Ya : Nat → Nat) (Yv : Nat → Int32) (Yf : Nat → Nat → Int32) (Aa : Nat → Nat) (Av : Nat → Int32) (Af : Nat → Nat → Int32) (x1 : Int32) (x2 : Int32)  : Ct l yX2_whoOn cX2_whoOn 4 (some .int) { frames := 0, cells := 0, slots := 0, locals := 0 } D tc sk [.ref (Ya 0), .int x1, .int x2] [((Ya 0), .inr (2, [.ref (Aa 0), .ref (Ya 2), .ref (Ya 3), .int (Yv 0)])), ((Ya 2), .inl (tc 0, 427, .inl (Yf 2))), ((Ya 3), .inl (tc 3, 7, .inl (Yf 3))), ((Aa 0), .inr (9, [.int (Av 0), .int (Av 1), .int (Av 2), .int (Av 3), .int (Av 4), .int (Av 5), .ref (Aa 1), .ref (Aa 2), .ref (Aa 3), .ref (Aa 4), .ref (Aa 5), .ref (Aa 6), .ref (Aa 7), .ref (Aa 8)])), ((Aa 1), .inl (tc 0, 10, .inl (Af 1))), ((Aa 2), .inl (tc 0, 10, .inl (Af 2))), ((Aa 3), .inl (tc 0, 6, .inl (Af 3))), ((Aa 4), .inl (tc 0, 6, .inl (Af 4))), ((Aa 5), .inl (tc 0, 6, .inl (Af 5))), ((Aa 6), .inl (tc 0, 6, .inl (Af 6))), ((Aa 7), .inl (tc 0, 6, .inl (Af 7))), ((Aa 8), .inl (tc 0, 6, .inl (Af 8)))] (fun (v : Option Value) (_ : Unit) => ∃ r : Int32, v = some (.int r) ∧ (True)) (fun (_ : Unit) => [((Ya 0), .inr (2, [.ref (Aa 0), .ref (Ya 2), .ref (Ya 3), .int (Yv 0)])), ((Ya 2), .inl (tc 0, 427, .inl (Yf 2))), ((Ya 3), .inl (tc 3, 7, .inl (Yf 3))), ((Aa 0), .inr (9, [.int (Av 0), .int (Av 1), .int (Av 2), .int (Av 3), .int (Av 4), .int (Av 5), .ref (Aa 1), .ref (Aa 2), .ref (Aa 3), .ref (Aa 4), .ref (Aa 5), .ref (Aa 6), .ref (Aa 7), .ref (Aa 8)])), ((Aa 1), .inl (tc 0, 10, .inl (Af 1))), ((Aa 2), .inl (tc 0, 10, .inl (Af 2))), ((Aa 3), .inl (tc 0, 6, .inl (Af 3))), ((Aa 4), .inl (tc 0, 6, .inl (Af 4))), ((Aa 5), .inl (tc 0, 6, .inl (Af 5))), ((Aa 6), .inl (tc 0, 6, .inl (Af 6))), ((Aa 7), .inl (tc 0, 6, .inl (Af 7))), ((Aa 8), .inl (tc 0, 6, .inl (Af 8)))]) 0 0 := by
  refine Ct.start (by decide) (Nat.le_of_ble_eq_true rfl) (fun p e s m below meth c A ls hx hb hr hlk hin hml hown hts hK hX hP hD hA hl hS => ?_)
  have hl : lv_has ls 4 [(0, .ref (Ya 0)), (1, .int x1), (2, .int x2)] := hl
  refine lv_iload_n hx hb dX2_whoOn_0 rfl (lv_at hl 1 rfl) ?_
  refine lv_bipush (v := 61) hx hb dX2_whoOn_1 (by decide) ?_
  refine lv_imul hx hb dX2_whoOn_3 ?_
  refine lv_topi (fun x_1 ex_1 => ?_)
  refine lv_iload_n hx hb dX2_whoOn_4 rfl (lv_at hl 2 rfl) ?_
  refine lv_iadd hx hb dX2_whoOn_5 ?_
  refine lv_topi (fun x_2 ex_2 => ?_)
  refine lv_istore_n (lv' := [(3, .int x_2), (0, .ref (Ya 0)), (1, .int x1), (2, .int x2)]) hx hb dX2_whoOn_6 rfl hl (by decide) rfl (fun ls hl₀ => ?_)
  replace hl := hl₀
  clear hl₀
  refine lv_iload_n hx hb dX2_whoOn_7 rfl (lv_at hl 0 rfl) ?_
  refine lv_if_lt (tgt := 29) hx hb dX2_whoOn_8 (by decide) (fun c_3 => ?_) (fun c_3 => ?_)
  · skip
    refine lv_iconst (v := 0) hx hb dX2_whoOn_29 (by decide) ?_
    exact retI (v := 0) hx hb hr hlk (rfl) hP hD hS () ⟨_, rfl, trivial⟩ [0, 1, 2, 3, 4, 5, 6, 7, 8, 9, 10, 11] rfl rfl dX2_whoOn_30 (Nat.le_of_ble_eq_true rfl) (Nat.le_of_ble_eq_true rfl) rfl
  · skip
    refine lv_iload_n hx hb dX2_whoOn_11 rfl (lv_at hl 0 rfl) ?_
    refine lv_aload_n hx hb dX2_whoOn_12 rfl (lv_at hl 1 rfl) ?_
    refine gf_X2_18 hx hb hts hown hK hP 0 rfl rfl dX2_whoOn_13 ?_
    refine va_alen hx hb hK hP 1 0 rfl rfl (v := 427) rfl dX2_whoOn_16 ?_
    refine lv_icmp_ge (tgt := 29) hx hb dX2_whoOn_17 (by decide) (fun c_4 => ?_) (fun c_4 => ?_)
    · skip
      refine lv_iconst (v := 0) hx hb dX2_whoOn_29 (by decide) ?_
      exact retI (v := 0) hx hb hr hlk (rfl) hP hD hS () ⟨_, rfl, trivial⟩ [0, 1, 2, 3, 4, 5, 6, 7, 8, 9, 10, 11] rfl rfl dX2_whoOn_30 (Nat.le_of_ble_eq_true rfl) (Nat.le_of_ble_eq_true rfl) rfl
    · skip
      refine lv_aload_n hx hb dX2_whoOn_20 rfl (lv_at hl 1 rfl) ?_
      refine gf_X2_18 hx hb hts hown hK hP 0 rfl rfl dX2_whoOn_21 ?_
      refine lv_iload_n hx hb dX2_whoOn_24 rfl (lv_at hl 0 rfl) ?_
      have hi_5 : vp_in x_2 427 := by
        have z_1 := Int32.le_iff_toInt_le.mp (Int32.not_lt.mp c_3)
        have z_2 := Int32.lt_iff_toInt_lt.mp (Int32.not_le.mp c_4)
        have y_0 : (0 : Int32).toInt = 0 := by decide
        have y_427 : (427 : Int32).toInt = 427 := by decide
        refine vp_in_iff.mpr ⟨?_, ?_⟩ <;> omega
      refine va_iald hx hb hK hP 1 0 rfl rfl hi_5 dX2_whoOn_25 ?_
      refine lv_topi (fun x_6 ex_6 => ?_)
      refine lv_goto (tgt := 30) hx hb dX2_whoOn_26 (by decide) ?_
      exact retI (v := x_6) hx hb hr hlk (rfl) hP hD hS () ⟨_, rfl, trivial⟩ [0, 1, 2, 3, 4, 5, 6, 7, 8, 9, 10, 11] rfl rfl dX2_whoOn_30 (Nat.le_of_ble_eq_true rfl) (Nat.le_of_ble_eq_true rfl) rfl
set_option maxRecDepth 100000 in
theorem cu_X2_whoOn (l : Launch) (D : va_G) (tc : Nat → ClassId) (sk : (Nat → Nat) × (Nat → Nat)) (Ya_0 : Nat) (Ya_2 : Nat) (Ya_3 : Nat) (Yv_0 : Int32) (Yf_2 : Nat → Int32) (Yf_3 : Nat → Int32) (Aa_0 : Nat) (Aa_1 : Nat) (Aa_2 : Nat) (Aa_3 : Nat) (Aa_4 : Nat) (Aa_5 : Nat) (Aa_6 : Nat) (Aa_7 : Nat) (Aa_8 : Nat) (Av_0 : Int32) (Av_1 : Int32) (Av_2 : Int32) (Av_3 : Int32) (Av_4 : Int32) (Av_5 : Int32) (Af_1 : Nat → Int32) (Af_2 : Nat → Int32) (Af_3 : Nat → Int32) (Af_4 : Nat → Int32) (Af_5 : Nat → Int32) (Af_6 : Nat → Int32) (Af_7 : Nat → Int32) (Af_8 : Nat → Int32) (x1 : Int32) (x2 : Int32)  : Ct l yX2_whoOn cX2_whoOn 4 (some .int) { frames := 0, cells := 0, slots := 0, locals := 0 } D tc sk [.ref Ya_0, .int x1, .int x2] [(Ya_0, .inr (2, [.ref Aa_0, .ref Ya_2, .ref Ya_3, .int Yv_0])), (Ya_2, .inl (tc 0, 427, .inl Yf_2)), (Ya_3, .inl (tc 3, 7, .inl Yf_3)), (Aa_0, .inr (9, [.int Av_0, .int Av_1, .int Av_2, .int Av_3, .int Av_4, .int Av_5, .ref Aa_1, .ref Aa_2, .ref Aa_3, .ref Aa_4, .ref Aa_5, .ref Aa_6, .ref Aa_7, .ref Aa_8])), (Aa_1, .inl (tc 0, 10, .inl Af_1)), (Aa_2, .inl (tc 0, 10, .inl Af_2)), (Aa_3, .inl (tc 0, 6, .inl Af_3)), (Aa_4, .inl (tc 0, 6, .inl Af_4)), (Aa_5, .inl (tc 0, 6, .inl Af_5)), (Aa_6, .inl (tc 0, 6, .inl Af_6)), (Aa_7, .inl (tc 0, 6, .inl Af_7)), (Aa_8, .inl (tc 0, 6, .inl Af_8))] (fun (v : Option Value) (_ : Unit) => ∃ r : Int32, v = some (.int r) ∧ (True)) (fun (_ : Unit) => [(Ya_0, .inr (2, [.ref Aa_0, .ref Ya_2, .ref Ya_3, .int Yv_0])), (Ya_2, .inl (tc 0, 427, .inl Yf_2)), (Ya_3, .inl (tc 3, 7, .inl Yf_3)), (Aa_0, .inr (9, [.int Av_0, .int Av_1, .int Av_2, .int Av_3, .int Av_4, .int Av_5, .ref Aa_1, .ref Aa_2, .ref Aa_3, .ref Aa_4, .ref Aa_5, .ref Aa_6, .ref Aa_7, .ref Aa_8])), (Aa_1, .inl (tc 0, 10, .inl Af_1)), (Aa_2, .inl (tc 0, 10, .inl Af_2)), (Aa_3, .inl (tc 0, 6, .inl Af_3)), (Aa_4, .inl (tc 0, 6, .inl Af_4)), (Aa_5, .inl (tc 0, 6, .inl Af_5)), (Aa_6, .inl (tc 0, 6, .inl Af_6)), (Aa_7, .inl (tc 0, 6, .inl Af_7)), (Aa_8, .inl (tc 0, 6, .inl Af_8))]) 0 0 :=
  ct_X2_whoOn l D tc sk (fun k => ([Ya_0, 0, Ya_2, Ya_3] : List (Nat)).getD k 0) (fun k => ([Yv_0] : List (Int32)).getD k 0) (fun k => ([(fun _ => 0), (fun _ => 0), Yf_2, Yf_3] : List (Nat → Int32)).getD k (fun _ => 0)) (fun k => ([Aa_0, Aa_1, Aa_2, Aa_3, Aa_4, Aa_5, Aa_6, Aa_7, Aa_8] : List (Nat)).getD k 0) (fun k => ([Av_0, Av_1, Av_2, Av_3, Av_4, Av_5] : List (Int32)).getD k 0) (fun k => ([(fun _ => 0), Af_1, Af_2, Af_3, Af_4, Af_5, Af_6, Af_7, Af_8] : List (Nat → Int32)).getD k (fun _ => 0)) x1 x2 
set_option maxHeartbeats 4000000 in
set_option maxRecDepth 100000 in
theorem ct_X2_agrees (l : Launch) (D : va_G) (tc : Nat → ClassId) (sk : (Nat → Nat) × (Nat → Nat)) (Ya : Nat → Nat) (Yv : Nat → Int32) (Yf : Nat → Nat → Int32) (Aa : Nat → Nat) (Av : Nat → Int32) (Af : Nat → Nat → Int32) (Na : Nat → Nat) (Nv : Nat → Int32) (Nf : Nat → Nat → Int32) (x1 : Int32)  : Ct l yX2_agrees cX2_agrees 4 (some .boolean) { frames := 1, cells := 0, slots := 0, locals := 23 } D tc sk [.ref (Ya 0), .int x1, .ref (Na 0)] [((Ya 0), .inr (2, [.ref (Aa 0), .ref (Ya 2), .ref (Ya 3), .int (Yv 0)])), ((Ya 2), .inl (tc 0, 427, .inl (Yf 2))), ((Ya 3), .inl (tc 3, 7, .inl (Yf 3))), ((Aa 0), .inr (9, [.int (Av 0), .int (Av 1), .int (Av 2), .int (Av 3), .int (Av 4), .int (Av 5), .ref (Aa 1), .ref (Aa 2), .ref (Aa 3), .ref (Aa 4), .ref (Aa 5), .ref (Aa 6), .ref (Aa 7), .ref (Aa 8)])), ((Aa 1), .inl (tc 0, 10, .inl (Af 1))), ((Aa 2), .inl (tc 0, 10, .inl (Af 2))), ((Aa 3), .inl (tc 0, 6, .inl (Af 3))), ((Aa 4), .inl (tc 0, 6, .inl (Af 4))), ((Aa 5), .inl (tc 0, 6, .inl (Af 5))), ((Aa 6), .inl (tc 0, 6, .inl (Af 6))), ((Aa 7), .inl (tc 0, 6, .inl (Af 7))), ((Aa 8), .inl (tc 0, 6, .inl (Af 8))), ((Na 0), .inr (3, [.ref (Na 1), .ref (Na 2), .ref (Na 3), .int (Nv 0)])), ((Na 1), .inl (tc 0, 10, .inl (Nf 1))), ((Na 2), .inl (tc 0, 10, .inl (Nf 2))), ((Na 3), .inl (tc 0, 10, .inl (Nf 3)))] (fun (v : Option Value) (_ : Unit) => ∃ r : Int32, v = some (.int r) ∧ ((r.toInt = 0 ∨ r.toInt = 1))) (fun (_ : Unit) => [((Ya 0), .inr (2, [.ref (Aa 0), .ref (Ya 2), .ref (Ya 3), .int (Yv 0)])), ((Ya 2), .inl (tc 0, 427, .inl (Yf 2))), ((Ya 3), .inl (tc 3, 7, .inl (Yf 3))), ((Aa 0), .inr (9, [.int (Av 0), .int (Av 1), .int (Av 2), .int (Av 3), .int (Av 4), .int (Av 5), .ref (Aa 1), .ref (Aa 2), .ref (Aa 3), .ref (Aa 4), .ref (Aa 5), .ref (Aa 6), .ref (Aa 7), .ref (Aa 8)])), ((Aa 1), .inl (tc 0, 10, .inl (Af 1))), ((Aa 2), .inl (tc 0, 10, .inl (Af 2))), ((Aa 3), .inl (tc 0, 6, .inl (Af 3))), ((Aa 4), .inl (tc 0, 6, .inl (Af 4))), ((Aa 5), .inl (tc 0, 6, .inl (Af 5))), ((Aa 6), .inl (tc 0, 6, .inl (Af 6))), ((Aa 7), .inl (tc 0, 6, .inl (Af 7))), ((Aa 8), .inl (tc 0, 6, .inl (Af 8))), ((Na 0), .inr (3, [.ref (Na 1), .ref (Na 2), .ref (Na 3), .int (Nv 0)])), ((Na 1), .inl (tc 0, 10, .inl (Nf 1))), ((Na 2), .inl (tc 0, 10, .inl (Nf 2))), ((Na 3), .inl (tc 0, 10, .inl (Nf 3)))]) 0 0 := by
  refine Ct.start (by decide) (Nat.le_of_ble_eq_true rfl) (fun p e s m below meth c A ls hx hb hr hlk hin hml hown hts hK hX hP hD hA hl hS => ?_)
  have hl : lv_has ls 4 [(0, .ref (Ya 0)), (1, .int x1), (2, .ref (Na 0))] := hl
  refine lv_iconst (v := 0) hx hb dX2_agrees_0 (by decide) ?_
  refine lv_istore_n (lv' := [(3, .int 0), (0, .ref (Ya 0)), (1, .int x1), (2, .ref (Na 0))]) hx hb dX2_agrees_1 rfl hl (by decide) rfl (fun ls hl₀ => ?_)
  replace hl := hl₀
  clear hl₀
  have loop_5 : ∀ (n_3 : Nat) (vy_2 : Int32) (H : Heap) (locs : List Loc) (ls : Array Slot), 0 ≤ (vy_2 : Int32).toInt → (10 - (vy_2 : Int32).toInt).toNat < n_3 → va_P D classes [((Ya 0), .inr (2, [.ref (Aa 0), .ref (Ya 2), .ref (Ya 3), .int (Yv 0)])), ((Ya 2), .inl (tc 0, 427, .inl (Yf 2))), ((Ya 3), .inl (tc 3, 7, .inl (Yf 3))), ((Aa 0), .inr (9, [.int (Av 0), .int (Av 1), .int (Av 2), .int (Av 3), .int (Av 4), .int (Av 5), .ref (Aa 1), .ref (Aa 2), .ref (Aa 3), .ref (Aa 4), .ref (Aa 5), .ref (Aa 6), .ref (Aa 7), .ref (Aa 8)])), ((Aa 1), .inl (tc 0, 10, .inl (Af 1))), ((Aa 2), .inl (tc 0, 10, .inl (Af 2))), ((Aa 3), .inl (tc 0, 6, .inl (Af 3))), ((Aa 4), .inl (tc 0, 6, .inl (Af 4))), ((Aa 5), .inl (tc 0, 6, .inl (Af 5))), ((Aa 6), .inl (tc 0, 6, .inl (Af 6))), ((Aa 7), .inl (tc 0, 6, .inl (Af 7))), ((Aa 8), .inl (tc 0, 6, .inl (Af 8))), ((Na 0), .inr (3, [.ref (Na 1), .ref (Na 2), .ref (Na 3), .int (Nv 0)])), ((Na 1), .inl (tc 0, 10, .inl (Nf 1))), ((Na 2), .inl (tc 0, 10, .inl (Nf 2))), ((Na 3), .inl (tc 0, 10, .inl (Nf 3)))] H → va_D A [((Ya 0), .inr (2, [.ref (Aa 0), .ref (Ya 2), .ref (Ya 3), .int (Yv 0)])), ((Ya 2), .inl (tc 0, 427, .inl (Yf 2))), ((Ya 3), .inl (tc 3, 7, .inl (Yf 3))), ((Aa 0), .inr (9, [.int (Av 0), .int (Av 1), .int (Av 2), .int (Av 3), .int (Av 4), .int (Av 5), .ref (Aa 1), .ref (Aa 2), .ref (Aa 3), .ref (Aa 4), .ref (Aa 5), .ref (Aa 6), .ref (Aa 7), .ref (Aa 8)])), ((Aa 1), .inl (tc 0, 10, .inl (Af 1))), ((Aa 2), .inl (tc 0, 10, .inl (Af 2))), ((Aa 3), .inl (tc 0, 6, .inl (Af 3))), ((Aa 4), .inl (tc 0, 6, .inl (Af 4))), ((Aa 5), .inl (tc 0, 6, .inl (Af 5))), ((Aa 6), .inl (tc 0, 6, .inl (Af 6))), ((Aa 7), .inl (tc 0, 6, .inl (Af 7))), ((Aa 8), .inl (tc 0, 6, .inl (Af 8))), ((Na 0), .inr (3, [.ref (Na 1), .ref (Na 2), .ref (Na 3), .int (Nv 0)])), ((Na 1), .inl (tc 0, 10, .inl (Nf 1))), ((Na 2), .inl (tc 0, 10, .inl (Nf 2))), ((Na 3), .inl (tc 0, 10, .inl (Nf 3)))] → va_S A s.heap H locs → lv_has ls 4 [(3, .int vy_2), (0, .ref (Ya 0)), (1, .int x1), (2, .ref (Na 0))] → W p l e ({ frames := 1, cells := 0, slots := 0, locals := 23 }) s m ([.ref (Ya 0), .int x1, .ref (Na 0)].toArray) below meth c H locs 0 0 (MQ below (QW (fun (v : Option Value) (_ : Unit) => ∃ r : Int32, v = some (.int r) ∧ ((r.toInt = 0 ∨ r.toInt = 1))) (BW D (fun (_ : Unit) => [((Ya 0), .inr (2, [.ref (Aa 0), .ref (Ya 2), .ref (Ya 3), .int (Yv 0)])), ((Ya 2), .inl (tc 0, 427, .inl (Yf 2))), ((Ya 3), .inl (tc 3, 7, .inl (Yf 3))), ((Aa 0), .inr (9, [.int (Av 0), .int (Av 1), .int (Av 2), .int (Av 3), .int (Av 4), .int (Av 5), .ref (Aa 1), .ref (Aa 2), .ref (Aa 3), .ref (Aa 4), .ref (Aa 5), .ref (Aa 6), .ref (Aa 7), .ref (Aa 8)])), ((Aa 1), .inl (tc 0, 10, .inl (Af 1))), ((Aa 2), .inl (tc 0, 10, .inl (Af 2))), ((Aa 3), .inl (tc 0, 6, .inl (Af 3))), ((Aa 4), .inl (tc 0, 6, .inl (Af 4))), ((Aa 5), .inl (tc 0, 6, .inl (Af 5))), ((Aa 6), .inl (tc 0, 6, .inl (Af 6))), ((Aa 7), .inl (tc 0, 6, .inl (Af 7))), ((Aa 8), .inl (tc 0, 6, .inl (Af 8))), ((Na 0), .inr (3, [.ref (Na 1), .ref (Na 2), .ref (Na 3), .int (Nv 0)])), ((Na 1), .inl (tc 0, 10, .inl (Nf 1))), ((Na 2), .inl (tc 0, 10, .inl (Nf 2))), ((Na 3), .inl (tc 0, 10, .inl (Nf 3)))]) A) A) ([.ref (Ya 0), .int x1, .ref (Na 0)].toArray) s 0 0 A) (F0 m 2 ls []) := by
    clear hP hD hS hl
    intro n_3
    induction n_3 with
    | zero =>
      intro vy_2 H locs ls h1 h2
      exact absurd h2 (Nat.not_lt_zero _)
    | succ n_3 ih_4 =>
      intro vy_2 H locs ls hi_7 hn_8 hP hD hS hl
      refine lv_iload_n hx hb dX2_agrees_2 rfl (lv_at hl 0 rfl) ?_
      refine lv_aload_n hx hb dX2_agrees_3 rfl (lv_at hl 3 rfl) ?_
      refine gf_X2_51 hx hb hts hown hK hP 12 rfl rfl dX2_agrees_4 ?_
      refine lv_icmp_ge (tgt := 53) hx hb dX2_agrees_7 (by decide) (fun c_9 => ?_) (fun c_9 => ?_)
      · skip
        refine lv_iconst (v := 1) hx hb dX2_agrees_53 (by decide) ?_
        have hp_10 : ((1 : Int32).toInt = 0 ∨ (1 : Int32).toInt = 1) := by
          have z_1 := Int32.le_iff_toInt_le.mp c_9
          have y_1 : (1 : Int32).toInt = 1 := by decide
          have yr : (1 : Int32).toInt = 1 := by decide
          omega
        exact retI (v := 1) hx hb hr hlk (rfl) hP hD hS () ⟨_, rfl, hp_10⟩ [0, 1, 2, 3, 4, 5, 6, 7, 8, 9, 10, 11, 12, 13, 14, 15] rfl rfl dX2_agrees_54 (Nat.le_of_ble_eq_true rfl) (Nat.le_of_ble_eq_true rfl) rfl
      · skip
        refine lv_iload_n hx hb dX2_agrees_10 rfl (lv_at hl 0 rfl) ?_
        refine lv_bipush (v := 10) hx hb dX2_agrees_11 (by decide) ?_
        refine lv_icmp_ge (tgt := 53) hx hb dX2_agrees_13 (by decide) (fun c_11 => ?_) (fun c_11 => ?_)
        · skip
          refine lv_iconst (v := 1) hx hb dX2_agrees_53 (by decide) ?_
          have hp_12 : ((1 : Int32).toInt = 0 ∨ (1 : Int32).toInt = 1) := by
            have z_1 := Int32.lt_iff_toInt_lt.mp (Int32.not_le.mp c_9)
            have z_2 := Int32.le_iff_toInt_le.mp c_11
            have y_10 : (10 : Int32).toInt = 10 := by decide
            have y_1 : (1 : Int32).toInt = 1 := by decide
            have yr : (1 : Int32).toInt = 1 := by decide
            omega
          exact retI (v := 1) hx hb hr hlk (rfl) hP hD hS () ⟨_, rfl, hp_12⟩ [0, 1, 2, 3, 4, 5, 6, 7, 8, 9, 10, 11, 12, 13, 14, 15] rfl rfl dX2_agrees_54 (Nat.le_of_ble_eq_true rfl) (Nat.le_of_ble_eq_true rfl) rfl
        · skip
          refine lv_aload_n hx hb dX2_agrees_16 rfl (lv_at hl 1 rfl) ?_
          refine lv_iload_n hx hb dX2_agrees_17 rfl (lv_at hl 2 rfl) ?_
          refine lv_aload_n hx hb dX2_agrees_18 rfl (lv_at hl 3 rfl) ?_
          refine gf_X2_56 hx hb hts hown hK hP 12 rfl rfl dX2_agrees_19 ?_
          refine lv_iload_n hx hb dX2_agrees_22 rfl (lv_at hl 0 rfl) ?_
          have hi_13 : vp_in vy_2 10 := by
            have z_1 := Int32.lt_iff_toInt_lt.mp (Int32.not_le.mp c_9)
            have z_2 := Int32.lt_iff_toInt_lt.mp (Int32.not_le.mp c_11)
            have y_10 : (10 : Int32).toInt = 10 := by decide
            refine vp_in_iff.mpr ⟨?_, ?_⟩ <;> omega
          refine va_iald hx hb hK hP 13 0 rfl rfl hi_13 dX2_agrees_23 ?_
          refine lv_topi (fun x_14 ex_14 => ?_)
          refine cV (a := (Ya 0)) (As := [.int x1, .int x_14]) (rest := []) (wr := [((Na 0), .inr (3, [.ref (Na 1), .ref (Na 2), .ref (Na 3), .int (Nv 0)])), ((Na 1), .inl (tc 0, 10, .inl (Nf 1))), ((Na 2), .inl (tc 0, 10, .inl (Nf 2))), ((Na 3), .inl (tc 0, 10, .inl (Nf 3)))]) ⟨hx, hb, hml, hown, hts⟩ hK hX hA (cu_X2_whoOn l D tc sk (Ya 0) (Ya 2) (Ya 3) (Yv 0) (Yf 2) (Yf 3) (Aa 0) (Aa 1) (Aa 2) (Aa 3) (Aa 4) (Aa 5) (Aa 6) (Aa 7) (Aa 8) (Av 0) (Av 1) (Av 2) (Av 3) (Av 4) (Av 5) (Af 1) (Af 2) (Af 3) (Af 4) (Af 5) (Af 6) (Af 7) (Af 8) x1 x_14) k_991 k_988 k_990 k_20 k_105 pl_X2_whoOn ⟨Nat.le_of_ble_eq_true rfl, Nat.le_of_ble_eq_true rfl⟩ rfl rfl (va_recv hK hP (ci := 2) (q0 := 0) rfl rfl) hP hD hS [0, 1, 2, 3, 4, 5, 6, 7, 8, 9, 10, 11] [12, 13, 14, 15] rfl rfl rfl rfl rfl (by decide) rfl hl.1 rfl (Nat.le_of_ble_eq_true rfl) dX2_agrees_24 ⟨Nat.le_of_ble_eq_true rfl, Nat.le_of_ble_eq_true rfl⟩ (fun v_15 u_16 H locs hv_17 hP₀ hD₀ hS₀ => ?_)
          obtain ⟨r_18, rfl, he_19⟩ := hv_17
          have he_19 : (True) := he_19
          refine W.eq (g2 := F0 m 27 ls [.int r_18]) rfl ?_
          replace hP : va_P D classes [((Na 0), .inr (3, [.ref (Na 1), .ref (Na 2), .ref (Na 3), .int (Nv 0)])), ((Na 1), .inl (tc 0, 10, .inl (Nf 1))), ((Na 2), .inl (tc 0, 10, .inl (Nf 2))), ((Na 3), .inl (tc 0, 10, .inl (Nf 3))), ((Ya 0), .inr (2, [.ref (Aa 0), .ref (Ya 2), .ref (Ya 3), .int (Yv 0)])), ((Ya 2), .inl (tc 0, 427, .inl (Yf 2))), ((Ya 3), .inl (tc 3, 7, .inl (Yf 3))), ((Aa 0), .inr (9, [.int (Av 0), .int (Av 1), .int (Av 2), .int (Av 3), .int (Av 4), .int (Av 5), .ref (Aa 1), .ref (Aa 2), .ref (Aa 3), .ref (Aa 4), .ref (Aa 5), .ref (Aa 6), .ref (Aa 7), .ref (Aa 8)])), ((Aa 1), .inl (tc 0, 10, .inl (Af 1))), ((Aa 2), .inl (tc 0, 10, .inl (Af 2))), ((Aa 3), .inl (tc 0, 6, .inl (Af 3))), ((Aa 4), .inl (tc 0, 6, .inl (Af 4))), ((Aa 5), .inl (tc 0, 6, .inl (Af 5))), ((Aa 6), .inl (tc 0, 6, .inl (Af 6))), ((Aa 7), .inl (tc 0, 6, .inl (Af 7))), ((Aa 8), .inl (tc 0, 6, .inl (Af 8)))] H := hP₀
          replace hD : va_D A [((Na 0), .inr (3, [.ref (Na 1), .ref (Na 2), .ref (Na 3), .int (Nv 0)])), ((Na 1), .inl (tc 0, 10, .inl (Nf 1))), ((Na 2), .inl (tc 0, 10, .inl (Nf 2))), ((Na 3), .inl (tc 0, 10, .inl (Nf 3))), ((Ya 0), .inr (2, [.ref (Aa 0), .ref (Ya 2), .ref (Ya 3), .int (Yv 0)])), ((Ya 2), .inl (tc 0, 427, .inl (Yf 2))), ((Ya 3), .inl (tc 3, 7, .inl (Yf 3))), ((Aa 0), .inr (9, [.int (Av 0), .int (Av 1), .int (Av 2), .int (Av 3), .int (Av 4), .int (Av 5), .ref (Aa 1), .ref (Aa 2), .ref (Aa 3), .ref (Aa 4), .ref (Aa 5), .ref (Aa 6), .ref (Aa 7), .ref (Aa 8)])), ((Aa 1), .inl (tc 0, 10, .inl (Af 1))), ((Aa 2), .inl (tc 0, 10, .inl (Af 2))), ((Aa 3), .inl (tc 0, 6, .inl (Af 3))), ((Aa 4), .inl (tc 0, 6, .inl (Af 4))), ((Aa 5), .inl (tc 0, 6, .inl (Af 5))), ((Aa 6), .inl (tc 0, 6, .inl (Af 6))), ((Aa 7), .inl (tc 0, 6, .inl (Af 7))), ((Aa 8), .inl (tc 0, 6, .inl (Af 8)))] := hD₀
          replace hS := hS₀
          clear hP₀ hD₀ hS₀
          refine lv_aload_n hx hb dX2_agrees_27 rfl (lv_at hl 3 rfl) ?_
          refine gf_X2_63 hx hb hts hown hK hP 0 rfl rfl dX2_agrees_28 ?_
          refine lv_iload_n hx hb dX2_agrees_31 rfl (lv_at hl 0 rfl) ?_
          have hi_20 : vp_in vy_2 10 := by
            have z_1 := Int32.lt_iff_toInt_lt.mp (Int32.not_le.mp c_9)
            have z_2 := Int32.lt_iff_toInt_lt.mp (Int32.not_le.mp c_11)
            have y_10 : (10 : Int32).toInt = 10 := by decide
            refine vp_in_iff.mpr ⟨?_, ?_⟩ <;> omega
          refine va_iald hx hb hK hP 2 0 rfl rfl hi_20 dX2_agrees_32 ?_
          refine lv_topi (fun x_21 ex_21 => ?_)
          refine lv_ishr hx hb dX2_agrees_33 ?_
          refine lv_topi (fun x_22 ex_22 => ?_)
          refine lv_iconst (v := 1) hx hb dX2_agrees_34 (by decide) ?_
          refine lv_iand hx hb dX2_agrees_35 ?_
          refine lv_topi (fun x_23 ex_23 => ?_)
          refine lv_aload_n hx hb dX2_agrees_36 rfl (lv_at hl 3 rfl) ?_
          refine gf_X2_66 hx hb hts hown hK hP 0 rfl rfl dX2_agrees_37 ?_
          refine lv_iload_n hx hb dX2_agrees_40 rfl (lv_at hl 0 rfl) ?_
          have hi_24 : vp_in vy_2 10 := by
            have z_1 := Int32.lt_iff_toInt_lt.mp (Int32.not_le.mp c_9)
            have z_2 := Int32.lt_iff_toInt_lt.mp (Int32.not_le.mp c_11)
            have y_10 : (10 : Int32).toInt = 10 := by decide
            refine vp_in_iff.mpr ⟨?_, ?_⟩ <;> omega
          refine va_iald hx hb hK hP 3 0 rfl rfl hi_24 dX2_agrees_41 ?_
          refine lv_topi (fun x_25 ex_25 => ?_)
          refine lv_icmp_eq (tgt := 47) hx hb dX2_agrees_42 (by decide) (fun c_26 => ?_) (fun c_26 => ?_)
          · skip
            obtain ⟨x_27, ex_27⟩ : ∃ y : Int32, y = vy_2 + 1 := ⟨_, rfl⟩
            refine lv_iinc (v := x_27) (lv' := [(3, .int x_27), (0, .ref (Ya 0)), (1, .int x1), (2, .ref (Na 0))]) hx hb dX2_agrees_47 hl (k := 0) rfl (by rw [ex_27]; rfl) (by decide) rfl (fun ls hl₀ => ?_)
            replace hl := hl₀
            clear hl₀
            refine lv_goto (tgt := 2) hx hb dX2_agrees_50 (by decide) ?_
            have hb_28 : 0 ≤ (x_27 : Int32).toInt ∧ (10 - (x_27 : Int32).toInt).toNat < n_3 := by
              have z_1 := Int32.lt_iff_toInt_lt.mp (Int32.not_le.mp c_9)
              have z_2 := Int32.lt_iff_toInt_lt.mp (Int32.not_le.mp c_11)
              have z_3 := congrArg Int32.toInt c_26
              have y_10 : (10 : Int32).toInt = 10 := by decide
              have y_1 : (1 : Int32).toInt = 1 := by decide
              have t_x_27 : x_27.toInt = (vy_2 : Int32).toInt + (1 : Int32).toInt := by rw [ex_27]; exact add_toInt (by omega) (by omega)
              omega
            exact ih_4 x_27 _ _ _ hb_28.1 hb_28.2 (hP.sub [4, 5, 6, 7, 8, 9, 10, 11, 12, 13, 14, 15, 0, 1, 2, 3] rfl) (hD.sub [4, 5, 6, 7, 8, 9, 10, 11, 12, 13, 14, 15, 0, 1, 2, 3] rfl rfl) hS (lv_sub hl [0, 1, 2, 3] rfl)
          · skip
            refine lv_iconst (v := 0) hx hb dX2_agrees_45 (by decide) ?_
            have hp_29 : ((0 : Int32).toInt = 0 ∨ (0 : Int32).toInt = 1) := by
              have z_1 := Int32.lt_iff_toInt_lt.mp (Int32.not_le.mp c_9)
              have z_2 := Int32.lt_iff_toInt_lt.mp (Int32.not_le.mp c_11)
              have z_3 : ¬ (x_23 : Int32).toInt = (x_25 : Int32).toInt := fun z => c_26 (Int32.toInt_inj.mp z)
              have y_10 : (10 : Int32).toInt = 10 := by decide
              have y_0 : (0 : Int32).toInt = 0 := by decide
              have yr : (0 : Int32).toInt = 0 := by decide
              omega
            exact retI (v := 0) hx hb hr hlk (rfl) hP hD hS () ⟨_, rfl, hp_29⟩ [4, 5, 6, 7, 8, 9, 10, 11, 12, 13, 14, 15, 0, 1, 2, 3] rfl rfl dX2_agrees_46 (Nat.le_of_ble_eq_true rfl) (Nat.le_of_ble_eq_true rfl) rfl
  have h0_30 : 0 ≤ (0 : Int32).toInt := by
    have y_0 : (0 : Int32).toInt = 0 := by decide
    decide
  exact loop_5 _ 0 _ _ _ h0_30 (Nat.lt_succ_self _) hP hD hS hl
set_option maxRecDepth 100000 in
theorem cu_X2_agrees (l : Launch) (D : va_G) (tc : Nat → ClassId) (sk : (Nat → Nat) × (Nat → Nat)) (Ya_0 : Nat) (Ya_2 : Nat) (Ya_3 : Nat) (Yv_0 : Int32) (Yf_2 : Nat → Int32) (Yf_3 : Nat → Int32) (Aa_0 : Nat) (Aa_1 : Nat) (Aa_2 : Nat) (Aa_3 : Nat) (Aa_4 : Nat) (Aa_5 : Nat) (Aa_6 : Nat) (Aa_7 : Nat) (Aa_8 : Nat) (Av_0 : Int32) (Av_1 : Int32) (Av_2 : Int32) (Av_3 : Int32) (Av_4 : Int32) (Av_5 : Int32) (Af_1 : Nat → Int32) (Af_2 : Nat → Int32) (Af_3 : Nat → Int32) (Af_4 : Nat → Int32) (Af_5 : Nat → Int32) (Af_6 : Nat → Int32) (Af_7 : Nat → Int32) (Af_8 : Nat → Int32) (Na_0 : Nat) (Na_1 : Nat) (Na_2 : Nat) (Na_3 : Nat) (Nv_0 : Int32) (Nf_1 : Nat → Int32) (Nf_2 : Nat → Int32) (Nf_3 : Nat → Int32) (x1 : Int32)  : Ct l yX2_agrees cX2_agrees 4 (some .boolean) { frames := 1, cells := 0, slots := 0, locals := 23 } D tc sk [.ref Ya_0, .int x1, .ref Na_0] [(Ya_0, .inr (2, [.ref Aa_0, .ref Ya_2, .ref Ya_3, .int Yv_0])), (Ya_2, .inl (tc 0, 427, .inl Yf_2)), (Ya_3, .inl (tc 3, 7, .inl Yf_3)), (Aa_0, .inr (9, [.int Av_0, .int Av_1, .int Av_2, .int Av_3, .int Av_4, .int Av_5, .ref Aa_1, .ref Aa_2, .ref Aa_3, .ref Aa_4, .ref Aa_5, .ref Aa_6, .ref Aa_7, .ref Aa_8])), (Aa_1, .inl (tc 0, 10, .inl Af_1)), (Aa_2, .inl (tc 0, 10, .inl Af_2)), (Aa_3, .inl (tc 0, 6, .inl Af_3)), (Aa_4, .inl (tc 0, 6, .inl Af_4)), (Aa_5, .inl (tc 0, 6, .inl Af_5)), (Aa_6, .inl (tc 0, 6, .inl Af_6)), (Aa_7, .inl (tc 0, 6, .inl Af_7)), (Aa_8, .inl (tc 0, 6, .inl Af_8)), (Na_0, .inr (3, [.ref Na_1, .ref Na_2, .ref Na_3, .int Nv_0])), (Na_1, .inl (tc 0, 10, .inl Nf_1)), (Na_2, .inl (tc 0, 10, .inl Nf_2)), (Na_3, .inl (tc 0, 10, .inl Nf_3))] (fun (v : Option Value) (_ : Unit) => ∃ r : Int32, v = some (.int r) ∧ ((r.toInt = 0 ∨ r.toInt = 1))) (fun (_ : Unit) => [(Ya_0, .inr (2, [.ref Aa_0, .ref Ya_2, .ref Ya_3, .int Yv_0])), (Ya_2, .inl (tc 0, 427, .inl Yf_2)), (Ya_3, .inl (tc 3, 7, .inl Yf_3)), (Aa_0, .inr (9, [.int Av_0, .int Av_1, .int Av_2, .int Av_3, .int Av_4, .int Av_5, .ref Aa_1, .ref Aa_2, .ref Aa_3, .ref Aa_4, .ref Aa_5, .ref Aa_6, .ref Aa_7, .ref Aa_8])), (Aa_1, .inl (tc 0, 10, .inl Af_1)), (Aa_2, .inl (tc 0, 10, .inl Af_2)), (Aa_3, .inl (tc 0, 6, .inl Af_3)), (Aa_4, .inl (tc 0, 6, .inl Af_4)), (Aa_5, .inl (tc 0, 6, .inl Af_5)), (Aa_6, .inl (tc 0, 6, .inl Af_6)), (Aa_7, .inl (tc 0, 6, .inl Af_7)), (Aa_8, .inl (tc 0, 6, .inl Af_8)), (Na_0, .inr (3, [.ref Na_1, .ref Na_2, .ref Na_3, .int Nv_0])), (Na_1, .inl (tc 0, 10, .inl Nf_1)), (Na_2, .inl (tc 0, 10, .inl Nf_2)), (Na_3, .inl (tc 0, 10, .inl Nf_3))]) 0 0 :=
  ct_X2_agrees l D tc sk (fun k => ([Ya_0, 0, Ya_2, Ya_3] : List (Nat)).getD k 0) (fun k => ([Yv_0] : List (Int32)).getD k 0) (fun k => ([(fun _ => 0), (fun _ => 0), Yf_2, Yf_3] : List (Nat → Int32)).getD k (fun _ => 0)) (fun k => ([Aa_0, Aa_1, Aa_2, Aa_3, Aa_4, Aa_5, Aa_6, Aa_7, Aa_8] : List (Nat)).getD k 0) (fun k => ([Av_0, Av_1, Av_2, Av_3, Av_4, Av_5] : List (Int32)).getD k 0) (fun k => ([(fun _ => 0), Af_1, Af_2, Af_3, Af_4, Af_5, Af_6, Af_7, Af_8] : List (Nat → Int32)).getD k (fun _ => 0)) (fun k => ([Na_0, Na_1, Na_2, Na_3] : List (Nat)).getD k 0) (fun k => ([Nv_0] : List (Int32)).getD k 0) (fun k => ([(fun _ => 0), Nf_1, Nf_2, Nf_3] : List (Nat → Int32)).getD k (fun _ => 0)) x1 
set_option maxHeartbeats 4000000 in
set_option maxRecDepth 100000 in
theorem ct_X2_firstFitting (l : Launch) (D : va_G) (tc : Nat → ClassId) (sk : (Nat → Nat) × (Nat → Nat)) (Ya : Nat → Nat) (Yv : Nat → Int32) (Yf : Nat → Nat → Int32) (Aa : Nat → Nat) (Av : Nat → Int32) (Af : Nat → Nat → Int32)  : Ct l yX2_firstFitting cX2_firstFitting 2 (some .int) { frames := 0, cells := 0, slots := 0, locals := 0 } D tc sk [.ref (Ya 0)] [((Ya 0), .inr (2, [.ref (Aa 0), .ref (Ya 2), .ref (Ya 3), .int (Yv 0)])), ((Ya 2), .inl (tc 0, 427, .inl (Yf 2))), ((Ya 3), .inl (tc 3, 7, .inl (Yf 3))), ((Aa 0), .inr (9, [.int (Av 0), .int (Av 1), .int (Av 2), .int (Av 3), .int (Av 4), .int (Av 5), .ref (Aa 1), .ref (Aa 2), .ref (Aa 3), .ref (Aa 4), .ref (Aa 5), .ref (Aa 6), .ref (Aa 7), .ref (Aa 8)])), ((Aa 1), .inl (tc 0, 10, .inl (Af 1))), ((Aa 2), .inl (tc 0, 10, .inl (Af 2))), ((Aa 3), .inl (tc 0, 6, .inl (Af 3))), ((Aa 4), .inl (tc 0, 6, .inl (Af 4))), ((Aa 5), .inl (tc 0, 6, .inl (Af 5))), ((Aa 6), .inl (tc 0, 6, .inl (Af 6))), ((Aa 7), .inl (tc 0, 6, .inl (Af 7))), ((Aa 8), .inl (tc 0, 6, .inl (Af 8)))] (fun (v : Option Value) (_ : Unit) => ∃ r : Int32, v = some (.int r) ∧ (True)) (fun (_ : Unit) => [((Ya 0), .inr (2, [.ref (Aa 0), .ref (Ya 2), .ref (Ya 3), .int (Yv 0)])), ((Ya 2), .inl (tc 0, 427, .inl (Yf 2))), ((Ya 3), .inl (tc 3, 7, .inl (Yf 3))), ((Aa 0), .inr (9, [.int (Av 0), .int (Av 1), .int (Av 2), .int (Av 3), .int (Av 4), .int (Av 5), .ref (Aa 1), .ref (Aa 2), .ref (Aa 3), .ref (Aa 4), .ref (Aa 5), .ref (Aa 6), .ref (Aa 7), .ref (Aa 8)])), ((Aa 1), .inl (tc 0, 10, .inl (Af 1))), ((Aa 2), .inl (tc 0, 10, .inl (Af 2))), ((Aa 3), .inl (tc 0, 6, .inl (Af 3))), ((Aa 4), .inl (tc 0, 6, .inl (Af 4))), ((Aa 5), .inl (tc 0, 6, .inl (Af 5))), ((Aa 6), .inl (tc 0, 6, .inl (Af 6))), ((Aa 7), .inl (tc 0, 6, .inl (Af 7))), ((Aa 8), .inl (tc 0, 6, .inl (Af 8)))]) 0 0 := by
  refine Ct.start (by decide) (Nat.le_of_ble_eq_true rfl) (fun p e s m below meth c A ls hx hb hr hlk hin hml hown hts hK hX hP hD hA hl hS => ?_)
  have hl : lv_has ls 2 [(0, .ref (Ya 0))] := hl
  refine lv_iconst (v := 0) hx hb dX2_firstFitting_0 (by decide) ?_
  refine lv_istore_n (lv' := [(1, .int 0), (0, .ref (Ya 0))]) hx hb dX2_firstFitting_1 rfl hl (by decide) rfl (fun ls hl₀ => ?_)
  replace hl := hl₀
  clear hl₀
  have loop_5 : ∀ (n_3 : Nat) (vy_2 : Int32) (H : Heap) (locs : List Loc) (ls : Array Slot), 0 ≤ (vy_2 : Int32).toInt → (7 - (vy_2 : Int32).toInt).toNat < n_3 → va_P D classes [((Ya 0), .inr (2, [.ref (Aa 0), .ref (Ya 2), .ref (Ya 3), .int (Yv 0)])), ((Ya 2), .inl (tc 0, 427, .inl (Yf 2))), ((Ya 3), .inl (tc 3, 7, .inl (Yf 3))), ((Aa 0), .inr (9, [.int (Av 0), .int (Av 1), .int (Av 2), .int (Av 3), .int (Av 4), .int (Av 5), .ref (Aa 1), .ref (Aa 2), .ref (Aa 3), .ref (Aa 4), .ref (Aa 5), .ref (Aa 6), .ref (Aa 7), .ref (Aa 8)])), ((Aa 1), .inl (tc 0, 10, .inl (Af 1))), ((Aa 2), .inl (tc 0, 10, .inl (Af 2))), ((Aa 3), .inl (tc 0, 6, .inl (Af 3))), ((Aa 4), .inl (tc 0, 6, .inl (Af 4))), ((Aa 5), .inl (tc 0, 6, .inl (Af 5))), ((Aa 6), .inl (tc 0, 6, .inl (Af 6))), ((Aa 7), .inl (tc 0, 6, .inl (Af 7))), ((Aa 8), .inl (tc 0, 6, .inl (Af 8)))] H → va_D A [((Ya 0), .inr (2, [.ref (Aa 0), .ref (Ya 2), .ref (Ya 3), .int (Yv 0)])), ((Ya 2), .inl (tc 0, 427, .inl (Yf 2))), ((Ya 3), .inl (tc 3, 7, .inl (Yf 3))), ((Aa 0), .inr (9, [.int (Av 0), .int (Av 1), .int (Av 2), .int (Av 3), .int (Av 4), .int (Av 5), .ref (Aa 1), .ref (Aa 2), .ref (Aa 3), .ref (Aa 4), .ref (Aa 5), .ref (Aa 6), .ref (Aa 7), .ref (Aa 8)])), ((Aa 1), .inl (tc 0, 10, .inl (Af 1))), ((Aa 2), .inl (tc 0, 10, .inl (Af 2))), ((Aa 3), .inl (tc 0, 6, .inl (Af 3))), ((Aa 4), .inl (tc 0, 6, .inl (Af 4))), ((Aa 5), .inl (tc 0, 6, .inl (Af 5))), ((Aa 6), .inl (tc 0, 6, .inl (Af 6))), ((Aa 7), .inl (tc 0, 6, .inl (Af 7))), ((Aa 8), .inl (tc 0, 6, .inl (Af 8)))] → va_S A s.heap H locs → lv_has ls 2 [(1, .int vy_2), (0, .ref (Ya 0))] → W p l e ({ frames := 0, cells := 0, slots := 0, locals := 0 }) s m ([.ref (Ya 0)].toArray) below meth c H locs 0 0 (MQ below (QW (fun (v : Option Value) (_ : Unit) => ∃ r : Int32, v = some (.int r) ∧ (True)) (BW D (fun (_ : Unit) => [((Ya 0), .inr (2, [.ref (Aa 0), .ref (Ya 2), .ref (Ya 3), .int (Yv 0)])), ((Ya 2), .inl (tc 0, 427, .inl (Yf 2))), ((Ya 3), .inl (tc 3, 7, .inl (Yf 3))), ((Aa 0), .inr (9, [.int (Av 0), .int (Av 1), .int (Av 2), .int (Av 3), .int (Av 4), .int (Av 5), .ref (Aa 1), .ref (Aa 2), .ref (Aa 3), .ref (Aa 4), .ref (Aa 5), .ref (Aa 6), .ref (Aa 7), .ref (Aa 8)])), ((Aa 1), .inl (tc 0, 10, .inl (Af 1))), ((Aa 2), .inl (tc 0, 10, .inl (Af 2))), ((Aa 3), .inl (tc 0, 6, .inl (Af 3))), ((Aa 4), .inl (tc 0, 6, .inl (Af 4))), ((Aa 5), .inl (tc 0, 6, .inl (Af 5))), ((Aa 6), .inl (tc 0, 6, .inl (Af 6))), ((Aa 7), .inl (tc 0, 6, .inl (Af 7))), ((Aa 8), .inl (tc 0, 6, .inl (Af 8)))]) A) A) ([.ref (Ya 0)].toArray) s 0 0 A) (F0 m 2 ls []) := by
    clear hP hD hS hl
    intro n_3
    induction n_3 with
    | zero =>
      intro vy_2 H locs ls h1 h2
      exact absurd h2 (Nat.not_lt_zero _)
    | succ n_3 ih_4 =>
      intro vy_2 H locs ls hi_7 hn_8 hP hD hS hl
      refine lv_iload_n hx hb dX2_firstFitting_2 rfl (lv_at hl 0 rfl) ?_
      refine lv_bipush (v := 7) hx hb dX2_firstFitting_3 (by decide) ?_
      refine lv_icmp_ge (tgt := 27) hx hb dX2_firstFitting_5 (by decide) (fun c_9 => ?_) (fun c_9 => ?_)
      · skip
        refine lv_bipush (v := (-2)) hx hb dX2_firstFitting_27 (by decide) ?_
        exact retI (v := (-2)) hx hb hr hlk (rfl) hP hD hS () ⟨_, rfl, trivial⟩ [0, 1, 2, 3, 4, 5, 6, 7, 8, 9, 10, 11] rfl rfl dX2_firstFitting_29 (Nat.le_of_ble_eq_true rfl) (Nat.le_of_ble_eq_true rfl) rfl
      · skip
        refine lv_aload_n hx hb dX2_firstFitting_8 rfl (lv_at hl 1 rfl) ?_
        refine gf_X2_22 hx hb hts hown hK hP 0 rfl rfl dX2_firstFitting_9 ?_
        refine lv_iload_n hx hb dX2_firstFitting_12 rfl (lv_at hl 0 rfl) ?_
        have hi_10 : vp_in vy_2 7 := by
          have z_1 := Int32.lt_iff_toInt_lt.mp (Int32.not_le.mp c_9)
          have y_7 : (7 : Int32).toInt = 7 := by decide
          refine vp_in_iff.mpr ⟨?_, ?_⟩ <;> omega
        refine va_zald hx hb hK hP 2 3 rfl rfl hi_10 dX2_firstFitting_13 ?_
        refine lv_topi (fun x_11 ex_11 => ?_)
        refine lv_if_eq (tgt := 21) hx hb dX2_firstFitting_14 (by decide) (fun c_12 => ?_) (fun c_12 => ?_)
        · skip
          obtain ⟨x_13, ex_13⟩ : ∃ y : Int32, y = vy_2 + 1 := ⟨_, rfl⟩
          refine lv_iinc (v := x_13) (lv' := [(1, .int x_13), (0, .ref (Ya 0))]) hx hb dX2_firstFitting_21 hl (k := 0) rfl (by rw [ex_13]; rfl) (by decide) rfl (fun ls hl₀ => ?_)
          replace hl := hl₀
          clear hl₀
          refine lv_goto (tgt := 2) hx hb dX2_firstFitting_24 (by decide) ?_
          have hb_14 : 0 ≤ (x_13 : Int32).toInt ∧ (7 - (x_13 : Int32).toInt).toNat < n_3 := by
            have z_1 := Int32.lt_iff_toInt_lt.mp (Int32.not_le.mp c_9)
            have z_2 := congrArg Int32.toInt c_12
            have y_0 : (0 : Int32).toInt = 0 := by decide
            have y_7 : (7 : Int32).toInt = 7 := by decide
            have y_1 : (1 : Int32).toInt = 1 := by decide
            have t_x_13 : x_13.toInt = (vy_2 : Int32).toInt + (1 : Int32).toInt := by rw [ex_13]; exact add_toInt (by omega) (by omega)
            omega
          exact ih_4 x_13 _ _ _ hb_14.1 hb_14.2 (hP.sub [0, 1, 2, 3, 4, 5, 6, 7, 8, 9, 10, 11] rfl) (hD.sub [0, 1, 2, 3, 4, 5, 6, 7, 8, 9, 10, 11] rfl rfl) hS (lv_sub hl [0, 1] rfl)
        · skip
          refine lv_iload_n hx hb dX2_firstFitting_17 rfl (lv_at hl 0 rfl) ?_
          refine lv_iconst (v := 1) hx hb dX2_firstFitting_18 (by decide) ?_
          refine lv_isub hx hb dX2_firstFitting_19 ?_
          refine lv_topi (fun x_15 ex_15 => ?_)
          exact retI (v := x_15) hx hb hr hlk (rfl) hP hD hS () ⟨_, rfl, trivial⟩ [0, 1, 2, 3, 4, 5, 6, 7, 8, 9, 10, 11] rfl rfl dX2_firstFitting_20 (Nat.le_of_ble_eq_true rfl) (Nat.le_of_ble_eq_true rfl) rfl
  have h0_16 : 0 ≤ (0 : Int32).toInt := by
    have y_0 : (0 : Int32).toInt = 0 := by decide
    decide
  exact loop_5 _ 0 _ _ _ h0_16 (Nat.lt_succ_self _) hP hD hS hl
set_option maxRecDepth 100000 in
theorem cu_X2_firstFitting (l : Launch) (D : va_G) (tc : Nat → ClassId) (sk : (Nat → Nat) × (Nat → Nat)) (Ya_0 : Nat) (Ya_2 : Nat) (Ya_3 : Nat) (Yv_0 : Int32) (Yf_2 : Nat → Int32) (Yf_3 : Nat → Int32) (Aa_0 : Nat) (Aa_1 : Nat) (Aa_2 : Nat) (Aa_3 : Nat) (Aa_4 : Nat) (Aa_5 : Nat) (Aa_6 : Nat) (Aa_7 : Nat) (Aa_8 : Nat) (Av_0 : Int32) (Av_1 : Int32) (Av_2 : Int32) (Av_3 : Int32) (Av_4 : Int32) (Av_5 : Int32) (Af_1 : Nat → Int32) (Af_2 : Nat → Int32) (Af_3 : Nat → Int32) (Af_4 : Nat → Int32) (Af_5 : Nat → Int32) (Af_6 : Nat → Int32) (Af_7 : Nat → Int32) (Af_8 : Nat → Int32)  : Ct l yX2_firstFitting cX2_firstFitting 2 (some .int) { frames := 0, cells := 0, slots := 0, locals := 0 } D tc sk [.ref Ya_0] [(Ya_0, .inr (2, [.ref Aa_0, .ref Ya_2, .ref Ya_3, .int Yv_0])), (Ya_2, .inl (tc 0, 427, .inl Yf_2)), (Ya_3, .inl (tc 3, 7, .inl Yf_3)), (Aa_0, .inr (9, [.int Av_0, .int Av_1, .int Av_2, .int Av_3, .int Av_4, .int Av_5, .ref Aa_1, .ref Aa_2, .ref Aa_3, .ref Aa_4, .ref Aa_5, .ref Aa_6, .ref Aa_7, .ref Aa_8])), (Aa_1, .inl (tc 0, 10, .inl Af_1)), (Aa_2, .inl (tc 0, 10, .inl Af_2)), (Aa_3, .inl (tc 0, 6, .inl Af_3)), (Aa_4, .inl (tc 0, 6, .inl Af_4)), (Aa_5, .inl (tc 0, 6, .inl Af_5)), (Aa_6, .inl (tc 0, 6, .inl Af_6)), (Aa_7, .inl (tc 0, 6, .inl Af_7)), (Aa_8, .inl (tc 0, 6, .inl Af_8))] (fun (v : Option Value) (_ : Unit) => ∃ r : Int32, v = some (.int r) ∧ (True)) (fun (_ : Unit) => [(Ya_0, .inr (2, [.ref Aa_0, .ref Ya_2, .ref Ya_3, .int Yv_0])), (Ya_2, .inl (tc 0, 427, .inl Yf_2)), (Ya_3, .inl (tc 3, 7, .inl Yf_3)), (Aa_0, .inr (9, [.int Av_0, .int Av_1, .int Av_2, .int Av_3, .int Av_4, .int Av_5, .ref Aa_1, .ref Aa_2, .ref Aa_3, .ref Aa_4, .ref Aa_5, .ref Aa_6, .ref Aa_7, .ref Aa_8])), (Aa_1, .inl (tc 0, 10, .inl Af_1)), (Aa_2, .inl (tc 0, 10, .inl Af_2)), (Aa_3, .inl (tc 0, 6, .inl Af_3)), (Aa_4, .inl (tc 0, 6, .inl Af_4)), (Aa_5, .inl (tc 0, 6, .inl Af_5)), (Aa_6, .inl (tc 0, 6, .inl Af_6)), (Aa_7, .inl (tc 0, 6, .inl Af_7)), (Aa_8, .inl (tc 0, 6, .inl Af_8))]) 0 0 :=
  ct_X2_firstFitting l D tc sk (fun k => ([Ya_0, 0, Ya_2, Ya_3] : List (Nat)).getD k 0) (fun k => ([Yv_0] : List (Int32)).getD k 0) (fun k => ([(fun _ => 0), (fun _ => 0), Yf_2, Yf_3] : List (Nat → Int32)).getD k (fun _ => 0)) (fun k => ([Aa_0, Aa_1, Aa_2, Aa_3, Aa_4, Aa_5, Aa_6, Aa_7, Aa_8] : List (Nat)).getD k 0) (fun k => ([Av_0, Av_1, Av_2, Av_3, Av_4, Av_5] : List (Int32)).getD k 0) (fun k => ([(fun _ => 0), Af_1, Af_2, Af_3, Af_4, Af_5, Af_6, Af_7, Af_8] : List (Nat → Int32)).getD k (fun _ => 0)) 
set_option maxHeartbeats 4000000 in
set_option maxRecDepth 100000 in
theorem ct_X2_mostAlike (l : Launch) (D : va_G) (tc : Nat → ClassId) (sk : (Nat → Nat) × (Nat → Nat)) (Ya : Nat → Nat) (Yv : Nat → Int32) (Yf : Nat → Nat → Int32) (Aa : Nat → Nat) (Av : Nat → Int32) (Af : Nat → Nat → Int32) (x1 : Int32)  : Ct l yX2_mostAlike cX2_mostAlike 6 (some .int) { frames := 1, cells := 0, slots := 0, locals := 23 } D tc sk [.ref (Ya 0), .int x1] [((Ya 0), .inr (2, [.ref (Aa 0), .ref (Ya 2), .ref (Ya 3), .int (Yv 0)])), ((Ya 2), .inl (tc 0, 427, .inl (Yf 2))), ((Ya 3), .inl (tc 3, 7, .inl (Yf 3))), ((Aa 0), .inr (9, [.int (Av 0), .int (Av 1), .int (Av 2), .int (Av 3), .int (Av 4), .int (Av 5), .ref (Aa 1), .ref (Aa 2), .ref (Aa 3), .ref (Aa 4), .ref (Aa 5), .ref (Aa 6), .ref (Aa 7), .ref (Aa 8)])), ((Aa 1), .inl (tc 0, 10, .inl (Af 1))), ((Aa 2), .inl (tc 0, 10, .inl (Af 2))), ((Aa 3), .inl (tc 0, 6, .inl (Af 3))), ((Aa 4), .inl (tc 0, 6, .inl (Af 4))), ((Aa 5), .inl (tc 0, 6, .inl (Af 5))), ((Aa 6), .inl (tc 0, 6, .inl (Af 6))), ((Aa 7), .inl (tc 0, 6, .inl (Af 7))), ((Aa 8), .inl (tc 0, 6, .inl (Af 8)))] (fun (v : Option Value) (_ : Unit) => ∃ r : Int32, v = some (.int r) ∧ (True)) (fun (_ : Unit) => [((Ya 0), .inr (2, [.ref (Aa 0), .ref (Ya 2), .ref (Ya 3), .int (Yv 0)])), ((Ya 2), .inl (tc 0, 427, .inl (Yf 2))), ((Ya 3), .inl (tc 3, 7, .inl (Yf 3))), ((Aa 0), .inr (9, [.int (Av 0), .int (Av 1), .int (Av 2), .int (Av 3), .int (Av 4), .int (Av 5), .ref (Aa 1), .ref (Aa 2), .ref (Aa 3), .ref (Aa 4), .ref (Aa 5), .ref (Aa 6), .ref (Aa 7), .ref (Aa 8)])), ((Aa 1), .inl (tc 0, 10, .inl (Af 1))), ((Aa 2), .inl (tc 0, 10, .inl (Af 2))), ((Aa 3), .inl (tc 0, 6, .inl (Af 3))), ((Aa 4), .inl (tc 0, 6, .inl (Af 4))), ((Aa 5), .inl (tc 0, 6, .inl (Af 5))), ((Aa 6), .inl (tc 0, 6, .inl (Af 6))), ((Aa 7), .inl (tc 0, 6, .inl (Af 7))), ((Aa 8), .inl (tc 0, 6, .inl (Af 8)))]) 0 0 := by
  refine Ct.start (by decide) (Nat.le_of_ble_eq_true rfl) (fun p e s m below meth c A ls hx hb hr hlk hin hml hown hts hK hX hP hD hA hl hS => ?_)
  have hl : lv_has ls 6 [(0, .ref (Ya 0)), (1, .int x1)] := hl
  refine lv_iconst (v := 0) hx hb dX2_mostAlike_0 (by decide) ?_
  refine lv_istore_n (lv' := [(2, .int 0), (0, .ref (Ya 0)), (1, .int x1)]) hx hb dX2_mostAlike_1 rfl hl (by decide) rfl (fun ls hl₀ => ?_)
  replace hl := hl₀
  clear hl₀
  refine lv_iconst (v := 0) hx hb dX2_mostAlike_2 (by decide) ?_
  refine lv_istore_n (lv' := [(3, .int 0), (2, .int 0), (0, .ref (Ya 0)), (1, .int x1)]) hx hb dX2_mostAlike_3 rfl hl (by decide) rfl (fun ls hl₀ => ?_)
  replace hl := hl₀
  clear hl₀
  have loop_8 : ∀ (n_6 : Nat) (vy_4 : Int32) (vy_5 : Int32) (H : Heap) (locs : List Loc) (ls : Array Slot), 0 ≤ (vy_4 : Int32).toInt → (7 - (vy_4 : Int32).toInt).toNat < n_6 → va_P D classes [((Ya 0), .inr (2, [.ref (Aa 0), .ref (Ya 2), .ref (Ya 3), .int (Yv 0)])), ((Ya 2), .inl (tc 0, 427, .inl (Yf 2))), ((Ya 3), .inl (tc 3, 7, .inl (Yf 3))), ((Aa 0), .inr (9, [.int (Av 0), .int (Av 1), .int (Av 2), .int (Av 3), .int (Av 4), .int (Av 5), .ref (Aa 1), .ref (Aa 2), .ref (Aa 3), .ref (Aa 4), .ref (Aa 5), .ref (Aa 6), .ref (Aa 7), .ref (Aa 8)])), ((Aa 1), .inl (tc 0, 10, .inl (Af 1))), ((Aa 2), .inl (tc 0, 10, .inl (Af 2))), ((Aa 3), .inl (tc 0, 6, .inl (Af 3))), ((Aa 4), .inl (tc 0, 6, .inl (Af 4))), ((Aa 5), .inl (tc 0, 6, .inl (Af 5))), ((Aa 6), .inl (tc 0, 6, .inl (Af 6))), ((Aa 7), .inl (tc 0, 6, .inl (Af 7))), ((Aa 8), .inl (tc 0, 6, .inl (Af 8)))] H → va_D A [((Ya 0), .inr (2, [.ref (Aa 0), .ref (Ya 2), .ref (Ya 3), .int (Yv 0)])), ((Ya 2), .inl (tc 0, 427, .inl (Yf 2))), ((Ya 3), .inl (tc 3, 7, .inl (Yf 3))), ((Aa 0), .inr (9, [.int (Av 0), .int (Av 1), .int (Av 2), .int (Av 3), .int (Av 4), .int (Av 5), .ref (Aa 1), .ref (Aa 2), .ref (Aa 3), .ref (Aa 4), .ref (Aa 5), .ref (Aa 6), .ref (Aa 7), .ref (Aa 8)])), ((Aa 1), .inl (tc 0, 10, .inl (Af 1))), ((Aa 2), .inl (tc 0, 10, .inl (Af 2))), ((Aa 3), .inl (tc 0, 6, .inl (Af 3))), ((Aa 4), .inl (tc 0, 6, .inl (Af 4))), ((Aa 5), .inl (tc 0, 6, .inl (Af 5))), ((Aa 6), .inl (tc 0, 6, .inl (Af 6))), ((Aa 7), .inl (tc 0, 6, .inl (Af 7))), ((Aa 8), .inl (tc 0, 6, .inl (Af 8)))] → va_S A s.heap H locs → lv_has ls 6 [(3, .int vy_4), (2, .int vy_5), (0, .ref (Ya 0)), (1, .int x1)] → W p l e ({ frames := 1, cells := 0, slots := 0, locals := 23 }) s m ([.ref (Ya 0), .int x1].toArray) below meth c H locs 0 0 (MQ below (QW (fun (v : Option Value) (_ : Unit) => ∃ r : Int32, v = some (.int r) ∧ (True)) (BW D (fun (_ : Unit) => [((Ya 0), .inr (2, [.ref (Aa 0), .ref (Ya 2), .ref (Ya 3), .int (Yv 0)])), ((Ya 2), .inl (tc 0, 427, .inl (Yf 2))), ((Ya 3), .inl (tc 3, 7, .inl (Yf 3))), ((Aa 0), .inr (9, [.int (Av 0), .int (Av 1), .int (Av 2), .int (Av 3), .int (Av 4), .int (Av 5), .ref (Aa 1), .ref (Aa 2), .ref (Aa 3), .ref (Aa 4), .ref (Aa 5), .ref (Aa 6), .ref (Aa 7), .ref (Aa 8)])), ((Aa 1), .inl (tc 0, 10, .inl (Af 1))), ((Aa 2), .inl (tc 0, 10, .inl (Af 2))), ((Aa 3), .inl (tc 0, 6, .inl (Af 3))), ((Aa 4), .inl (tc 0, 6, .inl (Af 4))), ((Aa 5), .inl (tc 0, 6, .inl (Af 5))), ((Aa 6), .inl (tc 0, 6, .inl (Af 6))), ((Aa 7), .inl (tc 0, 6, .inl (Af 7))), ((Aa 8), .inl (tc 0, 6, .inl (Af 8)))]) A) A) ([.ref (Ya 0), .int x1].toArray) s 0 0 A) (F0 m 4 ls []) := by
    clear hP hD hS hl
    intro n_6
    induction n_6 with
    | zero =>
      intro vy_4 vy_5 H locs ls h1 h2
      exact absurd h2 (Nat.not_lt_zero _)
    | succ n_6 ih_7 =>
      intro vy_4 vy_5 H locs ls hi_10 hn_11 hP hD hS hl
      refine lv_iload_n hx hb dX2_mostAlike_4 rfl (lv_at hl 0 rfl) ?_
      refine lv_bipush (v := 7) hx hb dX2_mostAlike_5 (by decide) ?_
      refine lv_icmp_ge (tgt := 80) hx hb dX2_mostAlike_7 (by decide) (fun c_12 => ?_) (fun c_12 => ?_)
      · skip
        refine lv_iload_n hx hb dX2_mostAlike_80 rfl (lv_at hl 1 rfl) ?_
        exact retI (v := vy_5) hx hb hr hlk (rfl) hP hD hS () ⟨_, rfl, trivial⟩ [0, 1, 2, 3, 4, 5, 6, 7, 8, 9, 10, 11] rfl rfl dX2_mostAlike_81 (Nat.le_of_ble_eq_true rfl) (Nat.le_of_ble_eq_true rfl) rfl
      · skip
        refine lv_iconst (v := 0) hx hb dX2_mostAlike_10 (by decide) ?_
        refine lv_istore (lv' := [(4, .int 0), (3, .int vy_4), (2, .int vy_5), (0, .ref (Ya 0)), (1, .int x1)]) hx hb dX2_mostAlike_11 hl (by decide) rfl (fun ls hl₀ => ?_)
        replace hl := hl₀
        clear hl₀
        refine lv_iconst (v := 0) hx hb dX2_mostAlike_13 (by decide) ?_
        refine lv_istore (lv' := [(5, .int 0), (4, .int 0), (3, .int vy_4), (2, .int vy_5), (0, .ref (Ya 0)), (1, .int x1)]) hx hb dX2_mostAlike_14 hl (by decide) rfl (fun ls hl₀ => ?_)
        replace hl := hl₀
        clear hl₀
        have loop_20 : ∀ (n_18 : Nat) (vy_16 : Int32) (vy_17 : Int32) (H : Heap) (locs : List Loc) (ls : Array Slot), 0 ≤ (vy_16 : Int32).toInt → (7 - (vy_16 : Int32).toInt).toNat < n_18 → va_P D classes [((Ya 0), .inr (2, [.ref (Aa 0), .ref (Ya 2), .ref (Ya 3), .int (Yv 0)])), ((Ya 2), .inl (tc 0, 427, .inl (Yf 2))), ((Ya 3), .inl (tc 3, 7, .inl (Yf 3))), ((Aa 0), .inr (9, [.int (Av 0), .int (Av 1), .int (Av 2), .int (Av 3), .int (Av 4), .int (Av 5), .ref (Aa 1), .ref (Aa 2), .ref (Aa 3), .ref (Aa 4), .ref (Aa 5), .ref (Aa 6), .ref (Aa 7), .ref (Aa 8)])), ((Aa 1), .inl (tc 0, 10, .inl (Af 1))), ((Aa 2), .inl (tc 0, 10, .inl (Af 2))), ((Aa 3), .inl (tc 0, 6, .inl (Af 3))), ((Aa 4), .inl (tc 0, 6, .inl (Af 4))), ((Aa 5), .inl (tc 0, 6, .inl (Af 5))), ((Aa 6), .inl (tc 0, 6, .inl (Af 6))), ((Aa 7), .inl (tc 0, 6, .inl (Af 7))), ((Aa 8), .inl (tc 0, 6, .inl (Af 8)))] H → va_D A [((Ya 0), .inr (2, [.ref (Aa 0), .ref (Ya 2), .ref (Ya 3), .int (Yv 0)])), ((Ya 2), .inl (tc 0, 427, .inl (Yf 2))), ((Ya 3), .inl (tc 3, 7, .inl (Yf 3))), ((Aa 0), .inr (9, [.int (Av 0), .int (Av 1), .int (Av 2), .int (Av 3), .int (Av 4), .int (Av 5), .ref (Aa 1), .ref (Aa 2), .ref (Aa 3), .ref (Aa 4), .ref (Aa 5), .ref (Aa 6), .ref (Aa 7), .ref (Aa 8)])), ((Aa 1), .inl (tc 0, 10, .inl (Af 1))), ((Aa 2), .inl (tc 0, 10, .inl (Af 2))), ((Aa 3), .inl (tc 0, 6, .inl (Af 3))), ((Aa 4), .inl (tc 0, 6, .inl (Af 4))), ((Aa 5), .inl (tc 0, 6, .inl (Af 5))), ((Aa 6), .inl (tc 0, 6, .inl (Af 6))), ((Aa 7), .inl (tc 0, 6, .inl (Af 7))), ((Aa 8), .inl (tc 0, 6, .inl (Af 8)))] → va_S A s.heap H locs → lv_has ls 6 [(5, .int vy_16), (4, .int vy_17), (3, .int vy_4), (2, .int vy_5), (0, .ref (Ya 0)), (1, .int x1)] → W p l e ({ frames := 1, cells := 0, slots := 0, locals := 23 }) s m ([.ref (Ya 0), .int x1].toArray) below meth c H locs 0 0 (MQ below (QW (fun (v : Option Value) (_ : Unit) => ∃ r : Int32, v = some (.int r) ∧ (True)) (BW D (fun (_ : Unit) => [((Ya 0), .inr (2, [.ref (Aa 0), .ref (Ya 2), .ref (Ya 3), .int (Yv 0)])), ((Ya 2), .inl (tc 0, 427, .inl (Yf 2))), ((Ya 3), .inl (tc 3, 7, .inl (Yf 3))), ((Aa 0), .inr (9, [.int (Av 0), .int (Av 1), .int (Av 2), .int (Av 3), .int (Av 4), .int (Av 5), .ref (Aa 1), .ref (Aa 2), .ref (Aa 3), .ref (Aa 4), .ref (Aa 5), .ref (Aa 6), .ref (Aa 7), .ref (Aa 8)])), ((Aa 1), .inl (tc 0, 10, .inl (Af 1))), ((Aa 2), .inl (tc 0, 10, .inl (Af 2))), ((Aa 3), .inl (tc 0, 6, .inl (Af 3))), ((Aa 4), .inl (tc 0, 6, .inl (Af 4))), ((Aa 5), .inl (tc 0, 6, .inl (Af 5))), ((Aa 6), .inl (tc 0, 6, .inl (Af 6))), ((Aa 7), .inl (tc 0, 6, .inl (Af 7))), ((Aa 8), .inl (tc 0, 6, .inl (Af 8)))]) A) A) ([.ref (Ya 0), .int x1].toArray) s 0 0 A) (F0 m 16 ls []) := by
          clear hP hD hS hl
          intro n_18
          induction n_18 with
          | zero =>
            intro vy_16 vy_17 H locs ls h1 h2
            exact absurd h2 (Nat.not_lt_zero _)
          | succ n_18 ih_19 =>
            intro vy_16 vy_17 H locs ls hi_22 hn_23 hP hD hS hl
            refine lv_iload hx hb dX2_mostAlike_16 (lv_at hl 0 rfl) ?_
            refine lv_bipush (v := 7) hx hb dX2_mostAlike_18 (by decide) ?_
            refine lv_icmp_ge (tgt := 67) hx hb dX2_mostAlike_20 (by decide) (fun c_24 => ?_) (fun c_24 => ?_)
            · skip
              refine lv_iload_n hx hb dX2_mostAlike_67 rfl (lv_at hl 3 rfl) ?_
              refine lv_iload hx hb dX2_mostAlike_68 (lv_at hl 1 rfl) ?_
              refine va_mmax hx hb (hml.trans hl.1.symm) hown (hts _ k_1008) (hts _ k_774) (hts _ k_114) (hts _ k_775) (Nat.le_of_ble_eq_true rfl) (Nat.le_of_ble_eq_true rfl) (Nat.le_of_ble_eq_true rfl) (Nat.le_of_ble_eq_true rfl) dX2_mostAlike_70 ?_
              refine lv_topi (fun x_25 ex_25 => ?_)
              have mx_25 := imax_f ex_25
              refine lv_istore_n (lv' := [(2, .int x_25), (5, .int vy_16), (4, .int vy_17), (3, .int vy_4), (0, .ref (Ya 0)), (1, .int x1)]) hx hb dX2_mostAlike_73 rfl hl (by decide) rfl (fun ls hl₀ => ?_)
              replace hl := hl₀
              clear hl₀
              obtain ⟨x_26, ex_26⟩ : ∃ y : Int32, y = vy_4 + 1 := ⟨_, rfl⟩
              refine lv_iinc (v := x_26) (lv' := [(3, .int x_26), (2, .int x_25), (5, .int vy_16), (4, .int vy_17), (0, .ref (Ya 0)), (1, .int x1)]) hx hb dX2_mostAlike_74 hl (k := 3) rfl (by rw [ex_26]; rfl) (by decide) rfl (fun ls hl₀ => ?_)
              replace hl := hl₀
              clear hl₀
              refine lv_goto (tgt := 4) hx hb dX2_mostAlike_77 (by decide) ?_
              have hb_27 : 0 ≤ (x_26 : Int32).toInt ∧ (7 - (x_26 : Int32).toInt).toNat < n_6 := by
                have z_1 := Int32.lt_iff_toInt_lt.mp (Int32.not_le.mp c_12)
                have z_2 := Int32.le_iff_toInt_le.mp c_24
                have y_7 : (7 : Int32).toInt = 7 := by decide
                have y_1 : (1 : Int32).toInt = 1 := by decide
                have t_x_26 : x_26.toInt = (vy_4 : Int32).toInt + (1 : Int32).toInt := by rw [ex_26]; exact add_toInt (by omega) (by omega)
                omega
              exact ih_7 x_26 x_25 _ _ _ hb_27.1 hb_27.2 (hP.sub [0, 1, 2, 3, 4, 5, 6, 7, 8, 9, 10, 11] rfl) (hD.sub [0, 1, 2, 3, 4, 5, 6, 7, 8, 9, 10, 11] rfl rfl) hS (lv_sub hl [0, 1, 4, 5] rfl)
            · skip
              refine lv_aload_n hx hb dX2_mostAlike_23 rfl (lv_at hl 4 rfl) ?_
              refine gf_X2_22 hx hb hts hown hK hP 0 rfl rfl dX2_mostAlike_24 ?_
              refine lv_iload_n hx hb dX2_mostAlike_27 rfl (lv_at hl 2 rfl) ?_
              have hi_28 : vp_in vy_4 7 := by
                have z_1 := Int32.lt_iff_toInt_lt.mp (Int32.not_le.mp c_12)
                have z_2 := Int32.lt_iff_toInt_lt.mp (Int32.not_le.mp c_24)
                have y_7 : (7 : Int32).toInt = 7 := by decide
                refine vp_in_iff.mpr ⟨?_, ?_⟩ <;> omega
              refine va_zald hx hb hK hP 2 3 rfl rfl hi_28 dX2_mostAlike_28 ?_
              refine lv_topi (fun x_29 ex_29 => ?_)
              refine lv_if_eq (tgt := 61) hx hb dX2_mostAlike_29 (by decide) (fun c_30 => ?_) (fun c_30 => ?_)
              · skip
                obtain ⟨x_31, ex_31⟩ : ∃ y : Int32, y = vy_16 + 1 := ⟨_, rfl⟩
                refine lv_iinc (v := x_31) (lv' := [(5, .int x_31), (4, .int vy_17), (3, .int vy_4), (2, .int vy_5), (0, .ref (Ya 0)), (1, .int x1)]) hx hb dX2_mostAlike_61 hl (k := 0) rfl (by rw [ex_31]; rfl) (by decide) rfl (fun ls hl₀ => ?_)
                replace hl := hl₀
                clear hl₀
                refine lv_goto (tgt := 16) hx hb dX2_mostAlike_64 (by decide) ?_
                have hb_32 : 0 ≤ (x_31 : Int32).toInt ∧ (7 - (x_31 : Int32).toInt).toNat < n_18 := by
                  have z_1 := Int32.lt_iff_toInt_lt.mp (Int32.not_le.mp c_12)
                  have z_2 := Int32.lt_iff_toInt_lt.mp (Int32.not_le.mp c_24)
                  have z_3 := congrArg Int32.toInt c_30
                  have y_0 : (0 : Int32).toInt = 0 := by decide
                  have y_7 : (7 : Int32).toInt = 7 := by decide
                  have y_1 : (1 : Int32).toInt = 1 := by decide
                  have t_x_31 : x_31.toInt = (vy_16 : Int32).toInt + (1 : Int32).toInt := by rw [ex_31]; exact add_toInt (by omega) (by omega)
                  omega
                exact ih_19 x_31 vy_17 _ _ _ hb_32.1 hb_32.2 (hP.sub [0, 1, 2, 3, 4, 5, 6, 7, 8, 9, 10, 11] rfl) (hD.sub [0, 1, 2, 3, 4, 5, 6, 7, 8, 9, 10, 11] rfl rfl) hS (lv_sub hl [0, 1, 2, 3, 4, 5] rfl)
              · skip
                refine lv_aload_n hx hb dX2_mostAlike_32 rfl (lv_at hl 4 rfl) ?_
                refine gf_X2_22 hx hb hts hown hK hP 0 rfl rfl dX2_mostAlike_33 ?_
                refine lv_iload hx hb dX2_mostAlike_36 (lv_at hl 0 rfl) ?_
                have hi_33 : vp_in vy_16 7 := by
                  have z_1 := Int32.lt_iff_toInt_lt.mp (Int32.not_le.mp c_12)
                  have z_2 := Int32.lt_iff_toInt_lt.mp (Int32.not_le.mp c_24)
                  have z_3 : ¬ (x_29 : Int32).toInt = (0 : Int32).toInt := fun z => c_30 (Int32.toInt_inj.mp z)
                  have y_0 : (0 : Int32).toInt = 0 := by decide
                  have y_7 : (7 : Int32).toInt = 7 := by decide
                  refine vp_in_iff.mpr ⟨?_, ?_⟩ <;> omega
                refine va_zald hx hb hK hP 2 3 rfl rfl hi_33 dX2_mostAlike_38 ?_
                refine lv_topi (fun x_34 ex_34 => ?_)
                refine lv_if_eq (tgt := 61) hx hb dX2_mostAlike_39 (by decide) (fun c_35 => ?_) (fun c_35 => ?_)
                · skip
                  obtain ⟨x_36, ex_36⟩ : ∃ y : Int32, y = vy_16 + 1 := ⟨_, rfl⟩
                  refine lv_iinc (v := x_36) (lv' := [(5, .int x_36), (4, .int vy_17), (3, .int vy_4), (2, .int vy_5), (0, .ref (Ya 0)), (1, .int x1)]) hx hb dX2_mostAlike_61 hl (k := 0) rfl (by rw [ex_36]; rfl) (by decide) rfl (fun ls hl₀ => ?_)
                  replace hl := hl₀
                  clear hl₀
                  refine lv_goto (tgt := 16) hx hb dX2_mostAlike_64 (by decide) ?_
                  have hb_37 : 0 ≤ (x_36 : Int32).toInt ∧ (7 - (x_36 : Int32).toInt).toNat < n_18 := by
                    have z_1 := Int32.lt_iff_toInt_lt.mp (Int32.not_le.mp c_12)
                    have z_2 := Int32.lt_iff_toInt_lt.mp (Int32.not_le.mp c_24)
                    have z_3 : ¬ (x_29 : Int32).toInt = (0 : Int32).toInt := fun z => c_30 (Int32.toInt_inj.mp z)
                    have z_4 := congrArg Int32.toInt c_35
                    have y_0 : (0 : Int32).toInt = 0 := by decide
                    have y_7 : (7 : Int32).toInt = 7 := by decide
                    have y_1 : (1 : Int32).toInt = 1 := by decide
                    have t_x_36 : x_36.toInt = (vy_16 : Int32).toInt + (1 : Int32).toInt := by rw [ex_36]; exact add_toInt (by omega) (by omega)
                    omega
                  exact ih_19 x_36 vy_17 _ _ _ hb_37.1 hb_37.2 (hP.sub [0, 1, 2, 3, 4, 5, 6, 7, 8, 9, 10, 11] rfl) (hD.sub [0, 1, 2, 3, 4, 5, 6, 7, 8, 9, 10, 11] rfl rfl) hS (lv_sub hl [0, 1, 2, 3, 4, 5] rfl)
                · skip
                  refine lv_aload_n hx hb dX2_mostAlike_42 rfl (lv_at hl 4 rfl) ?_
                  refine lv_iload_n hx hb dX2_mostAlike_43 rfl (lv_at hl 2 rfl) ?_
                  refine lv_iload_n hx hb dX2_mostAlike_44 rfl (lv_at hl 5 rfl) ?_
                  refine cV (a := (Ya 0)) (As := [.int vy_4, .int x1]) (rest := []) (wr := []) ⟨hx, hb, hml, hown, hts⟩ hK hX hA (cu_X2_whoOn l D tc sk (Ya 0) (Ya 2) (Ya 3) (Yv 0) (Yf 2) (Yf 3) (Aa 0) (Aa 1) (Aa 2) (Aa 3) (Aa 4) (Aa 5) (Aa 6) (Aa 7) (Aa 8) (Av 0) (Av 1) (Av 2) (Av 3) (Av 4) (Av 5) (Af 1) (Af 2) (Af 3) (Af 4) (Af 5) (Af 6) (Af 7) (Af 8) vy_4 x1) k_991 k_988 k_990 k_20 k_105 pl_X2_whoOn ⟨Nat.le_of_ble_eq_true rfl, Nat.le_of_ble_eq_true rfl⟩ rfl rfl (va_recv hK hP (ci := 2) (q0 := 0) rfl rfl) hP hD hS [0, 1, 2, 3, 4, 5, 6, 7, 8, 9, 10, 11] [] rfl rfl rfl rfl rfl (by decide) rfl hl.1 rfl (Nat.le_of_ble_eq_true rfl) dX2_mostAlike_45 ⟨Nat.le_of_ble_eq_true rfl, Nat.le_of_ble_eq_true rfl⟩ (fun v_38 u_39 H locs hv_40 hP₀ hD₀ hS₀ => ?_)
                  obtain ⟨r_41, rfl, he_42⟩ := hv_40
                  have he_42 : (True) := he_42
                  refine W.eq (g2 := F0 m 48 ls [.int r_41]) rfl ?_
                  replace hP : va_P D classes [((Ya 0), .inr (2, [.ref (Aa 0), .ref (Ya 2), .ref (Ya 3), .int (Yv 0)])), ((Ya 2), .inl (tc 0, 427, .inl (Yf 2))), ((Ya 3), .inl (tc 3, 7, .inl (Yf 3))), ((Aa 0), .inr (9, [.int (Av 0), .int (Av 1), .int (Av 2), .int (Av 3), .int (Av 4), .int (Av 5), .ref (Aa 1), .ref (Aa 2), .ref (Aa 3), .ref (Aa 4), .ref (Aa 5), .ref (Aa 6), .ref (Aa 7), .ref (Aa 8)])), ((Aa 1), .inl (tc 0, 10, .inl (Af 1))), ((Aa 2), .inl (tc 0, 10, .inl (Af 2))), ((Aa 3), .inl (tc 0, 6, .inl (Af 3))), ((Aa 4), .inl (tc 0, 6, .inl (Af 4))), ((Aa 5), .inl (tc 0, 6, .inl (Af 5))), ((Aa 6), .inl (tc 0, 6, .inl (Af 6))), ((Aa 7), .inl (tc 0, 6, .inl (Af 7))), ((Aa 8), .inl (tc 0, 6, .inl (Af 8)))] H := hP₀
                  replace hD : va_D A [((Ya 0), .inr (2, [.ref (Aa 0), .ref (Ya 2), .ref (Ya 3), .int (Yv 0)])), ((Ya 2), .inl (tc 0, 427, .inl (Yf 2))), ((Ya 3), .inl (tc 3, 7, .inl (Yf 3))), ((Aa 0), .inr (9, [.int (Av 0), .int (Av 1), .int (Av 2), .int (Av 3), .int (Av 4), .int (Av 5), .ref (Aa 1), .ref (Aa 2), .ref (Aa 3), .ref (Aa 4), .ref (Aa 5), .ref (Aa 6), .ref (Aa 7), .ref (Aa 8)])), ((Aa 1), .inl (tc 0, 10, .inl (Af 1))), ((Aa 2), .inl (tc 0, 10, .inl (Af 2))), ((Aa 3), .inl (tc 0, 6, .inl (Af 3))), ((Aa 4), .inl (tc 0, 6, .inl (Af 4))), ((Aa 5), .inl (tc 0, 6, .inl (Af 5))), ((Aa 6), .inl (tc 0, 6, .inl (Af 6))), ((Aa 7), .inl (tc 0, 6, .inl (Af 7))), ((Aa 8), .inl (tc 0, 6, .inl (Af 8)))] := hD₀
                  replace hS := hS₀
                  clear hP₀ hD₀ hS₀
                  refine lv_aload_n hx hb dX2_mostAlike_48 rfl (lv_at hl 4 rfl) ?_
                  refine lv_iload hx hb dX2_mostAlike_49 (lv_at hl 0 rfl) ?_
                  refine lv_iload_n hx hb dX2_mostAlike_51 rfl (lv_at hl 5 rfl) ?_
                  refine cV (a := (Ya 0)) (As := [.int vy_16, .int x1]) (rest := [.int r_41]) (wr := []) ⟨hx, hb, hml, hown, hts⟩ hK hX hA (cu_X2_whoOn l D tc sk (Ya 0) (Ya 2) (Ya 3) (Yv 0) (Yf 2) (Yf 3) (Aa 0) (Aa 1) (Aa 2) (Aa 3) (Aa 4) (Aa 5) (Aa 6) (Aa 7) (Aa 8) (Av 0) (Av 1) (Av 2) (Av 3) (Av 4) (Av 5) (Af 1) (Af 2) (Af 3) (Af 4) (Af 5) (Af 6) (Af 7) (Af 8) vy_16 x1) k_991 k_988 k_990 k_20 k_105 pl_X2_whoOn ⟨Nat.le_of_ble_eq_true rfl, Nat.le_of_ble_eq_true rfl⟩ rfl rfl (va_recv hK hP (ci := 2) (q0 := 0) rfl rfl) hP hD hS [0, 1, 2, 3, 4, 5, 6, 7, 8, 9, 10, 11] [] rfl rfl rfl rfl rfl (by decide) rfl hl.1 rfl (Nat.le_of_ble_eq_true rfl) dX2_mostAlike_52 ⟨Nat.le_of_ble_eq_true rfl, Nat.le_of_ble_eq_true rfl⟩ (fun v_43 u_44 H locs hv_45 hP₀ hD₀ hS₀ => ?_)
                  obtain ⟨r_46, rfl, he_47⟩ := hv_45
                  have he_47 : (True) := he_47
                  refine W.eq (g2 := F0 m 55 ls [.int r_46, .int r_41]) rfl ?_
                  replace hP : va_P D classes [((Ya 0), .inr (2, [.ref (Aa 0), .ref (Ya 2), .ref (Ya 3), .int (Yv 0)])), ((Ya 2), .inl (tc 0, 427, .inl (Yf 2))), ((Ya 3), .inl (tc 3, 7, .inl (Yf 3))), ((Aa 0), .inr (9, [.int (Av 0), .int (Av 1), .int (Av 2), .int (Av 3), .int (Av 4), .int (Av 5), .ref (Aa 1), .ref (Aa 2), .ref (Aa 3), .ref (Aa 4), .ref (Aa 5), .ref (Aa 6), .ref (Aa 7), .ref (Aa 8)])), ((Aa 1), .inl (tc 0, 10, .inl (Af 1))), ((Aa 2), .inl (tc 0, 10, .inl (Af 2))), ((Aa 3), .inl (tc 0, 6, .inl (Af 3))), ((Aa 4), .inl (tc 0, 6, .inl (Af 4))), ((Aa 5), .inl (tc 0, 6, .inl (Af 5))), ((Aa 6), .inl (tc 0, 6, .inl (Af 6))), ((Aa 7), .inl (tc 0, 6, .inl (Af 7))), ((Aa 8), .inl (tc 0, 6, .inl (Af 8)))] H := hP₀
                  replace hD : va_D A [((Ya 0), .inr (2, [.ref (Aa 0), .ref (Ya 2), .ref (Ya 3), .int (Yv 0)])), ((Ya 2), .inl (tc 0, 427, .inl (Yf 2))), ((Ya 3), .inl (tc 3, 7, .inl (Yf 3))), ((Aa 0), .inr (9, [.int (Av 0), .int (Av 1), .int (Av 2), .int (Av 3), .int (Av 4), .int (Av 5), .ref (Aa 1), .ref (Aa 2), .ref (Aa 3), .ref (Aa 4), .ref (Aa 5), .ref (Aa 6), .ref (Aa 7), .ref (Aa 8)])), ((Aa 1), .inl (tc 0, 10, .inl (Af 1))), ((Aa 2), .inl (tc 0, 10, .inl (Af 2))), ((Aa 3), .inl (tc 0, 6, .inl (Af 3))), ((Aa 4), .inl (tc 0, 6, .inl (Af 4))), ((Aa 5), .inl (tc 0, 6, .inl (Af 5))), ((Aa 6), .inl (tc 0, 6, .inl (Af 6))), ((Aa 7), .inl (tc 0, 6, .inl (Af 7))), ((Aa 8), .inl (tc 0, 6, .inl (Af 8)))] := hD₀
                  replace hS := hS₀
                  clear hP₀ hD₀ hS₀
                  refine lv_icmp_ne (tgt := 61) hx hb dX2_mostAlike_55 (by decide) (fun c_48 => ?_) (fun c_48 => ?_)
                  · skip
                    obtain ⟨x_49, ex_49⟩ : ∃ y : Int32, y = vy_16 + 1 := ⟨_, rfl⟩
                    refine lv_iinc (v := x_49) (lv' := [(5, .int x_49), (4, .int vy_17), (3, .int vy_4), (2, .int vy_5), (0, .ref (Ya 0)), (1, .int x1)]) hx hb dX2_mostAlike_61 hl (k := 0) rfl (by rw [ex_49]; rfl) (by decide) rfl (fun ls hl₀ => ?_)
                    replace hl := hl₀
                    clear hl₀
                    refine lv_goto (tgt := 16) hx hb dX2_mostAlike_64 (by decide) ?_
                    have hb_50 : 0 ≤ (x_49 : Int32).toInt ∧ (7 - (x_49 : Int32).toInt).toNat < n_18 := by
                      have z_1 := Int32.lt_iff_toInt_lt.mp (Int32.not_le.mp c_12)
                      have z_2 := Int32.lt_iff_toInt_lt.mp (Int32.not_le.mp c_24)
                      have z_3 : ¬ (x_29 : Int32).toInt = (0 : Int32).toInt := fun z => c_30 (Int32.toInt_inj.mp z)
                      have z_4 : ¬ (x_34 : Int32).toInt = (0 : Int32).toInt := fun z => c_35 (Int32.toInt_inj.mp z)
                      have z_5 : ¬ (r_41 : Int32).toInt = (r_46 : Int32).toInt := fun z => c_48 (Int32.toInt_inj.mp z)
                      have y_0 : (0 : Int32).toInt = 0 := by decide
                      have y_7 : (7 : Int32).toInt = 7 := by decide
                      have y_1 : (1 : Int32).toInt = 1 := by decide
                      have t_x_49 : x_49.toInt = (vy_16 : Int32).toInt + (1 : Int32).toInt := by rw [ex_49]; exact add_toInt (by omega) (by omega)
                      omega
                    exact ih_19 x_49 vy_17 _ _ _ hb_50.1 hb_50.2 (hP.sub [0, 1, 2, 3, 4, 5, 6, 7, 8, 9, 10, 11] rfl) (hD.sub [0, 1, 2, 3, 4, 5, 6, 7, 8, 9, 10, 11] rfl rfl) hS (lv_sub hl [0, 1, 2, 3, 4, 5] rfl)
                  · skip
                    obtain ⟨x_51, ex_51⟩ : ∃ y : Int32, y = vy_17 + 1 := ⟨_, rfl⟩
                    refine lv_iinc (v := x_51) (lv' := [(4, .int x_51), (5, .int vy_16), (3, .int vy_4), (2, .int vy_5), (0, .ref (Ya 0)), (1, .int x1)]) hx hb dX2_mostAlike_58 hl (k := 1) rfl (by rw [ex_51]; rfl) (by decide) rfl (fun ls hl₀ => ?_)
                    replace hl := hl₀
                    clear hl₀
                    obtain ⟨x_52, ex_52⟩ : ∃ y : Int32, y = vy_16 + 1 := ⟨_, rfl⟩
                    refine lv_iinc (v := x_52) (lv' := [(5, .int x_52), (4, .int x_51), (3, .int vy_4), (2, .int vy_5), (0, .ref (Ya 0)), (1, .int x1)]) hx hb dX2_mostAlike_61 hl (k := 1) rfl (by rw [ex_52]; rfl) (by decide) rfl (fun ls hl₀ => ?_)
                    replace hl := hl₀
                    clear hl₀
                    refine lv_goto (tgt := 16) hx hb dX2_mostAlike_64 (by decide) ?_
                    have hb_53 : 0 ≤ (x_52 : Int32).toInt ∧ (7 - (x_52 : Int32).toInt).toNat < n_18 := by
                      have z_1 := Int32.lt_iff_toInt_lt.mp (Int32.not_le.mp c_12)
                      have z_2 := Int32.lt_iff_toInt_lt.mp (Int32.not_le.mp c_24)
                      have z_3 : ¬ (x_29 : Int32).toInt = (0 : Int32).toInt := fun z => c_30 (Int32.toInt_inj.mp z)
                      have z_4 : ¬ (x_34 : Int32).toInt = (0 : Int32).toInt := fun z => c_35 (Int32.toInt_inj.mp z)
                      have z_5 := congrArg Int32.toInt c_48
                      have y_0 : (0 : Int32).toInt = 0 := by decide
                      have y_7 : (7 : Int32).toInt = 7 := by decide
                      have y_1 : (1 : Int32).toInt = 1 := by decide
                      have t_x_52 : x_52.toInt = (vy_16 : Int32).toInt + (1 : Int32).toInt := by rw [ex_52]; exact add_toInt (by omega) (by omega)
                      omega
                    exact ih_19 x_52 x_51 _ _ _ hb_53.1 hb_53.2 (hP.sub [0, 1, 2, 3, 4, 5, 6, 7, 8, 9, 10, 11] rfl) (hD.sub [0, 1, 2, 3, 4, 5, 6, 7, 8, 9, 10, 11] rfl rfl) hS (lv_sub hl [0, 1, 2, 3, 4, 5] rfl)
        have h0_54 : 0 ≤ (0 : Int32).toInt := by
          have z_1 := Int32.lt_iff_toInt_lt.mp (Int32.not_le.mp c_12)
          have y_7 : (7 : Int32).toInt = 7 := by decide
          have y_0 : (0 : Int32).toInt = 0 := by decide
          decide
        exact loop_20 _ 0 0 _ _ _ h0_54 (Nat.lt_succ_self _) hP hD hS hl
  have h0_55 : 0 ≤ (0 : Int32).toInt := by
    have y_0 : (0 : Int32).toInt = 0 := by decide
    decide
  exact loop_8 _ 0 0 _ _ _ h0_55 (Nat.lt_succ_self _) hP hD hS hl
set_option maxRecDepth 100000 in
theorem cu_X2_mostAlike (l : Launch) (D : va_G) (tc : Nat → ClassId) (sk : (Nat → Nat) × (Nat → Nat)) (Ya_0 : Nat) (Ya_2 : Nat) (Ya_3 : Nat) (Yv_0 : Int32) (Yf_2 : Nat → Int32) (Yf_3 : Nat → Int32) (Aa_0 : Nat) (Aa_1 : Nat) (Aa_2 : Nat) (Aa_3 : Nat) (Aa_4 : Nat) (Aa_5 : Nat) (Aa_6 : Nat) (Aa_7 : Nat) (Aa_8 : Nat) (Av_0 : Int32) (Av_1 : Int32) (Av_2 : Int32) (Av_3 : Int32) (Av_4 : Int32) (Av_5 : Int32) (Af_1 : Nat → Int32) (Af_2 : Nat → Int32) (Af_3 : Nat → Int32) (Af_4 : Nat → Int32) (Af_5 : Nat → Int32) (Af_6 : Nat → Int32) (Af_7 : Nat → Int32) (Af_8 : Nat → Int32) (x1 : Int32)  : Ct l yX2_mostAlike cX2_mostAlike 6 (some .int) { frames := 1, cells := 0, slots := 0, locals := 23 } D tc sk [.ref Ya_0, .int x1] [(Ya_0, .inr (2, [.ref Aa_0, .ref Ya_2, .ref Ya_3, .int Yv_0])), (Ya_2, .inl (tc 0, 427, .inl Yf_2)), (Ya_3, .inl (tc 3, 7, .inl Yf_3)), (Aa_0, .inr (9, [.int Av_0, .int Av_1, .int Av_2, .int Av_3, .int Av_4, .int Av_5, .ref Aa_1, .ref Aa_2, .ref Aa_3, .ref Aa_4, .ref Aa_5, .ref Aa_6, .ref Aa_7, .ref Aa_8])), (Aa_1, .inl (tc 0, 10, .inl Af_1)), (Aa_2, .inl (tc 0, 10, .inl Af_2)), (Aa_3, .inl (tc 0, 6, .inl Af_3)), (Aa_4, .inl (tc 0, 6, .inl Af_4)), (Aa_5, .inl (tc 0, 6, .inl Af_5)), (Aa_6, .inl (tc 0, 6, .inl Af_6)), (Aa_7, .inl (tc 0, 6, .inl Af_7)), (Aa_8, .inl (tc 0, 6, .inl Af_8))] (fun (v : Option Value) (_ : Unit) => ∃ r : Int32, v = some (.int r) ∧ (True)) (fun (_ : Unit) => [(Ya_0, .inr (2, [.ref Aa_0, .ref Ya_2, .ref Ya_3, .int Yv_0])), (Ya_2, .inl (tc 0, 427, .inl Yf_2)), (Ya_3, .inl (tc 3, 7, .inl Yf_3)), (Aa_0, .inr (9, [.int Av_0, .int Av_1, .int Av_2, .int Av_3, .int Av_4, .int Av_5, .ref Aa_1, .ref Aa_2, .ref Aa_3, .ref Aa_4, .ref Aa_5, .ref Aa_6, .ref Aa_7, .ref Aa_8])), (Aa_1, .inl (tc 0, 10, .inl Af_1)), (Aa_2, .inl (tc 0, 10, .inl Af_2)), (Aa_3, .inl (tc 0, 6, .inl Af_3)), (Aa_4, .inl (tc 0, 6, .inl Af_4)), (Aa_5, .inl (tc 0, 6, .inl Af_5)), (Aa_6, .inl (tc 0, 6, .inl Af_6)), (Aa_7, .inl (tc 0, 6, .inl Af_7)), (Aa_8, .inl (tc 0, 6, .inl Af_8))]) 0 0 :=
  ct_X2_mostAlike l D tc sk (fun k => ([Ya_0, 0, Ya_2, Ya_3] : List (Nat)).getD k 0) (fun k => ([Yv_0] : List (Int32)).getD k 0) (fun k => ([(fun _ => 0), (fun _ => 0), Yf_2, Yf_3] : List (Nat → Int32)).getD k (fun _ => 0)) (fun k => ([Aa_0, Aa_1, Aa_2, Aa_3, Aa_4, Aa_5, Aa_6, Aa_7, Aa_8] : List (Nat)).getD k 0) (fun k => ([Av_0, Av_1, Av_2, Av_3, Av_4, Av_5] : List (Int32)).getD k 0) (fun k => ([(fun _ => 0), Af_1, Af_2, Af_3, Af_4, Af_5, Af_6, Af_7, Af_8] : List (Nat → Int32)).getD k (fun _ => 0)) x1 
set_option maxHeartbeats 4000000 in
set_option maxRecDepth 100000 in
theorem ct_X2_dayToLook (l : Launch) (D : va_G) (tc : Nat → ClassId) (sk : (Nat → Nat) × (Nat → Nat)) (Ya : Nat → Nat) (Yv : Nat → Int32) (Yf : Nat → Nat → Int32) (Aa : Nat → Nat) (Av : Nat → Int32) (Af : Nat → Nat → Int32) (x1 : Int32)  : Ct l yX2_dayToLook cX2_dayToLook 6 (some .int) { frames := 2, cells := 0, slots := 0, locals := 48 } D tc sk [.ref (Ya 0), .int x1] [((Ya 0), .inr (2, [.ref (Aa 0), .ref (Ya 2), .ref (Ya 3), .int (Yv 0)])), ((Ya 2), .inl (tc 0, 427, .inl (Yf 2))), ((Ya 3), .inl (tc 3, 7, .inl (Yf 3))), ((Aa 0), .inr (9, [.int (Av 0), .int (Av 1), .int (Av 2), .int (Av 3), .int (Av 4), .int (Av 5), .ref (Aa 1), .ref (Aa 2), .ref (Aa 3), .ref (Aa 4), .ref (Aa 5), .ref (Aa 6), .ref (Aa 7), .ref (Aa 8)])), ((Aa 1), .inl (tc 0, 10, .inl (Af 1))), ((Aa 2), .inl (tc 0, 10, .inl (Af 2))), ((Aa 3), .inl (tc 0, 6, .inl (Af 3))), ((Aa 4), .inl (tc 0, 6, .inl (Af 4))), ((Aa 5), .inl (tc 0, 6, .inl (Af 5))), ((Aa 6), .inl (tc 0, 6, .inl (Af 6))), ((Aa 7), .inl (tc 0, 6, .inl (Af 7))), ((Aa 8), .inl (tc 0, 6, .inl (Af 8)))] (fun (v : Option Value) (_ : Unit) => ∃ r : Int32, v = some (.int r) ∧ (True)) (fun (_ : Unit) => [((Ya 0), .inr (2, [.ref (Aa 0), .ref (Ya 2), .ref (Ya 3), .int (Yv 0)])), ((Ya 2), .inl (tc 0, 427, .inl (Yf 2))), ((Ya 3), .inl (tc 3, 7, .inl (Yf 3))), ((Aa 0), .inr (9, [.int (Av 0), .int (Av 1), .int (Av 2), .int (Av 3), .int (Av 4), .int (Av 5), .ref (Aa 1), .ref (Aa 2), .ref (Aa 3), .ref (Aa 4), .ref (Aa 5), .ref (Aa 6), .ref (Aa 7), .ref (Aa 8)])), ((Aa 1), .inl (tc 0, 10, .inl (Af 1))), ((Aa 2), .inl (tc 0, 10, .inl (Af 2))), ((Aa 3), .inl (tc 0, 6, .inl (Af 3))), ((Aa 4), .inl (tc 0, 6, .inl (Af 4))), ((Aa 5), .inl (tc 0, 6, .inl (Af 5))), ((Aa 6), .inl (tc 0, 6, .inl (Af 6))), ((Aa 7), .inl (tc 0, 6, .inl (Af 7))), ((Aa 8), .inl (tc 0, 6, .inl (Af 8)))]) 0 0 := by
  refine Ct.start (by decide) (Nat.le_of_ble_eq_true rfl) (fun p e s m below meth c A ls hx hb hr hlk hin hml hown hts hK hX hP hD hA hl hS => ?_)
  have hl : lv_has ls 6 [(0, .ref (Ya 0)), (1, .int x1)] := hl
  refine lv_aload_n hx hb dX2_dayToLook_0 rfl (lv_at hl 0 rfl) ?_
  refine gf_X2_26 hx hb hts hown hK hP 0 rfl rfl dX2_dayToLook_1 ?_
  refine lv_if_ne (tgt := 10) hx hb dX2_dayToLook_4 (by decide) (fun c_1 => ?_) (fun c_1 => ?_)
  · skip
    refine lv_iconst (v := 0) hx hb dX2_dayToLook_10 (by decide) ?_
    refine lv_istore_n (lv' := [(2, .int 0), (0, .ref (Ya 0)), (1, .int x1)]) hx hb dX2_dayToLook_11 rfl hl (by decide) rfl (fun ls hl₀ => ?_)
    replace hl := hl₀
    clear hl₀
    refine lv_bipush (v := 8) hx hb dX2_dayToLook_12 (by decide) ?_
    refine lv_istore_n (lv' := [(3, .int 8), (2, .int 0), (0, .ref (Ya 0)), (1, .int x1)]) hx hb dX2_dayToLook_14 rfl hl (by decide) rfl (fun ls hl₀ => ?_)
    replace hl := hl₀
    clear hl₀
    refine lv_iconst (v := 0) hx hb dX2_dayToLook_15 (by decide) ?_
    refine lv_istore (lv' := [(4, .int 0), (3, .int 8), (2, .int 0), (0, .ref (Ya 0)), (1, .int x1)]) hx hb dX2_dayToLook_16 hl (by decide) rfl (fun ls hl₀ => ?_)
    replace hl := hl₀
    clear hl₀
    have loop_11 : ∀ (n_9 : Nat) (vy_6 : Int32) (vy_7 : Int32) (vy_8 : Int32) (H : Heap) (locs : List Loc) (ls : Array Slot), 0 ≤ (vy_6 : Int32).toInt → (61 - (vy_6 : Int32).toInt).toNat < n_9 → va_P D classes [((Ya 0), .inr (2, [.ref (Aa 0), .ref (Ya 2), .ref (Ya 3), .int (Yv 0)])), ((Ya 2), .inl (tc 0, 427, .inl (Yf 2))), ((Ya 3), .inl (tc 3, 7, .inl (Yf 3))), ((Aa 0), .inr (9, [.int (Av 0), .int (Av 1), .int (Av 2), .int (Av 3), .int (Av 4), .int (Av 5), .ref (Aa 1), .ref (Aa 2), .ref (Aa 3), .ref (Aa 4), .ref (Aa 5), .ref (Aa 6), .ref (Aa 7), .ref (Aa 8)])), ((Aa 1), .inl (tc 0, 10, .inl (Af 1))), ((Aa 2), .inl (tc 0, 10, .inl (Af 2))), ((Aa 3), .inl (tc 0, 6, .inl (Af 3))), ((Aa 4), .inl (tc 0, 6, .inl (Af 4))), ((Aa 5), .inl (tc 0, 6, .inl (Af 5))), ((Aa 6), .inl (tc 0, 6, .inl (Af 6))), ((Aa 7), .inl (tc 0, 6, .inl (Af 7))), ((Aa 8), .inl (tc 0, 6, .inl (Af 8)))] H → va_D A [((Ya 0), .inr (2, [.ref (Aa 0), .ref (Ya 2), .ref (Ya 3), .int (Yv 0)])), ((Ya 2), .inl (tc 0, 427, .inl (Yf 2))), ((Ya 3), .inl (tc 3, 7, .inl (Yf 3))), ((Aa 0), .inr (9, [.int (Av 0), .int (Av 1), .int (Av 2), .int (Av 3), .int (Av 4), .int (Av 5), .ref (Aa 1), .ref (Aa 2), .ref (Aa 3), .ref (Aa 4), .ref (Aa 5), .ref (Aa 6), .ref (Aa 7), .ref (Aa 8)])), ((Aa 1), .inl (tc 0, 10, .inl (Af 1))), ((Aa 2), .inl (tc 0, 10, .inl (Af 2))), ((Aa 3), .inl (tc 0, 6, .inl (Af 3))), ((Aa 4), .inl (tc 0, 6, .inl (Af 4))), ((Aa 5), .inl (tc 0, 6, .inl (Af 5))), ((Aa 6), .inl (tc 0, 6, .inl (Af 6))), ((Aa 7), .inl (tc 0, 6, .inl (Af 7))), ((Aa 8), .inl (tc 0, 6, .inl (Af 8)))] → va_S A s.heap H locs → lv_has ls 6 [(4, .int vy_6), (3, .int vy_7), (2, .int vy_8), (0, .ref (Ya 0)), (1, .int x1)] → W p l e ({ frames := 2, cells := 0, slots := 0, locals := 48 }) s m ([.ref (Ya 0), .int x1].toArray) below meth c H locs 0 0 (MQ below (QW (fun (v : Option Value) (_ : Unit) => ∃ r : Int32, v = some (.int r) ∧ (True)) (BW D (fun (_ : Unit) => [((Ya 0), .inr (2, [.ref (Aa 0), .ref (Ya 2), .ref (Ya 3), .int (Yv 0)])), ((Ya 2), .inl (tc 0, 427, .inl (Yf 2))), ((Ya 3), .inl (tc 3, 7, .inl (Yf 3))), ((Aa 0), .inr (9, [.int (Av 0), .int (Av 1), .int (Av 2), .int (Av 3), .int (Av 4), .int (Av 5), .ref (Aa 1), .ref (Aa 2), .ref (Aa 3), .ref (Aa 4), .ref (Aa 5), .ref (Aa 6), .ref (Aa 7), .ref (Aa 8)])), ((Aa 1), .inl (tc 0, 10, .inl (Af 1))), ((Aa 2), .inl (tc 0, 10, .inl (Af 2))), ((Aa 3), .inl (tc 0, 6, .inl (Af 3))), ((Aa 4), .inl (tc 0, 6, .inl (Af 4))), ((Aa 5), .inl (tc 0, 6, .inl (Af 5))), ((Aa 6), .inl (tc 0, 6, .inl (Af 6))), ((Aa 7), .inl (tc 0, 6, .inl (Af 7))), ((Aa 8), .inl (tc 0, 6, .inl (Af 8)))]) A) A) ([.ref (Ya 0), .int x1].toArray) s 0 0 A) (F0 m 18 ls []) := by
      clear hP hD hS hl
      intro n_9
      induction n_9 with
      | zero =>
        intro vy_6 vy_7 vy_8 H locs ls h1 h2
        exact absurd h2 (Nat.not_lt_zero _)
      | succ n_9 ih_10 =>
        intro vy_6 vy_7 vy_8 H locs ls hi_13 hn_14 hP hD hS hl
        refine lv_iload hx hb dX2_dayToLook_18 (lv_at hl 0 rfl) ?_
        refine lv_bipush (v := 61) hx hb dX2_dayToLook_20 (by decide) ?_
        refine lv_icmp_ge (tgt := 51) hx hb dX2_dayToLook_22 (by decide) (fun c_15 => ?_) (fun c_15 => ?_)
        · skip
          refine lv_iload_n hx hb dX2_dayToLook_51 rfl (lv_at hl 4 rfl) ?_
          refine lv_if_ne (tgt := 59) hx hb dX2_dayToLook_52 (by decide) (fun c_16 => ?_) (fun c_16 => ?_)
          · skip
            refine lv_iload_n hx hb dX2_dayToLook_59 rfl (lv_at hl 1 rfl) ?_
            exact retI (v := vy_7) hx hb hr hlk (rfl) hP hD hS () ⟨_, rfl, trivial⟩ [0, 1, 2, 3, 4, 5, 6, 7, 8, 9, 10, 11] rfl rfl dX2_dayToLook_60 (Nat.le_of_ble_eq_true rfl) (Nat.le_of_ble_eq_true rfl) rfl
          · skip
            refine lv_iload_n hx hb dX2_dayToLook_55 rfl (lv_at hl 2 rfl) ?_
            refine lv_goto (tgt := 60) hx hb dX2_dayToLook_56 (by decide) ?_
            exact retI (v := vy_8) hx hb hr hlk (rfl) hP hD hS () ⟨_, rfl, trivial⟩ [0, 1, 2, 3, 4, 5, 6, 7, 8, 9, 10, 11] rfl rfl dX2_dayToLook_60 (Nat.le_of_ble_eq_true rfl) (Nat.le_of_ble_eq_true rfl) rfl
        · skip
          refine lv_aload_n hx hb dX2_dayToLook_25 rfl (lv_at hl 3 rfl) ?_
          refine lv_iload hx hb dX2_dayToLook_26 (lv_at hl 0 rfl) ?_
          refine cV (a := (Ya 0)) (As := [.int vy_6]) (rest := []) (wr := []) ⟨hx, hb, hml, hown, hts⟩ hK hX hA (cu_X2_mostAlike l D tc sk (Ya 0) (Ya 2) (Ya 3) (Yv 0) (Yf 2) (Yf 3) (Aa 0) (Aa 1) (Aa 2) (Aa 3) (Aa 4) (Aa 5) (Aa 6) (Aa 7) (Aa 8) (Av 0) (Av 1) (Av 2) (Av 3) (Av 4) (Av 5) (Af 1) (Af 2) (Af 3) (Af 4) (Af 5) (Af 6) (Af 7) (Af 8) vy_6) k_1007 k_1004 k_1006 k_21 k_105 pl_X2_mostAlike ⟨Nat.le_of_ble_eq_true rfl, Nat.le_of_ble_eq_true rfl⟩ rfl rfl (va_recv hK hP (ci := 2) (q0 := 0) rfl rfl) hP hD hS [0, 1, 2, 3, 4, 5, 6, 7, 8, 9, 10, 11] [] rfl rfl rfl rfl rfl (by decide) rfl hl.1 rfl (Nat.le_of_ble_eq_true rfl) dX2_dayToLook_28 ⟨Nat.le_of_ble_eq_true rfl, Nat.le_of_ble_eq_true rfl⟩ (fun v_17 u_18 H locs hv_19 hP₀ hD₀ hS₀ => ?_)
          obtain ⟨r_20, rfl, he_21⟩ := hv_19
          have he_21 : (True) := he_21
          refine W.eq (g2 := F0 m 31 ls [.int r_20]) rfl ?_
          replace hP : va_P D classes [((Ya 0), .inr (2, [.ref (Aa 0), .ref (Ya 2), .ref (Ya 3), .int (Yv 0)])), ((Ya 2), .inl (tc 0, 427, .inl (Yf 2))), ((Ya 3), .inl (tc 3, 7, .inl (Yf 3))), ((Aa 0), .inr (9, [.int (Av 0), .int (Av 1), .int (Av 2), .int (Av 3), .int (Av 4), .int (Av 5), .ref (Aa 1), .ref (Aa 2), .ref (Aa 3), .ref (Aa 4), .ref (Aa 5), .ref (Aa 6), .ref (Aa 7), .ref (Aa 8)])), ((Aa 1), .inl (tc 0, 10, .inl (Af 1))), ((Aa 2), .inl (tc 0, 10, .inl (Af 2))), ((Aa 3), .inl (tc 0, 6, .inl (Af 3))), ((Aa 4), .inl (tc 0, 6, .inl (Af 4))), ((Aa 5), .inl (tc 0, 6, .inl (Af 5))), ((Aa 6), .inl (tc 0, 6, .inl (Af 6))), ((Aa 7), .inl (tc 0, 6, .inl (Af 7))), ((Aa 8), .inl (tc 0, 6, .inl (Af 8)))] H := hP₀
          replace hD : va_D A [((Ya 0), .inr (2, [.ref (Aa 0), .ref (Ya 2), .ref (Ya 3), .int (Yv 0)])), ((Ya 2), .inl (tc 0, 427, .inl (Yf 2))), ((Ya 3), .inl (tc 3, 7, .inl (Yf 3))), ((Aa 0), .inr (9, [.int (Av 0), .int (Av 1), .int (Av 2), .int (Av 3), .int (Av 4), .int (Av 5), .ref (Aa 1), .ref (Aa 2), .ref (Aa 3), .ref (Aa 4), .ref (Aa 5), .ref (Aa 6), .ref (Aa 7), .ref (Aa 8)])), ((Aa 1), .inl (tc 0, 10, .inl (Af 1))), ((Aa 2), .inl (tc 0, 10, .inl (Af 2))), ((Aa 3), .inl (tc 0, 6, .inl (Af 3))), ((Aa 4), .inl (tc 0, 6, .inl (Af 4))), ((Aa 5), .inl (tc 0, 6, .inl (Af 5))), ((Aa 6), .inl (tc 0, 6, .inl (Af 6))), ((Aa 7), .inl (tc 0, 6, .inl (Af 7))), ((Aa 8), .inl (tc 0, 6, .inl (Af 8)))] := hD₀
          replace hS := hS₀
          clear hP₀ hD₀ hS₀
          refine lv_istore (lv' := [(5, .int r_20), (4, .int vy_6), (3, .int vy_7), (2, .int vy_8), (0, .ref (Ya 0)), (1, .int x1)]) hx hb dX2_dayToLook_31 hl (by decide) rfl (fun ls hl₀ => ?_)
          replace hl := hl₀
          clear hl₀
          refine lv_iload hx hb dX2_dayToLook_33 (lv_at hl 0 rfl) ?_
          refine lv_iload_n hx hb dX2_dayToLook_35 rfl (lv_at hl 2 rfl) ?_
          refine lv_icmp_ge (tgt := 45) hx hb dX2_dayToLook_36 (by decide) (fun c_22 => ?_) (fun c_22 => ?_)
          · skip
            obtain ⟨x_23, ex_23⟩ : ∃ y : Int32, y = vy_6 + 1 := ⟨_, rfl⟩
            refine lv_iinc (v := x_23) (lv' := [(4, .int x_23), (5, .int r_20), (3, .int vy_7), (2, .int vy_8), (0, .ref (Ya 0)), (1, .int x1)]) hx hb dX2_dayToLook_45 hl (k := 1) rfl (by rw [ex_23]; rfl) (by decide) rfl (fun ls hl₀ => ?_)
            replace hl := hl₀
            clear hl₀
            refine lv_goto (tgt := 18) hx hb dX2_dayToLook_48 (by decide) ?_
            have hb_24 : 0 ≤ (x_23 : Int32).toInt ∧ (61 - (x_23 : Int32).toInt).toNat < n_9 := by
              have z_1 : ¬ ((Yv 0) : Int32).toInt = (0 : Int32).toInt := fun z => c_1 (Int32.toInt_inj.mp z)
              have z_2 := Int32.lt_iff_toInt_lt.mp (Int32.not_le.mp c_15)
              have z_3 := Int32.le_iff_toInt_le.mp c_22
              have y_0 : (0 : Int32).toInt = 0 := by decide
              have y_61 : (61 : Int32).toInt = 61 := by decide
              have y_1 : (1 : Int32).toInt = 1 := by decide
              have t_x_23 : x_23.toInt = (vy_6 : Int32).toInt + (1 : Int32).toInt := by rw [ex_23]; exact add_toInt (by omega) (by omega)
              omega
            exact ih_10 x_23 vy_7 vy_8 _ _ _ hb_24.1 hb_24.2 (hP.sub [0, 1, 2, 3, 4, 5, 6, 7, 8, 9, 10, 11] rfl) (hD.sub [0, 1, 2, 3, 4, 5, 6, 7, 8, 9, 10, 11] rfl rfl) hS (lv_sub hl [0, 2, 3, 4, 5] rfl)
          · skip
            refine lv_iload hx hb dX2_dayToLook_39 (lv_at hl 0 rfl) ?_
            refine lv_istore_n (lv' := [(3, .int r_20), (5, .int r_20), (4, .int vy_6), (2, .int vy_8), (0, .ref (Ya 0)), (1, .int x1)]) hx hb dX2_dayToLook_41 rfl hl (by decide) rfl (fun ls hl₀ => ?_)
            replace hl := hl₀
            clear hl₀
            refine lv_iload hx hb dX2_dayToLook_42 (lv_at hl 2 rfl) ?_
            refine lv_istore_n (lv' := [(2, .int vy_6), (3, .int r_20), (5, .int r_20), (4, .int vy_6), (0, .ref (Ya 0)), (1, .int x1)]) hx hb dX2_dayToLook_44 rfl hl (by decide) rfl (fun ls hl₀ => ?_)
            replace hl := hl₀
            clear hl₀
            obtain ⟨x_25, ex_25⟩ : ∃ y : Int32, y = vy_6 + 1 := ⟨_, rfl⟩
            refine lv_iinc (v := x_25) (lv' := [(4, .int x_25), (2, .int vy_6), (3, .int r_20), (5, .int r_20), (0, .ref (Ya 0)), (1, .int x1)]) hx hb dX2_dayToLook_45 hl (k := 3) rfl (by rw [ex_25]; rfl) (by decide) rfl (fun ls hl₀ => ?_)
            replace hl := hl₀
            clear hl₀
            refine lv_goto (tgt := 18) hx hb dX2_dayToLook_48 (by decide) ?_
            have hb_26 : 0 ≤ (x_25 : Int32).toInt ∧ (61 - (x_25 : Int32).toInt).toNat < n_9 := by
              have z_1 : ¬ ((Yv 0) : Int32).toInt = (0 : Int32).toInt := fun z => c_1 (Int32.toInt_inj.mp z)
              have z_2 := Int32.lt_iff_toInt_lt.mp (Int32.not_le.mp c_15)
              have z_3 := Int32.lt_iff_toInt_lt.mp (Int32.not_le.mp c_22)
              have y_0 : (0 : Int32).toInt = 0 := by decide
              have y_61 : (61 : Int32).toInt = 61 := by decide
              have y_1 : (1 : Int32).toInt = 1 := by decide
              have t_x_25 : x_25.toInt = (vy_6 : Int32).toInt + (1 : Int32).toInt := by rw [ex_25]; exact add_toInt (by omega) (by omega)
              omega
            exact ih_10 x_25 r_20 vy_6 _ _ _ hb_26.1 hb_26.2 (hP.sub [0, 1, 2, 3, 4, 5, 6, 7, 8, 9, 10, 11] rfl) (hD.sub [0, 1, 2, 3, 4, 5, 6, 7, 8, 9, 10, 11] rfl rfl) hS (lv_sub hl [0, 2, 1, 4, 5] rfl)
    have h0_27 : 0 ≤ (0 : Int32).toInt := by
      have z_1 : ¬ ((Yv 0) : Int32).toInt = (0 : Int32).toInt := fun z => c_1 (Int32.toInt_inj.mp z)
      have y_0 : (0 : Int32).toInt = 0 := by decide
      decide
    exact loop_11 _ 0 8 0 _ _ _ h0_27 (Nat.lt_succ_self _) hP hD hS hl
  · skip
    refine lv_bipush (v := (-2)) hx hb dX2_dayToLook_7 (by decide) ?_
    exact retI (v := (-2)) hx hb hr hlk (rfl) hP hD hS () ⟨_, rfl, trivial⟩ [0, 1, 2, 3, 4, 5, 6, 7, 8, 9, 10, 11] rfl rfl dX2_dayToLook_9 (Nat.le_of_ble_eq_true rfl) (Nat.le_of_ble_eq_true rfl) rfl
set_option maxRecDepth 100000 in
theorem cu_X2_dayToLook (l : Launch) (D : va_G) (tc : Nat → ClassId) (sk : (Nat → Nat) × (Nat → Nat)) (Ya_0 : Nat) (Ya_2 : Nat) (Ya_3 : Nat) (Yv_0 : Int32) (Yf_2 : Nat → Int32) (Yf_3 : Nat → Int32) (Aa_0 : Nat) (Aa_1 : Nat) (Aa_2 : Nat) (Aa_3 : Nat) (Aa_4 : Nat) (Aa_5 : Nat) (Aa_6 : Nat) (Aa_7 : Nat) (Aa_8 : Nat) (Av_0 : Int32) (Av_1 : Int32) (Av_2 : Int32) (Av_3 : Int32) (Av_4 : Int32) (Av_5 : Int32) (Af_1 : Nat → Int32) (Af_2 : Nat → Int32) (Af_3 : Nat → Int32) (Af_4 : Nat → Int32) (Af_5 : Nat → Int32) (Af_6 : Nat → Int32) (Af_7 : Nat → Int32) (Af_8 : Nat → Int32) (x1 : Int32)  : Ct l yX2_dayToLook cX2_dayToLook 6 (some .int) { frames := 2, cells := 0, slots := 0, locals := 48 } D tc sk [.ref Ya_0, .int x1] [(Ya_0, .inr (2, [.ref Aa_0, .ref Ya_2, .ref Ya_3, .int Yv_0])), (Ya_2, .inl (tc 0, 427, .inl Yf_2)), (Ya_3, .inl (tc 3, 7, .inl Yf_3)), (Aa_0, .inr (9, [.int Av_0, .int Av_1, .int Av_2, .int Av_3, .int Av_4, .int Av_5, .ref Aa_1, .ref Aa_2, .ref Aa_3, .ref Aa_4, .ref Aa_5, .ref Aa_6, .ref Aa_7, .ref Aa_8])), (Aa_1, .inl (tc 0, 10, .inl Af_1)), (Aa_2, .inl (tc 0, 10, .inl Af_2)), (Aa_3, .inl (tc 0, 6, .inl Af_3)), (Aa_4, .inl (tc 0, 6, .inl Af_4)), (Aa_5, .inl (tc 0, 6, .inl Af_5)), (Aa_6, .inl (tc 0, 6, .inl Af_6)), (Aa_7, .inl (tc 0, 6, .inl Af_7)), (Aa_8, .inl (tc 0, 6, .inl Af_8))] (fun (v : Option Value) (_ : Unit) => ∃ r : Int32, v = some (.int r) ∧ (True)) (fun (_ : Unit) => [(Ya_0, .inr (2, [.ref Aa_0, .ref Ya_2, .ref Ya_3, .int Yv_0])), (Ya_2, .inl (tc 0, 427, .inl Yf_2)), (Ya_3, .inl (tc 3, 7, .inl Yf_3)), (Aa_0, .inr (9, [.int Av_0, .int Av_1, .int Av_2, .int Av_3, .int Av_4, .int Av_5, .ref Aa_1, .ref Aa_2, .ref Aa_3, .ref Aa_4, .ref Aa_5, .ref Aa_6, .ref Aa_7, .ref Aa_8])), (Aa_1, .inl (tc 0, 10, .inl Af_1)), (Aa_2, .inl (tc 0, 10, .inl Af_2)), (Aa_3, .inl (tc 0, 6, .inl Af_3)), (Aa_4, .inl (tc 0, 6, .inl Af_4)), (Aa_5, .inl (tc 0, 6, .inl Af_5)), (Aa_6, .inl (tc 0, 6, .inl Af_6)), (Aa_7, .inl (tc 0, 6, .inl Af_7)), (Aa_8, .inl (tc 0, 6, .inl Af_8))]) 0 0 :=
  ct_X2_dayToLook l D tc sk (fun k => ([Ya_0, 0, Ya_2, Ya_3] : List (Nat)).getD k 0) (fun k => ([Yv_0] : List (Int32)).getD k 0) (fun k => ([(fun _ => 0), (fun _ => 0), Yf_2, Yf_3] : List (Nat → Int32)).getD k (fun _ => 0)) (fun k => ([Aa_0, Aa_1, Aa_2, Aa_3, Aa_4, Aa_5, Aa_6, Aa_7, Aa_8] : List (Nat)).getD k 0) (fun k => ([Av_0, Av_1, Av_2, Av_3, Av_4, Av_5] : List (Int32)).getD k 0) (fun k => ([(fun _ => 0), Af_1, Af_2, Af_3, Af_4, Af_5, Af_6, Af_7, Af_8] : List (Nat → Int32)).getD k (fun _ => 0)) x1 
