theorem lenS_all : ∀ i, i < 7 → lenS.getD i 0 ≤ 75 := by decide
theorem lenS_le {i : Nat} (h : i < 7) : lenS.getD i 0 ≤ 75 := lenS_all i h
theorem nar_ch (b : Int32) : narrow .char (.int ((b &&& 255).toUInt32 % 65536).toInt32) = .int ((b &&& 255).toUInt32 % 65536).toInt32 := by rw [sc_c2]; exact sc_nar b
theorem dX10_add_0 : decode cX10_add 0 = .ok (.bipush 24, 2) := by decide +kernel
theorem dX10_add_2 : decode cX10_add 2 = .ok (.istore_n 2, 1) := by decide +kernel
theorem dX10_add_3 : decode cX10_add 3 = .ok (.iload_n 2, 1) := by decide +kernel
theorem dX10_add_4 : decode cX10_add 4 = .ok (.ifCond .lt 54, 3) := by decide +kernel
theorem dX10_add_7 : decode cX10_add 7 = .ok (.aload_n 0, 1) := by decide +kernel
theorem dX10_add_8 : decode cX10_add 8 = .ok (.getfield 15, 3) := by decide +kernel
theorem dX10_add_11 : decode cX10_add 11 = .ok (.ifCond .lt 41, 3) := by decide +kernel
theorem dX10_add_14 : decode cX10_add 14 = .ok (.aload_n 0, 1) := by decide +kernel
theorem dX10_add_15 : decode cX10_add 15 = .ok (.getfield 15, 3) := by decide +kernel
theorem dX10_add_18 : decode cX10_add 18 = .ok (.aload_n 0, 1) := by decide +kernel
theorem dX10_add_19 : decode cX10_add 19 = .ok (.getfield 9, 3) := by decide +kernel
theorem dX10_add_22 : decode cX10_add 22 = .ok (.arraylength, 1) := by decide +kernel
theorem dX10_add_23 : decode cX10_add 23 = .ok (.if_icmp .ge 29, 3) := by decide +kernel
theorem dX10_add_26 : decode cX10_add 26 = .ok (.aload_n 0, 1) := by decide +kernel
theorem dX10_add_27 : decode cX10_add 27 = .ok (.getfield 9, 3) := by decide +kernel
theorem dX10_add_30 : decode cX10_add 30 = .ok (.aload_n 0, 1) := by decide +kernel
theorem dX10_add_31 : decode cX10_add 31 = .ok (.getfield 15, 3) := by decide +kernel
theorem dX10_add_34 : decode cX10_add 34 = .ok (.iload_n 1, 1) := by decide +kernel
theorem dX10_add_35 : decode cX10_add 35 = .ok (.iload_n 2, 1) := by decide +kernel
theorem dX10_add_36 : decode cX10_add 36 = .ok (.iushr, 1) := by decide +kernel
theorem dX10_add_37 : decode cX10_add 37 = .ok (.sipush 255, 3) := by decide +kernel
theorem dX10_add_40 : decode cX10_add 40 = .ok (.iand, 1) := by decide +kernel
theorem dX10_add_41 : decode cX10_add 41 = .ok (.iastore, 1) := by decide +kernel
theorem dX10_add_42 : decode cX10_add 42 = .ok (.aload_n 0, 1) := by decide +kernel
theorem dX10_add_43 : decode cX10_add 43 = .ok (.dup, 1) := by decide +kernel
theorem dX10_add_44 : decode cX10_add 44 = .ok (.getfield 15, 3) := by decide +kernel
theorem dX10_add_47 : decode cX10_add 47 = .ok (.iconst 1, 1) := by decide +kernel
theorem dX10_add_48 : decode cX10_add 48 = .ok (.iadd, 1) := by decide +kernel
theorem dX10_add_49 : decode cX10_add 49 = .ok (.putfield 15, 3) := by decide +kernel
theorem dX10_add_52 : decode cX10_add 52 = .ok (.iinc 2 (-8), 3) := by decide +kernel
theorem dX10_add_55 : decode cX10_add 55 = .ok (.goto (-52), 3) := by decide +kernel
theorem dX10_add_58 : decode cX10_add 58 = .ok (.return_, 1) := by decide +kernel
theorem dX10_begin_0 : decode cX10_begin 0 = .ok (.aload_n 0, 1) := by decide +kernel
theorem dX10_begin_1 : decode cX10_begin 1 = .ok (.iconst 0, 1) := by decide +kernel
theorem dX10_begin_2 : decode cX10_begin 2 = .ok (.putfield 28, 3) := by decide +kernel
theorem dX10_begin_5 : decode cX10_begin 5 = .ok (.aload_n 0, 1) := by decide +kernel
theorem dX10_begin_6 : decode cX10_begin 6 = .ok (.iconst 0, 1) := by decide +kernel
theorem dX10_begin_7 : decode cX10_begin 7 = .ok (.putfield 22, 3) := by decide +kernel
theorem dX10_begin_10 : decode cX10_begin 10 = .ok (.aload_n 0, 1) := by decide +kernel
theorem dX10_begin_11 : decode cX10_begin 11 = .ok (.invokevirtual 31, 3) := by decide +kernel
theorem dX10_begin_14 : decode cX10_begin 14 = .ok (.return_, 1) := by decide +kernel
theorem dX10_byteAt_0 : decode cX10_byteAt 0 = .ok (.iload_n 1, 1) := by decide +kernel
theorem dX10_byteAt_1 : decode cX10_byteAt 1 = .ok (.ifCond .lt 29, 3) := by decide +kernel
theorem dX10_byteAt_4 : decode cX10_byteAt 4 = .ok (.iload_n 1, 1) := by decide +kernel
theorem dX10_byteAt_5 : decode cX10_byteAt 5 = .ok (.aload_n 0, 1) := by decide +kernel
theorem dX10_byteAt_6 : decode cX10_byteAt 6 = .ok (.getfield 15, 3) := by decide +kernel
theorem dX10_byteAt_9 : decode cX10_byteAt 9 = .ok (.if_icmp .ge 21, 3) := by decide +kernel
theorem dX10_byteAt_12 : decode cX10_byteAt 12 = .ok (.iload_n 1, 1) := by decide +kernel
theorem dX10_byteAt_13 : decode cX10_byteAt 13 = .ok (.aload_n 0, 1) := by decide +kernel
theorem dX10_byteAt_14 : decode cX10_byteAt 14 = .ok (.getfield 9, 3) := by decide +kernel
theorem dX10_byteAt_17 : decode cX10_byteAt 17 = .ok (.arraylength, 1) := by decide +kernel
theorem dX10_byteAt_18 : decode cX10_byteAt 18 = .ok (.if_icmp .ge 12, 3) := by decide +kernel
theorem dX10_byteAt_21 : decode cX10_byteAt 21 = .ok (.aload_n 0, 1) := by decide +kernel
theorem dX10_byteAt_22 : decode cX10_byteAt 22 = .ok (.getfield 9, 3) := by decide +kernel
theorem dX10_byteAt_25 : decode cX10_byteAt 25 = .ok (.iload_n 1, 1) := by decide +kernel
theorem dX10_byteAt_26 : decode cX10_byteAt 26 = .ok (.iaload, 1) := by decide +kernel
theorem dX10_byteAt_27 : decode cX10_byteAt 27 = .ok (.goto 4, 3) := by decide +kernel
theorem dX10_byteAt_30 : decode cX10_byteAt 30 = .ok (.iconst (-1), 1) := by decide +kernel
theorem dX10_byteAt_31 : decode cX10_byteAt 31 = .ok (.ireturn, 1) := by decide +kernel
theorem dX10_fail_0 : decode cX10_fail 0 = .ok (.aload_n 0, 1) := by decide +kernel
theorem dX10_fail_1 : decode cX10_fail 1 = .ok (.getfield 28, 3) := by decide +kernel
theorem dX10_fail_4 : decode cX10_fail 4 = .ok (.ifCond .ne 23, 3) := by decide +kernel
theorem dX10_fail_7 : decode cX10_fail 7 = .ok (.aload_n 0, 1) := by decide +kernel
theorem dX10_fail_8 : decode cX10_fail 8 = .ok (.iconst 1, 1) := by decide +kernel
theorem dX10_fail_9 : decode cX10_fail 9 = .ok (.bipush 8, 2) := by decide +kernel
theorem dX10_fail_11 : decode cX10_fail 11 = .ok (.aload_n 0, 1) := by decide +kernel
theorem dX10_fail_12 : decode cX10_fail 12 = .ok (.getfield 19, 3) := by decide +kernel
theorem dX10_fail_15 : decode cX10_fail 15 = .ok (.imul, 1) := by decide +kernel
theorem dX10_fail_16 : decode cX10_fail 16 = .ok (.iadd, 1) := by decide +kernel
theorem dX10_fail_17 : decode cX10_fail 17 = .ok (.iload_n 1, 1) := by decide +kernel
theorem dX10_fail_18 : decode cX10_fail 18 = .ok (.iadd, 1) := by decide +kernel
theorem dX10_fail_19 : decode cX10_fail 19 = .ok (.putfield 28, 3) := by decide +kernel
theorem dX10_fail_22 : decode cX10_fail 22 = .ok (.aload_n 0, 1) := by decide +kernel
theorem dX10_fail_23 : decode cX10_fail 23 = .ok (.iconst (-1), 1) := by decide +kernel
theorem dX10_fail_24 : decode cX10_fail 24 = .ok (.putfield 25, 3) := by decide +kernel
theorem dX10_fail_27 : decode cX10_fail 27 = .ok (.return_, 1) := by decide +kernel
theorem dX10_finish_0 : decode cX10_finish 0 = .ok (.aload_n 0, 1) := by decide +kernel
theorem dX10_finish_1 : decode cX10_finish 1 = .ok (.getfield 19, 3) := by decide +kernel
theorem dX10_finish_4 : decode cX10_finish 4 = .ok (.aload_n 0, 1) := by decide +kernel
theorem dX10_finish_5 : decode cX10_finish 5 = .ok (.getfield 15, 3) := by decide +kernel
theorem dX10_finish_8 : decode cX10_finish 8 = .ok (.if_icmp .ge 8, 3) := by decide +kernel
theorem dX10_finish_11 : decode cX10_finish 11 = .ok (.aload_n 0, 1) := by decide +kernel
theorem dX10_finish_12 : decode cX10_finish 12 = .ok (.iconst 0, 1) := by decide +kernel
theorem dX10_finish_13 : decode cX10_finish 13 = .ok (.invokevirtual 62, 3) := by decide +kernel
theorem dX10_finish_16 : decode cX10_finish 16 = .ok (.return_, 1) := by decide +kernel
theorem dX10_hasRoom_0 : decode cX10_hasRoom 0 = .ok (.aload_n 0, 1) := by decide +kernel
theorem dX10_hasRoom_1 : decode cX10_hasRoom 1 = .ok (.getfield 15, 3) := by decide +kernel
theorem dX10_hasRoom_4 : decode cX10_hasRoom 4 = .ok (.bipush 20, 2) := by decide +kernel
theorem dX10_hasRoom_6 : decode cX10_hasRoom 6 = .ok (.iadd, 1) := by decide +kernel
theorem dX10_hasRoom_7 : decode cX10_hasRoom 7 = .ok (.aload_n 0, 1) := by decide +kernel
theorem dX10_hasRoom_8 : decode cX10_hasRoom 8 = .ok (.getfield 9, 3) := by decide +kernel
theorem dX10_hasRoom_11 : decode cX10_hasRoom 11 = .ok (.arraylength, 1) := by decide +kernel
theorem dX10_hasRoom_12 : decode cX10_hasRoom 12 = .ok (.if_icmp .gt 7, 3) := by decide +kernel
theorem dX10_hasRoom_15 : decode cX10_hasRoom 15 = .ok (.iconst 1, 1) := by decide +kernel
theorem dX10_hasRoom_16 : decode cX10_hasRoom 16 = .ok (.goto 4, 3) := by decide +kernel
theorem dX10_hasRoom_19 : decode cX10_hasRoom 19 = .ok (.iconst 0, 1) := by decide +kernel
theorem dX10_hasRoom_20 : decode cX10_hasRoom 20 = .ok (.ireturn, 1) := by decide +kernel
theorem dX10_isDigit_0 : decode cX10_isDigit 0 = .ok (.iload_n 0, 1) := by decide +kernel
theorem dX10_isDigit_1 : decode cX10_isDigit 1 = .ok (.bipush 48, 2) := by decide +kernel
theorem dX10_isDigit_3 : decode cX10_isDigit 3 = .ok (.if_icmp .lt 13, 3) := by decide +kernel
theorem dX10_isDigit_6 : decode cX10_isDigit 6 = .ok (.iload_n 0, 1) := by decide +kernel
theorem dX10_isDigit_7 : decode cX10_isDigit 7 = .ok (.bipush 57, 2) := by decide +kernel
theorem dX10_isDigit_9 : decode cX10_isDigit 9 = .ok (.if_icmp .gt 7, 3) := by decide +kernel
theorem dX10_isDigit_12 : decode cX10_isDigit 12 = .ok (.iconst 1, 1) := by decide +kernel
theorem dX10_isDigit_13 : decode cX10_isDigit 13 = .ok (.goto 4, 3) := by decide +kernel
theorem dX10_isDigit_16 : decode cX10_isDigit 16 = .ok (.iconst 0, 1) := by decide +kernel
theorem dX10_isDigit_17 : decode cX10_isDigit 17 = .ok (.ireturn, 1) := by decide +kernel
theorem dX10_isLetter_0 : decode cX10_isLetter 0 = .ok (.iload_n 0, 1) := by decide +kernel
theorem dX10_isLetter_1 : decode cX10_isLetter 1 = .ok (.bipush 97, 2) := by decide +kernel
theorem dX10_isLetter_3 : decode cX10_isLetter 3 = .ok (.if_icmp .lt 13, 3) := by decide +kernel
theorem dX10_isLetter_6 : decode cX10_isLetter 6 = .ok (.iload_n 0, 1) := by decide +kernel
theorem dX10_isLetter_7 : decode cX10_isLetter 7 = .ok (.bipush 122, 2) := by decide +kernel
theorem dX10_isLetter_9 : decode cX10_isLetter 9 = .ok (.if_icmp .gt 7, 3) := by decide +kernel
theorem dX10_isLetter_12 : decode cX10_isLetter 12 = .ok (.iconst 1, 1) := by decide +kernel
theorem dX10_isLetter_13 : decode cX10_isLetter 13 = .ok (.goto 4, 3) := by decide +kernel
theorem dX10_isLetter_16 : decode cX10_isLetter 16 = .ok (.iconst 0, 1) := by decide +kernel
theorem dX10_isLetter_17 : decode cX10_isLetter 17 = .ok (.ireturn, 1) := by decide +kernel
theorem dX10_numberHere_0 : decode cX10_numberHere 0 = .ok (.aload_n 0, 1) := by decide +kernel
theorem dX10_numberHere_1 : decode cX10_numberHere 1 = .ok (.getfield 25, 3) := by decide +kernel
theorem dX10_numberHere_4 : decode cX10_numberHere 4 = .ok (.invokestatic 42, 3) := by decide +kernel
theorem dX10_numberHere_7 : decode cX10_numberHere 7 = .ok (.ifCond .ne 10, 3) := by decide +kernel
theorem dX10_numberHere_10 : decode cX10_numberHere 10 = .ok (.aload_n 0, 1) := by decide +kernel
theorem dX10_numberHere_11 : decode cX10_numberHere 11 = .ok (.iconst 0, 1) := by decide +kernel
theorem dX10_numberHere_12 : decode cX10_numberHere 12 = .ok (.invokevirtual 62, 3) := by decide +kernel
theorem dX10_numberHere_15 : decode cX10_numberHere 15 = .ok (.iload_n 1, 1) := by decide +kernel
theorem dX10_numberHere_16 : decode cX10_numberHere 16 = .ok (.ireturn, 1) := by decide +kernel
theorem dX10_numberHere_17 : decode cX10_numberHere 17 = .ok (.aload_n 0, 1) := by decide +kernel
theorem dX10_numberHere_18 : decode cX10_numberHere 18 = .ok (.getfield 22, 3) := by decide +kernel
theorem dX10_numberHere_21 : decode cX10_numberHere 21 = .ok (.aload_n 0, 1) := by decide +kernel
theorem dX10_numberHere_22 : decode cX10_numberHere 22 = .ok (.getfield 19, 3) := by decide +kernel
theorem dX10_numberHere_25 : decode cX10_numberHere 25 = .ok (.isub, 1) := by decide +kernel
theorem dX10_numberHere_26 : decode cX10_numberHere 26 = .ok (.iconst 5, 1) := by decide +kernel
theorem dX10_numberHere_27 : decode cX10_numberHere 27 = .ok (.if_icmp .le 10, 3) := by decide +kernel
theorem dX10_numberHere_30 : decode cX10_numberHere 30 = .ok (.aload_n 0, 1) := by decide +kernel
theorem dX10_numberHere_31 : decode cX10_numberHere 31 = .ok (.iconst 1, 1) := by decide +kernel
theorem dX10_numberHere_32 : decode cX10_numberHere 32 = .ok (.invokevirtual 62, 3) := by decide +kernel
theorem dX10_numberHere_35 : decode cX10_numberHere 35 = .ok (.iload_n 1, 1) := by decide +kernel
theorem dX10_numberHere_36 : decode cX10_numberHere 36 = .ok (.ireturn, 1) := by decide +kernel
theorem dX10_numberHere_37 : decode cX10_numberHere 37 = .ok (.iconst 0, 1) := by decide +kernel
theorem dX10_numberHere_38 : decode cX10_numberHere 38 = .ok (.istore_n 3, 1) := by decide +kernel
theorem dX10_numberHere_39 : decode cX10_numberHere 39 = .ok (.aload_n 0, 1) := by decide +kernel
theorem dX10_numberHere_40 : decode cX10_numberHere 40 = .ok (.getfield 19, 3) := by decide +kernel
theorem dX10_numberHere_43 : decode cX10_numberHere 43 = .ok (.istore 4, 2) := by decide +kernel
theorem dX10_numberHere_45 : decode cX10_numberHere 45 = .ok (.iload 4, 2) := by decide +kernel
theorem dX10_numberHere_47 : decode cX10_numberHere 47 = .ok (.aload_n 0, 1) := by decide +kernel
theorem dX10_numberHere_48 : decode cX10_numberHere 48 = .ok (.getfield 22, 3) := by decide +kernel
theorem dX10_numberHere_51 : decode cX10_numberHere 51 = .ok (.if_icmp .ge 24, 3) := by decide +kernel
theorem dX10_numberHere_54 : decode cX10_numberHere 54 = .ok (.iload_n 3, 1) := by decide +kernel
theorem dX10_numberHere_55 : decode cX10_numberHere 55 = .ok (.bipush 10, 2) := by decide +kernel
theorem dX10_numberHere_57 : decode cX10_numberHere 57 = .ok (.imul, 1) := by decide +kernel
theorem dX10_numberHere_58 : decode cX10_numberHere 58 = .ok (.aload_n 0, 1) := by decide +kernel
theorem dX10_numberHere_59 : decode cX10_numberHere 59 = .ok (.iload 4, 2) := by decide +kernel
theorem dX10_numberHere_61 : decode cX10_numberHere 61 = .ok (.invokevirtual 34, 3) := by decide +kernel
theorem dX10_numberHere_64 : decode cX10_numberHere 64 = .ok (.iadd, 1) := by decide +kernel
theorem dX10_numberHere_65 : decode cX10_numberHere 65 = .ok (.bipush 48, 2) := by decide +kernel
theorem dX10_numberHere_67 : decode cX10_numberHere 67 = .ok (.isub, 1) := by decide +kernel
theorem dX10_numberHere_68 : decode cX10_numberHere 68 = .ok (.istore_n 3, 1) := by decide +kernel
theorem dX10_numberHere_69 : decode cX10_numberHere 69 = .ok (.iinc 4 1, 3) := by decide +kernel
theorem dX10_numberHere_72 : decode cX10_numberHere 72 = .ok (.goto (-27), 3) := by decide +kernel
theorem dX10_numberHere_75 : decode cX10_numberHere 75 = .ok (.iload_n 3, 1) := by decide +kernel
theorem dX10_numberHere_76 : decode cX10_numberHere 76 = .ok (.iload_n 1, 1) := by decide +kernel
theorem dX10_numberHere_77 : decode cX10_numberHere 77 = .ok (.if_icmp .lt 8, 3) := by decide +kernel
theorem dX10_numberHere_80 : decode cX10_numberHere 80 = .ok (.iload_n 3, 1) := by decide +kernel
theorem dX10_numberHere_81 : decode cX10_numberHere 81 = .ok (.iload_n 2, 1) := by decide +kernel
theorem dX10_numberHere_82 : decode cX10_numberHere 82 = .ok (.if_icmp .le 10, 3) := by decide +kernel
theorem dX10_numberHere_85 : decode cX10_numberHere 85 = .ok (.aload_n 0, 1) := by decide +kernel
theorem dX10_numberHere_86 : decode cX10_numberHere 86 = .ok (.iconst 1, 1) := by decide +kernel
theorem dX10_numberHere_87 : decode cX10_numberHere 87 = .ok (.invokevirtual 62, 3) := by decide +kernel
theorem dX10_numberHere_90 : decode cX10_numberHere 90 = .ok (.iload_n 1, 1) := by decide +kernel
theorem dX10_numberHere_91 : decode cX10_numberHere 91 = .ok (.ireturn, 1) := by decide +kernel
theorem dX10_numberHere_92 : decode cX10_numberHere 92 = .ok (.iload_n 3, 1) := by decide +kernel
theorem dX10_numberHere_93 : decode cX10_numberHere 93 = .ok (.ireturn, 1) := by decide +kernel
theorem dX10_step_0 : decode cX10_step 0 = .ok (.aload_n 0, 1) := by decide +kernel
theorem dX10_step_1 : decode cX10_step 1 = .ok (.aload_n 0, 1) := by decide +kernel
theorem dX10_step_2 : decode cX10_step 2 = .ok (.getfield 22, 3) := by decide +kernel
theorem dX10_step_5 : decode cX10_step 5 = .ok (.putfield 19, 3) := by decide +kernel
theorem dX10_step_8 : decode cX10_step 8 = .ok (.aload_n 0, 1) := by decide +kernel
theorem dX10_step_9 : decode cX10_step 9 = .ok (.getfield 19, 3) := by decide +kernel
theorem dX10_step_12 : decode cX10_step 12 = .ok (.aload_n 0, 1) := by decide +kernel
theorem dX10_step_13 : decode cX10_step 13 = .ok (.getfield 15, 3) := by decide +kernel
theorem dX10_step_16 : decode cX10_step 16 = .ok (.if_icmp .ge 29, 3) := by decide +kernel
theorem dX10_step_19 : decode cX10_step 19 = .ok (.aload_n 0, 1) := by decide +kernel
theorem dX10_step_20 : decode cX10_step 20 = .ok (.aload_n 0, 1) := by decide +kernel
theorem dX10_step_21 : decode cX10_step 21 = .ok (.getfield 19, 3) := by decide +kernel
theorem dX10_step_24 : decode cX10_step 24 = .ok (.invokevirtual 34, 3) := by decide +kernel
theorem dX10_step_27 : decode cX10_step 27 = .ok (.bipush 32, 2) := by decide +kernel
theorem dX10_step_29 : decode cX10_step 29 = .ok (.if_icmp .ne 16, 3) := by decide +kernel
theorem dX10_step_32 : decode cX10_step 32 = .ok (.aload_n 0, 1) := by decide +kernel
theorem dX10_step_33 : decode cX10_step 33 = .ok (.dup, 1) := by decide +kernel
theorem dX10_step_34 : decode cX10_step 34 = .ok (.getfield 19, 3) := by decide +kernel
theorem dX10_step_37 : decode cX10_step 37 = .ok (.iconst 1, 1) := by decide +kernel
theorem dX10_step_38 : decode cX10_step 38 = .ok (.iadd, 1) := by decide +kernel
theorem dX10_step_39 : decode cX10_step 39 = .ok (.putfield 19, 3) := by decide +kernel
theorem dX10_step_42 : decode cX10_step 42 = .ok (.goto (-34), 3) := by decide +kernel
theorem dX10_step_45 : decode cX10_step 45 = .ok (.aload_n 0, 1) := by decide +kernel
theorem dX10_step_46 : decode cX10_step 46 = .ok (.aload_n 0, 1) := by decide +kernel
theorem dX10_step_47 : decode cX10_step 47 = .ok (.getfield 19, 3) := by decide +kernel
theorem dX10_step_50 : decode cX10_step 50 = .ok (.putfield 22, 3) := by decide +kernel
theorem dX10_step_53 : decode cX10_step 53 = .ok (.aload_n 0, 1) := by decide +kernel
theorem dX10_step_54 : decode cX10_step 54 = .ok (.aload_n 0, 1) := by decide +kernel
theorem dX10_step_55 : decode cX10_step 55 = .ok (.getfield 28, 3) := by decide +kernel
theorem dX10_step_58 : decode cX10_step 58 = .ok (.ifCond .ne 14, 3) := by decide +kernel
theorem dX10_step_61 : decode cX10_step 61 = .ok (.aload_n 0, 1) := by decide +kernel
theorem dX10_step_62 : decode cX10_step 62 = .ok (.aload_n 0, 1) := by decide +kernel
theorem dX10_step_63 : decode cX10_step 63 = .ok (.getfield 19, 3) := by decide +kernel
theorem dX10_step_66 : decode cX10_step 66 = .ok (.invokevirtual 34, 3) := by decide +kernel
theorem dX10_step_69 : decode cX10_step 69 = .ok (.goto 4, 3) := by decide +kernel
theorem dX10_step_72 : decode cX10_step 72 = .ok (.iconst (-1), 1) := by decide +kernel
theorem dX10_step_73 : decode cX10_step 73 = .ok (.putfield 25, 3) := by decide +kernel
theorem dX10_step_76 : decode cX10_step 76 = .ok (.aload_n 0, 1) := by decide +kernel
theorem dX10_step_77 : decode cX10_step 77 = .ok (.getfield 25, 3) := by decide +kernel
theorem dX10_step_80 : decode cX10_step 80 = .ok (.invokestatic 38, 3) := by decide +kernel
theorem dX10_step_83 : decode cX10_step 83 = .ok (.ifCond .eq 41, 3) := by decide +kernel
theorem dX10_step_86 : decode cX10_step 86 = .ok (.aload_n 0, 1) := by decide +kernel
theorem dX10_step_87 : decode cX10_step 87 = .ok (.getfield 22, 3) := by decide +kernel
theorem dX10_step_90 : decode cX10_step 90 = .ok (.aload_n 0, 1) := by decide +kernel
theorem dX10_step_91 : decode cX10_step 91 = .ok (.getfield 15, 3) := by decide +kernel
theorem dX10_step_94 : decode cX10_step 94 = .ok (.if_icmp .ge 148, 3) := by decide +kernel
theorem dX10_step_97 : decode cX10_step 97 = .ok (.aload_n 0, 1) := by decide +kernel
theorem dX10_step_98 : decode cX10_step 98 = .ok (.aload_n 0, 1) := by decide +kernel
theorem dX10_step_99 : decode cX10_step 99 = .ok (.getfield 22, 3) := by decide +kernel
theorem dX10_step_102 : decode cX10_step 102 = .ok (.invokevirtual 34, 3) := by decide +kernel
theorem dX10_step_105 : decode cX10_step 105 = .ok (.invokestatic 38, 3) := by decide +kernel
theorem dX10_step_108 : decode cX10_step 108 = .ok (.ifCond .eq 134, 3) := by decide +kernel
theorem dX10_step_111 : decode cX10_step 111 = .ok (.aload_n 0, 1) := by decide +kernel
theorem dX10_step_112 : decode cX10_step 112 = .ok (.dup, 1) := by decide +kernel
theorem dX10_step_113 : decode cX10_step 113 = .ok (.getfield 22, 3) := by decide +kernel
theorem dX10_step_116 : decode cX10_step 116 = .ok (.iconst 1, 1) := by decide +kernel
theorem dX10_step_117 : decode cX10_step 117 = .ok (.iadd, 1) := by decide +kernel
theorem dX10_step_118 : decode cX10_step 118 = .ok (.putfield 22, 3) := by decide +kernel
theorem dX10_step_121 : decode cX10_step 121 = .ok (.goto (-35), 3) := by decide +kernel
theorem dX10_step_124 : decode cX10_step 124 = .ok (.aload_n 0, 1) := by decide +kernel
theorem dX10_step_125 : decode cX10_step 125 = .ok (.getfield 25, 3) := by decide +kernel
theorem dX10_step_128 : decode cX10_step 128 = .ok (.invokestatic 42, 3) := by decide +kernel
theorem dX10_step_131 : decode cX10_step 131 = .ok (.ifCond .eq 41, 3) := by decide +kernel
theorem dX10_step_134 : decode cX10_step 134 = .ok (.aload_n 0, 1) := by decide +kernel
theorem dX10_step_135 : decode cX10_step 135 = .ok (.getfield 22, 3) := by decide +kernel
theorem dX10_step_138 : decode cX10_step 138 = .ok (.aload_n 0, 1) := by decide +kernel
theorem dX10_step_139 : decode cX10_step 139 = .ok (.getfield 15, 3) := by decide +kernel
theorem dX10_step_142 : decode cX10_step 142 = .ok (.if_icmp .ge 100, 3) := by decide +kernel
theorem dX10_step_145 : decode cX10_step 145 = .ok (.aload_n 0, 1) := by decide +kernel
theorem dX10_step_146 : decode cX10_step 146 = .ok (.aload_n 0, 1) := by decide +kernel
theorem dX10_step_147 : decode cX10_step 147 = .ok (.getfield 22, 3) := by decide +kernel
theorem dX10_step_150 : decode cX10_step 150 = .ok (.invokevirtual 34, 3) := by decide +kernel
theorem dX10_step_153 : decode cX10_step 153 = .ok (.invokestatic 42, 3) := by decide +kernel
theorem dX10_step_156 : decode cX10_step 156 = .ok (.ifCond .eq 86, 3) := by decide +kernel
theorem dX10_step_159 : decode cX10_step 159 = .ok (.aload_n 0, 1) := by decide +kernel
theorem dX10_step_160 : decode cX10_step 160 = .ok (.dup, 1) := by decide +kernel
theorem dX10_step_161 : decode cX10_step 161 = .ok (.getfield 22, 3) := by decide +kernel
theorem dX10_step_164 : decode cX10_step 164 = .ok (.iconst 1, 1) := by decide +kernel
theorem dX10_step_165 : decode cX10_step 165 = .ok (.iadd, 1) := by decide +kernel
theorem dX10_step_166 : decode cX10_step 166 = .ok (.putfield 22, 3) := by decide +kernel
theorem dX10_step_169 : decode cX10_step 169 = .ok (.goto (-35), 3) := by decide +kernel
theorem dX10_step_172 : decode cX10_step 172 = .ok (.aload_n 0, 1) := by decide +kernel
theorem dX10_step_173 : decode cX10_step 173 = .ok (.getfield 25, 3) := by decide +kernel
theorem dX10_step_176 : decode cX10_step 176 = .ok (.iconst (-1), 1) := by decide +kernel
theorem dX10_step_177 : decode cX10_step 177 = .ok (.if_icmp .eq 65, 3) := by decide +kernel
theorem dX10_step_180 : decode cX10_step 180 = .ok (.aload_n 0, 1) := by decide +kernel
theorem dX10_step_181 : decode cX10_step 181 = .ok (.getfield 25, 3) := by decide +kernel
theorem dX10_step_184 : decode cX10_step 184 = .ok (.bipush 60, 2) := by decide +kernel
theorem dX10_step_186 : decode cX10_step 186 = .ok (.if_icmp .eq 12, 3) := by decide +kernel
theorem dX10_step_189 : decode cX10_step 189 = .ok (.aload_n 0, 1) := by decide +kernel
theorem dX10_step_190 : decode cX10_step 190 = .ok (.getfield 25, 3) := by decide +kernel
theorem dX10_step_193 : decode cX10_step 193 = .ok (.bipush 62, 2) := by decide +kernel
theorem dX10_step_195 : decode cX10_step 195 = .ok (.if_icmp .ne 7, 3) := by decide +kernel
theorem dX10_step_198 : decode cX10_step 198 = .ok (.iconst 1, 1) := by decide +kernel
theorem dX10_step_199 : decode cX10_step 199 = .ok (.goto 4, 3) := by decide +kernel
theorem dX10_step_202 : decode cX10_step 202 = .ok (.iconst 0, 1) := by decide +kernel
theorem dX10_step_203 : decode cX10_step 203 = .ok (.istore_n 1, 1) := by decide +kernel
theorem dX10_step_204 : decode cX10_step 204 = .ok (.aload_n 0, 1) := by decide +kernel
theorem dX10_step_205 : decode cX10_step 205 = .ok (.iload_n 1, 1) := by decide +kernel
theorem dX10_step_206 : decode cX10_step 206 = .ok (.ifCond .eq 27, 3) := by decide +kernel
theorem dX10_step_209 : decode cX10_step 209 = .ok (.aload_n 0, 1) := by decide +kernel
theorem dX10_step_210 : decode cX10_step 210 = .ok (.aload_n 0, 1) := by decide +kernel
theorem dX10_step_211 : decode cX10_step 211 = .ok (.getfield 19, 3) := by decide +kernel
theorem dX10_step_214 : decode cX10_step 214 = .ok (.iconst 1, 1) := by decide +kernel
theorem dX10_step_215 : decode cX10_step 215 = .ok (.iadd, 1) := by decide +kernel
theorem dX10_step_216 : decode cX10_step 216 = .ok (.invokevirtual 34, 3) := by decide +kernel
theorem dX10_step_219 : decode cX10_step 219 = .ok (.bipush 61, 2) := by decide +kernel
theorem dX10_step_221 : decode cX10_step 221 = .ok (.if_icmp .ne 12, 3) := by decide +kernel
theorem dX10_step_224 : decode cX10_step 224 = .ok (.aload_n 0, 1) := by decide +kernel
theorem dX10_step_225 : decode cX10_step 225 = .ok (.getfield 19, 3) := by decide +kernel
theorem dX10_step_228 : decode cX10_step 228 = .ok (.iconst 2, 1) := by decide +kernel
theorem dX10_step_229 : decode cX10_step 229 = .ok (.iadd, 1) := by decide +kernel
theorem dX10_step_230 : decode cX10_step 230 = .ok (.goto 9, 3) := by decide +kernel
theorem dX10_step_233 : decode cX10_step 233 = .ok (.aload_n 0, 1) := by decide +kernel
theorem dX10_step_234 : decode cX10_step 234 = .ok (.getfield 19, 3) := by decide +kernel
theorem dX10_step_237 : decode cX10_step 237 = .ok (.iconst 1, 1) := by decide +kernel
theorem dX10_step_238 : decode cX10_step 238 = .ok (.iadd, 1) := by decide +kernel
theorem dX10_step_239 : decode cX10_step 239 = .ok (.putfield 22, 3) := by decide +kernel
theorem dX10_step_242 : decode cX10_step 242 = .ok (.return_, 1) := by decide +kernel
theorem dX10_takeNumber_0 : decode cX10_takeNumber 0 = .ok (.aload_n 0, 1) := by decide +kernel
theorem dX10_takeNumber_1 : decode cX10_takeNumber 1 = .ok (.iload_n 1, 1) := by decide +kernel
theorem dX10_takeNumber_2 : decode cX10_takeNumber 2 = .ok (.iload_n 2, 1) := by decide +kernel
theorem dX10_takeNumber_3 : decode cX10_takeNumber 3 = .ok (.invokevirtual 66, 3) := by decide +kernel
theorem dX10_takeNumber_6 : decode cX10_takeNumber 6 = .ok (.istore_n 3, 1) := by decide +kernel
theorem dX10_takeNumber_7 : decode cX10_takeNumber 7 = .ok (.aload_n 0, 1) := by decide +kernel
theorem dX10_takeNumber_8 : decode cX10_takeNumber 8 = .ok (.invokevirtual 31, 3) := by decide +kernel
theorem dX10_takeNumber_11 : decode cX10_takeNumber 11 = .ok (.iload_n 3, 1) := by decide +kernel
theorem dX10_takeNumber_12 : decode cX10_takeNumber 12 = .ok (.ireturn, 1) := by decide +kernel
theorem dX10_takes_0 : decode cX10_takes 0 = .ok (.aload_n 0, 1) := by decide +kernel
theorem dX10_takes_1 : decode cX10_takes 1 = .ok (.getfield 25, 3) := by decide +kernel
theorem dX10_takes_4 : decode cX10_takes 4 = .ok (.iload_n 1, 1) := by decide +kernel
theorem dX10_takes_5 : decode cX10_takes 5 = .ok (.if_icmp .eq 5, 3) := by decide +kernel
theorem dX10_takes_8 : decode cX10_takes 8 = .ok (.iconst 0, 1) := by decide +kernel
theorem dX10_takes_9 : decode cX10_takes 9 = .ok (.ireturn, 1) := by decide +kernel
theorem dX10_takes_10 : decode cX10_takes 10 = .ok (.aload_n 0, 1) := by decide +kernel
theorem dX10_takes_11 : decode cX10_takes 11 = .ok (.invokevirtual 31, 3) := by decide +kernel
theorem dX10_takes_14 : decode cX10_takes 14 = .ok (.iconst 1, 1) := by decide +kernel
theorem dX10_takes_15 : decode cX10_takes 15 = .ok (.ireturn, 1) := by decide +kernel
