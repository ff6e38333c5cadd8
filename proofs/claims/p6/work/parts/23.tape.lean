theorem lenS_all : ∀ i, i < 7 → lenS.getD i 0 ≤ 75 := by decide
theorem lenS_le {i : Nat} (h : i < 7) : lenS.getD i 0 ≤ 75 := lenS_all i h
theorem nar_ch (b : Int32) : narrow .char (.int ((b &&& 255).toUInt32 % 65536).toInt32) = .int ((b &&& 255).toUInt32 % 65536).toInt32 := by rw [sc_c2]; exact sc_nar b
theorem dX10_add_0 : decode cX10_add 0 = .ok (.bipush 24, 2) := by decide +kernel
theorem dX10_add_2 : decode cX10_add 2 = .ok (.istore_n 2, 1) := by decide +kernel
theorem dX10_add_3 : decode cX10_add 3 = .ok (.iload_n 2, 1) := by decide +kernel
theorem dX10_add_4 : decode cX10_add 4 = .ok (.ifCond .lt 54, 3) := by decide +kernel
theorem dX10_add_7 : decode cX10_add 7 = .ok (.aload_n 0, 1) := by decide +kernel
theorem dX10_add_8 : decode cX10_add 8 = .ok (.getfield 15, 3) := by decide +kernel
theorem dX10_add_11 : decode cX10_add 11 = .ok (.ifCond .lt 41, 3) := by decide +kernel
theorem dX10_add_14 : decode cX10_add 14 = .ok (.aload_n 0, 1) := by decide +kernel
theorem dX10_add_15 : decode cX10_add 15 = .ok (.getfield 15, 3) := by decide +kernel
theorem dX10_add_18 : decode cX10_add 18 = .ok (.aload_n 0, 1) := by decide +kernel
theorem dX10_add_19 : decode cX10_add 19 = .ok (.getfield 9, 3) := by decide +kernel
theorem dX10_add_22 : decode cX10_add 22 = .ok (.arraylength, 1) := by decide +kernel
theorem dX10_add_23 : decode cX10_add 23 = .ok (.if_icmp .ge 29, 3) := by decide +kernel
theorem dX10_add_26 : decode cX10_add 26 = .ok (.aload_n 0, 1) := by decide +kernel
theorem dX10_add_27 : decode cX10_add 27 = .ok (.getfield 9, 3) := by decide +kernel
theorem dX10_add_30 : decode cX10_add 30 = .ok (.aload_n 0, 1) := by decide +kernel
theorem dX10_add_31 : decode cX10_add 31 = .ok (.getfield 15, 3) := by decide +kernel
theorem dX10_add_34 : decode cX10_add 34 = .ok (.iload_n 1, 1) := by decide +kernel
theorem dX10_add_35 : decode cX10_add 35 = .ok (.iload_n 2, 1) := by decide +kernel
theorem dX10_add_36 : decode cX10_add 36 = .ok (.iushr, 1) := by decide +kernel
theorem dX10_add_37 : decode cX10_add 37 = .ok (.sipush 255, 3) := by decide +kernel
theorem dX10_add_40 : decode cX10_add 40 = .ok (.iand, 1) := by decide +kernel
theorem dX10_add_41 : decode cX10_add 41 = .ok (.iastore, 1) := by decide +kernel
theorem dX10_add_42 : decode cX10_add 42 = .ok (.aload_n 0, 1) := by decide +kernel
theorem dX10_add_43 : decode cX10_add 43 = .ok (.dup, 1) := by decide +kernel
theorem dX10_add_44 : decode cX10_add 44 = .ok (.getfield 15, 3) := by decide +kernel
theorem dX10_add_47 : decode cX10_add 47 = .ok (.iconst 1, 1) := by decide +kernel
theorem dX10_add_48 : decode cX10_add 48 = .ok (.iadd, 1) := by decide +kernel
theorem dX10_add_49 : decode cX10_add 49 = .ok (.putfield 15, 3) := by decide +kernel
theorem dX10_add_52 : decode cX10_add 52 = .ok (.iinc 2 (-8), 3) := by decide +kernel
theorem dX10_add_55 : decode cX10_add 55 = .ok (.goto (-52), 3) := by decide +kernel
theorem dX10_add_58 : decode cX10_add 58 = .ok (.return_, 1) := by decide +kernel
theorem dX10_begin_0 : decode cX10_begin 0 = .ok (.aload_n 0, 1) := by decide +kernel
theorem dX10_begin_1 : decode cX10_begin 1 = .ok (.iconst 0, 1) := by decide +kernel
theorem dX10_begin_2 : decode cX10_begin 2 = .ok (.putfield 28, 3) := by decide +kernel
theorem dX10_begin_5 : decode cX10_begin 5 = .ok (.aload_n 0, 1) := by decide +kernel
theorem dX10_begin_6 : decode cX10_begin 6 = .ok (.iconst 0, 1) := by decide +kernel
theorem dX10_begin_7 : decode cX10_begin 7 = .ok (.putfield 22, 3) := by decide +kernel
theorem dX10_begin_10 : decode cX10_begin 10 = .ok (.aload_n 0, 1) := by decide +kernel
theorem dX10_begin_11 : decode cX10_begin 11 = .ok (.invokevirtual 31, 3) := by decide +kernel
theorem dX10_begin_14 : decode cX10_begin 14 = .ok (.return_, 1) := by decide +kernel
theorem dX10_byteAt_0 : decode cX10_byteAt 0 = .ok (.iload_n 1, 1) := by decide +kernel
theorem dX10_byteAt_1 : decode cX10_byteAt 1 = .ok (.ifCond .lt 29, 3) := by decide +kernel
theorem dX10_byteAt_4 : decode cX10_byteAt 4 = .ok (.iload_n 1, 1) := by decide +kernel
theorem dX10_byteAt_5 : decode cX10_byteAt 5 = .ok (.aload_n 0, 1) := by decide +kernel
theorem dX10_byteAt_6 : decode cX10_byteAt 6 = .ok (.getfield 15, 3) := by decide +kernel
theorem dX10_byteAt_9 : decode cX10_byteAt 9 = .ok (.if_icmp .ge 21, 3) := by decide +kernel
theorem dX10_byteAt_12 : decode cX10_byteAt 12 = .ok (.iload_n 1, 1) := by decide +kernel
theorem dX10_byteAt_13 : decode cX10_byteAt 13 = .ok (.aload_n 0, 1) := by decide +kernel
theorem dX10_byteAt_14 : decode cX10_byteAt 14 = .ok (.getfield 9, 3) := by decide +kernel
theorem dX10_byteAt_17 : decode cX10_byteAt 17 = .ok (.arraylength, 1) := by decide +kernel
theorem dX10_byteAt_18 : decode cX10_byteAt 18 = .ok (.if_icmp .ge 12, 3) := by decide +kernel
theorem dX10_byteAt_21 : decode cX10_byteAt 21 = .ok (.aload_n 0, 1) := by decide +kernel
theorem dX10_byteAt_22 : decode cX10_byteAt 22 = .ok (.getfield 9, 3) := by decide +kernel
theorem dX10_byteAt_25 : decode cX10_byteAt 25 = .ok (.iload_n 1, 1) := by decide +kernel
theorem dX10_byteAt_26 : decode cX10_byteAt 26 = .ok (.iaload, 1) := by decide +kernel
theorem dX10_byteAt_27 : decode cX10_byteAt 27 = .ok (.goto 4, 3) := by decide +kernel
theorem dX10_byteAt_30 : decode cX10_byteAt 30 = .ok (.iconst (-1), 1) := by decide +kernel
theorem dX10_byteAt_31 : decode cX10_byteAt 31 = .ok (.ireturn, 1) := by decide +kernel
theorem dX10_fail_0 : decode cX10_fail 0 = .ok (.aload_n 0, 1) := by decide +kernel
theorem dX10_fail_1 : decode cX10_fail 1 = .ok (.getfield 28, 3) := by decide +kernel
theorem dX10_fail_4 : decode cX10_fail 4 = .ok (.ifCond .ne 23, 3) := by decide +kernel
theorem dX10_fail_7 : decode cX10_fail 7 = .ok (.aload_n 0, 1) := by decide +kernel
theorem dX10_fail_8 : decode cX10_fail 8 = .ok (.iconst 1, 1) := by decide +kernel
theorem dX10_fail_9 : decode cX10_fail 9 = .ok (.bipush 8, 2) := by decide +kernel
theorem dX10_fail_11 : decode cX10_fail 11 = .ok (.aload_n 0, 1) := by decide +kernel
theorem dX10_fail_12 : decode cX10_fail 12 = .ok (.getfield 19, 3) := by decide +kernel
theorem dX10_fail_15 : decode cX10_fail 15 = .ok (.imul, 1) := by decide +kernel
theorem dX10_fail_16 : decode cX10_fail 16 = .ok (.iadd, 1) := by decide +kernel
theorem dX10_fail_17 : decode cX10_fail 17 = .ok (.iload_n 1, 1) := by decide +kernel
theorem dX10_fail_18 : decode cX10_fail 18 = .ok (.iadd, 1) := by decide +kernel
theorem dX10_fail_19 : decode cX10_fail 19 = .ok (.putfield 28, 3) := by decide +kernel
theorem dX10_fail_22 : decode cX10_fail 22 = .ok (.aload_n 0, 1) := by decide +kernel
theorem dX10_fail_23 : decode cX10_fail 23 = .ok (.iconst (-1), 1) := by decide +kernel
theorem dX10_fail_24 : decode cX10_fail 24 = .ok (.putfield 25, 3) := by decide +kernel
theorem dX10_fail_27 : decode cX10_fail 27 = .ok (.return_, 1) := by decide +kernel
theorem dX10_finish_0 : decode cX10_finish 0 = .ok (.aload_n 0, 1) := by decide +kernel
theorem dX10_finish_1 : decode cX10_finish 1 = .ok (.getfield 19, 3) := by decide +kernel
theorem dX10_finish_4 : decode cX10_finish 4 = .ok (.aload_n 0, 1) := by decide +kernel
theorem dX10_finish_5 : decode cX10_finish 5 = .ok (.getfield 15, 3) := by decide +kernel
theorem dX10_finish_8 : decode cX10_finish 8 = .ok (.if_icmp .ge 8, 3) := by decide +kernel
theorem dX10_finish_11 : decode cX10_finish 11 = .ok (.aload_n 0, 1) := by decide +kernel
theorem dX10_finish_12 : decode cX10_finish 12 = .ok (.iconst 0, 1) := by decide +kernel
theorem dX10_finish_13 : decode cX10_finish 13 = .ok (.invokevirtual 62, 3) := by decide +kernel
theorem dX10_finish_16 : decode cX10_finish 16 = .ok (.return_, 1) := by decide +kernel
theorem dX10_hasRoom_0 : decode cX10_hasRoom 0 = .ok (.aload_n 0, 1) := by decide +kernel
theorem dX10_hasRoom_1 : decode cX10_hasRoom 1 = .ok (.getfield 15, 3) := by decide +kernel
theorem dX10_hasRoom_4 : decode cX10_hasRoom 4 = .ok (.bipush 20, 2) := by decide +kernel
theorem dX10_hasRoom_6 : decode cX10_hasRoom 6 = .ok (.iadd, 1) := by decide +kernel
theorem dX10_hasRoom_7 : decode cX10_hasRoom 7 = .ok (.aload_n 0, 1) := by decide +kernel
theorem dX10_hasRoom_8 : decode cX10_hasRoom 8 = .ok (.getfield 9, 3) := by decide +kernel
theorem dX10_hasRoom_11 : decode cX10_hasRoom 11 = .ok (.arraylength, 1) := by decide +kernel
theorem dX10_hasRoom_12 : decode cX10_hasRoom 12 = .ok (.if_icmp .gt 7, 3) := by decide +kernel
theorem dX10_hasRoom_15 : decode cX10_hasRoom 15 = .ok (.iconst 1, 1) := by decide +kernel
theorem dX10_hasRoom_16 : decode cX10_hasRoom 16 = .ok (.goto 4, 3) := by decide +kernel
theorem dX10_hasRoom_19 : decode cX10_hasRoom 19 = .ok (.iconst 0, 1) := by decide +kernel
theorem dX10_hasRoom_20 : decode cX10_hasRoom 20 = .ok (.ireturn, 1) := by decide +kernel
theorem dX10_isDigit_0 : decode cX10_isDigit 0 = .ok (.iload_n 0, 1) := by decide +kernel
theorem dX10_isDigit_1 : decode cX10_isDigit 1 = .ok (.bipush 48, 2) := by decide +kernel
theorem dX10_isDigit_3 : decode cX10_isDigit 3 = .ok (.if_icmp .lt 13, 3) := by decide +kernel
theorem dX10_isDigit_6 : decode cX10_isDigit 6 = .ok (.iload_n 0, 1) := by decide +kernel
theorem dX10_isDigit_7 : decode cX10_isDigit 7 = .ok (.bipush 57, 2) := by decide +kernel
theorem dX10_isDigit_9 : decode cX10_isDigit 9 = .ok (.if_icmp .gt 7, 3) := by decide +kernel
theorem dX10_isDigit_12 : decode cX10_isDigit 12 = .ok (.iconst 1, 1) := by decide +kernel
theorem dX10_isDigit_13 : decode cX10_isDigit 13 = .ok (.goto 4, 3) := by decide +kernel
theorem dX10_isDigit_16 : decode cX10_isDigit 16 = .ok (.iconst 0, 1) := by decide +kernel
theorem dX10_isDigit_17 : decode cX10_isDigit 17 = .ok (.ireturn, 1) := by decide +kernel
theorem dX10_isLetter_0 : decode cX10_isLetter 0 = .ok (.iload_n 0, 1) := by decide +kernel
theorem dX10_isLetter_1 : decode cX10_isLetter 1 = .ok (.bipush 97, 2) := by decide +kernel
theorem dX10_isLetter_3 : decode cX10_isLetter 3 = .ok (.if_icmp .lt 13, 3) := by decide +kernel
theorem dX10_isLetter_6 : decode cX10_isLetter 6 = .ok (.iload_n 0, 1) := by decide +kernel
theorem dX10_isLetter_7 : decode cX10_isLetter 7 = .ok (.bipush 122, 2) := by decide +kernel
theorem dX10_isLetter_9 : decode cX10_isLetter 9 = .ok (.if_icmp .gt 7, 3) := by decide +kernel
theorem dX10_isLetter_12 : decode cX10_isLetter 12 = .ok (.iconst 1, 1) := by decide +kernel
theorem dX10_isLetter_13 : decode cX10_isLetter 13 = .ok (.goto 4, 3) := by decide +kernel
theorem dX10_isLetter_16 : decode cX10_isLetter 16 = .ok (.iconst 0, 1) := by decide +kernel
theorem dX10_isLetter_17 : decode cX10_isLetter 17 = .ok (.ireturn, 1) := by decide +kernel
theorem dX10_numberHere_0 : decode cX10_numberHere 0 = .ok (.aload_n 0, 1) := by decide +kernel
theorem dX10_numberHere_1 : decode cX10_numberHere 1 = .ok (.getfield 25, 3) := by decide +kernel
theorem dX10_numberHere_4 : decode cX10_numberHere 4 = .ok (.invokestatic 42, 3) := by decide +kernel
theorem dX10_numberHere_7 : decode cX10_numberHere 7 = .ok (.ifCond .ne 10, 3) := by decide +kernel
theorem dX10_numberHere_10 : decode cX10_numberHere 10 = .ok (.aload_n 0, 1) := by decide +kernel
theorem dX10_numberHere_11 : decode cX10_numberHere 11 = .ok (.iconst 0, 1) := by decide +kernel
theorem dX10_numberHere_12 : decode cX10_numberHere 12 = .ok (.invokevirtual 62, 3) := by decide +kernel
theorem dX10_numberHere_15 : decode cX10_numberHere 15 = .ok (.iload_n 1, 1) := by decide +kernel
theorem dX10_numberHere_16 : decode cX10_numberHere 16 = .ok (.ireturn, 1) := by decide +kernel
theorem dX10_numberHere_17 : decode cX10_numberHere 17 = .ok (.aload_n 0, 1) := by decide +kernel
theorem dX10_numberHere_18 : decode cX10_numberHere 18 = .ok (.getfield 22, 3) := by decide +kernel
theorem dX10_numberHere_21 : decode cX10_numberHere 21 = .ok (.aload_n 0, 1) := by decide +kernel
theorem dX10_numberHere_22 : decode cX10_numberHere 22 = .ok (.getfield 19, 3) := by decide +kernel
theorem dX10_numberHere_25 : decode cX10_numberHere 25 = .ok (.isub, 1) := by decide +kernel
theorem dX10_numberHere_26 : decode cX10_numberHere 26 = .ok (.iconst 5, 1) := by decide +kernel
theorem dX10_numberHere_27 : decode cX10_numberHere 27 = .ok (.if_icmp .le 10, 3) := by decide +kernel
theorem dX10_numberHere_30 : decode cX10_numberHere 30 = .ok (.aload_n 0, 1) := by decide +kernel
theorem dX10_numberHere_31 : decode cX10_numberHere 31 = .ok (.iconst 1, 1) := by decide +kernel
theorem dX10_numberHere_32 : decode cX10_numberHere 32 = .ok (.invokevirtual 62, 3) := by decide +kernel
theorem dX10_numberHere_35 : decode cX10_numberHere 35 = .ok (.iload_n 1, 1) := by decide +kernel
theorem dX10_numberHere_36 : decode cX10_numberHere 36 = .ok (.ireturn, 1) := by decide +kernel
theorem dX10_numberHere_37 : decode cX10_numberHere 37 = .ok (.iconst 0, 1) := by decide +kernel
theorem dX10_numberHere_38 : decode cX10_numberHere 38 = .ok (.istore_n 3, 1) := by decide +kernel
theorem dX10_numberHere_39 : decode cX10_numberHere 39 = .ok (.aload_n 0, 1) := by decide +kernel
theorem dX10_numberHere_40 : decode cX10_numberHere 40 = .ok (.getfield 19, 3) := by decide +kernel
theorem dX10_numberHere_43 : decode cX10_numberHere 43 = .ok (.istore 4, 2) := by decide +kernel
theorem dX10_numberHere_45 : decode cX10_numberHere 45 = .ok (.iload 4, 2) := by decide +kernel
theorem dX10_numberHere_47 : decode cX10_numberHere 47 = .ok (.aload_n 0, 1) := by decide +kernel
theorem dX10_numberHere_48 : decode cX10_numberHere 48 = .ok (.getfield 22, 3) := by decide +kernel
theorem dX10_numberHere_51 : decode cX10_numberHere 51 = .ok (.if_icmp .ge 24, 3) := by decide +kernel
theorem dX10_numberHere_54 : decode cX10_numberHere 54 = .ok (.iload_n 3, 1) := by decide +kernel
theorem dX10_numberHere_55 : decode cX10_numberHere 55 = .ok (.bipush 10, 2) := by decide +kernel
theorem dX10_numberHere_57 : decode cX10_numberHere 57 = .ok (.imul, 1) := by decide +kernel
theorem dX10_numberHere_58 : decode cX10_numberHere 58 = .ok (.aload_n 0, 1) := by decide +kernel
theorem dX10_numberHere_59 : decode cX10_numberHere 59 = .ok (.iload 4, 2) := by decide +kernel
theorem dX10_numberHere_61 : decode cX10_numberHere 61 = .ok (.invokevirtual 34, 3) := by decide +kernel
theorem dX10_numberHere_64 : decode cX10_numberHere 64 = .ok (.iadd, 1) := by decide +kernel
theorem dX10_numberHere_65 : decode cX10_numberHere 65 = .ok (.bipush 48, 2) := by decide +kernel
theorem dX10_numberHere_67 : decode cX10_numberHere 67 = .ok (.isub, 1) := by decide +kernel
theorem dX10_numberHere_68 : decode cX10_numberHere 68 = .ok (.istore_n 3, 1) := by decide +kernel
theorem dX10_numberHere_69 : decode cX10_numberHere 69 = .ok (.iinc 4 1, 3) := by decide +kernel
theorem dX10_numberHere_72 : decode cX10_numberHere 72 = .ok (.goto (-27), 3) := by decide +kernel
theorem dX10_numberHere_75 : decode cX10_numberHere 75 = .ok (.iload_n 3, 1) := by decide +kernel
theorem dX10_numberHere_76 : decode cX10_numberHere 76 = .ok (.iload_n 1, 1) := by decide +kernel
theorem dX10_numberHere_77 : decode cX10_numberHere 77 = .ok (.if_icmp .lt 8, 3) := by decide +kernel
theorem dX10_numberHere_80 : decode cX10_numberHere 80 = .ok (.iload_n 3, 1) := by decide +kernel
theorem dX10_numberHere_81 : decode cX10_numberHere 81 = .ok (.iload_n 2, 1) := by decide +kernel
theorem dX10_numberHere_82 : decode cX10_numberHere 82 = .ok (.if_icmp .le 10, 3) := by decide +kernel
theorem dX10_numberHere_85 : decode cX10_numberHere 85 = .ok (.aload_n 0, 1) := by decide +kernel
theorem dX10_numberHere_86 : decode cX10_numberHere 86 = .ok (.iconst 1, 1) := by decide +kernel
theorem dX10_numberHere_87 : decode cX10_numberHere 87 = .ok (.invokevirtual 62, 3) := by decide +kernel
theorem dX10_numberHere_90 : decode cX10_numberHere 90 = .ok (.iload_n 1, 1) := by decide +kernel
theorem dX10_numberHere_91 : decode cX10_numberHere 91 = .ok (.ireturn, 1) := by decide +kernel
theorem dX10_numberHere_92 : decode cX10_numberHere 92 = .ok (.iload_n 3, 1) := by decide +kernel
theorem dX10_numberHere_93 : decode cX10_numberHere 93 = .ok (.ireturn, 1) := by decide +kernel
theorem dX10_step_0 : decode cX10_step 0 = .ok (.aload_n 0, 1) := by decide +kernel
theorem dX10_step_1 : decode cX10_step 1 = .ok (.aload_n 0, 1) := by decide +kernel
theorem dX10_step_2 : decode cX10_step 2 = .ok (.getfield 22, 3) := by decide +kernel
theorem dX10_step_5 : decode cX10_step 5 = .ok (.putfield 19, 3) := by decide +kernel
theorem dX10_step_8 : decode cX10_step 8 = .ok (.aload_n 0, 1) := by decide +kernel
theorem dX10_step_9 : decode cX10_step 9 = .ok (.getfield 19, 3) := by decide +kernel
theorem dX10_step_12 : decode cX10_step 12 = .ok (.aload_n 0, 1) := by decide +kernel
theorem dX10_step_13 : decode cX10_step 13 = .ok (.getfield 15, 3) := by decide +kernel
theorem dX10_step_16 : decode cX10_step 16 = .ok (.if_icmp .ge 29, 3) := by decide +kernel
theorem dX10_step_19 : decode cX10_step 19 = .ok (.aload_n 0, 1) := by decide +kernel
theorem dX10_step_20 : decode cX10_step 20 = .ok (.aload_n 0, 1) := by decide +kernel
theorem dX10_step_21 : decode cX10_step 21 = .ok (.getfield 19, 3) := by decide +kernel
theorem dX10_step_24 : decode cX10_step 24 = .ok (.invokevirtual 34, 3) := by decide +kernel
theorem dX10_step_27 : decode cX10_step 27 = .ok (.bipush 32, 2) := by decide +kernel
theorem dX10_step_29 : decode cX10_step 29 = .ok (.if_icmp .ne 16, 3) := by decide +kernel
theorem dX10_step_32 : decode cX10_step 32 = .ok (.aload_n 0, 1) := by decide +kernel
theorem dX10_step_33 : decode cX10_step 33 = .ok (.dup, 1) := by decide +kernel
theorem dX10_step_34 : decode cX10_step 34 = .ok (.getfield 19, 3) := by decide +kernel
theorem dX10_step_37 : decode cX10_step 37 = .ok (.iconst 1, 1) := by decide +kernel
theorem dX10_step_38 : decode cX10_step 38 = .ok (.iadd, 1) := by decide +kernel
theorem dX10_step_39 : decode cX10_step 39 = .ok (.putfield 19, 3) := by decide +kernel
theorem dX10_step_42 : decode cX10_step 42 = .ok (.goto (-34), 3) := by decide +kernel
theorem dX10_step_45 : decode cX10_step 45 = .ok (.aload_n 0, 1) := by decide +kernel
theorem dX10_step_46 : decode cX10_step 46 = .ok (.aload_n 0, 1) := by decide +kernel
theorem dX10_step_47 : decode cX10_step 47 = .ok (.getfield 19, 3) := by decide +kernel
theorem dX10_step_50 : decode cX10_step 50 = .ok (.putfield 22, 3) := by decide +kernel
theorem dX10_step_53 : decode cX10_step 53 = .ok (.aload_n 0, 1) := by decide +kernel
theorem dX10_step_54 : decode cX10_step 54 = .ok (.aload_n 0, 1) := by decide +kernel
theorem dX10_step_55 : decode cX10_step 55 = .ok (.getfield 28, 3) := by decide +kernel
theorem dX10_step_58 : decode cX10_step 58 = .ok (.ifCond .ne 14, 3) := by decide +kernel
theorem dX10_step_61 : decode cX10_step 61 = .ok (.aload_n 0, 1) := by decide +kernel
theorem dX10_step_62 : decode cX10_step 62 = .ok (.aload_n 0, 1) := by decide +kernel
theorem dX10_step_63 : decode cX10_step 63 = .ok (.getfield 19, 3) := by decide +kernel
theorem dX10_step_66 : decode cX10_step 66 = .ok (.invokevirtual 34, 3) := by decide +kernel
theorem dX10_step_69 : decode cX10_step 69 = .ok (.goto 4, 3) := by decide +kernel
theorem dX10_step_72 : decode cX10_step 72 = .ok (.iconst (-1), 1) := by decide +kernel
theorem dX10_step_73 : decode cX10_step 73 = .ok (.putfield 25, 3) := by decide +kernel
theorem dX10_step_76 : decode cX10_step 76 = .ok (.aload_n 0, 1) := by decide +kernel
theorem dX10_step_77 : decode cX10_step 77 = .ok (.getfield 25, 3) := by decide +kernel
theorem dX10_step_80 : decode cX10_step 80 = .ok (.invokestatic 38, 3) := by decide +kernel
theorem dX10_step_83 : decode cX10_step 83 = .ok (.ifCond .eq 41, 3) := by decide +kernel
theorem dX10_step_86 : decode cX10_step 86 = .ok (.aload_n 0, 1) := by decide +kernel
theorem dX10_step_87 : decode cX10_step 87 = .ok (.getfield 22, 3) := by decide +kernel
theorem dX10_step_90 : decode cX10_step 90 = .ok (.aload_n 0, 1) := by decide +kernel
theorem dX10_step_91 : decode cX10_step 91 = .ok (.getfield 15, 3) := by decide +kernel
theorem dX10_step_94 : decode cX10_step 94 = .ok (.if_icmp .ge 148, 3) := by decide +kernel
theorem dX10_step_97 : decode cX10_step 97 = .ok (.aload_n 0, 1) := by decide +kernel
theorem dX10_step_98 : decode cX10_step 98 = .ok (.aload_n 0, 1) := by decide +kernel
theorem dX10_step_99 : decode cX10_step 99 = .ok (.getfield 22, 3) := by decide +kernel
theorem dX10_step_102 : decode cX10_step 102 = .ok (.invokevirtual 34, 3) := by decide +kernel
theorem dX10_step_105 : decode cX10_step 105 = .ok (.invokestatic 38, 3) := by decide +kernel
theorem dX10_step_108 : decode cX10_step 108 = .ok (.ifCond .eq 134, 3) := by decide +kernel
theorem dX10_step_111 : decode cX10_step 111 = .ok (.aload_n 0, 1) := by decide +kernel
theorem dX10_step_112 : decode cX10_step 112 = .ok (.dup, 1) := by decide +kernel
theorem dX10_step_113 : decode cX10_step 113 = .ok (.getfield 22, 3) := by decide +kernel
theorem dX10_step_116 : decode cX10_step 116 = .ok (.iconst 1, 1) := by decide +kernel
theorem dX10_step_117 : decode cX10_step 117 = .ok (.iadd, 1) := by decide +kernel
theorem dX10_step_118 : decode cX10_step 118 = .ok (.putfield 22, 3) := by decide +kernel
theorem dX10_step_121 : decode cX10_step 121 = .ok (.goto (-35), 3) := by decide +kernel
theorem dX10_step_124 : decode cX10_step 124 = .ok (.aload_n 0, 1) := by decide +kernel
theorem dX10_step_125 : decode cX10_step 125 = .ok (.getfield 25, 3) := by decide +kernel
theorem dX10_step_128 : decode cX10_step 128 = .ok (.invokestatic 42, 3) := by decide +kernel
theorem dX10_step_131 : decode cX10_step 131 = .ok (.ifCond .eq 41, 3) := by decide +kernel
theorem dX10_step_134 : decode cX10_step 134 = .ok (.aload_n 0, 1) := by decide +kernel
theorem dX10_step_135 : decode cX10_step 135 = .ok (.getfield 22, 3) := by decide +kernel
theorem dX10_step_138 : decode cX10_step 138 = .ok (.aload_n 0, 1) := by decide +kernel
theorem dX10_step_139 : decode cX10_step 139 = .ok (.getfield 15, 3) := by decide +kernel
theorem dX10_step_142 : decode cX10_step 142 = .ok (.if_icmp .ge 100, 3) := by decide +kernel
theorem dX10_step_145 : decode cX10_step 145 = .ok (.aload_n 0, 1) := by decide +kernel
theorem dX10_step_146 : decode cX10_step 146 = .ok (.aload_n 0, 1) := by decide +kernel
theorem dX10_step_147 : decode cX10_step 147 = .ok (.getfield 22, 3) := by decide +kernel
theorem dX10_step_150 : decode cX10_step 150 = .ok (.invokevirtual 34, 3) := by decide +kernel
theorem dX10_step_153 : decode cX10_step 153 = .ok (.invokestatic 42, 3) := by decide +kernel
theorem dX10_step_156 : decode cX10_step 156 = .ok (.ifCond .eq 86, 3) := by decide +kernel
theorem dX10_step_159 : decode cX10_step 159 = .ok (.aload_n 0, 1) := by decide +kernel
theorem dX10_step_160 : decode cX10_step 160 = .ok (.dup, 1) := by decide +kernel
theorem dX10_step_161 : decode cX10_step 161 = .ok (.getfield 22, 3) := by decide +kernel
theorem dX10_step_164 : decode cX10_step 164 = .ok (.iconst 1, 1) := by decide +kernel
theorem dX10_step_165 : decode cX10_step 165 = .ok (.iadd, 1) := by decide +kernel
theorem dX10_step_166 : decode cX10_step 166 = .ok (.putfield 22, 3) := by decide +kernel
theorem dX10_step_169 : decode cX10_step 169 = .ok (.goto (-35), 3) := by decide +kernel
theorem dX10_step_172 : decode cX10_step 172 = .ok (.aload_n 0, 1) := by decide +kernel
theorem dX10_step_173 : decode cX10_step 173 = .ok (.getfield 25, 3) := by decide +kernel
theorem dX10_step_176 : decode cX10_step 176 = .ok (.iconst (-1), 1) := by decide +kernel
theorem dX10_step_177 : decode cX10_step 177 = .ok (.if_icmp .eq 65, 3) := by decide +kernel
theorem dX10_step_180 : decode cX10_step 180 = .ok (.aload_n 0, 1) := by decide +kernel
theorem dX10_step_181 : decode cX10_step 181 = .ok (.getfield 25, 3) := by decide +kernel
theorem dX10_step_184 : decode cX10_step 184 = .ok (.bipush 60, 2) := by decide +kernel
theorem dX10_step_186 : decode cX10_step 186 = .ok (.if_icmp .eq 12, 3) := by decide +kernel
theorem dX10_step_189 : decode cX10_step 189 = .ok (.aload_n 0, 1) := by decide +kernel
theorem dX10_step_190 : decode cX10_step 190 = .ok (.getfield 25, 3) := by decide +kernel
theorem dX10_step_193 : decode cX10_step 193 = .ok (.bipush 62, 2) := by decide +kernel
theorem dX10_step_195 : decode cX10_step 195 = .ok (.if_icmp .ne 7, 3) := by decide +kernel
theorem dX10_step_198 : decode cX10_step 198 = .ok (.iconst 1, 1) := by decide +kernel
theorem dX10_step_199 : decode cX10_step 199 = .ok (.goto 4, 3) := by decide +kernel
theorem dX10_step_202 : decode cX10_step 202 = .ok (.iconst 0, 1) := by decide +kernel
theorem dX10_step_203 : decode cX10_step 203 = .ok (.istore_n 1, 1) := by decide +kernel
theorem dX10_step_204 : decode cX10_step 204 = .ok (.aload_n 0, 1) := by decide +kernel
theorem dX10_step_205 : decode cX10_step 205 = .ok (.iload_n 1, 1) := by decide +kernel
theorem dX10_step_206 : decode cX10_step 206 = .ok (.ifCond .eq 27, 3) := by decide +kernel
theorem dX10_step_209 : decode cX10_step 209 = .ok (.aload_n 0, 1) := by decide +kernel
theorem dX10_step_210 : decode cX10_step 210 = .ok (.aload_n 0, 1) := by decide +kernel
theorem dX10_step_211 : decode cX10_step 211 = .ok (.getfield 19, 3) := by decide +kernel
theorem dX10_step_214 : decode cX10_step 214 = .ok (.iconst 1, 1) := by decide +kernel
theorem dX10_step_215 : decode cX10_step 215 = .ok (.iadd, 1) := by decide +kernel
theorem dX10_step_216 : decode cX10_step 216 = .ok (.invokevirtual 34, 3) := by decide +kernel
theorem dX10_step_219 : decode cX10_step 219 = .ok (.bipush 61, 2) := by decide +kernel
theorem dX10_step_221 : decode cX10_step 221 = .ok (.if_icmp .ne 12, 3) := by decide +kernel
theorem dX10_step_224 : decode cX10_step 224 = .ok (.aload_n 0, 1) := by decide +kernel
theorem dX10_step_225 : decode cX10_step 225 = .ok (.getfield 19, 3) := by decide +kernel
theorem dX10_step_228 : decode cX10_step 228 = .ok (.iconst 2, 1) := by decide +kernel
theorem dX10_step_229 : decode cX10_step 229 = .ok (.iadd, 1) := by decide +kernel
theorem dX10_step_230 : decode cX10_step 230 = .ok (.goto 9, 3) := by decide +kernel
theorem dX10_step_233 : decode cX10_step 233 = .ok (.aload_n 0, 1) := by decide +kernel
theorem dX10_step_234 : decode cX10_step 234 = .ok (.getfield 19, 3) := by decide +kernel
theorem dX10_step_237 : decode cX10_step 237 = .ok (.iconst 1, 1) := by decide +kernel
theorem dX10_step_238 : decode cX10_step 238 = .ok (.iadd, 1) := by decide +kernel
theorem dX10_step_239 : decode cX10_step 239 = .ok (.putfield 22, 3) := by decide +kernel
theorem dX10_step_242 : decode cX10_step 242 = .ok (.return_, 1) := by decide +kernel
theorem dX10_takeNumber_0 : decode cX10_takeNumber 0 = .ok (.aload_n 0, 1) := by decide +kernel
theorem dX10_takeNumber_1 : decode cX10_takeNumber 1 = .ok (.iload_n 1, 1) := by decide +kernel
theorem dX10_takeNumber_2 : decode cX10_takeNumber 2 = .ok (.iload_n 2, 1) := by decide +kernel
theorem dX10_takeNumber_3 : decode cX10_takeNumber 3 = .ok (.invokevirtual 66, 3) := by decide +kernel
theorem dX10_takeNumber_6 : decode cX10_takeNumber 6 = .ok (.istore_n 3, 1) := by decide +kernel
theorem dX10_takeNumber_7 : decode cX10_takeNumber 7 = .ok (.aload_n 0, 1) := by decide +kernel
theorem dX10_takeNumber_8 : decode cX10_takeNumber 8 = .ok (.invokevirtual 31, 3) := by decide +kernel
theorem dX10_takeNumber_11 : decode cX10_takeNumber 11 = .ok (.iload_n 3, 1) := by decide +kernel
theorem dX10_takeNumber_12 : decode cX10_takeNumber 12 = .ok (.ireturn, 1) := by decide +kernel
theorem dX10_takes_0 : decode cX10_takes 0 = .ok (.aload_n 0, 1) := by decide +kernel
theorem dX10_takes_1 : decode cX10_takes 1 = .ok (.getfield 25, 3) := by decide +kernel
theorem dX10_takes_4 : decode cX10_takes 4 = .ok (.iload_n 1, 1) := by decide +kernel
theorem dX10_takes_5 : decode cX10_takes 5 = .ok (.if_icmp .eq 5, 3) := by decide +kernel
theorem dX10_takes_8 : decode cX10_takes 8 = .ok (.iconst 0, 1) := by decide +kernel
theorem dX10_takes_9 : decode cX10_takes 9 = .ok (.ireturn, 1) := by decide +kernel
theorem dX10_takes_10 : decode cX10_takes 10 = .ok (.aload_n 0, 1) := by decide +kernel
theorem dX10_takes_11 : decode cX10_takes 11 = .ok (.invokevirtual 31, 3) := by decide +kernel
theorem dX10_takes_14 : decode cX10_takes 14 = .ok (.iconst 1, 1) := by decide +kernel
theorem dX10_takes_15 : decode cX10_takes 15 = .ok (.ireturn, 1) := by decide +kernel
set_option maxHeartbeats 4000000 in
set_option maxRecDepth 100000 in
theorem ct_X10_isLetter (l : Launch) (D : va_G) (tc : Nat → ClassId) (sk : (Nat → Nat) × (Nat → Nat)) (x1 : Int32)  : Ct l yX10_isLetter cX10_isLetter 1 (some .boolean) { frames := 0, cells := 0, slots := 0, locals := 0 } D tc sk [.int x1] [] (fun (v : Option Value) (_ : Unit) => ∃ r : Int32, v = some (.int r) ∧ ((r.toInt = 0 ∨ r.toInt = 1))) (fun (_ : Unit) => []) 0 0 := by
  refine Ct.start (by decide) (Nat.le_of_ble_eq_true rfl) (fun p e s m below meth c A ls hx hb hr hlk hin hml hown hts hK hX hP hD hA hl hS => ?_)
  have hl : lv_has ls 1 [(0, .int x1)] := hl
  refine lv_iload_n hx hb dX10_isLetter_0 rfl (lv_at hl 0 rfl) ?_
  refine lv_bipush (v := 97) hx hb dX10_isLetter_1 (by decide) ?_
  refine lv_icmp_lt (tgt := 16) hx hb dX10_isLetter_3 (by decide) (fun c_1 => ?_) (fun c_1 => ?_)
  · skip
    refine lv_iconst (v := 0) hx hb dX10_isLetter_16 (by decide) ?_
    have hp_2 : ((0 : Int32).toInt = 0 ∨ (0 : Int32).toInt = 1) := by
      have z_1 := Int32.lt_iff_toInt_lt.mp c_1
      have y_97 : (97 : Int32).toInt = 97 := by decide
      have y_0 : (0 : Int32).toInt = 0 := by decide
      have yr : (0 : Int32).toInt = 0 := by decide
      omega
    exact retI (v := 0) hx hb hr hlk (rfl) hP hD hS () ⟨_, rfl, hp_2⟩ [] rfl rfl dX10_isLetter_17 (Nat.le_of_ble_eq_true rfl) (Nat.le_of_ble_eq_true rfl) rfl
  · skip
    refine lv_iload_n hx hb dX10_isLetter_6 rfl (lv_at hl 0 rfl) ?_
    refine lv_bipush (v := 122) hx hb dX10_isLetter_7 (by decide) ?_
    refine lv_icmp_gt (tgt := 16) hx hb dX10_isLetter_9 (by decide) (fun c_3 => ?_) (fun c_3 => ?_)
    · skip
      refine lv_iconst (v := 0) hx hb dX10_isLetter_16 (by decide) ?_
      have hp_4 : ((0 : Int32).toInt = 0 ∨ (0 : Int32).toInt = 1) := by
        have z_1 := Int32.le_iff_toInt_le.mp (Int32.not_lt.mp c_1)
        have z_2 := Int32.lt_iff_toInt_lt.mp c_3
        have y_97 : (97 : Int32).toInt = 97 := by decide
        have y_122 : (122 : Int32).toInt = 122 := by decide
        have y_0 : (0 : Int32).toInt = 0 := by decide
        have yr : (0 : Int32).toInt = 0 := by decide
        omega
      exact retI (v := 0) hx hb hr hlk (rfl) hP hD hS () ⟨_, rfl, hp_4⟩ [] rfl rfl dX10_isLetter_17 (Nat.le_of_ble_eq_true rfl) (Nat.le_of_ble_eq_true rfl) rfl
    · skip
      refine lv_iconst (v := 1) hx hb dX10_isLetter_12 (by decide) ?_
      refine lv_goto (tgt := 17) hx hb dX10_isLetter_13 (by decide) ?_
      have hp_5 : ((1 : Int32).toInt = 0 ∨ (1 : Int32).toInt = 1) := by
        have z_1 := Int32.le_iff_toInt_le.mp (Int32.not_lt.mp c_1)
        have z_2 := Int32.le_iff_toInt_le.mp (Int32.not_lt.mp c_3)
        have y_97 : (97 : Int32).toInt = 97 := by decide
        have y_122 : (122 : Int32).toInt = 122 := by decide
        have y_1 : (1 : Int32).toInt = 1 := by decide
        have yr : (1 : Int32).toInt = 1 := by decide
        omega
      exact retI (v := 1) hx hb hr hlk (rfl) hP hD hS () ⟨_, rfl, hp_5⟩ [] rfl rfl dX10_isLetter_17 (Nat.le_of_ble_eq_true rfl) (Nat.le_of_ble_eq_true rfl) rfl

set_option maxHeartbeats 4000000 in
set_option maxRecDepth 100000 in
theorem ct_X10_isDigit (l : Launch) (D : va_G) (tc : Nat → ClassId) (sk : (Nat → Nat) × (Nat → Nat)) (x1 : Int32)  : Ct l yX10_isDigit cX10_isDigit 1 (some .boolean) { frames := 0, cells := 0, slots := 0, locals := 0 } D tc sk [.int x1] [] (fun (v : Option Value) (_ : Unit) => ∃ r : Int32, v = some (.int r) ∧ ((r.toInt = 0 ∨ r.toInt = 1))) (fun (_ : Unit) => []) 0 0 := by
  refine Ct.start (by decide) (Nat.le_of_ble_eq_true rfl) (fun p e s m below meth c A ls hx hb hr hlk hin hml hown hts hK hX hP hD hA hl hS => ?_)
  have hl : lv_has ls 1 [(0, .int x1)] := hl
  refine lv_iload_n hx hb dX10_isDigit_0 rfl (lv_at hl 0 rfl) ?_
  refine lv_bipush (v := 48) hx hb dX10_isDigit_1 (by decide) ?_
  refine lv_icmp_lt (tgt := 16) hx hb dX10_isDigit_3 (by decide) (fun c_1 => ?_) (fun c_1 => ?_)
  · skip
    refine lv_iconst (v := 0) hx hb dX10_isDigit_16 (by decide) ?_
    have hp_2 : ((0 : Int32).toInt = 0 ∨ (0 : Int32).toInt = 1) := by
      have z_1 := Int32.lt_iff_toInt_lt.mp c_1
      have y_48 : (48 : Int32).toInt = 48 := by decide
      have y_0 : (0 : Int32).toInt = 0 := by decide
      have yr : (0 : Int32).toInt = 0 := by decide
      omega
    exact retI (v := 0) hx hb hr hlk (rfl) hP hD hS () ⟨_, rfl, hp_2⟩ [] rfl rfl dX10_isDigit_17 (Nat.le_of_ble_eq_true rfl) (Nat.le_of_ble_eq_true rfl) rfl
  · skip
    refine lv_iload_n hx hb dX10_isDigit_6 rfl (lv_at hl 0 rfl) ?_
    refine lv_bipush (v := 57) hx hb dX10_isDigit_7 (by decide) ?_
    refine lv_icmp_gt (tgt := 16) hx hb dX10_isDigit_9 (by decide) (fun c_3 => ?_) (fun c_3 => ?_)
    · skip
      refine lv_iconst (v := 0) hx hb dX10_isDigit_16 (by decide) ?_
      have hp_4 : ((0 : Int32).toInt = 0 ∨ (0 : Int32).toInt = 1) := by
        have z_1 := Int32.le_iff_toInt_le.mp (Int32.not_lt.mp c_1)
        have z_2 := Int32.lt_iff_toInt_lt.mp c_3
        have y_48 : (48 : Int32).toInt = 48 := by decide
        have y_57 : (57 : Int32).toInt = 57 := by decide
        have y_0 : (0 : Int32).toInt = 0 := by decide
        have yr : (0 : Int32).toInt = 0 := by decide
        omega
      exact retI (v := 0) hx hb hr hlk (rfl) hP hD hS () ⟨_, rfl, hp_4⟩ [] rfl rfl dX10_isDigit_17 (Nat.le_of_ble_eq_true rfl) (Nat.le_of_ble_eq_true rfl) rfl
    · skip
      refine lv_iconst (v := 1) hx hb dX10_isDigit_12 (by decide) ?_
      refine lv_goto (tgt := 17) hx hb dX10_isDigit_13 (by decide) ?_
      have hp_5 : ((1 : Int32).toInt = 0 ∨ (1 : Int32).toInt = 1) := by
        have z_1 := Int32.le_iff_toInt_le.mp (Int32.not_lt.mp c_1)
        have z_2 := Int32.le_iff_toInt_le.mp (Int32.not_lt.mp c_3)
        have y_48 : (48 : Int32).toInt = 48 := by decide
        have y_57 : (57 : Int32).toInt = 57 := by decide
        have y_1 : (1 : Int32).toInt = 1 := by decide
        have yr : (1 : Int32).toInt = 1 := by decide
        omega
      exact retI (v := 1) hx hb hr hlk (rfl) hP hD hS () ⟨_, rfl, hp_5⟩ [] rfl rfl dX10_isDigit_17 (Nat.le_of_ble_eq_true rfl) (Nat.le_of_ble_eq_true rfl) rfl

set_option maxHeartbeats 4000000 in
set_option maxRecDepth 100000 in
theorem ct_X10_hasRoom (l : Launch) (D : va_G) (tc : Nat → ClassId) (sk : (Nat → Nat) × (Nat → Nat)) (Ta : Nat → Nat) (Tv : Nat → Int32) (Tf : Nat → Nat → Int32) (h_tape : 0 ≤ ((Tv 0) : Int32).toInt ∧ ((Tv 0) : Int32).toInt ≤ 400 ∧ 0 ≤ ((Tv 1) : Int32).toInt ∧ ((Tv 1) : Int32).toInt ≤ 400 ∧ 0 ≤ ((Tv 2) : Int32).toInt ∧ ((Tv 2) : Int32).toInt ≤ 400) : Ct l yX10_hasRoom cX10_hasRoom 1 (some .boolean) { frames := 0, cells := 0, slots := 0, locals := 0 } D tc sk [.ref (Ta 0)] [((Ta 0), .inr (10, [.ref (Ta 1), .int (Tv 0), .int (Tv 1), .int (Tv 2), .int (Tv 3), .int (Tv 4)])), ((Ta 1), .inl (tc 0, 400, .inl (Tf 1)))] (fun (v : Option Value) (_ : Unit) => ∃ r : Int32, v = some (.int r) ∧ ((r.toInt = 0 ∨ (r.toInt = 1 ∧ (Tv 0).toInt ≤ 380))) ∧ (0 ≤ ((Tv 0) : Int32).toInt ∧ ((Tv 0) : Int32).toInt ≤ 400 ∧ 0 ≤ ((Tv 1) : Int32).toInt ∧ ((Tv 1) : Int32).toInt ≤ 400 ∧ 0 ≤ ((Tv 2) : Int32).toInt ∧ ((Tv 2) : Int32).toInt ≤ 400)) (fun (_ : Unit) => [((Ta 0), .inr (10, [.ref (Ta 1), .int (Tv 0), .int (Tv 1), .int (Tv 2), .int (Tv 3), .int (Tv 4)])), ((Ta 1), .inl (tc 0, 400, .inl (Tf 1)))]) 0 0 := by
  refine Ct.start (by decide) (Nat.le_of_ble_eq_true rfl) (fun p e s m below meth c A ls hx hb hr hlk hin hml hown hts hK hX hP hD hA hl hS => ?_)
  have hl : lv_has ls 1 [(0, .ref (Ta 0))] := hl
  refine lv_aload_n hx hb dX10_hasRoom_0 rfl (lv_at hl 0 rfl) ?_
  refine gf_X10_15 hx hb hts hown hK hP 0 rfl rfl dX10_hasRoom_1 ?_
  refine lv_bipush (v := 20) hx hb dX10_hasRoom_4 (by decide) ?_
  refine lv_iadd hx hb dX10_hasRoom_6 ?_
  refine lv_topi (fun x_1 ex_1 => ?_)
  refine lv_aload_n hx hb dX10_hasRoom_7 rfl (lv_at hl 0 rfl) ?_
  refine gf_X10_9 hx hb hts hown hK hP 0 rfl rfl dX10_hasRoom_8 ?_
  refine va_alen hx hb hK hP 1 0 rfl rfl (v := 400) rfl dX10_hasRoom_11 ?_
  refine lv_icmp_gt (tgt := 19) hx hb dX10_hasRoom_12 (by decide) (fun c_2 => ?_) (fun c_2 => ?_)
  · skip
    refine lv_iconst (v := 0) hx hb dX10_hasRoom_19 (by decide) ?_
    have hq_3 : 0 ≤ ((Tv 0) : Int32).toInt ∧ ((Tv 0) : Int32).toInt ≤ 400 ∧ 0 ≤ ((Tv 1) : Int32).toInt ∧ ((Tv 1) : Int32).toInt ≤ 400 ∧ 0 ≤ ((Tv 2) : Int32).toInt ∧ ((Tv 2) : Int32).toInt ≤ 400 := by
      have z_1 := Int32.lt_iff_toInt_lt.mp c_2
      have y_400 : (400 : Int32).toInt = 400 := by decide
      have y_20 : (20 : Int32).toInt = 20 := by decide
      have t_x_1 : x_1.toInt = ((Tv 0) : Int32).toInt + (20 : Int32).toInt := by rw [ex_1]; exact add_toInt (by omega) (by omega)
      first | assumption | omega
    have hp_4 : ((0 : Int32).toInt = 0 ∨ ((0 : Int32).toInt = 1 ∧ (Tv 0).toInt ≤ 380)) := by
      have z_1 := Int32.lt_iff_toInt_lt.mp c_2
      have y_400 : (400 : Int32).toInt = 400 := by decide
      have y_0 : (0 : Int32).toInt = 0 := by decide
      have y_20 : (20 : Int32).toInt = 20 := by decide
      have t_x_1 : x_1.toInt = ((Tv 0) : Int32).toInt + (20 : Int32).toInt := by rw [ex_1]; exact add_toInt (by omega) (by omega)
      have yr : (0 : Int32).toInt = 0 := by decide
      omega
    exact retI (v := 0) hx hb hr hlk (rfl) hP hD hS () ⟨_, rfl, hp_4, hq_3⟩ [0, 1] rfl rfl dX10_hasRoom_20 (Nat.le_of_ble_eq_true rfl) (Nat.le_of_ble_eq_true rfl) rfl
  · skip
    refine lv_iconst (v := 1) hx hb dX10_hasRoom_15 (by decide) ?_
    refine lv_goto (tgt := 20) hx hb dX10_hasRoom_16 (by decide) ?_
    have hq_5 : 0 ≤ ((Tv 0) : Int32).toInt ∧ ((Tv 0) : Int32).toInt ≤ 400 ∧ 0 ≤ ((Tv 1) : Int32).toInt ∧ ((Tv 1) : Int32).toInt ≤ 400 ∧ 0 ≤ ((Tv 2) : Int32).toInt ∧ ((Tv 2) : Int32).toInt ≤ 400 := by
      have z_1 := Int32.le_iff_toInt_le.mp (Int32.not_lt.mp c_2)
      have y_400 : (400 : Int32).toInt = 400 := by decide
      have y_20 : (20 : Int32).toInt = 20 := by decide
      have t_x_1 : x_1.toInt = ((Tv 0) : Int32).toInt + (20 : Int32).toInt := by rw [ex_1]; exact add_toInt (by omega) (by omega)
      first | assumption | omega
    have hp_6 : ((1 : Int32).toInt = 0 ∨ ((1 : Int32).toInt = 1 ∧ (Tv 0).toInt ≤ 380)) := by
      have z_1 := Int32.le_iff_toInt_le.mp (Int32.not_lt.mp c_2)
      have y_400 : (400 : Int32).toInt = 400 := by decide
      have y_1 : (1 : Int32).toInt = 1 := by decide
      have y_20 : (20 : Int32).toInt = 20 := by decide
      have t_x_1 : x_1.toInt = ((Tv 0) : Int32).toInt + (20 : Int32).toInt := by rw [ex_1]; exact add_toInt (by omega) (by omega)
      have yr : (1 : Int32).toInt = 1 := by decide
      omega
    exact retI (v := 1) hx hb hr hlk (rfl) hP hD hS () ⟨_, rfl, hp_6, hq_5⟩ [0, 1] rfl rfl dX10_hasRoom_20 (Nat.le_of_ble_eq_true rfl) (Nat.le_of_ble_eq_true rfl) rfl
set_option maxRecDepth 100000 in
theorem cu_X10_hasRoom (l : Launch) (D : va_G) (tc : Nat → ClassId) (sk : (Nat → Nat) × (Nat → Nat)) (Ta_0 : Nat) (Ta_1 : Nat) (Tv_0 : Int32) (Tv_1 : Int32) (Tv_2 : Int32) (Tv_3 : Int32) (Tv_4 : Int32) (Tf_1 : Nat → Int32) (h_tape : 0 ≤ (Tv_0 : Int32).toInt ∧ (Tv_0 : Int32).toInt ≤ 400 ∧ 0 ≤ (Tv_1 : Int32).toInt ∧ (Tv_1 : Int32).toInt ≤ 400 ∧ 0 ≤ (Tv_2 : Int32).toInt ∧ (Tv_2 : Int32).toInt ≤ 400) : Ct l yX10_hasRoom cX10_hasRoom 1 (some .boolean) { frames := 0, cells := 0, slots := 0, locals := 0 } D tc sk [.ref Ta_0] [(Ta_0, .inr (10, [.ref Ta_1, .int Tv_0, .int Tv_1, .int Tv_2, .int Tv_3, .int Tv_4])), (Ta_1, .inl (tc 0, 400, .inl Tf_1))] (fun (v : Option Value) (_ : Unit) => ∃ r : Int32, v = some (.int r) ∧ ((r.toInt = 0 ∨ (r.toInt = 1 ∧ Tv_0.toInt ≤ 380))) ∧ (0 ≤ (Tv_0 : Int32).toInt ∧ (Tv_0 : Int32).toInt ≤ 400 ∧ 0 ≤ (Tv_1 : Int32).toInt ∧ (Tv_1 : Int32).toInt ≤ 400 ∧ 0 ≤ (Tv_2 : Int32).toInt ∧ (Tv_2 : Int32).toInt ≤ 400)) (fun (_ : Unit) => [(Ta_0, .inr (10, [.ref Ta_1, .int Tv_0, .int Tv_1, .int Tv_2, .int Tv_3, .int Tv_4])), (Ta_1, .inl (tc 0, 400, .inl Tf_1))]) 0 0 :=
  ct_X10_hasRoom l D tc sk (fun k => ([Ta_0, Ta_1] : List (Nat)).getD k 0) (fun k => ([Tv_0, Tv_1, Tv_2, Tv_3, Tv_4] : List (Int32)).getD k 0) (fun k => ([(fun _ => 0), Tf_1] : List (Nat → Int32)).getD k (fun _ => 0)) h_tape
set_option maxHeartbeats 4000000 in
set_option maxRecDepth 100000 in
theorem ct_X10_byteAt (l : Launch) (D : va_G) (tc : Nat → ClassId) (sk : (Nat → Nat) × (Nat → Nat)) (Ta : Nat → Nat) (Tv : Nat → Int32) (Tf : Nat → Nat → Int32) (x1 : Int32)  : Ct l yX10_byteAt cX10_byteAt 2 (some .int) { frames := 0, cells := 0, slots := 0, locals := 0 } D tc sk [.ref (Ta 0), .int x1] [((Ta 0), .inr (10, [.ref (Ta 1), .int (Tv 0), .int (Tv 1), .int (Tv 2), .int (Tv 3), .int (Tv 4)])), ((Ta 1), .inl (tc 0, 400, .inl (Tf 1)))] (fun (v : Option Value) (_ : Unit) => ∃ r : Int32, v = some (.int r) ∧ ((r.toInt = -1 ∨ (0 ≤ x1.toInt ∧ x1.toInt < (Tv 0).toInt ∧ x1.toInt < 400)))) (fun (_ : Unit) => [((Ta 0), .inr (10, [.ref (Ta 1), .int (Tv 0), .int (Tv 1), .int (Tv 2), .int (Tv 3), .int (Tv 4)])), ((Ta 1), .inl (tc 0, 400, .inl (Tf 1)))]) 0 0 := by
  refine Ct.start (by decide) (Nat.le_of_ble_eq_true rfl) (fun p e s m below meth c A ls hx hb hr hlk hin hml hown hts hK hX hP hD hA hl hS => ?_)
  have hl : lv_has ls 2 [(0, .ref (Ta 0)), (1, .int x1)] := hl
  refine lv_iload_n hx hb dX10_byteAt_0 rfl (lv_at hl 1 rfl) ?_
  refine lv_if_lt (tgt := 30) hx hb dX10_byteAt_1 (by decide) (fun c_1 => ?_) (fun c_1 => ?_)
  · skip
    refine lv_iconst (v := (-1)) hx hb dX10_byteAt_30 (by decide) ?_
    have hp_2 : (((-1) : Int32).toInt = -1 ∨ (0 ≤ x1.toInt ∧ x1.toInt < (Tv 0).toInt ∧ x1.toInt < 400)) := by
      have z_1 := Int32.lt_iff_toInt_lt.mp c_1
      have y_0 : (0 : Int32).toInt = 0 := by decide
      have y_m1 : (-1 : Int32).toInt = -1 := by decide
      have yr : (-1 : Int32).toInt = -1 := by decide
      omega
    exact retI (v := (-1)) hx hb hr hlk (rfl) hP hD hS () ⟨_, rfl, hp_2⟩ [0, 1] rfl rfl dX10_byteAt_31 (Nat.le_of_ble_eq_true rfl) (Nat.le_of_ble_eq_true rfl) rfl
  · skip
    refine lv_iload_n hx hb dX10_byteAt_4 rfl (lv_at hl 1 rfl) ?_
    refine lv_aload_n hx hb dX10_byteAt_5 rfl (lv_at hl 0 rfl) ?_
    refine gf_X10_15 hx hb hts hown hK hP 0 rfl rfl dX10_byteAt_6 ?_
    refine lv_icmp_ge (tgt := 30) hx hb dX10_byteAt_9 (by decide) (fun c_3 => ?_) (fun c_3 => ?_)
    · skip
      refine lv_iconst (v := (-1)) hx hb dX10_byteAt_30 (by decide) ?_
      have hp_4 : (((-1) : Int32).toInt = -1 ∨ (0 ≤ x1.toInt ∧ x1.toInt < (Tv 0).toInt ∧ x1.toInt < 400)) := by
        have z_1 := Int32.le_iff_toInt_le.mp (Int32.not_lt.mp c_1)
        have z_2 := Int32.le_iff_toInt_le.mp c_3
        have y_0 : (0 : Int32).toInt = 0 := by decide
        have y_m1 : (-1 : Int32).toInt = -1 := by decide
        have yr : (-1 : Int32).toInt = -1 := by decide
        omega
      exact retI (v := (-1)) hx hb hr hlk (rfl) hP hD hS () ⟨_, rfl, hp_4⟩ [0, 1] rfl rfl dX10_byteAt_31 (Nat.le_of_ble_eq_true rfl) (Nat.le_of_ble_eq_true rfl) rfl
    · skip
      refine lv_iload_n hx hb dX10_byteAt_12 rfl (lv_at hl 1 rfl) ?_
      refine lv_aload_n hx hb dX10_byteAt_13 rfl (lv_at hl 0 rfl) ?_
      refine gf_X10_9 hx hb hts hown hK hP 0 rfl rfl dX10_byteAt_14 ?_
      refine va_alen hx hb hK hP 1 0 rfl rfl (v := 400) rfl dX10_byteAt_17 ?_
      refine lv_icmp_ge (tgt := 30) hx hb dX10_byteAt_18 (by decide) (fun c_5 => ?_) (fun c_5 => ?_)
      · skip
        refine lv_iconst (v := (-1)) hx hb dX10_byteAt_30 (by decide) ?_
        have hp_6 : (((-1) : Int32).toInt = -1 ∨ (0 ≤ x1.toInt ∧ x1.toInt < (Tv 0).toInt ∧ x1.toInt < 400)) := by
          have z_1 := Int32.le_iff_toInt_le.mp (Int32.not_lt.mp c_1)
          have z_2 := Int32.lt_iff_toInt_lt.mp (Int32.not_le.mp c_3)
          have z_3 := Int32.le_iff_toInt_le.mp c_5
          have y_0 : (0 : Int32).toInt = 0 := by decide
          have y_400 : (400 : Int32).toInt = 400 := by decide
          have y_m1 : (-1 : Int32).toInt = -1 := by decide
          have yr : (-1 : Int32).toInt = -1 := by decide
          omega
        exact retI (v := (-1)) hx hb hr hlk (rfl) hP hD hS () ⟨_, rfl, hp_6⟩ [0, 1] rfl rfl dX10_byteAt_31 (Nat.le_of_ble_eq_true rfl) (Nat.le_of_ble_eq_true rfl) rfl
      · skip
        refine lv_aload_n hx hb dX10_byteAt_21 rfl (lv_at hl 0 rfl) ?_
        refine gf_X10_9 hx hb hts hown hK hP 0 rfl rfl dX10_byteAt_22 ?_
        refine lv_iload_n hx hb dX10_byteAt_25 rfl (lv_at hl 1 rfl) ?_
        have hi_7 : vp_in x1 400 := by
          have z_1 := Int32.le_iff_toInt_le.mp (Int32.not_lt.mp c_1)
          have z_2 := Int32.lt_iff_toInt_lt.mp (Int32.not_le.mp c_3)
          have z_3 := Int32.lt_iff_toInt_lt.mp (Int32.not_le.mp c_5)
          have y_0 : (0 : Int32).toInt = 0 := by decide
          have y_400 : (400 : Int32).toInt = 400 := by decide
          refine vp_in_iff.mpr ⟨?_, ?_⟩ <;> omega
        refine va_iald hx hb hK hP 1 0 rfl rfl hi_7 dX10_byteAt_26 ?_
        refine lv_topi (fun x_8 ex_8 => ?_)
        refine lv_goto (tgt := 31) hx hb dX10_byteAt_27 (by decide) ?_
        have hp_9 : ((x_8 : Int32).toInt = -1 ∨ (0 ≤ x1.toInt ∧ x1.toInt < (Tv 0).toInt ∧ x1.toInt < 400)) := by
          have z_1 := Int32.le_iff_toInt_le.mp (Int32.not_lt.mp c_1)
          have z_2 := Int32.lt_iff_toInt_lt.mp (Int32.not_le.mp c_3)
          have z_3 := Int32.lt_iff_toInt_lt.mp (Int32.not_le.mp c_5)
          have y_0 : (0 : Int32).toInt = 0 := by decide
          have y_400 : (400 : Int32).toInt = 400 := by decide
          omega
        exact retI (v := x_8) hx hb hr hlk (rfl) hP hD hS () ⟨_, rfl, hp_9⟩ [0, 1] rfl rfl dX10_byteAt_31 (Nat.le_of_ble_eq_true rfl) (Nat.le_of_ble_eq_true rfl) rfl
set_option maxRecDepth 100000 in
theorem cu_X10_byteAt (l : Launch) (D : va_G) (tc : Nat → ClassId) (sk : (Nat → Nat) × (Nat → Nat)) (Ta_0 : Nat) (Ta_1 : Nat) (Tv_0 : Int32) (Tv_1 : Int32) (Tv_2 : Int32) (Tv_3 : Int32) (Tv_4 : Int32) (Tf_1 : Nat → Int32) (x1 : Int32)  : Ct l yX10_byteAt cX10_byteAt 2 (some .int) { frames := 0, cells := 0, slots := 0, locals := 0 } D tc sk [.ref Ta_0, .int x1] [(Ta_0, .inr (10, [.ref Ta_1, .int Tv_0, .int Tv_1, .int Tv_2, .int Tv_3, .int Tv_4])), (Ta_1, .inl (tc 0, 400, .inl Tf_1))] (fun (v : Option Value) (_ : Unit) => ∃ r : Int32, v = some (.int r) ∧ ((r.toInt = -1 ∨ (0 ≤ x1.toInt ∧ x1.toInt < Tv_0.toInt ∧ x1.toInt < 400)))) (fun (_ : Unit) => [(Ta_0, .inr (10, [.ref Ta_1, .int Tv_0, .int Tv_1, .int Tv_2, .int Tv_3, .int Tv_4])), (Ta_1, .inl (tc 0, 400, .inl Tf_1))]) 0 0 :=
  ct_X10_byteAt l D tc sk (fun k => ([Ta_0, Ta_1] : List (Nat)).getD k 0) (fun k => ([Tv_0, Tv_1, Tv_2, Tv_3, Tv_4] : List (Int32)).getD k 0) (fun k => ([(fun _ => 0), Tf_1] : List (Nat → Int32)).getD k (fun _ => 0)) x1 
set_option maxHeartbeats 4000000 in
set_option maxRecDepth 100000 in
theorem ct_X10_add (l : Launch) (D : va_G) (tc : Nat → ClassId) (sk : (Nat → Nat) × (Nat → Nat)) (Ta : Nat → Nat) (Tv : Nat → Int32) (Tf : Nat → Nat → Int32) (x1 : Int32) (hroom : (Tv 0).toInt ≤ 396) (h_tape : 0 ≤ ((Tv 0) : Int32).toInt ∧ ((Tv 0) : Int32).toInt ≤ 400 ∧ 0 ≤ ((Tv 1) : Int32).toInt ∧ ((Tv 1) : Int32).toInt ≤ 400 ∧ 0 ≤ ((Tv 2) : Int32).toInt ∧ ((Tv 2) : Int32).toInt ≤ 400) : Ct l yX10_add cX10_add 3 none { frames := 0, cells := 0, slots := 0, locals := 0 } D tc sk [.ref (Ta 0), .int x1] [((Ta 0), .inr (10, [.ref (Ta 1), .int (Tv 0), .int (Tv 1), .int (Tv 2), .int (Tv 3), .int (Tv 4)])), ((Ta 1), .inl (tc 0, 400, .inl (Tf 1)))] (fun (v : Option Value) (u : (Int32) × (Nat → Int32)) => match u with | (o1, o2) => v = none ∧ (0 ≤ (o1 : Int32).toInt ∧ (o1 : Int32).toInt ≤ 400 ∧ 0 ≤ ((Tv 1) : Int32).toInt ∧ ((Tv 1) : Int32).toInt ≤ 400 ∧ 0 ≤ ((Tv 2) : Int32).toInt ∧ ((Tv 2) : Int32).toInt ≤ 400) ∧ ((o1 : Int32).toInt = ((Tv 0) : Int32).toInt + 4)) (fun (u : (Int32) × (Nat → Int32)) => match u with | (o1, o2) => [((Ta 0), .inr (10, [.ref (Ta 1), .int o1, .int (Tv 1), .int (Tv 2), .int (Tv 3), .int (Tv 4)])), ((Ta 1), .inl (tc 0, 400, .inl o2))]) 0 0 := by
  refine Ct.start (by decide) (Nat.le_of_ble_eq_true rfl) (fun p e s m below meth c A ls hx hb hr hlk hin hml hown hts hK hX hP hD hA hl hS => ?_)
  have hl : lv_has ls 3 [(0, .ref (Ta 0)), (1, .int x1)] := hl
  refine lv_bipush (v := 24) hx hb dX10_add_0 (by decide) ?_
  refine lv_istore_n (lv' := [(2, .int 24), (0, .ref (Ta 0)), (1, .int x1)]) hx hb dX10_add_2 rfl hl (by decide) rfl (fun ls hl => ?_)
  refine lv_iload_n hx hb dX10_add_3 rfl (lv_at hl 0 rfl) ?_
  refine lv_if_lt (tgt := 58) hx hb dX10_add_4 (by decide) (fun c_1 => absurd c_1 (by decide)) (fun c_1 => ?_)
  refine lv_aload_n hx hb dX10_add_7 rfl (lv_at hl 1 rfl) ?_
  refine gf_X10_15 hx hb hts hown hK hP 0 rfl rfl dX10_add_8 ?_
  refine lv_if_lt (tgt := 52) hx hb dX10_add_11 (by decide) (fun c_2 => ?_) (fun c_2 => ?_)
  · skip
    exfalso
    have z_1 := Int32.lt_iff_toInt_lt.mp c_2
    have y_0 : (0 : Int32).toInt = 0 := by decide
    omega
  · skip
    refine lv_aload_n hx hb dX10_add_14 rfl (lv_at hl 1 rfl) ?_
    refine gf_X10_15 hx hb hts hown hK hP 0 rfl rfl dX10_add_15 ?_
    refine lv_aload_n hx hb dX10_add_18 rfl (lv_at hl 1 rfl) ?_
    refine gf_X10_9 hx hb hts hown hK hP 0 rfl rfl dX10_add_19 ?_
    refine va_alen hx hb hK hP 1 0 rfl rfl (v := 400) rfl dX10_add_22 ?_
    refine lv_icmp_ge (tgt := 52) hx hb dX10_add_23 (by decide) (fun c_3 => ?_) (fun c_3 => ?_)
    · skip
      exfalso
      have z_1 := Int32.le_iff_toInt_le.mp (Int32.not_lt.mp c_2)
      have z_2 := Int32.le_iff_toInt_le.mp c_3
      have y_0 : (0 : Int32).toInt = 0 := by decide
      have y_400 : (400 : Int32).toInt = 400 := by decide
      omega
    · skip
      refine lv_aload_n hx hb dX10_add_26 rfl (lv_at hl 1 rfl) ?_
      refine gf_X10_9 hx hb hts hown hK hP 0 rfl rfl dX10_add_27 ?_
      refine lv_aload_n hx hb dX10_add_30 rfl (lv_at hl 1 rfl) ?_
      refine gf_X10_15 hx hb hts hown hK hP 0 rfl rfl dX10_add_31 ?_
      refine lv_iload_n hx hb dX10_add_34 rfl (lv_at hl 2 rfl) ?_
      refine lv_iload_n hx hb dX10_add_35 rfl (lv_at hl 0 rfl) ?_
      obtain ⟨x_4, ex_4⟩ : ∃ y : Int32, y = ((x1 : Int32).toUInt32 >>> ((24 : Int32).toUInt32 &&& Int32.toUInt32 31)).toInt32 := ⟨_, rfl⟩
      refine lv_iushr (v := x_4) hx hb dX10_add_36 ex_4.symm ?_
      refine lv_sipush (v := 255) hx hb dX10_add_37 (by decide) ?_
      refine lv_iand hx hb dX10_add_40 ?_
      refine lv_topi (fun x_5 ex_5 => ?_)
      have hi_6 : vp_in (Tv 0) 400 := by
        have z_1 := Int32.le_iff_toInt_le.mp (Int32.not_lt.mp c_2)
        have z_2 := Int32.lt_iff_toInt_lt.mp (Int32.not_le.mp c_3)
        have y_0 : (0 : Int32).toInt = 0 := by decide
        have y_400 : (400 : Int32).toInt = 400 := by decide
        refine vp_in_iff.mpr ⟨?_, ?_⟩ <;> omega
      refine st_int hx hb hK hP hD hS 1 0 rfl rfl hi_6 dX10_add_41 (fun g_7 H locs eg_7 hP hD hS => ?_)
      have hP : va_P D classes [((Ta 0), .inr (10, [.ref (Ta 1), .int (Tv 0), .int (Tv 1), .int (Tv 2), .int (Tv 3), .int (Tv 4)])), ((Ta 1), .inl (tc 0, 400, .inl g_7))] H := hP
      have hD : va_D A [((Ta 0), .inr (10, [.ref (Ta 1), .int (Tv 0), .int (Tv 1), .int (Tv 2), .int (Tv 3), .int (Tv 4)])), ((Ta 1), .inl (tc 0, 400, .inl g_7))] := hD
      refine lv_aload_n hx hb dX10_add_42 rfl (lv_at hl 1 rfl) ?_
      refine lv_dup hx hb dX10_add_43 rfl ?_
      refine gf_X10_15 hx hb hts hown hK hP 0 rfl rfl dX10_add_44 ?_
      refine lv_iconst (v := 1) hx hb dX10_add_47 (by decide) ?_
      refine lv_iadd hx hb dX10_add_48 ?_
      refine lv_topi (fun x_8 ex_8 => ?_)
      refine pf_X10_15 hx hb hts hown hK hP hD hS 0 rfl (Nat.le_of_ble_eq_true rfl) rfl rfl dX10_add_49 (fun H locs hP hD hS => ?_)
      have hP : va_P D classes [((Ta 0), .inr (10, [.ref (Ta 1), .int x_8, .int (Tv 1), .int (Tv 2), .int (Tv 3), .int (Tv 4)])), ((Ta 1), .inl (tc 0, 400, .inl g_7))] H := hP
      have hD : va_D A [((Ta 0), .inr (10, [.ref (Ta 1), .int x_8, .int (Tv 1), .int (Tv 2), .int (Tv 3), .int (Tv 4)])), ((Ta 1), .inl (tc 0, 400, .inl g_7))] := hD
      refine lv_iinc (v := 16) (lv' := [(2, .int 16), (0, .ref (Ta 0)), (1, .int x1)]) hx hb dX10_add_52 hl (k := 0) rfl (by decide) (by decide) rfl (fun ls hl => ?_)
      refine lv_goto (tgt := 3) hx hb dX10_add_55 (by decide) ?_
      refine lv_iload_n hx hb dX10_add_3 rfl (lv_at hl 0 rfl) ?_
      refine lv_if_lt (tgt := 58) hx hb dX10_add_4 (by decide) (fun c_9 => absurd c_9 (by decide)) (fun c_9 => ?_)
      refine lv_aload_n hx hb dX10_add_7 rfl (lv_at hl 1 rfl) ?_
      refine gf_X10_15 hx hb hts hown hK hP 0 rfl rfl dX10_add_8 ?_
      refine lv_if_lt (tgt := 52) hx hb dX10_add_11 (by decide) (fun c_10 => ?_) (fun c_10 => ?_)
      · skip
        exfalso
        have z_1 := Int32.le_iff_toInt_le.mp (Int32.not_lt.mp c_2)
        have z_2 := Int32.lt_iff_toInt_lt.mp (Int32.not_le.mp c_3)
        have z_3 := Int32.lt_iff_toInt_lt.mp c_10
        have y_0 : (0 : Int32).toInt = 0 := by decide
        have y_400 : (400 : Int32).toInt = 400 := by decide
        have y_1 : (1 : Int32).toInt = 1 := by decide
        have t_x_8 : x_8.toInt = ((Tv 0) : Int32).toInt + (1 : Int32).toInt := by rw [ex_8]; exact add_toInt (by omega) (by omega)
        omega
      · skip
        refine lv_aload_n hx hb dX10_add_14 rfl (lv_at hl 1 rfl) ?_
        refine gf_X10_15 hx hb hts hown hK hP 0 rfl rfl dX10_add_15 ?_
        refine lv_aload_n hx hb dX10_add_18 rfl (lv_at hl 1 rfl) ?_
        refine gf_X10_9 hx hb hts hown hK hP 0 rfl rfl dX10_add_19 ?_
        refine va_alen hx hb hK hP 1 0 rfl rfl (v := 400) rfl dX10_add_22 ?_
        refine lv_icmp_ge (tgt := 52) hx hb dX10_add_23 (by decide) (fun c_11 => ?_) (fun c_11 => ?_)
        · skip
          exfalso
          have z_1 := Int32.le_iff_toInt_le.mp (Int32.not_lt.mp c_2)
          have z_2 := Int32.lt_iff_toInt_lt.mp (Int32.not_le.mp c_3)
          have z_3 := Int32.le_iff_toInt_le.mp (Int32.not_lt.mp c_10)
          have z_4 := Int32.le_iff_toInt_le.mp c_11
          have y_0 : (0 : Int32).toInt = 0 := by decide
          have y_400 : (400 : Int32).toInt = 400 := by decide
          have y_1 : (1 : Int32).toInt = 1 := by decide
          have t_x_8 : x_8.toInt = ((Tv 0) : Int32).toInt + (1 : Int32).toInt := by rw [ex_8]; exact add_toInt (by omega) (by omega)
          omega
        · skip
          refine lv_aload_n hx hb dX10_add_26 rfl (lv_at hl 1 rfl) ?_
          refine gf_X10_9 hx hb hts hown hK hP 0 rfl rfl dX10_add_27 ?_
          refine lv_aload_n hx hb dX10_add_30 rfl (lv_at hl 1 rfl) ?_
          refine gf_X10_15 hx hb hts hown hK hP 0 rfl rfl dX10_add_31 ?_
          refine lv_iload_n hx hb dX10_add_34 rfl (lv_at hl 2 rfl) ?_
          refine lv_iload_n hx hb dX10_add_35 rfl (lv_at hl 0 rfl) ?_
          obtain ⟨x_12, ex_12⟩ : ∃ y : Int32, y = ((x1 : Int32).toUInt32 >>> ((16 : Int32).toUInt32 &&& Int32.toUInt32 31)).toInt32 := ⟨_, rfl⟩
          refine lv_iushr (v := x_12) hx hb dX10_add_36 ex_12.symm ?_
          refine lv_sipush (v := 255) hx hb dX10_add_37 (by decide) ?_
          refine lv_iand hx hb dX10_add_40 ?_
          refine lv_topi (fun x_13 ex_13 => ?_)
          have hi_14 : vp_in x_8 400 := by
            have z_1 := Int32.le_iff_toInt_le.mp (Int32.not_lt.mp c_2)
            have z_2 := Int32.lt_iff_toInt_lt.mp (Int32.not_le.mp c_3)
            have z_3 := Int32.le_iff_toInt_le.mp (Int32.not_lt.mp c_10)
            have z_4 := Int32.lt_iff_toInt_lt.mp (Int32.not_le.mp c_11)
            have y_0 : (0 : Int32).toInt = 0 := by decide
            have y_400 : (400 : Int32).toInt = 400 := by decide
            have y_1 : (1 : Int32).toInt = 1 := by decide
            have t_x_8 : x_8.toInt = ((Tv 0) : Int32).toInt + (1 : Int32).toInt := by rw [ex_8]; exact add_toInt (by omega) (by omega)
            refine vp_in_iff.mpr ⟨?_, ?_⟩ <;> omega
          refine st_int hx hb hK hP hD hS 1 0 rfl rfl hi_14 dX10_add_41 (fun g_15 H locs eg_15 hP hD hS => ?_)
          have hP : va_P D classes [((Ta 0), .inr (10, [.ref (Ta 1), .int x_8, .int (Tv 1), .int (Tv 2), .int (Tv 3), .int (Tv 4)])), ((Ta 1), .inl (tc 0, 400, .inl g_15))] H := hP
          have hD : va_D A [((Ta 0), .inr (10, [.ref (Ta 1), .int x_8, .int (Tv 1), .int (Tv 2), .int (Tv 3), .int (Tv 4)])), ((Ta 1), .inl (tc 0, 400, .inl g_15))] := hD
          refine lv_aload_n hx hb dX10_add_42 rfl (lv_at hl 1 rfl) ?_
          refine lv_dup hx hb dX10_add_43 rfl ?_
          refine gf_X10_15 hx hb hts hown hK hP 0 rfl rfl dX10_add_44 ?_
          refine lv_iconst (v := 1) hx hb dX10_add_47 (by decide) ?_
          refine lv_iadd hx hb dX10_add_48 ?_
          refine lv_topi (fun x_16 ex_16 => ?_)
          refine pf_X10_15 hx hb hts hown hK hP hD hS 0 rfl (Nat.le_of_ble_eq_true rfl) rfl rfl dX10_add_49 (fun H locs hP hD hS => ?_)
          have hP : va_P D classes [((Ta 0), .inr (10, [.ref (Ta 1), .int x_16, .int (Tv 1), .int (Tv 2), .int (Tv 3), .int (Tv 4)])), ((Ta 1), .inl (tc 0, 400, .inl g_15))] H := hP
          have hD : va_D A [((Ta 0), .inr (10, [.ref (Ta 1), .int x_16, .int (Tv 1), .int (Tv 2), .int (Tv 3), .int (Tv 4)])), ((Ta 1), .inl (tc 0, 400, .inl g_15))] := hD
          refine lv_iinc (v := 8) (lv' := [(2, .int 8), (0, .ref (Ta 0)), (1, .int x1)]) hx hb dX10_add_52 hl (k := 0) rfl (by decide) (by decide) rfl (fun ls hl => ?_)
          refine lv_goto (tgt := 3) hx hb dX10_add_55 (by decide) ?_
          refine lv_iload_n hx hb dX10_add_3 rfl (lv_at hl 0 rfl) ?_
          refine lv_if_lt (tgt := 58) hx hb dX10_add_4 (by decide) (fun c_17 => absurd c_17 (by decide)) (fun c_17 => ?_)
          refine lv_aload_n hx hb dX10_add_7 rfl (lv_at hl 1 rfl) ?_
          refine gf_X10_15 hx hb hts hown hK hP 0 rfl rfl dX10_add_8 ?_
          refine lv_if_lt (tgt := 52) hx hb dX10_add_11 (by decide) (fun c_18 => ?_) (fun c_18 => ?_)
          · skip
            exfalso
            have z_1 := Int32.le_iff_toInt_le.mp (Int32.not_lt.mp c_2)
            have z_2 := Int32.lt_iff_toInt_lt.mp (Int32.not_le.mp c_3)
            have z_3 := Int32.le_iff_toInt_le.mp (Int32.not_lt.mp c_10)
            have z_4 := Int32.lt_iff_toInt_lt.mp (Int32.not_le.mp c_11)
            have z_5 := Int32.lt_iff_toInt_lt.mp c_18
            have y_0 : (0 : Int32).toInt = 0 := by decide
            have y_400 : (400 : Int32).toInt = 400 := by decide
            have y_1 : (1 : Int32).toInt = 1 := by decide
            have t_x_8 : x_8.toInt = ((Tv 0) : Int32).toInt + (1 : Int32).toInt := by rw [ex_8]; exact add_toInt (by omega) (by omega)
            have t_x_16 : x_16.toInt = (x_8 : Int32).toInt + (1 : Int32).toInt := by rw [ex_16]; exact add_toInt (by omega) (by omega)
            omega
          · skip
            refine lv_aload_n hx hb dX10_add_14 rfl (lv_at hl 1 rfl) ?_
            refine gf_X10_15 hx hb hts hown hK hP 0 rfl rfl dX10_add_15 ?_
            refine lv_aload_n hx hb dX10_add_18 rfl (lv_at hl 1 rfl) ?_
            refine gf_X10_9 hx hb hts hown hK hP 0 rfl rfl dX10_add_19 ?_
            refine va_alen hx hb hK hP 1 0 rfl rfl (v := 400) rfl dX10_add_22 ?_
            refine lv_icmp_ge (tgt := 52) hx hb dX10_add_23 (by decide) (fun c_19 => ?_) (fun c_19 => ?_)
            · skip
              exfalso
              have z_1 := Int32.le_iff_toInt_le.mp (Int32.not_lt.mp c_2)
              have z_2 := Int32.lt_iff_toInt_lt.mp (Int32.not_le.mp c_3)
              have z_3 := Int32.le_iff_toInt_le.mp (Int32.not_lt.mp c_10)
              have z_4 := Int32.lt_iff_toInt_lt.mp (Int32.not_le.mp c_11)
              have z_5 := Int32.le_iff_toInt_le.mp (Int32.not_lt.mp c_18)
              have z_6 := Int32.le_iff_toInt_le.mp c_19
              have y_0 : (0 : Int32).toInt = 0 := by decide
              have y_400 : (400 : Int32).toInt = 400 := by decide
              have y_1 : (1 : Int32).toInt = 1 := by decide
              have t_x_8 : x_8.toInt = ((Tv 0) : Int32).toInt + (1 : Int32).toInt := by rw [ex_8]; exact add_toInt (by omega) (by omega)
              have t_x_16 : x_16.toInt = (x_8 : Int32).toInt + (1 : Int32).toInt := by rw [ex_16]; exact add_toInt (by omega) (by omega)
              omega
            · skip
              refine lv_aload_n hx hb dX10_add_26 rfl (lv_at hl 1 rfl) ?_
              refine gf_X10_9 hx hb hts hown hK hP 0 rfl rfl dX10_add_27 ?_
              refine lv_aload_n hx hb dX10_add_30 rfl (lv_at hl 1 rfl) ?_
              refine gf_X10_15 hx hb hts hown hK hP 0 rfl rfl dX10_add_31 ?_
              refine lv_iload_n hx hb dX10_add_34 rfl (lv_at hl 2 rfl) ?_
              refine lv_iload_n hx hb dX10_add_35 rfl (lv_at hl 0 rfl) ?_
              obtain ⟨x_20, ex_20⟩ : ∃ y : Int32, y = ((x1 : Int32).toUInt32 >>> ((8 : Int32).toUInt32 &&& Int32.toUInt32 31)).toInt32 := ⟨_, rfl⟩
              refine lv_iushr (v := x_20) hx hb dX10_add_36 ex_20.symm ?_
              refine lv_sipush (v := 255) hx hb dX10_add_37 (by decide) ?_
              refine lv_iand hx hb dX10_add_40 ?_
              refine lv_topi (fun x_21 ex_21 => ?_)
              have hi_22 : vp_in x_16 400 := by
                have z_1 := Int32.le_iff_toInt_le.mp (Int32.not_lt.mp c_2)
                have z_2 := Int32.lt_iff_toInt_lt.mp (Int32.not_le.mp c_3)
                have z_3 := Int32.le_iff_toInt_le.mp (Int32.not_lt.mp c_10)
                have z_4 := Int32.lt_iff_toInt_lt.mp (Int32.not_le.mp c_11)
                have z_5 := Int32.le_iff_toInt_le.mp (Int32.not_lt.mp c_18)
                have z_6 := Int32.lt_iff_toInt_lt.mp (Int32.not_le.mp c_19)
                have y_0 : (0 : Int32).toInt = 0 := by decide
                have y_400 : (400 : Int32).toInt = 400 := by decide
                have y_1 : (1 : Int32).toInt = 1 := by decide
                have t_x_8 : x_8.toInt = ((Tv 0) : Int32).toInt + (1 : Int32).toInt := by rw [ex_8]; exact add_toInt (by omega) (by omega)
                have t_x_16 : x_16.toInt = (x_8 : Int32).toInt + (1 : Int32).toInt := by rw [ex_16]; exact add_toInt (by omega) (by omega)
                refine vp_in_iff.mpr ⟨?_, ?_⟩ <;> omega
              refine st_int hx hb hK hP hD hS 1 0 rfl rfl hi_22 dX10_add_41 (fun g_23 H locs eg_23 hP hD hS => ?_)
              have hP : va_P D classes [((Ta 0), .inr (10, [.ref (Ta 1), .int x_16, .int (Tv 1), .int (Tv 2), .int (Tv 3), .int (Tv 4)])), ((Ta 1), .inl (tc 0, 400, .inl g_23))] H := hP
              have hD : va_D A [((Ta 0), .inr (10, [.ref (Ta 1), .int x_16, .int (Tv 1), .int (Tv 2), .int (Tv 3), .int (Tv 4)])), ((Ta 1), .inl (tc 0, 400, .inl g_23))] := hD
              refine lv_aload_n hx hb dX10_add_42 rfl (lv_at hl 1 rfl) ?_
              refine lv_dup hx hb dX10_add_43 rfl ?_
              refine gf_X10_15 hx hb hts hown hK hP 0 rfl rfl dX10_add_44 ?_
              refine lv_iconst (v := 1) hx hb dX10_add_47 (by decide) ?_
              refine lv_iadd hx hb dX10_add_48 ?_
              refine lv_topi (fun x_24 ex_24 => ?_)
              refine pf_X10_15 hx hb hts hown hK hP hD hS 0 rfl (Nat.le_of_ble_eq_true rfl) rfl rfl dX10_add_49 (fun H locs hP hD hS => ?_)
              have hP : va_P D classes [((Ta 0), .inr (10, [.ref (Ta 1), .int x_24, .int (Tv 1), .int (Tv 2), .int (Tv 3), .int (Tv 4)])), ((Ta 1), .inl (tc 0, 400, .inl g_23))] H := hP
              have hD : va_D A [((Ta 0), .inr (10, [.ref (Ta 1), .int x_24, .int (Tv 1), .int (Tv 2), .int (Tv 3), .int (Tv 4)])), ((Ta 1), .inl (tc 0, 400, .inl g_23))] := hD
              refine lv_iinc (v := 0) (lv' := [(2, .int 0), (0, .ref (Ta 0)), (1, .int x1)]) hx hb dX10_add_52 hl (k := 0) rfl (by decide) (by decide) rfl (fun ls hl => ?_)
              refine lv_goto (tgt := 3) hx hb dX10_add_55 (by decide) ?_
              refine lv_iload_n hx hb dX10_add_3 rfl (lv_at hl 0 rfl) ?_
              refine lv_if_lt (tgt := 58) hx hb dX10_add_4 (by decide) (fun c_25 => absurd c_25 (by decide)) (fun c_25 => ?_)
              refine lv_aload_n hx hb dX10_add_7 rfl (lv_at hl 1 rfl) ?_
              refine gf_X10_15 hx hb hts hown hK hP 0 rfl rfl dX10_add_8 ?_
              refine lv_if_lt (tgt := 52) hx hb dX10_add_11 (by decide) (fun c_26 => ?_) (fun c_26 => ?_)
              · skip
                exfalso
                have z_1 := Int32.le_iff_toInt_le.mp (Int32.not_lt.mp c_2)
                have z_2 := Int32.lt_iff_toInt_lt.mp (Int32.not_le.mp c_3)
                have z_3 := Int32.le_iff_toInt_le.mp (Int32.not_lt.mp c_10)
                have z_4 := Int32.lt_iff_toInt_lt.mp (Int32.not_le.mp c_11)
                have z_5 := Int32.le_iff_toInt_le.mp (Int32.not_lt.mp c_18)
                have z_6 := Int32.lt_iff_toInt_lt.mp (Int32.not_le.mp c_19)
                have z_7 := Int32.lt_iff_toInt_lt.mp c_26
                have y_0 : (0 : Int32).toInt = 0 := by decide
                have y_400 : (400 : Int32).toInt = 400 := by decide
                have y_1 : (1 : Int32).toInt = 1 := by decide
                have t_x_8 : x_8.toInt = ((Tv 0) : Int32).toInt + (1 : Int32).toInt := by rw [ex_8]; exact add_toInt (by omega) (by omega)
                have t_x_16 : x_16.toInt = (x_8 : Int32).toInt + (1 : Int32).toInt := by rw [ex_16]; exact add_toInt (by omega) (by omega)
                have t_x_24 : x_24.toInt = (x_16 : Int32).toInt + (1 : Int32).toInt := by rw [ex_24]; exact add_toInt (by omega) (by omega)
                omega
              · skip
                refine lv_aload_n hx hb dX10_add_14 rfl (lv_at hl 1 rfl) ?_
                refine gf_X10_15 hx hb hts hown hK hP 0 rfl rfl dX10_add_15 ?_
                refine lv_aload_n hx hb dX10_add_18 rfl (lv_at hl 1 rfl) ?_
                refine gf_X10_9 hx hb hts hown hK hP 0 rfl rfl dX10_add_19 ?_
                refine va_alen hx hb hK hP 1 0 rfl rfl (v := 400) rfl dX10_add_22 ?_
                refine lv_icmp_ge (tgt := 52) hx hb dX10_add_23 (by decide) (fun c_27 => ?_) (fun c_27 => ?_)
                · skip
                  exfalso
                  have z_1 := Int32.le_iff_toInt_le.mp (Int32.not_lt.mp c_2)
                  have z_2 := Int32.lt_iff_toInt_lt.mp (Int32.not_le.mp c_3)
                  have z_3 := Int32.le_iff_toInt_le.mp (Int32.not_lt.mp c_10)
                  have z_4 := Int32.lt_iff_toInt_lt.mp (Int32.not_le.mp c_11)
                  have z_5 := Int32.le_iff_toInt_le.mp (Int32.not_lt.mp c_18)
                  have z_6 := Int32.lt_iff_toInt_lt.mp (Int32.not_le.mp c_19)
                  have z_7 := Int32.le_iff_toInt_le.mp (Int32.not_lt.mp c_26)
                  have z_8 := Int32.le_iff_toInt_le.mp c_27
                  have y_0 : (0 : Int32).toInt = 0 := by decide
                  have y_400 : (400 : Int32).toInt = 400 := by decide
                  have y_1 : (1 : Int32).toInt = 1 := by decide
                  have t_x_8 : x_8.toInt = ((Tv 0) : Int32).toInt + (1 : Int32).toInt := by rw [ex_8]; exact add_toInt (by omega) (by omega)
                  have t_x_16 : x_16.toInt = (x_8 : Int32).toInt + (1 : Int32).toInt := by rw [ex_16]; exact add_toInt (by omega) (by omega)
                  have t_x_24 : x_24.toInt = (x_16 : Int32).toInt + (1 : Int32).toInt := by rw [ex_24]; exact add_toInt (by omega) (by omega)
                  omega
                · skip
                  refine lv_aload_n hx hb dX10_add_26 rfl (lv_at hl 1 rfl) ?_
                  refine gf_X10_9 hx hb hts hown hK hP 0 rfl rfl dX10_add_27 ?_
                  refine lv_aload_n hx hb dX10_add_30 rfl (lv_at hl 1 rfl) ?_
                  refine gf_X10_15 hx hb hts hown hK hP 0 rfl rfl dX10_add_31 ?_
                  refine lv_iload_n hx hb dX10_add_34 rfl (lv_at hl 2 rfl) ?_
                  refine lv_iload_n hx hb dX10_add_35 rfl (lv_at hl 0 rfl) ?_
                  obtain ⟨x_28, ex_28⟩ : ∃ y : Int32, y = ((x1 : Int32).toUInt32 >>> ((0 : Int32).toUInt32 &&& Int32.toUInt32 31)).toInt32 := ⟨_, rfl⟩
                  refine lv_iushr (v := x_28) hx hb dX10_add_36 ex_28.symm ?_
                  refine lv_sipush (v := 255) hx hb dX10_add_37 (by decide) ?_
                  refine lv_iand hx hb dX10_add_40 ?_
                  refine lv_topi (fun x_29 ex_29 => ?_)
                  have hi_30 : vp_in x_24 400 := by
                    have z_1 := Int32.le_iff_toInt_le.mp (Int32.not_lt.mp c_2)
                    have z_2 := Int32.lt_iff_toInt_lt.mp (Int32.not_le.mp c_3)
                    have z_3 := Int32.le_iff_toInt_le.mp (Int32.not_lt.mp c_10)
                    have z_4 := Int32.lt_iff_toInt_lt.mp (Int32.not_le.mp c_11)
                    have z_5 := Int32.le_iff_toInt_le.mp (Int32.not_lt.mp c_18)
                    have z_6 := Int32.lt_iff_toInt_lt.mp (Int32.not_le.mp c_19)
                    have z_7 := Int32.le_iff_toInt_le.mp (Int32.not_lt.mp c_26)
                    have z_8 := Int32.lt_iff_toInt_lt.mp (Int32.not_le.mp c_27)
                    have y_0 : (0 : Int32).toInt = 0 := by decide
                    have y_400 : (400 : Int32).toInt = 400 := by decide
                    have y_1 : (1 : Int32).toInt = 1 := by decide
                    have t_x_8 : x_8.toInt = ((Tv 0) : Int32).toInt + (1 : Int32).toInt := by rw [ex_8]; exact add_toInt (by omega) (by omega)
                    have t_x_16 : x_16.toInt = (x_8 : Int32).toInt + (1 : Int32).toInt := by rw [ex_16]; exact add_toInt (by omega) (by omega)
                    have t_x_24 : x_24.toInt = (x_16 : Int32).toInt + (1 : Int32).toInt := by rw [ex_24]; exact add_toInt (by omega) (by omega)
                    refine vp_in_iff.mpr ⟨?_, ?_⟩ <;> omega
                  refine st_int hx hb hK hP hD hS 1 0 rfl rfl hi_30 dX10_add_41 (fun g_31 H locs eg_31 hP hD hS => ?_)
                  have hP : va_P D classes [((Ta 0), .inr (10, [.ref (Ta 1), .int x_24, .int (Tv 1), .int (Tv 2), .int (Tv 3), .int (Tv 4)])), ((Ta 1), .inl (tc 0, 400, .inl g_31))] H := hP
                  have hD : va_D A [((Ta 0), .inr (10, [.ref (Ta 1), .int x_24, .int (Tv 1), .int (Tv 2), .int (Tv 3), .int (Tv 4)])), ((Ta 1), .inl (tc 0, 400, .inl g_31))] := hD
                  refine lv_aload_n hx hb dX10_add_42 rfl (lv_at hl 1 rfl) ?_
                  refine lv_dup hx hb dX10_add_43 rfl ?_
                  refine gf_X10_15 hx hb hts hown hK hP 0 rfl rfl dX10_add_44 ?_
                  refine lv_iconst (v := 1) hx hb dX10_add_47 (by decide) ?_
                  refine lv_iadd hx hb dX10_add_48 ?_
                  refine lv_topi (fun x_32 ex_32 => ?_)
                  refine pf_X10_15 hx hb hts hown hK hP hD hS 0 rfl (Nat.le_of_ble_eq_true rfl) rfl rfl dX10_add_49 (fun H locs hP hD hS => ?_)
                  have hP : va_P D classes [((Ta 0), .inr (10, [.ref (Ta 1), .int x_32, .int (Tv 1), .int (Tv 2), .int (Tv 3), .int (Tv 4)])), ((Ta 1), .inl (tc 0, 400, .inl g_31))] H := hP
                  have hD : va_D A [((Ta 0), .inr (10, [.ref (Ta 1), .int x_32, .int (Tv 1), .int (Tv 2), .int (Tv 3), .int (Tv 4)])), ((Ta 1), .inl (tc 0, 400, .inl g_31))] := hD
                  refine lv_iinc (v := (-8)) (lv' := [(2, .int (-8)), (0, .ref (Ta 0)), (1, .int x1)]) hx hb dX10_add_52 hl (k := 0) rfl (by decide) (by decide) rfl (fun ls hl => ?_)
                  refine lv_goto (tgt := 3) hx hb dX10_add_55 (by decide) ?_
                  refine lv_iload_n hx hb dX10_add_3 rfl (lv_at hl 0 rfl) ?_
                  refine lv_if_lt (tgt := 58) hx hb dX10_add_4 (by decide) (fun c_33 => ?_) (fun c_33 => absurd c_33 (by decide))
                  have hq_34 : 0 ≤ (x_32 : Int32).toInt ∧ (x_32 : Int32).toInt ≤ 400 ∧ 0 ≤ ((Tv 1) : Int32).toInt ∧ ((Tv 1) : Int32).toInt ≤ 400 ∧ 0 ≤ ((Tv 2) : Int32).toInt ∧ ((Tv 2) : Int32).toInt ≤ 400 := by
                    have z_1 := Int32.le_iff_toInt_le.mp (Int32.not_lt.mp c_2)
                    have z_2 := Int32.lt_iff_toInt_lt.mp (Int32.not_le.mp c_3)
                    have z_3 := Int32.le_iff_toInt_le.mp (Int32.not_lt.mp c_10)
                    have z_4 := Int32.lt_iff_toInt_lt.mp (Int32.not_le.mp c_11)
                    have z_5 := Int32.le_iff_toInt_le.mp (Int32.not_lt.mp c_18)
                    have z_6 := Int32.lt_iff_toInt_lt.mp (Int32.not_le.mp c_19)
                    have z_7 := Int32.le_iff_toInt_le.mp (Int32.not_lt.mp c_26)
                    have z_8 := Int32.lt_iff_toInt_lt.mp (Int32.not_le.mp c_27)
                    have y_0 : (0 : Int32).toInt = 0 := by decide
                    have y_400 : (400 : Int32).toInt = 400 := by decide
                    have y_1 : (1 : Int32).toInt = 1 := by decide
                    have t_x_8 : x_8.toInt = ((Tv 0) : Int32).toInt + (1 : Int32).toInt := by rw [ex_8]; exact add_toInt (by omega) (by omega)
                    have t_x_16 : x_16.toInt = (x_8 : Int32).toInt + (1 : Int32).toInt := by rw [ex_16]; exact add_toInt (by omega) (by omega)
                    have t_x_24 : x_24.toInt = (x_16 : Int32).toInt + (1 : Int32).toInt := by rw [ex_24]; exact add_toInt (by omega) (by omega)
                    have t_x_32 : x_32.toInt = (x_24 : Int32).toInt + (1 : Int32).toInt := by rw [ex_32]; exact add_toInt (by omega) (by omega)
                    first | assumption | omega
                  have hq_35 : (x_32 : Int32).toInt = ((Tv 0) : Int32).toInt + 4 := by
                    have z_1 := Int32.le_iff_toInt_le.mp (Int32.not_lt.mp c_2)
                    have z_2 := Int32.lt_iff_toInt_lt.mp (Int32.not_le.mp c_3)
                    have z_3 := Int32.le_iff_toInt_le.mp (Int32.not_lt.mp c_10)
                    have z_4 := Int32.lt_iff_toInt_lt.mp (Int32.not_le.mp c_11)
                    have z_5 := Int32.le_iff_toInt_le.mp (Int32.not_lt.mp c_18)
                    have z_6 := Int32.lt_iff_toInt_lt.mp (Int32.not_le.mp c_19)
                    have z_7 := Int32.le_iff_toInt_le.mp (Int32.not_lt.mp c_26)
                    have z_8 := Int32.lt_iff_toInt_lt.mp (Int32.not_le.mp c_27)
                    have y_0 : (0 : Int32).toInt = 0 := by decide
                    have y_400 : (400 : Int32).toInt = 400 := by decide
                    have y_1 : (1 : Int32).toInt = 1 := by decide
                    have t_x_8 : x_8.toInt = ((Tv 0) : Int32).toInt + (1 : Int32).toInt := by rw [ex_8]; exact add_toInt (by omega) (by omega)
                    have t_x_16 : x_16.toInt = (x_8 : Int32).toInt + (1 : Int32).toInt := by rw [ex_16]; exact add_toInt (by omega) (by omega)
                    have t_x_24 : x_24.toInt = (x_16 : Int32).toInt + (1 : Int32).toInt := by rw [ex_24]; exact add_toInt (by omega) (by omega)
                    have t_x_32 : x_32.toInt = (x_24 : Int32).toInt + (1 : Int32).toInt := by rw [ex_32]; exact add_toInt (by omega) (by omega)
                    first | assumption | omega
                  exact retV hx hb hr hlk hP hD hS (x_32, g_31) ⟨rfl, hq_34, hq_35⟩ [0, 1] rfl rfl dX10_add_58 (Nat.le_of_ble_eq_true rfl) (Nat.le_of_ble_eq_true rfl) rfl
set_option maxRecDepth 100000 in
theorem cu_X10_add (l : Launch) (D : va_G) (tc : Nat → ClassId) (sk : (Nat → Nat) × (Nat → Nat)) (Ta_0 : Nat) (Ta_1 : Nat) (Tv_0 : Int32) (Tv_1 : Int32) (Tv_2 : Int32) (Tv_3 : Int32) (Tv_4 : Int32) (Tf_1 : Nat → Int32) (x1 : Int32) (hroom : Tv_0.toInt ≤ 396) (h_tape : 0 ≤ (Tv_0 : Int32).toInt ∧ (Tv_0 : Int32).toInt ≤ 400 ∧ 0 ≤ (Tv_1 : Int32).toInt ∧ (Tv_1 : Int32).toInt ≤ 400 ∧ 0 ≤ (Tv_2 : Int32).toInt ∧ (Tv_2 : Int32).toInt ≤ 400) : Ct l yX10_add cX10_add 3 none { frames := 0, cells := 0, slots := 0, locals := 0 } D tc sk [.ref Ta_0, .int x1] [(Ta_0, .inr (10, [.ref Ta_1, .int Tv_0, .int Tv_1, .int Tv_2, .int Tv_3, .int Tv_4])), (Ta_1, .inl (tc 0, 400, .inl Tf_1))] (fun (v : Option Value) (u : (Int32) × (Nat → Int32)) => match u with | (o1, o2) => v = none ∧ (0 ≤ (o1 : Int32).toInt ∧ (o1 : Int32).toInt ≤ 400 ∧ 0 ≤ (Tv_1 : Int32).toInt ∧ (Tv_1 : Int32).toInt ≤ 400 ∧ 0 ≤ (Tv_2 : Int32).toInt ∧ (Tv_2 : Int32).toInt ≤ 400) ∧ ((o1 : Int32).toInt = (Tv_0 : Int32).toInt + 4)) (fun (u : (Int32) × (Nat → Int32)) => match u with | (o1, o2) => [(Ta_0, .inr (10, [.ref Ta_1, .int o1, .int Tv_1, .int Tv_2, .int Tv_3, .int Tv_4])), (Ta_1, .inl (tc 0, 400, .inl o2))]) 0 0 :=
  ct_X10_add l D tc sk (fun k => ([Ta_0, Ta_1] : List (Nat)).getD k 0) (fun k => ([Tv_0, Tv_1, Tv_2, Tv_3, Tv_4] : List (Int32)).getD k 0) (fun k => ([(fun _ => 0), Tf_1] : List (Nat → Int32)).getD k (fun _ => 0)) x1 hroom h_tape
set_option maxHeartbeats 4000000 in
set_option maxRecDepth 100000 in
theorem ct_X10_step (l : Launch) (D : va_G) (tc : Nat → ClassId) (sk : (Nat → Nat) × (Nat → Nat)) (Ta : Nat → Nat) (Tv : Nat → Int32) (Tf : Nat → Nat → Int32) (h_tape : 0 ≤ ((Tv 0) : Int32).toInt ∧ ((Tv 0) : Int32).toInt ≤ 400 ∧ 0 ≤ ((Tv 1) : Int32).toInt ∧ ((Tv 1) : Int32).toInt ≤ 400 ∧ 0 ≤ ((Tv 2) : Int32).toInt ∧ ((Tv 2) : Int32).toInt ≤ 400) : Ct l yX10_step cX10_step 2 none { frames := 1, cells := 0, slots := 0, locals := 21 } D tc sk [.ref (Ta 0)] [((Ta 0), .inr (10, [.ref (Ta 1), .int (Tv 0), .int (Tv 1), .int (Tv 2), .int (Tv 3), .int (Tv 4)])), ((Ta 1), .inl (tc 0, 400, .inl (Tf 1)))] (fun (v : Option Value) (u : (Int32) × (Int32) × (Int32)) => match u with | (o1, o2, o3) => v = none ∧ (0 ≤ ((Tv 0) : Int32).toInt ∧ ((Tv 0) : Int32).toInt ≤ 400 ∧ 0 ≤ (o1 : Int32).toInt ∧ (o1 : Int32).toInt ≤ 400 ∧ 0 ≤ (o2 : Int32).toInt ∧ (o2 : Int32).toInt ≤ 400)) (fun (u : (Int32) × (Int32) × (Int32)) => match u with | (o1, o2, o3) => [((Ta 0), .inr (10, [.ref (Ta 1), .int (Tv 0), .int o1, .int o2, .int o3, .int (Tv 4)])), ((Ta 1), .inl (tc 0, 400, .inl (Tf 1)))]) 0 0 := by
  refine Ct.start (by decide) (Nat.le_of_ble_eq_true rfl) (fun p e s m below meth c A ls hx hb hr hlk hin hml hown hts hK hX hP hD hA hl hS => ?_)
  have hl : lv_has ls 2 [(0, .ref (Ta 0))] := hl
  refine lv_aload_n hx hb dX10_step_0 rfl (lv_at hl 0 rfl) ?_
  refine lv_aload_n hx hb dX10_step_1 rfl (lv_at hl 0 rfl) ?_
  refine gf_X10_22 hx hb hts hown hK hP 0 rfl rfl dX10_step_2 ?_
  refine pf_X10_19 hx hb hts hown hK hP hD hS 0 rfl (Nat.le_of_ble_eq_true rfl) rfl rfl dX10_step_5 (fun H locs hP hD hS => ?_)
  have hP : va_P D classes [((Ta 0), .inr (10, [.ref (Ta 1), .int (Tv 0), .int (Tv 2), .int (Tv 2), .int (Tv 3), .int (Tv 4)])), ((Ta 1), .inl (tc 0, 400, .inl (Tf 1)))] H := hP
  have hD : va_D A [((Ta 0), .inr (10, [.ref (Ta 1), .int (Tv 0), .int (Tv 2), .int (Tv 2), .int (Tv 3), .int (Tv 4)])), ((Ta 1), .inl (tc 0, 400, .inl (Tf 1)))] := hD
  have loop_5 : ∀ (n_3 : Nat) (vy_2 : Int32) (H : Heap) (locs : List Loc) (ls : Array Slot), 0 ≤ (vy_2 : Int32).toInt → (400 - (vy_2 : Int32).toInt).toNat < n_3 → (vy_2 : Int32).toInt ≤ 400 → va_P D classes [((Ta 0), .inr (10, [.ref (Ta 1), .int (Tv 0), .int vy_2, .int (Tv 2), .int (Tv 3), .int (Tv 4)])), ((Ta 1), .inl (tc 0, 400, .inl (Tf 1)))] H → va_D A [((Ta 0), .inr (10, [.ref (Ta 1), .int (Tv 0), .int vy_2, .int (Tv 2), .int (Tv 3), .int (Tv 4)])), ((Ta 1), .inl (tc 0, 400, .inl (Tf 1)))] → va_S A s.heap H locs → lv_has ls 2 [(0, .ref (Ta 0))] → W p l e ({ frames := 1, cells := 0, slots := 0, locals := 21 }) s m ([.ref (Ta 0)].toArray) below meth c H locs 0 0 (MQ below (QW (fun (v : Option Value) (u : (Int32) × (Int32) × (Int32)) => match u with | (o1, o2, o3) => v = none ∧ (0 ≤ ((Tv 0) : Int32).toInt ∧ ((Tv 0) : Int32).toInt ≤ 400 ∧ 0 ≤ (o1 : Int32).toInt ∧ (o1 : Int32).toInt ≤ 400 ∧ 0 ≤ (o2 : Int32).toInt ∧ (o2 : Int32).toInt ≤ 400)) (BW D (fun (u : (Int32) × (Int32) × (Int32)) => match u with | (o1, o2, o3) => [((Ta 0), .inr (10, [.ref (Ta 1), .int (Tv 0), .int o1, .int o2, .int o3, .int (Tv 4)])), ((Ta 1), .inl (tc 0, 400, .inl (Tf 1)))]) A) A) ([.ref (Ta 0)].toArray) s 0 0 A) (F0 m 8 ls []) := by
    intro n_3
    induction n_3 with
    | zero =>
      intro vy_2 H locs ls h1 h2
      exact absurd h2 (Nat.not_lt_zero _)
    | succ n_3 ih_4 =>
      intro vy_2 H locs ls hi_7 hn_8 hv_6 hP hD hS hl
      refine lv_aload_n hx hb dX10_step_8 rfl (lv_at hl 0 rfl) ?_
      refine gf_X10_19 hx hb hts hown hK hP 0 rfl rfl dX10_step_9 ?_
      refine lv_aload_n hx hb dX10_step_12 rfl (lv_at hl 0 rfl) ?_
      refine gf_X10_15 hx hb hts hown hK hP 0 rfl rfl dX10_step_13 ?_
      refine lv_icmp_ge (tgt := 45) hx hb dX10_step_16 (by decide) (fun c_9 => ?_) (fun c_9 => ?_)
      · skip
        refine lv_aload_n hx hb dX10_step_45 rfl (lv_at hl 0 rfl) ?_
        refine lv_aload_n hx hb dX10_step_46 rfl (lv_at hl 0 rfl) ?_
        refine gf_X10_19 hx hb hts hown hK hP 0 rfl rfl dX10_step_47 ?_
        refine pf_X10_22 hx hb hts hown hK hP hD hS 0 rfl (Nat.le_of_ble_eq_true rfl) rfl rfl dX10_step_50 (fun H locs hP hD hS => ?_)
        have hP : va_P D classes [((Ta 0), .inr (10, [.ref (Ta 1), .int (Tv 0), .int vy_2, .int vy_2, .int (Tv 3), .int (Tv 4)])), ((Ta 1), .inl (tc 0, 400, .inl (Tf 1)))] H := hP
        have hD : va_D A [((Ta 0), .inr (10, [.ref (Ta 1), .int (Tv 0), .int vy_2, .int vy_2, .int (Tv 3), .int (Tv 4)])), ((Ta 1), .inl (tc 0, 400, .inl (Tf 1)))] := hD
        refine lv_aload_n hx hb dX10_step_53 rfl (lv_at hl 0 rfl) ?_
        refine lv_aload_n hx hb dX10_step_54 rfl (lv_at hl 0 rfl) ?_
        refine gf_X10_28 hx hb hts hown hK hP 0 rfl rfl dX10_step_55 ?_
        refine lv_if_ne (tgt := 72) hx hb dX10_step_58 (by decide) (fun c_10 => ?_) (fun c_10 => ?_)
        · skip
          refine lv_iconst (v := (-1)) hx hb dX10_step_72 (by decide) ?_
          refine pf_X10_25 hx hb hts hown hK hP hD hS 0 rfl (Nat.le_of_ble_eq_true rfl) rfl rfl dX10_step_73 (fun H locs hP hD hS => ?_)
          have hP : va_P D classes [((Ta 0), .inr (10, [.ref (Ta 1), .int (Tv 0), .int vy_2, .int vy_2, .int (-1), .int (Tv 4)])), ((Ta 1), .inl (tc 0, 400, .inl (Tf 1)))] H := hP
          have hD : va_D A [((Ta 0), .inr (10, [.ref (Ta 1), .int (Tv 0), .int vy_2, .int vy_2, .int (-1), .int (Tv 4)])), ((Ta 1), .inl (tc 0, 400, .inl (Tf 1)))] := hD
          refine lv_aload_n hx hb dX10_step_76 rfl (lv_at hl 0 rfl) ?_
          refine gf_X10_25 hx hb hts hown hK hP 0 rfl rfl dX10_step_77 ?_
          refine cS (As := [.int (-1)]) (rest := []) (wr := [((Ta 0), .inr (10, [.ref (Ta 1), .int (Tv 0), .int vy_2, .int vy_2, .int (-1), .int (Tv 4)])), ((Ta 1), .inl (tc 0, 400, .inl (Tf 1)))]) ⟨hx, hb, hml, hown, hts⟩ hK hX hA (ct_X10_isLetter l D tc sk (-1)) k_485 k_483 k_484 k_96 pl_X10_isLetter ⟨Nat.le_of_ble_eq_true rfl, Nat.le_of_ble_eq_true rfl⟩ rfl rfl  hP hD hS [] [0, 1] rfl rfl rfl rfl rfl (by decide) rfl hl.1 rfl (Nat.le_of_ble_eq_true rfl) dX10_step_80 ⟨Nat.le_of_ble_eq_true rfl, Nat.le_of_ble_eq_true rfl⟩ (fun v_11 u_12 H locs hv_13 hP hD hS => ?_)
          obtain ⟨r_14, rfl, he_15⟩ := hv_13
          have he_15 : ((r_14.toInt = 0 ∨ r_14.toInt = 1)) := he_15
          refine W.eq (g2 := F0 m 83 ls [.int r_14]) rfl ?_
          have hP : va_P D classes [((Ta 0), .inr (10, [.ref (Ta 1), .int (Tv 0), .int vy_2, .int vy_2, .int (-1), .int (Tv 4)])), ((Ta 1), .inl (tc 0, 400, .inl (Tf 1)))] H := hP
          have hD : va_D A [((Ta 0), .inr (10, [.ref (Ta 1), .int (Tv 0), .int vy_2, .int vy_2, .int (-1), .int (Tv 4)])), ((Ta 1), .inl (tc 0, 400, .inl (Tf 1)))] := hD
          refine lv_if_eq (tgt := 124) hx hb dX10_step_83 (by decide) (fun c_16 => ?_) (fun c_16 => ?_)
          · skip
            refine lv_aload_n hx hb dX10_step_124 rfl (lv_at hl 0 rfl) ?_
            refine gf_X10_25 hx hb hts hown hK hP 0 rfl rfl dX10_step_125 ?_
            refine cS (As := [.int (-1)]) (rest := []) (wr := [((Ta 0), .inr (10, [.ref (Ta 1), .int (Tv 0), .int vy_2, .int vy_2, .int (-1), .int (Tv 4)])), ((Ta 1), .inl (tc 0, 400, .inl (Tf 1)))]) ⟨hx, hb, hml, hown, hts⟩ hK hX hA (ct_X10_isDigit l D tc sk (-1)) k_488 k_486 k_487 k_96 pl_X10_isDigit ⟨Nat.le_of_ble_eq_true rfl, Nat.le_of_ble_eq_true rfl⟩ rfl rfl  hP hD hS [] [0, 1] rfl rfl rfl rfl rfl (by decide) rfl hl.1 rfl (Nat.le_of_ble_eq_true rfl) dX10_step_128 ⟨Nat.le_of_ble_eq_true rfl, Nat.le_of_ble_eq_true rfl⟩ (fun v_17 u_18 H locs hv_19 hP hD hS => ?_)
            obtain ⟨r_20, rfl, he_21⟩ := hv_19
            have he_21 : ((r_20.toInt = 0 ∨ r_20.toInt = 1)) := he_21
            refine W.eq (g2 := F0 m 131 ls [.int r_20]) rfl ?_
            have hP : va_P D classes [((Ta 0), .inr (10, [.ref (Ta 1), .int (Tv 0), .int vy_2, .int vy_2, .int (-1), .int (Tv 4)])), ((Ta 1), .inl (tc 0, 400, .inl (Tf 1)))] H := hP
            have hD : va_D A [((Ta 0), .inr (10, [.ref (Ta 1), .int (Tv 0), .int vy_2, .int vy_2, .int (-1), .int (Tv 4)])), ((Ta 1), .inl (tc 0, 400, .inl (Tf 1)))] := hD
            refine lv_if_eq (tgt := 172) hx hb dX10_step_131 (by decide) (fun c_22 => ?_) (fun c_22 => ?_)
            · skip
              refine lv_aload_n hx hb dX10_step_172 rfl (lv_at hl 0 rfl) ?_
              refine gf_X10_25 hx hb hts hown hK hP 0 rfl rfl dX10_step_173 ?_
              refine lv_iconst (v := (-1)) hx hb dX10_step_176 (by decide) ?_
              refine lv_icmp_eq (tgt := 242) hx hb dX10_step_177 (by decide) (fun c_23 => ?_) (fun c_23 => absurd c_23 (by decide))
              have hq_24 : 0 ≤ ((Tv 0) : Int32).toInt ∧ ((Tv 0) : Int32).toInt ≤ 400 ∧ 0 ≤ (vy_2 : Int32).toInt ∧ (vy_2 : Int32).toInt ≤ 400 ∧ 0 ≤ (vy_2 : Int32).toInt ∧ (vy_2 : Int32).toInt ≤ 400 := by
                have z_1 := Int32.le_iff_toInt_le.mp c_9
                have z_2 : ¬ ((Tv 4) : Int32).toInt = (0 : Int32).toInt := fun z => c_10 (Int32.toInt_inj.mp z)
                have z_3 := congrArg Int32.toInt c_16
                have z_4 := congrArg Int32.toInt c_22
                have y_0 : (0 : Int32).toInt = 0 := by decide
                first | assumption | omega
              exact retV hx hb hr hlk hP hD hS (vy_2, vy_2, (-1)) ⟨rfl, hq_24⟩ [0, 1] rfl rfl dX10_step_242 (Nat.le_of_ble_eq_true rfl) (Nat.le_of_ble_eq_true rfl) rfl
            · skip
              have loop_29 : ∀ (n_27 : Nat) (vy_26 : Int32) (H : Heap) (locs : List Loc) (ls : Array Slot), 0 ≤ (vy_26 : Int32).toInt → (400 - (vy_26 : Int32).toInt).toNat < n_27 → (vy_26 : Int32).toInt ≤ 400 → va_P D classes [((Ta 0), .inr (10, [.ref (Ta 1), .int (Tv 0), .int vy_2, .int vy_26, .int (-1), .int (Tv 4)])), ((Ta 1), .inl (tc 0, 400, .inl (Tf 1)))] H → va_D A [((Ta 0), .inr (10, [.ref (Ta 1), .int (Tv 0), .int vy_2, .int vy_26, .int (-1), .int (Tv 4)])), ((Ta 1), .inl (tc 0, 400, .inl (Tf 1)))] → va_S A s.heap H locs → lv_has ls 2 [(0, .ref (Ta 0))] → W p l e ({ frames := 1, cells := 0, slots := 0, locals := 21 }) s m ([.ref (Ta 0)].toArray) below meth c H locs 0 0 (MQ below (QW (fun (v : Option Value) (u : (Int32) × (Int32) × (Int32)) => match u with | (o1, o2, o3) => v = none ∧ (0 ≤ ((Tv 0) : Int32).toInt ∧ ((Tv 0) : Int32).toInt ≤ 400 ∧ 0 ≤ (o1 : Int32).toInt ∧ (o1 : Int32).toInt ≤ 400 ∧ 0 ≤ (o2 : Int32).toInt ∧ (o2 : Int32).toInt ≤ 400)) (BW D (fun (u : (Int32) × (Int32) × (Int32)) => match u with | (o1, o2, o3) => [((Ta 0), .inr (10, [.ref (Ta 1), .int (Tv 0), .int o1, .int o2, .int o3, .int (Tv 4)])), ((Ta 1), .inl (tc 0, 400, .inl (Tf 1)))]) A) A) ([.ref (Ta 0)].toArray) s 0 0 A) (F0 m 134 ls []) := by
                intro n_27
                induction n_27 with
                | zero =>
                  intro vy_26 H locs ls h1 h2
                  exact absurd h2 (Nat.not_lt_zero _)
                | succ n_27 ih_28 =>
                  intro vy_26 H locs ls hi_31 hn_32 hv_30 hP hD hS hl
                  refine lv_aload_n hx hb dX10_step_134 rfl (lv_at hl 0 rfl) ?_
                  refine gf_X10_22 hx hb hts hown hK hP 0 rfl rfl dX10_step_135 ?_
                  refine lv_aload_n hx hb dX10_step_138 rfl (lv_at hl 0 rfl) ?_
                  refine gf_X10_15 hx hb hts hown hK hP 0 rfl rfl dX10_step_139 ?_
                  refine lv_icmp_ge (tgt := 242) hx hb dX10_step_142 (by decide) (fun c_33 => ?_) (fun c_33 => ?_)
                  · skip
                    have hq_34 : 0 ≤ ((Tv 0) : Int32).toInt ∧ ((Tv 0) : Int32).toInt ≤ 400 ∧ 0 ≤ (vy_2 : Int32).toInt ∧ (vy_2 : Int32).toInt ≤ 400 ∧ 0 ≤ (vy_26 : Int32).toInt ∧ (vy_26 : Int32).toInt ≤ 400 := by
                      have z_1 := Int32.le_iff_toInt_le.mp c_9
                      have z_2 : ¬ ((Tv 4) : Int32).toInt = (0 : Int32).toInt := fun z => c_10 (Int32.toInt_inj.mp z)
                      have z_3 := congrArg Int32.toInt c_16
                      have z_4 : ¬ (r_20 : Int32).toInt = (0 : Int32).toInt := fun z => c_22 (Int32.toInt_inj.mp z)
                      have z_5 := Int32.le_iff_toInt_le.mp c_33
                      have y_0 : (0 : Int32).toInt = 0 := by decide
                      first | assumption | omega
                    exact retV hx hb hr hlk hP hD hS (vy_2, vy_26, (-1)) ⟨rfl, hq_34⟩ [0, 1] rfl rfl dX10_step_242 (Nat.le_of_ble_eq_true rfl) (Nat.le_of_ble_eq_true rfl) rfl
                  · skip
                    refine lv_aload_n hx hb dX10_step_145 rfl (lv_at hl 0 rfl) ?_
                    refine lv_aload_n hx hb dX10_step_146 rfl (lv_at hl 0 rfl) ?_
                    refine gf_X10_22 hx hb hts hown hK hP 0 rfl rfl dX10_step_147 ?_
                    refine cV (a := (Ta 0)) (As := [.int vy_26]) (rest := []) (wr := []) ⟨hx, hb, hml, hown, hts⟩ hK hX hA (cu_X10_byteAt l D tc sk (Ta 0) (Ta 1) (Tv 0) vy_2 vy_26 (-1) (Tv 4) (Tf 1) vy_26) k_482 k_479 k_481 k_0 k_96 pl_X10_byteAt ⟨Nat.le_of_ble_eq_true rfl, Nat.le_of_ble_eq_true rfl⟩ rfl rfl (va_recv hK hP (ci := 10) (q0 := 0) rfl rfl) hP hD hS [0, 1] [] rfl rfl rfl rfl rfl (by decide) rfl hl.1 rfl (Nat.le_of_ble_eq_true rfl) dX10_step_150 ⟨Nat.le_of_ble_eq_true rfl, Nat.le_of_ble_eq_true rfl⟩ (fun v_35 u_36 H locs hv_37 hP hD hS => ?_)
                    obtain ⟨r_38, rfl, he_39⟩ := hv_37
                    have he_39 : ((r_38.toInt = -1 ∨ (0 ≤ vy_26.toInt ∧ vy_26.toInt < (Tv 0).toInt ∧ vy_26.toInt < 400))) := he_39
                    refine W.eq (g2 := F0 m 153 ls [.int r_38]) rfl ?_
                    have hP : va_P D classes [((Ta 0), .inr (10, [.ref (Ta 1), .int (Tv 0), .int vy_2, .int vy_26, .int (-1), .int (Tv 4)])), ((Ta 1), .inl (tc 0, 400, .inl (Tf 1)))] H := hP
                    have hD : va_D A [((Ta 0), .inr (10, [.ref (Ta 1), .int (Tv 0), .int vy_2, .int vy_26, .int (-1), .int (Tv 4)])), ((Ta 1), .inl (tc 0, 400, .inl (Tf 1)))] := hD
                    refine cS (As := [.int r_38]) (rest := []) (wr := [((Ta 0), .inr (10, [.ref (Ta 1), .int (Tv 0), .int vy_2, .int vy_26, .int (-1), .int (Tv 4)])), ((Ta 1), .inl (tc 0, 400, .inl (Tf 1)))]) ⟨hx, hb, hml, hown, hts⟩ hK hX hA (ct_X10_isDigit l D tc sk r_38) k_488 k_486 k_487 k_96 pl_X10_isDigit ⟨Nat.le_of_ble_eq_true rfl, Nat.le_of_ble_eq_true rfl⟩ rfl rfl  hP hD hS [] [0, 1] rfl rfl rfl rfl rfl (by decide) rfl hl.1 rfl (Nat.le_of_ble_eq_true rfl) dX10_step_153 ⟨Nat.le_of_ble_eq_true rfl, Nat.le_of_ble_eq_true rfl⟩ (fun v_40 u_41 H locs hv_42 hP hD hS => ?_)
                    obtain ⟨r_43, rfl, he_44⟩ := hv_42
                    have he_44 : ((r_43.toInt = 0 ∨ r_43.toInt = 1)) := he_44
                    refine W.eq (g2 := F0 m 156 ls [.int r_43]) rfl ?_
                    have hP : va_P D classes [((Ta 0), .inr (10, [.ref (Ta 1), .int (Tv 0), .int vy_2, .int vy_26, .int (-1), .int (Tv 4)])), ((Ta 1), .inl (tc 0, 400, .inl (Tf 1)))] H := hP
                    have hD : va_D A [((Ta 0), .inr (10, [.ref (Ta 1), .int (Tv 0), .int vy_2, .int vy_26, .int (-1), .int (Tv 4)])), ((Ta 1), .inl (tc 0, 400, .inl (Tf 1)))] := hD
                    refine lv_if_eq (tgt := 242) hx hb dX10_step_156 (by decide) (fun c_45 => ?_) (fun c_45 => ?_)
                    · skip
                      have hq_46 : 0 ≤ ((Tv 0) : Int32).toInt ∧ ((Tv 0) : Int32).toInt ≤ 400 ∧ 0 ≤ (vy_2 : Int32).toInt ∧ (vy_2 : Int32).toInt ≤ 400 ∧ 0 ≤ (vy_26 : Int32).toInt ∧ (vy_26 : Int32).toInt ≤ 400 := by
                        have z_1 := Int32.le_iff_toInt_le.mp c_9
                        have z_2 : ¬ ((Tv 4) : Int32).toInt = (0 : Int32).toInt := fun z => c_10 (Int32.toInt_inj.mp z)
                        have z_3 := congrArg Int32.toInt c_16
                        have z_4 : ¬ (r_20 : Int32).toInt = (0 : Int32).toInt := fun z => c_22 (Int32.toInt_inj.mp z)
                        have z_5 := Int32.lt_iff_toInt_lt.mp (Int32.not_le.mp c_33)
                        have z_6 := congrArg Int32.toInt c_45
                        have y_0 : (0 : Int32).toInt = 0 := by decide
                        first | assumption | omega
                      exact retV hx hb hr hlk hP hD hS (vy_2, vy_26, (-1)) ⟨rfl, hq_46⟩ [0, 1] rfl rfl dX10_step_242 (Nat.le_of_ble_eq_true rfl) (Nat.le_of_ble_eq_true rfl) rfl
                    · skip
                      refine lv_aload_n hx hb dX10_step_159 rfl (lv_at hl 0 rfl) ?_
                      refine lv_dup hx hb dX10_step_160 rfl ?_
                      refine gf_X10_22 hx hb hts hown hK hP 0 rfl rfl dX10_step_161 ?_
                      refine lv_iconst (v := 1) hx hb dX10_step_164 (by decide) ?_
                      refine lv_iadd hx hb dX10_step_165 ?_
                      refine lv_topi (fun x_47 ex_47 => ?_)
                      refine pf_X10_22 hx hb hts hown hK hP hD hS 0 rfl (Nat.le_of_ble_eq_true rfl) rfl rfl dX10_step_166 (fun H locs hP hD hS => ?_)
                      have hP : va_P D classes [((Ta 0), .inr (10, [.ref (Ta 1), .int (Tv 0), .int vy_2, .int x_47, .int (-1), .int (Tv 4)])), ((Ta 1), .inl (tc 0, 400, .inl (Tf 1)))] H := hP
                      have hD : va_D A [((Ta 0), .inr (10, [.ref (Ta 1), .int (Tv 0), .int vy_2, .int x_47, .int (-1), .int (Tv 4)])), ((Ta 1), .inl (tc 0, 400, .inl (Tf 1)))] := hD
                      refine lv_goto (tgt := 134) hx hb dX10_step_169 (by decide) ?_
                      have hb_48 : 0 ≤ (x_47 : Int32).toInt ∧ (400 - (x_47 : Int32).toInt).toNat < n_27 := by
                        have z_1 := Int32.le_iff_toInt_le.mp c_9
                        have z_2 : ¬ ((Tv 4) : Int32).toInt = (0 : Int32).toInt := fun z => c_10 (Int32.toInt_inj.mp z)
                        have z_3 := congrArg Int32.toInt c_16
                        have z_4 : ¬ (r_20 : Int32).toInt = (0 : Int32).toInt := fun z => c_22 (Int32.toInt_inj.mp z)
                        have z_5 := Int32.lt_iff_toInt_lt.mp (Int32.not_le.mp c_33)
                        have z_6 : ¬ (r_43 : Int32).toInt = (0 : Int32).toInt := fun z => c_45 (Int32.toInt_inj.mp z)
                        have y_0 : (0 : Int32).toInt = 0 := by decide
                        have y_1 : (1 : Int32).toInt = 1 := by decide
                        have t_x_47 : x_47.toInt = (vy_26 : Int32).toInt + (1 : Int32).toInt := by rw [ex_47]; exact add_toInt (by omega) (by omega)
                        omega
                      have hv_49 : (x_47 : Int32).toInt ≤ 400 := by
                        have z_1 := Int32.le_iff_toInt_le.mp c_9
                        have z_2 : ¬ ((Tv 4) : Int32).toInt = (0 : Int32).toInt := fun z => c_10 (Int32.toInt_inj.mp z)
                        have z_3 := congrArg Int32.toInt c_16
                        have z_4 : ¬ (r_20 : Int32).toInt = (0 : Int32).toInt := fun z => c_22 (Int32.toInt_inj.mp z)
                        have z_5 := Int32.lt_iff_toInt_lt.mp (Int32.not_le.mp c_33)
                        have z_6 : ¬ (r_43 : Int32).toInt = (0 : Int32).toInt := fun z => c_45 (Int32.toInt_inj.mp z)
                        have y_0 : (0 : Int32).toInt = 0 := by decide
                        have y_1 : (1 : Int32).toInt = 1 := by decide
                        have t_x_47 : x_47.toInt = (vy_26 : Int32).toInt + (1 : Int32).toInt := by rw [ex_47]; exact add_toInt (by omega) (by omega)
                        omega
                      exact ih_28 x_47 _ _ _ hb_48.1 hb_48.2 hv_49 (hP.sub [0, 1] rfl) (hD.sub [0, 1] rfl rfl) hS (lv_sub hl [0] rfl)
              have h0_50 : 0 ≤ (vy_2 : Int32).toInt := by
                have z_1 := Int32.le_iff_toInt_le.mp c_9
                have z_2 : ¬ ((Tv 4) : Int32).toInt = (0 : Int32).toInt := fun z => c_10 (Int32.toInt_inj.mp z)
                have z_3 := congrArg Int32.toInt c_16
                have z_4 : ¬ (r_20 : Int32).toInt = (0 : Int32).toInt := fun z => c_22 (Int32.toInt_inj.mp z)
                have y_0 : (0 : Int32).toInt = 0 := by decide
                omega
              have hv_51 : (vy_2 : Int32).toInt ≤ 400 := by
                have z_1 := Int32.le_iff_toInt_le.mp c_9
                have z_2 : ¬ ((Tv 4) : Int32).toInt = (0 : Int32).toInt := fun z => c_10 (Int32.toInt_inj.mp z)
                have z_3 := congrArg Int32.toInt c_16
                have z_4 : ¬ (r_20 : Int32).toInt = (0 : Int32).toInt := fun z => c_22 (Int32.toInt_inj.mp z)
                have y_0 : (0 : Int32).toInt = 0 := by decide
                omega
              exact loop_29 _ vy_2 _ _ _ h0_50 (Nat.lt_succ_self _) hv_51 hP hD hS hl
          · skip
            have loop_56 : ∀ (n_54 : Nat) (vy_53 : Int32) (H : Heap) (locs : List Loc) (ls : Array Slot), 0 ≤ (vy_53 : Int32).toInt → (400 - (vy_53 : Int32).toInt).toNat < n_54 → (vy_53 : Int32).toInt ≤ 400 → va_P D classes [((Ta 0), .inr (10, [.ref (Ta 1), .int (Tv 0), .int vy_2, .int vy_53, .int (-1), .int (Tv 4)])), ((Ta 1), .inl (tc 0, 400, .inl (Tf 1)))] H → va_D A [((Ta 0), .inr (10, [.ref (Ta 1), .int (Tv 0), .int vy_2, .int vy_53, .int (-1), .int (Tv 4)])), ((Ta 1), .inl (tc 0, 400, .inl (Tf 1)))] → va_S A s.heap H locs → lv_has ls 2 [(0, .ref (Ta 0))] → W p l e ({ frames := 1, cells := 0, slots := 0, locals := 21 }) s m ([.ref (Ta 0)].toArray) below meth c H locs 0 0 (MQ below (QW (fun (v : Option Value) (u : (Int32) × (Int32) × (Int32)) => match u with | (o1, o2, o3) => v = none ∧ (0 ≤ ((Tv 0) : Int32).toInt ∧ ((Tv 0) : Int32).toInt ≤ 400 ∧ 0 ≤ (o1 : Int32).toInt ∧ (o1 : Int32).toInt ≤ 400 ∧ 0 ≤ (o2 : Int32).toInt ∧ (o2 : Int32).toInt ≤ 400)) (BW D (fun (u : (Int32) × (Int32) × (Int32)) => match u with | (o1, o2, o3) => [((Ta 0), .inr (10, [.ref (Ta 1), .int (Tv 0), .int o1, .int o2, .int o3, .int (Tv 4)])), ((Ta 1), .inl (tc 0, 400, .inl (Tf 1)))]) A) A) ([.ref (Ta 0)].toArray) s 0 0 A) (F0 m 86 ls []) := by
              intro n_54
              induction n_54 with
              | zero =>
                intro vy_53 H locs ls h1 h2
                exact absurd h2 (Nat.not_lt_zero _)
              | succ n_54 ih_55 =>
                intro vy_53 H locs ls hi_58 hn_59 hv_57 hP hD hS hl
                refine lv_aload_n hx hb dX10_step_86 rfl (lv_at hl 0 rfl) ?_
                refine gf_X10_22 hx hb hts hown hK hP 0 rfl rfl dX10_step_87 ?_
                refine lv_aload_n hx hb dX10_step_90 rfl (lv_at hl 0 rfl) ?_
                refine gf_X10_15 hx hb hts hown hK hP 0 rfl rfl dX10_step_91 ?_
                refine lv_icmp_ge (tgt := 242) hx hb dX10_step_94 (by decide) (fun c_60 => ?_) (fun c_60 => ?_)
                · skip
                  have hq_61 : 0 ≤ ((Tv 0) : Int32).toInt ∧ ((Tv 0) : Int32).toInt ≤ 400 ∧ 0 ≤ (vy_2 : Int32).toInt ∧ (vy_2 : Int32).toInt ≤ 400 ∧ 0 ≤ (vy_53 : Int32).toInt ∧ (vy_53 : Int32).toInt ≤ 400 := by
                    have z_1 := Int32.le_iff_toInt_le.mp c_9
                    have z_2 : ¬ ((Tv 4) : Int32).toInt = (0 : Int32).toInt := fun z => c_10 (Int32.toInt_inj.mp z)
                    have z_3 : ¬ (r_14 : Int32).toInt = (0 : Int32).toInt := fun z => c_16 (Int32.toInt_inj.mp z)
                    have z_4 := Int32.le_iff_toInt_le.mp c_60
                    have y_0 : (0 : Int32).toInt = 0 := by decide
                    first | assumption | omega
                  exact retV hx hb hr hlk hP hD hS (vy_2, vy_53, (-1)) ⟨rfl, hq_61⟩ [0, 1] rfl rfl dX10_step_242 (Nat.le_of_ble_eq_true rfl) (Nat.le_of_ble_eq_true rfl) rfl
                · skip
                  refine lv_aload_n hx hb dX10_step_97 rfl (lv_at hl 0 rfl) ?_
                  refine lv_aload_n hx hb dX10_step_98 rfl (lv_at hl 0 rfl) ?_
                  refine gf_X10_22 hx hb hts hown hK hP 0 rfl rfl dX10_step_99 ?_
                  refine cV (a := (Ta 0)) (As := [.int vy_53]) (rest := []) (wr := []) ⟨hx, hb, hml, hown, hts⟩ hK hX hA (cu_X10_byteAt l D tc sk (Ta 0) (Ta 1) (Tv 0) vy_2 vy_53 (-1) (Tv 4) (Tf 1) vy_53) k_482 k_479 k_481 k_0 k_96 pl_X10_byteAt ⟨Nat.le_of_ble_eq_true rfl, Nat.le_of_ble_eq_true rfl⟩ rfl rfl (va_recv hK hP (ci := 10) (q0 := 0) rfl rfl) hP hD hS [0, 1] [] rfl rfl rfl rfl rfl (by decide) rfl hl.1 rfl (Nat.le_of_ble_eq_true rfl) dX10_step_102 ⟨Nat.le_of_ble_eq_true rfl, Nat.le_of_ble_eq_true rfl⟩ (fun v_62 u_63 H locs hv_64 hP hD hS => ?_)
                  obtain ⟨r_65, rfl, he_66⟩ := hv_64
                  have he_66 : ((r_65.toInt = -1 ∨ (0 ≤ vy_53.toInt ∧ vy_53.toInt < (Tv 0).toInt ∧ vy_53.toInt < 400))) := he_66
                  refine W.eq (g2 := F0 m 105 ls [.int r_65]) rfl ?_
                  have hP : va_P D classes [((Ta 0), .inr (10, [.ref (Ta 1), .int (Tv 0), .int vy_2, .int vy_53, .int (-1), .int (Tv 4)])), ((Ta 1), .inl (tc 0, 400, .inl (Tf 1)))] H := hP
                  have hD : va_D A [((Ta 0), .inr (10, [.ref (Ta 1), .int (Tv 0), .int vy_2, .int vy_53, .int (-1), .int (Tv 4)])), ((Ta 1), .inl (tc 0, 400, .inl (Tf 1)))] := hD
                  refine cS (As := [.int r_65]) (rest := []) (wr := [((Ta 0), .inr (10, [.ref (Ta 1), .int (Tv 0), .int vy_2, .int vy_53, .int (-1), .int (Tv 4)])), ((Ta 1), .inl (tc 0, 400, .inl (Tf 1)))]) ⟨hx, hb, hml, hown, hts⟩ hK hX hA (ct_X10_isLetter l D tc sk r_65) k_485 k_483 k_484 k_96 pl_X10_isLetter ⟨Nat.le_of_ble_eq_true rfl, Nat.le_of_ble_eq_true rfl⟩ rfl rfl  hP hD hS [] [0, 1] rfl rfl rfl rfl rfl (by decide) rfl hl.1 rfl (Nat.le_of_ble_eq_true rfl) dX10_step_105 ⟨Nat.le_of_ble_eq_true rfl, Nat.le_of_ble_eq_true rfl⟩ (fun v_67 u_68 H locs hv_69 hP hD hS => ?_)
                  obtain ⟨r_70, rfl, he_71⟩ := hv_69
                  have he_71 : ((r_70.toInt = 0 ∨ r_70.toInt = 1)) := he_71
                  refine W.eq (g2 := F0 m 108 ls [.int r_70]) rfl ?_
                  have hP : va_P D classes [((Ta 0), .inr (10, [.ref (Ta 1), .int (Tv 0), .int vy_2, .int vy_53, .int (-1), .int (Tv 4)])), ((Ta 1), .inl (tc 0, 400, .inl (Tf 1)))] H := hP
                  have hD : va_D A [((Ta 0), .inr (10, [.ref (Ta 1), .int (Tv 0), .int vy_2, .int vy_53, .int (-1), .int (Tv 4)])), ((Ta 1), .inl (tc 0, 400, .inl (Tf 1)))] := hD
                  refine lv_if_eq (tgt := 242) hx hb dX10_step_108 (by decide) (fun c_72 => ?_) (fun c_72 => ?_)
                  · skip
                    have hq_73 : 0 ≤ ((Tv 0) : Int32).toInt ∧ ((Tv 0) : Int32).toInt ≤ 400 ∧ 0 ≤ (vy_2 : Int32).toInt ∧ (vy_2 : Int32).toInt ≤ 400 ∧ 0 ≤ (vy_53 : Int32).toInt ∧ (vy_53 : Int32).toInt ≤ 400 := by
                      have z_1 := Int32.le_iff_toInt_le.mp c_9
                      have z_2 : ¬ ((Tv 4) : Int32).toInt = (0 : Int32).toInt := fun z => c_10 (Int32.toInt_inj.mp z)
                      have z_3 : ¬ (r_14 : Int32).toInt = (0 : Int32).toInt := fun z => c_16 (Int32.toInt_inj.mp z)
                      have z_4 := Int32.lt_iff_toInt_lt.mp (Int32.not_le.mp c_60)
                      have z_5 := congrArg Int32.toInt c_72
                      have y_0 : (0 : Int32).toInt = 0 := by decide
                      first | assumption | omega
                    exact retV hx hb hr hlk hP hD hS (vy_2, vy_53, (-1)) ⟨rfl, hq_73⟩ [0, 1] rfl rfl dX10_step_242 (Nat.le_of_ble_eq_true rfl) (Nat.le_of_ble_eq_true rfl) rfl
                  · skip
                    refine lv_aload_n hx hb dX10_step_111 rfl (lv_at hl 0 rfl) ?_
                    refine lv_dup hx hb dX10_step_112 rfl ?_
                    refine gf_X10_22 hx hb hts hown hK hP 0 rfl rfl dX10_step_113 ?_
                    refine lv_iconst (v := 1) hx hb dX10_step_116 (by decide) ?_
                    refine lv_iadd hx hb dX10_step_117 ?_
                    refine lv_topi (fun x_74 ex_74 => ?_)
                    refine pf_X10_22 hx hb hts hown hK hP hD hS 0 rfl (Nat.le_of_ble_eq_true rfl) rfl rfl dX10_step_118 (fun H locs hP hD hS => ?_)
                    have hP : va_P D classes [((Ta 0), .inr (10, [.ref (Ta 1), .int (Tv 0), .int vy_2, .int x_74, .int (-1), .int (Tv 4)])), ((Ta 1), .inl (tc 0, 400, .inl (Tf 1)))] H := hP
                    have hD : va_D A [((Ta 0), .inr (10, [.ref (Ta 1), .int (Tv 0), .int vy_2, .int x_74, .int (-1), .int (Tv 4)])), ((Ta 1), .inl (tc 0, 400, .inl (Tf 1)))] := hD
                    refine lv_goto (tgt := 86) hx hb dX10_step_121 (by decide) ?_
                    have hb_75 : 0 ≤ (x_74 : Int32).toInt ∧ (400 - (x_74 : Int32).toInt).toNat < n_54 := by
                      have z_1 := Int32.le_iff_toInt_le.mp c_9
                      have z_2 : ¬ ((Tv 4) : Int32).toInt = (0 : Int32).toInt := fun z => c_10 (Int32.toInt_inj.mp z)
                      have z_3 : ¬ (r_14 : Int32).toInt = (0 : Int32).toInt := fun z => c_16 (Int32.toInt_inj.mp z)
                      have z_4 := Int32.lt_iff_toInt_lt.mp (Int32.not_le.mp c_60)
                      have z_5 : ¬ (r_70 : Int32).toInt = (0 : Int32).toInt := fun z => c_72 (Int32.toInt_inj.mp z)
                      have y_0 : (0 : Int32).toInt = 0 := by decide
                      have y_1 : (1 : Int32).toInt = 1 := by decide
                      have t_x_74 : x_74.toInt = (vy_53 : Int32).toInt + (1 : Int32).toInt := by rw [ex_74]; exact add_toInt (by omega) (by omega)
                      omega
                    have hv_76 : (x_74 : Int32).toInt ≤ 400 := by
                      have z_1 := Int32.le_iff_toInt_le.mp c_9
                      have z_2 : ¬ ((Tv 4) : Int32).toInt = (0 : Int32).toInt := fun z => c_10 (Int32.toInt_inj.mp z)
                      have z_3 : ¬ (r_14 : Int32).toInt = (0 : Int32).toInt := fun z => c_16 (Int32.toInt_inj.mp z)
                      have z_4 := Int32.lt_iff_toInt_lt.mp (Int32.not_le.mp c_60)
                      have z_5 : ¬ (r_70 : Int32).toInt = (0 : Int32).toInt := fun z => c_72 (Int32.toInt_inj.mp z)
                      have y_0 : (0 : Int32).toInt = 0 := by decide
                      have y_1 : (1 : Int32).toInt = 1 := by decide
                      have t_x_74 : x_74.toInt = (vy_53 : Int32).toInt + (1 : Int32).toInt := by rw [ex_74]; exact add_toInt (by omega) (by omega)
                      omega
                    exact ih_55 x_74 _ _ _ hb_75.1 hb_75.2 hv_76 (hP.sub [0, 1] rfl) (hD.sub [0, 1] rfl rfl) hS (lv_sub hl [0] rfl)
            have h0_77 : 0 ≤ (vy_2 : Int32).toInt := by
              have z_1 := Int32.le_iff_toInt_le.mp c_9
              have z_2 : ¬ ((Tv 4) : Int32).toInt = (0 : Int32).toInt := fun z => c_10 (Int32.toInt_inj.mp z)
              have z_3 : ¬ (r_14 : Int32).toInt = (0 : Int32).toInt := fun z => c_16 (Int32.toInt_inj.mp z)
              have y_0 : (0 : Int32).toInt = 0 := by decide
              omega
            have hv_78 : (vy_2 : Int32).toInt ≤ 400 := by
              have z_1 := Int32.le_iff_toInt_le.mp c_9
              have z_2 : ¬ ((Tv 4) : Int32).toInt = (0 : Int32).toInt := fun z => c_10 (Int32.toInt_inj.mp z)
              have z_3 : ¬ (r_14 : Int32).toInt = (0 : Int32).toInt := fun z => c_16 (Int32.toInt_inj.mp z)
              have y_0 : (0 : Int32).toInt = 0 := by decide
              omega
            exact loop_56 _ vy_2 _ _ _ h0_77 (Nat.lt_succ_self _) hv_78 hP hD hS hl
        · skip
          refine lv_aload_n hx hb dX10_step_61 rfl (lv_at hl 0 rfl) ?_
          refine lv_aload_n hx hb dX10_step_62 rfl (lv_at hl 0 rfl) ?_
          refine gf_X10_19 hx hb hts hown hK hP 0 rfl rfl dX10_step_63 ?_
          refine cV (a := (Ta 0)) (As := [.int vy_2]) (rest := [.ref (Ta 0)]) (wr := []) ⟨hx, hb, hml, hown, hts⟩ hK hX hA (cu_X10_byteAt l D tc sk (Ta 0) (Ta 1) (Tv 0) vy_2 vy_2 (Tv 3) (Tv 4) (Tf 1) vy_2) k_482 k_479 k_481 k_0 k_96 pl_X10_byteAt ⟨Nat.le_of_ble_eq_true rfl, Nat.le_of_ble_eq_true rfl⟩ rfl rfl (va_recv hK hP (ci := 10) (q0 := 0) rfl rfl) hP hD hS [0, 1] [] rfl rfl rfl rfl rfl (by decide) rfl hl.1 rfl (Nat.le_of_ble_eq_true rfl) dX10_step_66 ⟨Nat.le_of_ble_eq_true rfl, Nat.le_of_ble_eq_true rfl⟩ (fun v_79 u_80 H locs hv_81 hP hD hS => ?_)
          obtain ⟨r_82, rfl, he_83⟩ := hv_81
          have he_83 : ((r_82.toInt = -1 ∨ (0 ≤ vy_2.toInt ∧ vy_2.toInt < (Tv 0).toInt ∧ vy_2.toInt < 400))) := he_83
          refine W.eq (g2 := F0 m 69 ls [.int r_82, .ref (Ta 0)]) rfl ?_
          have hP : va_P D classes [((Ta 0), .inr (10, [.ref (Ta 1), .int (Tv 0), .int vy_2, .int vy_2, .int (Tv 3), .int (Tv 4)])), ((Ta 1), .inl (tc 0, 400, .inl (Tf 1)))] H := hP
          have hD : va_D A [((Ta 0), .inr (10, [.ref (Ta 1), .int (Tv 0), .int vy_2, .int vy_2, .int (Tv 3), .int (Tv 4)])), ((Ta 1), .inl (tc 0, 400, .inl (Tf 1)))] := hD
          refine lv_goto (tgt := 73) hx hb dX10_step_69 (by decide) ?_
          refine pf_X10_25 hx hb hts hown hK hP hD hS 0 rfl (Nat.le_of_ble_eq_true rfl) rfl rfl dX10_step_73 (fun H locs hP hD hS => ?_)
          have hP : va_P D classes [((Ta 0), .inr (10, [.ref (Ta 1), .int (Tv 0), .int vy_2, .int vy_2, .int r_82, .int (Tv 4)])), ((Ta 1), .inl (tc 0, 400, .inl (Tf 1)))] H := hP
          have hD : va_D A [((Ta 0), .inr (10, [.ref (Ta 1), .int (Tv 0), .int vy_2, .int vy_2, .int r_82, .int (Tv 4)])), ((Ta 1), .inl (tc 0, 400, .inl (Tf 1)))] := hD
          refine lv_aload_n hx hb dX10_step_76 rfl (lv_at hl 0 rfl) ?_
          refine gf_X10_25 hx hb hts hown hK hP 0 rfl rfl dX10_step_77 ?_
          refine cS (As := [.int r_82]) (rest := []) (wr := [((Ta 0), .inr (10, [.ref (Ta 1), .int (Tv 0), .int vy_2, .int vy_2, .int r_82, .int (Tv 4)])), ((Ta 1), .inl (tc 0, 400, .inl (Tf 1)))]) ⟨hx, hb, hml, hown, hts⟩ hK hX hA (ct_X10_isLetter l D tc sk r_82) k_485 k_483 k_484 k_96 pl_X10_isLetter ⟨Nat.le_of_ble_eq_true rfl, Nat.le_of_ble_eq_true rfl⟩ rfl rfl  hP hD hS [] [0, 1] rfl rfl rfl rfl rfl (by decide) rfl hl.1 rfl (Nat.le_of_ble_eq_true rfl) dX10_step_80 ⟨Nat.le_of_ble_eq_true rfl, Nat.le_of_ble_eq_true rfl⟩ (fun v_84 u_85 H locs hv_86 hP hD hS => ?_)
          obtain ⟨r_87, rfl, he_88⟩ := hv_86
          have he_88 : ((r_87.toInt = 0 ∨ r_87.toInt = 1)) := he_88
          refine W.eq (g2 := F0 m 83 ls [.int r_87]) rfl ?_
          have hP : va_P D classes [((Ta 0), .inr (10, [.ref (Ta 1), .int (Tv 0), .int vy_2, .int vy_2, .int r_82, .int (Tv 4)])), ((Ta 1), .inl (tc 0, 400, .inl (Tf 1)))] H := hP
          have hD : va_D A [((Ta 0), .inr (10, [.ref (Ta 1), .int (Tv 0), .int vy_2, .int vy_2, .int r_82, .int (Tv 4)])), ((Ta 1), .inl (tc 0, 400, .inl (Tf 1)))] := hD
          refine lv_if_eq (tgt := 124) hx hb dX10_step_83 (by decide) (fun c_89 => ?_) (fun c_89 => ?_)
          · skip
            refine lv_aload_n hx hb dX10_step_124 rfl (lv_at hl 0 rfl) ?_
            refine gf_X10_25 hx hb hts hown hK hP 0 rfl rfl dX10_step_125 ?_
            refine cS (As := [.int r_82]) (rest := []) (wr := [((Ta 0), .inr (10, [.ref (Ta 1), .int (Tv 0), .int vy_2, .int vy_2, .int r_82, .int (Tv 4)])), ((Ta 1), .inl (tc 0, 400, .inl (Tf 1)))]) ⟨hx, hb, hml, hown, hts⟩ hK hX hA (ct_X10_isDigit l D tc sk r_82) k_488 k_486 k_487 k_96 pl_X10_isDigit ⟨Nat.le_of_ble_eq_true rfl, Nat.le_of_ble_eq_true rfl⟩ rfl rfl  hP hD hS [] [0, 1] rfl rfl rfl rfl rfl (by decide) rfl hl.1 rfl (Nat.le_of_ble_eq_true rfl) dX10_step_128 ⟨Nat.le_of_ble_eq_true rfl, Nat.le_of_ble_eq_true rfl⟩ (fun v_90 u_91 H locs hv_92 hP hD hS => ?_)
            obtain ⟨r_93, rfl, he_94⟩ := hv_92
            have he_94 : ((r_93.toInt = 0 ∨ r_93.toInt = 1)) := he_94
            refine W.eq (g2 := F0 m 131 ls [.int r_93]) rfl ?_
            have hP : va_P D classes [((Ta 0), .inr (10, [.ref (Ta 1), .int (Tv 0), .int vy_2, .int vy_2, .int r_82, .int (Tv 4)])), ((Ta 1), .inl (tc 0, 400, .inl (Tf 1)))] H := hP
            have hD : va_D A [((Ta 0), .inr (10, [.ref (Ta 1), .int (Tv 0), .int vy_2, .int vy_2, .int r_82, .int (Tv 4)])), ((Ta 1), .inl (tc 0, 400, .inl (Tf 1)))] := hD
            refine lv_if_eq (tgt := 172) hx hb dX10_step_131 (by decide) (fun c_95 => ?_) (fun c_95 => ?_)
            · skip
              refine lv_aload_n hx hb dX10_step_172 rfl (lv_at hl 0 rfl) ?_
              refine gf_X10_25 hx hb hts hown hK hP 0 rfl rfl dX10_step_173 ?_
              refine lv_iconst (v := (-1)) hx hb dX10_step_176 (by decide) ?_
              refine lv_icmp_eq (tgt := 242) hx hb dX10_step_177 (by decide) (fun c_96 => ?_) (fun c_96 => ?_)
              · skip
                have hq_97 : 0 ≤ ((Tv 0) : Int32).toInt ∧ ((Tv 0) : Int32).toInt ≤ 400 ∧ 0 ≤ (vy_2 : Int32).toInt ∧ (vy_2 : Int32).toInt ≤ 400 ∧ 0 ≤ (vy_2 : Int32).toInt ∧ (vy_2 : Int32).toInt ≤ 400 := by
                  have z_1 := Int32.le_iff_toInt_le.mp c_9
                  have z_2 := congrArg Int32.toInt c_10
                  have z_3 := congrArg Int32.toInt c_89
                  have z_4 := congrArg Int32.toInt c_95
                  have z_5 := congrArg Int32.toInt c_96
                  have y_m1 : (-1 : Int32).toInt = -1 := by decide
                  have y_0 : (0 : Int32).toInt = 0 := by decide
                  first | assumption | omega
                exact retV hx hb hr hlk hP hD hS (vy_2, vy_2, r_82) ⟨rfl, hq_97⟩ [0, 1] rfl rfl dX10_step_242 (Nat.le_of_ble_eq_true rfl) (Nat.le_of_ble_eq_true rfl) rfl
              · skip
                refine lv_aload_n hx hb dX10_step_180 rfl (lv_at hl 0 rfl) ?_
                refine gf_X10_25 hx hb hts hown hK hP 0 rfl rfl dX10_step_181 ?_
                refine lv_bipush (v := 60) hx hb dX10_step_184 (by decide) ?_
                refine lv_icmp_eq (tgt := 198) hx hb dX10_step_186 (by decide) (fun c_98 => ?_) (fun c_98 => ?_)
                · skip
                  refine lv_iconst (v := 1) hx hb dX10_step_198 (by decide) ?_
                  refine lv_goto (tgt := 203) hx hb dX10_step_199 (by decide) ?_
                  refine lv_istore_n (lv' := [(1, .int 1), (0, .ref (Ta 0))]) hx hb dX10_step_203 rfl hl (by decide) rfl (fun ls hl => ?_)
                  refine lv_aload_n hx hb dX10_step_204 rfl (lv_at hl 1 rfl) ?_
                  refine lv_iload_n hx hb dX10_step_205 rfl (lv_at hl 0 rfl) ?_
                  refine lv_if_eq (tgt := 233) hx hb dX10_step_206 (by decide) (fun c_99 => absurd c_99 (by decide)) (fun c_99 => ?_)
                  refine lv_aload_n hx hb dX10_step_209 rfl (lv_at hl 1 rfl) ?_
                  refine lv_aload_n hx hb dX10_step_210 rfl (lv_at hl 1 rfl) ?_
                  refine gf_X10_19 hx hb hts hown hK hP 0 rfl rfl dX10_step_211 ?_
                  refine lv_iconst (v := 1) hx hb dX10_step_214 (by decide) ?_
                  refine lv_iadd hx hb dX10_step_215 ?_
                  refine lv_topi (fun x_100 ex_100 => ?_)
                  refine cV (a := (Ta 0)) (As := [.int x_100]) (rest := [.ref (Ta 0)]) (wr := []) ⟨hx, hb, hml, hown, hts⟩ hK hX hA (cu_X10_byteAt l D tc sk (Ta 0) (Ta 1) (Tv 0) vy_2 vy_2 r_82 (Tv 4) (Tf 1) x_100) k_482 k_479 k_481 k_0 k_96 pl_X10_byteAt ⟨Nat.le_of_ble_eq_true rfl, Nat.le_of_ble_eq_true rfl⟩ rfl rfl (va_recv hK hP (ci := 10) (q0 := 0) rfl rfl) hP hD hS [0, 1] [] rfl rfl rfl rfl rfl (by decide) rfl hl.1 rfl (Nat.le_of_ble_eq_true rfl) dX10_step_216 ⟨Nat.le_of_ble_eq_true rfl, Nat.le_of_ble_eq_true rfl⟩ (fun v_101 u_102 H locs hv_103 hP hD hS => ?_)
                  obtain ⟨r_104, rfl, he_105⟩ := hv_103
                  have he_105 : ((r_104.toInt = -1 ∨ (0 ≤ x_100.toInt ∧ x_100.toInt < (Tv 0).toInt ∧ x_100.toInt < 400))) := he_105
                  refine W.eq (g2 := F0 m 219 ls [.int r_104, .ref (Ta 0)]) rfl ?_
                  have hP : va_P D classes [((Ta 0), .inr (10, [.ref (Ta 1), .int (Tv 0), .int vy_2, .int vy_2, .int r_82, .int (Tv 4)])), ((Ta 1), .inl (tc 0, 400, .inl (Tf 1)))] H := hP
                  have hD : va_D A [((Ta 0), .inr (10, [.ref (Ta 1), .int (Tv 0), .int vy_2, .int vy_2, .int r_82, .int (Tv 4)])), ((Ta 1), .inl (tc 0, 400, .inl (Tf 1)))] := hD
                  refine lv_bipush (v := 61) hx hb dX10_step_219 (by decide) ?_
                  refine lv_icmp_ne (tgt := 233) hx hb dX10_step_221 (by decide) (fun c_106 => ?_) (fun c_106 => ?_)
                  · skip
                    refine lv_aload_n hx hb dX10_step_233 rfl (lv_at hl 1 rfl) ?_
                    refine gf_X10_19 hx hb hts hown hK hP 0 rfl rfl dX10_step_234 ?_
                    refine lv_iconst (v := 1) hx hb dX10_step_237 (by decide) ?_
                    refine lv_iadd hx hb dX10_step_238 ?_
                    refine lv_topi (fun x_107 ex_107 => ?_)
                    refine pf_X10_22 hx hb hts hown hK hP hD hS 0 rfl (Nat.le_of_ble_eq_true rfl) rfl rfl dX10_step_239 (fun H locs hP hD hS => ?_)
                    have hP : va_P D classes [((Ta 0), .inr (10, [.ref (Ta 1), .int (Tv 0), .int vy_2, .int x_107, .int r_82, .int (Tv 4)])), ((Ta 1), .inl (tc 0, 400, .inl (Tf 1)))] H := hP
                    have hD : va_D A [((Ta 0), .inr (10, [.ref (Ta 1), .int (Tv 0), .int vy_2, .int x_107, .int r_82, .int (Tv 4)])), ((Ta 1), .inl (tc 0, 400, .inl (Tf 1)))] := hD
                    have hq_108 : 0 ≤ ((Tv 0) : Int32).toInt ∧ ((Tv 0) : Int32).toInt ≤ 400 ∧ 0 ≤ (vy_2 : Int32).toInt ∧ (vy_2 : Int32).toInt ≤ 400 ∧ 0 ≤ (x_107 : Int32).toInt ∧ (x_107 : Int32).toInt ≤ 400 := by
                      have z_1 := Int32.le_iff_toInt_le.mp c_9
                      have z_2 := congrArg Int32.toInt c_10
                      have z_3 := congrArg Int32.toInt c_89
                      have z_4 := congrArg Int32.toInt c_95
                      have z_5 : ¬ (r_82 : Int32).toInt = ((-1) : Int32).toInt := fun z => c_96 (Int32.toInt_inj.mp z)
                      have z_6 := congrArg Int32.toInt c_98
                      have z_7 : ¬ (r_104 : Int32).toInt = (61 : Int32).toInt := fun z => c_106 (Int32.toInt_inj.mp z)
                      have y_m1 : (-1 : Int32).toInt = -1 := by decide
                      have y_0 : (0 : Int32).toInt = 0 := by decide
                      have y_60 : (60 : Int32).toInt = 60 := by decide
                      have y_61 : (61 : Int32).toInt = 61 := by decide
                      have y_1 : (1 : Int32).toInt = 1 := by decide
                      have t_x_107 : x_107.toInt = (vy_2 : Int32).toInt + (1 : Int32).toInt := by rw [ex_107]; exact add_toInt (by omega) (by omega)
                      have t_x_100 : x_100.toInt = (vy_2 : Int32).toInt + (1 : Int32).toInt := by rw [ex_100]; exact add_toInt (by omega) (by omega)
                      first | assumption | omega
                    exact retV hx hb hr hlk hP hD hS (vy_2, x_107, r_82) ⟨rfl, hq_108⟩ [0, 1] rfl rfl dX10_step_242 (Nat.le_of_ble_eq_true rfl) (Nat.le_of_ble_eq_true rfl) rfl
                  · skip
                    refine lv_aload_n hx hb dX10_step_224 rfl (lv_at hl 1 rfl) ?_
                    refine gf_X10_19 hx hb hts hown hK hP 0 rfl rfl dX10_step_225 ?_
                    refine lv_iconst (v := 2) hx hb dX10_step_228 (by decide) ?_
                    refine lv_iadd hx hb dX10_step_229 ?_
                    refine lv_topi (fun x_109 ex_109 => ?_)
                    refine lv_goto (tgt := 239) hx hb dX10_step_230 (by decide) ?_
                    refine pf_X10_22 hx hb hts hown hK hP hD hS 0 rfl (Nat.le_of_ble_eq_true rfl) rfl rfl dX10_step_239 (fun H locs hP hD hS => ?_)
                    have hP : va_P D classes [((Ta 0), .inr (10, [.ref (Ta 1), .int (Tv 0), .int vy_2, .int x_109, .int r_82, .int (Tv 4)])), ((Ta 1), .inl (tc 0, 400, .inl (Tf 1)))] H := hP
                    have hD : va_D A [((Ta 0), .inr (10, [.ref (Ta 1), .int (Tv 0), .int vy_2, .int x_109, .int r_82, .int (Tv 4)])), ((Ta 1), .inl (tc 0, 400, .inl (Tf 1)))] := hD
                    have hq_110 : 0 ≤ ((Tv 0) : Int32).toInt ∧ ((Tv 0) : Int32).toInt ≤ 400 ∧ 0 ≤ (vy_2 : Int32).toInt ∧ (vy_2 : Int32).toInt ≤ 400 ∧ 0 ≤ (x_109 : Int32).toInt ∧ (x_109 : Int32).toInt ≤ 400 := by
                      have z_1 := Int32.le_iff_toInt_le.mp c_9
                      have z_2 := congrArg Int32.toInt c_10
                      have z_3 := congrArg Int32.toInt c_89
                      have z_4 := congrArg Int32.toInt c_95
                      have z_5 : ¬ (r_82 : Int32).toInt = ((-1) : Int32).toInt := fun z => c_96 (Int32.toInt_inj.mp z)
                      have z_6 := congrArg Int32.toInt c_98
                      have z_7 := congrArg Int32.toInt c_106
                      have y_m1 : (-1 : Int32).toInt = -1 := by decide
                      have y_0 : (0 : Int32).toInt = 0 := by decide
                      have y_60 : (60 : Int32).toInt = 60 := by decide
                      have y_61 : (61 : Int32).toInt = 61 := by decide
                      have y_1 : (1 : Int32).toInt = 1 := by decide
                      have y_2 : (2 : Int32).toInt = 2 := by decide
                      have t_x_109 : x_109.toInt = (vy_2 : Int32).toInt + (2 : Int32).toInt := by rw [ex_109]; exact add_toInt (by omega) (by omega)
                      have t_x_100 : x_100.toInt = (vy_2 : Int32).toInt + (1 : Int32).toInt := by rw [ex_100]; exact add_toInt (by omega) (by omega)
                      first | assumption | omega
                    exact retV hx hb hr hlk hP hD hS (vy_2, x_109, r_82) ⟨rfl, hq_110⟩ [0, 1] rfl rfl dX10_step_242 (Nat.le_of_ble_eq_true rfl) (Nat.le_of_ble_eq_true rfl) rfl
                · skip
                  refine lv_aload_n hx hb dX10_step_189 rfl (lv_at hl 0 rfl) ?_
                  refine gf_X10_25 hx hb hts hown hK hP 0 rfl rfl dX10_step_190 ?_
                  refine lv_bipush (v := 62) hx hb dX10_step_193 (by decide) ?_
                  refine lv_icmp_ne (tgt := 202) hx hb dX10_step_195 (by decide) (fun c_111 => ?_) (fun c_111 => ?_)
                  · skip
                    refine lv_iconst (v := 0) hx hb dX10_step_202 (by decide) ?_
                    refine lv_istore_n (lv' := [(1, .int 0), (0, .ref (Ta 0))]) hx hb dX10_step_203 rfl hl (by decide) rfl (fun ls hl => ?_)
                    refine lv_aload_n hx hb dX10_step_204 rfl (lv_at hl 1 rfl) ?_
                    refine lv_iload_n hx hb dX10_step_205 rfl (lv_at hl 0 rfl) ?_
                    refine lv_if_eq (tgt := 233) hx hb dX10_step_206 (by decide) (fun c_112 => ?_) (fun c_112 => absurd c_112 (by decide))
                    refine lv_aload_n hx hb dX10_step_233 rfl (lv_at hl 1 rfl) ?_
                    refine gf_X10_19 hx hb hts hown hK hP 0 rfl rfl dX10_step_234 ?_
                    refine lv_iconst (v := 1) hx hb dX10_step_237 (by decide) ?_
                    refine lv_iadd hx hb dX10_step_238 ?_
                    refine lv_topi (fun x_113 ex_113 => ?_)
                    refine pf_X10_22 hx hb hts hown hK hP hD hS 0 rfl (Nat.le_of_ble_eq_true rfl) rfl rfl dX10_step_239 (fun H locs hP hD hS => ?_)
                    have hP : va_P D classes [((Ta 0), .inr (10, [.ref (Ta 1), .int (Tv 0), .int vy_2, .int x_113, .int r_82, .int (Tv 4)])), ((Ta 1), .inl (tc 0, 400, .inl (Tf 1)))] H := hP
                    have hD : va_D A [((Ta 0), .inr (10, [.ref (Ta 1), .int (Tv 0), .int vy_2, .int x_113, .int r_82, .int (Tv 4)])), ((Ta 1), .inl (tc 0, 400, .inl (Tf 1)))] := hD
                    have hq_114 : 0 ≤ ((Tv 0) : Int32).toInt ∧ ((Tv 0) : Int32).toInt ≤ 400 ∧ 0 ≤ (vy_2 : Int32).toInt ∧ (vy_2 : Int32).toInt ≤ 400 ∧ 0 ≤ (x_113 : Int32).toInt ∧ (x_113 : Int32).toInt ≤ 400 := by
                      have z_1 := Int32.le_iff_toInt_le.mp c_9
                      have z_2 := congrArg Int32.toInt c_10
                      have z_3 := congrArg Int32.toInt c_89
                      have z_4 := congrArg Int32.toInt c_95
                      have z_5 : ¬ (r_82 : Int32).toInt = ((-1) : Int32).toInt := fun z => c_96 (Int32.toInt_inj.mp z)
                      have z_6 : ¬ (r_82 : Int32).toInt = (60 : Int32).toInt := fun z => c_98 (Int32.toInt_inj.mp z)
                      have z_7 : ¬ (r_82 : Int32).toInt = (62 : Int32).toInt := fun z => c_111 (Int32.toInt_inj.mp z)
                      have y_m1 : (-1 : Int32).toInt = -1 := by decide
                      have y_0 : (0 : Int32).toInt = 0 := by decide
                      have y_60 : (60 : Int32).toInt = 60 := by decide
                      have y_62 : (62 : Int32).toInt = 62 := by decide
                      have y_1 : (1 : Int32).toInt = 1 := by decide
                      have t_x_113 : x_113.toInt = (vy_2 : Int32).toInt + (1 : Int32).toInt := by rw [ex_113]; exact add_toInt (by omega) (by omega)
                      first | assumption | omega
                    exact retV hx hb hr hlk hP hD hS (vy_2, x_113, r_82) ⟨rfl, hq_114⟩ [0, 1] rfl rfl dX10_step_242 (Nat.le_of_ble_eq_true rfl) (Nat.le_of_ble_eq_true rfl) rfl
                  · skip
                    refine lv_iconst (v := 1) hx hb dX10_step_198 (by decide) ?_
                    refine lv_goto (tgt := 203) hx hb dX10_step_199 (by decide) ?_
                    refine lv_istore_n (lv' := [(1, .int 1), (0, .ref (Ta 0))]) hx hb dX10_step_203 rfl hl (by decide) rfl (fun ls hl => ?_)
                    refine lv_aload_n hx hb dX10_step_204 rfl (lv_at hl 1 rfl) ?_
                    refine lv_iload_n hx hb dX10_step_205 rfl (lv_at hl 0 rfl) ?_
                    refine lv_if_eq (tgt := 233) hx hb dX10_step_206 (by decide) (fun c_115 => absurd c_115 (by decide)) (fun c_115 => ?_)
                    refine lv_aload_n hx hb dX10_step_209 rfl (lv_at hl 1 rfl) ?_
                    refine lv_aload_n hx hb dX10_step_210 rfl (lv_at hl 1 rfl) ?_
                    refine gf_X10_19 hx hb hts hown hK hP 0 rfl rfl dX10_step_211 ?_
                    refine lv_iconst (v := 1) hx hb dX10_step_214 (by decide) ?_
                    refine lv_iadd hx hb dX10_step_215 ?_
                    refine lv_topi (fun x_116 ex_116 => ?_)
                    refine cV (a := (Ta 0)) (As := [.int x_116]) (rest := [.ref (Ta 0)]) (wr := []) ⟨hx, hb, hml, hown, hts⟩ hK hX hA (cu_X10_byteAt l D tc sk (Ta 0) (Ta 1) (Tv 0) vy_2 vy_2 r_82 (Tv 4) (Tf 1) x_116) k_482 k_479 k_481 k_0 k_96 pl_X10_byteAt ⟨Nat.le_of_ble_eq_true rfl, Nat.le_of_ble_eq_true rfl⟩ rfl rfl (va_recv hK hP (ci := 10) (q0 := 0) rfl rfl) hP hD hS [0, 1] [] rfl rfl rfl rfl rfl (by decide) rfl hl.1 rfl (Nat.le_of_ble_eq_true rfl) dX10_step_216 ⟨Nat.le_of_ble_eq_true rfl, Nat.le_of_ble_eq_true rfl⟩ (fun v_117 u_118 H locs hv_119 hP hD hS => ?_)
                    obtain ⟨r_120, rfl, he_121⟩ := hv_119
                    have he_121 : ((r_120.toInt = -1 ∨ (0 ≤ x_116.toInt ∧ x_116.toInt < (Tv 0).toInt ∧ x_116.toInt < 400))) := he_121
                    refine W.eq (g2 := F0 m 219 ls [.int r_120, .ref (Ta 0)]) rfl ?_
                    have hP : va_P D classes [((Ta 0), .inr (10, [.ref (Ta 1), .int (Tv 0), .int vy_2, .int vy_2, .int r_82, .int (Tv 4)])), ((Ta 1), .inl (tc 0, 400, .inl (Tf 1)))] H := hP
                    have hD : va_D A [((Ta 0), .inr (10, [.ref (Ta 1), .int (Tv 0), .int vy_2, .int vy_2, .int r_82, .int (Tv 4)])), ((Ta 1), .inl (tc 0, 400, .inl (Tf 1)))] := hD
                    refine lv_bipush (v := 61) hx hb dX10_step_219 (by decide) ?_
                    refine lv_icmp_ne (tgt := 233) hx hb dX10_step_221 (by decide) (fun c_122 => ?_) (fun c_122 => ?_)
                    · skip
                      refine lv_aload_n hx hb dX10_step_233 rfl (lv_at hl 1 rfl) ?_
                      refine gf_X10_19 hx hb hts hown hK hP 0 rfl rfl dX10_step_234 ?_
                      refine lv_iconst (v := 1) hx hb dX10_step_237 (by decide) ?_
                      refine lv_iadd hx hb dX10_step_238 ?_
                      refine lv_topi (fun x_123 ex_123 => ?_)
                      refine pf_X10_22 hx hb hts hown hK hP hD hS 0 rfl (Nat.le_of_ble_eq_true rfl) rfl rfl dX10_step_239 (fun H locs hP hD hS => ?_)
                      have hP : va_P D classes [((Ta 0), .inr (10, [.ref (Ta 1), .int (Tv 0), .int vy_2, .int x_123, .int r_82, .int (Tv 4)])), ((Ta 1), .inl (tc 0, 400, .inl (Tf 1)))] H := hP
                      have hD : va_D A [((Ta 0), .inr (10, [.ref (Ta 1), .int (Tv 0), .int vy_2, .int x_123, .int r_82, .int (Tv 4)])), ((Ta 1), .inl (tc 0, 400, .inl (Tf 1)))] := hD
                      have hq_124 : 0 ≤ ((Tv 0) : Int32).toInt ∧ ((Tv 0) : Int32).toInt ≤ 400 ∧ 0 ≤ (vy_2 : Int32).toInt ∧ (vy_2 : Int32).toInt ≤ 400 ∧ 0 ≤ (x_123 : Int32).toInt ∧ (x_123 : Int32).toInt ≤ 400 := by
                        have z_1 := Int32.le_iff_toInt_le.mp c_9
                        have z_2 := congrArg Int32.toInt c_10
                        have z_3 := congrArg Int32.toInt c_89
                        have z_4 := congrArg Int32.toInt c_95
                        have z_5 : ¬ (r_82 : Int32).toInt = ((-1) : Int32).toInt := fun z => c_96 (Int32.toInt_inj.mp z)
                        have z_6 : ¬ (r_82 : Int32).toInt = (60 : Int32).toInt := fun z => c_98 (Int32.toInt_inj.mp z)
                        have z_7 := congrArg Int32.toInt c_111
                        have z_8 : ¬ (r_120 : Int32).toInt = (61 : Int32).toInt := fun z => c_122 (Int32.toInt_inj.mp z)
                        have y_m1 : (-1 : Int32).toInt = -1 := by decide
                        have y_0 : (0 : Int32).toInt = 0 := by decide
                        have y_60 : (60 : Int32).toInt = 60 := by decide
                        have y_61 : (61 : Int32).toInt = 61 := by decide
                        have y_62 : (62 : Int32).toInt = 62 := by decide
                        have y_1 : (1 : Int32).toInt = 1 := by decide
                        have t_x_123 : x_123.toInt = (vy_2 : Int32).toInt + (1 : Int32).toInt := by rw [ex_123]; exact add_toInt (by omega) (by omega)
                        have t_x_116 : x_116.toInt = (vy_2 : Int32).toInt + (1 : Int32).toInt := by rw [ex_116]; exact add_toInt (by omega) (by omega)
                        first | assumption | omega
                      exact retV hx hb hr hlk hP hD hS (vy_2, x_123, r_82) ⟨rfl, hq_124⟩ [0, 1] rfl rfl dX10_step_242 (Nat.le_of_ble_eq_true rfl) (Nat.le_of_ble_eq_true rfl) rfl
                    · skip
                      refine lv_aload_n hx hb dX10_step_224 rfl (lv_at hl 1 rfl) ?_
                      refine gf_X10_19 hx hb hts hown hK hP 0 rfl rfl dX10_step_225 ?_
                      refine lv_iconst (v := 2) hx hb dX10_step_228 (by decide) ?_
                      refine lv_iadd hx hb dX10_step_229 ?_
                      refine lv_topi (fun x_125 ex_125 => ?_)
                      refine lv_goto (tgt := 239) hx hb dX10_step_230 (by decide) ?_
                      refine pf_X10_22 hx hb hts hown hK hP hD hS 0 rfl (Nat.le_of_ble_eq_true rfl) rfl rfl dX10_step_239 (fun H locs hP hD hS => ?_)
                      have hP : va_P D classes [((Ta 0), .inr (10, [.ref (Ta 1), .int (Tv 0), .int vy_2, .int x_125, .int r_82, .int (Tv 4)])), ((Ta 1), .inl (tc 0, 400, .inl (Tf 1)))] H := hP
                      have hD : va_D A [((Ta 0), .inr (10, [.ref (Ta 1), .int (Tv 0), .int vy_2, .int x_125, .int r_82, .int (Tv 4)])), ((Ta 1), .inl (tc 0, 400, .inl (Tf 1)))] := hD
                      have hq_126 : 0 ≤ ((Tv 0) : Int32).toInt ∧ ((Tv 0) : Int32).toInt ≤ 400 ∧ 0 ≤ (vy_2 : Int32).toInt ∧ (vy_2 : Int32).toInt ≤ 400 ∧ 0 ≤ (x_125 : Int32).toInt ∧ (x_125 : Int32).toInt ≤ 400 := by
                        have z_1 := Int32.le_iff_toInt_le.mp c_9
                        have z_2 := congrArg Int32.toInt c_10
                        have z_3 := congrArg Int32.toInt c_89
                        have z_4 := congrArg Int32.toInt c_95
                        have z_5 : ¬ (r_82 : Int32).toInt = ((-1) : Int32).toInt := fun z => c_96 (Int32.toInt_inj.mp z)
                        have z_6 : ¬ (r_82 : Int32).toInt = (60 : Int32).toInt := fun z => c_98 (Int32.toInt_inj.mp z)
                        have z_7 := congrArg Int32.toInt c_111
                        have z_8 := congrArg Int32.toInt c_122
                        have y_m1 : (-1 : Int32).toInt = -1 := by decide
                        have y_0 : (0 : Int32).toInt = 0 := by decide
                        have y_60 : (60 : Int32).toInt = 60 := by decide
                        have y_61 : (61 : Int32).toInt = 61 := by decide
                        have y_62 : (62 : Int32).toInt = 62 := by decide
                        have y_1 : (1 : Int32).toInt = 1 := by decide
                        have y_2 : (2 : Int32).toInt = 2 := by decide
                        have t_x_125 : x_125.toInt = (vy_2 : Int32).toInt + (2 : Int32).toInt := by rw [ex_125]; exact add_toInt (by omega) (by omega)
                        have t_x_116 : x_116.toInt = (vy_2 : Int32).toInt + (1 : Int32).toInt := by rw [ex_116]; exact add_toInt (by omega) (by omega)
                        first | assumption | omega
                      exact retV hx hb hr hlk hP hD hS (vy_2, x_125, r_82) ⟨rfl, hq_126⟩ [0, 1] rfl rfl dX10_step_242 (Nat.le_of_ble_eq_true rfl) (Nat.le_of_ble_eq_true rfl) rfl
            · skip
              have loop_131 : ∀ (n_129 : Nat) (vy_128 : Int32) (H : Heap) (locs : List Loc) (ls : Array Slot), 0 ≤ (vy_128 : Int32).toInt → (400 - (vy_128 : Int32).toInt).toNat < n_129 → (vy_128 : Int32).toInt ≤ 400 → va_P D classes [((Ta 0), .inr (10, [.ref (Ta 1), .int (Tv 0), .int vy_2, .int vy_128, .int r_82, .int (Tv 4)])), ((Ta 1), .inl (tc 0, 400, .inl (Tf 1)))] H → va_D A [((Ta 0), .inr (10, [.ref (Ta 1), .int (Tv 0), .int vy_2, .int vy_128, .int r_82, .int (Tv 4)])), ((Ta 1), .inl (tc 0, 400, .inl (Tf 1)))] → va_S A s.heap H locs → lv_has ls 2 [(0, .ref (Ta 0))] → W p l e ({ frames := 1, cells := 0, slots := 0, locals := 21 }) s m ([.ref (Ta 0)].toArray) below meth c H locs 0 0 (MQ below (QW (fun (v : Option Value) (u : (Int32) × (Int32) × (Int32)) => match u with | (o1, o2, o3) => v = none ∧ (0 ≤ ((Tv 0) : Int32).toInt ∧ ((Tv 0) : Int32).toInt ≤ 400 ∧ 0 ≤ (o1 : Int32).toInt ∧ (o1 : Int32).toInt ≤ 400 ∧ 0 ≤ (o2 : Int32).toInt ∧ (o2 : Int32).toInt ≤ 400)) (BW D (fun (u : (Int32) × (Int32) × (Int32)) => match u with | (o1, o2, o3) => [((Ta 0), .inr (10, [.ref (Ta 1), .int (Tv 0), .int o1, .int o2, .int o3, .int (Tv 4)])), ((Ta 1), .inl (tc 0, 400, .inl (Tf 1)))]) A) A) ([.ref (Ta 0)].toArray) s 0 0 A) (F0 m 134 ls []) := by
                intro n_129
                induction n_129 with
                | zero =>
                  intro vy_128 H locs ls h1 h2
                  exact absurd h2 (Nat.not_lt_zero _)
                | succ n_129 ih_130 =>
                  intro vy_128 H locs ls hi_133 hn_134 hv_132 hP hD hS hl
                  refine lv_aload_n hx hb dX10_step_134 rfl (lv_at hl 0 rfl) ?_
                  refine gf_X10_22 hx hb hts hown hK hP 0 rfl rfl dX10_step_135 ?_
                  refine lv_aload_n hx hb dX10_step_138 rfl (lv_at hl 0 rfl) ?_
                  refine gf_X10_15 hx hb hts hown hK hP 0 rfl rfl dX10_step_139 ?_
                  refine lv_icmp_ge (tgt := 242) hx hb dX10_step_142 (by decide) (fun c_135 => ?_) (fun c_135 => ?_)
                  · skip
                    have hq_136 : 0 ≤ ((Tv 0) : Int32).toInt ∧ ((Tv 0) : Int32).toInt ≤ 400 ∧ 0 ≤ (vy_2 : Int32).toInt ∧ (vy_2 : Int32).toInt ≤ 400 ∧ 0 ≤ (vy_128 : Int32).toInt ∧ (vy_128 : Int32).toInt ≤ 400 := by
                      have z_1 := Int32.le_iff_toInt_le.mp c_9
                      have z_2 := congrArg Int32.toInt c_10
                      have z_3 := congrArg Int32.toInt c_89
                      have z_4 : ¬ (r_93 : Int32).toInt = (0 : Int32).toInt := fun z => c_95 (Int32.toInt_inj.mp z)
                      have z_5 := Int32.le_iff_toInt_le.mp c_135
                      have y_0 : (0 : Int32).toInt = 0 := by decide
                      first | assumption | omega
                    exact retV hx hb hr hlk hP hD hS (vy_2, vy_128, r_82) ⟨rfl, hq_136⟩ [0, 1] rfl rfl dX10_step_242 (Nat.le_of_ble_eq_true rfl) (Nat.le_of_ble_eq_true rfl) rfl
                  · skip
                    refine lv_aload_n hx hb dX10_step_145 rfl (lv_at hl 0 rfl) ?_
                    refine lv_aload_n hx hb dX10_step_146 rfl (lv_at hl 0 rfl) ?_
                    refine gf_X10_22 hx hb hts hown hK hP 0 rfl rfl dX10_step_147 ?_
                    refine cV (a := (Ta 0)) (As := [.int vy_128]) (rest := []) (wr := []) ⟨hx, hb, hml, hown, hts⟩ hK hX hA (cu_X10_byteAt l D tc sk (Ta 0) (Ta 1) (Tv 0) vy_2 vy_128 r_82 (Tv 4) (Tf 1) vy_128) k_482 k_479 k_481 k_0 k_96 pl_X10_byteAt ⟨Nat.le_of_ble_eq_true rfl, Nat.le_of_ble_eq_true rfl⟩ rfl rfl (va_recv hK hP (ci := 10) (q0 := 0) rfl rfl) hP hD hS [0, 1] [] rfl rfl rfl rfl rfl (by decide) rfl hl.1 rfl (Nat.le_of_ble_eq_true rfl) dX10_step_150 ⟨Nat.le_of_ble_eq_true rfl, Nat.le_of_ble_eq_true rfl⟩ (fun v_137 u_138 H locs hv_139 hP hD hS => ?_)
                    obtain ⟨r_140, rfl, he_141⟩ := hv_139
                    have he_141 : ((r_140.toInt = -1 ∨ (0 ≤ vy_128.toInt ∧ vy_128.toInt < (Tv 0).toInt ∧ vy_128.toInt < 400))) := he_141
                    refine W.eq (g2 := F0 m 153 ls [.int r_140]) rfl ?_
                    have hP : va_P D classes [((Ta 0), .inr (10, [.ref (Ta 1), .int (Tv 0), .int vy_2, .int vy_128, .int r_82, .int (Tv 4)])), ((Ta 1), .inl (tc 0, 400, .inl (Tf 1)))] H := hP
                    have hD : va_D A [((Ta 0), .inr (10, [.ref (Ta 1), .int (Tv 0), .int vy_2, .int vy_128, .int r_82, .int (Tv 4)])), ((Ta 1), .inl (tc 0, 400, .inl (Tf 1)))] := hD
                    refine cS (As := [.int r_140]) (rest := []) (wr := [((Ta 0), .inr (10, [.ref (Ta 1), .int (Tv 0), .int vy_2, .int vy_128, .int r_82, .int (Tv 4)])), ((Ta 1), .inl (tc 0, 400, .inl (Tf 1)))]) ⟨hx, hb, hml, hown, hts⟩ hK hX hA (ct_X10_isDigit l D tc sk r_140) k_488 k_486 k_487 k_96 pl_X10_isDigit ⟨Nat.le_of_ble_eq_true rfl, Nat.le_of_ble_eq_true rfl⟩ rfl rfl  hP hD hS [] [0, 1] rfl rfl rfl rfl rfl (by decide) rfl hl.1 rfl (Nat.le_of_ble_eq_true rfl) dX10_step_153 ⟨Nat.le_of_ble_eq_true rfl, Nat.le_of_ble_eq_true rfl⟩ (fun v_142 u_143 H locs hv_144 hP hD hS => ?_)
                    obtain ⟨r_145, rfl, he_146⟩ := hv_144
                    have he_146 : ((r_145.toInt = 0 ∨ r_145.toInt = 1)) := he_146
                    refine W.eq (g2 := F0 m 156 ls [.int r_145]) rfl ?_
                    have hP : va_P D classes [((Ta 0), .inr (10, [.ref (Ta 1), .int (Tv 0), .int vy_2, .int vy_128, .int r_82, .int (Tv 4)])), ((Ta 1), .inl (tc 0, 400, .inl (Tf 1)))] H := hP
                    have hD : va_D A [((Ta 0), .inr (10, [.ref (Ta 1), .int (Tv 0), .int vy_2, .int vy_128, .int r_82, .int (Tv 4)])), ((Ta 1), .inl (tc 0, 400, .inl (Tf 1)))] := hD
                    refine lv_if_eq (tgt := 242) hx hb dX10_step_156 (by decide) (fun c_147 => ?_) (fun c_147 => ?_)
                    · skip
                      have hq_148 : 0 ≤ ((Tv 0) : Int32).toInt ∧ ((Tv 0) : Int32).toInt ≤ 400 ∧ 0 ≤ (vy_2 : Int32).toInt ∧ (vy_2 : Int32).toInt ≤ 400 ∧ 0 ≤ (vy_128 : Int32).toInt ∧ (vy_128 : Int32).toInt ≤ 400 := by
                        have z_1 := Int32.le_iff_toInt_le.mp c_9
                        have z_2 := congrArg Int32.toInt c_10
                        have z_3 := congrArg Int32.toInt c_89
                        have z_4 : ¬ (r_93 : Int32).toInt = (0 : Int32).toInt := fun z => c_95 (Int32.toInt_inj.mp z)
                        have z_5 := Int32.lt_iff_toInt_lt.mp (Int32.not_le.mp c_135)
                        have z_6 := congrArg Int32.toInt c_147
                        have y_0 : (0 : Int32).toInt = 0 := by decide
                        first | assumption | omega
                      exact retV hx hb hr hlk hP hD hS (vy_2, vy_128, r_82) ⟨rfl, hq_148⟩ [0, 1] rfl rfl dX10_step_242 (Nat.le_of_ble_eq_true rfl) (Nat.le_of_ble_eq_true rfl) rfl
                    · skip
                      refine lv_aload_n hx hb dX10_step_159 rfl (lv_at hl 0 rfl) ?_
                      refine lv_dup hx hb dX10_step_160 rfl ?_
                      refine gf_X10_22 hx hb hts hown hK hP 0 rfl rfl dX10_step_161 ?_
                      refine lv_iconst (v := 1) hx hb dX10_step_164 (by decide) ?_
                      refine lv_iadd hx hb dX10_step_165 ?_
                      refine lv_topi (fun x_149 ex_149 => ?_)
                      refine pf_X10_22 hx hb hts hown hK hP hD hS 0 rfl (Nat.le_of_ble_eq_true rfl) rfl rfl dX10_step_166 (fun H locs hP hD hS => ?_)
                      have hP : va_P D classes [((Ta 0), .inr (10, [.ref (Ta 1), .int (Tv 0), .int vy_2, .int x_149, .int r_82, .int (Tv 4)])), ((Ta 1), .inl (tc 0, 400, .inl (Tf 1)))] H := hP
                      have hD : va_D A [((Ta 0), .inr (10, [.ref (Ta 1), .int (Tv 0), .int vy_2, .int x_149, .int r_82, .int (Tv 4)])), ((Ta 1), .inl (tc 0, 400, .inl (Tf 1)))] := hD
                      refine lv_goto (tgt := 134) hx hb dX10_step_169 (by decide) ?_
                      have hb_150 : 0 ≤ (x_149 : Int32).toInt ∧ (400 - (x_149 : Int32).toInt).toNat < n_129 := by
                        have z_1 := Int32.le_iff_toInt_le.mp c_9
                        have z_2 := congrArg Int32.toInt c_10
                        have z_3 := congrArg Int32.toInt c_89
                        have z_4 : ¬ (r_93 : Int32).toInt = (0 : Int32).toInt := fun z => c_95 (Int32.toInt_inj.mp z)
                        have z_5 := Int32.lt_iff_toInt_lt.mp (Int32.not_le.mp c_135)
                        have z_6 : ¬ (r_145 : Int32).toInt = (0 : Int32).toInt := fun z => c_147 (Int32.toInt_inj.mp z)
                        have y_0 : (0 : Int32).toInt = 0 := by decide
                        have y_1 : (1 : Int32).toInt = 1 := by decide
                        have t_x_149 : x_149.toInt = (vy_128 : Int32).toInt + (1 : Int32).toInt := by rw [ex_149]; exact add_toInt (by omega) (by omega)
                        omega
                      have hv_151 : (x_149 : Int32).toInt ≤ 400 := by
                        have z_1 := Int32.le_iff_toInt_le.mp c_9
                        have z_2 := congrArg Int32.toInt c_10
                        have z_3 := congrArg Int32.toInt c_89
                        have z_4 : ¬ (r_93 : Int32).toInt = (0 : Int32).toInt := fun z => c_95 (Int32.toInt_inj.mp z)
                        have z_5 := Int32.lt_iff_toInt_lt.mp (Int32.not_le.mp c_135)
                        have z_6 : ¬ (r_145 : Int32).toInt = (0 : Int32).toInt := fun z => c_147 (Int32.toInt_inj.mp z)
                        have y_0 : (0 : Int32).toInt = 0 := by decide
                        have y_1 : (1 : Int32).toInt = 1 := by decide
                        have t_x_149 : x_149.toInt = (vy_128 : Int32).toInt + (1 : Int32).toInt := by rw [ex_149]; exact add_toInt (by omega) (by omega)
                        omega
                      exact ih_130 x_149 _ _ _ hb_150.1 hb_150.2 hv_151 (hP.sub [0, 1] rfl) (hD.sub [0, 1] rfl rfl) hS (lv_sub hl [0] rfl)
              have h0_152 : 0 ≤ (vy_2 : Int32).toInt := by
                have z_1 := Int32.le_iff_toInt_le.mp c_9
                have z_2 := congrArg Int32.toInt c_10
                have z_3 := congrArg Int32.toInt c_89
                have z_4 : ¬ (r_93 : Int32).toInt = (0 : Int32).toInt := fun z => c_95 (Int32.toInt_inj.mp z)
                have y_0 : (0 : Int32).toInt = 0 := by decide
                omega
              have hv_153 : (vy_2 : Int32).toInt ≤ 400 := by
                have z_1 := Int32.le_iff_toInt_le.mp c_9
                have z_2 := congrArg Int32.toInt c_10
                have z_3 := congrArg Int32.toInt c_89
                have z_4 : ¬ (r_93 : Int32).toInt = (0 : Int32).toInt := fun z => c_95 (Int32.toInt_inj.mp z)
                have y_0 : (0 : Int32).toInt = 0 := by decide
                omega
              exact loop_131 _ vy_2 _ _ _ h0_152 (Nat.lt_succ_self _) hv_153 hP hD hS hl
          · skip
            have loop_158 : ∀ (n_156 : Nat) (vy_155 : Int32) (H : Heap) (locs : List Loc) (ls : Array Slot), 0 ≤ (vy_155 : Int32).toInt → (400 - (vy_155 : Int32).toInt).toNat < n_156 → (vy_155 : Int32).toInt ≤ 400 → va_P D classes [((Ta 0), .inr (10, [.ref (Ta 1), .int (Tv 0), .int vy_2, .int vy_155, .int r_82, .int (Tv 4)])), ((Ta 1), .inl (tc 0, 400, .inl (Tf 1)))] H → va_D A [((Ta 0), .inr (10, [.ref (Ta 1), .int (Tv 0), .int vy_2, .int vy_155, .int r_82, .int (Tv 4)])), ((Ta 1), .inl (tc 0, 400, .inl (Tf 1)))] → va_S A s.heap H locs → lv_has ls 2 [(0, .ref (Ta 0))] → W p l e ({ frames := 1, cells := 0, slots := 0, locals := 21 }) s m ([.ref (Ta 0)].toArray) below meth c H locs 0 0 (MQ below (QW (fun (v : Option Value) (u : (Int32) × (Int32) × (Int32)) => match u with | (o1, o2, o3) => v = none ∧ (0 ≤ ((Tv 0) : Int32).toInt ∧ ((Tv 0) : Int32).toInt ≤ 400 ∧ 0 ≤ (o1 : Int32).toInt ∧ (o1 : Int32).toInt ≤ 400 ∧ 0 ≤ (o2 : Int32).toInt ∧ (o2 : Int32).toInt ≤ 400)) (BW D (fun (u : (Int32) × (Int32) × (Int32)) => match u with | (o1, o2, o3) => [((Ta 0), .inr (10, [.ref (Ta 1), .int (Tv 0), .int o1, .int o2, .int o3, .int (Tv 4)])), ((Ta 1), .inl (tc 0, 400, .inl (Tf 1)))]) A) A) ([.ref (Ta 0)].toArray) s 0 0 A) (F0 m 86 ls []) := by
              intro n_156
              induction n_156 with
              | zero =>
                intro vy_155 H locs ls h1 h2
                exact absurd h2 (Nat.not_lt_zero _)
              | succ n_156 ih_157 =>
                intro vy_155 H locs ls hi_160 hn_161 hv_159 hP hD hS hl
                refine lv_aload_n hx hb dX10_step_86 rfl (lv_at hl 0 rfl) ?_
                refine gf_X10_22 hx hb hts hown hK hP 0 rfl rfl dX10_step_87 ?_
                refine lv_aload_n hx hb dX10_step_90 rfl (lv_at hl 0 rfl) ?_
                refine gf_X10_15 hx hb hts hown hK hP 0 rfl rfl dX10_step_91 ?_
                refine lv_icmp_ge (tgt := 242) hx hb dX10_step_94 (by decide) (fun c_162 => ?_) (fun c_162 => ?_)
                · skip
                  have hq_163 : 0 ≤ ((Tv 0) : Int32).toInt ∧ ((Tv 0) : Int32).toInt ≤ 400 ∧ 0 ≤ (vy_2 : Int32).toInt ∧ (vy_2 : Int32).toInt ≤ 400 ∧ 0 ≤ (vy_155 : Int32).toInt ∧ (vy_155 : Int32).toInt ≤ 400 := by
                    have z_1 := Int32.le_iff_toInt_le.mp c_9
                    have z_2 := congrArg Int32.toInt c_10
                    have z_3 : ¬ (r_87 : Int32).toInt = (0 : Int32).toInt := fun z => c_89 (Int32.toInt_inj.mp z)
                    have z_4 := Int32.le_iff_toInt_le.mp c_162
                    have y_0 : (0 : Int32).toInt = 0 := by decide
                    first | assumption | omega
                  exact retV hx hb hr hlk hP hD hS (vy_2, vy_155, r_82) ⟨rfl, hq_163⟩ [0, 1] rfl rfl dX10_step_242 (Nat.le_of_ble_eq_true rfl) (Nat.le_of_ble_eq_true rfl) rfl
                · skip
                  refine lv_aload_n hx hb dX10_step_97 rfl (lv_at hl 0 rfl) ?_
                  refine lv_aload_n hx hb dX10_step_98 rfl (lv_at hl 0 rfl) ?_
                  refine gf_X10_22 hx hb hts hown hK hP 0 rfl rfl dX10_step_99 ?_
                  refine cV (a := (Ta 0)) (As := [.int vy_155]) (rest := []) (wr := []) ⟨hx, hb, hml, hown, hts⟩ hK hX hA (cu_X10_byteAt l D tc sk (Ta 0) (Ta 1) (Tv 0) vy_2 vy_155 r_82 (Tv 4) (Tf 1) vy_155) k_482 k_479 k_481 k_0 k_96 pl_X10_byteAt ⟨Nat.le_of_ble_eq_true rfl, Nat.le_of_ble_eq_true rfl⟩ rfl rfl (va_recv hK hP (ci := 10) (q0 := 0) rfl rfl) hP hD hS [0, 1] [] rfl rfl rfl rfl rfl (by decide) rfl hl.1 rfl (Nat.le_of_ble_eq_true rfl) dX10_step_102 ⟨Nat.le_of_ble_eq_true rfl, Nat.le_of_ble_eq_true rfl⟩ (fun v_164 u_165 H locs hv_166 hP hD hS => ?_)
                  obtain ⟨r_167, rfl, he_168⟩ := hv_166
                  have he_168 : ((r_167.toInt = -1 ∨ (0 ≤ vy_155.toInt ∧ vy_155.toInt < (Tv 0).toInt ∧ vy_155.toInt < 400))) := he_168
                  refine W.eq (g2 := F0 m 105 ls [.int r_167]) rfl ?_
                  have hP : va_P D classes [((Ta 0), .inr (10, [.ref (Ta 1), .int (Tv 0), .int vy_2, .int vy_155, .int r_82, .int (Tv 4)])), ((Ta 1), .inl (tc 0, 400, .inl (Tf 1)))] H := hP
                  have hD : va_D A [((Ta 0), .inr (10, [.ref (Ta 1), .int (Tv 0), .int vy_2, .int vy_155, .int r_82, .int (Tv 4)])), ((Ta 1), .inl (tc 0, 400, .inl (Tf 1)))] := hD
                  refine cS (As := [.int r_167]) (rest := []) (wr := [((Ta 0), .inr (10, [.ref (Ta 1), .int (Tv 0), .int vy_2, .int vy_155, .int r_82, .int (Tv 4)])), ((Ta 1), .inl (tc 0, 400, .inl (Tf 1)))]) ⟨hx, hb, hml, hown, hts⟩ hK hX hA (ct_X10_isLetter l D tc sk r_167) k_485 k_483 k_484 k_96 pl_X10_isLetter ⟨Nat.le_of_ble_eq_true rfl, Nat.le_of_ble_eq_true rfl⟩ rfl rfl  hP hD hS [] [0, 1] rfl rfl rfl rfl rfl (by decide) rfl hl.1 rfl (Nat.le_of_ble_eq_true rfl) dX10_step_105 ⟨Nat.le_of_ble_eq_true rfl, Nat.le_of_ble_eq_true rfl⟩ (fun v_169 u_170 H locs hv_171 hP hD hS => ?_)
                  obtain ⟨r_172, rfl, he_173⟩ := hv_171
                  have he_173 : ((r_172.toInt = 0 ∨ r_172.toInt = 1)) := he_173
                  refine W.eq (g2 := F0 m 108 ls [.int r_172]) rfl ?_
                  have hP : va_P D classes [((Ta 0), .inr (10, [.ref (Ta 1), .int (Tv 0), .int vy_2, .int vy_155, .int r_82, .int (Tv 4)])), ((Ta 1), .inl (tc 0, 400, .inl (Tf 1)))] H := hP
                  have hD : va_D A [((Ta 0), .inr (10, [.ref (Ta 1), .int (Tv 0), .int vy_2, .int vy_155, .int r_82, .int (Tv 4)])), ((Ta 1), .inl (tc 0, 400, .inl (Tf 1)))] := hD
                  refine lv_if_eq (tgt := 242) hx hb dX10_step_108 (by decide) (fun c_174 => ?_) (fun c_174 => ?_)
                  · skip
                    have hq_175 : 0 ≤ ((Tv 0) : Int32).toInt ∧ ((Tv 0) : Int32).toInt ≤ 400 ∧ 0 ≤ (vy_2 : Int32).toInt ∧ (vy_2 : Int32).toInt ≤ 400 ∧ 0 ≤ (vy_155 : Int32).toInt ∧ (vy_155 : Int32).toInt ≤ 400 := by
                      have z_1 := Int32.le_iff_toInt_le.mp c_9
                      have z_2 := congrArg Int32.toInt c_10
                      have z_3 : ¬ (r_87 : Int32).toInt = (0 : Int32).toInt := fun z => c_89 (Int32.toInt_inj.mp z)
                      have z_4 := Int32.lt_iff_toInt_lt.mp (Int32.not_le.mp c_162)
                      have z_5 := congrArg Int32.toInt c_174
                      have y_0 : (0 : Int32).toInt = 0 := by decide
                      first | assumption | omega
                    exact retV hx hb hr hlk hP hD hS (vy_2, vy_155, r_82) ⟨rfl, hq_175⟩ [0, 1] rfl rfl dX10_step_242 (Nat.le_of_ble_eq_true rfl) (Nat.le_of_ble_eq_true rfl) rfl
                  · skip
                    refine lv_aload_n hx hb dX10_step_111 rfl (lv_at hl 0 rfl) ?_
                    refine lv_dup hx hb dX10_step_112 rfl ?_
                    refine gf_X10_22 hx hb hts hown hK hP 0 rfl rfl dX10_step_113 ?_
                    refine lv_iconst (v := 1) hx hb dX10_step_116 (by decide) ?_
                    refine lv_iadd hx hb dX10_step_117 ?_
                    refine lv_topi (fun x_176 ex_176 => ?_)
                    refine pf_X10_22 hx hb hts hown hK hP hD hS 0 rfl (Nat.le_of_ble_eq_true rfl) rfl rfl dX10_step_118 (fun H locs hP hD hS => ?_)
                    have hP : va_P D classes [((Ta 0), .inr (10, [.ref (Ta 1), .int (Tv 0), .int vy_2, .int x_176, .int r_82, .int (Tv 4)])), ((Ta 1), .inl (tc 0, 400, .inl (Tf 1)))] H := hP
                    have hD : va_D A [((Ta 0), .inr (10, [.ref (Ta 1), .int (Tv 0), .int vy_2, .int x_176, .int r_82, .int (Tv 4)])), ((Ta 1), .inl (tc 0, 400, .inl (Tf 1)))] := hD
                    refine lv_goto (tgt := 86) hx hb dX10_step_121 (by decide) ?_
                    have hb_177 : 0 ≤ (x_176 : Int32).toInt ∧ (400 - (x_176 : Int32).toInt).toNat < n_156 := by
                      have z_1 := Int32.le_iff_toInt_le.mp c_9
                      have z_2 := congrArg Int32.toInt c_10
                      have z_3 : ¬ (r_87 : Int32).toInt = (0 : Int32).toInt := fun z => c_89 (Int32.toInt_inj.mp z)
                      have z_4 := Int32.lt_iff_toInt_lt.mp (Int32.not_le.mp c_162)
                      have z_5 : ¬ (r_172 : Int32).toInt = (0 : Int32).toInt := fun z => c_174 (Int32.toInt_inj.mp z)
                      have y_0 : (0 : Int32).toInt = 0 := by decide
                      have y_1 : (1 : Int32).toInt = 1 := by decide
                      have t_x_176 : x_176.toInt = (vy_155 : Int32).toInt + (1 : Int32).toInt := by rw [ex_176]; exact add_toInt (by omega) (by omega)
                      omega
                    have hv_178 : (x_176 : Int32).toInt ≤ 400 := by
                      have z_1 := Int32.le_iff_toInt_le.mp c_9
                      have z_2 := congrArg Int32.toInt c_10
                      have z_3 : ¬ (r_87 : Int32).toInt = (0 : Int32).toInt := fun z => c_89 (Int32.toInt_inj.mp z)
                      have z_4 := Int32.lt_iff_toInt_lt.mp (Int32.not_le.mp c_162)
                      have z_5 : ¬ (r_172 : Int32).toInt = (0 : Int32).toInt := fun z => c_174 (Int32.toInt_inj.mp z)
                      have y_0 : (0 : Int32).toInt = 0 := by decide
                      have y_1 : (1 : Int32).toInt = 1 := by decide
                      have t_x_176 : x_176.toInt = (vy_155 : Int32).toInt + (1 : Int32).toInt := by rw [ex_176]; exact add_toInt (by omega) (by omega)
                      omega
                    exact ih_157 x_176 _ _ _ hb_177.1 hb_177.2 hv_178 (hP.sub [0, 1] rfl) (hD.sub [0, 1] rfl rfl) hS (lv_sub hl [0] rfl)
            have h0_179 : 0 ≤ (vy_2 : Int32).toInt := by
              have z_1 := Int32.le_iff_toInt_le.mp c_9
              have z_2 := congrArg Int32.toInt c_10
              have z_3 : ¬ (r_87 : Int32).toInt = (0 : Int32).toInt := fun z => c_89 (Int32.toInt_inj.mp z)
              have y_0 : (0 : Int32).toInt = 0 := by decide
              omega
            have hv_180 : (vy_2 : Int32).toInt ≤ 400 := by
              have z_1 := Int32.le_iff_toInt_le.mp c_9
              have z_2 := congrArg Int32.toInt c_10
              have z_3 : ¬ (r_87 : Int32).toInt = (0 : Int32).toInt := fun z => c_89 (Int32.toInt_inj.mp z)
              have y_0 : (0 : Int32).toInt = 0 := by decide
              omega
            exact loop_158 _ vy_2 _ _ _ h0_179 (Nat.lt_succ_self _) hv_180 hP hD hS hl
      · skip
        refine lv_aload_n hx hb dX10_step_19 rfl (lv_at hl 0 rfl) ?_
        refine lv_aload_n hx hb dX10_step_20 rfl (lv_at hl 0 rfl) ?_
        refine gf_X10_19 hx hb hts hown hK hP 0 rfl rfl dX10_step_21 ?_
        refine cV (a := (Ta 0)) (As := [.int vy_2]) (rest := []) (wr := []) ⟨hx, hb, hml, hown, hts⟩ hK hX hA (cu_X10_byteAt l D tc sk (Ta 0) (Ta 1) (Tv 0) vy_2 (Tv 2) (Tv 3) (Tv 4) (Tf 1) vy_2) k_482 k_479 k_481 k_0 k_96 pl_X10_byteAt ⟨Nat.le_of_ble_eq_true rfl, Nat.le_of_ble_eq_true rfl⟩ rfl rfl (va_recv hK hP (ci := 10) (q0 := 0) rfl rfl) hP hD hS [0, 1] [] rfl rfl rfl rfl rfl (by decide) rfl hl.1 rfl (Nat.le_of_ble_eq_true rfl) dX10_step_24 ⟨Nat.le_of_ble_eq_true rfl, Nat.le_of_ble_eq_true rfl⟩ (fun v_181 u_182 H locs hv_183 hP hD hS => ?_)
        obtain ⟨r_184, rfl, he_185⟩ := hv_183
        have he_185 : ((r_184.toInt = -1 ∨ (0 ≤ vy_2.toInt ∧ vy_2.toInt < (Tv 0).toInt ∧ vy_2.toInt < 400))) := he_185
        refine W.eq (g2 := F0 m 27 ls [.int r_184]) rfl ?_
        have hP : va_P D classes [((Ta 0), .inr (10, [.ref (Ta 1), .int (Tv 0), .int vy_2, .int (Tv 2), .int (Tv 3), .int (Tv 4)])), ((Ta 1), .inl (tc 0, 400, .inl (Tf 1)))] H := hP
        have hD : va_D A [((Ta 0), .inr (10, [.ref (Ta 1), .int (Tv 0), .int vy_2, .int (Tv 2), .int (Tv 3), .int (Tv 4)])), ((Ta 1), .inl (tc 0, 400, .inl (Tf 1)))] := hD
        refine lv_bipush (v := 32) hx hb dX10_step_27 (by decide) ?_
        refine lv_icmp_ne (tgt := 45) hx hb dX10_step_29 (by decide) (fun c_186 => ?_) (fun c_186 => ?_)
        · skip
          refine lv_aload_n hx hb dX10_step_45 rfl (lv_at hl 0 rfl) ?_
          refine lv_aload_n hx hb dX10_step_46 rfl (lv_at hl 0 rfl) ?_
          refine gf_X10_19 hx hb hts hown hK hP 0 rfl rfl dX10_step_47 ?_
          refine pf_X10_22 hx hb hts hown hK hP hD hS 0 rfl (Nat.le_of_ble_eq_true rfl) rfl rfl dX10_step_50 (fun H locs hP hD hS => ?_)
          have hP : va_P D classes [((Ta 0), .inr (10, [.ref (Ta 1), .int (Tv 0), .int vy_2, .int vy_2, .int (Tv 3), .int (Tv 4)])), ((Ta 1), .inl (tc 0, 400, .inl (Tf 1)))] H := hP
          have hD : va_D A [((Ta 0), .inr (10, [.ref (Ta 1), .int (Tv 0), .int vy_2, .int vy_2, .int (Tv 3), .int (Tv 4)])), ((Ta 1), .inl (tc 0, 400, .inl (Tf 1)))] := hD
          refine lv_aload_n hx hb dX10_step_53 rfl (lv_at hl 0 rfl) ?_
          refine lv_aload_n hx hb dX10_step_54 rfl (lv_at hl 0 rfl) ?_
          refine gf_X10_28 hx hb hts hown hK hP 0 rfl rfl dX10_step_55 ?_
          refine lv_if_ne (tgt := 72) hx hb dX10_step_58 (by decide) (fun c_187 => ?_) (fun c_187 => ?_)
          · skip
            refine lv_iconst (v := (-1)) hx hb dX10_step_72 (by decide) ?_
            refine pf_X10_25 hx hb hts hown hK hP hD hS 0 rfl (Nat.le_of_ble_eq_true rfl) rfl rfl dX10_step_73 (fun H locs hP hD hS => ?_)
            have hP : va_P D classes [((Ta 0), .inr (10, [.ref (Ta 1), .int (Tv 0), .int vy_2, .int vy_2, .int (-1), .int (Tv 4)])), ((Ta 1), .inl (tc 0, 400, .inl (Tf 1)))] H := hP
            have hD : va_D A [((Ta 0), .inr (10, [.ref (Ta 1), .int (Tv 0), .int vy_2, .int vy_2, .int (-1), .int (Tv 4)])), ((Ta 1), .inl (tc 0, 400, .inl (Tf 1)))] := hD
            refine lv_aload_n hx hb dX10_step_76 rfl (lv_at hl 0 rfl) ?_
            refine gf_X10_25 hx hb hts hown hK hP 0 rfl rfl dX10_step_77 ?_
            refine cS (As := [.int (-1)]) (rest := []) (wr := [((Ta 0), .inr (10, [.ref (Ta 1), .int (Tv 0), .int vy_2, .int vy_2, .int (-1), .int (Tv 4)])), ((Ta 1), .inl (tc 0, 400, .inl (Tf 1)))]) ⟨hx, hb, hml, hown, hts⟩ hK hX hA (ct_X10_isLetter l D tc sk (-1)) k_485 k_483 k_484 k_96 pl_X10_isLetter ⟨Nat.le_of_ble_eq_true rfl, Nat.le_of_ble_eq_true rfl⟩ rfl rfl  hP hD hS [] [0, 1] rfl rfl rfl rfl rfl (by decide) rfl hl.1 rfl (Nat.le_of_ble_eq_true rfl) dX10_step_80 ⟨Nat.le_of_ble_eq_true rfl, Nat.le_of_ble_eq_true rfl⟩ (fun v_188 u_189 H locs hv_190 hP hD hS => ?_)
            obtain ⟨r_191, rfl, he_192⟩ := hv_190
            have he_192 : ((r_191.toInt = 0 ∨ r_191.toInt = 1)) := he_192
            refine W.eq (g2 := F0 m 83 ls [.int r_191]) rfl ?_
            have hP : va_P D classes [((Ta 0), .inr (10, [.ref (Ta 1), .int (Tv 0), .int vy_2, .int vy_2, .int (-1), .int (Tv 4)])), ((Ta 1), .inl (tc 0, 400, .inl (Tf 1)))] H := hP
            have hD : va_D A [((Ta 0), .inr (10, [.ref (Ta 1), .int (Tv 0), .int vy_2, .int vy_2, .int (-1), .int (Tv 4)])), ((Ta 1), .inl (tc 0, 400, .inl (Tf 1)))] := hD
            refine lv_if_eq (tgt := 124) hx hb dX10_step_83 (by decide) (fun c_193 => ?_) (fun c_193 => ?_)
            · skip
              refine lv_aload_n hx hb dX10_step_124 rfl (lv_at hl 0 rfl) ?_
              refine gf_X10_25 hx hb hts hown hK hP 0 rfl rfl dX10_step_125 ?_
              refine cS (As := [.int (-1)]) (rest := []) (wr := [((Ta 0), .inr (10, [.ref (Ta 1), .int (Tv 0), .int vy_2, .int vy_2, .int (-1), .int (Tv 4)])), ((Ta 1), .inl (tc 0, 400, .inl (Tf 1)))]) ⟨hx, hb, hml, hown, hts⟩ hK hX hA (ct_X10_isDigit l D tc sk (-1)) k_488 k_486 k_487 k_96 pl_X10_isDigit ⟨Nat.le_of_ble_eq_true rfl, Nat.le_of_ble_eq_true rfl⟩ rfl rfl  hP hD hS [] [0, 1] rfl rfl rfl rfl rfl (by decide) rfl hl.1 rfl (Nat.le_of_ble_eq_true rfl) dX10_step_128 ⟨Nat.le_of_ble_eq_true rfl, Nat.le_of_ble_eq_true rfl⟩ (fun v_194 u_195 H locs hv_196 hP hD hS => ?_)
              obtain ⟨r_197, rfl, he_198⟩ := hv_196
              have he_198 : ((r_197.toInt = 0 ∨ r_197.toInt = 1)) := he_198
              refine W.eq (g2 := F0 m 131 ls [.int r_197]) rfl ?_
              have hP : va_P D classes [((Ta 0), .inr (10, [.ref (Ta 1), .int (Tv 0), .int vy_2, .int vy_2, .int (-1), .int (Tv 4)])), ((Ta 1), .inl (tc 0, 400, .inl (Tf 1)))] H := hP
              have hD : va_D A [((Ta 0), .inr (10, [.ref (Ta 1), .int (Tv 0), .int vy_2, .int vy_2, .int (-1), .int (Tv 4)])), ((Ta 1), .inl (tc 0, 400, .inl (Tf 1)))] := hD
              refine lv_if_eq (tgt := 172) hx hb dX10_step_131 (by decide) (fun c_199 => ?_) (fun c_199 => ?_)
              · skip
                refine lv_aload_n hx hb dX10_step_172 rfl (lv_at hl 0 rfl) ?_
                refine gf_X10_25 hx hb hts hown hK hP 0 rfl rfl dX10_step_173 ?_
                refine lv_iconst (v := (-1)) hx hb dX10_step_176 (by decide) ?_
                refine lv_icmp_eq (tgt := 242) hx hb dX10_step_177 (by decide) (fun c_200 => ?_) (fun c_200 => absurd c_200 (by decide))
                have hq_201 : 0 ≤ ((Tv 0) : Int32).toInt ∧ ((Tv 0) : Int32).toInt ≤ 400 ∧ 0 ≤ (vy_2 : Int32).toInt ∧ (vy_2 : Int32).toInt ≤ 400 ∧ 0 ≤ (vy_2 : Int32).toInt ∧ (vy_2 : Int32).toInt ≤ 400 := by
                  have z_1 := Int32.lt_iff_toInt_lt.mp (Int32.not_le.mp c_9)
                  have z_2 : ¬ (r_184 : Int32).toInt = (32 : Int32).toInt := fun z => c_186 (Int32.toInt_inj.mp z)
                  have z_3 : ¬ ((Tv 4) : Int32).toInt = (0 : Int32).toInt := fun z => c_187 (Int32.toInt_inj.mp z)
                  have z_4 := congrArg Int32.toInt c_193
                  have z_5 := congrArg Int32.toInt c_199
                  have y_0 : (0 : Int32).toInt = 0 := by decide
                  have y_32 : (32 : Int32).toInt = 32 := by decide
                  first | assumption | omega
                exact retV hx hb hr hlk hP hD hS (vy_2, vy_2, (-1)) ⟨rfl, hq_201⟩ [0, 1] rfl rfl dX10_step_242 (Nat.le_of_ble_eq_true rfl) (Nat.le_of_ble_eq_true rfl) rfl
              · skip
                have loop_206 : ∀ (n_204 : Nat) (vy_203 : Int32) (H : Heap) (locs : List Loc) (ls : Array Slot), 0 ≤ (vy_203 : Int32).toInt → (400 - (vy_203 : Int32).toInt).toNat < n_204 → (vy_203 : Int32).toInt ≤ 400 → va_P D classes [((Ta 0), .inr (10, [.ref (Ta 1), .int (Tv 0), .int vy_2, .int vy_203, .int (-1), .int (Tv 4)])), ((Ta 1), .inl (tc 0, 400, .inl (Tf 1)))] H → va_D A [((Ta 0), .inr (10, [.ref (Ta 1), .int (Tv 0), .int vy_2, .int vy_203, .int (-1), .int (Tv 4)])), ((Ta 1), .inl (tc 0, 400, .inl (Tf 1)))] → va_S A s.heap H locs → lv_has ls 2 [(0, .ref (Ta 0))] → W p l e ({ frames := 1, cells := 0, slots := 0, locals := 21 }) s m ([.ref (Ta 0)].toArray) below meth c H locs 0 0 (MQ below (QW (fun (v : Option Value) (u : (Int32) × (Int32) × (Int32)) => match u with | (o1, o2, o3) => v = none ∧ (0 ≤ ((Tv 0) : Int32).toInt ∧ ((Tv 0) : Int32).toInt ≤ 400 ∧ 0 ≤ (o1 : Int32).toInt ∧ (o1 : Int32).toInt ≤ 400 ∧ 0 ≤ (o2 : Int32).toInt ∧ (o2 : Int32).toInt ≤ 400)) (BW D (fun (u : (Int32) × (Int32) × (Int32)) => match u with | (o1, o2, o3) => [((Ta 0), .inr (10, [.ref (Ta 1), .int (Tv 0), .int o1, .int o2, .int o3, .int (Tv 4)])), ((Ta 1), .inl (tc 0, 400, .inl (Tf 1)))]) A) A) ([.ref (Ta 0)].toArray) s 0 0 A) (F0 m 134 ls []) := by
                  intro n_204
                  induction n_204 with
                  | zero =>
                    intro vy_203 H locs ls h1 h2
                    exact absurd h2 (Nat.not_lt_zero _)
                  | succ n_204 ih_205 =>
                    intro vy_203 H locs ls hi_208 hn_209 hv_207 hP hD hS hl
                    refine lv_aload_n hx hb dX10_step_134 rfl (lv_at hl 0 rfl) ?_
                    refine gf_X10_22 hx hb hts hown hK hP 0 rfl rfl dX10_step_135 ?_
                    refine lv_aload_n hx hb dX10_step_138 rfl (lv_at hl 0 rfl) ?_
                    refine gf_X10_15 hx hb hts hown hK hP 0 rfl rfl dX10_step_139 ?_
                    refine lv_icmp_ge (tgt := 242) hx hb dX10_step_142 (by decide) (fun c_210 => ?_) (fun c_210 => ?_)
                    · skip
                      have hq_211 : 0 ≤ ((Tv 0) : Int32).toInt ∧ ((Tv 0) : Int32).toInt ≤ 400 ∧ 0 ≤ (vy_2 : Int32).toInt ∧ (vy_2 : Int32).toInt ≤ 400 ∧ 0 ≤ (vy_203 : Int32).toInt ∧ (vy_203 : Int32).toInt ≤ 400 := by
                        have z_1 := Int32.lt_iff_toInt_lt.mp (Int32.not_le.mp c_9)
                        have z_2 : ¬ (r_184 : Int32).toInt = (32 : Int32).toInt := fun z => c_186 (Int32.toInt_inj.mp z)
                        have z_3 : ¬ ((Tv 4) : Int32).toInt = (0 : Int32).toInt := fun z => c_187 (Int32.toInt_inj.mp z)
                        have z_4 := congrArg Int32.toInt c_193
                        have z_5 : ¬ (r_197 : Int32).toInt = (0 : Int32).toInt := fun z => c_199 (Int32.toInt_inj.mp z)
                        have z_6 := Int32.le_iff_toInt_le.mp c_210
                        have y_0 : (0 : Int32).toInt = 0 := by decide
                        have y_32 : (32 : Int32).toInt = 32 := by decide
                        first | assumption | omega
                      exact retV hx hb hr hlk hP hD hS (vy_2, vy_203, (-1)) ⟨rfl, hq_211⟩ [0, 1] rfl rfl dX10_step_242 (Nat.le_of_ble_eq_true rfl) (Nat.le_of_ble_eq_true rfl) rfl
                    · skip
                      refine lv_aload_n hx hb dX10_step_145 rfl (lv_at hl 0 rfl) ?_
                      refine lv_aload_n hx hb dX10_step_146 rfl (lv_at hl 0 rfl) ?_
                      refine gf_X10_22 hx hb hts hown hK hP 0 rfl rfl dX10_step_147 ?_
                      refine cV (a := (Ta 0)) (As := [.int vy_203]) (rest := []) (wr := []) ⟨hx, hb, hml, hown, hts⟩ hK hX hA (cu_X10_byteAt l D tc sk (Ta 0) (Ta 1) (Tv 0) vy_2 vy_203 (-1) (Tv 4) (Tf 1) vy_203) k_482 k_479 k_481 k_0 k_96 pl_X10_byteAt ⟨Nat.le_of_ble_eq_true rfl, Nat.le_of_ble_eq_true rfl⟩ rfl rfl (va_recv hK hP (ci := 10) (q0 := 0) rfl rfl) hP hD hS [0, 1] [] rfl rfl rfl rfl rfl (by decide) rfl hl.1 rfl (Nat.le_of_ble_eq_true rfl) dX10_step_150 ⟨Nat.le_of_ble_eq_true rfl, Nat.le_of_ble_eq_true rfl⟩ (fun v_212 u_213 H locs hv_214 hP hD hS => ?_)
                      obtain ⟨r_215, rfl, he_216⟩ := hv_214
                      have he_216 : ((r_215.toInt = -1 ∨ (0 ≤ vy_203.toInt ∧ vy_203.toInt < (Tv 0).toInt ∧ vy_203.toInt < 400))) := he_216
                      refine W.eq (g2 := F0 m 153 ls [.int r_215]) rfl ?_
                      have hP : va_P D classes [((Ta 0), .inr (10, [.ref (Ta 1), .int (Tv 0), .int vy_2, .int vy_203, .int (-1), .int (Tv 4)])), ((Ta 1), .inl (tc 0, 400, .inl (Tf 1)))] H := hP
                      have hD : va_D A [((Ta 0), .inr (10, [.ref (Ta 1), .int (Tv 0), .int vy_2, .int vy_203, .int (-1), .int (Tv 4)])), ((Ta 1), .inl (tc 0, 400, .inl (Tf 1)))] := hD
                      refine cS (As := [.int r_215]) (rest := []) (wr := [((Ta 0), .inr (10, [.ref (Ta 1), .int (Tv 0), .int vy_2, .int vy_203, .int (-1), .int (Tv 4)])), ((Ta 1), .inl (tc 0, 400, .inl (Tf 1)))]) ⟨hx, hb, hml, hown, hts⟩ hK hX hA (ct_X10_isDigit l D tc sk r_215) k_488 k_486 k_487 k_96 pl_X10_isDigit ⟨Nat.le_of_ble_eq_true rfl, Nat.le_of_ble_eq_true rfl⟩ rfl rfl  hP hD hS [] [0, 1] rfl rfl rfl rfl rfl (by decide) rfl hl.1 rfl (Nat.le_of_ble_eq_true rfl) dX10_step_153 ⟨Nat.le_of_ble_eq_true rfl, Nat.le_of_ble_eq_true rfl⟩ (fun v_217 u_218 H locs hv_219 hP hD hS => ?_)
                      obtain ⟨r_220, rfl, he_221⟩ := hv_219
                      have he_221 : ((r_220.toInt = 0 ∨ r_220.toInt = 1)) := he_221
                      refine W.eq (g2 := F0 m 156 ls [.int r_220]) rfl ?_
                      have hP : va_P D classes [((Ta 0), .inr (10, [.ref (Ta 1), .int (Tv 0), .int vy_2, .int vy_203, .int (-1), .int (Tv 4)])), ((Ta 1), .inl (tc 0, 400, .inl (Tf 1)))] H := hP
                      have hD : va_D A [((Ta 0), .inr (10, [.ref (Ta 1), .int (Tv 0), .int vy_2, .int vy_203, .int (-1), .int (Tv 4)])), ((Ta 1), .inl (tc 0, 400, .inl (Tf 1)))] := hD
                      refine lv_if_eq (tgt := 242) hx hb dX10_step_156 (by decide) (fun c_222 => ?_) (fun c_222 => ?_)
                      · skip
                        have hq_223 : 0 ≤ ((Tv 0) : Int32).toInt ∧ ((Tv 0) : Int32).toInt ≤ 400 ∧ 0 ≤ (vy_2 : Int32).toInt ∧ (vy_2 : Int32).toInt ≤ 400 ∧ 0 ≤ (vy_203 : Int32).toInt ∧ (vy_203 : Int32).toInt ≤ 400 := by
                          have z_1 := Int32.lt_iff_toInt_lt.mp (Int32.not_le.mp c_9)
                          have z_2 : ¬ (r_184 : Int32).toInt = (32 : Int32).toInt := fun z => c_186 (Int32.toInt_inj.mp z)
                          have z_3 : ¬ ((Tv 4) : Int32).toInt = (0 : Int32).toInt := fun z => c_187 (Int32.toInt_inj.mp z)
                          have z_4 := congrArg Int32.toInt c_193
                          have z_5 : ¬ (r_197 : Int32).toInt = (0 : Int32).toInt := fun z => c_199 (Int32.toInt_inj.mp z)
                          have z_6 := Int32.lt_iff_toInt_lt.mp (Int32.not_le.mp c_210)
                          have z_7 := congrArg Int32.toInt c_222
                          have y_0 : (0 : Int32).toInt = 0 := by decide
                          have y_32 : (32 : Int32).toInt = 32 := by decide
                          first | assumption | omega
                        exact retV hx hb hr hlk hP hD hS (vy_2, vy_203, (-1)) ⟨rfl, hq_223⟩ [0, 1] rfl rfl dX10_step_242 (Nat.le_of_ble_eq_true rfl) (Nat.le_of_ble_eq_true rfl) rfl
                      · skip
                        refine lv_aload_n hx hb dX10_step_159 rfl (lv_at hl 0 rfl) ?_
                        refine lv_dup hx hb dX10_step_160 rfl ?_
                        refine gf_X10_22 hx hb hts hown hK hP 0 rfl rfl dX10_step_161 ?_
                        refine lv_iconst (v := 1) hx hb dX10_step_164 (by decide) ?_
                        refine lv_iadd hx hb dX10_step_165 ?_
                        refine lv_topi (fun x_224 ex_224 => ?_)
                        refine pf_X10_22 hx hb hts hown hK hP hD hS 0 rfl (Nat.le_of_ble_eq_true rfl) rfl rfl dX10_step_166 (fun H locs hP hD hS => ?_)
                        have hP : va_P D classes [((Ta 0), .inr (10, [.ref (Ta 1), .int (Tv 0), .int vy_2, .int x_224, .int (-1), .int (Tv 4)])), ((Ta 1), .inl (tc 0, 400, .inl (Tf 1)))] H := hP
                        have hD : va_D A [((Ta 0), .inr (10, [.ref (Ta 1), .int (Tv 0), .int vy_2, .int x_224, .int (-1), .int (Tv 4)])), ((Ta 1), .inl (tc 0, 400, .inl (Tf 1)))] := hD
                        refine lv_goto (tgt := 134) hx hb dX10_step_169 (by decide) ?_
                        have hb_225 : 0 ≤ (x_224 : Int32).toInt ∧ (400 - (x_224 : Int32).toInt).toNat < n_204 := by
                          have z_1 := Int32.lt_iff_toInt_lt.mp (Int32.not_le.mp c_9)
                          have z_2 : ¬ (r_184 : Int32).toInt = (32 : Int32).toInt := fun z => c_186 (Int32.toInt_inj.mp z)
                          have z_3 : ¬ ((Tv 4) : Int32).toInt = (0 : Int32).toInt := fun z => c_187 (Int32.toInt_inj.mp z)
                          have z_4 := congrArg Int32.toInt c_193
                          have z_5 : ¬ (r_197 : Int32).toInt = (0 : Int32).toInt := fun z => c_199 (Int32.toInt_inj.mp z)
                          have z_6 := Int32.lt_iff_toInt_lt.mp (Int32.not_le.mp c_210)
                          have z_7 : ¬ (r_220 : Int32).toInt = (0 : Int32).toInt := fun z => c_222 (Int32.toInt_inj.mp z)
                          have y_0 : (0 : Int32).toInt = 0 := by decide
                          have y_32 : (32 : Int32).toInt = 32 := by decide
                          have y_1 : (1 : Int32).toInt = 1 := by decide
                          have t_x_224 : x_224.toInt = (vy_203 : Int32).toInt + (1 : Int32).toInt := by rw [ex_224]; exact add_toInt (by omega) (by omega)
                          omega
                        have hv_226 : (x_224 : Int32).toInt ≤ 400 := by
                          have z_1 := Int32.lt_iff_toInt_lt.mp (Int32.not_le.mp c_9)
                          have z_2 : ¬ (r_184 : Int32).toInt = (32 : Int32).toInt := fun z => c_186 (Int32.toInt_inj.mp z)
                          have z_3 : ¬ ((Tv 4) : Int32).toInt = (0 : Int32).toInt := fun z => c_187 (Int32.toInt_inj.mp z)
                          have z_4 := congrArg Int32.toInt c_193
                          have z_5 : ¬ (r_197 : Int32).toInt = (0 : Int32).toInt := fun z => c_199 (Int32.toInt_inj.mp z)
                          have z_6 := Int32.lt_iff_toInt_lt.mp (Int32.not_le.mp c_210)
                          have z_7 : ¬ (r_220 : Int32).toInt = (0 : Int32).toInt := fun z => c_222 (Int32.toInt_inj.mp z)
                          have y_0 : (0 : Int32).toInt = 0 := by decide
                          have y_32 : (32 : Int32).toInt = 32 := by decide
                          have y_1 : (1 : Int32).toInt = 1 := by decide
                          have t_x_224 : x_224.toInt = (vy_203 : Int32).toInt + (1 : Int32).toInt := by rw [ex_224]; exact add_toInt (by omega) (by omega)
                          omega
                        exact ih_205 x_224 _ _ _ hb_225.1 hb_225.2 hv_226 (hP.sub [0, 1] rfl) (hD.sub [0, 1] rfl rfl) hS (lv_sub hl [0] rfl)
                have h0_227 : 0 ≤ (vy_2 : Int32).toInt := by
                  have z_1 := Int32.lt_iff_toInt_lt.mp (Int32.not_le.mp c_9)
                  have z_2 : ¬ (r_184 : Int32).toInt = (32 : Int32).toInt := fun z => c_186 (Int32.toInt_inj.mp z)
                  have z_3 : ¬ ((Tv 4) : Int32).toInt = (0 : Int32).toInt := fun z => c_187 (Int32.toInt_inj.mp z)
                  have z_4 := congrArg Int32.toInt c_193
                  have z_5 : ¬ (r_197 : Int32).toInt = (0 : Int32).toInt := fun z => c_199 (Int32.toInt_inj.mp z)
                  have y_0 : (0 : Int32).toInt = 0 := by decide
                  have y_32 : (32 : Int32).toInt = 32 := by decide
                  omega
                have hv_228 : (vy_2 : Int32).toInt ≤ 400 := by
                  have z_1 := Int32.lt_iff_toInt_lt.mp (Int32.not_le.mp c_9)
                  have z_2 : ¬ (r_184 : Int32).toInt = (32 : Int32).toInt := fun z => c_186 (Int32.toInt_inj.mp z)
                  have z_3 : ¬ ((Tv 4) : Int32).toInt = (0 : Int32).toInt := fun z => c_187 (Int32.toInt_inj.mp z)
                  have z_4 := congrArg Int32.toInt c_193
                  have z_5 : ¬ (r_197 : Int32).toInt = (0 : Int32).toInt := fun z => c_199 (Int32.toInt_inj.mp z)
                  have y_0 : (0 : Int32).toInt = 0 := by decide
                  have y_32 : (32 : Int32).toInt = 32 := by decide
                  omega
                exact loop_206 _ vy_2 _ _ _ h0_227 (Nat.lt_succ_self _) hv_228 hP hD hS hl
            · skip
              have loop_233 : ∀ (n_231 : Nat) (vy_230 : Int32) (H : Heap) (locs : List Loc) (ls : Array Slot), 0 ≤ (vy_230 : Int32).toInt → (400 - (vy_230 : Int32).toInt).toNat < n_231 → (vy_230 : Int32).toInt ≤ 400 → va_P D classes [((Ta 0), .inr (10, [.ref (Ta 1), .int (Tv 0), .int vy_2, .int vy_230, .int (-1), .int (Tv 4)])), ((Ta 1), .inl (tc 0, 400, .inl (Tf 1)))] H → va_D A [((Ta 0), .inr (10, [.ref (Ta 1), .int (Tv 0), .int vy_2, .int vy_230, .int (-1), .int (Tv 4)])), ((Ta 1), .inl (tc 0, 400, .inl (Tf 1)))] → va_S A s.heap H locs → lv_has ls 2 [(0, .ref (Ta 0))] → W p l e ({ frames := 1, cells := 0, slots := 0, locals := 21 }) s m ([.ref (Ta 0)].toArray) below meth c H locs 0 0 (MQ below (QW (fun (v : Option Value) (u : (Int32) × (Int32) × (Int32)) => match u with | (o1, o2, o3) => v = none ∧ (0 ≤ ((Tv 0) : Int32).toInt ∧ ((Tv 0) : Int32).toInt ≤ 400 ∧ 0 ≤ (o1 : Int32).toInt ∧ (o1 : Int32).toInt ≤ 400 ∧ 0 ≤ (o2 : Int32).toInt ∧ (o2 : Int32).toInt ≤ 400)) (BW D (fun (u : (Int32) × (Int32) × (Int32)) => match u with | (o1, o2, o3) => [((Ta 0), .inr (10, [.ref (Ta 1), .int (Tv 0), .int o1, .int o2, .int o3, .int (Tv 4)])), ((Ta 1), .inl (tc 0, 400, .inl (Tf 1)))]) A) A) ([.ref (Ta 0)].toArray) s 0 0 A) (F0 m 86 ls []) := by
                intro n_231
                induction n_231 with
                | zero =>
                  intro vy_230 H locs ls h1 h2
                  exact absurd h2 (Nat.not_lt_zero _)
                | succ n_231 ih_232 =>
                  intro vy_230 H locs ls hi_235 hn_236 hv_234 hP hD hS hl
                  refine lv_aload_n hx hb dX10_step_86 rfl (lv_at hl 0 rfl) ?_
                  refine gf_X10_22 hx hb hts hown hK hP 0 rfl rfl dX10_step_87 ?_
                  refine lv_aload_n hx hb dX10_step_90 rfl (lv_at hl 0 rfl) ?_
                  refine gf_X10_15 hx hb hts hown hK hP 0 rfl rfl dX10_step_91 ?_
                  refine lv_icmp_ge (tgt := 242) hx hb dX10_step_94 (by decide) (fun c_237 => ?_) (fun c_237 => ?_)
                  · skip
                    have hq_238 : 0 ≤ ((Tv 0) : Int32).toInt ∧ ((Tv 0) : Int32).toInt ≤ 400 ∧ 0 ≤ (vy_2 : Int32).toInt ∧ (vy_2 : Int32).toInt ≤ 400 ∧ 0 ≤ (vy_230 : Int32).toInt ∧ (vy_230 : Int32).toInt ≤ 400 := by
                      have z_1 := Int32.lt_iff_toInt_lt.mp (Int32.not_le.mp c_9)
                      have z_2 : ¬ (r_184 : Int32).toInt = (32 : Int32).toInt := fun z => c_186 (Int32.toInt_inj.mp z)
                      have z_3 : ¬ ((Tv 4) : Int32).toInt = (0 : Int32).toInt := fun z => c_187 (Int32.toInt_inj.mp z)
                      have z_4 : ¬ (r_191 : Int32).toInt = (0 : Int32).toInt := fun z => c_193 (Int32.toInt_inj.mp z)
                      have z_5 := Int32.le_iff_toInt_le.mp c_237
                      have y_0 : (0 : Int32).toInt = 0 := by decide
                      have y_32 : (32 : Int32).toInt = 32 := by decide
                      first | assumption | omega
                    exact retV hx hb hr hlk hP hD hS (vy_2, vy_230, (-1)) ⟨rfl, hq_238⟩ [0, 1] rfl rfl dX10_step_242 (Nat.le_of_ble_eq_true rfl) (Nat.le_of_ble_eq_true rfl) rfl
                  · skip
                    refine lv_aload_n hx hb dX10_step_97 rfl (lv_at hl 0 rfl) ?_
                    refine lv_aload_n hx hb dX10_step_98 rfl (lv_at hl 0 rfl) ?_
                    refine gf_X10_22 hx hb hts hown hK hP 0 rfl rfl dX10_step_99 ?_
                    refine cV (a := (Ta 0)) (As := [.int vy_230]) (rest := []) (wr := []) ⟨hx, hb, hml, hown, hts⟩ hK hX hA (cu_X10_byteAt l D tc sk (Ta 0) (Ta 1) (Tv 0) vy_2 vy_230 (-1) (Tv 4) (Tf 1) vy_230) k_482 k_479 k_481 k_0 k_96 pl_X10_byteAt ⟨Nat.le_of_ble_eq_true rfl, Nat.le_of_ble_eq_true rfl⟩ rfl rfl (va_recv hK hP (ci := 10) (q0 := 0) rfl rfl) hP hD hS [0, 1] [] rfl rfl rfl rfl rfl (by decide) rfl hl.1 rfl (Nat.le_of_ble_eq_true rfl) dX10_step_102 ⟨Nat.le_of_ble_eq_true rfl, Nat.le_of_ble_eq_true rfl⟩ (fun v_239 u_240 H locs hv_241 hP hD hS => ?_)
                    obtain ⟨r_242, rfl, he_243⟩ := hv_241
                    have he_243 : ((r_242.toInt = -1 ∨ (0 ≤ vy_230.toInt ∧ vy_230.toInt < (Tv 0).toInt ∧ vy_230.toInt < 400))) := he_243
                    refine W.eq (g2 := F0 m 105 ls [.int r_242]) rfl ?_
                    have hP : va_P D classes [((Ta 0), .inr (10, [.ref (Ta 1), .int (Tv 0), .int vy_2, .int vy_230, .int (-1), .int (Tv 4)])), ((Ta 1), .inl (tc 0, 400, .inl (Tf 1)))] H := hP
                    have hD : va_D A [((Ta 0), .inr (10, [.ref (Ta 1), .int (Tv 0), .int vy_2, .int vy_230, .int (-1), .int (Tv 4)])), ((Ta 1), .inl (tc 0, 400, .inl (Tf 1)))] := hD
                    refine cS (As := [.int r_242]) (rest := []) (wr := [((Ta 0), .inr (10, [.ref (Ta 1), .int (Tv 0), .int vy_2, .int vy_230, .int (-1), .int (Tv 4)])), ((Ta 1), .inl (tc 0, 400, .inl (Tf 1)))]) ⟨hx, hb, hml, hown, hts⟩ hK hX hA (ct_X10_isLetter l D tc sk r_242) k_485 k_483 k_484 k_96 pl_X10_isLetter ⟨Nat.le_of_ble_eq_true rfl, Nat.le_of_ble_eq_true rfl⟩ rfl rfl  hP hD hS [] [0, 1] rfl rfl rfl rfl rfl (by decide) rfl hl.1 rfl (Nat.le_of_ble_eq_true rfl) dX10_step_105 ⟨Nat.le_of_ble_eq_true rfl, Nat.le_of_ble_eq_true rfl⟩ (fun v_244 u_245 H locs hv_246 hP hD hS => ?_)
                    obtain ⟨r_247, rfl, he_248⟩ := hv_246
                    have he_248 : ((r_247.toInt = 0 ∨ r_247.toInt = 1)) := he_248
                    refine W.eq (g2 := F0 m 108 ls [.int r_247]) rfl ?_
                    have hP : va_P D classes [((Ta 0), .inr (10, [.ref (Ta 1), .int (Tv 0), .int vy_2, .int vy_230, .int (-1), .int (Tv 4)])), ((Ta 1), .inl (tc 0, 400, .inl (Tf 1)))] H := hP
                    have hD : va_D A [((Ta 0), .inr (10, [.ref (Ta 1), .int (Tv 0), .int vy_2, .int vy_230, .int (-1), .int (Tv 4)])), ((Ta 1), .inl (tc 0, 400, .inl (Tf 1)))] := hD
                    refine lv_if_eq (tgt := 242) hx hb dX10_step_108 (by decide) (fun c_249 => ?_) (fun c_249 => ?_)
                    · skip
                      have hq_250 : 0 ≤ ((Tv 0) : Int32).toInt ∧ ((Tv 0) : Int32).toInt ≤ 400 ∧ 0 ≤ (vy_2 : Int32).toInt ∧ (vy_2 : Int32).toInt ≤ 400 ∧ 0 ≤ (vy_230 : Int32).toInt ∧ (vy_230 : Int32).toInt ≤ 400 := by
                        have z_1 := Int32.lt_iff_toInt_lt.mp (Int32.not_le.mp c_9)
                        have z_2 : ¬ (r_184 : Int32).toInt = (32 : Int32).toInt := fun z => c_186 (Int32.toInt_inj.mp z)
                        have z_3 : ¬ ((Tv 4) : Int32).toInt = (0 : Int32).toInt := fun z => c_187 (Int32.toInt_inj.mp z)
                        have z_4 : ¬ (r_191 : Int32).toInt = (0 : Int32).toInt := fun z => c_193 (Int32.toInt_inj.mp z)
                        have z_5 := Int32.lt_iff_toInt_lt.mp (Int32.not_le.mp c_237)
                        have z_6 := congrArg Int32.toInt c_249
                        have y_0 : (0 : Int32).toInt = 0 := by decide
                        have y_32 : (32 : Int32).toInt = 32 := by decide
                        first | assumption | omega
                      exact retV hx hb hr hlk hP hD hS (vy_2, vy_230, (-1)) ⟨rfl, hq_250⟩ [0, 1] rfl rfl dX10_step_242 (Nat.le_of_ble_eq_true rfl) (Nat.le_of_ble_eq_true rfl) rfl
                    · skip
                      refine lv_aload_n hx hb dX10_step_111 rfl (lv_at hl 0 rfl) ?_
                      refine lv_dup hx hb dX10_step_112 rfl ?_
                      refine gf_X10_22 hx hb hts hown hK hP 0 rfl rfl dX10_step_113 ?_
                      refine lv_iconst (v := 1) hx hb dX10_step_116 (by decide) ?_
                      refine lv_iadd hx hb dX10_step_117 ?_
                      refine lv_topi (fun x_251 ex_251 => ?_)
                      refine pf_X10_22 hx hb hts hown hK hP hD hS 0 rfl (Nat.le_of_ble_eq_true rfl) rfl rfl dX10_step_118 (fun H locs hP hD hS => ?_)
                      have hP : va_P D classes [((Ta 0), .inr (10, [.ref (Ta 1), .int (Tv 0), .int vy_2, .int x_251, .int (-1), .int (Tv 4)])), ((Ta 1), .inl (tc 0, 400, .inl (Tf 1)))] H := hP
                      have hD : va_D A [((Ta 0), .inr (10, [.ref (Ta 1), .int (Tv 0), .int vy_2, .int x_251, .int (-1), .int (Tv 4)])), ((Ta 1), .inl (tc 0, 400, .inl (Tf 1)))] := hD
                      refine lv_goto (tgt := 86) hx hb dX10_step_121 (by decide) ?_
                      have hb_252 : 0 ≤ (x_251 : Int32).toInt ∧ (400 - (x_251 : Int32).toInt).toNat < n_231 := by
                        have z_1 := Int32.lt_iff_toInt_lt.mp (Int32.not_le.mp c_9)
                        have z_2 : ¬ (r_184 : Int32).toInt = (32 : Int32).toInt := fun z => c_186 (Int32.toInt_inj.mp z)
                        have z_3 : ¬ ((Tv 4) : Int32).toInt = (0 : Int32).toInt := fun z => c_187 (Int32.toInt_inj.mp z)
                        have z_4 : ¬ (r_191 : Int32).toInt = (0 : Int32).toInt := fun z => c_193 (Int32.toInt_inj.mp z)
                        have z_5 := Int32.lt_iff_toInt_lt.mp (Int32.not_le.mp c_237)
                        have z_6 : ¬ (r_247 : Int32).toInt = (0 : Int32).toInt := fun z => c_249 (Int32.toInt_inj.mp z)
                        have y_0 : (0 : Int32).toInt = 0 := by decide
                        have y_32 : (32 : Int32).toInt = 32 := by decide
                        have y_1 : (1 : Int32).toInt = 1 := by decide
                        have t_x_251 : x_251.toInt = (vy_230 : Int32).toInt + (1 : Int32).toInt := by rw [ex_251]; exact add_toInt (by omega) (by omega)
                        omega
                      have hv_253 : (x_251 : Int32).toInt ≤ 400 := by
                        have z_1 := Int32.lt_iff_toInt_lt.mp (Int32.not_le.mp c_9)
                        have z_2 : ¬ (r_184 : Int32).toInt = (32 : Int32).toInt := fun z => c_186 (Int32.toInt_inj.mp z)
                        have z_3 : ¬ ((Tv 4) : Int32).toInt = (0 : Int32).toInt := fun z => c_187 (Int32.toInt_inj.mp z)
                        have z_4 : ¬ (r_191 : Int32).toInt = (0 : Int32).toInt := fun z => c_193 (Int32.toInt_inj.mp z)
                        have z_5 := Int32.lt_iff_toInt_lt.mp (Int32.not_le.mp c_237)
                        have z_6 : ¬ (r_247 : Int32).toInt = (0 : Int32).toInt := fun z => c_249 (Int32.toInt_inj.mp z)
                        have y_0 : (0 : Int32).toInt = 0 := by decide
                        have y_32 : (32 : Int32).toInt = 32 := by decide
                        have y_1 : (1 : Int32).toInt = 1 := by decide
                        have t_x_251 : x_251.toInt = (vy_230 : Int32).toInt + (1 : Int32).toInt := by rw [ex_251]; exact add_toInt (by omega) (by omega)
                        omega
                      exact ih_232 x_251 _ _ _ hb_252.1 hb_252.2 hv_253 (hP.sub [0, 1] rfl) (hD.sub [0, 1] rfl rfl) hS (lv_sub hl [0] rfl)
              have h0_254 : 0 ≤ (vy_2 : Int32).toInt := by
                have z_1 := Int32.lt_iff_toInt_lt.mp (Int32.not_le.mp c_9)
                have z_2 : ¬ (r_184 : Int32).toInt = (32 : Int32).toInt := fun z => c_186 (Int32.toInt_inj.mp z)
                have z_3 : ¬ ((Tv 4) : Int32).toInt = (0 : Int32).toInt := fun z => c_187 (Int32.toInt_inj.mp z)
                have z_4 : ¬ (r_191 : Int32).toInt = (0 : Int32).toInt := fun z => c_193 (Int32.toInt_inj.mp z)
                have y_0 : (0 : Int32).toInt = 0 := by decide
                have y_32 : (32 : Int32).toInt = 32 := by decide
                omega
              have hv_255 : (vy_2 : Int32).toInt ≤ 400 := by
                have z_1 := Int32.lt_iff_toInt_lt.mp (Int32.not_le.mp c_9)
                have z_2 : ¬ (r_184 : Int32).toInt = (32 : Int32).toInt := fun z => c_186 (Int32.toInt_inj.mp z)
                have z_3 : ¬ ((Tv 4) : Int32).toInt = (0 : Int32).toInt := fun z => c_187 (Int32.toInt_inj.mp z)
                have z_4 : ¬ (r_191 : Int32).toInt = (0 : Int32).toInt := fun z => c_193 (Int32.toInt_inj.mp z)
                have y_0 : (0 : Int32).toInt = 0 := by decide
                have y_32 : (32 : Int32).toInt = 32 := by decide
                omega
              exact loop_233 _ vy_2 _ _ _ h0_254 (Nat.lt_succ_self _) hv_255 hP hD hS hl
          · skip
            refine lv_aload_n hx hb dX10_step_61 rfl (lv_at hl 0 rfl) ?_
            refine lv_aload_n hx hb dX10_step_62 rfl (lv_at hl 0 rfl) ?_
            refine gf_X10_19 hx hb hts hown hK hP 0 rfl rfl dX10_step_63 ?_
            refine cV (a := (Ta 0)) (As := [.int vy_2]) (rest := [.ref (Ta 0)]) (wr := []) ⟨hx, hb, hml, hown, hts⟩ hK hX hA (cu_X10_byteAt l D tc sk (Ta 0) (Ta 1) (Tv 0) vy_2 vy_2 (Tv 3) (Tv 4) (Tf 1) vy_2) k_482 k_479 k_481 k_0 k_96 pl_X10_byteAt ⟨Nat.le_of_ble_eq_true rfl, Nat.le_of_ble_eq_true rfl⟩ rfl rfl (va_recv hK hP (ci := 10) (q0 := 0) rfl rfl) hP hD hS [0, 1] [] rfl rfl rfl rfl rfl (by decide) rfl hl.1 rfl (Nat.le_of_ble_eq_true rfl) dX10_step_66 ⟨Nat.le_of_ble_eq_true rfl, Nat.le_of_ble_eq_true rfl⟩ (fun v_256 u_257 H locs hv_258 hP hD hS => ?_)
            obtain ⟨r_259, rfl, he_260⟩ := hv_258
            have he_260 : ((r_259.toInt = -1 ∨ (0 ≤ vy_2.toInt ∧ vy_2.toInt < (Tv 0).toInt ∧ vy_2.toInt < 400))) := he_260
            refine W.eq (g2 := F0 m 69 ls [.int r_259, .ref (Ta 0)]) rfl ?_
            have hP : va_P D classes [((Ta 0), .inr (10, [.ref (Ta 1), .int (Tv 0), .int vy_2, .int vy_2, .int (Tv 3), .int (Tv 4)])), ((Ta 1), .inl (tc 0, 400, .inl (Tf 1)))] H := hP
            have hD : va_D A [((Ta 0), .inr (10, [.ref (Ta 1), .int (Tv 0), .int vy_2, .int vy_2, .int (Tv 3), .int (Tv 4)])), ((Ta 1), .inl (tc 0, 400, .inl (Tf 1)))] := hD
            refine lv_goto (tgt := 73) hx hb dX10_step_69 (by decide) ?_
            refine pf_X10_25 hx hb hts hown hK hP hD hS 0 rfl (Nat.le_of_ble_eq_true rfl) rfl rfl dX10_step_73 (fun H locs hP hD hS => ?_)
            have hP : va_P D classes [((Ta 0), .inr (10, [.ref (Ta 1), .int (Tv 0), .int vy_2, .int vy_2, .int r_259, .int (Tv 4)])), ((Ta 1), .inl (tc 0, 400, .inl (Tf 1)))] H := hP
            have hD : va_D A [((Ta 0), .inr (10, [.ref (Ta 1), .int (Tv 0), .int vy_2, .int vy_2, .int r_259, .int (Tv 4)])), ((Ta 1), .inl (tc 0, 400, .inl (Tf 1)))] := hD
            refine lv_aload_n hx hb dX10_step_76 rfl (lv_at hl 0 rfl) ?_
            refine gf_X10_25 hx hb hts hown hK hP 0 rfl rfl dX10_step_77 ?_
            refine cS (As := [.int r_259]) (rest := []) (wr := [((Ta 0), .inr (10, [.ref (Ta 1), .int (Tv 0), .int vy_2, .int vy_2, .int r_259, .int (Tv 4)])), ((Ta 1), .inl (tc 0, 400, .inl (Tf 1)))]) ⟨hx, hb, hml, hown, hts⟩ hK hX hA (ct_X10_isLetter l D tc sk r_259) k_485 k_483 k_484 k_96 pl_X10_isLetter ⟨Nat.le_of_ble_eq_true rfl, Nat.le_of_ble_eq_true rfl⟩ rfl rfl  hP hD hS [] [0, 1] rfl rfl rfl rfl rfl (by decide) rfl hl.1 rfl (Nat.le_of_ble_eq_true rfl) dX10_step_80 ⟨Nat.le_of_ble_eq_true rfl, Nat.le_of_ble_eq_true rfl⟩ (fun v_261 u_262 H locs hv_263 hP hD hS => ?_)
            obtain ⟨r_264, rfl, he_265⟩ := hv_263
            have he_265 : ((r_264.toInt = 0 ∨ r_264.toInt = 1)) := he_265
            refine W.eq (g2 := F0 m 83 ls [.int r_264]) rfl ?_
            have hP : va_P D classes [((Ta 0), .inr (10, [.ref (Ta 1), .int (Tv 0), .int vy_2, .int vy_2, .int r_259, .int (Tv 4)])), ((Ta 1), .inl (tc 0, 400, .inl (Tf 1)))] H := hP
            have hD : va_D A [((Ta 0), .inr (10, [.ref (Ta 1), .int (Tv 0), .int vy_2, .int vy_2, .int r_259, .int (Tv 4)])), ((Ta 1), .inl (tc 0, 400, .inl (Tf 1)))] := hD
            refine lv_if_eq (tgt := 124) hx hb dX10_step_83 (by decide) (fun c_266 => ?_) (fun c_266 => ?_)
            · skip
              refine lv_aload_n hx hb dX10_step_124 rfl (lv_at hl 0 rfl) ?_
              refine gf_X10_25 hx hb hts hown hK hP 0 rfl rfl dX10_step_125 ?_
              refine cS (As := [.int r_259]) (rest := []) (wr := [((Ta 0), .inr (10, [.ref (Ta 1), .int (Tv 0), .int vy_2, .int vy_2, .int r_259, .int (Tv 4)])), ((Ta 1), .inl (tc 0, 400, .inl (Tf 1)))]) ⟨hx, hb, hml, hown, hts⟩ hK hX hA (ct_X10_isDigit l D tc sk r_259) k_488 k_486 k_487 k_96 pl_X10_isDigit ⟨Nat.le_of_ble_eq_true rfl, Nat.le_of_ble_eq_true rfl⟩ rfl rfl  hP hD hS [] [0, 1] rfl rfl rfl rfl rfl (by decide) rfl hl.1 rfl (Nat.le_of_ble_eq_true rfl) dX10_step_128 ⟨Nat.le_of_ble_eq_true rfl, Nat.le_of_ble_eq_true rfl⟩ (fun v_267 u_268 H locs hv_269 hP hD hS => ?_)
              obtain ⟨r_270, rfl, he_271⟩ := hv_269
              have he_271 : ((r_270.toInt = 0 ∨ r_270.toInt = 1)) := he_271
              refine W.eq (g2 := F0 m 131 ls [.int r_270]) rfl ?_
              have hP : va_P D classes [((Ta 0), .inr (10, [.ref (Ta 1), .int (Tv 0), .int vy_2, .int vy_2, .int r_259, .int (Tv 4)])), ((Ta 1), .inl (tc 0, 400, .inl (Tf 1)))] H := hP
              have hD : va_D A [((Ta 0), .inr (10, [.ref (Ta 1), .int (Tv 0), .int vy_2, .int vy_2, .int r_259, .int (Tv 4)])), ((Ta 1), .inl (tc 0, 400, .inl (Tf 1)))] := hD
              refine lv_if_eq (tgt := 172) hx hb dX10_step_131 (by decide) (fun c_272 => ?_) (fun c_272 => ?_)
              · skip
                refine lv_aload_n hx hb dX10_step_172 rfl (lv_at hl 0 rfl) ?_
                refine gf_X10_25 hx hb hts hown hK hP 0 rfl rfl dX10_step_173 ?_
                refine lv_iconst (v := (-1)) hx hb dX10_step_176 (by decide) ?_
                refine lv_icmp_eq (tgt := 242) hx hb dX10_step_177 (by decide) (fun c_273 => ?_) (fun c_273 => ?_)
                · skip
                  have hq_274 : 0 ≤ ((Tv 0) : Int32).toInt ∧ ((Tv 0) : Int32).toInt ≤ 400 ∧ 0 ≤ (vy_2 : Int32).toInt ∧ (vy_2 : Int32).toInt ≤ 400 ∧ 0 ≤ (vy_2 : Int32).toInt ∧ (vy_2 : Int32).toInt ≤ 400 := by
                    have z_1 := Int32.lt_iff_toInt_lt.mp (Int32.not_le.mp c_9)
                    have z_2 : ¬ (r_184 : Int32).toInt = (32 : Int32).toInt := fun z => c_186 (Int32.toInt_inj.mp z)
                    have z_3 := congrArg Int32.toInt c_187
                    have z_4 := congrArg Int32.toInt c_266
                    have z_5 := congrArg Int32.toInt c_272
                    have z_6 := congrArg Int32.toInt c_273
                    have y_m1 : (-1 : Int32).toInt = -1 := by decide
                    have y_0 : (0 : Int32).toInt = 0 := by decide
                    have y_32 : (32 : Int32).toInt = 32 := by decide
                    first | assumption | omega
                  exact retV hx hb hr hlk hP hD hS (vy_2, vy_2, r_259) ⟨rfl, hq_274⟩ [0, 1] rfl rfl dX10_step_242 (Nat.le_of_ble_eq_true rfl) (Nat.le_of_ble_eq_true rfl) rfl
                · skip
                  refine lv_aload_n hx hb dX10_step_180 rfl (lv_at hl 0 rfl) ?_
                  refine gf_X10_25 hx hb hts hown hK hP 0 rfl rfl dX10_step_181 ?_
                  refine lv_bipush (v := 60) hx hb dX10_step_184 (by decide) ?_
                  refine lv_icmp_eq (tgt := 198) hx hb dX10_step_186 (by decide) (fun c_275 => ?_) (fun c_275 => ?_)
                  · skip
                    refine lv_iconst (v := 1) hx hb dX10_step_198 (by decide) ?_
                    refine lv_goto (tgt := 203) hx hb dX10_step_199 (by decide) ?_
                    refine lv_istore_n (lv' := [(1, .int 1), (0, .ref (Ta 0))]) hx hb dX10_step_203 rfl hl (by decide) rfl (fun ls hl => ?_)
                    refine lv_aload_n hx hb dX10_step_204 rfl (lv_at hl 1 rfl) ?_
                    refine lv_iload_n hx hb dX10_step_205 rfl (lv_at hl 0 rfl) ?_
                    refine lv_if_eq (tgt := 233) hx hb dX10_step_206 (by decide) (fun c_276 => absurd c_276 (by decide)) (fun c_276 => ?_)
                    refine lv_aload_n hx hb dX10_step_209 rfl (lv_at hl 1 rfl) ?_
                    refine lv_aload_n hx hb dX10_step_210 rfl (lv_at hl 1 rfl) ?_
                    refine gf_X10_19 hx hb hts hown hK hP 0 rfl rfl dX10_step_211 ?_
                    refine lv_iconst (v := 1) hx hb dX10_step_214 (by decide) ?_
                    refine lv_iadd hx hb dX10_step_215 ?_
                    refine lv_topi (fun x_277 ex_277 => ?_)
                    refine cV (a := (Ta 0)) (As := [.int x_277]) (rest := [.ref (Ta 0)]) (wr := []) ⟨hx, hb, hml, hown, hts⟩ hK hX hA (cu_X10_byteAt l D tc sk (Ta 0) (Ta 1) (Tv 0) vy_2 vy_2 r_259 (Tv 4) (Tf 1) x_277) k_482 k_479 k_481 k_0 k_96 pl_X10_byteAt ⟨Nat.le_of_ble_eq_true rfl, Nat.le_of_ble_eq_true rfl⟩ rfl rfl (va_recv hK hP (ci := 10) (q0 := 0) rfl rfl) hP hD hS [0, 1] [] rfl rfl rfl rfl rfl (by decide) rfl hl.1 rfl (Nat.le_of_ble_eq_true rfl) dX10_step_216 ⟨Nat.le_of_ble_eq_true rfl, Nat.le_of_ble_eq_true rfl⟩ (fun v_278 u_279 H locs hv_280 hP hD hS => ?_)
                    obtain ⟨r_281, rfl, he_282⟩ := hv_280
                    have he_282 : ((r_281.toInt = -1 ∨ (0 ≤ x_277.toInt ∧ x_277.toInt < (Tv 0).toInt ∧ x_277.toInt < 400))) := he_282
                    refine W.eq (g2 := F0 m 219 ls [.int r_281, .ref (Ta 0)]) rfl ?_
                    have hP : va_P D classes [((Ta 0), .inr (10, [.ref (Ta 1), .int (Tv 0), .int vy_2, .int vy_2, .int r_259, .int (Tv 4)])), ((Ta 1), .inl (tc 0, 400, .inl (Tf 1)))] H := hP
                    have hD : va_D A [((Ta 0), .inr (10, [.ref (Ta 1), .int (Tv 0), .int vy_2, .int vy_2, .int r_259, .int (Tv 4)])), ((Ta 1), .inl (tc 0, 400, .inl (Tf 1)))] := hD
                    refine lv_bipush (v := 61) hx hb dX10_step_219 (by decide) ?_
                    refine lv_icmp_ne (tgt := 233) hx hb dX10_step_221 (by decide) (fun c_283 => ?_) (fun c_283 => ?_)
                    · skip
                      refine lv_aload_n hx hb dX10_step_233 rfl (lv_at hl 1 rfl) ?_
                      refine gf_X10_19 hx hb hts hown hK hP 0 rfl rfl dX10_step_234 ?_
                      refine lv_iconst (v := 1) hx hb dX10_step_237 (by decide) ?_
                      refine lv_iadd hx hb dX10_step_238 ?_
                      refine lv_topi (fun x_284 ex_284 => ?_)
                      refine pf_X10_22 hx hb hts hown hK hP hD hS 0 rfl (Nat.le_of_ble_eq_true rfl) rfl rfl dX10_step_239 (fun H locs hP hD hS => ?_)
                      have hP : va_P D classes [((Ta 0), .inr (10, [.ref (Ta 1), .int (Tv 0), .int vy_2, .int x_284, .int r_259, .int (Tv 4)])), ((Ta 1), .inl (tc 0, 400, .inl (Tf 1)))] H := hP
                      have hD : va_D A [((Ta 0), .inr (10, [.ref (Ta 1), .int (Tv 0), .int vy_2, .int x_284, .int r_259, .int (Tv 4)])), ((Ta 1), .inl (tc 0, 400, .inl (Tf 1)))] := hD
                      have hq_285 : 0 ≤ ((Tv 0) : Int32).toInt ∧ ((Tv 0) : Int32).toInt ≤ 400 ∧ 0 ≤ (vy_2 : Int32).toInt ∧ (vy_2 : Int32).toInt ≤ 400 ∧ 0 ≤ (x_284 : Int32).toInt ∧ (x_284 : Int32).toInt ≤ 400 := by
                        have z_1 := Int32.lt_iff_toInt_lt.mp (Int32.not_le.mp c_9)
                        have z_2 : ¬ (r_184 : Int32).toInt = (32 : Int32).toInt := fun z => c_186 (Int32.toInt_inj.mp z)
                        have z_3 := congrArg Int32.toInt c_187
                        have z_4 := congrArg Int32.toInt c_266
                        have z_5 := congrArg Int32.toInt c_272
                        have z_6 : ¬ (r_259 : Int32).toInt = ((-1) : Int32).toInt := fun z => c_273 (Int32.toInt_inj.mp z)
                        have z_7 := congrArg Int32.toInt c_275
                        have z_8 : ¬ (r_281 : Int32).toInt = (61 : Int32).toInt := fun z => c_283 (Int32.toInt_inj.mp z)
                        have y_m1 : (-1 : Int32).toInt = -1 := by decide
                        have y_0 : (0 : Int32).toInt = 0 := by decide
                        have y_32 : (32 : Int32).toInt = 32 := by decide
                        have y_60 : (60 : Int32).toInt = 60 := by decide
                        have y_61 : (61 : Int32).toInt = 61 := by decide
                        have y_1 : (1 : Int32).toInt = 1 := by decide
                        have t_x_284 : x_284.toInt = (vy_2 : Int32).toInt + (1 : Int32).toInt := by rw [ex_284]; exact add_toInt (by omega) (by omega)
                        have t_x_277 : x_277.toInt = (vy_2 : Int32).toInt + (1 : Int32).toInt := by rw [ex_277]; exact add_toInt (by omega) (by omega)
                        first | assumption | omega
                      exact retV hx hb hr hlk hP hD hS (vy_2, x_284, r_259) ⟨rfl, hq_285⟩ [0, 1] rfl rfl dX10_step_242 (Nat.le_of_ble_eq_true rfl) (Nat.le_of_ble_eq_true rfl) rfl
                    · skip
                      refine lv_aload_n hx hb dX10_step_224 rfl (lv_at hl 1 rfl) ?_
                      refine gf_X10_19 hx hb hts hown hK hP 0 rfl rfl dX10_step_225 ?_
                      refine lv_iconst (v := 2) hx hb dX10_step_228 (by decide) ?_
                      refine lv_iadd hx hb dX10_step_229 ?_
                      refine lv_topi (fun x_286 ex_286 => ?_)
                      refine lv_goto (tgt := 239) hx hb dX10_step_230 (by decide) ?_
                      refine pf_X10_22 hx hb hts hown hK hP hD hS 0 rfl (Nat.le_of_ble_eq_true rfl) rfl rfl dX10_step_239 (fun H locs hP hD hS => ?_)
                      have hP : va_P D classes [((Ta 0), .inr (10, [.ref (Ta 1), .int (Tv 0), .int vy_2, .int x_286, .int r_259, .int (Tv 4)])), ((Ta 1), .inl (tc 0, 400, .inl (Tf 1)))] H := hP
                      have hD : va_D A [((Ta 0), .inr (10, [.ref (Ta 1), .int (Tv 0), .int vy_2, .int x_286, .int r_259, .int (Tv 4)])), ((Ta 1), .inl (tc 0, 400, .inl (Tf 1)))] := hD
                      have hq_287 : 0 ≤ ((Tv 0) : Int32).toInt ∧ ((Tv 0) : Int32).toInt ≤ 400 ∧ 0 ≤ (vy_2 : Int32).toInt ∧ (vy_2 : Int32).toInt ≤ 400 ∧ 0 ≤ (x_286 : Int32).toInt ∧ (x_286 : Int32).toInt ≤ 400 := by
                        have z_1 := Int32.lt_iff_toInt_lt.mp (Int32.not_le.mp c_9)
                        have z_2 : ¬ (r_184 : Int32).toInt = (32 : Int32).toInt := fun z => c_186 (Int32.toInt_inj.mp z)
                        have z_3 := congrArg Int32.toInt c_187
                        have z_4 := congrArg Int32.toInt c_266
                        have z_5 := congrArg Int32.toInt c_272
                        have z_6 : ¬ (r_259 : Int32).toInt = ((-1) : Int32).toInt := fun z => c_273 (Int32.toInt_inj.mp z)
                        have z_7 := congrArg Int32.toInt c_275
                        have z_8 := congrArg Int32.toInt c_283
                        have y_m1 : (-1 : Int32).toInt = -1 := by decide
                        have y_0 : (0 : Int32).toInt = 0 := by decide
                        have y_32 : (32 : Int32).toInt = 32 := by decide
                        have y_60 : (60 : Int32).toInt = 60 := by decide
                        have y_61 : (61 : Int32).toInt = 61 := by decide
                        have y_1 : (1 : Int32).toInt = 1 := by decide
                        have y_2 : (2 : Int32).toInt = 2 := by decide
                        have t_x_286 : x_286.toInt = (vy_2 : Int32).toInt + (2 : Int32).toInt := by rw [ex_286]; exact add_toInt (by omega) (by omega)
                        have t_x_277 : x_277.toInt = (vy_2 : Int32).toInt + (1 : Int32).toInt := by rw [ex_277]; exact add_toInt (by omega) (by omega)
                        first | assumption | omega
                      exact retV hx hb hr hlk hP hD hS (vy_2, x_286, r_259) ⟨rfl, hq_287⟩ [0, 1] rfl rfl dX10_step_242 (Nat.le_of_ble_eq_true rfl) (Nat.le_of_ble_eq_true rfl) rfl
                  · skip
                    refine lv_aload_n hx hb dX10_step_189 rfl (lv_at hl 0 rfl) ?_
                    refine gf_X10_25 hx hb hts hown hK hP 0 rfl rfl dX10_step_190 ?_
                    refine lv_bipush (v := 62) hx hb dX10_step_193 (by decide) ?_
                    refine lv_icmp_ne (tgt := 202) hx hb dX10_step_195 (by decide) (fun c_288 => ?_) (fun c_288 => ?_)
                    · skip
                      refine lv_iconst (v := 0) hx hb dX10_step_202 (by decide) ?_
                      refine lv_istore_n (lv' := [(1, .int 0), (0, .ref (Ta 0))]) hx hb dX10_step_203 rfl hl (by decide) rfl (fun ls hl => ?_)
                      refine lv_aload_n hx hb dX10_step_204 rfl (lv_at hl 1 rfl) ?_
                      refine lv_iload_n hx hb dX10_step_205 rfl (lv_at hl 0 rfl) ?_
                      refine lv_if_eq (tgt := 233) hx hb dX10_step_206 (by decide) (fun c_289 => ?_) (fun c_289 => absurd c_289 (by decide))
                      refine lv_aload_n hx hb dX10_step_233 rfl (lv_at hl 1 rfl) ?_
                      refine gf_X10_19 hx hb hts hown hK hP 0 rfl rfl dX10_step_234 ?_
                      refine lv_iconst (v := 1) hx hb dX10_step_237 (by decide) ?_
                      refine lv_iadd hx hb dX10_step_238 ?_
                      refine lv_topi (fun x_290 ex_290 => ?_)
                      refine pf_X10_22 hx hb hts hown hK hP hD hS 0 rfl (Nat.le_of_ble_eq_true rfl) rfl rfl dX10_step_239 (fun H locs hP hD hS => ?_)
                      have hP : va_P D classes [((Ta 0), .inr (10, [.ref (Ta 1), .int (Tv 0), .int vy_2, .int x_290, .int r_259, .int (Tv 4)])), ((Ta 1), .inl (tc 0, 400, .inl (Tf 1)))] H := hP
                      have hD : va_D A [((Ta 0), .inr (10, [.ref (Ta 1), .int (Tv 0), .int vy_2, .int x_290, .int r_259, .int (Tv 4)])), ((Ta 1), .inl (tc 0, 400, .inl (Tf 1)))] := hD
                      have hq_291 : 0 ≤ ((Tv 0) : Int32).toInt ∧ ((Tv 0) : Int32).toInt ≤ 400 ∧ 0 ≤ (vy_2 : Int32).toInt ∧ (vy_2 : Int32).toInt ≤ 400 ∧ 0 ≤ (x_290 : Int32).toInt ∧ (x_290 : Int32).toInt ≤ 400 := by
                        have z_1 := Int32.lt_iff_toInt_lt.mp (Int32.not_le.mp c_9)
                        have z_2 : ¬ (r_184 : Int32).toInt = (32 : Int32).toInt := fun z => c_186 (Int32.toInt_inj.mp z)
                        have z_3 := congrArg Int32.toInt c_187
                        have z_4 := congrArg Int32.toInt c_266
                        have z_5 := congrArg Int32.toInt c_272
                        have z_6 : ¬ (r_259 : Int32).toInt = ((-1) : Int32).toInt := fun z => c_273 (Int32.toInt_inj.mp z)
                        have z_7 : ¬ (r_259 : Int32).toInt = (60 : Int32).toInt := fun z => c_275 (Int32.toInt_inj.mp z)
                        have z_8 : ¬ (r_259 : Int32).toInt = (62 : Int32).toInt := fun z => c_288 (Int32.toInt_inj.mp z)
                        have y_m1 : (-1 : Int32).toInt = -1 := by decide
                        have y_0 : (0 : Int32).toInt = 0 := by decide
                        have y_32 : (32 : Int32).toInt = 32 := by decide
                        have y_60 : (60 : Int32).toInt = 60 := by decide
                        have y_62 : (62 : Int32).toInt = 62 := by decide
                        have y_1 : (1 : Int32).toInt = 1 := by decide
                        have t_x_290 : x_290.toInt = (vy_2 : Int32).toInt + (1 : Int32).toInt := by rw [ex_290]; exact add_toInt (by omega) (by omega)
                        first | assumption | omega
                      exact retV hx hb hr hlk hP hD hS (vy_2, x_290, r_259) ⟨rfl, hq_291⟩ [0, 1] rfl rfl dX10_step_242 (Nat.le_of_ble_eq_true rfl) (Nat.le_of_ble_eq_true rfl) rfl
                    · skip
                      refine lv_iconst (v := 1) hx hb dX10_step_198 (by decide) ?_
                      refine lv_goto (tgt := 203) hx hb dX10_step_199 (by decide) ?_
                      refine lv_istore_n (lv' := [(1, .int 1), (0, .ref (Ta 0))]) hx hb dX10_step_203 rfl hl (by decide) rfl (fun ls hl => ?_)
                      refine lv_aload_n hx hb dX10_step_204 rfl (lv_at hl 1 rfl) ?_
                      refine lv_iload_n hx hb dX10_step_205 rfl (lv_at hl 0 rfl) ?_
                      refine lv_if_eq (tgt := 233) hx hb dX10_step_206 (by decide) (fun c_292 => absurd c_292 (by decide)) (fun c_292 => ?_)
                      refine lv_aload_n hx hb dX10_step_209 rfl (lv_at hl 1 rfl) ?_
                      refine lv_aload_n hx hb dX10_step_210 rfl (lv_at hl 1 rfl) ?_
                      refine gf_X10_19 hx hb hts hown hK hP 0 rfl rfl dX10_step_211 ?_
                      refine lv_iconst (v := 1) hx hb dX10_step_214 (by decide) ?_
                      refine lv_iadd hx hb dX10_step_215 ?_
                      refine lv_topi (fun x_293 ex_293 => ?_)
                      refine cV (a := (Ta 0)) (As := [.int x_293]) (rest := [.ref (Ta 0)]) (wr := []) ⟨hx, hb, hml, hown, hts⟩ hK hX hA (cu_X10_byteAt l D tc sk (Ta 0) (Ta 1) (Tv 0) vy_2 vy_2 r_259 (Tv 4) (Tf 1) x_293) k_482 k_479 k_481 k_0 k_96 pl_X10_byteAt ⟨Nat.le_of_ble_eq_true rfl, Nat.le_of_ble_eq_true rfl⟩ rfl rfl (va_recv hK hP (ci := 10) (q0 := 0) rfl rfl) hP hD hS [0, 1] [] rfl rfl rfl rfl rfl (by decide) rfl hl.1 rfl (Nat.le_of_ble_eq_true rfl) dX10_step_216 ⟨Nat.le_of_ble_eq_true rfl, Nat.le_of_ble_eq_true rfl⟩ (fun v_294 u_295 H locs hv_296 hP hD hS => ?_)
                      obtain ⟨r_297, rfl, he_298⟩ := hv_296
                      have he_298 : ((r_297.toInt = -1 ∨ (0 ≤ x_293.toInt ∧ x_293.toInt < (Tv 0).toInt ∧ x_293.toInt < 400))) := he_298
                      refine W.eq (g2 := F0 m 219 ls [.int r_297, .ref (Ta 0)]) rfl ?_
                      have hP : va_P D classes [((Ta 0), .inr (10, [.ref (Ta 1), .int (Tv 0), .int vy_2, .int vy_2, .int r_259, .int (Tv 4)])), ((Ta 1), .inl (tc 0, 400, .inl (Tf 1)))] H := hP
                      have hD : va_D A [((Ta 0), .inr (10, [.ref (Ta 1), .int (Tv 0), .int vy_2, .int vy_2, .int r_259, .int (Tv 4)])), ((Ta 1), .inl (tc 0, 400, .inl (Tf 1)))] := hD
                      refine lv_bipush (v := 61) hx hb dX10_step_219 (by decide) ?_
                      refine lv_icmp_ne (tgt := 233) hx hb dX10_step_221 (by decide) (fun c_299 => ?_) (fun c_299 => ?_)
                      · skip
                        refine lv_aload_n hx hb dX10_step_233 rfl (lv_at hl 1 rfl) ?_
                        refine gf_X10_19 hx hb hts hown hK hP 0 rfl rfl dX10_step_234 ?_
                        refine lv_iconst (v := 1) hx hb dX10_step_237 (by decide) ?_
                        refine lv_iadd hx hb dX10_step_238 ?_
                        refine lv_topi (fun x_300 ex_300 => ?_)
                        refine pf_X10_22 hx hb hts hown hK hP hD hS 0 rfl (Nat.le_of_ble_eq_true rfl) rfl rfl dX10_step_239 (fun H locs hP hD hS => ?_)
                        have hP : va_P D classes [((Ta 0), .inr (10, [.ref (Ta 1), .int (Tv 0), .int vy_2, .int x_300, .int r_259, .int (Tv 4)])), ((Ta 1), .inl (tc 0, 400, .inl (Tf 1)))] H := hP
                        have hD : va_D A [((Ta 0), .inr (10, [.ref (Ta 1), .int (Tv 0), .int vy_2, .int x_300, .int r_259, .int (Tv 4)])), ((Ta 1), .inl (tc 0, 400, .inl (Tf 1)))] := hD
                        have hq_301 : 0 ≤ ((Tv 0) : Int32).toInt ∧ ((Tv 0) : Int32).toInt ≤ 400 ∧ 0 ≤ (vy_2 : Int32).toInt ∧ (vy_2 : Int32).toInt ≤ 400 ∧ 0 ≤ (x_300 : Int32).toInt ∧ (x_300 : Int32).toInt ≤ 400 := by
                          have z_1 := Int32.lt_iff_toInt_lt.mp (Int32.not_le.mp c_9)
                          have z_2 : ¬ (r_184 : Int32).toInt = (32 : Int32).toInt := fun z => c_186 (Int32.toInt_inj.mp z)
                          have z_3 := congrArg Int32.toInt c_187
                          have z_4 := congrArg Int32.toInt c_266
                          have z_5 := congrArg Int32.toInt c_272
                          have z_6 : ¬ (r_259 : Int32).toInt = ((-1) : Int32).toInt := fun z => c_273 (Int32.toInt_inj.mp z)
                          have z_7 : ¬ (r_259 : Int32).toInt = (60 : Int32).toInt := fun z => c_275 (Int32.toInt_inj.mp z)
                          have z_8 := congrArg Int32.toInt c_288
                          have z_9 : ¬ (r_297 : Int32).toInt = (61 : Int32).toInt := fun z => c_299 (Int32.toInt_inj.mp z)
                          have y_m1 : (-1 : Int32).toInt = -1 := by decide
                          have y_0 : (0 : Int32).toInt = 0 := by decide
                          have y_32 : (32 : Int32).toInt = 32 := by decide
                          have y_60 : (60 : Int32).toInt = 60 := by decide
                          have y_61 : (61 : Int32).toInt = 61 := by decide
                          have y_62 : (62 : Int32).toInt = 62 := by decide
                          have y_1 : (1 : Int32).toInt = 1 := by decide
                          have t_x_300 : x_300.toInt = (vy_2 : Int32).toInt + (1 : Int32).toInt := by rw [ex_300]; exact add_toInt (by omega) (by omega)
                          have t_x_293 : x_293.toInt = (vy_2 : Int32).toInt + (1 : Int32).toInt := by rw [ex_293]; exact add_toInt (by omega) (by omega)
                          first | assumption | omega
                        exact retV hx hb hr hlk hP hD hS (vy_2, x_300, r_259) ⟨rfl, hq_301⟩ [0, 1] rfl rfl dX10_step_242 (Nat.le_of_ble_eq_true rfl) (Nat.le_of_ble_eq_true rfl) rfl
                      · skip
                        refine lv_aload_n hx hb dX10_step_224 rfl (lv_at hl 1 rfl) ?_
                        refine gf_X10_19 hx hb hts hown hK hP 0 rfl rfl dX10_step_225 ?_
                        refine lv_iconst (v := 2) hx hb dX10_step_228 (by decide) ?_
                        refine lv_iadd hx hb dX10_step_229 ?_
                        refine lv_topi (fun x_302 ex_302 => ?_)
                        refine lv_goto (tgt := 239) hx hb dX10_step_230 (by decide) ?_
                        refine pf_X10_22 hx hb hts hown hK hP hD hS 0 rfl (Nat.le_of_ble_eq_true rfl) rfl rfl dX10_step_239 (fun H locs hP hD hS => ?_)
                        have hP : va_P D classes [((Ta 0), .inr (10, [.ref (Ta 1), .int (Tv 0), .int vy_2, .int x_302, .int r_259, .int (Tv 4)])), ((Ta 1), .inl (tc 0, 400, .inl (Tf 1)))] H := hP
                        have hD : va_D A [((Ta 0), .inr (10, [.ref (Ta 1), .int (Tv 0), .int vy_2, .int x_302, .int r_259, .int (Tv 4)])), ((Ta 1), .inl (tc 0, 400, .inl (Tf 1)))] := hD
                        have hq_303 : 0 ≤ ((Tv 0) : Int32).toInt ∧ ((Tv 0) : Int32).toInt ≤ 400 ∧ 0 ≤ (vy_2 : Int32).toInt ∧ (vy_2 : Int32).toInt ≤ 400 ∧ 0 ≤ (x_302 : Int32).toInt ∧ (x_302 : Int32).toInt ≤ 400 := by
                          have z_1 := Int32.lt_iff_toInt_lt.mp (Int32.not_le.mp c_9)
                          have z_2 : ¬ (r_184 : Int32).toInt = (32 : Int32).toInt := fun z => c_186 (Int32.toInt_inj.mp z)
                          have z_3 := congrArg Int32.toInt c_187
                          have z_4 := congrArg Int32.toInt c_266
                          have z_5 := congrArg Int32.toInt c_272
                          have z_6 : ¬ (r_259 : Int32).toInt = ((-1) : Int32).toInt := fun z => c_273 (Int32.toInt_inj.mp z)
                          have z_7 : ¬ (r_259 : Int32).toInt = (60 : Int32).toInt := fun z => c_275 (Int32.toInt_inj.mp z)
                          have z_8 := congrArg Int32.toInt c_288
                          have z_9 := congrArg Int32.toInt c_299
                          have y_m1 : (-1 : Int32).toInt = -1 := by decide
                          have y_0 : (0 : Int32).toInt = 0 := by decide
                          have y_32 : (32 : Int32).toInt = 32 := by decide
                          have y_60 : (60 : Int32).toInt = 60 := by decide
                          have y_61 : (61 : Int32).toInt = 61 := by decide
                          have y_62 : (62 : Int32).toInt = 62 := by decide
                          have y_1 : (1 : Int32).toInt = 1 := by decide
                          have y_2 : (2 : Int32).toInt = 2 := by decide
                          have t_x_302 : x_302.toInt = (vy_2 : Int32).toInt + (2 : Int32).toInt := by rw [ex_302]; exact add_toInt (by omega) (by omega)
                          have t_x_293 : x_293.toInt = (vy_2 : Int32).toInt + (1 : Int32).toInt := by rw [ex_293]; exact add_toInt (by omega) (by omega)
                          first | assumption | omega
                        exact retV hx hb hr hlk hP hD hS (vy_2, x_302, r_259) ⟨rfl, hq_303⟩ [0, 1] rfl rfl dX10_step_242 (Nat.le_of_ble_eq_true rfl) (Nat.le_of_ble_eq_true rfl) rfl
              · skip
                have loop_308 : ∀ (n_306 : Nat) (vy_305 : Int32) (H : Heap) (locs : List Loc) (ls : Array Slot), 0 ≤ (vy_305 : Int32).toInt → (400 - (vy_305 : Int32).toInt).toNat < n_306 → (vy_305 : Int32).toInt ≤ 400 → va_P D classes [((Ta 0), .inr (10, [.ref (Ta 1), .int (Tv 0), .int vy_2, .int vy_305, .int r_259, .int (Tv 4)])), ((Ta 1), .inl (tc 0, 400, .inl (Tf 1)))] H → va_D A [((Ta 0), .inr (10, [.ref (Ta 1), .int (Tv 0), .int vy_2, .int vy_305, .int r_259, .int (Tv 4)])), ((Ta 1), .inl (tc 0, 400, .inl (Tf 1)))] → va_S A s.heap H locs → lv_has ls 2 [(0, .ref (Ta 0))] → W p l e ({ frames := 1, cells := 0, slots := 0, locals := 21 }) s m ([.ref (Ta 0)].toArray) below meth c H locs 0 0 (MQ below (QW (fun (v : Option Value) (u : (Int32) × (Int32) × (Int32)) => match u with | (o1, o2, o3) => v = none ∧ (0 ≤ ((Tv 0) : Int32).toInt ∧ ((Tv 0) : Int32).toInt ≤ 400 ∧ 0 ≤ (o1 : Int32).toInt ∧ (o1 : Int32).toInt ≤ 400 ∧ 0 ≤ (o2 : Int32).toInt ∧ (o2 : Int32).toInt ≤ 400)) (BW D (fun (u : (Int32) × (Int32) × (Int32)) => match u with | (o1, o2, o3) => [((Ta 0), .inr (10, [.ref (Ta 1), .int (Tv 0), .int o1, .int o2, .int o3, .int (Tv 4)])), ((Ta 1), .inl (tc 0, 400, .inl (Tf 1)))]) A) A) ([.ref (Ta 0)].toArray) s 0 0 A) (F0 m 134 ls []) := by
                  intro n_306
                  induction n_306 with
                  | zero =>
                    intro vy_305 H locs ls h1 h2
                    exact absurd h2 (Nat.not_lt_zero _)
                  | succ n_306 ih_307 =>
                    intro vy_305 H locs ls hi_310 hn_311 hv_309 hP hD hS hl
                    refine lv_aload_n hx hb dX10_step_134 rfl (lv_at hl 0 rfl) ?_
                    refine gf_X10_22 hx hb hts hown hK hP 0 rfl rfl dX10_step_135 ?_
                    refine lv_aload_n hx hb dX10_step_138 rfl (lv_at hl 0 rfl) ?_
                    refine gf_X10_15 hx hb hts hown hK hP 0 rfl rfl dX10_step_139 ?_
                    refine lv_icmp_ge (tgt := 242) hx hb dX10_step_142 (by decide) (fun c_312 => ?_) (fun c_312 => ?_)
                    · skip
                      have hq_313 : 0 ≤ ((Tv 0) : Int32).toInt ∧ ((Tv 0) : Int32).toInt ≤ 400 ∧ 0 ≤ (vy_2 : Int32).toInt ∧ (vy_2 : Int32).toInt ≤ 400 ∧ 0 ≤ (vy_305 : Int32).toInt ∧ (vy_305 : Int32).toInt ≤ 400 := by
                        have z_1 := Int32.lt_iff_toInt_lt.mp (Int32.not_le.mp c_9)
                        have z_2 : ¬ (r_184 : Int32).toInt = (32 : Int32).toInt := fun z => c_186 (Int32.toInt_inj.mp z)
                        have z_3 := congrArg Int32.toInt c_187
                        have z_4 := congrArg Int32.toInt c_266
                        have z_5 : ¬ (r_270 : Int32).toInt = (0 : Int32).toInt := fun z => c_272 (Int32.toInt_inj.mp z)
                        have z_6 := Int32.le_iff_toInt_le.mp c_312
                        have y_0 : (0 : Int32).toInt = 0 := by decide
                        have y_32 : (32 : Int32).toInt = 32 := by decide
                        first | assumption | omega
                      exact retV hx hb hr hlk hP hD hS (vy_2, vy_305, r_259) ⟨rfl, hq_313⟩ [0, 1] rfl rfl dX10_step_242 (Nat.le_of_ble_eq_true rfl) (Nat.le_of_ble_eq_true rfl) rfl
                    · skip
                      refine lv_aload_n hx hb dX10_step_145 rfl (lv_at hl 0 rfl) ?_
                      refine lv_aload_n hx hb dX10_step_146 rfl (lv_at hl 0 rfl) ?_
                      refine gf_X10_22 hx hb hts hown hK hP 0 rfl rfl dX10_step_147 ?_
                      refine cV (a := (Ta 0)) (As := [.int vy_305]) (rest := []) (wr := []) ⟨hx, hb, hml, hown, hts⟩ hK hX hA (cu_X10_byteAt l D tc sk (Ta 0) (Ta 1) (Tv 0) vy_2 vy_305 r_259 (Tv 4) (Tf 1) vy_305) k_482 k_479 k_481 k_0 k_96 pl_X10_byteAt ⟨Nat.le_of_ble_eq_true rfl, Nat.le_of_ble_eq_true rfl⟩ rfl rfl (va_recv hK hP (ci := 10) (q0 := 0) rfl rfl) hP hD hS [0, 1] [] rfl rfl rfl rfl rfl (by decide) rfl hl.1 rfl (Nat.le_of_ble_eq_true rfl) dX10_step_150 ⟨Nat.le_of_ble_eq_true rfl, Nat.le_of_ble_eq_true rfl⟩ (fun v_314 u_315 H locs hv_316 hP hD hS => ?_)
                      obtain ⟨r_317, rfl, he_318⟩ := hv_316
                      have he_318 : ((r_317.toInt = -1 ∨ (0 ≤ vy_305.toInt ∧ vy_305.toInt < (Tv 0).toInt ∧ vy_305.toInt < 400))) := he_318
                      refine W.eq (g2 := F0 m 153 ls [.int r_317]) rfl ?_
                      have hP : va_P D classes [((Ta 0), .inr (10, [.ref (Ta 1), .int (Tv 0), .int vy_2, .int vy_305, .int r_259, .int (Tv 4)])), ((Ta 1), .inl (tc 0, 400, .inl (Tf 1)))] H := hP
                      have hD : va_D A [((Ta 0), .inr (10, [.ref (Ta 1), .int (Tv 0), .int vy_2, .int vy_305, .int r_259, .int (Tv 4)])), ((Ta 1), .inl (tc 0, 400, .inl (Tf 1)))] := hD
                      refine cS (As := [.int r_317]) (rest := []) (wr := [((Ta 0), .inr (10, [.ref (Ta 1), .int (Tv 0), .int vy_2, .int vy_305, .int r_259, .int (Tv 4)])), ((Ta 1), .inl (tc 0, 400, .inl (Tf 1)))]) ⟨hx, hb, hml, hown, hts⟩ hK hX hA (ct_X10_isDigit l D tc sk r_317) k_488 k_486 k_487 k_96 pl_X10_isDigit ⟨Nat.le_of_ble_eq_true rfl, Nat.le_of_ble_eq_true rfl⟩ rfl rfl  hP hD hS [] [0, 1] rfl rfl rfl rfl rfl (by decide) rfl hl.1 rfl (Nat.le_of_ble_eq_true rfl) dX10_step_153 ⟨Nat.le_of_ble_eq_true rfl, Nat.le_of_ble_eq_true rfl⟩ (fun v_319 u_320 H locs hv_321 hP hD hS => ?_)
                      obtain ⟨r_322, rfl, he_323⟩ := hv_321
                      have he_323 : ((r_322.toInt = 0 ∨ r_322.toInt = 1)) := he_323
                      refine W.eq (g2 := F0 m 156 ls [.int r_322]) rfl ?_
                      have hP : va_P D classes [((Ta 0), .inr (10, [.ref (Ta 1), .int (Tv 0), .int vy_2, .int vy_305, .int r_259, .int (Tv 4)])), ((Ta 1), .inl (tc 0, 400, .inl (Tf 1)))] H := hP
                      have hD : va_D A [((Ta 0), .inr (10, [.ref (Ta 1), .int (Tv 0), .int vy_2, .int vy_305, .int r_259, .int (Tv 4)])), ((Ta 1), .inl (tc 0, 400, .inl (Tf 1)))] := hD
                      refine lv_if_eq (tgt := 242) hx hb dX10_step_156 (by decide) (fun c_324 => ?_) (fun c_324 => ?_)
                      · skip
                        have hq_325 : 0 ≤ ((Tv 0) : Int32).toInt ∧ ((Tv 0) : Int32).toInt ≤ 400 ∧ 0 ≤ (vy_2 : Int32).toInt ∧ (vy_2 : Int32).toInt ≤ 400 ∧ 0 ≤ (vy_305 : Int32).toInt ∧ (vy_305 : Int32).toInt ≤ 400 := by
                          have z_1 := Int32.lt_iff_toInt_lt.mp (Int32.not_le.mp c_9)
                          have z_2 : ¬ (r_184 : Int32).toInt = (32 : Int32).toInt := fun z => c_186 (Int32.toInt_inj.mp z)
                          have z_3 := congrArg Int32.toInt c_187
                          have z_4 := congrArg Int32.toInt c_266
                          have z_5 : ¬ (r_270 : Int32).toInt = (0 : Int32).toInt := fun z => c_272 (Int32.toInt_inj.mp z)
                          have z_6 := Int32.lt_iff_toInt_lt.mp (Int32.not_le.mp c_312)
                          have z_7 := congrArg Int32.toInt c_324
                          have y_0 : (0 : Int32).toInt = 0 := by decide
                          have y_32 : (32 : Int32).toInt = 32 := by decide
                          first | assumption | omega
                        exact retV hx hb hr hlk hP hD hS (vy_2, vy_305, r_259) ⟨rfl, hq_325⟩ [0, 1] rfl rfl dX10_step_242 (Nat.le_of_ble_eq_true rfl) (Nat.le_of_ble_eq_true rfl) rfl
                      · skip
                        refine lv_aload_n hx hb dX10_step_159 rfl (lv_at hl 0 rfl) ?_
                        refine lv_dup hx hb dX10_step_160 rfl ?_
                        refine gf_X10_22 hx hb hts hown hK hP 0 rfl rfl dX10_step_161 ?_
                        refine lv_iconst (v := 1) hx hb dX10_step_164 (by decide) ?_
                        refine lv_iadd hx hb dX10_step_165 ?_
                        refine lv_topi (fun x_326 ex_326 => ?_)
                        refine pf_X10_22 hx hb hts hown hK hP hD hS 0 rfl (Nat.le_of_ble_eq_true rfl) rfl rfl dX10_step_166 (fun H locs hP hD hS => ?_)
                        have hP : va_P D classes [((Ta 0), .inr (10, [.ref (Ta 1), .int (Tv 0), .int vy_2, .int x_326, .int r_259, .int (Tv 4)])), ((Ta 1), .inl (tc 0, 400, .inl (Tf 1)))] H := hP
                        have hD : va_D A [((Ta 0), .inr (10, [.ref (Ta 1), .int (Tv 0), .int vy_2, .int x_326, .int r_259, .int (Tv 4)])), ((Ta 1), .inl (tc 0, 400, .inl (Tf 1)))] := hD
                        refine lv_goto (tgt := 134) hx hb dX10_step_169 (by decide) ?_
                        have hb_327 : 0 ≤ (x_326 : Int32).toInt ∧ (400 - (x_326 : Int32).toInt).toNat < n_306 := by
                          have z_1 := Int32.lt_iff_toInt_lt.mp (Int32.not_le.mp c_9)
                          have z_2 : ¬ (r_184 : Int32).toInt = (32 : Int32).toInt := fun z => c_186 (Int32.toInt_inj.mp z)
                          have z_3 := congrArg Int32.toInt c_187
                          have z_4 := congrArg Int32.toInt c_266
                          have z_5 : ¬ (r_270 : Int32).toInt = (0 : Int32).toInt := fun z => c_272 (Int32.toInt_inj.mp z)
                          have z_6 := Int32.lt_iff_toInt_lt.mp (Int32.not_le.mp c_312)
                          have z_7 : ¬ (r_322 : Int32).toInt = (0 : Int32).toInt := fun z => c_324 (Int32.toInt_inj.mp z)
                          have y_0 : (0 : Int32).toInt = 0 := by decide
                          have y_32 : (32 : Int32).toInt = 32 := by decide
                          have y_1 : (1 : Int32).toInt = 1 := by decide
                          have t_x_326 : x_326.toInt = (vy_305 : Int32).toInt + (1 : Int32).toInt := by rw [ex_326]; exact add_toInt (by omega) (by omega)
                          omega
                        have hv_328 : (x_326 : Int32).toInt ≤ 400 := by
                          have z_1 := Int32.lt_iff_toInt_lt.mp (Int32.not_le.mp c_9)
                          have z_2 : ¬ (r_184 : Int32).toInt = (32 : Int32).toInt := fun z => c_186 (Int32.toInt_inj.mp z)
                          have z_3 := congrArg Int32.toInt c_187
                          have z_4 := congrArg Int32.toInt c_266
                          have z_5 : ¬ (r_270 : Int32).toInt = (0 : Int32).toInt := fun z => c_272 (Int32.toInt_inj.mp z)
                          have z_6 := Int32.lt_iff_toInt_lt.mp (Int32.not_le.mp c_312)
                          have z_7 : ¬ (r_322 : Int32).toInt = (0 : Int32).toInt := fun z => c_324 (Int32.toInt_inj.mp z)
                          have y_0 : (0 : Int32).toInt = 0 := by decide
                          have y_32 : (32 : Int32).toInt = 32 := by decide
                          have y_1 : (1 : Int32).toInt = 1 := by decide
                          have t_x_326 : x_326.toInt = (vy_305 : Int32).toInt + (1 : Int32).toInt := by rw [ex_326]; exact add_toInt (by omega) (by omega)
                          omega
                        exact ih_307 x_326 _ _ _ hb_327.1 hb_327.2 hv_328 (hP.sub [0, 1] rfl) (hD.sub [0, 1] rfl rfl) hS (lv_sub hl [0] rfl)
                have h0_329 : 0 ≤ (vy_2 : Int32).toInt := by
                  have z_1 := Int32.lt_iff_toInt_lt.mp (Int32.not_le.mp c_9)
                  have z_2 : ¬ (r_184 : Int32).toInt = (32 : Int32).toInt := fun z => c_186 (Int32.toInt_inj.mp z)
                  have z_3 := congrArg Int32.toInt c_187
                  have z_4 := congrArg Int32.toInt c_266
                  have z_5 : ¬ (r_270 : Int32).toInt = (0 : Int32).toInt := fun z => c_272 (Int32.toInt_inj.mp z)
                  have y_0 : (0 : Int32).toInt = 0 := by decide
                  have y_32 : (32 : Int32).toInt = 32 := by decide
                  omega
                have hv_330 : (vy_2 : Int32).toInt ≤ 400 := by
                  have z_1 := Int32.lt_iff_toInt_lt.mp (Int32.not_le.mp c_9)
                  have z_2 : ¬ (r_184 : Int32).toInt = (32 : Int32).toInt := fun z => c_186 (Int32.toInt_inj.mp z)
                  have z_3 := congrArg Int32.toInt c_187
                  have z_4 := congrArg Int32.toInt c_266
                  have z_5 : ¬ (r_270 : Int32).toInt = (0 : Int32).toInt := fun z => c_272 (Int32.toInt_inj.mp z)
                  have y_0 : (0 : Int32).toInt = 0 := by decide
                  have y_32 : (32 : Int32).toInt = 32 := by decide
                  omega
                exact loop_308 _ vy_2 _ _ _ h0_329 (Nat.lt_succ_self _) hv_330 hP hD hS hl
            · skip
              have loop_335 : ∀ (n_333 : Nat) (vy_332 : Int32) (H : Heap) (locs : List Loc) (ls : Array Slot), 0 ≤ (vy_332 : Int32).toInt → (400 - (vy_332 : Int32).toInt).toNat < n_333 → (vy_332 : Int32).toInt ≤ 400 → va_P D classes [((Ta 0), .inr (10, [.ref (Ta 1), .int (Tv 0), .int vy_2, .int vy_332, .int r_259, .int (Tv 4)])), ((Ta 1), .inl (tc 0, 400, .inl (Tf 1)))] H → va_D A [((Ta 0), .inr (10, [.ref (Ta 1), .int (Tv 0), .int vy_2, .int vy_332, .int r_259, .int (Tv 4)])), ((Ta 1), .inl (tc 0, 400, .inl (Tf 1)))] → va_S A s.heap H locs → lv_has ls 2 [(0, .ref (Ta 0))] → W p l e ({ frames := 1, cells := 0, slots := 0, locals := 21 }) s m ([.ref (Ta 0)].toArray) below meth c H locs 0 0 (MQ below (QW (fun (v : Option Value) (u : (Int32) × (Int32) × (Int32)) => match u with | (o1, o2, o3) => v = none ∧ (0 ≤ ((Tv 0) : Int32).toInt ∧ ((Tv 0) : Int32).toInt ≤ 400 ∧ 0 ≤ (o1 : Int32).toInt ∧ (o1 : Int32).toInt ≤ 400 ∧ 0 ≤ (o2 : Int32).toInt ∧ (o2 : Int32).toInt ≤ 400)) (BW D (fun (u : (Int32) × (Int32) × (Int32)) => match u with | (o1, o2, o3) => [((Ta 0), .inr (10, [.ref (Ta 1), .int (Tv 0), .int o1, .int o2, .int o3, .int (Tv 4)])), ((Ta 1), .inl (tc 0, 400, .inl (Tf 1)))]) A) A) ([.ref (Ta 0)].toArray) s 0 0 A) (F0 m 86 ls []) := by
                intro n_333
                induction n_333 with
                | zero =>
                  intro vy_332 H locs ls h1 h2
                  exact absurd h2 (Nat.not_lt_zero _)
                | succ n_333 ih_334 =>
                  intro vy_332 H locs ls hi_337 hn_338 hv_336 hP hD hS hl
                  refine lv_aload_n hx hb dX10_step_86 rfl (lv_at hl 0 rfl) ?_
                  refine gf_X10_22 hx hb hts hown hK hP 0 rfl rfl dX10_step_87 ?_
                  refine lv_aload_n hx hb dX10_step_90 rfl (lv_at hl 0 rfl) ?_
                  refine gf_X10_15 hx hb hts hown hK hP 0 rfl rfl dX10_step_91 ?_
                  refine lv_icmp_ge (tgt := 242) hx hb dX10_step_94 (by decide) (fun c_339 => ?_) (fun c_339 => ?_)
                  · skip
                    have hq_340 : 0 ≤ ((Tv 0) : Int32).toInt ∧ ((Tv 0) : Int32).toInt ≤ 400 ∧ 0 ≤ (vy_2 : Int32).toInt ∧ (vy_2 : Int32).toInt ≤ 400 ∧ 0 ≤ (vy_332 : Int32).toInt ∧ (vy_332 : Int32).toInt ≤ 400 := by
                      have z_1 := Int32.lt_iff_toInt_lt.mp (Int32.not_le.mp c_9)
                      have z_2 : ¬ (r_184 : Int32).toInt = (32 : Int32).toInt := fun z => c_186 (Int32.toInt_inj.mp z)
                      have z_3 := congrArg Int32.toInt c_187
                      have z_4 : ¬ (r_264 : Int32).toInt = (0 : Int32).toInt := fun z => c_266 (Int32.toInt_inj.mp z)
                      have z_5 := Int32.le_iff_toInt_le.mp c_339
                      have y_0 : (0 : Int32).toInt = 0 := by decide
                      have y_32 : (32 : Int32).toInt = 32 := by decide
                      first | assumption | omega
                    exact retV hx hb hr hlk hP hD hS (vy_2, vy_332, r_259) ⟨rfl, hq_340⟩ [0, 1] rfl rfl dX10_step_242 (Nat.le_of_ble_eq_true rfl) (Nat.le_of_ble_eq_true rfl) rfl
                  · skip
                    refine lv_aload_n hx hb dX10_step_97 rfl (lv_at hl 0 rfl) ?_
                    refine lv_aload_n hx hb dX10_step_98 rfl (lv_at hl 0 rfl) ?_
                    refine gf_X10_22 hx hb hts hown hK hP 0 rfl rfl dX10_step_99 ?_
                    refine cV (a := (Ta 0)) (As := [.int vy_332]) (rest := []) (wr := []) ⟨hx, hb, hml, hown, hts⟩ hK hX hA (cu_X10_byteAt l D tc sk (Ta 0) (Ta 1) (Tv 0) vy_2 vy_332 r_259 (Tv 4) (Tf 1) vy_332) k_482 k_479 k_481 k_0 k_96 pl_X10_byteAt ⟨Nat.le_of_ble_eq_true rfl, Nat.le_of_ble_eq_true rfl⟩ rfl rfl (va_recv hK hP (ci := 10) (q0 := 0) rfl rfl) hP hD hS [0, 1] [] rfl rfl rfl rfl rfl (by decide) rfl hl.1 rfl (Nat.le_of_ble_eq_true rfl) dX10_step_102 ⟨Nat.le_of_ble_eq_true rfl, Nat.le_of_ble_eq_true rfl⟩ (fun v_341 u_342 H locs hv_343 hP hD hS => ?_)
                    obtain ⟨r_344, rfl, he_345⟩ := hv_343
                    have he_345 : ((r_344.toInt = -1 ∨ (0 ≤ vy_332.toInt ∧ vy_332.toInt < (Tv 0).toInt ∧ vy_332.toInt < 400))) := he_345
                    refine W.eq (g2 := F0 m 105 ls [.int r_344]) rfl ?_
                    have hP : va_P D classes [((Ta 0), .inr (10, [.ref (Ta 1), .int (Tv 0), .int vy_2, .int vy_332, .int r_259, .int (Tv 4)])), ((Ta 1), .inl (tc 0, 400, .inl (Tf 1)))] H := hP
                    have hD : va_D A [((Ta 0), .inr (10, [.ref (Ta 1), .int (Tv 0), .int vy_2, .int vy_332, .int r_259, .int (Tv 4)])), ((Ta 1), .inl (tc 0, 400, .inl (Tf 1)))] := hD
                    refine cS (As := [.int r_344]) (rest := []) (wr := [((Ta 0), .inr (10, [.ref (Ta 1), .int (Tv 0), .int vy_2, .int vy_332, .int r_259, .int (Tv 4)])), ((Ta 1), .inl (tc 0, 400, .inl (Tf 1)))]) ⟨hx, hb, hml, hown, hts⟩ hK hX hA (ct_X10_isLetter l D tc sk r_344) k_485 k_483 k_484 k_96 pl_X10_isLetter ⟨Nat.le_of_ble_eq_true rfl, Nat.le_of_ble_eq_true rfl⟩ rfl rfl  hP hD hS [] [0, 1] rfl rfl rfl rfl rfl (by decide) rfl hl.1 rfl (Nat.le_of_ble_eq_true rfl) dX10_step_105 ⟨Nat.le_of_ble_eq_true rfl, Nat.le_of_ble_eq_true rfl⟩ (fun v_346 u_347 H locs hv_348 hP hD hS => ?_)
                    obtain ⟨r_349, rfl, he_350⟩ := hv_348
                    have he_350 : ((r_349.toInt = 0 ∨ r_349.toInt = 1)) := he_350
                    refine W.eq (g2 := F0 m 108 ls [.int r_349]) rfl ?_
                    have hP : va_P D classes [((Ta 0), .inr (10, [.ref (Ta 1), .int (Tv 0), .int vy_2, .int vy_332, .int r_259, .int (Tv 4)])), ((Ta 1), .inl (tc 0, 400, .inl (Tf 1)))] H := hP
                    have hD : va_D A [((Ta 0), .inr (10, [.ref (Ta 1), .int (Tv 0), .int vy_2, .int vy_332, .int r_259, .int (Tv 4)])), ((Ta 1), .inl (tc 0, 400, .inl (Tf 1)))] := hD
                    refine lv_if_eq (tgt := 242) hx hb dX10_step_108 (by decide) (fun c_351 => ?_) (fun c_351 => ?_)
                    · skip
                      have hq_352 : 0 ≤ ((Tv 0) : Int32).toInt ∧ ((Tv 0) : Int32).toInt ≤ 400 ∧ 0 ≤ (vy_2 : Int32).toInt ∧ (vy_2 : Int32).toInt ≤ 400 ∧ 0 ≤ (vy_332 : Int32).toInt ∧ (vy_332 : Int32).toInt ≤ 400 := by
                        have z_1 := Int32.lt_iff_toInt_lt.mp (Int32.not_le.mp c_9)
                        have z_2 : ¬ (r_184 : Int32).toInt = (32 : Int32).toInt := fun z => c_186 (Int32.toInt_inj.mp z)
                        have z_3 := congrArg Int32.toInt c_187
                        have z_4 : ¬ (r_264 : Int32).toInt = (0 : Int32).toInt := fun z => c_266 (Int32.toInt_inj.mp z)
                        have z_5 := Int32.lt_iff_toInt_lt.mp (Int32.not_le.mp c_339)
                        have z_6 := congrArg Int32.toInt c_351
                        have y_0 : (0 : Int32).toInt = 0 := by decide
                        have y_32 : (32 : Int32).toInt = 32 := by decide
                        first | assumption | omega
                      exact retV hx hb hr hlk hP hD hS (vy_2, vy_332, r_259) ⟨rfl, hq_352⟩ [0, 1] rfl rfl dX10_step_242 (Nat.le_of_ble_eq_true rfl) (Nat.le_of_ble_eq_true rfl) rfl
                    · skip
                      refine lv_aload_n hx hb dX10_step_111 rfl (lv_at hl 0 rfl) ?_
                      refine lv_dup hx hb dX10_step_112 rfl ?_
                      refine gf_X10_22 hx hb hts hown hK hP 0 rfl rfl dX10_step_113 ?_
                      refine lv_iconst (v := 1) hx hb dX10_step_116 (by decide) ?_
                      refine lv_iadd hx hb dX10_step_117 ?_
                      refine lv_topi (fun x_353 ex_353 => ?_)
                      refine pf_X10_22 hx hb hts hown hK hP hD hS 0 rfl (Nat.le_of_ble_eq_true rfl) rfl rfl dX10_step_118 (fun H locs hP hD hS => ?_)
                      have hP : va_P D classes [((Ta 0), .inr (10, [.ref (Ta 1), .int (Tv 0), .int vy_2, .int x_353, .int r_259, .int (Tv 4)])), ((Ta 1), .inl (tc 0, 400, .inl (Tf 1)))] H := hP
                      have hD : va_D A [((Ta 0), .inr (10, [.ref (Ta 1), .int (Tv 0), .int vy_2, .int x_353, .int r_259, .int (Tv 4)])), ((Ta 1), .inl (tc 0, 400, .inl (Tf 1)))] := hD
                      refine lv_goto (tgt := 86) hx hb dX10_step_121 (by decide) ?_
                      have hb_354 : 0 ≤ (x_353 : Int32).toInt ∧ (400 - (x_353 : Int32).toInt).toNat < n_333 := by
                        have z_1 := Int32.lt_iff_toInt_lt.mp (Int32.not_le.mp c_9)
                        have z_2 : ¬ (r_184 : Int32).toInt = (32 : Int32).toInt := fun z => c_186 (Int32.toInt_inj.mp z)
                        have z_3 := congrArg Int32.toInt c_187
                        have z_4 : ¬ (r_264 : Int32).toInt = (0 : Int32).toInt := fun z => c_266 (Int32.toInt_inj.mp z)
                        have z_5 := Int32.lt_iff_toInt_lt.mp (Int32.not_le.mp c_339)
                        have z_6 : ¬ (r_349 : Int32).toInt = (0 : Int32).toInt := fun z => c_351 (Int32.toInt_inj.mp z)
                        have y_0 : (0 : Int32).toInt = 0 := by decide
                        have y_32 : (32 : Int32).toInt = 32 := by decide
                        have y_1 : (1 : Int32).toInt = 1 := by decide
                        have t_x_353 : x_353.toInt = (vy_332 : Int32).toInt + (1 : Int32).toInt := by rw [ex_353]; exact add_toInt (by omega) (by omega)
                        omega
                      have hv_355 : (x_353 : Int32).toInt ≤ 400 := by
                        have z_1 := Int32.lt_iff_toInt_lt.mp (Int32.not_le.mp c_9)
                        have z_2 : ¬ (r_184 : Int32).toInt = (32 : Int32).toInt := fun z => c_186 (Int32.toInt_inj.mp z)
                        have z_3 := congrArg Int32.toInt c_187
                        have z_4 : ¬ (r_264 : Int32).toInt = (0 : Int32).toInt := fun z => c_266 (Int32.toInt_inj.mp z)
                        have z_5 := Int32.lt_iff_toInt_lt.mp (Int32.not_le.mp c_339)
                        have z_6 : ¬ (r_349 : Int32).toInt = (0 : Int32).toInt := fun z => c_351 (Int32.toInt_inj.mp z)
                        have y_0 : (0 : Int32).toInt = 0 := by decide
                        have y_32 : (32 : Int32).toInt = 32 := by decide
                        have y_1 : (1 : Int32).toInt = 1 := by decide
                        have t_x_353 : x_353.toInt = (vy_332 : Int32).toInt + (1 : Int32).toInt := by rw [ex_353]; exact add_toInt (by omega) (by omega)
                        omega
                      exact ih_334 x_353 _ _ _ hb_354.1 hb_354.2 hv_355 (hP.sub [0, 1] rfl) (hD.sub [0, 1] rfl rfl) hS (lv_sub hl [0] rfl)
              have h0_356 : 0 ≤ (vy_2 : Int32).toInt := by
                have z_1 := Int32.lt_iff_toInt_lt.mp (Int32.not_le.mp c_9)
                have z_2 : ¬ (r_184 : Int32).toInt = (32 : Int32).toInt := fun z => c_186 (Int32.toInt_inj.mp z)
                have z_3 := congrArg Int32.toInt c_187
                have z_4 : ¬ (r_264 : Int32).toInt = (0 : Int32).toInt := fun z => c_266 (Int32.toInt_inj.mp z)
                have y_0 : (0 : Int32).toInt = 0 := by decide
                have y_32 : (32 : Int32).toInt = 32 := by decide
                omega
              have hv_357 : (vy_2 : Int32).toInt ≤ 400 := by
                have z_1 := Int32.lt_iff_toInt_lt.mp (Int32.not_le.mp c_9)
                have z_2 : ¬ (r_184 : Int32).toInt = (32 : Int32).toInt := fun z => c_186 (Int32.toInt_inj.mp z)
                have z_3 := congrArg Int32.toInt c_187
                have z_4 : ¬ (r_264 : Int32).toInt = (0 : Int32).toInt := fun z => c_266 (Int32.toInt_inj.mp z)
                have y_0 : (0 : Int32).toInt = 0 := by decide
                have y_32 : (32 : Int32).toInt = 32 := by decide
                omega
              exact loop_335 _ vy_2 _ _ _ h0_356 (Nat.lt_succ_self _) hv_357 hP hD hS hl
        · skip
          refine lv_aload_n hx hb dX10_step_32 rfl (lv_at hl 0 rfl) ?_
          refine lv_dup hx hb dX10_step_33 rfl ?_
          refine gf_X10_19 hx hb hts hown hK hP 0 rfl rfl dX10_step_34 ?_
          refine lv_iconst (v := 1) hx hb dX10_step_37 (by decide) ?_
          refine lv_iadd hx hb dX10_step_38 ?_
          refine lv_topi (fun x_358 ex_358 => ?_)
          refine pf_X10_19 hx hb hts hown hK hP hD hS 0 rfl (Nat.le_of_ble_eq_true rfl) rfl rfl dX10_step_39 (fun H locs hP hD hS => ?_)
          have hP : va_P D classes [((Ta 0), .inr (10, [.ref (Ta 1), .int (Tv 0), .int x_358, .int (Tv 2), .int (Tv 3), .int (Tv 4)])), ((Ta 1), .inl (tc 0, 400, .inl (Tf 1)))] H := hP
          have hD : va_D A [((Ta 0), .inr (10, [.ref (Ta 1), .int (Tv 0), .int x_358, .int (Tv 2), .int (Tv 3), .int (Tv 4)])), ((Ta 1), .inl (tc 0, 400, .inl (Tf 1)))] := hD
          refine lv_goto (tgt := 8) hx hb dX10_step_42 (by decide) ?_
          have hb_359 : 0 ≤ (x_358 : Int32).toInt ∧ (400 - (x_358 : Int32).toInt).toNat < n_3 := by
            have z_1 := Int32.lt_iff_toInt_lt.mp (Int32.not_le.mp c_9)
            have z_2 := congrArg Int32.toInt c_186
            have y_32 : (32 : Int32).toInt = 32 := by decide
            have y_1 : (1 : Int32).toInt = 1 := by decide
            have t_x_358 : x_358.toInt = (vy_2 : Int32).toInt + (1 : Int32).toInt := by rw [ex_358]; exact add_toInt (by omega) (by omega)
            omega
          have hv_360 : (x_358 : Int32).toInt ≤ 400 := by
            have z_1 := Int32.lt_iff_toInt_lt.mp (Int32.not_le.mp c_9)
            have z_2 := congrArg Int32.toInt c_186
            have y_32 : (32 : Int32).toInt = 32 := by decide
            have y_1 : (1 : Int32).toInt = 1 := by decide
            have t_x_358 : x_358.toInt = (vy_2 : Int32).toInt + (1 : Int32).toInt := by rw [ex_358]; exact add_toInt (by omega) (by omega)
            omega
          exact ih_4 x_358 _ _ _ hb_359.1 hb_359.2 hv_360 (hP.sub [0, 1] rfl) (hD.sub [0, 1] rfl rfl) hS (lv_sub hl [0] rfl)
  have h0_361 : 0 ≤ ((Tv 2) : Int32).toInt := by
    omega
  have hv_362 : ((Tv 2) : Int32).toInt ≤ 400 := by
    omega
  exact loop_5 _ (Tv 2) _ _ _ h0_361 (Nat.lt_succ_self _) hv_362 hP hD hS hl
set_option maxRecDepth 100000 in
theorem cu_X10_step (l : Launch) (D : va_G) (tc : Nat → ClassId) (sk : (Nat → Nat) × (Nat → Nat)) (Ta_0 : Nat) (Ta_1 : Nat) (Tv_0 : Int32) (Tv_1 : Int32) (Tv_2 : Int32) (Tv_3 : Int32) (Tv_4 : Int32) (Tf_1 : Nat → Int32) (h_tape : 0 ≤ (Tv_0 : Int32).toInt ∧ (Tv_0 : Int32).toInt ≤ 400 ∧ 0 ≤ (Tv_1 : Int32).toInt ∧ (Tv_1 : Int32).toInt ≤ 400 ∧ 0 ≤ (Tv_2 : Int32).toInt ∧ (Tv_2 : Int32).toInt ≤ 400) : Ct l yX10_step cX10_step 2 none { frames := 1, cells := 0, slots := 0, locals := 21 } D tc sk [.ref Ta_0] [(Ta_0, .inr (10, [.ref Ta_1, .int Tv_0, .int Tv_1, .int Tv_2, .int Tv_3, .int Tv_4])), (Ta_1, .inl (tc 0, 400, .inl Tf_1))] (fun (v : Option Value) (u : (Int32) × (Int32) × (Int32)) => match u with | (o1, o2, o3) => v = none ∧ (0 ≤ (Tv_0 : Int32).toInt ∧ (Tv_0 : Int32).toInt ≤ 400 ∧ 0 ≤ (o1 : Int32).toInt ∧ (o1 : Int32).toInt ≤ 400 ∧ 0 ≤ (o2 : Int32).toInt ∧ (o2 : Int32).toInt ≤ 400)) (fun (u : (Int32) × (Int32) × (Int32)) => match u with | (o1, o2, o3) => [(Ta_0, .inr (10, [.ref Ta_1, .int Tv_0, .int o1, .int o2, .int o3, .int Tv_4])), (Ta_1, .inl (tc 0, 400, .inl Tf_1))]) 0 0 :=
  ct_X10_step l D tc sk (fun k => ([Ta_0, Ta_1] : List (Nat)).getD k 0) (fun k => ([Tv_0, Tv_1, Tv_2, Tv_3, Tv_4] : List (Int32)).getD k 0) (fun k => ([(fun _ => 0), Tf_1] : List (Nat → Int32)).getD k (fun _ => 0)) h_tape
set_option maxHeartbeats 4000000 in
set_option maxRecDepth 100000 in
theorem ct_X10_begin (l : Launch) (D : va_G) (tc : Nat → ClassId) (sk : (Nat → Nat) × (Nat → Nat)) (Ta : Nat → Nat) (Tv : Nat → Int32) (Tf : Nat → Nat → Int32) (h_tape : 0 ≤ ((Tv 0) : Int32).toInt ∧ ((Tv 0) : Int32).toInt ≤ 400 ∧ 0 ≤ ((Tv 1) : Int32).toInt ∧ ((Tv 1) : Int32).toInt ≤ 400 ∧ 0 ≤ ((Tv 2) : Int32).toInt ∧ ((Tv 2) : Int32).toInt ≤ 400) : Ct l yX10_begin cX10_begin 1 none { frames := 2, cells := 0, slots := 0, locals := 42 } D tc sk [.ref (Ta 0)] [((Ta 0), .inr (10, [.ref (Ta 1), .int (Tv 0), .int (Tv 1), .int (Tv 2), .int (Tv 3), .int (Tv 4)])), ((Ta 1), .inl (tc 0, 400, .inl (Tf 1)))] (fun (v : Option Value) (u : (Int32) × (Int32) × (Int32)) => match u with | (o1, o2, o3) => v = none ∧ (0 ≤ ((Tv 0) : Int32).toInt ∧ ((Tv 0) : Int32).toInt ≤ 400 ∧ 0 ≤ (o1 : Int32).toInt ∧ (o1 : Int32).toInt ≤ 400 ∧ 0 ≤ (o2 : Int32).toInt ∧ (o2 : Int32).toInt ≤ 400)) (fun (u : (Int32) × (Int32) × (Int32)) => match u with | (o1, o2, o3) => [((Ta 0), .inr (10, [.ref (Ta 1), .int (Tv 0), .int o1, .int o2, .int o3, .int 0])), ((Ta 1), .inl (tc 0, 400, .inl (Tf 1)))]) 0 0 := by
  refine Ct.start (by decide) (Nat.le_of_ble_eq_true rfl) (fun p e s m below meth c A ls hx hb hr hlk hin hml hown hts hK hX hP hD hA hl hS => ?_)
  have hl : lv_has ls 1 [(0, .ref (Ta 0))] := hl
  refine lv_aload_n hx hb dX10_begin_0 rfl (lv_at hl 0 rfl) ?_
  refine lv_iconst (v := 0) hx hb dX10_begin_1 (by decide) ?_
  refine pf_X10_28 hx hb hts hown hK hP hD hS 0 rfl (Nat.le_of_ble_eq_true rfl) rfl rfl dX10_begin_2 (fun H locs hP hD hS => ?_)
  have hP : va_P D classes [((Ta 0), .inr (10, [.ref (Ta 1), .int (Tv 0), .int (Tv 1), .int (Tv 2), .int (Tv 3), .int 0])), ((Ta 1), .inl (tc 0, 400, .inl (Tf 1)))] H := hP
  have hD : va_D A [((Ta 0), .inr (10, [.ref (Ta 1), .int (Tv 0), .int (Tv 1), .int (Tv 2), .int (Tv 3), .int 0])), ((Ta 1), .inl (tc 0, 400, .inl (Tf 1)))] := hD
  refine lv_aload_n hx hb dX10_begin_5 rfl (lv_at hl 0 rfl) ?_
  refine lv_iconst (v := 0) hx hb dX10_begin_6 (by decide) ?_
  refine pf_X10_22 hx hb hts hown hK hP hD hS 0 rfl (Nat.le_of_ble_eq_true rfl) rfl rfl dX10_begin_7 (fun H locs hP hD hS => ?_)
  have hP : va_P D classes [((Ta 0), .inr (10, [.ref (Ta 1), .int (Tv 0), .int (Tv 1), .int 0, .int (Tv 3), .int 0])), ((Ta 1), .inl (tc 0, 400, .inl (Tf 1)))] H := hP
  have hD : va_D A [((Ta 0), .inr (10, [.ref (Ta 1), .int (Tv 0), .int (Tv 1), .int 0, .int (Tv 3), .int 0])), ((Ta 1), .inl (tc 0, 400, .inl (Tf 1)))] := hD
  refine lv_aload_n hx hb dX10_begin_10 rfl (lv_at hl 0 rfl) ?_
  have hh_1 : 0 ≤ ((Tv 0) : Int32).toInt ∧ ((Tv 0) : Int32).toInt ≤ 400 ∧ 0 ≤ ((Tv 1) : Int32).toInt ∧ ((Tv 1) : Int32).toInt ≤ 400 ∧ 0 ≤ ((0 : Int32) : Int32).toInt ∧ ((0 : Int32) : Int32).toInt ≤ 400 := by
    have y_0 : (0 : Int32).toInt = 0 := by decide
    first | assumption | omega
  refine cV (a := (Ta 0)) (As := []) (rest := []) (wr := []) ⟨hx, hb, hml, hown, hts⟩ hK hX hA (cu_X10_step l D tc sk (Ta 0) (Ta 1) (Tv 0) (Tv 1) 0 (Tv 3) 0 (Tf 1) hh_1) k_478 k_475 k_476 k_477 k_96 pl_X10_step ⟨Nat.le_of_ble_eq_true rfl, Nat.le_of_ble_eq_true rfl⟩ rfl rfl (va_recv hK hP (ci := 10) (q0 := 0) rfl rfl) hP hD hS [0, 1] [] rfl rfl rfl rfl rfl (by decide) rfl hl.1 rfl (Nat.le_of_ble_eq_true rfl) dX10_begin_11 ⟨Nat.le_of_ble_eq_true rfl, Nat.le_of_ble_eq_true rfl⟩ (fun v_2 u_3 H locs hv_4 hP hD hS => ?_)
  obtain ⟨sv_5, sv_6, sv_7⟩ := u_3
  obtain ⟨rfl, he_8⟩ := hv_4
  have he_8 : (0 ≤ ((Tv 0) : Int32).toInt ∧ ((Tv 0) : Int32).toInt ≤ 400 ∧ 0 ≤ (sv_5 : Int32).toInt ∧ (sv_5 : Int32).toInt ≤ 400 ∧ 0 ≤ (sv_6 : Int32).toInt ∧ (sv_6 : Int32).toInt ≤ 400) := he_8
  refine W.eq (g2 := F0 m 14 ls []) rfl ?_
  have hP : va_P D classes [((Ta 0), .inr (10, [.ref (Ta 1), .int (Tv 0), .int sv_5, .int sv_6, .int sv_7, .int 0])), ((Ta 1), .inl (tc 0, 400, .inl (Tf 1)))] H := hP
  have hD : va_D A [((Ta 0), .inr (10, [.ref (Ta 1), .int (Tv 0), .int sv_5, .int sv_6, .int sv_7, .int 0])), ((Ta 1), .inl (tc 0, 400, .inl (Tf 1)))] := hD
  have hq_9 : 0 ≤ ((Tv 0) : Int32).toInt ∧ ((Tv 0) : Int32).toInt ≤ 400 ∧ 0 ≤ (sv_5 : Int32).toInt ∧ (sv_5 : Int32).toInt ≤ 400 ∧ 0 ≤ (sv_6 : Int32).toInt ∧ (sv_6 : Int32).toInt ≤ 400 := by
    first | assumption | omega
  exact retV hx hb hr hlk hP hD hS (sv_5, sv_6, sv_7) ⟨rfl, hq_9⟩ [0, 1] rfl rfl dX10_begin_14 (Nat.le_of_ble_eq_true rfl) (Nat.le_of_ble_eq_true rfl) rfl
set_option maxRecDepth 100000 in
theorem cu_X10_begin (l : Launch) (D : va_G) (tc : Nat → ClassId) (sk : (Nat → Nat) × (Nat → Nat)) (Ta_0 : Nat) (Ta_1 : Nat) (Tv_0 : Int32) (Tv_1 : Int32) (Tv_2 : Int32) (Tv_3 : Int32) (Tv_4 : Int32) (Tf_1 : Nat → Int32) (h_tape : 0 ≤ (Tv_0 : Int32).toInt ∧ (Tv_0 : Int32).toInt ≤ 400 ∧ 0 ≤ (Tv_1 : Int32).toInt ∧ (Tv_1 : Int32).toInt ≤ 400 ∧ 0 ≤ (Tv_2 : Int32).toInt ∧ (Tv_2 : Int32).toInt ≤ 400) : Ct l yX10_begin cX10_begin 1 none { frames := 2, cells := 0, slots := 0, locals := 42 } D tc sk [.ref Ta_0] [(Ta_0, .inr (10, [.ref Ta_1, .int Tv_0, .int Tv_1, .int Tv_2, .int Tv_3, .int Tv_4])), (Ta_1, .inl (tc 0, 400, .inl Tf_1))] (fun (v : Option Value) (u : (Int32) × (Int32) × (Int32)) => match u with | (o1, o2, o3) => v = none ∧ (0 ≤ (Tv_0 : Int32).toInt ∧ (Tv_0 : Int32).toInt ≤ 400 ∧ 0 ≤ (o1 : Int32).toInt ∧ (o1 : Int32).toInt ≤ 400 ∧ 0 ≤ (o2 : Int32).toInt ∧ (o2 : Int32).toInt ≤ 400)) (fun (u : (Int32) × (Int32) × (Int32)) => match u with | (o1, o2, o3) => [(Ta_0, .inr (10, [.ref Ta_1, .int Tv_0, .int o1, .int o2, .int o3, .int 0])), (Ta_1, .inl (tc 0, 400, .inl Tf_1))]) 0 0 :=
  ct_X10_begin l D tc sk (fun k => ([Ta_0, Ta_1] : List (Nat)).getD k 0) (fun k => ([Tv_0, Tv_1, Tv_2, Tv_3, Tv_4] : List (Int32)).getD k 0) (fun k => ([(fun _ => 0), Tf_1] : List (Nat → Int32)).getD k (fun _ => 0)) h_tape
set_option maxHeartbeats 4000000 in
set_option maxRecDepth 100000 in
theorem ct_X10_fail (l : Launch) (D : va_G) (tc : Nat → ClassId) (sk : (Nat → Nat) × (Nat → Nat)) (Ta : Nat → Nat) (Tv : Nat → Int32) (Tf : Nat → Nat → Int32) (x1 : Int32) (h_tape : 0 ≤ ((Tv 0) : Int32).toInt ∧ ((Tv 0) : Int32).toInt ≤ 400 ∧ 0 ≤ ((Tv 1) : Int32).toInt ∧ ((Tv 1) : Int32).toInt ≤ 400 ∧ 0 ≤ ((Tv 2) : Int32).toInt ∧ ((Tv 2) : Int32).toInt ≤ 400) : Ct l yX10_fail cX10_fail 2 none { frames := 0, cells := 0, slots := 0, locals := 0 } D tc sk [.ref (Ta 0), .int x1] [((Ta 0), .inr (10, [.ref (Ta 1), .int (Tv 0), .int (Tv 1), .int (Tv 2), .int (Tv 3), .int (Tv 4)])), ((Ta 1), .inl (tc 0, 400, .inl (Tf 1)))] (fun (v : Option Value) (u : (Int32) × (Int32)) => match u with | (o1, o2) => v = none ∧ (0 ≤ ((Tv 0) : Int32).toInt ∧ ((Tv 0) : Int32).toInt ≤ 400 ∧ 0 ≤ ((Tv 1) : Int32).toInt ∧ ((Tv 1) : Int32).toInt ≤ 400 ∧ 0 ≤ ((Tv 2) : Int32).toInt ∧ ((Tv 2) : Int32).toInt ≤ 400)) (fun (u : (Int32) × (Int32)) => match u with | (o1, o2) => [((Ta 0), .inr (10, [.ref (Ta 1), .int (Tv 0), .int (Tv 1), .int (Tv 2), .int o1, .int o2])), ((Ta 1), .inl (tc 0, 400, .inl (Tf 1)))]) 0 0 := by
  refine Ct.start (by decide) (Nat.le_of_ble_eq_true rfl) (fun p e s m below meth c A ls hx hb hr hlk hin hml hown hts hK hX hP hD hA hl hS => ?_)
  have hl : lv_has ls 2 [(0, .ref (Ta 0)), (1, .int x1)] := hl
  refine lv_aload_n hx hb dX10_fail_0 rfl (lv_at hl 0 rfl) ?_
  refine gf_X10_28 hx hb hts hown hK hP 0 rfl rfl dX10_fail_1 ?_
  refine lv_if_ne (tgt := 27) hx hb dX10_fail_4 (by decide) (fun c_1 => ?_) (fun c_1 => ?_)
  · skip
    have hq_2 : 0 ≤ ((Tv 0) : Int32).toInt ∧ ((Tv 0) : Int32).toInt ≤ 400 ∧ 0 ≤ ((Tv 1) : Int32).toInt ∧ ((Tv 1) : Int32).toInt ≤ 400 ∧ 0 ≤ ((Tv 2) : Int32).toInt ∧ ((Tv 2) : Int32).toInt ≤ 400 := by
      have z_1 : ¬ ((Tv 4) : Int32).toInt = (0 : Int32).toInt := fun z => c_1 (Int32.toInt_inj.mp z)
      have y_0 : (0 : Int32).toInt = 0 := by decide
      first | assumption | omega
    exact retV hx hb hr hlk hP hD hS ((Tv 3), (Tv 4)) ⟨rfl, hq_2⟩ [0, 1] rfl rfl dX10_fail_27 (Nat.le_of_ble_eq_true rfl) (Nat.le_of_ble_eq_true rfl) rfl
  · skip
    refine lv_aload_n hx hb dX10_fail_7 rfl (lv_at hl 0 rfl) ?_
    refine lv_iconst (v := 1) hx hb dX10_fail_8 (by decide) ?_
    refine lv_bipush (v := 8) hx hb dX10_fail_9 (by decide) ?_
    refine lv_aload_n hx hb dX10_fail_11 rfl (lv_at hl 0 rfl) ?_
    refine gf_X10_19 hx hb hts hown hK hP 0 rfl rfl dX10_fail_12 ?_
    refine lv_imul hx hb dX10_fail_15 ?_
    refine lv_topi (fun x_3 ex_3 => ?_)
    refine lv_iadd hx hb dX10_fail_16 ?_
    refine lv_topi (fun x_4 ex_4 => ?_)
    refine lv_iload_n hx hb dX10_fail_17 rfl (lv_at hl 1 rfl) ?_
    refine lv_iadd hx hb dX10_fail_18 ?_
    refine lv_topi (fun x_5 ex_5 => ?_)
    refine pf_X10_28 hx hb hts hown hK hP hD hS 0 rfl (Nat.le_of_ble_eq_true rfl) rfl rfl dX10_fail_19 (fun H locs hP hD hS => ?_)
    have hP : va_P D classes [((Ta 0), .inr (10, [.ref (Ta 1), .int (Tv 0), .int (Tv 1), .int (Tv 2), .int (Tv 3), .int x_5])), ((Ta 1), .inl (tc 0, 400, .inl (Tf 1)))] H := hP
    have hD : va_D A [((Ta 0), .inr (10, [.ref (Ta 1), .int (Tv 0), .int (Tv 1), .int (Tv 2), .int (Tv 3), .int x_5])), ((Ta 1), .inl (tc 0, 400, .inl (Tf 1)))] := hD
    refine lv_aload_n hx hb dX10_fail_22 rfl (lv_at hl 0 rfl) ?_
    refine lv_iconst (v := (-1)) hx hb dX10_fail_23 (by decide) ?_
    refine pf_X10_25 hx hb hts hown hK hP hD hS 0 rfl (Nat.le_of_ble_eq_true rfl) rfl rfl dX10_fail_24 (fun H locs hP hD hS => ?_)
    have hP : va_P D classes [((Ta 0), .inr (10, [.ref (Ta 1), .int (Tv 0), .int (Tv 1), .int (Tv 2), .int (-1), .int x_5])), ((Ta 1), .inl (tc 0, 400, .inl (Tf 1)))] H := hP
    have hD : va_D A [((Ta 0), .inr (10, [.ref (Ta 1), .int (Tv 0), .int (Tv 1), .int (Tv 2), .int (-1), .int x_5])), ((Ta 1), .inl (tc 0, 400, .inl (Tf 1)))] := hD
    have hq_6 : 0 ≤ ((Tv 0) : Int32).toInt ∧ ((Tv 0) : Int32).toInt ≤ 400 ∧ 0 ≤ ((Tv 1) : Int32).toInt ∧ ((Tv 1) : Int32).toInt ≤ 400 ∧ 0 ≤ ((Tv 2) : Int32).toInt ∧ ((Tv 2) : Int32).toInt ≤ 400 := by
      have z_1 := congrArg Int32.toInt c_1
      have y_0 : (0 : Int32).toInt = 0 := by decide
      first | assumption | omega
    exact retV hx hb hr hlk hP hD hS ((-1), x_5) ⟨rfl, hq_6⟩ [0, 1] rfl rfl dX10_fail_27 (Nat.le_of_ble_eq_true rfl) (Nat.le_of_ble_eq_true rfl) rfl
set_option maxRecDepth 100000 in
theorem cu_X10_fail (l : Launch) (D : va_G) (tc : Nat → ClassId) (sk : (Nat → Nat) × (Nat → Nat)) (Ta_0 : Nat) (Ta_1 : Nat) (Tv_0 : Int32) (Tv_1 : Int32) (Tv_2 : Int32) (Tv_3 : Int32) (Tv_4 : Int32) (Tf_1 : Nat → Int32) (x1 : Int32) (h_tape : 0 ≤ (Tv_0 : Int32).toInt ∧ (Tv_0 : Int32).toInt ≤ 400 ∧ 0 ≤ (Tv_1 : Int32).toInt ∧ (Tv_1 : Int32).toInt ≤ 400 ∧ 0 ≤ (Tv_2 : Int32).toInt ∧ (Tv_2 : Int32).toInt ≤ 400) : Ct l yX10_fail cX10_fail 2 none { frames := 0, cells := 0, slots := 0, locals := 0 } D tc sk [.ref Ta_0, .int x1] [(Ta_0, .inr (10, [.ref Ta_1, .int Tv_0, .int Tv_1, .int Tv_2, .int Tv_3, .int Tv_4])), (Ta_1, .inl (tc 0, 400, .inl Tf_1))] (fun (v : Option Value) (u : (Int32) × (Int32)) => match u with | (o1, o2) => v = none ∧ (0 ≤ (Tv_0 : Int32).toInt ∧ (Tv_0 : Int32).toInt ≤ 400 ∧ 0 ≤ (Tv_1 : Int32).toInt ∧ (Tv_1 : Int32).toInt ≤ 400 ∧ 0 ≤ (Tv_2 : Int32).toInt ∧ (Tv_2 : Int32).toInt ≤ 400)) (fun (u : (Int32) × (Int32)) => match u with | (o1, o2) => [(Ta_0, .inr (10, [.ref Ta_1, .int Tv_0, .int Tv_1, .int Tv_2, .int o1, .int o2])), (Ta_1, .inl (tc 0, 400, .inl Tf_1))]) 0 0 :=
  ct_X10_fail l D tc sk (fun k => ([Ta_0, Ta_1] : List (Nat)).getD k 0) (fun k => ([Tv_0, Tv_1, Tv_2, Tv_3, Tv_4] : List (Int32)).getD k 0) (fun k => ([(fun _ => 0), Tf_1] : List (Nat → Int32)).getD k (fun _ => 0)) x1 h_tape
set_option maxHeartbeats 4000000 in
set_option maxRecDepth 100000 in
theorem ct_X10_finish (l : Launch) (D : va_G) (tc : Nat → ClassId) (sk : (Nat → Nat) × (Nat → Nat)) (Ta : Nat → Nat) (Tv : Nat → Int32) (Tf : Nat → Nat → Int32) (h_tape : 0 ≤ ((Tv 0) : Int32).toInt ∧ ((Tv 0) : Int32).toInt ≤ 400 ∧ 0 ≤ ((Tv 1) : Int32).toInt ∧ ((Tv 1) : Int32).toInt ≤ 400 ∧ 0 ≤ ((Tv 2) : Int32).toInt ∧ ((Tv 2) : Int32).toInt ≤ 400) : Ct l yX10_finish cX10_finish 1 none { frames := 1, cells := 0, slots := 0, locals := 21 } D tc sk [.ref (Ta 0)] [((Ta 0), .inr (10, [.ref (Ta 1), .int (Tv 0), .int (Tv 1), .int (Tv 2), .int (Tv 3), .int (Tv 4)])), ((Ta 1), .inl (tc 0, 400, .inl (Tf 1)))] (fun (v : Option Value) (u : (Int32) × (Int32)) => match u with | (o1, o2) => v = none ∧ (0 ≤ ((Tv 0) : Int32).toInt ∧ ((Tv 0) : Int32).toInt ≤ 400 ∧ 0 ≤ ((Tv 1) : Int32).toInt ∧ ((Tv 1) : Int32).toInt ≤ 400 ∧ 0 ≤ ((Tv 2) : Int32).toInt ∧ ((Tv 2) : Int32).toInt ≤ 400)) (fun (u : (Int32) × (Int32)) => match u with | (o1, o2) => [((Ta 0), .inr (10, [.ref (Ta 1), .int (Tv 0), .int (Tv 1), .int (Tv 2), .int o1, .int o2])), ((Ta 1), .inl (tc 0, 400, .inl (Tf 1)))]) 0 0 := by
  refine Ct.start (by decide) (Nat.le_of_ble_eq_true rfl) (fun p e s m below meth c A ls hx hb hr hlk hin hml hown hts hK hX hP hD hA hl hS => ?_)
  have hl : lv_has ls 1 [(0, .ref (Ta 0))] := hl
  refine lv_aload_n hx hb dX10_finish_0 rfl (lv_at hl 0 rfl) ?_
  refine gf_X10_19 hx hb hts hown hK hP 0 rfl rfl dX10_finish_1 ?_
  refine lv_aload_n hx hb dX10_finish_4 rfl (lv_at hl 0 rfl) ?_
  refine gf_X10_15 hx hb hts hown hK hP 0 rfl rfl dX10_finish_5 ?_
  refine lv_icmp_ge (tgt := 16) hx hb dX10_finish_8 (by decide) (fun c_1 => ?_) (fun c_1 => ?_)
  · skip
    have hq_2 : 0 ≤ ((Tv 0) : Int32).toInt ∧ ((Tv 0) : Int32).toInt ≤ 400 ∧ 0 ≤ ((Tv 1) : Int32).toInt ∧ ((Tv 1) : Int32).toInt ≤ 400 ∧ 0 ≤ ((Tv 2) : Int32).toInt ∧ ((Tv 2) : Int32).toInt ≤ 400 := by
      have z_1 := Int32.le_iff_toInt_le.mp c_1
      first | assumption | omega
    exact retV hx hb hr hlk hP hD hS ((Tv 3), (Tv 4)) ⟨rfl, hq_2⟩ [0, 1] rfl rfl dX10_finish_16 (Nat.le_of_ble_eq_true rfl) (Nat.le_of_ble_eq_true rfl) rfl
  · skip
    refine lv_aload_n hx hb dX10_finish_11 rfl (lv_at hl 0 rfl) ?_
    refine lv_iconst (v := 0) hx hb dX10_finish_12 (by decide) ?_
    have hh_3 : 0 ≤ ((Tv 0) : Int32).toInt ∧ ((Tv 0) : Int32).toInt ≤ 400 ∧ 0 ≤ ((Tv 1) : Int32).toInt ∧ ((Tv 1) : Int32).toInt ≤ 400 ∧ 0 ≤ ((Tv 2) : Int32).toInt ∧ ((Tv 2) : Int32).toInt ≤ 400 := by
      have z_1 := Int32.lt_iff_toInt_lt.mp (Int32.not_le.mp c_1)
      first | assumption | omega
    refine cV (a := (Ta 0)) (As := [.int 0]) (rest := []) (wr := []) ⟨hx, hb, hml, hown, hts⟩ hK hX hA (cu_X10_fail l D tc sk (Ta 0) (Ta 1) (Tv 0) (Tv 1) (Tv 2) (Tv 3) (Tv 4) (Tf 1) 0 hh_3) k_557 k_571 k_555 k_556 k_96 pl_X10_fail ⟨Nat.le_of_ble_eq_true rfl, Nat.le_of_ble_eq_true rfl⟩ rfl rfl (va_recv hK hP (ci := 10) (q0 := 0) rfl rfl) hP hD hS [0, 1] [] rfl rfl rfl rfl rfl (by decide) rfl hl.1 rfl (Nat.le_of_ble_eq_true rfl) dX10_finish_13 ⟨Nat.le_of_ble_eq_true rfl, Nat.le_of_ble_eq_true rfl⟩ (fun v_4 u_5 H locs hv_6 hP hD hS => ?_)
    obtain ⟨sv_7, sv_8⟩ := u_5
    obtain ⟨rfl, he_9⟩ := hv_6
    have he_9 : (0 ≤ ((Tv 0) : Int32).toInt ∧ ((Tv 0) : Int32).toInt ≤ 400 ∧ 0 ≤ ((Tv 1) : Int32).toInt ∧ ((Tv 1) : Int32).toInt ≤ 400 ∧ 0 ≤ ((Tv 2) : Int32).toInt ∧ ((Tv 2) : Int32).toInt ≤ 400) := he_9
    refine W.eq (g2 := F0 m 16 ls []) rfl ?_
    have hP : va_P D classes [((Ta 0), .inr (10, [.ref (Ta 1), .int (Tv 0), .int (Tv 1), .int (Tv 2), .int sv_7, .int sv_8])), ((Ta 1), .inl (tc 0, 400, .inl (Tf 1)))] H := hP
    have hD : va_D A [((Ta 0), .inr (10, [.ref (Ta 1), .int (Tv 0), .int (Tv 1), .int (Tv 2), .int sv_7, .int sv_8])), ((Ta 1), .inl (tc 0, 400, .inl (Tf 1)))] := hD
    have hq_10 : 0 ≤ ((Tv 0) : Int32).toInt ∧ ((Tv 0) : Int32).toInt ≤ 400 ∧ 0 ≤ ((Tv 1) : Int32).toInt ∧ ((Tv 1) : Int32).toInt ≤ 400 ∧ 0 ≤ ((Tv 2) : Int32).toInt ∧ ((Tv 2) : Int32).toInt ≤ 400 := by
      have z_1 := Int32.lt_iff_toInt_lt.mp (Int32.not_le.mp c_1)
      first | assumption | omega
    exact retV hx hb hr hlk hP hD hS (sv_7, sv_8) ⟨rfl, hq_10⟩ [0, 1] rfl rfl dX10_finish_16 (Nat.le_of_ble_eq_true rfl) (Nat.le_of_ble_eq_true rfl) rfl
set_option maxRecDepth 100000 in
theorem cu_X10_finish (l : Launch) (D : va_G) (tc : Nat → ClassId) (sk : (Nat → Nat) × (Nat → Nat)) (Ta_0 : Nat) (Ta_1 : Nat) (Tv_0 : Int32) (Tv_1 : Int32) (Tv_2 : Int32) (Tv_3 : Int32) (Tv_4 : Int32) (Tf_1 : Nat → Int32) (h_tape : 0 ≤ (Tv_0 : Int32).toInt ∧ (Tv_0 : Int32).toInt ≤ 400 ∧ 0 ≤ (Tv_1 : Int32).toInt ∧ (Tv_1 : Int32).toInt ≤ 400 ∧ 0 ≤ (Tv_2 : Int32).toInt ∧ (Tv_2 : Int32).toInt ≤ 400) : Ct l yX10_finish cX10_finish 1 none { frames := 1, cells := 0, slots := 0, locals := 21 } D tc sk [.ref Ta_0] [(Ta_0, .inr (10, [.ref Ta_1, .int Tv_0, .int Tv_1, .int Tv_2, .int Tv_3, .int Tv_4])), (Ta_1, .inl (tc 0, 400, .inl Tf_1))] (fun (v : Option Value) (u : (Int32) × (Int32)) => match u with | (o1, o2) => v = none ∧ (0 ≤ (Tv_0 : Int32).toInt ∧ (Tv_0 : Int32).toInt ≤ 400 ∧ 0 ≤ (Tv_1 : Int32).toInt ∧ (Tv_1 : Int32).toInt ≤ 400 ∧ 0 ≤ (Tv_2 : Int32).toInt ∧ (Tv_2 : Int32).toInt ≤ 400)) (fun (u : (Int32) × (Int32)) => match u with | (o1, o2) => [(Ta_0, .inr (10, [.ref Ta_1, .int Tv_0, .int Tv_1, .int Tv_2, .int o1, .int o2])), (Ta_1, .inl (tc 0, 400, .inl Tf_1))]) 0 0 :=
  ct_X10_finish l D tc sk (fun k => ([Ta_0, Ta_1] : List (Nat)).getD k 0) (fun k => ([Tv_0, Tv_1, Tv_2, Tv_3, Tv_4] : List (Int32)).getD k 0) (fun k => ([(fun _ => 0), Tf_1] : List (Nat → Int32)).getD k (fun _ => 0)) h_tape
set_option maxHeartbeats 4000000 in
set_option maxRecDepth 100000 in
theorem ct_X10_takes (l : Launch) (D : va_G) (tc : Nat → ClassId) (sk : (Nat → Nat) × (Nat → Nat)) (Ta : Nat → Nat) (Tv : Nat → Int32) (Tf : Nat → Nat → Int32) (x1 : Int32) (h_tape : 0 ≤ ((Tv 0) : Int32).toInt ∧ ((Tv 0) : Int32).toInt ≤ 400 ∧ 0 ≤ ((Tv 1) : Int32).toInt ∧ ((Tv 1) : Int32).toInt ≤ 400 ∧ 0 ≤ ((Tv 2) : Int32).toInt ∧ ((Tv 2) : Int32).toInt ≤ 400) : Ct l yX10_takes cX10_takes 2 (some .boolean) { frames := 2, cells := 0, slots := 0, locals := 42 } D tc sk [.ref (Ta 0), .int x1] [((Ta 0), .inr (10, [.ref (Ta 1), .int (Tv 0), .int (Tv 1), .int (Tv 2), .int (Tv 3), .int (Tv 4)])), ((Ta 1), .inl (tc 0, 400, .inl (Tf 1)))] (fun (v : Option Value) (u : (Int32) × (Int32) × (Int32)) => match u with | (o1, o2, o3) => ∃ r : Int32, v = some (.int r) ∧ ((r.toInt = 0 ∨ (r.toInt = 1 ∧ (Tv 3).toInt = x1.toInt))) ∧ (0 ≤ ((Tv 0) : Int32).toInt ∧ ((Tv 0) : Int32).toInt ≤ 400 ∧ 0 ≤ (o1 : Int32).toInt ∧ (o1 : Int32).toInt ≤ 400 ∧ 0 ≤ (o2 : Int32).toInt ∧ (o2 : Int32).toInt ≤ 400)) (fun (u : (Int32) × (Int32) × (Int32)) => match u with | (o1, o2, o3) => [((Ta 0), .inr (10, [.ref (Ta 1), .int (Tv 0), .int o1, .int o2, .int o3, .int (Tv 4)])), ((Ta 1), .inl (tc 0, 400, .inl (Tf 1)))]) 0 0 := by
  refine Ct.start (by decide) (Nat.le_of_ble_eq_true rfl) (fun p e s m below meth c A ls hx hb hr hlk hin hml hown hts hK hX hP hD hA hl hS => ?_)
  have hl : lv_has ls 2 [(0, .ref (Ta 0)), (1, .int x1)] := hl
  refine lv_aload_n hx hb dX10_takes_0 rfl (lv_at hl 0 rfl) ?_
  refine gf_X10_25 hx hb hts hown hK hP 0 rfl rfl dX10_takes_1 ?_
  refine lv_iload_n hx hb dX10_takes_4 rfl (lv_at hl 1 rfl) ?_
  refine lv_icmp_eq (tgt := 10) hx hb dX10_takes_5 (by decide) (fun c_1 => ?_) (fun c_1 => ?_)
  · skip
    refine lv_aload_n hx hb dX10_takes_10 rfl (lv_at hl 0 rfl) ?_
    have hh_2 : 0 ≤ ((Tv 0) : Int32).toInt ∧ ((Tv 0) : Int32).toInt ≤ 400 ∧ 0 ≤ ((Tv 1) : Int32).toInt ∧ ((Tv 1) : Int32).toInt ≤ 400 ∧ 0 ≤ ((Tv 2) : Int32).toInt ∧ ((Tv 2) : Int32).toInt ≤ 400 := by
      have z_1 := congrArg Int32.toInt c_1
      first | assumption | omega
    refine cV (a := (Ta 0)) (As := []) (rest := []) (wr := []) ⟨hx, hb, hml, hown, hts⟩ hK hX hA (cu_X10_step l D tc sk (Ta 0) (Ta 1) (Tv 0) (Tv 1) (Tv 2) (Tv 3) (Tv 4) (Tf 1) hh_2) k_478 k_475 k_476 k_477 k_96 pl_X10_step ⟨Nat.le_of_ble_eq_true rfl, Nat.le_of_ble_eq_true rfl⟩ rfl rfl (va_recv hK hP (ci := 10) (q0 := 0) rfl rfl) hP hD hS [0, 1] [] rfl rfl rfl rfl rfl (by decide) rfl hl.1 rfl (Nat.le_of_ble_eq_true rfl) dX10_takes_11 ⟨Nat.le_of_ble_eq_true rfl, Nat.le_of_ble_eq_true rfl⟩ (fun v_3 u_4 H locs hv_5 hP hD hS => ?_)
    obtain ⟨sv_6, sv_7, sv_8⟩ := u_4
    obtain ⟨rfl, he_9⟩ := hv_5
    have he_9 : (0 ≤ ((Tv 0) : Int32).toInt ∧ ((Tv 0) : Int32).toInt ≤ 400 ∧ 0 ≤ (sv_6 : Int32).toInt ∧ (sv_6 : Int32).toInt ≤ 400 ∧ 0 ≤ (sv_7 : Int32).toInt ∧ (sv_7 : Int32).toInt ≤ 400) := he_9
    refine W.eq (g2 := F0 m 14 ls []) rfl ?_
    have hP : va_P D classes [((Ta 0), .inr (10, [.ref (Ta 1), .int (Tv 0), .int sv_6, .int sv_7, .int sv_8, .int (Tv 4)])), ((Ta 1), .inl (tc 0, 400, .inl (Tf 1)))] H := hP
    have hD : va_D A [((Ta 0), .inr (10, [.ref (Ta 1), .int (Tv 0), .int sv_6, .int sv_7, .int sv_8, .int (Tv 4)])), ((Ta 1), .inl (tc 0, 400, .inl (Tf 1)))] := hD
    refine lv_iconst (v := 1) hx hb dX10_takes_14 (by decide) ?_
    have hq_10 : 0 ≤ ((Tv 0) : Int32).toInt ∧ ((Tv 0) : Int32).toInt ≤ 400 ∧ 0 ≤ (sv_6 : Int32).toInt ∧ (sv_6 : Int32).toInt ≤ 400 ∧ 0 ≤ (sv_7 : Int32).toInt ∧ (sv_7 : Int32).toInt ≤ 400 := by
      have z_1 := congrArg Int32.toInt c_1
      first | assumption | omega
    have hp_11 : ((1 : Int32).toInt = 0 ∨ ((1 : Int32).toInt = 1 ∧ (Tv 3).toInt = x1.toInt)) := by
      have z_1 := congrArg Int32.toInt c_1
      have y_1 : (1 : Int32).toInt = 1 := by decide
      have yr : (1 : Int32).toInt = 1 := by decide
      omega
    exact retI (v := 1) hx hb hr hlk (rfl) hP hD hS (sv_6, sv_7, sv_8) ⟨_, rfl, hp_11, hq_10⟩ [0, 1] rfl rfl dX10_takes_15 (Nat.le_of_ble_eq_true rfl) (Nat.le_of_ble_eq_true rfl) rfl
  · skip
    refine lv_iconst (v := 0) hx hb dX10_takes_8 (by decide) ?_
    have hq_12 : 0 ≤ ((Tv 0) : Int32).toInt ∧ ((Tv 0) : Int32).toInt ≤ 400 ∧ 0 ≤ ((Tv 1) : Int32).toInt ∧ ((Tv 1) : Int32).toInt ≤ 400 ∧ 0 ≤ ((Tv 2) : Int32).toInt ∧ ((Tv 2) : Int32).toInt ≤ 400 := by
      have z_1 : ¬ ((Tv 3) : Int32).toInt = (x1 : Int32).toInt := fun z => c_1 (Int32.toInt_inj.mp z)
      first | assumption | omega
    have hp_13 : ((0 : Int32).toInt = 0 ∨ ((0 : Int32).toInt = 1 ∧ (Tv 3).toInt = x1.toInt)) := by
      have z_1 : ¬ ((Tv 3) : Int32).toInt = (x1 : Int32).toInt := fun z => c_1 (Int32.toInt_inj.mp z)
      have y_0 : (0 : Int32).toInt = 0 := by decide
      have yr : (0 : Int32).toInt = 0 := by decide
      omega
    exact retI (v := 0) hx hb hr hlk (rfl) hP hD hS ((Tv 1), (Tv 2), (Tv 3)) ⟨_, rfl, hp_13, hq_12⟩ [0, 1] rfl rfl dX10_takes_9 (Nat.le_of_ble_eq_true rfl) (Nat.le_of_ble_eq_true rfl) rfl
set_option maxRecDepth 100000 in
theorem cu_X10_takes (l : Launch) (D : va_G) (tc : Nat → ClassId) (sk : (Nat → Nat) × (Nat → Nat)) (Ta_0 : Nat) (Ta_1 : Nat) (Tv_0 : Int32) (Tv_1 : Int32) (Tv_2 : Int32) (Tv_3 : Int32) (Tv_4 : Int32) (Tf_1 : Nat → Int32) (x1 : Int32) (h_tape : 0 ≤ (Tv_0 : Int32).toInt ∧ (Tv_0 : Int32).toInt ≤ 400 ∧ 0 ≤ (Tv_1 : Int32).toInt ∧ (Tv_1 : Int32).toInt ≤ 400 ∧ 0 ≤ (Tv_2 : Int32).toInt ∧ (Tv_2 : Int32).toInt ≤ 400) : Ct l yX10_takes cX10_takes 2 (some .boolean) { frames := 2, cells := 0, slots := 0, locals := 42 } D tc sk [.ref Ta_0, .int x1] [(Ta_0, .inr (10, [.ref Ta_1, .int Tv_0, .int Tv_1, .int Tv_2, .int Tv_3, .int Tv_4])), (Ta_1, .inl (tc 0, 400, .inl Tf_1))] (fun (v : Option Value) (u : (Int32) × (Int32) × (Int32)) => match u with | (o1, o2, o3) => ∃ r : Int32, v = some (.int r) ∧ ((r.toInt = 0 ∨ (r.toInt = 1 ∧ Tv_3.toInt = x1.toInt))) ∧ (0 ≤ (Tv_0 : Int32).toInt ∧ (Tv_0 : Int32).toInt ≤ 400 ∧ 0 ≤ (o1 : Int32).toInt ∧ (o1 : Int32).toInt ≤ 400 ∧ 0 ≤ (o2 : Int32).toInt ∧ (o2 : Int32).toInt ≤ 400)) (fun (u : (Int32) × (Int32) × (Int32)) => match u with | (o1, o2, o3) => [(Ta_0, .inr (10, [.ref Ta_1, .int Tv_0, .int o1, .int o2, .int o3, .int Tv_4])), (Ta_1, .inl (tc 0, 400, .inl Tf_1))]) 0 0 :=
  ct_X10_takes l D tc sk (fun k => ([Ta_0, Ta_1] : List (Nat)).getD k 0) (fun k => ([Tv_0, Tv_1, Tv_2, Tv_3, Tv_4] : List (Int32)).getD k 0) (fun k => ([(fun _ => 0), Tf_1] : List (Nat → Int32)).getD k (fun _ => 0)) x1 h_tape
set_option maxHeartbeats 4000000 in
set_option maxRecDepth 100000 in
theorem ct_X10_numberHere (l : Launch) (D : va_G) (tc : Nat → ClassId) (sk : (Nat → Nat) × (Nat → Nat)) (Ta : Nat → Nat) (Tv : Nat → Int32) (Tf : Nat → Nat → Int32) (x1 : Int32) (x2 : Int32) (h_tape : 0 ≤ ((Tv 0) : Int32).toInt ∧ ((Tv 0) : Int32).toInt ≤ 400 ∧ 0 ≤ ((Tv 1) : Int32).toInt ∧ ((Tv 1) : Int32).toInt ≤ 400 ∧ 0 ≤ ((Tv 2) : Int32).toInt ∧ ((Tv 2) : Int32).toInt ≤ 400) : Ct l yX10_numberHere cX10_numberHere 5 (some .int) { frames := 1, cells := 0, slots := 0, locals := 21 } D tc sk [.ref (Ta 0), .int x1, .int x2] [((Ta 0), .inr (10, [.ref (Ta 1), .int (Tv 0), .int (Tv 1), .int (Tv 2), .int (Tv 3), .int (Tv 4)])), ((Ta 1), .inl (tc 0, 400, .inl (Tf 1)))] (fun (v : Option Value) (u : (Int32) × (Int32)) => match u with | (o1, o2) => ∃ r : Int32, v = some (.int r) ∧ (True) ∧ (0 ≤ ((Tv 0) : Int32).toInt ∧ ((Tv 0) : Int32).toInt ≤ 400 ∧ 0 ≤ ((Tv 1) : Int32).toInt ∧ ((Tv 1) : Int32).toInt ≤ 400 ∧ 0 ≤ ((Tv 2) : Int32).toInt ∧ ((Tv 2) : Int32).toInt ≤ 400)) (fun (u : (Int32) × (Int32)) => match u with | (o1, o2) => [((Ta 0), .inr (10, [.ref (Ta 1), .int (Tv 0), .int (Tv 1), .int (Tv 2), .int o1, .int o2])), ((Ta 1), .inl (tc 0, 400, .inl (Tf 1)))]) 0 0 := by
  refine Ct.start (by decide) (Nat.le_of_ble_eq_true rfl) (fun p e s m below meth c A ls hx hb hr hlk hin hml hown hts hK hX hP hD hA hl hS => ?_)
  have hl : lv_has ls 5 [(0, .ref (Ta 0)), (1, .int x1), (2, .int x2)] := hl
  refine lv_aload_n hx hb dX10_numberHere_0 rfl (lv_at hl 0 rfl) ?_
  refine gf_X10_25 hx hb hts hown hK hP 0 rfl rfl dX10_numberHere_1 ?_
  refine cS (As := [.int (Tv 3)]) (rest := []) (wr := [((Ta 0), .inr (10, [.ref (Ta 1), .int (Tv 0), .int (Tv 1), .int (Tv 2), .int (Tv 3), .int (Tv 4)])), ((Ta 1), .inl (tc 0, 400, .inl (Tf 1)))]) ⟨hx, hb, hml, hown, hts⟩ hK hX hA (ct_X10_isDigit l D tc sk (Tv 3)) k_488 k_486 k_487 k_96 pl_X10_isDigit ⟨Nat.le_of_ble_eq_true rfl, Nat.le_of_ble_eq_true rfl⟩ rfl rfl  hP hD hS [] [0, 1] rfl rfl rfl rfl rfl (by decide) rfl hl.1 rfl (Nat.le_of_ble_eq_true rfl) dX10_numberHere_4 ⟨Nat.le_of_ble_eq_true rfl, Nat.le_of_ble_eq_true rfl⟩ (fun v_1 u_2 H locs hv_3 hP hD hS => ?_)
  obtain ⟨r_4, rfl, he_5⟩ := hv_3
  have he_5 : ((r_4.toInt = 0 ∨ r_4.toInt = 1)) := he_5
  refine W.eq (g2 := F0 m 7 ls [.int r_4]) rfl ?_
  have hP : va_P D classes [((Ta 0), .inr (10, [.ref (Ta 1), .int (Tv 0), .int (Tv 1), .int (Tv 2), .int (Tv 3), .int (Tv 4)])), ((Ta 1), .inl (tc 0, 400, .inl (Tf 1)))] H := hP
  have hD : va_D A [((Ta 0), .inr (10, [.ref (Ta 1), .int (Tv 0), .int (Tv 1), .int (Tv 2), .int (Tv 3), .int (Tv 4)])), ((Ta 1), .inl (tc 0, 400, .inl (Tf 1)))] := hD
  refine lv_if_ne (tgt := 17) hx hb dX10_numberHere_7 (by decide) (fun c_6 => ?_) (fun c_6 => ?_)
  · skip
    refine lv_aload_n hx hb dX10_numberHere_17 rfl (lv_at hl 0 rfl) ?_
    refine gf_X10_22 hx hb hts hown hK hP 0 rfl rfl dX10_numberHere_18 ?_
    refine lv_aload_n hx hb dX10_numberHere_21 rfl (lv_at hl 0 rfl) ?_
    refine gf_X10_19 hx hb hts hown hK hP 0 rfl rfl dX10_numberHere_22 ?_
    refine lv_isub hx hb dX10_numberHere_25 ?_
    refine lv_topi (fun x_7 ex_7 => ?_)
    refine lv_iconst (v := 5) hx hb dX10_numberHere_26 (by decide) ?_
    refine lv_icmp_le (tgt := 37) hx hb dX10_numberHere_27 (by decide) (fun c_8 => ?_) (fun c_8 => ?_)
    · skip
      refine lv_iconst (v := 0) hx hb dX10_numberHere_37 (by decide) ?_
      refine lv_istore_n (lv' := [(3, .int 0), (0, .ref (Ta 0)), (1, .int x1), (2, .int x2)]) hx hb dX10_numberHere_38 rfl hl (by decide) rfl (fun ls hl => ?_)
      refine lv_aload_n hx hb dX10_numberHere_39 rfl (lv_at hl 1 rfl) ?_
      refine gf_X10_19 hx hb hts hown hK hP 0 rfl rfl dX10_numberHere_40 ?_
      refine lv_istore (lv' := [(4, .int (Tv 1)), (3, .int 0), (0, .ref (Ta 0)), (1, .int x1), (2, .int x2)]) hx hb dX10_numberHere_43 hl (by decide) rfl (fun ls hl => ?_)
      have loop_16 : ∀ (n_14 : Nat) (vy_12 : Int32) (vy_13 : Int32) (H : Heap) (locs : List Loc) (ls : Array Slot), 0 ≤ (vy_12 : Int32).toInt → (400 - (vy_12 : Int32).toInt).toNat < n_14 → va_P D classes [((Ta 0), .inr (10, [.ref (Ta 1), .int (Tv 0), .int (Tv 1), .int (Tv 2), .int (Tv 3), .int (Tv 4)])), ((Ta 1), .inl (tc 0, 400, .inl (Tf 1)))] H → va_D A [((Ta 0), .inr (10, [.ref (Ta 1), .int (Tv 0), .int (Tv 1), .int (Tv 2), .int (Tv 3), .int (Tv 4)])), ((Ta 1), .inl (tc 0, 400, .inl (Tf 1)))] → va_S A s.heap H locs → lv_has ls 5 [(4, .int vy_12), (3, .int vy_13), (0, .ref (Ta 0)), (1, .int x1), (2, .int x2)] → W p l e ({ frames := 1, cells := 0, slots := 0, locals := 21 }) s m ([.ref (Ta 0), .int x1, .int x2].toArray) below meth c H locs 0 0 (MQ below (QW (fun (v : Option Value) (u : (Int32) × (Int32)) => match u with | (o1, o2) => ∃ r : Int32, v = some (.int r) ∧ (True) ∧ (0 ≤ ((Tv 0) : Int32).toInt ∧ ((Tv 0) : Int32).toInt ≤ 400 ∧ 0 ≤ ((Tv 1) : Int32).toInt ∧ ((Tv 1) : Int32).toInt ≤ 400 ∧ 0 ≤ ((Tv 2) : Int32).toInt ∧ ((Tv 2) : Int32).toInt ≤ 400)) (BW D (fun (u : (Int32) × (Int32)) => match u with | (o1, o2) => [((Ta 0), .inr (10, [.ref (Ta 1), .int (Tv 0), .int (Tv 1), .int (Tv 2), .int o1, .int o2])), ((Ta 1), .inl (tc 0, 400, .inl (Tf 1)))]) A) A) ([.ref (Ta 0), .int x1, .int x2].toArray) s 0 0 A) (F0 m 45 ls []) := by
        intro n_14
        induction n_14 with
        | zero =>
          intro vy_12 vy_13 H locs ls h1 h2
          exact absurd h2 (Nat.not_lt_zero _)
        | succ n_14 ih_15 =>
          intro vy_12 vy_13 H locs ls hi_18 hn_19 hP hD hS hl
          refine lv_iload hx hb dX10_numberHere_45 (lv_at hl 0 rfl) ?_
          refine lv_aload_n hx hb dX10_numberHere_47 rfl (lv_at hl 2 rfl) ?_
          refine gf_X10_22 hx hb hts hown hK hP 0 rfl rfl dX10_numberHere_48 ?_
          refine lv_icmp_ge (tgt := 75) hx hb dX10_numberHere_51 (by decide) (fun c_20 => ?_) (fun c_20 => ?_)
          · skip
            refine lv_iload_n hx hb dX10_numberHere_75 rfl (lv_at hl 1 rfl) ?_
            refine lv_iload_n hx hb dX10_numberHere_76 rfl (lv_at hl 3 rfl) ?_
            refine lv_icmp_lt (tgt := 85) hx hb dX10_numberHere_77 (by decide) (fun c_21 => ?_) (fun c_21 => ?_)
            · skip
              refine lv_aload_n hx hb dX10_numberHere_85 rfl (lv_at hl 2 rfl) ?_
              refine lv_iconst (v := 1) hx hb dX10_numberHere_86 (by decide) ?_
              have hh_22 : 0 ≤ ((Tv 0) : Int32).toInt ∧ ((Tv 0) : Int32).toInt ≤ 400 ∧ 0 ≤ ((Tv 1) : Int32).toInt ∧ ((Tv 1) : Int32).toInt ≤ 400 ∧ 0 ≤ ((Tv 2) : Int32).toInt ∧ ((Tv 2) : Int32).toInt ≤ 400 := by
                have z_1 : ¬ (r_4 : Int32).toInt = (0 : Int32).toInt := fun z => c_6 (Int32.toInt_inj.mp z)
                have z_2 := Int32.le_iff_toInt_le.mp c_8
                have z_3 := Int32.le_iff_toInt_le.mp c_20
                have z_4 := Int32.lt_iff_toInt_lt.mp c_21
                have y_0 : (0 : Int32).toInt = 0 := by decide
                have y_5 : (5 : Int32).toInt = 5 := by decide
                have t_x_7 : x_7.toInt = ((Tv 2) : Int32).toInt - ((Tv 1) : Int32).toInt := by rw [ex_7]; exact sub_toInt (by omega) (by omega)
                first | assumption | omega
              refine cV (a := (Ta 0)) (As := [.int 1]) (rest := []) (wr := []) ⟨hx, hb, hml, hown, hts⟩ hK hX hA (cu_X10_fail l D tc sk (Ta 0) (Ta 1) (Tv 0) (Tv 1) (Tv 2) (Tv 3) (Tv 4) (Tf 1) 1 hh_22) k_557 k_571 k_555 k_556 k_96 pl_X10_fail ⟨Nat.le_of_ble_eq_true rfl, Nat.le_of_ble_eq_true rfl⟩ rfl rfl (va_recv hK hP (ci := 10) (q0 := 0) rfl rfl) hP hD hS [0, 1] [] rfl rfl rfl rfl rfl (by decide) rfl hl.1 rfl (Nat.le_of_ble_eq_true rfl) dX10_numberHere_87 ⟨Nat.le_of_ble_eq_true rfl, Nat.le_of_ble_eq_true rfl⟩ (fun v_23 u_24 H locs hv_25 hP hD hS => ?_)
              obtain ⟨sv_26, sv_27⟩ := u_24
              obtain ⟨rfl, he_28⟩ := hv_25
              have he_28 : (0 ≤ ((Tv 0) : Int32).toInt ∧ ((Tv 0) : Int32).toInt ≤ 400 ∧ 0 ≤ ((Tv 1) : Int32).toInt ∧ ((Tv 1) : Int32).toInt ≤ 400 ∧ 0 ≤ ((Tv 2) : Int32).toInt ∧ ((Tv 2) : Int32).toInt ≤ 400) := he_28
              refine W.eq (g2 := F0 m 90 ls []) rfl ?_
              have hP : va_P D classes [((Ta 0), .inr (10, [.ref (Ta 1), .int (Tv 0), .int (Tv 1), .int (Tv 2), .int sv_26, .int sv_27])), ((Ta 1), .inl (tc 0, 400, .inl (Tf 1)))] H := hP
              have hD : va_D A [((Ta 0), .inr (10, [.ref (Ta 1), .int (Tv 0), .int (Tv 1), .int (Tv 2), .int sv_26, .int sv_27])), ((Ta 1), .inl (tc 0, 400, .inl (Tf 1)))] := hD
              refine lv_iload_n hx hb dX10_numberHere_90 rfl (lv_at hl 3 rfl) ?_
              have hq_29 : 0 ≤ ((Tv 0) : Int32).toInt ∧ ((Tv 0) : Int32).toInt ≤ 400 ∧ 0 ≤ ((Tv 1) : Int32).toInt ∧ ((Tv 1) : Int32).toInt ≤ 400 ∧ 0 ≤ ((Tv 2) : Int32).toInt ∧ ((Tv 2) : Int32).toInt ≤ 400 := by
                have z_1 : ¬ (r_4 : Int32).toInt = (0 : Int32).toInt := fun z => c_6 (Int32.toInt_inj.mp z)
                have z_2 := Int32.le_iff_toInt_le.mp c_8
                have z_3 := Int32.le_iff_toInt_le.mp c_20
                have z_4 := Int32.lt_iff_toInt_lt.mp c_21
                have y_0 : (0 : Int32).toInt = 0 := by decide
                have y_5 : (5 : Int32).toInt = 5 := by decide
                have t_x_7 : x_7.toInt = ((Tv 2) : Int32).toInt - ((Tv 1) : Int32).toInt := by rw [ex_7]; exact sub_toInt (by omega) (by omega)
                first | assumption | omega
              exact retI (v := x1) hx hb hr hlk (rfl) hP hD hS (sv_26, sv_27) ⟨_, rfl, trivial, hq_29⟩ [0, 1] rfl rfl dX10_numberHere_91 (Nat.le_of_ble_eq_true rfl) (Nat.le_of_ble_eq_true rfl) rfl
            · skip
              refine lv_iload_n hx hb dX10_numberHere_80 rfl (lv_at hl 1 rfl) ?_
              refine lv_iload_n hx hb dX10_numberHere_81 rfl (lv_at hl 4 rfl) ?_
              refine lv_icmp_le (tgt := 92) hx hb dX10_numberHere_82 (by decide) (fun c_30 => ?_) (fun c_30 => ?_)
              · skip
                refine lv_iload_n hx hb dX10_numberHere_92 rfl (lv_at hl 1 rfl) ?_
                have hq_31 : 0 ≤ ((Tv 0) : Int32).toInt ∧ ((Tv 0) : Int32).toInt ≤ 400 ∧ 0 ≤ ((Tv 1) : Int32).toInt ∧ ((Tv 1) : Int32).toInt ≤ 400 ∧ 0 ≤ ((Tv 2) : Int32).toInt ∧ ((Tv 2) : Int32).toInt ≤ 400 := by
                  have z_1 : ¬ (r_4 : Int32).toInt = (0 : Int32).toInt := fun z => c_6 (Int32.toInt_inj.mp z)
                  have z_2 := Int32.le_iff_toInt_le.mp c_8
                  have z_3 := Int32.le_iff_toInt_le.mp c_20
                  have z_4 := Int32.le_iff_toInt_le.mp (Int32.not_lt.mp c_21)
                  have z_5 := Int32.le_iff_toInt_le.mp c_30
                  have y_0 : (0 : Int32).toInt = 0 := by decide
                  have y_5 : (5 : Int32).toInt = 5 := by decide
                  have t_x_7 : x_7.toInt = ((Tv 2) : Int32).toInt - ((Tv 1) : Int32).toInt := by rw [ex_7]; exact sub_toInt (by omega) (by omega)
                  first | assumption | omega
                exact retI (v := vy_13) hx hb hr hlk (rfl) hP hD hS ((Tv 3), (Tv 4)) ⟨_, rfl, trivial, hq_31⟩ [0, 1] rfl rfl dX10_numberHere_93 (Nat.le_of_ble_eq_true rfl) (Nat.le_of_ble_eq_true rfl) rfl
              · skip
                refine lv_aload_n hx hb dX10_numberHere_85 rfl (lv_at hl 2 rfl) ?_
                refine lv_iconst (v := 1) hx hb dX10_numberHere_86 (by decide) ?_
                have hh_32 : 0 ≤ ((Tv 0) : Int32).toInt ∧ ((Tv 0) : Int32).toInt ≤ 400 ∧ 0 ≤ ((Tv 1) : Int32).toInt ∧ ((Tv 1) : Int32).toInt ≤ 400 ∧ 0 ≤ ((Tv 2) : Int32).toInt ∧ ((Tv 2) : Int32).toInt ≤ 400 := by
                  have z_1 : ¬ (r_4 : Int32).toInt = (0 : Int32).toInt := fun z => c_6 (Int32.toInt_inj.mp z)
                  have z_2 := Int32.le_iff_toInt_le.mp c_8
                  have z_3 := Int32.le_iff_toInt_le.mp c_20
                  have z_4 := Int32.le_iff_toInt_le.mp (Int32.not_lt.mp c_21)
                  have z_5 := Int32.lt_iff_toInt_lt.mp (Int32.not_le.mp c_30)
                  have y_0 : (0 : Int32).toInt = 0 := by decide
                  have y_5 : (5 : Int32).toInt = 5 := by decide
                  have t_x_7 : x_7.toInt = ((Tv 2) : Int32).toInt - ((Tv 1) : Int32).toInt := by rw [ex_7]; exact sub_toInt (by omega) (by omega)
                  first | assumption | omega
                refine cV (a := (Ta 0)) (As := [.int 1]) (rest := []) (wr := []) ⟨hx, hb, hml, hown, hts⟩ hK hX hA (cu_X10_fail l D tc sk (Ta 0) (Ta 1) (Tv 0) (Tv 1) (Tv 2) (Tv 3) (Tv 4) (Tf 1) 1 hh_32) k_557 k_571 k_555 k_556 k_96 pl_X10_fail ⟨Nat.le_of_ble_eq_true rfl, Nat.le_of_ble_eq_true rfl⟩ rfl rfl (va_recv hK hP (ci := 10) (q0 := 0) rfl rfl) hP hD hS [0, 1] [] rfl rfl rfl rfl rfl (by decide) rfl hl.1 rfl (Nat.le_of_ble_eq_true rfl) dX10_numberHere_87 ⟨Nat.le_of_ble_eq_true rfl, Nat.le_of_ble_eq_true rfl⟩ (fun v_33 u_34 H locs hv_35 hP hD hS => ?_)
                obtain ⟨sv_36, sv_37⟩ := u_34
                obtain ⟨rfl, he_38⟩ := hv_35
                have he_38 : (0 ≤ ((Tv 0) : Int32).toInt ∧ ((Tv 0) : Int32).toInt ≤ 400 ∧ 0 ≤ ((Tv 1) : Int32).toInt ∧ ((Tv 1) : Int32).toInt ≤ 400 ∧ 0 ≤ ((Tv 2) : Int32).toInt ∧ ((Tv 2) : Int32).toInt ≤ 400) := he_38
                refine W.eq (g2 := F0 m 90 ls []) rfl ?_
                have hP : va_P D classes [((Ta 0), .inr (10, [.ref (Ta 1), .int (Tv 0), .int (Tv 1), .int (Tv 2), .int sv_36, .int sv_37])), ((Ta 1), .inl (tc 0, 400, .inl (Tf 1)))] H := hP
                have hD : va_D A [((Ta 0), .inr (10, [.ref (Ta 1), .int (Tv 0), .int (Tv 1), .int (Tv 2), .int sv_36, .int sv_37])), ((Ta 1), .inl (tc 0, 400, .inl (Tf 1)))] := hD
                refine lv_iload_n hx hb dX10_numberHere_90 rfl (lv_at hl 3 rfl) ?_
                have hq_39 : 0 ≤ ((Tv 0) : Int32).toInt ∧ ((Tv 0) : Int32).toInt ≤ 400 ∧ 0 ≤ ((Tv 1) : Int32).toInt ∧ ((Tv 1) : Int32).toInt ≤ 400 ∧ 0 ≤ ((Tv 2) : Int32).toInt ∧ ((Tv 2) : Int32).toInt ≤ 400 := by
                  have z_1 : ¬ (r_4 : Int32).toInt = (0 : Int32).toInt := fun z => c_6 (Int32.toInt_inj.mp z)
                  have z_2 := Int32.le_iff_toInt_le.mp c_8
                  have z_3 := Int32.le_iff_toInt_le.mp c_20
                  have z_4 := Int32.le_iff_toInt_le.mp (Int32.not_lt.mp c_21)
                  have z_5 := Int32.lt_iff_toInt_lt.mp (Int32.not_le.mp c_30)
                  have y_0 : (0 : Int32).toInt = 0 := by decide
                  have y_5 : (5 : Int32).toInt = 5 := by decide
                  have t_x_7 : x_7.toInt = ((Tv 2) : Int32).toInt - ((Tv 1) : Int32).toInt := by rw [ex_7]; exact sub_toInt (by omega) (by omega)
                  first | assumption | omega
                exact retI (v := x1) hx hb hr hlk (rfl) hP hD hS (sv_36, sv_37) ⟨_, rfl, trivial, hq_39⟩ [0, 1] rfl rfl dX10_numberHere_91 (Nat.le_of_ble_eq_true rfl) (Nat.le_of_ble_eq_true rfl) rfl
          · skip
            refine lv_iload_n hx hb dX10_numberHere_54 rfl (lv_at hl 1 rfl) ?_
            refine lv_bipush (v := 10) hx hb dX10_numberHere_55 (by decide) ?_
            refine lv_imul hx hb dX10_numberHere_57 ?_
            refine lv_topi (fun x_40 ex_40 => ?_)
            refine lv_aload_n hx hb dX10_numberHere_58 rfl (lv_at hl 2 rfl) ?_
            refine lv_iload hx hb dX10_numberHere_59 (lv_at hl 0 rfl) ?_
            refine cV (a := (Ta 0)) (As := [.int vy_12]) (rest := [.int x_40]) (wr := []) ⟨hx, hb, hml, hown, hts⟩ hK hX hA (cu_X10_byteAt l D tc sk (Ta 0) (Ta 1) (Tv 0) (Tv 1) (Tv 2) (Tv 3) (Tv 4) (Tf 1) vy_12) k_482 k_479 k_481 k_0 k_96 pl_X10_byteAt ⟨Nat.le_of_ble_eq_true rfl, Nat.le_of_ble_eq_true rfl⟩ rfl rfl (va_recv hK hP (ci := 10) (q0 := 0) rfl rfl) hP hD hS [0, 1] [] rfl rfl rfl rfl rfl (by decide) rfl hl.1 rfl (Nat.le_of_ble_eq_true rfl) dX10_numberHere_61 ⟨Nat.le_of_ble_eq_true rfl, Nat.le_of_ble_eq_true rfl⟩ (fun v_41 u_42 H locs hv_43 hP hD hS => ?_)
            obtain ⟨r_44, rfl, he_45⟩ := hv_43
            have he_45 : ((r_44.toInt = -1 ∨ (0 ≤ vy_12.toInt ∧ vy_12.toInt < (Tv 0).toInt ∧ vy_12.toInt < 400))) := he_45
            refine W.eq (g2 := F0 m 64 ls [.int r_44, .int x_40]) rfl ?_
            have hP : va_P D classes [((Ta 0), .inr (10, [.ref (Ta 1), .int (Tv 0), .int (Tv 1), .int (Tv 2), .int (Tv 3), .int (Tv 4)])), ((Ta 1), .inl (tc 0, 400, .inl (Tf 1)))] H := hP
            have hD : va_D A [((Ta 0), .inr (10, [.ref (Ta 1), .int (Tv 0), .int (Tv 1), .int (Tv 2), .int (Tv 3), .int (Tv 4)])), ((Ta 1), .inl (tc 0, 400, .inl (Tf 1)))] := hD
            refine lv_iadd hx hb dX10_numberHere_64 ?_
            refine lv_topi (fun x_46 ex_46 => ?_)
            refine lv_bipush (v := 48) hx hb dX10_numberHere_65 (by decide) ?_
            refine lv_isub hx hb dX10_numberHere_67 ?_
            refine lv_topi (fun x_47 ex_47 => ?_)
            refine lv_istore_n (lv' := [(3, .int x_47), (4, .int vy_12), (0, .ref (Ta 0)), (1, .int x1), (2, .int x2)]) hx hb dX10_numberHere_68 rfl hl (by decide) rfl (fun ls hl => ?_)
            obtain ⟨x_48, ex_48⟩ : ∃ y : Int32, y = vy_12 + 1 := ⟨_, rfl⟩
            refine lv_iinc (v := x_48) (lv' := [(4, .int x_48), (3, .int x_47), (0, .ref (Ta 0)), (1, .int x1), (2, .int x2)]) hx hb dX10_numberHere_69 hl (k := 1) rfl (by rw [ex_48]; rfl) (by decide) rfl (fun ls hl => ?_)
            refine lv_goto (tgt := 45) hx hb dX10_numberHere_72 (by decide) ?_
            have hb_49 : 0 ≤ (x_48 : Int32).toInt ∧ (400 - (x_48 : Int32).toInt).toNat < n_14 := by
              have z_1 : ¬ (r_4 : Int32).toInt = (0 : Int32).toInt := fun z => c_6 (Int32.toInt_inj.mp z)
              have z_2 := Int32.le_iff_toInt_le.mp c_8
              have z_3 := Int32.lt_iff_toInt_lt.mp (Int32.not_le.mp c_20)
              have y_0 : (0 : Int32).toInt = 0 := by decide
              have y_5 : (5 : Int32).toInt = 5 := by decide
              have y_1 : (1 : Int32).toInt = 1 := by decide
              have t_x_48 : x_48.toInt = (vy_12 : Int32).toInt + (1 : Int32).toInt := by rw [ex_48]; exact add_toInt (by omega) (by omega)
              have t_x_7 : x_7.toInt = ((Tv 2) : Int32).toInt - ((Tv 1) : Int32).toInt := by rw [ex_7]; exact sub_toInt (by omega) (by omega)
              omega
            exact ih_15 x_48 x_47 _ _ _ hb_49.1 hb_49.2 (hP.sub [0, 1] rfl) (hD.sub [0, 1] rfl rfl) hS (lv_sub hl [0, 1, 2, 3, 4] rfl)
      have h0_50 : 0 ≤ ((Tv 1) : Int32).toInt := by
        have z_1 : ¬ (r_4 : Int32).toInt = (0 : Int32).toInt := fun z => c_6 (Int32.toInt_inj.mp z)
        have z_2 := Int32.le_iff_toInt_le.mp c_8
        have y_0 : (0 : Int32).toInt = 0 := by decide
        have y_5 : (5 : Int32).toInt = 5 := by decide
        have t_x_7 : x_7.toInt = ((Tv 2) : Int32).toInt - ((Tv 1) : Int32).toInt := by rw [ex_7]; exact sub_toInt (by omega) (by omega)
        omega
      exact loop_16 _ (Tv 1) 0 _ _ _ h0_50 (Nat.lt_succ_self _) hP hD hS hl
    · skip
      refine lv_aload_n hx hb dX10_numberHere_30 rfl (lv_at hl 0 rfl) ?_
      refine lv_iconst (v := 1) hx hb dX10_numberHere_31 (by decide) ?_
      have hh_51 : 0 ≤ ((Tv 0) : Int32).toInt ∧ ((Tv 0) : Int32).toInt ≤ 400 ∧ 0 ≤ ((Tv 1) : Int32).toInt ∧ ((Tv 1) : Int32).toInt ≤ 400 ∧ 0 ≤ ((Tv 2) : Int32).toInt ∧ ((Tv 2) : Int32).toInt ≤ 400 := by
        have z_1 : ¬ (r_4 : Int32).toInt = (0 : Int32).toInt := fun z => c_6 (Int32.toInt_inj.mp z)
        have z_2 := Int32.lt_iff_toInt_lt.mp (Int32.not_le.mp c_8)
        have y_0 : (0 : Int32).toInt = 0 := by decide
        have y_5 : (5 : Int32).toInt = 5 := by decide
        have t_x_7 : x_7.toInt = ((Tv 2) : Int32).toInt - ((Tv 1) : Int32).toInt := by rw [ex_7]; exact sub_toInt (by omega) (by omega)
        first | assumption | omega
      refine cV (a := (Ta 0)) (As := [.int 1]) (rest := []) (wr := []) ⟨hx, hb, hml, hown, hts⟩ hK hX hA (cu_X10_fail l D tc sk (Ta 0) (Ta 1) (Tv 0) (Tv 1) (Tv 2) (Tv 3) (Tv 4) (Tf 1) 1 hh_51) k_557 k_571 k_555 k_556 k_96 pl_X10_fail ⟨Nat.le_of_ble_eq_true rfl, Nat.le_of_ble_eq_true rfl⟩ rfl rfl (va_recv hK hP (ci := 10) (q0 := 0) rfl rfl) hP hD hS [0, 1] [] rfl rfl rfl rfl rfl (by decide) rfl hl.1 rfl (Nat.le_of_ble_eq_true rfl) dX10_numberHere_32 ⟨Nat.le_of_ble_eq_true rfl, Nat.le_of_ble_eq_true rfl⟩ (fun v_52 u_53 H locs hv_54 hP hD hS => ?_)
      obtain ⟨sv_55, sv_56⟩ := u_53
      obtain ⟨rfl, he_57⟩ := hv_54
      have he_57 : (0 ≤ ((Tv 0) : Int32).toInt ∧ ((Tv 0) : Int32).toInt ≤ 400 ∧ 0 ≤ ((Tv 1) : Int32).toInt ∧ ((Tv 1) : Int32).toInt ≤ 400 ∧ 0 ≤ ((Tv 2) : Int32).toInt ∧ ((Tv 2) : Int32).toInt ≤ 400) := he_57
      refine W.eq (g2 := F0 m 35 ls []) rfl ?_
      have hP : va_P D classes [((Ta 0), .inr (10, [.ref (Ta 1), .int (Tv 0), .int (Tv 1), .int (Tv 2), .int sv_55, .int sv_56])), ((Ta 1), .inl (tc 0, 400, .inl (Tf 1)))] H := hP
      have hD : va_D A [((Ta 0), .inr (10, [.ref (Ta 1), .int (Tv 0), .int (Tv 1), .int (Tv 2), .int sv_55, .int sv_56])), ((Ta 1), .inl (tc 0, 400, .inl (Tf 1)))] := hD
      refine lv_iload_n hx hb dX10_numberHere_35 rfl (lv_at hl 1 rfl) ?_
      have hq_58 : 0 ≤ ((Tv 0) : Int32).toInt ∧ ((Tv 0) : Int32).toInt ≤ 400 ∧ 0 ≤ ((Tv 1) : Int32).toInt ∧ ((Tv 1) : Int32).toInt ≤ 400 ∧ 0 ≤ ((Tv 2) : Int32).toInt ∧ ((Tv 2) : Int32).toInt ≤ 400 := by
        have z_1 : ¬ (r_4 : Int32).toInt = (0 : Int32).toInt := fun z => c_6 (Int32.toInt_inj.mp z)
        have z_2 := Int32.lt_iff_toInt_lt.mp (Int32.not_le.mp c_8)
        have y_0 : (0 : Int32).toInt = 0 := by decide
        have y_5 : (5 : Int32).toInt = 5 := by decide
        have t_x_7 : x_7.toInt = ((Tv 2) : Int32).toInt - ((Tv 1) : Int32).toInt := by rw [ex_7]; exact sub_toInt (by omega) (by omega)
        first | assumption | omega
      exact retI (v := x1) hx hb hr hlk (rfl) hP hD hS (sv_55, sv_56) ⟨_, rfl, trivial, hq_58⟩ [0, 1] rfl rfl dX10_numberHere_36 (Nat.le_of_ble_eq_true rfl) (Nat.le_of_ble_eq_true rfl) rfl
  · skip
    refine lv_aload_n hx hb dX10_numberHere_10 rfl (lv_at hl 0 rfl) ?_
    refine lv_iconst (v := 0) hx hb dX10_numberHere_11 (by decide) ?_
    have hh_59 : 0 ≤ ((Tv 0) : Int32).toInt ∧ ((Tv 0) : Int32).toInt ≤ 400 ∧ 0 ≤ ((Tv 1) : Int32).toInt ∧ ((Tv 1) : Int32).toInt ≤ 400 ∧ 0 ≤ ((Tv 2) : Int32).toInt ∧ ((Tv 2) : Int32).toInt ≤ 400 := by
      have z_1 := congrArg Int32.toInt c_6
      have y_0 : (0 : Int32).toInt = 0 := by decide
      first | assumption | omega
    refine cV (a := (Ta 0)) (As := [.int 0]) (rest := []) (wr := []) ⟨hx, hb, hml, hown, hts⟩ hK hX hA (cu_X10_fail l D tc sk (Ta 0) (Ta 1) (Tv 0) (Tv 1) (Tv 2) (Tv 3) (Tv 4) (Tf 1) 0 hh_59) k_557 k_571 k_555 k_556 k_96 pl_X10_fail ⟨Nat.le_of_ble_eq_true rfl, Nat.le_of_ble_eq_true rfl⟩ rfl rfl (va_recv hK hP (ci := 10) (q0 := 0) rfl rfl) hP hD hS [0, 1] [] rfl rfl rfl rfl rfl (by decide) rfl hl.1 rfl (Nat.le_of_ble_eq_true rfl) dX10_numberHere_12 ⟨Nat.le_of_ble_eq_true rfl, Nat.le_of_ble_eq_true rfl⟩ (fun v_60 u_61 H locs hv_62 hP hD hS => ?_)
    obtain ⟨sv_63, sv_64⟩ := u_61
    obtain ⟨rfl, he_65⟩ := hv_62
    have he_65 : (0 ≤ ((Tv 0) : Int32).toInt ∧ ((Tv 0) : Int32).toInt ≤ 400 ∧ 0 ≤ ((Tv 1) : Int32).toInt ∧ ((Tv 1) : Int32).toInt ≤ 400 ∧ 0 ≤ ((Tv 2) : Int32).toInt ∧ ((Tv 2) : Int32).toInt ≤ 400) := he_65
    refine W.eq (g2 := F0 m 15 ls []) rfl ?_
    have hP : va_P D classes [((Ta 0), .inr (10, [.ref (Ta 1), .int (Tv 0), .int (Tv 1), .int (Tv 2), .int sv_63, .int sv_64])), ((Ta 1), .inl (tc 0, 400, .inl (Tf 1)))] H := hP
    have hD : va_D A [((Ta 0), .inr (10, [.ref (Ta 1), .int (Tv 0), .int (Tv 1), .int (Tv 2), .int sv_63, .int sv_64])), ((Ta 1), .inl (tc 0, 400, .inl (Tf 1)))] := hD
    refine lv_iload_n hx hb dX10_numberHere_15 rfl (lv_at hl 1 rfl) ?_
    have hq_66 : 0 ≤ ((Tv 0) : Int32).toInt ∧ ((Tv 0) : Int32).toInt ≤ 400 ∧ 0 ≤ ((Tv 1) : Int32).toInt ∧ ((Tv 1) : Int32).toInt ≤ 400 ∧ 0 ≤ ((Tv 2) : Int32).toInt ∧ ((Tv 2) : Int32).toInt ≤ 400 := by
      have z_1 := congrArg Int32.toInt c_6
      have y_0 : (0 : Int32).toInt = 0 := by decide
      first | assumption | omega
    exact retI (v := x1) hx hb hr hlk (rfl) hP hD hS (sv_63, sv_64) ⟨_, rfl, trivial, hq_66⟩ [0, 1] rfl rfl dX10_numberHere_16 (Nat.le_of_ble_eq_true rfl) (Nat.le_of_ble_eq_true rfl) rfl
set_option maxRecDepth 100000 in
theorem cu_X10_numberHere (l : Launch) (D : va_G) (tc : Nat → ClassId) (sk : (Nat → Nat) × (Nat → Nat)) (Ta_0 : Nat) (Ta_1 : Nat) (Tv_0 : Int32) (Tv_1 : Int32) (Tv_2 : Int32) (Tv_3 : Int32) (Tv_4 : Int32) (Tf_1 : Nat → Int32) (x1 : Int32) (x2 : Int32) (h_tape : 0 ≤ (Tv_0 : Int32).toInt ∧ (Tv_0 : Int32).toInt ≤ 400 ∧ 0 ≤ (Tv_1 : Int32).toInt ∧ (Tv_1 : Int32).toInt ≤ 400 ∧ 0 ≤ (Tv_2 : Int32).toInt ∧ (Tv_2 : Int32).toInt ≤ 400) : Ct l yX10_numberHere cX10_numberHere 5 (some .int) { frames := 1, cells := 0, slots := 0, locals := 21 } D tc sk [.ref Ta_0, .int x1, .int x2] [(Ta_0, .inr (10, [.ref Ta_1, .int Tv_0, .int Tv_1, .int Tv_2, .int Tv_3, .int Tv_4])), (Ta_1, .inl (tc 0, 400, .inl Tf_1))] (fun (v : Option Value) (u : (Int32) × (Int32)) => match u with | (o1, o2) => ∃ r : Int32, v = some (.int r) ∧ (True) ∧ (0 ≤ (Tv_0 : Int32).toInt ∧ (Tv_0 : Int32).toInt ≤ 400 ∧ 0 ≤ (Tv_1 : Int32).toInt ∧ (Tv_1 : Int32).toInt ≤ 400 ∧ 0 ≤ (Tv_2 : Int32).toInt ∧ (Tv_2 : Int32).toInt ≤ 400)) (fun (u : (Int32) × (Int32)) => match u with | (o1, o2) => [(Ta_0, .inr (10, [.ref Ta_1, .int Tv_0, .int Tv_1, .int Tv_2, .int o1, .int o2])), (Ta_1, .inl (tc 0, 400, .inl Tf_1))]) 0 0 :=
  ct_X10_numberHere l D tc sk (fun k => ([Ta_0, Ta_1] : List (Nat)).getD k 0) (fun k => ([Tv_0, Tv_1, Tv_2, Tv_3, Tv_4] : List (Int32)).getD k 0) (fun k => ([(fun _ => 0), Tf_1] : List (Nat → Int32)).getD k (fun _ => 0)) x1 x2 h_tape
set_option maxHeartbeats 4000000 in
set_option maxRecDepth 100000 in
theorem ct_X10_takeNumber (l : Launch) (D : va_G) (tc : Nat → ClassId) (sk : (Nat → Nat) × (Nat → Nat)) (Ta : Nat → Nat) (Tv : Nat → Int32) (Tf : Nat → Nat → Int32) (x1 : Int32) (x2 : Int32) (h_tape : 0 ≤ ((Tv 0) : Int32).toInt ∧ ((Tv 0) : Int32).toInt ≤ 400 ∧ 0 ≤ ((Tv 1) : Int32).toInt ∧ ((Tv 1) : Int32).toInt ≤ 400 ∧ 0 ≤ ((Tv 2) : Int32).toInt ∧ ((Tv 2) : Int32).toInt ≤ 400) : Ct l yX10_takeNumber cX10_takeNumber 4 (some .int) { frames := 2, cells := 0, slots := 0, locals := 45 } D tc sk [.ref (Ta 0), .int x1, .int x2] [((Ta 0), .inr (10, [.ref (Ta 1), .int (Tv 0), .int (Tv 1), .int (Tv 2), .int (Tv 3), .int (Tv 4)])), ((Ta 1), .inl (tc 0, 400, .inl (Tf 1)))] (fun (v : Option Value) (u : (Int32) × (Int32) × (Int32) × (Int32)) => match u with | (o1, o2, o3, o4) => ∃ r : Int32, v = some (.int r) ∧ (True) ∧ (0 ≤ ((Tv 0) : Int32).toInt ∧ ((Tv 0) : Int32).toInt ≤ 400 ∧ 0 ≤ (o1 : Int32).toInt ∧ (o1 : Int32).toInt ≤ 400 ∧ 0 ≤ (o2 : Int32).toInt ∧ (o2 : Int32).toInt ≤ 400)) (fun (u : (Int32) × (Int32) × (Int32) × (Int32)) => match u with | (o1, o2, o3, o4) => [((Ta 0), .inr (10, [.ref (Ta 1), .int (Tv 0), .int o1, .int o2, .int o3, .int o4])), ((Ta 1), .inl (tc 0, 400, .inl (Tf 1)))]) 0 0 := by
  refine Ct.start (by decide) (Nat.le_of_ble_eq_true rfl) (fun p e s m below meth c A ls hx hb hr hlk hin hml hown hts hK hX hP hD hA hl hS => ?_)
  have hl : lv_has ls 4 [(0, .ref (Ta 0)), (1, .int x1), (2, .int x2)] := hl
  refine lv_aload_n hx hb dX10_takeNumber_0 rfl (lv_at hl 0 rfl) ?_
  refine lv_iload_n hx hb dX10_takeNumber_1 rfl (lv_at hl 1 rfl) ?_
  refine lv_iload_n hx hb dX10_takeNumber_2 rfl (lv_at hl 2 rfl) ?_
  have hh_1 : 0 ≤ ((Tv 0) : Int32).toInt ∧ ((Tv 0) : Int32).toInt ≤ 400 ∧ 0 ≤ ((Tv 1) : Int32).toInt ∧ ((Tv 1) : Int32).toInt ≤ 400 ∧ 0 ≤ ((Tv 2) : Int32).toInt ∧ ((Tv 2) : Int32).toInt ≤ 400 := by
    first | assumption | omega
  refine cV (a := (Ta 0)) (As := [.int x1, .int x2]) (rest := []) (wr := []) ⟨hx, hb, hml, hown, hts⟩ hK hX hA (cu_X10_numberHere l D tc sk (Ta 0) (Ta 1) (Tv 0) (Tv 1) (Tv 2) (Tv 3) (Tv 4) (Tf 1) x1 x2 hh_1) k_570 k_567 k_568 k_569 k_96 pl_X10_numberHere ⟨Nat.le_of_ble_eq_true rfl, Nat.le_of_ble_eq_true rfl⟩ rfl rfl (va_recv hK hP (ci := 10) (q0 := 0) rfl rfl) hP hD hS [0, 1] [] rfl rfl rfl rfl rfl (by decide) rfl hl.1 rfl (Nat.le_of_ble_eq_true rfl) dX10_takeNumber_3 ⟨Nat.le_of_ble_eq_true rfl, Nat.le_of_ble_eq_true rfl⟩ (fun v_2 u_3 H locs hv_4 hP hD hS => ?_)
  obtain ⟨sv_5, sv_6⟩ := u_3
  obtain ⟨r_7, rfl, he_8⟩ := hv_4
  have he_8 : (True) ∧ (0 ≤ ((Tv 0) : Int32).toInt ∧ ((Tv 0) : Int32).toInt ≤ 400 ∧ 0 ≤ ((Tv 1) : Int32).toInt ∧ ((Tv 1) : Int32).toInt ≤ 400 ∧ 0 ≤ ((Tv 2) : Int32).toInt ∧ ((Tv 2) : Int32).toInt ≤ 400) := he_8
  have he_8_0 : (0 ≤ ((Tv 0) : Int32).toInt ∧ ((Tv 0) : Int32).toInt ≤ 400 ∧ 0 ≤ ((Tv 1) : Int32).toInt ∧ ((Tv 1) : Int32).toInt ≤ 400 ∧ 0 ≤ ((Tv 2) : Int32).toInt ∧ ((Tv 2) : Int32).toInt ≤ 400) := he_8.2
  refine W.eq (g2 := F0 m 6 ls [.int r_7]) rfl ?_
  have hP : va_P D classes [((Ta 0), .inr (10, [.ref (Ta 1), .int (Tv 0), .int (Tv 1), .int (Tv 2), .int sv_5, .int sv_6])), ((Ta 1), .inl (tc 0, 400, .inl (Tf 1)))] H := hP
  have hD : va_D A [((Ta 0), .inr (10, [.ref (Ta 1), .int (Tv 0), .int (Tv 1), .int (Tv 2), .int sv_5, .int sv_6])), ((Ta 1), .inl (tc 0, 400, .inl (Tf 1)))] := hD
  refine lv_istore_n (lv' := [(3, .int r_7), (0, .ref (Ta 0)), (1, .int x1), (2, .int x2)]) hx hb dX10_takeNumber_6 rfl hl (by decide) rfl (fun ls hl => ?_)
  refine lv_aload_n hx hb dX10_takeNumber_7 rfl (lv_at hl 1 rfl) ?_
  have hh_9 : 0 ≤ ((Tv 0) : Int32).toInt ∧ ((Tv 0) : Int32).toInt ≤ 400 ∧ 0 ≤ ((Tv 1) : Int32).toInt ∧ ((Tv 1) : Int32).toInt ≤ 400 ∧ 0 ≤ ((Tv 2) : Int32).toInt ∧ ((Tv 2) : Int32).toInt ≤ 400 := by
    first | assumption | omega
  refine cV (a := (Ta 0)) (As := []) (rest := []) (wr := []) ⟨hx, hb, hml, hown, hts⟩ hK hX hA (cu_X10_step l D tc sk (Ta 0) (Ta 1) (Tv 0) (Tv 1) (Tv 2) sv_5 sv_6 (Tf 1) hh_9) k_478 k_475 k_476 k_477 k_96 pl_X10_step ⟨Nat.le_of_ble_eq_true rfl, Nat.le_of_ble_eq_true rfl⟩ rfl rfl (va_recv hK hP (ci := 10) (q0 := 0) rfl rfl) hP hD hS [0, 1] [] rfl rfl rfl rfl rfl (by decide) rfl hl.1 rfl (Nat.le_of_ble_eq_true rfl) dX10_takeNumber_8 ⟨Nat.le_of_ble_eq_true rfl, Nat.le_of_ble_eq_true rfl⟩ (fun v_10 u_11 H locs hv_12 hP hD hS => ?_)
  obtain ⟨sv_13, sv_14, sv_15⟩ := u_11
  obtain ⟨rfl, he_16⟩ := hv_12
  have he_16 : (0 ≤ ((Tv 0) : Int32).toInt ∧ ((Tv 0) : Int32).toInt ≤ 400 ∧ 0 ≤ (sv_13 : Int32).toInt ∧ (sv_13 : Int32).toInt ≤ 400 ∧ 0 ≤ (sv_14 : Int32).toInt ∧ (sv_14 : Int32).toInt ≤ 400) := he_16
  refine W.eq (g2 := F0 m 11 ls []) rfl ?_
  have hP : va_P D classes [((Ta 0), .inr (10, [.ref (Ta 1), .int (Tv 0), .int sv_13, .int sv_14, .int sv_15, .int sv_6])), ((Ta 1), .inl (tc 0, 400, .inl (Tf 1)))] H := hP
  have hD : va_D A [((Ta 0), .inr (10, [.ref (Ta 1), .int (Tv 0), .int sv_13, .int sv_14, .int sv_15, .int sv_6])), ((Ta 1), .inl (tc 0, 400, .inl (Tf 1)))] := hD
  refine lv_iload_n hx hb dX10_takeNumber_11 rfl (lv_at hl 0 rfl) ?_
  have hq_17 : 0 ≤ ((Tv 0) : Int32).toInt ∧ ((Tv 0) : Int32).toInt ≤ 400 ∧ 0 ≤ (sv_13 : Int32).toInt ∧ (sv_13 : Int32).toInt ≤ 400 ∧ 0 ≤ (sv_14 : Int32).toInt ∧ (sv_14 : Int32).toInt ≤ 400 := by
    first | assumption | omega
  exact retI (v := r_7) hx hb hr hlk (rfl) hP hD hS (sv_13, sv_14, sv_15, sv_6) ⟨_, rfl, trivial, hq_17⟩ [0, 1] rfl rfl dX10_takeNumber_12 (Nat.le_of_ble_eq_true rfl) (Nat.le_of_ble_eq_true rfl) rfl
set_option maxRecDepth 100000 in
theorem cu_X10_takeNumber (l : Launch) (D : va_G) (tc : Nat → ClassId) (sk : (Nat → Nat) × (Nat → Nat)) (Ta_0 : Nat) (Ta_1 : Nat) (Tv_0 : Int32) (Tv_1 : Int32) (Tv_2 : Int32) (Tv_3 : Int32) (Tv_4 : Int32) (Tf_1 : Nat → Int32) (x1 : Int32) (x2 : Int32) (h_tape : 0 ≤ (Tv_0 : Int32).toInt ∧ (Tv_0 : Int32).toInt ≤ 400 ∧ 0 ≤ (Tv_1 : Int32).toInt ∧ (Tv_1 : Int32).toInt ≤ 400 ∧ 0 ≤ (Tv_2 : Int32).toInt ∧ (Tv_2 : Int32).toInt ≤ 400) : Ct l yX10_takeNumber cX10_takeNumber 4 (some .int) { frames := 2, cells := 0, slots := 0, locals := 45 } D tc sk [.ref Ta_0, .int x1, .int x2] [(Ta_0, .inr (10, [.ref Ta_1, .int Tv_0, .int Tv_1, .int Tv_2, .int Tv_3, .int Tv_4])), (Ta_1, .inl (tc 0, 400, .inl Tf_1))] (fun (v : Option Value) (u : (Int32) × (Int32) × (Int32) × (Int32)) => match u with | (o1, o2, o3, o4) => ∃ r : Int32, v = some (.int r) ∧ (True) ∧ (0 ≤ (Tv_0 : Int32).toInt ∧ (Tv_0 : Int32).toInt ≤ 400 ∧ 0 ≤ (o1 : Int32).toInt ∧ (o1 : Int32).toInt ≤ 400 ∧ 0 ≤ (o2 : Int32).toInt ∧ (o2 : Int32).toInt ≤ 400)) (fun (u : (Int32) × (Int32) × (Int32) × (Int32)) => match u with | (o1, o2, o3, o4) => [(Ta_0, .inr (10, [.ref Ta_1, .int Tv_0, .int o1, .int o2, .int o3, .int o4])), (Ta_1, .inl (tc 0, 400, .inl Tf_1))]) 0 0 :=
  ct_X10_takeNumber l D tc sk (fun k => ([Ta_0, Ta_1] : List (Nat)).getD k 0) (fun k => ([Tv_0, Tv_1, Tv_2, Tv_3, Tv_4] : List (Int32)).getD k 0) (fun k => ([(fun _ => 0), Tf_1] : List (Nat → Int32)).getD k (fun _ => 0)) x1 x2 h_tape
