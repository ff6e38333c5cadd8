set_option maxRecDepth 16384
theorem i32_64 (k : Int32) : k.toInt64.toInt = k.toInt := Int32.toInt_toInt64 k
theorem i32_le (x : Int32) : x.toInt ≤ 2147483647 := by have := x.toInt_lt; omega
theorem imin_f {r x y : Int32} (e : r = if y < x then y else x) : r.toInt ≤ x.toInt ∧ r.toInt ≤ y.toInt ∧ (r.toInt = x.toInt ∨ r.toInt = y.toInt) := by
  by_cases h : y < x
  · rw [if_pos h] at e; subst e; have := Int32.lt_iff_toInt_lt.mp h; omega
  · rw [if_neg h] at e; subst e; have := Int32.le_iff_toInt_le.mp (Int32.not_lt.mp h); omega
theorem add_toInt {x y : Int32} (h1 : -2147483648 ≤ x.toInt + y.toInt) (h2 : x.toInt + y.toInt ≤ 2147483647) : (x + y).toInt = x.toInt + y.toInt := by
  rw [Int32.toInt_add]; exact Int.bmod_eq_of_le (by omega) (by omega)
theorem sub_toInt {x y : Int32} (h1 : -2147483648 ≤ x.toInt - y.toInt) (h2 : x.toInt - y.toInt ≤ 2147483647) : (x - y).toInt = x.toInt - y.toInt := by
  rw [Int32.toInt_sub]; exact Int.bmod_eq_of_le (by omega) (by omega)
theorem mul_toInt {x y : Int32} (h1 : -2147483648 ≤ x.toInt * y.toInt) (h2 : x.toInt * y.toInt ≤ 2147483647) : (x * y).toInt = x.toInt * y.toInt := by
  rw [Int32.toInt_mul]; exact Int.bmod_eq_of_le (by omega) (by omega)
theorem rem_bounds {x y : Int32} (h : 0 < y.toInt) : (0 ≤ x.toInt → 0 ≤ (x - x / y * y).toInt) ∧ (x - x / y * y).toInt < y.toInt := by
  rw [rem_toInt]
  exact ⟨fun h0 => Int.tmod_nonneg _ h0, (tmod_bounds h).2⟩
theorem nar01 {r : Int32} (h : r.toInt = 0 ∨ r.toInt = 1) : narrow .boolean (.int r) = .int r := by
  rcases h with h | h
  · have : r = 0 := Int32.toInt_inj.mp (by rw [h]; decide)
    rw [this]; rfl
  · have : r = 1 := Int32.toInt_inj.mp (by rw [h]; decide)
    rw [this]; rfl
theorem lenS_all : ∀ i, i < 7 → lenS.getD i 0 ≤ 75 := by decide
theorem lenS_le {i : Nat} (h : i < 7) : lenS.getD i 0 ≤ 75 := lenS_all i h
theorem nar_ch (b : Int32) : narrow .char (.int ((b &&& 255).toUInt32 % 65536).toInt32) = .int ((b &&& 255).toUInt32 % 65536).toInt32 := by rw [sc_c2]; exact sc_nar b
theorem dX10_begin_0 : decode cX10_begin 0 = .ok (.aload_n 0, 1) := by decide +kernel
theorem dX10_begin_1 : decode cX10_begin 1 = .ok (.iconst 0, 1) := by decide +kernel
theorem dX10_begin_2 : decode cX10_begin 2 = .ok (.putfield 28, 3) := by decide +kernel
theorem dX10_begin_5 : decode cX10_begin 5 = .ok (.aload_n 0, 1) := by decide +kernel
theorem dX10_begin_6 : decode cX10_begin 6 = .ok (.iconst 0, 1) := by decide +kernel
theorem dX10_begin_7 : decode cX10_begin 7 = .ok (.putfield 22, 3) := by decide +kernel
theorem dX10_begin_10 : decode cX10_begin 10 = .ok (.aload_n 0, 1) := by decide +kernel
theorem dX10_begin_11 : decode cX10_begin 11 = .ok (.invokevirtual 31, 3) := by decide +kernel
theorem dX10_begin_14 : decode cX10_begin 14 = .ok (.return_, 1) := by decide +kernel
theorem dX10_byteAt_0 : decode cX10_byteAt 0 = .ok (.iload_n 1, 1) := by decide +kernel
theorem dX10_byteAt_1 : decode cX10_byteAt 1 = .ok (.ifCond .lt 29, 3) := by decide +kernel
theorem dX10_byteAt_4 : decode cX10_byteAt 4 = .ok (.iload_n 1, 1) := by decide +kernel
theorem dX10_byteAt_5 : decode cX10_byteAt 5 = .ok (.aload_n 0, 1) := by decide +kernel
theorem dX10_byteAt_6 : decode cX10_byteAt 6 = .ok (.getfield 15, 3) := by decide +kernel
theorem dX10_byteAt_9 : decode cX10_byteAt 9 = .ok (.if_icmp .ge 21, 3) := by decide +kernel
theorem dX10_byteAt_12 : decode cX10_byteAt 12 = .ok (.iload_n 1, 1) := by decide +kernel
theorem dX10_byteAt_13 : decode cX10_byteAt 13 = .ok (.aload_n 0, 1) := by decide +kernel
theorem dX10_byteAt_14 : decode cX10_byteAt 14 = .ok (.getfield 9, 3) := by decide +kernel
theorem dX10_byteAt_17 : decode cX10_byteAt 17 = .ok (.arraylength, 1) := by decide +kernel
theorem dX10_byteAt_18 : decode cX10_byteAt 18 = .ok (.if_icmp .ge 12, 3) := by decide +kernel
theorem dX10_byteAt_21 : decode cX10_byteAt 21 = .ok (.aload_n 0, 1) := by decide +kernel
theorem dX10_byteAt_22 : decode cX10_byteAt 22 = .ok (.getfield 9, 3) := by decide +kernel
theorem dX10_byteAt_25 : decode cX10_byteAt 25 = .ok (.iload_n 1, 1) := by decide +kernel
theorem dX10_byteAt_26 : decode cX10_byteAt 26 = .ok (.iaload, 1) := by decide +kernel
theorem dX10_byteAt_27 : decode cX10_byteAt 27 = .ok (.goto 4, 3) := by decide +kernel
theorem dX10_byteAt_30 : decode cX10_byteAt 30 = .ok (.iconst (-1), 1) := by decide +kernel
theorem dX10_byteAt_31 : decode cX10_byteAt 31 = .ok (.ireturn, 1) := by decide +kernel
theorem dX10_fail_0 : decode cX10_fail 0 = .ok (.aload_n 0, 1) := by decide +kernel
theorem dX10_fail_1 : decode cX10_fail 1 = .ok (.getfield 28, 3) := by decide +kernel
theorem dX10_fail_4 : decode cX10_fail 4 = .ok (.ifCond .ne 23, 3) := by decide +kernel
theorem dX10_fail_7 : decode cX10_fail 7 = .ok (.aload_n 0, 1) := by decide +kernel
theorem dX10_fail_8 : decode cX10_fail 8 = .ok (.iconst 1, 1) := by decide +kernel
theorem dX10_fail_9 : decode cX10_fail 9 = .ok (.bipush 8, 2) := by decide +kernel
theorem dX10_fail_11 : decode cX10_fail 11 = .ok (.aload_n 0, 1) := by decide +kernel
theorem dX10_fail_12 : decode cX10_fail 12 = .ok (.getfield 19, 3) := by decide +kernel
theorem dX10_fail_15 : decode cX10_fail 15 = .ok (.imul, 1) := by decide +kernel
theorem dX10_fail_16 : decode cX10_fail 16 = .ok (.iadd, 1) := by decide +kernel
theorem dX10_fail_17 : decode cX10_fail 17 = .ok (.iload_n 1, 1) := by decide +kernel
theorem dX10_fail_18 : decode cX10_fail 18 = .ok (.iadd, 1) := by decide +kernel
theorem dX10_fail_19 : decode cX10_fail 19 = .ok (.putfield 28, 3) := by decide +kernel
theorem dX10_fail_22 : decode cX10_fail 22 = .ok (.aload_n 0, 1) := by decide +kernel
theorem dX10_fail_23 : decode cX10_fail 23 = .ok (.iconst (-1), 1) := by decide +kernel
theorem dX10_fail_24 : decode cX10_fail 24 = .ok (.putfield 25, 3) := by decide +kernel
theorem dX10_fail_27 : decode cX10_fail 27 = .ok (.return_, 1) := by decide +kernel
theorem dX10_finish_0 : decode cX10_finish 0 = .ok (.aload_n 0, 1) := by decide +kernel
theorem dX10_finish_1 : decode cX10_finish 1 = .ok (.getfield 19, 3) := by decide +kernel
theorem dX10_finish_4 : decode cX10_finish 4 = .ok (.aload_n 0, 1) := by decide +kernel
theorem dX10_finish_5 : decode cX10_finish 5 = .ok (.getfield 15, 3) := by decide +kernel
theorem dX10_finish_8 : decode cX10_finish 8 = .ok (.if_icmp .ge 8, 3) := by decide +kernel
theorem dX10_finish_11 : decode cX10_finish 11 = .ok (.aload_n 0, 1) := by decide +kernel
theorem dX10_finish_12 : decode cX10_finish 12 = .ok (.iconst 0, 1) := by decide +kernel
theorem dX10_finish_13 : decode cX10_finish 13 = .ok (.invokevirtual 62, 3) := by decide +kernel
theorem dX10_finish_16 : decode cX10_finish 16 = .ok (.return_, 1) := by decide +kernel
theorem dX10_isDigit_0 : decode cX10_isDigit 0 = .ok (.iload_n 0, 1) := by decide +kernel
theorem dX10_isDigit_1 : decode cX10_isDigit 1 = .ok (.bipush 48, 2) := by decide +kernel
theorem dX10_isDigit_3 : decode cX10_isDigit 3 = .ok (.if_icmp .lt 13, 3) := by decide +kernel
theorem dX10_isDigit_6 : decode cX10_isDigit 6 = .ok (.iload_n 0, 1) := by decide +kernel
theorem dX10_isDigit_7 : decode cX10_isDigit 7 = .ok (.bipush 57, 2) := by decide +kernel
theorem dX10_isDigit_9 : decode cX10_isDigit 9 = .ok (.if_icmp .gt 7, 3) := by decide +kernel
theorem dX10_isDigit_12 : decode cX10_isDigit 12 = .ok (.iconst 1, 1) := by decide +kernel
theorem dX10_isDigit_13 : decode cX10_isDigit 13 = .ok (.goto 4, 3) := by decide +kernel
theorem dX10_isDigit_16 : decode cX10_isDigit 16 = .ok (.iconst 0, 1) := by decide +kernel
theorem dX10_isDigit_17 : decode cX10_isDigit 17 = .ok (.ireturn, 1) := by decide +kernel
theorem dX10_isLetter_0 : decode cX10_isLetter 0 = .ok (.iload_n 0, 1) := by decide +kernel
theorem dX10_isLetter_1 : decode cX10_isLetter 1 = .ok (.bipush 97, 2) := by decide +kernel
theorem dX10_isLetter_3 : decode cX10_isLetter 3 = .ok (.if_icmp .lt 13, 3) := by decide +kernel
theorem dX10_isLetter_6 : decode cX10_isLetter 6 = .ok (.iload_n 0, 1) := by decide +kernel
theorem dX10_isLetter_7 : decode cX10_isLetter 7 = .ok (.bipush 122, 2) := by decide +kernel
theorem dX10_isLetter_9 : decode cX10_isLetter 9 = .ok (.if_icmp .gt 7, 3) := by decide +kernel
theorem dX10_isLetter_12 : decode cX10_isLetter 12 = .ok (.iconst 1, 1) := by decide +kernel
theorem dX10_isLetter_13 : decode cX10_isLetter 13 = .ok (.goto 4, 3) := by decide +kernel
theorem dX10_isLetter_16 : decode cX10_isLetter 16 = .ok (.iconst 0, 1) := by decide +kernel
theorem dX10_isLetter_17 : decode cX10_isLetter 17 = .ok (.ireturn, 1) := by decide +kernel
theorem dX10_numberHere_0 : decode cX10_numberHere 0 = .ok (.aload_n 0, 1) := by decide +kernel
theorem dX10_numberHere_1 : decode cX10_numberHere 1 = .ok (.getfield 25, 3) := by decide +kernel
theorem dX10_numberHere_4 : decode cX10_numberHere 4 = .ok (.invokestatic 42, 3) := by decide +kernel
theorem dX10_numberHere_7 : decode cX10_numberHere 7 = .ok (.ifCond .ne 10, 3) := by decide +kernel
theorem dX10_numberHere_10 : decode cX10_numberHere 10 = .ok (.aload_n 0, 1) := by decide +kernel
theorem dX10_numberHere_11 : decode cX10_numberHere 11 = .ok (.iconst 0, 1) := by decide +kernel
theorem dX10_numberHere_12 : decode cX10_numberHere 12 = .ok (.invokevirtual 62, 3) := by decide +kernel
theorem dX10_numberHere_15 : decode cX10_numberHere 15 = .ok (.iload_n 1, 1) := by decide +kernel
theorem dX10_numberHere_16 : decode cX10_numberHere 16 = .ok (.ireturn, 1) := by decide +kernel
theorem dX10_numberHere_17 : decode cX10_numberHere 17 = .ok (.aload_n 0, 1) := by decide +kernel
theorem dX10_numberHere_18 : decode cX10_numberHere 18 = .ok (.getfield 22, 3) := by decide +kernel
theorem dX10_numberHere_21 : decode cX10_numberHere 21 = .ok (.aload_n 0, 1) := by decide +kernel
theorem dX10_numberHere_22 : decode cX10_numberHere 22 = .ok (.getfield 19, 3) := by decide +kernel
theorem dX10_numberHere_25 : decode cX10_numberHere 25 = .ok (.isub, 1) := by decide +kernel
theorem dX10_numberHere_26 : decode cX10_numberHere 26 = .ok (.iconst 5, 1) := by decide +kernel
theorem dX10_numberHere_27 : decode cX10_numberHere 27 = .ok (.if_icmp .le 10, 3) := by decide +kernel
theorem dX10_numberHere_30 : decode cX10_numberHere 30 = .ok (.aload_n 0, 1) := by decide +kernel
theorem dX10_numberHere_31 : decode cX10_numberHere 31 = .ok (.iconst 1, 1) := by decide +kernel
theorem dX10_numberHere_32 : decode cX10_numberHere 32 = .ok (.invokevirtual 62, 3) := by decide +kernel
theorem dX10_numberHere_35 : decode cX10_numberHere 35 = .ok (.iload_n 1, 1) := by decide +kernel
theorem dX10_numberHere_36 : decode cX10_numberHere 36 = .ok (.ireturn, 1) := by decide +kernel
theorem dX10_numberHere_37 : decode cX10_numberHere 37 = .ok (.iconst 0, 1) := by decide +kernel
theorem dX10_numberHere_38 : decode cX10_numberHere 38 = .ok (.istore_n 3, 1) := by decide +kernel
theorem dX10_numberHere_39 : decode cX10_numberHere 39 = .ok (.aload_n 0, 1) := by decide +kernel
theorem dX10_numberHere_40 : decode cX10_numberHere 40 = .ok (.getfield 19, 3) := by decide +kernel
theorem dX10_numberHere_43 : decode cX10_numberHere 43 = .ok (.istore 4, 2) := by decide +kernel
theorem dX10_numberHere_45 : decode cX10_numberHere 45 = .ok (.iload 4, 2) := by decide +kernel
theorem dX10_numberHere_47 : decode cX10_numberHere 47 = .ok (.aload_n 0, 1) := by decide +kernel
theorem dX10_numberHere_48 : decode cX10_numberHere 48 = .ok (.getfield 22, 3) := by decide +kernel
theorem dX10_numberHere_51 : decode cX10_numberHere 51 = .ok (.if_icmp .ge 24, 3) := by decide +kernel
theorem dX10_numberHere_54 : decode cX10_numberHere 54 = .ok (.iload_n 3, 1) := by decide +kernel
theorem dX10_numberHere_55 : decode cX10_numberHere 55 = .ok (.bipush 10, 2) := by decide +kernel
theorem dX10_numberHere_57 : decode cX10_numberHere 57 = .ok (.imul, 1) := by decide +kernel
theorem dX10_numberHere_58 : decode cX10_numberHere 58 = .ok (.aload_n 0, 1) := by decide +kernel
theorem dX10_numberHere_59 : decode cX10_numberHere 59 = .ok (.iload 4, 2) := by decide +kernel
theorem dX10_numberHere_61 : decode cX10_numberHere 61 = .ok (.invokevirtual 34, 3) := by decide +kernel
theorem dX10_numberHere_64 : decode cX10_numberHere 64 = .ok (.iadd, 1) := by decide +kernel
theorem dX10_numberHere_65 : decode cX10_numberHere 65 = .ok (.bipush 48, 2) := by decide +kernel
theorem dX10_numberHere_67 : decode cX10_numberHere 67 = .ok (.isub, 1) := by decide +kernel
theorem dX10_numberHere_68 : decode cX10_numberHere 68 = .ok (.istore_n 3, 1) := by decide +kernel
theorem dX10_numberHere_69 : decode cX10_numberHere 69 = .ok (.iinc 4 1, 3) := by decide +kernel
theorem dX10_numberHere_72 : decode cX10_numberHere 72 = .ok (.goto (-27), 3) := by decide +kernel
theorem dX10_numberHere_75 : decode cX10_numberHere 75 = .ok (.iload_n 3, 1) := by decide +kernel
theorem dX10_numberHere_76 : decode cX10_numberHere 76 = .ok (.iload_n 1, 1) := by decide +kernel
theorem dX10_numberHere_77 : decode cX10_numberHere 77 = .ok (.if_icmp .lt 8, 3) := by decide +kernel
theorem dX10_numberHere_80 : decode cX10_numberHere 80 = .ok (.iload_n 3, 1) := by decide +kernel
theorem dX10_numberHere_81 : decode cX10_numberHere 81 = .ok (.iload_n 2, 1) := by decide +kernel
theorem dX10_numberHere_82 : decode cX10_numberHere 82 = .ok (.if_icmp .le 10, 3) := by decide +kernel
theorem dX10_numberHere_85 : decode cX10_numberHere 85 = .ok (.aload_n 0, 1) := by decide +kernel
theorem dX10_numberHere_86 : decode cX10_numberHere 86 = .ok (.iconst 1, 1) := by decide +kernel
theorem dX10_numberHere_87 : decode cX10_numberHere 87 = .ok (.invokevirtual 62, 3) := by decide +kernel
theorem dX10_numberHere_90 : decode cX10_numberHere 90 = .ok (.iload_n 1, 1) := by decide +kernel
theorem dX10_numberHere_91 : decode cX10_numberHere 91 = .ok (.ireturn, 1) := by decide +kernel
theorem dX10_numberHere_92 : decode cX10_numberHere 92 = .ok (.iload_n 3, 1) := by decide +kernel
theorem dX10_numberHere_93 : decode cX10_numberHere 93 = .ok (.ireturn, 1) := by decide +kernel
theorem dX10_step_0 : decode cX10_step 0 = .ok (.aload_n 0, 1) := by decide +kernel
theorem dX10_step_1 : decode cX10_step 1 = .ok (.aload_n 0, 1) := by decide +kernel
theorem dX10_step_2 : decode cX10_step 2 = .ok (.getfield 22, 3) := by decide +kernel
theorem dX10_step_5 : decode cX10_step 5 = .ok (.putfield 19, 3) := by decide +kernel
theorem dX10_step_8 : decode cX10_step 8 = .ok (.aload_n 0, 1) := by decide +kernel
theorem dX10_step_9 : decode cX10_step 9 = .ok (.getfield 19, 3) := by decide +kernel
theorem dX10_step_12 : decode cX10_step 12 = .ok (.aload_n 0, 1) := by decide +kernel
theorem dX10_step_13 : decode cX10_step 13 = .ok (.getfield 15, 3) := by decide +kernel
theorem dX10_step_16 : decode cX10_step 16 = .ok (.if_icmp .ge 29, 3) := by decide +kernel
theorem dX10_step_19 : decode cX10_step 19 = .ok (.aload_n 0, 1) := by decide +kernel
theorem dX10_step_20 : decode cX10_step 20 = .ok (.aload_n 0, 1) := by decide +kernel
theorem dX10_step_21 : decode cX10_step 21 = .ok (.getfield 19, 3) := by decide +kernel
theorem dX10_step_24 : decode cX10_step 24 = .ok (.invokevirtual 34, 3) := by decide +kernel
theorem dX10_step_27 : decode cX10_step 27 = .ok (.bipush 32, 2) := by decide +kernel
theorem dX10_step_29 : decode cX10_step 29 = .ok (.if_icmp .ne 16, 3) := by decide +kernel
theorem dX10_step_32 : decode cX10_step 32 = .ok (.aload_n 0, 1) := by decide +kernel
theorem dX10_step_33 : decode cX10_step 33 = .ok (.dup, 1) := by decide +kernel
theorem dX10_step_34 : decode cX10_step 34 = .ok (.getfield 19, 3) := by decide +kernel
theorem dX10_step_37 : decode cX10_step 37 = .ok (.iconst 1, 1) := by decide +kernel
theorem dX10_step_38 : decode cX10_step 38 = .ok (.iadd, 1) := by decide +kernel
theorem dX10_step_39 : decode cX10_step 39 = .ok (.putfield 19, 3) := by decide +kernel
theorem dX10_step_42 : decode cX10_step 42 = .ok (.goto (-34), 3) := by decide +kernel
theorem dX10_step_45 : decode cX10_step 45 = .ok (.aload_n 0, 1) := by decide +kernel
theorem dX10_step_46 : decode cX10_step 46 = .ok (.aload_n 0, 1) := by decide +kernel
theorem dX10_step_47 : decode cX10_step 47 = .ok (.getfield 19, 3) := by decide +kernel
theorem dX10_step_50 : decode cX10_step 50 = .ok (.putfield 22, 3) := by decide +kernel
theorem dX10_step_53 : decode cX10_step 53 = .ok (.aload_n 0, 1) := by decide +kernel
theorem dX10_step_54 : decode cX10_step 54 = .ok (.aload_n 0, 1) := by decide +kernel
theorem dX10_step_55 : decode cX10_step 55 = .ok (.getfield 28, 3) := by decide +kernel
theorem dX10_step_58 : decode cX10_step 58 = .ok (.ifCond .ne 14, 3) := by decide +kernel
theorem dX10_step_61 : decode cX10_step 61 = .ok (.aload_n 0, 1) := by decide +kernel
theorem dX10_step_62 : decode cX10_step 62 = .ok (.aload_n 0, 1) := by decide +kernel
theorem dX10_step_63 : decode cX10_step 63 = .ok (.getfield 19, 3) := by decide +kernel
theorem dX10_step_66 : decode cX10_step 66 = .ok (.invokevirtual 34, 3) := by decide +kernel
theorem dX10_step_69 : decode cX10_step 69 = .ok (.goto 4, 3) := by decide +kernel
theorem dX10_step_72 : decode cX10_step 72 = .ok (.iconst (-1), 1) := by decide +kernel
theorem dX10_step_73 : decode cX10_step 73 = .ok (.putfield 25, 3) := by decide +kernel
theorem dX10_step_76 : decode cX10_step 76 = .ok (.aload_n 0, 1) := by decide +kernel
theorem dX10_step_77 : decode cX10_step 77 = .ok (.getfield 25, 3) := by decide +kernel
theorem dX10_step_80 : decode cX10_step 80 = .ok (.invokestatic 38, 3) := by decide +kernel
theorem dX10_step_83 : decode cX10_step 83 = .ok (.ifCond .eq 41, 3) := by decide +kernel
theorem dX10_step_86 : decode cX10_step 86 = .ok (.aload_n 0, 1) := by decide +kernel
theorem dX10_step_87 : decode cX10_step 87 = .ok (.getfield 22, 3) := by decide +kernel
theorem dX10_step_90 : decode cX10_step 90 = .ok (.aload_n 0, 1) := by decide +kernel
theorem dX10_step_91 : decode cX10_step 91 = .ok (.getfield 15, 3) := by decide +kernel
theorem dX10_step_94 : decode cX10_step 94 = .ok (.if_icmp .ge 148, 3) := by decide +kernel
theorem dX10_step_97 : decode cX10_step 97 = .ok (.aload_n 0, 1) := by decide +kernel
theorem dX10_step_98 : decode cX10_step 98 = .ok (.aload_n 0, 1) := by decide +kernel
theorem dX10_step_99 : decode cX10_step 99 = .ok (.getfield 22, 3) := by decide +kernel
theorem dX10_step_102 : decode cX10_step 102 = .ok (.invokevirtual 34, 3) := by decide +kernel
theorem dX10_step_105 : decode cX10_step 105 = .ok (.invokestatic 38, 3) := by decide +kernel
theorem dX10_step_108 : decode cX10_step 108 = .ok (.ifCond .eq 134, 3) := by decide +kernel
theorem dX10_step_111 : decode cX10_step 111 = .ok (.aload_n 0, 1) := by decide +kernel
theorem dX10_step_112 : decode cX10_step 112 = .ok (.dup, 1) := by decide +kernel
theorem dX10_step_113 : decode cX10_step 113 = .ok (.getfield 22, 3) := by decide +kernel
theorem dX10_step_116 : decode cX10_step 116 = .ok (.iconst 1, 1) := by decide +kernel
theorem dX10_step_117 : decode cX10_step 117 = .ok (.iadd, 1) := by decide +kernel
theorem dX10_step_118 : decode cX10_step 118 = .ok (.putfield 22, 3) := by decide +kernel
theorem dX10_step_121 : decode cX10_step 121 = .ok (.goto (-35), 3) := by decide +kernel
theorem dX10_step_124 : decode cX10_step 124 = .ok (.aload_n 0, 1) := by decide +kernel
theorem dX10_step_125 : decode cX10_step 125 = .ok (.getfield 25, 3) := by decide +kernel
theorem dX10_step_128 : decode cX10_step 128 = .ok (.invokestatic 42, 3) := by decide +kernel
theorem dX10_step_131 : decode cX10_step 131 = .ok (.ifCond .eq 41, 3) := by decide +kernel
theorem dX10_step_134 : decode cX10_step 134 = .ok (.aload_n 0, 1) := by decide +kernel
theorem dX10_step_135 : decode cX10_step 135 = .ok (.getfield 22, 3) := by decide +kernel
theorem dX10_step_138 : decode cX10_step 138 = .ok (.aload_n 0, 1) := by decide +kernel
theorem dX10_step_139 : decode cX10_step 139 = .ok (.getfield 15, 3) := by decide +kernel
theorem dX10_step_142 : decode cX10_step 142 = .ok (.if_icmp .ge 100, 3) := by decide +kernel
theorem dX10_step_145 : decode cX10_step 145 = .ok (.aload_n 0, 1) := by decide +kernel
theorem dX10_step_146 : decode cX10_step 146 = .ok (.aload_n 0, 1) := by decide +kernel
theorem dX10_step_147 : decode cX10_step 147 = .ok (.getfield 22, 3) := by decide +kernel
theorem dX10_step_150 : decode cX10_step 150 = .ok (.invokevirtual 34, 3) := by decide +kernel
theorem dX10_step_153 : decode cX10_step 153 = .ok (.invokestatic 42, 3) := by decide +kernel
theorem dX10_step_156 : decode cX10_step 156 = .ok (.ifCond .eq 86, 3) := by decide +kernel
theorem dX10_step_159 : decode cX10_step 159 = .ok (.aload_n 0, 1) := by decide +kernel
theorem dX10_step_160 : decode cX10_step 160 = .ok (.dup, 1) := by decide +kernel
theorem dX10_step_161 : decode cX10_step 161 = .ok (.getfield 22, 3) := by decide +kernel
theorem dX10_step_164 : decode cX10_step 164 = .ok (.iconst 1, 1) := by decide +kernel
theorem dX10_step_165 : decode cX10_step 165 = .ok (.iadd, 1) := by decide +kernel
theorem dX10_step_166 : decode cX10_step 166 = .ok (.putfield 22, 3) := by decide +kernel
theorem dX10_step_169 : decode cX10_step 169 = .ok (.goto (-35), 3) := by decide +kernel
theorem dX10_step_172 : decode cX10_step 172 = .ok (.aload_n 0, 1) := by decide +kernel
theorem dX10_step_173 : decode cX10_step 173 = .ok (.getfield 25, 3) := by decide +kernel
theorem dX10_step_176 : decode cX10_step 176 = .ok (.iconst (-1), 1) := by decide +kernel
theorem dX10_step_177 : decode cX10_step 177 = .ok (.if_icmp .eq 65, 3) := by decide +kernel
theorem dX10_step_180 : decode cX10_step 180 = .ok (.aload_n 0, 1) := by decide +kernel
theorem dX10_step_181 : decode cX10_step 181 = .ok (.getfield 25, 3) := by decide +kernel
theorem dX10_step_184 : decode cX10_step 184 = .ok (.bipush 60, 2) := by decide +kernel
theorem dX10_step_186 : decode cX10_step 186 = .ok (.if_icmp .eq 12, 3) := by decide +kernel
theorem dX10_step_189 : decode cX10_step 189 = .ok (.aload_n 0, 1) := by decide +kernel
theorem dX10_step_190 : decode cX10_step 190 = .ok (.getfield 25, 3) := by decide +kernel
theorem dX10_step_193 : decode cX10_step 193 = .ok (.bipush 62, 2) := by decide +kernel
theorem dX10_step_195 : decode cX10_step 195 = .ok (.if_icmp .ne 7, 3) := by decide +kernel
theorem dX10_step_198 : decode cX10_step 198 = .ok (.iconst 1, 1) := by decide +kernel
theorem dX10_step_199 : decode cX10_step 199 = .ok (.goto 4, 3) := by decide +kernel
theorem dX10_step_202 : decode cX10_step 202 = .ok (.iconst 0, 1) := by decide +kernel
theorem dX10_step_203 : decode cX10_step 203 = .ok (.istore_n 1, 1) := by decide +kernel
theorem dX10_step_204 : decode cX10_step 204 = .ok (.aload_n 0, 1) := by decide +kernel
theorem dX10_step_205 : decode cX10_step 205 = .ok (.iload_n 1, 1) := by decide +kernel
theorem dX10_step_206 : decode cX10_step 206 = .ok (.ifCond .eq 27, 3) := by decide +kernel
theorem dX10_step_209 : decode cX10_step 209 = .ok (.aload_n 0, 1) := by decide +kernel
theorem dX10_step_210 : decode cX10_step 210 = .ok (.aload_n 0, 1) := by decide +kernel
theorem dX10_step_211 : decode cX10_step 211 = .ok (.getfield 19, 3) := by decide +kernel
theorem dX10_step_214 : decode cX10_step 214 = .ok (.iconst 1, 1) := by decide +kernel
theorem dX10_step_215 : decode cX10_step 215 = .ok (.iadd, 1) := by decide +kernel
theorem dX10_step_216 : decode cX10_step 216 = .ok (.invokevirtual 34, 3) := by decide +kernel
theorem dX10_step_219 : decode cX10_step 219 = .ok (.bipush 61, 2) := by decide +kernel
theorem dX10_step_221 : decode cX10_step 221 = .ok (.if_icmp .ne 12, 3) := by decide +kernel
theorem dX10_step_224 : decode cX10_step 224 = .ok (.aload_n 0, 1) := by decide +kernel
theorem dX10_step_225 : decode cX10_step 225 = .ok (.getfield 19, 3) := by decide +kernel
theorem dX10_step_228 : decode cX10_step 228 = .ok (.iconst 2, 1) := by decide +kernel
theorem dX10_step_229 : decode cX10_step 229 = .ok (.iadd, 1) := by decide +kernel
theorem dX10_step_230 : decode cX10_step 230 = .ok (.goto 9, 3) := by decide +kernel
theorem dX10_step_233 : decode cX10_step 233 = .ok (.aload_n 0, 1) := by decide +kernel
theorem dX10_step_234 : decode cX10_step 234 = .ok (.getfield 19, 3) := by decide +kernel
theorem dX10_step_237 : decode cX10_step 237 = .ok (.iconst 1, 1) := by decide +kernel
theorem dX10_step_238 : decode cX10_step 238 = .ok (.iadd, 1) := by decide +kernel
theorem dX10_step_239 : decode cX10_step 239 = .ok (.putfield 22, 3) := by decide +kernel
theorem dX10_step_242 : decode cX10_step 242 = .ok (.return_, 1) := by decide +kernel
theorem dX10_takes_0 : decode cX10_takes 0 = .ok (.aload_n 0, 1) := by decide +kernel
theorem dX10_takes_1 : decode cX10_takes 1 = .ok (.getfield 25, 3) := by decide +kernel
theorem dX10_takes_4 : decode cX10_takes 4 = .ok (.iload_n 1, 1) := by decide +kernel
theorem dX10_takes_5 : decode cX10_takes 5 = .ok (.if_icmp .eq 5, 3) := by decide +kernel
theorem dX10_takes_8 : decode cX10_takes 8 = .ok (.iconst 0, 1) := by decide +kernel
theorem dX10_takes_9 : decode cX10_takes 9 = .ok (.ireturn, 1) := by decide +kernel
theorem dX10_takes_10 : decode cX10_takes 10 = .ok (.aload_n 0, 1) := by decide +kernel
theorem dX10_takes_11 : decode cX10_takes 11 = .ok (.invokevirtual 31, 3) := by decide +kernel
theorem dX10_takes_14 : decode cX10_takes 14 = .ok (.iconst 1, 1) := by decide +kernel
theorem dX10_takes_15 : decode cX10_takes 15 = .ok (.ireturn, 1) := by decide +kernel
theorem dJ0_charAt_5068e_0 : decode cJ0_charAt_5068e 0 = .ok (.aload_n 0, 1) := by decide +kernel
theorem dJ0_charAt_5068e_1 : decode cJ0_charAt_5068e 1 = .ok (.invokevirtual 492, 3) := by decide +kernel
theorem dJ0_charAt_5068e_4 : decode cJ0_charAt_5068e 4 = .ok (.ifCond .eq 12, 3) := by decide +kernel
theorem dJ0_charAt_5068e_7 : decode cJ0_charAt_5068e 7 = .ok (.aload_n 0, 1) := by decide +kernel
theorem dJ0_charAt_5068e_8 : decode cJ0_charAt_5068e 8 = .ok (.getfield 9, 3) := by decide +kernel
theorem dJ0_charAt_5068e_11 : decode cJ0_charAt_5068e 11 = .ok (.iload_n 1, 1) := by decide +kernel
theorem dJ0_charAt_5068e_12 : decode cJ0_charAt_5068e 12 = .ok (.invokestatic 495, 3) := by decide +kernel
theorem dJ0_charAt_5068e_15 : decode cJ0_charAt_5068e 15 = .ok (.ireturn, 1) := by decide +kernel
theorem dJ0_checkIndex_df160_0 : decode cJ0_checkIndex_df160 0 = .ok (.iload_n 0, 1) := by decide +kernel
theorem dJ0_checkIndex_df160_1 : decode cJ0_checkIndex_df160 1 = .ok (.iload_n 1, 1) := by decide +kernel
theorem dJ0_checkIndex_df160_2 : decode cJ0_checkIndex_df160 2 = .ok (.getstatic 1053, 3) := by decide +kernel
theorem dJ0_checkIndex_df160_5 : decode cJ0_checkIndex_df160 5 = .ok (.invokestatic 1059, 3) := by decide +kernel
theorem dJ0_checkIndex_df160_8 : decode cJ0_checkIndex_df160 8 = .ok (.pop, 1) := by decide +kernel
theorem dJ0_checkIndex_df160_9 : decode cJ0_checkIndex_df160 9 = .ok (.return_, 1) := by decide +kernel
theorem dJ0_coder_7d493_0 : decode cJ0_coder_7d493 0 = .ok (.getstatic 38, 3) := by decide +kernel
theorem dJ0_coder_7d493_3 : decode cJ0_coder_7d493 3 = .ok (.ifCond .eq 10, 3) := by decide +kernel
theorem dJ0_coder_7d493_6 : decode cJ0_coder_7d493 6 = .ok (.aload_n 0, 1) := by decide +kernel
theorem dJ0_coder_7d493_7 : decode cJ0_coder_7d493 7 = .ok (.getfield 15, 3) := by decide +kernel
theorem dJ0_coder_7d493_10 : decode cJ0_coder_7d493 10 = .ok (.goto 4, 3) := by decide +kernel
theorem dJ0_coder_7d493_14 : decode cJ0_coder_7d493 14 = .ok (.ireturn, 1) := by decide +kernel
theorem dJ0_isLatin1_aae02_0 : decode cJ0_isLatin1_aae02 0 = .ok (.getstatic 38, 3) := by decide +kernel
theorem dJ0_isLatin1_aae02_3 : decode cJ0_isLatin1_aae02 3 = .ok (.ifCond .eq 14, 3) := by decide +kernel
theorem dJ0_isLatin1_aae02_6 : decode cJ0_isLatin1_aae02 6 = .ok (.aload_n 0, 1) := by decide +kernel
theorem dJ0_isLatin1_aae02_7 : decode cJ0_isLatin1_aae02 7 = .ok (.getfield 15, 3) := by decide +kernel
theorem dJ0_isLatin1_aae02_10 : decode cJ0_isLatin1_aae02 10 = .ok (.ifCond .ne 7, 3) := by decide +kernel
theorem dJ0_isLatin1_aae02_13 : decode cJ0_isLatin1_aae02 13 = .ok (.iconst 1, 1) := by decide +kernel
theorem dJ0_isLatin1_aae02_14 : decode cJ0_isLatin1_aae02 14 = .ok (.goto 4, 3) := by decide +kernel
theorem dJ0_isLatin1_aae02_18 : decode cJ0_isLatin1_aae02 18 = .ok (.ireturn, 1) := by decide +kernel
theorem dJ0_length_8abf5_0 : decode cJ0_length_8abf5 0 = .ok (.aload_n 0, 1) := by decide +kernel
theorem dJ0_length_8abf5_1 : decode cJ0_length_8abf5 1 = .ok (.getfield 9, 3) := by decide +kernel
theorem dJ0_length_8abf5_4 : decode cJ0_length_8abf5 4 = .ok (.arraylength, 1) := by decide +kernel
theorem dJ0_length_8abf5_5 : decode cJ0_length_8abf5 5 = .ok (.aload_n 0, 1) := by decide +kernel
theorem dJ0_length_8abf5_6 : decode cJ0_length_8abf5 6 = .ok (.invokevirtual 335, 3) := by decide +kernel
theorem dJ0_length_8abf5_9 : decode cJ0_length_8abf5 9 = .ok (.ishr, 1) := by decide +kernel
theorem dJ0_length_8abf5_10 : decode cJ0_length_8abf5 10 = .ok (.ireturn, 1) := by decide +kernel
theorem dJ1_charAt_3b067_0 : decode cJ1_charAt_3b067 0 = .ok (.iload_n 1, 1) := by decide +kernel
theorem dJ1_charAt_3b067_1 : decode cJ1_charAt_3b067 1 = .ok (.aload_n 0, 1) := by decide +kernel
theorem dJ1_charAt_3b067_2 : decode cJ1_charAt_3b067 2 = .ok (.arraylength, 1) := by decide +kernel
theorem dJ1_charAt_3b067_3 : decode cJ1_charAt_3b067 3 = .ok (.invokestatic 9, 3) := by decide +kernel
theorem dJ1_charAt_3b067_6 : decode cJ1_charAt_3b067 6 = .ok (.aload_n 0, 1) := by decide +kernel
theorem dJ1_charAt_3b067_7 : decode cJ1_charAt_3b067 7 = .ok (.iload_n 1, 1) := by decide +kernel
theorem dJ1_charAt_3b067_8 : decode cJ1_charAt_3b067 8 = .ok (.baload, 1) := by decide +kernel
theorem dJ1_charAt_3b067_9 : decode cJ1_charAt_3b067 9 = .ok (.sipush 255, 3) := by decide +kernel
theorem dJ1_charAt_3b067_12 : decode cJ1_charAt_3b067 12 = .ok (.iand, 1) := by decide +kernel
theorem dJ1_charAt_3b067_13 : decode cJ1_charAt_3b067 13 = .ok (.i2c, 1) := by decide +kernel
theorem dJ1_charAt_3b067_14 : decode cJ1_charAt_3b067 14 = .ok (.ireturn, 1) := by decide +kernel
theorem dJ3_checkIndex_8e157_0 : decode cJ3_checkIndex_8e157 0 = .ok (.iload_n 0, 1) := by decide +kernel
theorem dJ3_checkIndex_8e157_1 : decode cJ3_checkIndex_8e157 1 = .ok (.ifCond .lt 8, 3) := by decide +kernel
theorem dJ3_checkIndex_8e157_4 : decode cJ3_checkIndex_8e157 4 = .ok (.iload_n 0, 1) := by decide +kernel
theorem dJ3_checkIndex_8e157_5 : decode cJ3_checkIndex_8e157 5 = .ok (.iload_n 1, 1) := by decide +kernel
theorem dJ3_checkIndex_8e157_6 : decode cJ3_checkIndex_8e157 6 = .ok (.if_icmp .lt 10, 3) := by decide +kernel
theorem dJ3_checkIndex_8e157_16 : decode cJ3_checkIndex_8e157 16 = .ok (.iload_n 0, 1) := by decide +kernel
theorem dJ3_checkIndex_8e157_17 : decode cJ3_checkIndex_8e157 17 = .ok (.ireturn, 1) := by decide +kernel
theorem dX10_isPartOf_0 : decode cX10_isPartOf 0 = .ok (.aload_n 0, 1) := by decide +kernel
theorem dX10_isPartOf_1 : decode cX10_isPartOf 1 = .ok (.getfield 28, 3) := by decide +kernel
theorem dX10_isPartOf_4 : decode cX10_isPartOf 4 = .ok (.ifCond .ne 30, 3) := by decide +kernel
theorem dX10_isPartOf_7 : decode cX10_isPartOf 7 = .ok (.aload_n 0, 1) := by decide +kernel
theorem dX10_isPartOf_8 : decode cX10_isPartOf 8 = .ok (.getfield 22, 3) := by decide +kernel
theorem dX10_isPartOf_11 : decode cX10_isPartOf 11 = .ok (.aload_n 0, 1) := by decide +kernel
theorem dX10_isPartOf_12 : decode cX10_isPartOf 12 = .ok (.getfield 19, 3) := by decide +kernel
theorem dX10_isPartOf_15 : decode cX10_isPartOf 15 = .ok (.isub, 1) := by decide +kernel
theorem dX10_isPartOf_16 : decode cX10_isPartOf 16 = .ok (.iload_n 3, 1) := by decide +kernel
theorem dX10_isPartOf_17 : decode cX10_isPartOf 17 = .ok (.iload_n 2, 1) := by decide +kernel
theorem dX10_isPartOf_18 : decode cX10_isPartOf 18 = .ok (.isub, 1) := by decide +kernel
theorem dX10_isPartOf_19 : decode cX10_isPartOf 19 = .ok (.if_icmp .ne 15, 3) := by decide +kernel
theorem dX10_isPartOf_22 : decode cX10_isPartOf 22 = .ok (.iload_n 2, 1) := by decide +kernel
theorem dX10_isPartOf_23 : decode cX10_isPartOf 23 = .ok (.ifCond .lt 11, 3) := by decide +kernel
theorem dX10_isPartOf_26 : decode cX10_isPartOf 26 = .ok (.iload_n 3, 1) := by decide +kernel
theorem dX10_isPartOf_27 : decode cX10_isPartOf 27 = .ok (.aload_n 1, 1) := by decide +kernel
theorem dX10_isPartOf_28 : decode cX10_isPartOf 28 = .ok (.invokevirtual 45, 3) := by decide +kernel
theorem dX10_isPartOf_31 : decode cX10_isPartOf 31 = .ok (.if_icmp .le 5, 3) := by decide +kernel
theorem dX10_isPartOf_34 : decode cX10_isPartOf 34 = .ok (.iconst 0, 1) := by decide +kernel
theorem dX10_isPartOf_35 : decode cX10_isPartOf 35 = .ok (.ireturn, 1) := by decide +kernel
theorem dX10_isPartOf_36 : decode cX10_isPartOf 36 = .ok (.aload_n 0, 1) := by decide +kernel
theorem dX10_isPartOf_37 : decode cX10_isPartOf 37 = .ok (.getfield 19, 3) := by decide +kernel
theorem dX10_isPartOf_40 : decode cX10_isPartOf 40 = .ok (.ifCond .lt 15, 3) := by decide +kernel
theorem dX10_isPartOf_43 : decode cX10_isPartOf 43 = .ok (.aload_n 0, 1) := by decide +kernel
theorem dX10_isPartOf_44 : decode cX10_isPartOf 44 = .ok (.getfield 22, 3) := by decide +kernel
theorem dX10_isPartOf_47 : decode cX10_isPartOf 47 = .ok (.aload_n 0, 1) := by decide +kernel
theorem dX10_isPartOf_48 : decode cX10_isPartOf 48 = .ok (.getfield 9, 3) := by decide +kernel
theorem dX10_isPartOf_51 : decode cX10_isPartOf 51 = .ok (.arraylength, 1) := by decide +kernel
theorem dX10_isPartOf_52 : decode cX10_isPartOf 52 = .ok (.if_icmp .le 5, 3) := by decide +kernel
theorem dX10_isPartOf_55 : decode cX10_isPartOf 55 = .ok (.iconst 0, 1) := by decide +kernel
theorem dX10_isPartOf_56 : decode cX10_isPartOf 56 = .ok (.ireturn, 1) := by decide +kernel
theorem dX10_isPartOf_57 : decode cX10_isPartOf 57 = .ok (.iload_n 2, 1) := by decide +kernel
theorem dX10_isPartOf_58 : decode cX10_isPartOf 58 = .ok (.istore 4, 2) := by decide +kernel
theorem dX10_isPartOf_60 : decode cX10_isPartOf 60 = .ok (.iload 4, 2) := by decide +kernel
theorem dX10_isPartOf_62 : decode cX10_isPartOf 62 = .ok (.iload_n 3, 1) := by decide +kernel
theorem dX10_isPartOf_63 : decode cX10_isPartOf 63 = .ok (.if_icmp .ge 34, 3) := by decide +kernel
theorem dX10_isPartOf_66 : decode cX10_isPartOf 66 = .ok (.aload_n 0, 1) := by decide +kernel
theorem dX10_isPartOf_67 : decode cX10_isPartOf 67 = .ok (.getfield 9, 3) := by decide +kernel
theorem dX10_isPartOf_70 : decode cX10_isPartOf 70 = .ok (.aload_n 0, 1) := by decide +kernel
theorem dX10_isPartOf_71 : decode cX10_isPartOf 71 = .ok (.getfield 19, 3) := by decide +kernel
theorem dX10_isPartOf_74 : decode cX10_isPartOf 74 = .ok (.iload 4, 2) := by decide +kernel
theorem dX10_isPartOf_76 : decode cX10_isPartOf 76 = .ok (.iadd, 1) := by decide +kernel
theorem dX10_isPartOf_77 : decode cX10_isPartOf 77 = .ok (.iload_n 2, 1) := by decide +kernel
theorem dX10_isPartOf_78 : decode cX10_isPartOf 78 = .ok (.isub, 1) := by decide +kernel
theorem dX10_isPartOf_79 : decode cX10_isPartOf 79 = .ok (.iaload, 1) := by decide +kernel
theorem dX10_isPartOf_80 : decode cX10_isPartOf 80 = .ok (.aload_n 1, 1) := by decide +kernel
theorem dX10_isPartOf_81 : decode cX10_isPartOf 81 = .ok (.iload 4, 2) := by decide +kernel
theorem dX10_isPartOf_83 : decode cX10_isPartOf 83 = .ok (.invokevirtual 58, 3) := by decide +kernel
theorem dX10_isPartOf_86 : decode cX10_isPartOf 86 = .ok (.if_icmp .eq 5, 3) := by decide +kernel
theorem dX10_isPartOf_89 : decode cX10_isPartOf 89 = .ok (.iconst 0, 1) := by decide +kernel
theorem dX10_isPartOf_90 : decode cX10_isPartOf 90 = .ok (.ireturn, 1) := by decide +kernel
theorem dX10_isPartOf_91 : decode cX10_isPartOf 91 = .ok (.iinc 4 1, 3) := by decide +kernel
theorem dX10_isPartOf_94 : decode cX10_isPartOf 94 = .ok (.goto (-34), 3) := by decide +kernel
theorem dX10_isPartOf_97 : decode cX10_isPartOf 97 = .ok (.iconst 1, 1) := by decide +kernel
theorem dX10_isPartOf_98 : decode cX10_isPartOf 98 = .ok (.ireturn, 1) := by decide +kernel
theorem dX10_isWord_0 : decode cX10_isWord 0 = .ok (.aload_n 0, 1) := by decide +kernel
theorem dX10_isWord_1 : decode cX10_isWord 1 = .ok (.aload_n 1, 1) := by decide +kernel
theorem dX10_isWord_2 : decode cX10_isWord 2 = .ok (.iconst 0, 1) := by decide +kernel
theorem dX10_isWord_3 : decode cX10_isWord 3 = .ok (.aload_n 1, 1) := by decide +kernel
theorem dX10_isWord_4 : decode cX10_isWord 4 = .ok (.invokevirtual 45, 3) := by decide +kernel
theorem dX10_isWord_7 : decode cX10_isWord 7 = .ok (.invokevirtual 50, 3) := by decide +kernel
theorem dX10_isWord_10 : decode cX10_isWord 10 = .ok (.ireturn, 1) := by decide +kernel
theorem dX10_takesWord_0 : decode cX10_takesWord 0 = .ok (.aload_n 0, 1) := by decide +kernel
theorem dX10_takesWord_1 : decode cX10_takesWord 1 = .ok (.aload_n 1, 1) := by decide +kernel
theorem dX10_takesWord_2 : decode cX10_takesWord 2 = .ok (.invokevirtual 54, 3) := by decide +kernel
theorem dX10_takesWord_5 : decode cX10_takesWord 5 = .ok (.ifCond .ne 5, 3) := by decide +kernel
theorem dX10_takesWord_8 : decode cX10_takesWord 8 = .ok (.iconst 0, 1) := by decide +kernel
theorem dX10_takesWord_9 : decode cX10_takesWord 9 = .ok (.ireturn, 1) := by decide +kernel
theorem dX10_takesWord_10 : decode cX10_takesWord 10 = .ok (.aload_n 0, 1) := by decide +kernel
theorem dX10_takesWord_11 : decode cX10_takesWord 11 = .ok (.invokevirtual 31, 3) := by decide +kernel
theorem dX10_takesWord_14 : decode cX10_takesWord 14 = .ok (.iconst 1, 1) := by decide +kernel
theorem dX10_takesWord_15 : decode cX10_takesWord 15 = .ok (.ireturn, 1) := by decide +kernel
theorem dX10_wordAmong_0 : decode cX10_wordAmong 0 = .ok (.iconst 0, 1) := by decide +kernel
theorem dX10_wordAmong_1 : decode cX10_wordAmong 1 = .ok (.istore_n 2, 1) := by decide +kernel
theorem dX10_wordAmong_2 : decode cX10_wordAmong 2 = .ok (.iconst 0, 1) := by decide +kernel
theorem dX10_wordAmong_3 : decode cX10_wordAmong 3 = .ok (.istore_n 3, 1) := by decide +kernel
theorem dX10_wordAmong_4 : decode cX10_wordAmong 4 = .ok (.iconst 0, 1) := by decide +kernel
theorem dX10_wordAmong_5 : decode cX10_wordAmong 5 = .ok (.istore 4, 2) := by decide +kernel
theorem dX10_wordAmong_7 : decode cX10_wordAmong 7 = .ok (.iload 4, 2) := by decide +kernel
theorem dX10_wordAmong_9 : decode cX10_wordAmong 9 = .ok (.aload_n 1, 1) := by decide +kernel
theorem dX10_wordAmong_10 : decode cX10_wordAmong 10 = .ok (.invokevirtual 45, 3) := by decide +kernel
theorem dX10_wordAmong_13 : decode cX10_wordAmong 13 = .ok (.if_icmp .ge 41, 3) := by decide +kernel
theorem dX10_wordAmong_16 : decode cX10_wordAmong 16 = .ok (.aload_n 1, 1) := by decide +kernel
theorem dX10_wordAmong_17 : decode cX10_wordAmong 17 = .ok (.iload 4, 2) := by decide +kernel
theorem dX10_wordAmong_19 : decode cX10_wordAmong 19 = .ok (.invokevirtual 58, 3) := by decide +kernel
theorem dX10_wordAmong_22 : decode cX10_wordAmong 22 = .ok (.bipush 32, 2) := by decide +kernel
theorem dX10_wordAmong_24 : decode cX10_wordAmong 24 = .ok (.if_icmp .ne 24, 3) := by decide +kernel
theorem dX10_wordAmong_27 : decode cX10_wordAmong 27 = .ok (.aload_n 0, 1) := by decide +kernel
theorem dX10_wordAmong_28 : decode cX10_wordAmong 28 = .ok (.aload_n 1, 1) := by decide +kernel
theorem dX10_wordAmong_29 : decode cX10_wordAmong 29 = .ok (.iload_n 3, 1) := by decide +kernel
theorem dX10_wordAmong_30 : decode cX10_wordAmong 30 = .ok (.iload 4, 2) := by decide +kernel
theorem dX10_wordAmong_32 : decode cX10_wordAmong 32 = .ok (.invokevirtual 50, 3) := by decide +kernel
theorem dX10_wordAmong_35 : decode cX10_wordAmong 35 = .ok (.ifCond .eq 5, 3) := by decide +kernel
theorem dX10_wordAmong_38 : decode cX10_wordAmong 38 = .ok (.iload_n 2, 1) := by decide +kernel
theorem dX10_wordAmong_39 : decode cX10_wordAmong 39 = .ok (.ireturn, 1) := by decide +kernel
theorem dX10_wordAmong_40 : decode cX10_wordAmong 40 = .ok (.iinc 2 1, 3) := by decide +kernel
theorem dX10_wordAmong_43 : decode cX10_wordAmong 43 = .ok (.iload 4, 2) := by decide +kernel
theorem dX10_wordAmong_45 : decode cX10_wordAmong 45 = .ok (.iconst 1, 1) := by decide +kernel
theorem dX10_wordAmong_46 : decode cX10_wordAmong 46 = .ok (.iadd, 1) := by decide +kernel
theorem dX10_wordAmong_47 : decode cX10_wordAmong 47 = .ok (.istore_n 3, 1) := by decide +kernel
theorem dX10_wordAmong_48 : decode cX10_wordAmong 48 = .ok (.iinc 4 1, 3) := by decide +kernel
theorem dX10_wordAmong_51 : decode cX10_wordAmong 51 = .ok (.goto (-44), 3) := by decide +kernel
theorem dX10_wordAmong_54 : decode cX10_wordAmong 54 = .ok (.iconst (-1), 1) := by decide +kernel
theorem dX10_wordAmong_55 : decode cX10_wordAmong 55 = .ok (.ireturn, 1) := by decide +kernel
theorem sx_1 {sk : (Nat → Nat) × (Nat → Nat)} {A : Nat → Prop} {U : State} {H : Heap} (h : Sx sk A U H) : vk_R RX7 31 "buy" (sk.1 1) U := h.2.2.2.1 1 (RX7, 31, "buy") rfl
theorem sx_2 {sk : (Nat → Nat) × (Nat → Nat)} {A : Nat → Prop} {U : State} {H : Heap} (h : Sx sk A U H) : vk_R RX7 111 "buyer temper grains waits still next shelf bought met since sold clock day " (sk.1 2) U := h.2.2.2.1 2 (RX7, 111, "buyer temper grains waits still next shelf bought met since sold clock day ") rfl
theorem sx_3 {sk : (Nat → Nat) × (Nat → Nat)} {A : Nat → Prop} {U : State} {H : Heap} (h : Sx sk A U H) : vk_R RX7 48 "if" (sk.1 3) U := h.2.2.2.1 3 (RX7, 48, "if") rfl
theorem sx_4 {sk : (Nat → Nat) × (Nat → Nat)} {A : Nat → Prop} {U : State} {H : Heap} (h : Sx sk A U H) : vk_R RX7 84 "not" (sk.1 4) U := h.2.2.2.1 4 (RX7, 84, "not") rfl
theorem sx_5 {sk : (Nat → Nat) × (Nat → Nat)} {A : Nat → Prop} {U : State} {H : Heap} (h : Sx sk A U H) : vk_R RX7 80 "and" (sk.1 5) U := h.2.2.2.1 5 (RX7, 80, "and") rfl
theorem sx_6 {sk : (Nat → Nat) × (Nat → Nat)} {A : Nat → Prop} {U : State} {H : Heap} (h : Sx sk A U H) : vk_R RX7 82 "or" (sk.1 6) U := h.2.2.2.1 6 (RX7, 82, "or") rfl
theorem dX7_arithmetic_0 : decode cX7_arithmetic 0 = .ok (.aload_n 0, 1) := by decide +kernel
theorem dX7_arithmetic_1 : decode cX7_arithmetic 1 = .ok (.getfield 86, 3) := by decide +kernel
theorem dX7_arithmetic_4 : decode cX7_arithmetic 4 = .ok (.tableswitch 75 37 47 #[72, 75, 75, 75, 75, 66, 60, 75, 63, 75, 69], 60) := by decide +kernel
theorem dX7_arithmetic_64 : decode cX7_arithmetic 64 = .ok (.bipush (-12), 2) := by decide +kernel
theorem dX7_arithmetic_66 : decode cX7_arithmetic 66 = .ok (.ireturn, 1) := by decide +kernel
theorem dX7_arithmetic_67 : decode cX7_arithmetic 67 = .ok (.bipush (-13), 2) := by decide +kernel
theorem dX7_arithmetic_69 : decode cX7_arithmetic 69 = .ok (.ireturn, 1) := by decide +kernel
theorem dX7_arithmetic_70 : decode cX7_arithmetic 70 = .ok (.bipush (-14), 2) := by decide +kernel
theorem dX7_arithmetic_72 : decode cX7_arithmetic 72 = .ok (.ireturn, 1) := by decide +kernel
theorem dX7_arithmetic_73 : decode cX7_arithmetic 73 = .ok (.bipush (-15), 2) := by decide +kernel
theorem dX7_arithmetic_75 : decode cX7_arithmetic 75 = .ok (.ireturn, 1) := by decide +kernel
theorem dX7_arithmetic_76 : decode cX7_arithmetic 76 = .ok (.bipush (-16), 2) := by decide +kernel
theorem dX7_arithmetic_78 : decode cX7_arithmetic 78 = .ok (.ireturn, 1) := by decide +kernel
theorem dX7_arithmetic_79 : decode cX7_arithmetic 79 = .ok (.iconst (-1), 1) := by decide +kernel
theorem dX7_arithmetic_80 : decode cX7_arithmetic 80 = .ok (.ireturn, 1) := by decide +kernel
theorem dX7_comparison_0 : decode cX7_comparison 0 = .ok (.aload_n 0, 1) := by decide +kernel
theorem dX7_comparison_1 : decode cX7_comparison 1 = .ok (.getfield 118, 3) := by decide +kernel
theorem dX7_comparison_4 : decode cX7_comparison 4 = .ok (.aload_n 0, 1) := by decide +kernel
theorem dX7_comparison_5 : decode cX7_comparison 5 = .ok (.getfield 121, 3) := by decide +kernel
theorem dX7_comparison_8 : decode cX7_comparison 8 = .ok (.isub, 1) := by decide +kernel
theorem dX7_comparison_9 : decode cX7_comparison 9 = .ok (.iconst 2, 1) := by decide +kernel
theorem dX7_comparison_10 : decode cX7_comparison 10 = .ok (.if_icmp .ne 7, 3) := by decide +kernel
theorem dX7_comparison_13 : decode cX7_comparison 13 = .ok (.iconst 1, 1) := by decide +kernel
theorem dX7_comparison_14 : decode cX7_comparison 14 = .ok (.goto 4, 3) := by decide +kernel
theorem dX7_comparison_17 : decode cX7_comparison 17 = .ok (.iconst 0, 1) := by decide +kernel
theorem dX7_comparison_18 : decode cX7_comparison 18 = .ok (.istore_n 1, 1) := by decide +kernel
theorem dX7_comparison_19 : decode cX7_comparison 19 = .ok (.aload_n 0, 1) := by decide +kernel
theorem dX7_comparison_20 : decode cX7_comparison 20 = .ok (.getfield 86, 3) := by decide +kernel
theorem dX7_comparison_23 : decode cX7_comparison 23 = .ok (.tableswitch 52 60 62 #[25, 37, 40], 25) := by decide +kernel
theorem dX7_comparison_48 : decode cX7_comparison 48 = .ok (.iload_n 1, 1) := by decide +kernel
theorem dX7_comparison_49 : decode cX7_comparison 49 = .ok (.ifCond .eq 8, 3) := by decide +kernel
theorem dX7_comparison_52 : decode cX7_comparison 52 = .ok (.bipush (-8), 2) := by decide +kernel
theorem dX7_comparison_54 : decode cX7_comparison 54 = .ok (.goto 5, 3) := by decide +kernel
theorem dX7_comparison_57 : decode cX7_comparison 57 = .ok (.bipush (-7), 2) := by decide +kernel
theorem dX7_comparison_59 : decode cX7_comparison 59 = .ok (.ireturn, 1) := by decide +kernel
theorem dX7_comparison_60 : decode cX7_comparison 60 = .ok (.bipush (-9), 2) := by decide +kernel
theorem dX7_comparison_62 : decode cX7_comparison 62 = .ok (.ireturn, 1) := by decide +kernel
theorem dX7_comparison_63 : decode cX7_comparison 63 = .ok (.iload_n 1, 1) := by decide +kernel
theorem dX7_comparison_64 : decode cX7_comparison 64 = .ok (.ifCond .eq 8, 3) := by decide +kernel
theorem dX7_comparison_67 : decode cX7_comparison 67 = .ok (.bipush (-10), 2) := by decide +kernel
theorem dX7_comparison_69 : decode cX7_comparison 69 = .ok (.goto 5, 3) := by decide +kernel
theorem dX7_comparison_72 : decode cX7_comparison 72 = .ok (.bipush (-11), 2) := by decide +kernel
theorem dX7_comparison_74 : decode cX7_comparison 74 = .ok (.ireturn, 1) := by decide +kernel
theorem dX7_comparison_75 : decode cX7_comparison 75 = .ok (.iconst (-1), 1) := by decide +kernel
theorem dX7_comparison_76 : decode cX7_comparison 76 = .ok (.ireturn, 1) := by decide +kernel
theorem dX7_countOne_0 : decode cX7_countOne 0 = .ok (.aload_n 0, 1) := by decide +kernel
theorem dX7_countOne_1 : decode cX7_countOne 1 = .ok (.getfield 19, 3) := by decide +kernel
theorem dX7_countOne_4 : decode cX7_countOne 4 = .ok (.bipush 60, 2) := by decide +kernel
theorem dX7_countOne_6 : decode cX7_countOne 6 = .ok (.if_icmp .lt 8, 3) := by decide +kernel
theorem dX7_countOne_9 : decode cX7_countOne 9 = .ok (.aload_n 1, 1) := by decide +kernel
theorem dX7_countOne_10 : decode cX7_countOne 10 = .ok (.iconst 3, 1) := by decide +kernel
theorem dX7_countOne_11 : decode cX7_countOne 11 = .ok (.invokevirtual 37, 3) := by decide +kernel
theorem dX7_countOne_14 : decode cX7_countOne 14 = .ok (.aload_n 0, 1) := by decide +kernel
theorem dX7_countOne_15 : decode cX7_countOne 15 = .ok (.dup, 1) := by decide +kernel
theorem dX7_countOne_16 : decode cX7_countOne 16 = .ok (.getfield 19, 3) := by decide +kernel
theorem dX7_countOne_19 : decode cX7_countOne 19 = .ok (.iconst 1, 1) := by decide +kernel
theorem dX7_countOne_20 : decode cX7_countOne 20 = .ok (.iadd, 1) := by decide +kernel
theorem dX7_countOne_21 : decode cX7_countOne 21 = .ok (.putfield 19, 3) := by decide +kernel
theorem dX7_countOne_24 : decode cX7_countOne 24 = .ok (.return_, 1) := by decide +kernel
theorem dX7_put_0 : decode cX7_put 0 = .ok (.aload_n 0, 1) := by decide +kernel
theorem dX7_put_1 : decode cX7_put 1 = .ok (.getfield 15, 3) := by decide +kernel
theorem dX7_put_4 : decode cX7_put 4 = .ok (.ifCond .lt 35, 3) := by decide +kernel
theorem dX7_put_7 : decode cX7_put 7 = .ok (.aload_n 0, 1) := by decide +kernel
theorem dX7_put_8 : decode cX7_put 8 = .ok (.getfield 15, 3) := by decide +kernel
theorem dX7_put_11 : decode cX7_put 11 = .ok (.aload_n 0, 1) := by decide +kernel
theorem dX7_put_12 : decode cX7_put 12 = .ok (.getfield 9, 3) := by decide +kernel
theorem dX7_put_15 : decode cX7_put 15 = .ok (.arraylength, 1) := by decide +kernel
theorem dX7_put_16 : decode cX7_put 16 = .ok (.if_icmp .ge 23, 3) := by decide +kernel
theorem dX7_put_19 : decode cX7_put 19 = .ok (.aload_n 0, 1) := by decide +kernel
theorem dX7_put_20 : decode cX7_put 20 = .ok (.getfield 9, 3) := by decide +kernel
theorem dX7_put_23 : decode cX7_put 23 = .ok (.aload_n 0, 1) := by decide +kernel
theorem dX7_put_24 : decode cX7_put 24 = .ok (.getfield 15, 3) := by decide +kernel
theorem dX7_put_27 : decode cX7_put 27 = .ok (.iload_n 1, 1) := by decide +kernel
theorem dX7_put_28 : decode cX7_put 28 = .ok (.iastore, 1) := by decide +kernel
theorem dX7_put_29 : decode cX7_put 29 = .ok (.aload_n 0, 1) := by decide +kernel
theorem dX7_put_30 : decode cX7_put 30 = .ok (.dup, 1) := by decide +kernel
theorem dX7_put_31 : decode cX7_put 31 = .ok (.getfield 15, 3) := by decide +kernel
theorem dX7_put_34 : decode cX7_put 34 = .ok (.iconst 1, 1) := by decide +kernel
theorem dX7_put_35 : decode cX7_put 35 = .ok (.iadd, 1) := by decide +kernel
theorem dX7_put_36 : decode cX7_put 36 = .ok (.putfield 15, 3) := by decide +kernel
theorem dX7_put_39 : decode cX7_put 39 = .ok (.return_, 1) := by decide +kernel
theorem dX7_readSum_0 : decode cX7_readSum 0 = .ok (.aload_n 0, 1) := by decide +kernel
theorem dX7_readSum_1 : decode cX7_readSum 1 = .ok (.aload_n 1, 1) := by decide +kernel
theorem dX7_readSum_2 : decode cX7_readSum 2 = .ok (.invokevirtual 96, 3) := by decide +kernel
theorem dX7_readSum_5 : decode cX7_readSum 5 = .ok (.iconst (-1), 1) := by decide +kernel
theorem dX7_readSum_6 : decode cX7_readSum 6 = .ok (.istore_n 2, 1) := by decide +kernel
theorem dX7_readSum_7 : decode cX7_readSum 7 = .ok (.iconst 0, 1) := by decide +kernel
theorem dX7_readSum_8 : decode cX7_readSum 8 = .ok (.istore_n 3, 1) := by decide +kernel
theorem dX7_readSum_9 : decode cX7_readSum 9 = .ok (.iload_n 3, 1) := by decide +kernel
theorem dX7_readSum_10 : decode cX7_readSum 10 = .ok (.sipush 400, 3) := by decide +kernel
theorem dX7_readSum_13 : decode cX7_readSum 13 = .ok (.if_icmp .ge 73, 3) := by decide +kernel
theorem dX7_readSum_16 : decode cX7_readSum 16 = .ok (.aload_n 1, 1) := by decide +kernel
theorem dX7_readSum_17 : decode cX7_readSum 17 = .ok (.invokestatic 99, 3) := by decide +kernel
theorem dX7_readSum_20 : decode cX7_readSum 20 = .ok (.iconst (-1), 1) := by decide +kernel
theorem dX7_readSum_21 : decode cX7_readSum 21 = .ok (.if_icmp .eq 65, 3) := by decide +kernel
theorem dX7_readSum_24 : decode cX7_readSum 24 = .ok (.aload_n 1, 1) := by decide +kernel
theorem dX7_readSum_25 : decode cX7_readSum 25 = .ok (.invokestatic 99, 3) := by decide +kernel
theorem dX7_readSum_28 : decode cX7_readSum 28 = .ok (.istore 4, 2) := by decide +kernel
theorem dX7_readSum_30 : decode cX7_readSum 30 = .ok (.aload_n 1, 1) := by decide +kernel
theorem dX7_readSum_31 : decode cX7_readSum 31 = .ok (.invokevirtual 41, 3) := by decide +kernel
theorem dX7_readSum_34 : decode cX7_readSum 34 = .ok (.iload 4, 2) := by decide +kernel
theorem dX7_readSum_36 : decode cX7_readSum 36 = .ok (.bipush (-12), 2) := by decide +kernel
theorem dX7_readSum_38 : decode cX7_readSum 38 = .ok (.if_icmp .eq 10, 3) := by decide +kernel
theorem dX7_readSum_41 : decode cX7_readSum 41 = .ok (.iload 4, 2) := by decide +kernel
theorem dX7_readSum_43 : decode cX7_readSum 43 = .ok (.bipush (-13), 2) := by decide +kernel
theorem dX7_readSum_45 : decode cX7_readSum 45 = .ok (.if_icmp .ne 24, 3) := by decide +kernel
theorem dX7_readSum_48 : decode cX7_readSum 48 = .ok (.iload_n 2, 1) := by decide +kernel
theorem dX7_readSum_49 : decode cX7_readSum 49 = .ok (.iconst (-1), 1) := by decide +kernel
theorem dX7_readSum_50 : decode cX7_readSum 50 = .ok (.if_icmp .eq 8, 3) := by decide +kernel
theorem dX7_readSum_53 : decode cX7_readSum 53 = .ok (.aload_n 0, 1) := by decide +kernel
theorem dX7_readSum_54 : decode cX7_readSum 54 = .ok (.iload_n 2, 1) := by decide +kernel
theorem dX7_readSum_55 : decode cX7_readSum 55 = .ok (.invokevirtual 59, 3) := by decide +kernel
theorem dX7_readSum_58 : decode cX7_readSum 58 = .ok (.iload 4, 2) := by decide +kernel
theorem dX7_readSum_60 : decode cX7_readSum 60 = .ok (.istore_n 2, 1) := by decide +kernel
theorem dX7_readSum_61 : decode cX7_readSum 61 = .ok (.aload_n 0, 1) := by decide +kernel
theorem dX7_readSum_62 : decode cX7_readSum 62 = .ok (.aload_n 1, 1) := by decide +kernel
theorem dX7_readSum_63 : decode cX7_readSum 63 = .ok (.invokevirtual 96, 3) := by decide +kernel
theorem dX7_readSum_66 : decode cX7_readSum 66 = .ok (.goto 14, 3) := by decide +kernel
theorem dX7_readSum_69 : decode cX7_readSum 69 = .ok (.aload_n 0, 1) := by decide +kernel
theorem dX7_readSum_70 : decode cX7_readSum 70 = .ok (.aload_n 1, 1) := by decide +kernel
theorem dX7_readSum_71 : decode cX7_readSum 71 = .ok (.invokevirtual 96, 3) := by decide +kernel
theorem dX7_readSum_74 : decode cX7_readSum 74 = .ok (.aload_n 0, 1) := by decide +kernel
theorem dX7_readSum_75 : decode cX7_readSum 75 = .ok (.iload 4, 2) := by decide +kernel
theorem dX7_readSum_77 : decode cX7_readSum 77 = .ok (.invokevirtual 59, 3) := by decide +kernel
theorem dX7_readSum_80 : decode cX7_readSum 80 = .ok (.iinc 3 1, 3) := by decide +kernel
theorem dX7_readSum_83 : decode cX7_readSum 83 = .ok (.goto (-74), 3) := by decide +kernel
theorem dX7_readSum_86 : decode cX7_readSum 86 = .ok (.iload_n 2, 1) := by decide +kernel
theorem dX7_readSum_87 : decode cX7_readSum 87 = .ok (.iconst (-1), 1) := by decide +kernel
theorem dX7_readSum_88 : decode cX7_readSum 88 = .ok (.if_icmp .eq 8, 3) := by decide +kernel
theorem dX7_readSum_91 : decode cX7_readSum 91 = .ok (.aload_n 0, 1) := by decide +kernel
theorem dX7_readSum_92 : decode cX7_readSum 92 = .ok (.iload_n 2, 1) := by decide +kernel
theorem dX7_readSum_93 : decode cX7_readSum 93 = .ok (.invokevirtual 59, 3) := by decide +kernel
theorem dX7_readSum_96 : decode cX7_readSum 96 = .ok (.return_, 1) := by decide +kernel
theorem dX7_readValue_0 : decode cX7_readValue 0 = .ok (.iconst 0, 1) := by decide +kernel
theorem dX7_readValue_1 : decode cX7_readValue 1 = .ok (.istore_n 2, 1) := by decide +kernel
theorem dX7_readValue_2 : decode cX7_readValue 2 = .ok (.aload_n 1, 1) := by decide +kernel
theorem dX7_readValue_3 : decode cX7_readValue 3 = .ok (.getfield 86, 3) := by decide +kernel
theorem dX7_readValue_6 : decode cX7_readValue 6 = .ok (.invokestatic 102, 3) := by decide +kernel
theorem dX7_readValue_9 : decode cX7_readValue 9 = .ok (.ifCond .eq 14, 3) := by decide +kernel
theorem dX7_readValue_12 : decode cX7_readValue 12 = .ok (.aload_n 1, 1) := by decide +kernel
theorem dX7_readValue_13 : decode cX7_readValue 13 = .ok (.iconst 0, 1) := by decide +kernel
theorem dX7_readValue_14 : decode cX7_readValue 14 = .ok (.ldc 106, 2) := by decide +kernel
theorem dX7_readValue_16 : decode cX7_readValue 16 = .ok (.invokevirtual 107, 3) := by decide +kernel
theorem dX7_readValue_19 : decode cX7_readValue 19 = .ok (.istore_n 2, 1) := by decide +kernel
theorem dX7_readValue_20 : decode cX7_readValue 20 = .ok (.goto 28, 3) := by decide +kernel
theorem dX7_readValue_23 : decode cX7_readValue 23 = .ok (.aload_n 1, 1) := by decide +kernel
theorem dX7_readValue_24 : decode cX7_readValue 24 = .ok (.ldc 111, 2) := by decide +kernel
theorem dX7_readValue_26 : decode cX7_readValue 26 = .ok (.invokevirtual 113, 3) := by decide +kernel
theorem dX7_readValue_29 : decode cX7_readValue 29 = .ok (.istore_n 3, 1) := by decide +kernel
theorem dX7_readValue_30 : decode cX7_readValue 30 = .ok (.iload_n 3, 1) := by decide +kernel
theorem dX7_readValue_31 : decode cX7_readValue 31 = .ok (.iconst (-1), 1) := by decide +kernel
theorem dX7_readValue_32 : decode cX7_readValue 32 = .ok (.if_icmp .ne 11, 3) := by decide +kernel
theorem dX7_readValue_35 : decode cX7_readValue 35 = .ok (.aload_n 1, 1) := by decide +kernel
theorem dX7_readValue_36 : decode cX7_readValue 36 = .ok (.iconst 0, 1) := by decide +kernel
theorem dX7_readValue_37 : decode cX7_readValue 37 = .ok (.invokevirtual 37, 3) := by decide +kernel
theorem dX7_readValue_40 : decode cX7_readValue 40 = .ok (.goto 8, 3) := by decide +kernel
theorem dX7_readValue_43 : decode cX7_readValue 43 = .ok (.ldc 117, 2) := by decide +kernel
theorem dX7_readValue_45 : decode cX7_readValue 45 = .ok (.iload_n 3, 1) := by decide +kernel
theorem dX7_readValue_46 : decode cX7_readValue 46 = .ok (.iadd, 1) := by decide +kernel
theorem dX7_readValue_47 : decode cX7_readValue 47 = .ok (.istore_n 2, 1) := by decide +kernel
theorem dX7_readValue_48 : decode cX7_readValue 48 = .ok (.aload_n 0, 1) := by decide +kernel
theorem dX7_readValue_49 : decode cX7_readValue 49 = .ok (.aload_n 1, 1) := by decide +kernel
theorem dX7_readValue_50 : decode cX7_readValue 50 = .ok (.invokevirtual 93, 3) := by decide +kernel
theorem dX7_readValue_53 : decode cX7_readValue 53 = .ok (.aload_n 0, 1) := by decide +kernel
theorem dX7_readValue_54 : decode cX7_readValue 54 = .ok (.iload_n 2, 1) := by decide +kernel
theorem dX7_readValue_55 : decode cX7_readValue 55 = .ok (.invokevirtual 59, 3) := by decide +kernel
theorem dX7_readValue_58 : decode cX7_readValue 58 = .ok (.aload_n 1, 1) := by decide +kernel
theorem dX7_readValue_59 : decode cX7_readValue 59 = .ok (.invokevirtual 41, 3) := by decide +kernel
theorem dX7_readValue_62 : decode cX7_readValue 62 = .ok (.return_, 1) := by decide +kernel
theorem dX7_readFact_0 : decode cX7_readFact 0 = .ok (.aload_n 1, 1) := by decide +kernel
theorem dX7_readFact_1 : decode cX7_readFact 1 = .ok (.ldc 84, 2) := by decide +kernel
theorem dX7_readFact_3 : decode cX7_readFact 3 = .ok (.invokevirtual 33, 3) := by decide +kernel
theorem dX7_readFact_6 : decode cX7_readFact 6 = .ok (.istore_n 3, 1) := by decide +kernel
theorem dX7_readFact_7 : decode cX7_readFact 7 = .ok (.iload_n 3, 1) := by decide +kernel
theorem dX7_readFact_8 : decode cX7_readFact 8 = .ok (.ifCond .ne 12, 3) := by decide +kernel
theorem dX7_readFact_11 : decode cX7_readFact 11 = .ok (.aload_n 1, 1) := by decide +kernel
theorem dX7_readFact_12 : decode cX7_readFact 12 = .ok (.getfield 86, 3) := by decide +kernel
theorem dX7_readFact_15 : decode cX7_readFact 15 = .ok (.bipush 91, 2) := by decide +kernel
theorem dX7_readFact_17 : decode cX7_readFact 17 = .ok (.if_icmp .ne 17, 3) := by decide +kernel
theorem dX7_readFact_20 : decode cX7_readFact 20 = .ok (.iload_n 2, 1) := by decide +kernel
theorem dX7_readFact_21 : decode cX7_readFact 21 = .ok (.bipush 10, 2) := by decide +kernel
theorem dX7_readFact_23 : decode cX7_readFact 23 = .ok (.if_icmp .lt 11, 3) := by decide +kernel
theorem dX7_readFact_26 : decode cX7_readFact 26 = .ok (.aload_n 1, 1) := by decide +kernel
theorem dX7_readFact_27 : decode cX7_readFact 27 = .ok (.iconst 2, 1) := by decide +kernel
theorem dX7_readFact_28 : decode cX7_readFact 28 = .ok (.invokevirtual 37, 3) := by decide +kernel
theorem dX7_readFact_31 : decode cX7_readFact 31 = .ok (.goto 104, 3) := by decide +kernel
theorem dX7_readFact_34 : decode cX7_readFact 34 = .ok (.iload_n 3, 1) := by decide +kernel
theorem dX7_readFact_35 : decode cX7_readFact 35 = .ok (.ifCond .eq 24, 3) := by decide +kernel
theorem dX7_readFact_38 : decode cX7_readFact 38 = .ok (.aload_n 1, 1) := by decide +kernel
theorem dX7_readFact_39 : decode cX7_readFact 39 = .ok (.invokevirtual 41, 3) := by decide +kernel
theorem dX7_readFact_42 : decode cX7_readFact 42 = .ok (.aload_n 0, 1) := by decide +kernel
theorem dX7_readFact_43 : decode cX7_readFact 43 = .ok (.aload_n 1, 1) := by decide +kernel
theorem dX7_readFact_44 : decode cX7_readFact 44 = .ok (.iload_n 2, 1) := by decide +kernel
theorem dX7_readFact_45 : decode cX7_readFact 45 = .ok (.iconst 1, 1) := by decide +kernel
theorem dX7_readFact_46 : decode cX7_readFact 46 = .ok (.iadd, 1) := by decide +kernel
theorem dX7_readFact_47 : decode cX7_readFact 47 = .ok (.invokevirtual 77, 3) := by decide +kernel
theorem dX7_readFact_50 : decode cX7_readFact 50 = .ok (.aload_n 0, 1) := by decide +kernel
theorem dX7_readFact_51 : decode cX7_readFact 51 = .ok (.bipush (-4), 2) := by decide +kernel
theorem dX7_readFact_53 : decode cX7_readFact 53 = .ok (.invokevirtual 59, 3) := by decide +kernel
theorem dX7_readFact_56 : decode cX7_readFact 56 = .ok (.goto 79, 3) := by decide +kernel
theorem dX7_readFact_59 : decode cX7_readFact 59 = .ok (.aload_n 1, 1) := by decide +kernel
theorem dX7_readFact_60 : decode cX7_readFact 60 = .ok (.bipush 91, 2) := by decide +kernel
theorem dX7_readFact_62 : decode cX7_readFact 62 = .ok (.invokevirtual 27, 3) := by decide +kernel
theorem dX7_readFact_65 : decode cX7_readFact 65 = .ok (.ifCond .eq 28, 3) := by decide +kernel
theorem dX7_readFact_68 : decode cX7_readFact 68 = .ok (.aload_n 0, 1) := by decide +kernel
theorem dX7_readFact_69 : decode cX7_readFact 69 = .ok (.aload_n 1, 1) := by decide +kernel
theorem dX7_readFact_70 : decode cX7_readFact 70 = .ok (.iload_n 2, 1) := by decide +kernel
theorem dX7_readFact_71 : decode cX7_readFact 71 = .ok (.iconst 1, 1) := by decide +kernel
theorem dX7_readFact_72 : decode cX7_readFact 72 = .ok (.iadd, 1) := by decide +kernel
theorem dX7_readFact_73 : decode cX7_readFact 73 = .ok (.invokevirtual 53, 3) := by decide +kernel
theorem dX7_readFact_76 : decode cX7_readFact 76 = .ok (.aload_n 1, 1) := by decide +kernel
theorem dX7_readFact_77 : decode cX7_readFact 77 = .ok (.bipush 93, 2) := by decide +kernel
theorem dX7_readFact_79 : decode cX7_readFact 79 = .ok (.invokevirtual 27, 3) := by decide +kernel
theorem dX7_readFact_82 : decode cX7_readFact 82 = .ok (.ifCond .ne 53, 3) := by decide +kernel
theorem dX7_readFact_85 : decode cX7_readFact 85 = .ok (.aload_n 1, 1) := by decide +kernel
theorem dX7_readFact_86 : decode cX7_readFact 86 = .ok (.iconst 0, 1) := by decide +kernel
theorem dX7_readFact_87 : decode cX7_readFact 87 = .ok (.invokevirtual 37, 3) := by decide +kernel
theorem dX7_readFact_90 : decode cX7_readFact 90 = .ok (.goto 45, 3) := by decide +kernel
theorem dX7_readFact_93 : decode cX7_readFact 93 = .ok (.aload_n 0, 1) := by decide +kernel
theorem dX7_readFact_94 : decode cX7_readFact 94 = .ok (.aload_n 1, 1) := by decide +kernel
theorem dX7_readFact_95 : decode cX7_readFact 95 = .ok (.invokevirtual 44, 3) := by decide +kernel
theorem dX7_readFact_98 : decode cX7_readFact 98 = .ok (.aload_n 1, 1) := by decide +kernel
theorem dX7_readFact_99 : decode cX7_readFact 99 = .ok (.invokestatic 89, 3) := by decide +kernel
theorem dX7_readFact_102 : decode cX7_readFact 102 = .ok (.istore 4, 2) := by decide +kernel
theorem dX7_readFact_104 : decode cX7_readFact 104 = .ok (.iload 4, 2) := by decide +kernel
theorem dX7_readFact_106 : decode cX7_readFact 106 = .ok (.iconst (-1), 1) := by decide +kernel
theorem dX7_readFact_107 : decode cX7_readFact 107 = .ok (.if_icmp .ne 8, 3) := by decide +kernel
theorem dX7_readFact_110 : decode cX7_readFact 110 = .ok (.aload_n 1, 1) := by decide +kernel
theorem dX7_readFact_111 : decode cX7_readFact 111 = .ok (.iconst 0, 1) := by decide +kernel
theorem dX7_readFact_112 : decode cX7_readFact 112 = .ok (.invokevirtual 37, 3) := by decide +kernel
theorem dX7_readFact_115 : decode cX7_readFact 115 = .ok (.aload_n 0, 1) := by decide +kernel
theorem dX7_readFact_116 : decode cX7_readFact 116 = .ok (.aload_n 1, 1) := by decide +kernel
theorem dX7_readFact_117 : decode cX7_readFact 117 = .ok (.invokevirtual 93, 3) := by decide +kernel
theorem dX7_readFact_120 : decode cX7_readFact 120 = .ok (.aload_n 1, 1) := by decide +kernel
theorem dX7_readFact_121 : decode cX7_readFact 121 = .ok (.invokevirtual 41, 3) := by decide +kernel
theorem dX7_readFact_124 : decode cX7_readFact 124 = .ok (.aload_n 0, 1) := by decide +kernel
theorem dX7_readFact_125 : decode cX7_readFact 125 = .ok (.aload_n 1, 1) := by decide +kernel
theorem dX7_readFact_126 : decode cX7_readFact 126 = .ok (.invokevirtual 44, 3) := by decide +kernel
theorem dX7_readFact_129 : decode cX7_readFact 129 = .ok (.aload_n 0, 1) := by decide +kernel
theorem dX7_readFact_130 : decode cX7_readFact 130 = .ok (.iload 4, 2) := by decide +kernel
theorem dX7_readFact_132 : decode cX7_readFact 132 = .ok (.invokevirtual 59, 3) := by decide +kernel
theorem dX7_readFact_135 : decode cX7_readFact 135 = .ok (.return_, 1) := by decide +kernel
theorem dX7_readTest_0 : decode cX7_readTest 0 = .ok (.aload_n 0, 1) := by decide +kernel
theorem dX7_readTest_1 : decode cX7_readTest 1 = .ok (.aload_n 1, 1) := by decide +kernel
theorem dX7_readTest_2 : decode cX7_readTest 2 = .ok (.iload_n 2, 1) := by decide +kernel
theorem dX7_readTest_3 : decode cX7_readTest 3 = .ok (.invokevirtual 77, 3) := by decide +kernel
theorem dX7_readTest_6 : decode cX7_readTest 6 = .ok (.iconst 0, 1) := by decide +kernel
theorem dX7_readTest_7 : decode cX7_readTest 7 = .ok (.istore_n 3, 1) := by decide +kernel
theorem dX7_readTest_8 : decode cX7_readTest 8 = .ok (.iconst 0, 1) := by decide +kernel
theorem dX7_readTest_9 : decode cX7_readTest 9 = .ok (.istore 4, 2) := by decide +kernel
theorem dX7_readTest_11 : decode cX7_readTest 11 = .ok (.iload 4, 2) := by decide +kernel
theorem dX7_readTest_13 : decode cX7_readTest 13 = .ok (.sipush 400, 3) := by decide +kernel
theorem dX7_readTest_16 : decode cX7_readTest 16 = .ok (.if_icmp .ge 76, 3) := by decide +kernel
theorem dX7_readTest_19 : decode cX7_readTest 19 = .ok (.aload_n 1, 1) := by decide +kernel
theorem dX7_readTest_20 : decode cX7_readTest 20 = .ok (.ldc 80, 2) := by decide +kernel
theorem dX7_readTest_22 : decode cX7_readTest 22 = .ok (.invokevirtual 33, 3) := by decide +kernel
theorem dX7_readTest_25 : decode cX7_readTest 25 = .ok (.ifCond .ne 12, 3) := by decide +kernel
theorem dX7_readTest_28 : decode cX7_readTest 28 = .ok (.aload_n 1, 1) := by decide +kernel
theorem dX7_readTest_29 : decode cX7_readTest 29 = .ok (.ldc 82, 2) := by decide +kernel
theorem dX7_readTest_31 : decode cX7_readTest 31 = .ok (.invokevirtual 33, 3) := by decide +kernel
theorem dX7_readTest_34 : decode cX7_readTest 34 = .ok (.ifCond .eq 58, 3) := by decide +kernel
theorem dX7_readTest_37 : decode cX7_readTest 37 = .ok (.aload_n 1, 1) := by decide +kernel
theorem dX7_readTest_38 : decode cX7_readTest 38 = .ok (.ldc 82, 2) := by decide +kernel
theorem dX7_readTest_40 : decode cX7_readTest 40 = .ok (.invokevirtual 33, 3) := by decide +kernel
theorem dX7_readTest_43 : decode cX7_readTest 43 = .ok (.istore 5, 2) := by decide +kernel
theorem dX7_readTest_45 : decode cX7_readTest 45 = .ok (.iload 5, 2) := by decide +kernel
theorem dX7_readTest_47 : decode cX7_readTest 47 = .ok (.ifCond .eq 13, 3) := by decide +kernel
theorem dX7_readTest_50 : decode cX7_readTest 50 = .ok (.iload_n 3, 1) := by decide +kernel
theorem dX7_readTest_51 : decode cX7_readTest 51 = .ok (.ifCond .eq 9, 3) := by decide +kernel
theorem dX7_readTest_54 : decode cX7_readTest 54 = .ok (.aload_n 0, 1) := by decide +kernel
theorem dX7_readTest_55 : decode cX7_readTest 55 = .ok (.bipush (-6), 2) := by decide +kernel
theorem dX7_readTest_57 : decode cX7_readTest 57 = .ok (.invokevirtual 59, 3) := by decide +kernel
theorem dX7_readTest_60 : decode cX7_readTest 60 = .ok (.aload_n 1, 1) := by decide +kernel
theorem dX7_readTest_61 : decode cX7_readTest 61 = .ok (.invokevirtual 41, 3) := by decide +kernel
theorem dX7_readTest_64 : decode cX7_readTest 64 = .ok (.aload_n 0, 1) := by decide +kernel
theorem dX7_readTest_65 : decode cX7_readTest 65 = .ok (.aload_n 1, 1) := by decide +kernel
theorem dX7_readTest_66 : decode cX7_readTest 66 = .ok (.iload_n 2, 1) := by decide +kernel
theorem dX7_readTest_67 : decode cX7_readTest 67 = .ok (.invokevirtual 77, 3) := by decide +kernel
theorem dX7_readTest_70 : decode cX7_readTest 70 = .ok (.iload 5, 2) := by decide +kernel
theorem dX7_readTest_72 : decode cX7_readTest 72 = .ok (.ifCond .eq 8, 3) := by decide +kernel
theorem dX7_readTest_75 : decode cX7_readTest 75 = .ok (.iconst 1, 1) := by decide +kernel
theorem dX7_readTest_76 : decode cX7_readTest 76 = .ok (.istore_n 3, 1) := by decide +kernel
theorem dX7_readTest_77 : decode cX7_readTest 77 = .ok (.goto 9, 3) := by decide +kernel
theorem dX7_readTest_80 : decode cX7_readTest 80 = .ok (.aload_n 0, 1) := by decide +kernel
theorem dX7_readTest_81 : decode cX7_readTest 81 = .ok (.bipush (-5), 2) := by decide +kernel
theorem dX7_readTest_83 : decode cX7_readTest 83 = .ok (.invokevirtual 59, 3) := by decide +kernel
theorem dX7_readTest_86 : decode cX7_readTest 86 = .ok (.iinc 4 1, 3) := by decide +kernel
theorem dX7_readTest_89 : decode cX7_readTest 89 = .ok (.goto (-78), 3) := by decide +kernel
theorem dX7_readTest_92 : decode cX7_readTest 92 = .ok (.iload_n 3, 1) := by decide +kernel
theorem dX7_readTest_93 : decode cX7_readTest 93 = .ok (.ifCond .eq 9, 3) := by decide +kernel
theorem dX7_readTest_96 : decode cX7_readTest 96 = .ok (.aload_n 0, 1) := by decide +kernel
theorem dX7_readTest_97 : decode cX7_readTest 97 = .ok (.bipush (-6), 2) := by decide +kernel
theorem dX7_readTest_99 : decode cX7_readTest 99 = .ok (.invokevirtual 59, 3) := by decide +kernel
theorem dX7_readTest_102 : decode cX7_readTest 102 = .ok (.return_, 1) := by decide +kernel
theorem k_673 : Cond.sameMethod "[I" "java/lang/Object" "clone" "()Ljava/lang/Object;" ∈ gT := gm 673 (by decide +kernel) (by decide +kernel)
theorem cl400 {x : Int32} (h : 0 ≤ x.toInt ∧ x.toInt ≤ 400) : x.toNatClampNeg ≤ 400 := by
  show x.toInt.toNat ≤ 400
  omega
theorem cpB {n x : Int32} (h : n.toInt ≤ x.toInt) : (0 : Int32).toNatClampNeg + n.toNatClampNeg ≤ x.toNatClampNeg := by
  show (0 : Int32).toInt.toNat + n.toInt.toNat ≤ x.toInt.toNat
  have : (0 : Int32).toInt = 0 := by decide
  omega
theorem cp4 {n : Int32} (h : n.toInt ≤ 400) : (0 : Int32).toNatClampNeg + n.toNatClampNeg ≤ 400 := by
  show (0 : Int32).toInt.toNat + n.toInt.toNat ≤ 400
  have : (0 : Int32).toInt = 0 := by decide
  omega
theorem nneg {n : Int32} (h : 0 ≤ n.toInt) : ¬ n < 0 := fun z => by
  have := Int32.lt_iff_toInt_lt.mp z
  have : (0 : Int32).toInt = 0 := by decide
  omega
theorem dJ7_copyOf_59c91_0 : decode cJ7_copyOf_59c91 0 = .ok (.iload_n 1, 1) := by decide +kernel
theorem dJ7_copyOf_59c91_1 : decode cJ7_copyOf_59c91 1 = .ok (.aload_n 0, 1) := by decide +kernel
theorem dJ7_copyOf_59c91_2 : decode cJ7_copyOf_59c91 2 = .ok (.arraylength, 1) := by decide +kernel
theorem dJ7_copyOf_59c91_3 : decode cJ7_copyOf_59c91 3 = .ok (.if_icmp .ne 11, 3) := by decide +kernel
theorem dJ7_copyOf_59c91_6 : decode cJ7_copyOf_59c91 6 = .ok (.aload_n 0, 1) := by decide +kernel
theorem dJ7_copyOf_59c91_7 : decode cJ7_copyOf_59c91 7 = .ok (.invokevirtual 316, 3) := by decide +kernel
theorem dJ7_copyOf_59c91_10 : decode cJ7_copyOf_59c91 10 = .ok (.checkcast 317, 3) := by decide +kernel
theorem dJ7_copyOf_59c91_13 : decode cJ7_copyOf_59c91 13 = .ok (.areturn, 1) := by decide +kernel
theorem dJ7_copyOf_59c91_14 : decode cJ7_copyOf_59c91 14 = .ok (.iload_n 1, 1) := by decide +kernel
theorem dJ7_copyOf_59c91_15 : decode cJ7_copyOf_59c91 15 = .ok (.newarray .int, 2) := by decide +kernel
theorem dJ7_copyOf_59c91_17 : decode cJ7_copyOf_59c91 17 = .ok (.astore_n 2, 1) := by decide +kernel
theorem dJ7_copyOf_59c91_18 : decode cJ7_copyOf_59c91 18 = .ok (.aload_n 0, 1) := by decide +kernel
theorem dJ7_copyOf_59c91_19 : decode cJ7_copyOf_59c91 19 = .ok (.iconst 0, 1) := by decide +kernel
theorem dJ7_copyOf_59c91_20 : decode cJ7_copyOf_59c91 20 = .ok (.aload_n 2, 1) := by decide +kernel
theorem dJ7_copyOf_59c91_21 : decode cJ7_copyOf_59c91 21 = .ok (.iconst 0, 1) := by decide +kernel
theorem dJ7_copyOf_59c91_22 : decode cJ7_copyOf_59c91 22 = .ok (.aload_n 0, 1) := by decide +kernel
theorem dJ7_copyOf_59c91_23 : decode cJ7_copyOf_59c91 23 = .ok (.arraylength, 1) := by decide +kernel
theorem dJ7_copyOf_59c91_24 : decode cJ7_copyOf_59c91 24 = .ok (.iload_n 1, 1) := by decide +kernel
theorem dJ7_copyOf_59c91_25 : decode cJ7_copyOf_59c91 25 = .ok (.invokestatic 304, 3) := by decide +kernel
theorem dJ7_copyOf_59c91_28 : decode cJ7_copyOf_59c91 28 = .ok (.invokestatic 150, 3) := by decide +kernel
theorem dJ7_copyOf_59c91_31 : decode cJ7_copyOf_59c91 31 = .ok (.aload_n 2, 1) := by decide +kernel
theorem dJ7_copyOf_59c91_32 : decode cJ7_copyOf_59c91 32 = .ok (.areturn, 1) := by decide +kernel
theorem dX6_init_0 : decode cX6_init 0 = .ok (.aload_n 0, 1) := by decide +kernel
theorem dX6_init_1 : decode cX6_init 1 = .ok (.invokespecial 1, 3) := by decide +kernel
theorem dX6_init_4 : decode cX6_init 4 = .ok (.aload_n 0, 1) := by decide +kernel
theorem dX6_init_5 : decode cX6_init 5 = .ok (.bipush 64, 2) := by decide +kernel
theorem dX6_init_7 : decode cX6_init 7 = .ok (.newarray .long, 2) := by decide +kernel
theorem dX6_init_9 : decode cX6_init 9 = .ok (.putfield 9, 3) := by decide +kernel
theorem dX6_init_12 : decode cX6_init 12 = .ok (.aload_n 0, 1) := by decide +kernel
theorem dX6_init_13 : decode cX6_init 13 = .ok (.aload_n 1, 1) := by decide +kernel
theorem dX6_init_14 : decode cX6_init 14 = .ok (.putfield 13, 3) := by decide +kernel
theorem dX6_init_17 : decode cX6_init 17 = .ok (.return_, 1) := by decide +kernel
theorem dX7_read_0 : decode cX7_read 0 = .ok (.aload_n 0, 1) := by decide +kernel
theorem dX7_read_1 : decode cX7_read 1 = .ok (.iconst 0, 1) := by decide +kernel
theorem dX7_read_2 : decode cX7_read 2 = .ok (.putfield 15, 3) := by decide +kernel
theorem dX7_read_5 : decode cX7_read 5 = .ok (.aload_n 0, 1) := by decide +kernel
theorem dX7_read_6 : decode cX7_read 6 = .ok (.iconst 0, 1) := by decide +kernel
theorem dX7_read_7 : decode cX7_read 7 = .ok (.putfield 19, 3) := by decide +kernel
theorem dX7_read_10 : decode cX7_read 10 = .ok (.aload_n 1, 1) := by decide +kernel
theorem dX7_read_11 : decode cX7_read 11 = .ok (.invokevirtual 22, 3) := by decide +kernel
theorem dX7_read_14 : decode cX7_read 14 = .ok (.iconst 0, 1) := by decide +kernel
theorem dX7_read_15 : decode cX7_read 15 = .ok (.istore_n 2, 1) := by decide +kernel
theorem dX7_read_16 : decode cX7_read 16 = .ok (.iload_n 2, 1) := by decide +kernel
theorem dX7_read_17 : decode cX7_read 17 = .ok (.bipush 12, 2) := by decide +kernel
theorem dX7_read_19 : decode cX7_read 19 = .ok (.if_icmp .gt 89, 3) := by decide +kernel
theorem dX7_read_22 : decode cX7_read 22 = .ok (.iload_n 2, 1) := by decide +kernel
theorem dX7_read_23 : decode cX7_read 23 = .ok (.ifCond .eq 12, 3) := by decide +kernel
theorem dX7_read_26 : decode cX7_read 26 = .ok (.aload_n 1, 1) := by decide +kernel
theorem dX7_read_27 : decode cX7_read 27 = .ok (.bipush 59, 2) := by decide +kernel
theorem dX7_read_29 : decode cX7_read 29 = .ok (.invokevirtual 27, 3) := by decide +kernel
theorem dX7_read_32 : decode cX7_read 32 = .ok (.ifCond .eq 76, 3) := by decide +kernel
theorem dX7_read_35 : decode cX7_read 35 = .ok (.aload_n 1, 1) := by decide +kernel
theorem dX7_read_36 : decode cX7_read 36 = .ok (.ldc 31, 2) := by decide +kernel
theorem dX7_read_38 : decode cX7_read 38 = .ok (.invokevirtual 33, 3) := by decide +kernel
theorem dX7_read_41 : decode cX7_read 41 = .ok (.ifCond .ne 11, 3) := by decide +kernel
theorem dX7_read_44 : decode cX7_read 44 = .ok (.aload_n 1, 1) := by decide +kernel
theorem dX7_read_45 : decode cX7_read 45 = .ok (.iconst 0, 1) := by decide +kernel
theorem dX7_read_46 : decode cX7_read 46 = .ok (.invokevirtual 37, 3) := by decide +kernel
theorem dX7_read_49 : decode cX7_read 49 = .ok (.goto 14, 3) := by decide +kernel
theorem dX7_read_52 : decode cX7_read 52 = .ok (.iload_n 2, 1) := by decide +kernel
theorem dX7_read_53 : decode cX7_read 53 = .ok (.bipush 12, 2) := by decide +kernel
theorem dX7_read_55 : decode cX7_read 55 = .ok (.if_icmp .ne 8, 3) := by decide +kernel
theorem dX7_read_58 : decode cX7_read 58 = .ok (.aload_n 1, 1) := by decide +kernel
theorem dX7_read_59 : decode cX7_read 59 = .ok (.iconst 4, 1) := by decide +kernel
theorem dX7_read_60 : decode cX7_read 60 = .ok (.invokevirtual 37, 3) := by decide +kernel
theorem dX7_read_63 : decode cX7_read 63 = .ok (.aload_n 1, 1) := by decide +kernel
theorem dX7_read_64 : decode cX7_read 64 = .ok (.invokevirtual 41, 3) := by decide +kernel
theorem dX7_read_67 : decode cX7_read 67 = .ok (.aload_n 0, 1) := by decide +kernel
theorem dX7_read_68 : decode cX7_read 68 = .ok (.aload_n 1, 1) := by decide +kernel
theorem dX7_read_69 : decode cX7_read 69 = .ok (.invokevirtual 44, 3) := by decide +kernel
theorem dX7_read_72 : decode cX7_read 72 = .ok (.aload_n 1, 1) := by decide +kernel
theorem dX7_read_73 : decode cX7_read 73 = .ok (.ldc 48, 2) := by decide +kernel
theorem dX7_read_75 : decode cX7_read 75 = .ok (.invokevirtual 50, 3) := by decide +kernel
theorem dX7_read_78 : decode cX7_read 78 = .ok (.ifCond .eq 18, 3) := by decide +kernel
theorem dX7_read_81 : decode cX7_read 81 = .ok (.aload_n 0, 1) := by decide +kernel
theorem dX7_read_82 : decode cX7_read 82 = .ok (.aload_n 1, 1) := by decide +kernel
theorem dX7_read_83 : decode cX7_read 83 = .ok (.iconst 0, 1) := by decide +kernel
theorem dX7_read_84 : decode cX7_read 84 = .ok (.invokevirtual 53, 3) := by decide +kernel
theorem dX7_read_87 : decode cX7_read 87 = .ok (.aload_n 0, 1) := by decide +kernel
theorem dX7_read_88 : decode cX7_read 88 = .ok (.bipush (-3), 2) := by decide +kernel
theorem dX7_read_90 : decode cX7_read 90 = .ok (.invokevirtual 59, 3) := by decide +kernel
theorem dX7_read_93 : decode cX7_read 93 = .ok (.goto 9, 3) := by decide +kernel
theorem dX7_read_96 : decode cX7_read 96 = .ok (.aload_n 0, 1) := by decide +kernel
theorem dX7_read_97 : decode cX7_read 97 = .ok (.bipush (-2), 2) := by decide +kernel
theorem dX7_read_99 : decode cX7_read 99 = .ok (.invokevirtual 59, 3) := by decide +kernel
theorem dX7_read_102 : decode cX7_read 102 = .ok (.iinc 2 1, 3) := by decide +kernel
theorem dX7_read_105 : decode cX7_read 105 = .ok (.goto (-89), 3) := by decide +kernel
theorem dX7_read_108 : decode cX7_read 108 = .ok (.aload_n 1, 1) := by decide +kernel
theorem dX7_read_109 : decode cX7_read 109 = .ok (.invokevirtual 62, 3) := by decide +kernel
theorem dX7_read_112 : decode cX7_read 112 = .ok (.aload_n 1, 1) := by decide +kernel
theorem dX7_read_113 : decode cX7_read 113 = .ok (.getfield 65, 3) := by decide +kernel
theorem dX7_read_116 : decode cX7_read 116 = .ok (.ifCond .ne 22, 3) := by decide +kernel
theorem dX7_read_119 : decode cX7_read 119 = .ok (.aload_n 0, 1) := by decide +kernel
theorem dX7_read_120 : decode cX7_read 120 = .ok (.getfield 15, 3) := by decide +kernel
theorem dX7_read_123 : decode cX7_read 123 = .ok (.ifCond .lt 15, 3) := by decide +kernel
theorem dX7_read_126 : decode cX7_read 126 = .ok (.aload_n 0, 1) := by decide +kernel
theorem dX7_read_127 : decode cX7_read 127 = .ok (.getfield 15, 3) := by decide +kernel
theorem dX7_read_130 : decode cX7_read 130 = .ok (.aload_n 0, 1) := by decide +kernel
theorem dX7_read_131 : decode cX7_read 131 = .ok (.getfield 9, 3) := by decide +kernel
theorem dX7_read_134 : decode cX7_read 134 = .ok (.arraylength, 1) := by decide +kernel
theorem dX7_read_135 : decode cX7_read 135 = .ok (.if_icmp .le 5, 3) := by decide +kernel
theorem dX7_read_138 : decode cX7_read 138 = .ok (.aconst_null, 1) := by decide +kernel
theorem dX7_read_139 : decode cX7_read 139 = .ok (.areturn, 1) := by decide +kernel
theorem dX7_read_140 : decode cX7_read 140 = .ok (.new 57, 3) := by decide +kernel
theorem dX7_read_143 : decode cX7_read 143 = .ok (.dup, 1) := by decide +kernel
theorem dX7_read_144 : decode cX7_read 144 = .ok (.aload_n 0, 1) := by decide +kernel
theorem dX7_read_145 : decode cX7_read 145 = .ok (.getfield 9, 3) := by decide +kernel
theorem dX7_read_148 : decode cX7_read 148 = .ok (.aload_n 0, 1) := by decide +kernel
theorem dX7_read_149 : decode cX7_read 149 = .ok (.getfield 15, 3) := by decide +kernel
theorem dX7_read_152 : decode cX7_read 152 = .ok (.invokestatic 68, 3) := by decide +kernel
theorem dX7_read_155 : decode cX7_read 155 = .ok (.invokespecial 74, 3) := by decide +kernel
theorem dX7_read_158 : decode cX7_read 158 = .ok (.areturn, 1) := by decide +kernel
set_option maxHeartbeats 4000000 in
set_option maxRecDepth 100000 in
theorem ct_X6_init (l : Launch) (D : va_G) (tc : Nat → ClassId) (sk : (Nat → Nat) × (Nat → Nat)) (h0 : Nat) (cc1 : Nat)  : Ct l yX6_init cX6_init 2 none { frames := 1, cells := 1, slots := 64, locals := 12 } D tc sk [.ref h0, .ref cc1] [(h0, .inr (6, [.null, .null]))] (fun (v : Option Value) (b1 : Nat) => v = none) (fun (b1 : Nat) => [(h0, .inr (6, [.ref cc1, .ref b1])), (b1, .inl (tc 1, 64, .inr (.inl (fun _ => 0))))]) 1 64 := by
  refine Ct.start (by decide) (Nat.le_of_ble_eq_true rfl) (fun p e s m below meth c A ls hx hb hr hlk hin hml hown hts hK hX hP hD hA hl hS => ?_)
  have hl : lv_has ls 2 [(0, .ref h0), (1, .ref cc1)] := hl
  refine lv_aload_n hx hb dX6_init_0 rfl (lv_at hl 0 rfl) ?_
  refine W.objInit hx hb hown (hts _ k_686) (hts _ k_122) (hts _ k_123) rfl (by rw [hml]; exact hl.1) rfl dX6_init_1 (Nat.le_of_ble_eq_true rfl) (Nat.le_of_ble_eq_true rfl) ?_
  refine W.eq (g2 := F0 m 4 ls []) rfl ?_
  refine lv_aload_n hx hb dX6_init_4 rfl (lv_at hl 0 rfl) ?_
  refine lv_bipush (v := 64) hx hb dX6_init_5 (by decide) ?_
  refine nwA (atype := .long) (a0 := (64, .inr (.inl (fun _ => 0)))) hx hb (hts _ k_364) rfl hK hP hD hS hA 1 rfl (fun _ => rfl) (by decide) (by decide) (by decide) (Nat.le_of_ble_eq_true rfl) (Nat.le_of_ble_eq_true rfl) dX6_init_7 (fun q_1 H hP₀ hD₀ hS₀ => ?_)
  replace hP : va_P D classes [(h0, .inr (6, [.null, .null])), (q_1, .inl (tc 1, 64, .inr (.inl (fun _ => 0))))] H := hP₀
  replace hD : va_D A [(h0, .inr (6, [.null, .null])), (q_1, .inl (tc 1, 64, .inr (.inl (fun _ => 0))))] := hD₀
  replace hS := hS₀
  clear hP₀ hD₀ hS₀
  refine pf_X6_9 (ty := (.array .long)) hx hb hts hown hin hK hP hD hS 0 rfl (Nat.le_of_ble_eq_true rfl) (by decide +kernel) rfl rfl dX6_init_9 (fun H locs hP₀ hD₀ hS₀ => ?_)
  replace hP : va_P D classes [(h0, .inr (6, [.null, .ref q_1])), (q_1, .inl (tc 1, 64, .inr (.inl (fun _ => 0))))] H := hP₀
  replace hD : va_D A [(h0, .inr (6, [.null, .ref q_1])), (q_1, .inl (tc 1, 64, .inr (.inl (fun _ => 0))))] := hD₀
  replace hS := hS₀
  clear hP₀ hD₀ hS₀
  refine lv_aload_n hx hb dX6_init_12 rfl (lv_at hl 0 rfl) ?_
  refine lv_aload_n hx hb dX6_init_13 rfl (lv_at hl 1 rfl) ?_
  refine pf_X6_13 (ty := (.array .int)) hx hb hts hown hin hK hP hD hS 0 rfl (Nat.le_of_ble_eq_true rfl) (by decide +kernel) rfl rfl dX6_init_14 (fun H locs hP₀ hD₀ hS₀ => ?_)
  replace hP : va_P D classes [(h0, .inr (6, [.ref cc1, .ref q_1])), (q_1, .inl (tc 1, 64, .inr (.inl (fun _ => 0))))] H := hP₀
  replace hD : va_D A [(h0, .inr (6, [.ref cc1, .ref q_1])), (q_1, .inl (tc 1, 64, .inr (.inl (fun _ => 0))))] := hD₀
  replace hS := hS₀
  clear hP₀ hD₀ hS₀
  exact retV hx hb hr hlk hP hD hS q_1 rfl [0, 1] rfl rfl dX6_init_17 (Nat.le_of_ble_eq_true rfl) (Nat.le_of_ble_eq_true rfl) rfl
theorem dX11_rule_0 : decode cX11_rule 0 = .ok (.aload_n 0, 1) := by decide +kernel
theorem dX11_rule_1 : decode cX11_rule 1 = .ok (.getfield 36, 3) := by decide +kernel
theorem dX11_rule_4 : decode cX11_rule 4 = .ok (.ifCond .lt 15, 3) := by decide +kernel
theorem dX11_rule_7 : decode cX11_rule 7 = .ok (.aload_n 0, 1) := by decide +kernel
theorem dX11_rule_8 : decode cX11_rule 8 = .ok (.getfield 36, 3) := by decide +kernel
theorem dX11_rule_11 : decode cX11_rule 11 = .ok (.aload_n 0, 1) := by decide +kernel
theorem dX11_rule_12 : decode cX11_rule 12 = .ok (.getfield 32, 3) := by decide +kernel
theorem dX11_rule_15 : decode cX11_rule 15 = .ok (.arraylength, 1) := by decide +kernel
theorem dX11_rule_16 : decode cX11_rule 16 = .ok (.if_icmp .lt 5, 3) := by decide +kernel
theorem dX11_rule_19 : decode cX11_rule 19 = .ok (.iconst (-1), 1) := by decide +kernel
theorem dX11_rule_20 : decode cX11_rule 20 = .ok (.ireturn, 1) := by decide +kernel
theorem dX11_rule_21 : decode cX11_rule 21 = .ok (.aload_n 0, 1) := by decide +kernel
theorem dX11_rule_22 : decode cX11_rule 22 = .ok (.getfield 26, 3) := by decide +kernel
theorem dX11_rule_25 : decode cX11_rule 25 = .ok (.aload_n 0, 1) := by decide +kernel
theorem dX11_rule_26 : decode cX11_rule 26 = .ok (.getfield 10, 3) := by decide +kernel
theorem dX11_rule_29 : decode cX11_rule 29 = .ok (.invokevirtual 124, 3) := by decide +kernel
theorem dX11_rule_32 : decode cX11_rule 32 = .ok (.astore_n 1, 1) := by decide +kernel
theorem dX11_rule_33 : decode cX11_rule 33 = .ok (.aload_n 0, 1) := by decide +kernel
theorem dX11_rule_34 : decode cX11_rule 34 = .ok (.getfield 10, 3) := by decide +kernel
theorem dX11_rule_37 : decode cX11_rule 37 = .ok (.iconst 0, 1) := by decide +kernel
theorem dX11_rule_38 : decode cX11_rule 38 = .ok (.putfield 94, 3) := by decide +kernel
theorem dX11_rule_41 : decode cX11_rule 41 = .ok (.aload_n 1, 1) := by decide +kernel
theorem dX11_rule_42 : decode cX11_rule 42 = .ok (.ifnonnull 14, 3) := by decide +kernel
theorem dX11_rule_45 : decode cX11_rule 45 = .ok (.bipush (-2), 2) := by decide +kernel
theorem dX11_rule_47 : decode cX11_rule 47 = .ok (.aload_n 0, 1) := by decide +kernel
theorem dX11_rule_48 : decode cX11_rule 48 = .ok (.getfield 10, 3) := by decide +kernel
theorem dX11_rule_51 : decode cX11_rule 51 = .ok (.getfield 127, 3) := by decide +kernel
theorem dX11_rule_54 : decode cX11_rule 54 = .ok (.isub, 1) := by decide +kernel
theorem dX11_rule_55 : decode cX11_rule 55 = .ok (.ireturn, 1) := by decide +kernel
theorem dX11_rule_56 : decode cX11_rule 56 = .ok (.aload_n 0, 1) := by decide +kernel
theorem dX11_rule_57 : decode cX11_rule 57 = .ok (.getfield 32, 3) := by decide +kernel
theorem dX11_rule_60 : decode cX11_rule 60 = .ok (.aload_n 0, 1) := by decide +kernel
theorem dX11_rule_61 : decode cX11_rule 61 = .ok (.getfield 36, 3) := by decide +kernel
theorem dX11_rule_64 : decode cX11_rule 64 = .ok (.aload_n 1, 1) := by decide +kernel
theorem dX11_rule_65 : decode cX11_rule 65 = .ok (.aastore, 1) := by decide +kernel
theorem dX11_rule_66 : decode cX11_rule 66 = .ok (.aload_n 0, 1) := by decide +kernel
theorem dX11_rule_67 : decode cX11_rule 67 = .ok (.dup, 1) := by decide +kernel
theorem dX11_rule_68 : decode cX11_rule 68 = .ok (.getfield 36, 3) := by decide +kernel
theorem dX11_rule_71 : decode cX11_rule 71 = .ok (.iconst 1, 1) := by decide +kernel
theorem dX11_rule_72 : decode cX11_rule 72 = .ok (.iadd, 1) := by decide +kernel
theorem dX11_rule_73 : decode cX11_rule 73 = .ok (.putfield 36, 3) := by decide +kernel
theorem dX11_rule_76 : decode cX11_rule 76 = .ok (.aload_n 0, 1) := by decide +kernel
theorem dX11_rule_77 : decode cX11_rule 77 = .ok (.getfield 36, 3) := by decide +kernel
theorem dX11_rule_80 : decode cX11_rule 80 = .ok (.iconst 1, 1) := by decide +kernel
theorem dX11_rule_81 : decode cX11_rule 81 = .ok (.isub, 1) := by decide +kernel
theorem dX11_rule_82 : decode cX11_rule 82 = .ok (.ireturn, 1) := by decide +kernel
theorem upd_ne {f : Nat → Int32} {i j : Nat} {x : Int32} (h : j ≠ i) : upd f i x j = f j := by unfold upd; rw [if_neg h]
theorem upd_at {f : Nat → Int32} {i : Nat} {x : Int32} : upd f i x i = x := by unfold upd; rw [if_pos rfl]
theorem clN {i : Int32} {n : Nat} (h : i.toInt = (n : Int)) : i.toNatClampNeg = n := by
  show i.toInt.toNat = n
  omega
def SaiB (f : Nat → Int32) : Prop := ((((f 0).toInt = 1 ∧ 1 ≤ (f 2).toInt ∧ (f 2).toInt ≤ 10) ∨ ((f 0).toInt = 0 ∧ (f 3).toInt = 0)) ∧ 0 ≤ (f 3).toInt ∧ (f 3).toInt ≤ 6 ∧ 0 ≤ (f 125).toInt ∧ (f 125).toInt ≤ 10) ∧ ∀ k : Nat, k < 10 → 0 ≤ (f (95 + 3 * k)).toInt ∧ (f (95 + 3 * k)).toInt ≤ 60
def SaidB (T : Nat → Option Int32) (f : Nat → Int32) : Prop := SaiB f ∧ ∀ (k : Nat) (v : Int32), (k < 10 ∨ 56 ≤ k) → T k = some v → f k = v
def SaidD (T : Nat → Option Int32) (f : Nat → Int32) (d : Int) : Prop := SaidB T f ∧ 0 ≤ (f 10).toInt ∧ (f 10).toInt ≤ d
def WasD (w : Nat → Int32) : Prop := ∀ j : Nat, j < 20 → 0 ≤ (w (46 * j)).toInt ∧ (w (46 * j)).toInt ≤ 999
theorem WasD.put {T : Nat → Option Int32} {w g f : Nat → Int32} {i k u j x : Int32} (h : WasD w) (hf : SaidD T f 999) (eg : g = upd w i.toNatClampNeg x) (ex : x = f j.toNatClampNeg) (hi : i.toInt = 46 * u.toInt + k.toInt) (hj : j.toInt = 10 + k.toInt) (hk : 0 ≤ k.toInt ∧ k.toInt < 46) (hu : 0 ≤ u.toInt ∧ u.toInt < 20) : WasD g := by
  intro q hq
  subst eg
  have e : i.toNatClampNeg = i.toInt.toNat := rfl
  by_cases z : 46 * q = i.toNatClampNeg
  · rw [z, upd_at, ex, clN (i := j) (n := 10) (by omega)]
    exact hf.2
  · rw [upd_ne z]
    exact h q hq
def FrcD (fr md : Nat → Int32) (n : Int32) : Prop := ∀ k : Nat, k < 4 → (md k).toInt ≠ 0 → -1 ≤ (fr k).toInt ∧ (fr k).toInt < n.toInt
theorem FrcD.put {fr md fr' md' : Nat → Int32} {n k x y : Int32} (h : FrcD fr md n) (e1 : md' = upd md k.toNatClampNeg y) (e2 : fr' = upd fr k.toNatClampNeg x) (hx : -1 ≤ x.toInt ∧ x.toInt < n.toInt) : FrcD fr' md' n := by
  subst e1 e2
  intro j hj hm
  by_cases z : j = k.toNatClampNeg
  · rw [z, upd_at]; exact hx
  · rw [upd_ne z] at hm ⊢
    exact h j hj hm
def stp (e : Int32) (d : Nat) : Option Nat :=
  if (e &&& 15).toInt = 0 then (if d < 60 then some (d + 1) else none)
  else if (e &&& 15).toInt = 1 then (if d < 60 ∧ 0 ≤ (e >>> (4 &&& 31)).toInt ∧ (e >>> (4 &&& 31)).toInt ≤ 12 then some (d + 1) else none)
  else if (e &&& 15).toInt = 11 then (if 1 ≤ d then some d else none)
  else (if 2 ≤ d then some (d - 1) else none)
def dep (f : Nat → Int32) : Nat → Nat → Nat → Option Nat
  | 0, _, d => some d
  | n + 1, a, d => (stp (f a) d).bind (fun e => dep f n (a + 1) e)
theorem SaidD.lt {T : Nat → Option Int32} {f : Nat → Int32} (h : SaidD T f 999) (hx : ¬ (f 10).toInt = 999) : SaidD T f 998 := ⟨h.1, h.2.1, by have := h.2.2; omega⟩
theorem dep_snoc (f : Nat → Int32) (n a d : Nat) : dep f (n + 1) a d = (dep f n a d).bind (fun e => stp (f (a + n)) e) := by
  induction n generalizing a d with
  | zero =>
    show (stp (f a) d).bind (fun e => dep f 0 (a + 1) e) = (some d).bind _
    cases h : stp (f a) d with
    | none => show none = stp (f (a + 0)) d; rw [Nat.add_zero, h]
    | some e => show some e = stp (f (a + 0)) d; rw [Nat.add_zero, h]
  | succ n ih =>
    show (stp (f a) d).bind (fun e => dep f (n + 1) (a + 1) e) = ((stp (f a) d).bind (fun e => dep f n (a + 1) e)).bind (fun e => stp (f (a + (n + 1))) e)
    cases stp (f a) d with
    | none => rfl
    | some e =>
      show dep f (n + 1) (a + 1) e = (dep f n (a + 1) e).bind _
      rw [ih, show a + 1 + n = a + (n + 1) by omega]
theorem dep_congr {f g : Nat → Int32} (n a d : Nat) (h : ∀ i, a ≤ i → i < a + n → g i = f i) : dep g n a d = dep f n a d := by
  induction n generalizing a d with
  | zero => rfl
  | succ n ih =>
    show (stp (g a) d).bind _ = (stp (f a) d).bind _
    rw [h a (Nat.le_refl _) (by omega)]
    congr 1
    funext e
    exact ih (a + 1) e (fun i h1 h2 => h i (by omega) (by omega))
def Agr (f g : Nat → Int32) (k : Int) : Prop := ∀ i : Nat, (i : Int) < k → g i = f i
theorem Agr.trans {f g h : Nat → Int32} {k k2 k' : Int} (h1 : Agr f g k) (h2 : Agr g h k2) (hk : k' ≤ k ∧ k' ≤ k2) : Agr f h k' := fun i hi => (h2 i (by omega)).trans (h1 i (by omega))
def Cd (sg ln : Nat → Int32) (t b md : Int32) (d : Nat) : Prop := (0 ≤ t.toInt ∧ t.toInt ≤ 5 ∧ 0 ≤ b.toInt ∧ b.toInt ≤ (ln t.toNatClampNeg).toInt ∧ (ln t.toNatClampNeg).toInt ≤ 400 ∧ (d : Int) ≤ md.toInt ∧ md.toInt ≤ 60) ∧ dep sg ((ln t.toNatClampNeg).toInt.toNat - b.toInt.toNat) (400 * t.toInt.toNat + b.toInt.toNat) 0 = some d
def StpR (s v : Int32) (d e : Nat) : Prop := stp (s + 16 * v) d = some e
theorem Cd.put {sg sg' ln ln' : Nat → Int32} {t b md s v i x y : Int32} {d e : Nat} (h : Cd sg ln t b md d) (hs : StpR s v d e) (he : (e : Int) ≤ md.toInt) (e1 : sg' = upd sg i.toNatClampNeg x) (hi : i.toInt = 400 * t.toInt + (ln t.toNatClampNeg).toInt) (ex : x = s + 16 * v) (e2 : ln' = upd ln t.toNatClampNeg y) (hy : y.toInt = (ln t.toNatClampNeg).toInt + 1) (hL : (ln t.toNatClampNeg).toInt < 400) : Cd sg' ln' t b md e ∧ Agr sg sg' (400 * t.toInt + (ln t.toNatClampNeg).toInt) ∧ (ln' t.toNatClampNeg).toInt = (ln t.toNatClampNeg).toInt + 1 := by
  obtain ⟨h1, h2⟩ := h
  have ei : i.toNatClampNeg = 400 * t.toInt.toNat + (ln t.toNatClampNeg).toInt.toNat := by
    show i.toInt.toNat = _
    omega
  have el : ln' t.toNatClampNeg = y := by rw [e2, upd_at]
  have hag : ∀ j : Nat, j < 400 * t.toInt.toNat + (ln t.toNatClampNeg).toInt.toNat → sg' j = sg j := fun j hj => by rw [e1, ei, upd_ne (by omega)]
  refine ⟨⟨by rw [el]; omega, ?_⟩, fun j hj => hag j (by omega), by rw [el]; exact hy⟩
  rw [el]
  have en : y.toInt.toNat - b.toInt.toNat = ((ln t.toNatClampNeg).toInt.toNat - b.toInt.toNat) + 1 := by omega
  rw [en, dep_snoc, dep_congr (f := sg) (g := sg') _ _ _ (fun j hj1 hj2 => hag j (by omega)), h2]
  show stp (sg' _) d = some e
  have ea : 400 * t.toInt.toNat + b.toInt.toNat + ((ln t.toNatClampNeg).toInt.toNat - b.toInt.toNat) = i.toNatClampNeg := by omega
  rw [ea, e1, upd_at, ex]
  exact hs
theorem stp_op {s : Int32} {d : Nat} (h0 : ¬ (s &&& 15).toInt = 0) (h1 : ¬ (s &&& 15).toInt = 1) (h2 : ¬ (s &&& 15).toInt = 11) (hd : 2 ≤ d) : stp s d = some (d - 1) := by
  unfold stp
  rw [if_neg h0, if_neg h1, if_neg h2, if_pos hd]
theorem StpR.op {s : Int32} {d e : Nat} (hs : s = 2 ∨ s = 3 ∨ s = 4 ∨ s = 5 ∨ s = 6 ∨ s = 7 ∨ s = 8 ∨ s = 9 ∨ s = 10 ∨ s = 12 ∨ s = 13 ∨ s = 14) (hd : d = e + 1) (he : 1 ≤ e) : StpR s 0 d e := by
  unfold StpR
  have hh : ¬ ((s + 16 * 0) &&& 15).toInt = 0 ∧ ¬ ((s + 16 * 0) &&& 15).toInt = 1 ∧ ¬ ((s + 16 * 0) &&& 15).toInt = 11 := by
    rcases hs with rfl | rfl | rfl | rfl | rfl | rfl | rfl | rfl | rfl | rfl | rfl | rfl <;> decide
  rw [stp_op hh.1 hh.2.1 hh.2.2 (by omega), hd]
  rfl
theorem StpR.not {d : Nat} (hd : 1 ≤ d) : StpR 11 0 d d := by
  unfold StpR stp
  rw [if_neg (by decide), if_neg (by decide), if_pos (by decide), if_pos hd]
theorem StpR.word {w : Int32} {d : Nat} (hd : (d : Int) < 60) (h0 : 0 ≤ w.toInt ∧ w.toInt ≤ 12) : StpR 1 w d (d + 1) := by
  have e : ∀ k : Int32, w.toInt = k.toInt → w = k := fun k z => Int32.toInt_inj.mp z
  have hw : w = 0 ∨ w = 1 ∨ w = 2 ∨ w = 3 ∨ w = 4 ∨ w = 5 ∨ w = 6 ∨ w = 7 ∨ w = 8 ∨ w = 9 ∨ w = 10 ∨ w = 11 ∨ w = 12 := by
    have : w.toInt = 0 ∨ w.toInt = 1 ∨ w.toInt = 2 ∨ w.toInt = 3 ∨ w.toInt = 4 ∨ w.toInt = 5 ∨ w.toInt = 6 ∨ w.toInt = 7 ∨ w.toInt = 8 ∨ w.toInt = 9 ∨ w.toInt = 10 ∨ w.toInt = 11 ∨ w.toInt = 12 := by omega
    rcases this with z | z | z | z | z | z | z | z | z | z | z | z | z
    · exact .inl (e 0 (by rw [z]; decide))
    · exact .inr (.inl (e 1 (by rw [z]; decide)))
    · exact .inr (.inr (.inl (e 2 (by rw [z]; decide))))
    · exact .inr (.inr (.inr (.inl (e 3 (by rw [z]; decide)))))
    · exact .inr (.inr (.inr (.inr (.inl (e 4 (by rw [z]; decide))))))
    · exact .inr (.inr (.inr (.inr (.inr (.inl (e 5 (by rw [z]; decide)))))))
    · exact .inr (.inr (.inr (.inr (.inr (.inr (.inl (e 6 (by rw [z]; decide))))))))
    · exact .inr (.inr (.inr (.inr (.inr (.inr (.inr (.inl (e 7 (by rw [z]; decide)))))))))
    · exact .inr (.inr (.inr (.inr (.inr (.inr (.inr (.inr (.inl (e 8 (by rw [z]; decide))))))))))
    · exact .inr (.inr (.inr (.inr (.inr (.inr (.inr (.inr (.inr (.inl (e 9 (by rw [z]; decide)))))))))))
    · exact .inr (.inr (.inr (.inr (.inr (.inr (.inr (.inr (.inr (.inr (.inl (e 10 (by rw [z]; decide))))))))))))
    · exact .inr (.inr (.inr (.inr (.inr (.inr (.inr (.inr (.inr (.inr (.inr (.inl (e 11 (by rw [z]; decide)))))))))))))
    · exact .inr (.inr (.inr (.inr (.inr (.inr (.inr (.inr (.inr (.inr (.inr (.inr (e 12 (by rw [z]; decide)))))))))))))
  unfold StpR stp
  have h2 : ¬ ((1 + 16 * w : Int32) &&& 15).toInt = 0 ∧ ((1 + 16 * w : Int32) &&& 15).toInt = 1 ∧ 0 ≤ ((1 + 16 * w : Int32) >>> (4 &&& 31)).toInt ∧ ((1 + 16 * w : Int32) >>> (4 &&& 31)).toInt ≤ 12 := by
    rcases hw with rfl | rfl | rfl | rfl | rfl | rfl | rfl | rfl | rfl | rfl | rfl | rfl | rfl <;> decide
  rw [if_neg h2.1, if_pos h2.2.1, if_pos ⟨by omega, h2.2.2⟩]
def pnd (op : Nat → Int32) : Nat → Nat
  | 0 => 0
  | k + 1 => pnd op k + (if (op k).toInt = 12 ∨ (op k).toInt = 13 then 1 else 0)
def OpS (op : Nat → Int32) (n : Int32) (p : Nat) : Prop := (0 ≤ n.toInt ∧ n.toInt ≤ 400) ∧ (∀ k : Nat, (k : Int) < n.toInt → (op k).toInt = 11 ∨ (op k).toInt = 12 ∨ (op k).toInt = 13 ∨ (op k).toInt = 91) ∧ pnd op n.toInt.toNat = p
theorem OpS.pop {op : Nat → Int32} {n n' : Int32} {p : Nat} (h : OpS op n p) (hn : n'.toInt = n.toInt - 1) (hl : 1 ≤ n.toInt) : OpS op n' (p - (if (op n'.toNatClampNeg).toInt = 12 ∨ (op n'.toNatClampNeg).toInt = 13 then 1 else 0)) ∧ (if (op n'.toNatClampNeg).toInt = 12 ∨ (op n'.toNatClampNeg).toInt = 13 then 1 else 0) ≤ p := by
  obtain ⟨h1, h2, h3⟩ := h
  have en : n'.toNatClampNeg = n'.toInt.toNat := rfl
  have e1 : n.toInt.toNat = n'.toNatClampNeg + 1 := by omega
  rw [e1] at h3
  have h4 : pnd op n'.toNatClampNeg + (if (op n'.toNatClampNeg).toInt = 12 ∨ (op n'.toNatClampNeg).toInt = 13 then 1 else 0) = p := h3
  exact ⟨⟨by omega, fun k hk => h2 k (by omega), by rw [← en]; omega⟩, by omega⟩
def LSR (op : Nat → Int32) (n : Int32) (sg ln : Nat → Int32) (t b md : Int32) : Prop := ∃ p : Nat, OpS op n p ∧ Cd sg ln t b md (p + 1)
theorem LSR.pop {op : Nat → Int32} {n n' x : Int32} {sg ln : Nat → Int32} {t b md : Int32} (h : LSR op n sg ln t b md) (hn : n'.toInt = n.toInt - 1) (hl : 1 ≤ n.toInt) (ex : x = op n'.toNatClampNeg) (hx : x.toInt = 11 ∨ x.toInt = 12 ∨ x.toInt = 13) : ∃ d e : Nat, Cd sg ln t b md d ∧ StpR x 0 d e ∧ (e : Int) ≤ md.toInt ∧ ∀ sg' ln', Cd sg' ln' t b md e → LSR op n' sg' ln' t b md := by
  obtain ⟨p, h1, h2⟩ := h
  obtain ⟨h3, h4⟩ := h1.pop hn hl
  rw [← ex] at h3 h4
  have hd := h2.1
  by_cases z : x.toInt = 11
  · have e : x = 11 := Int32.toInt_inj.mp (by rw [z]; decide)
    rw [if_neg (by omega)] at h3
    rw [Nat.sub_zero] at h3
    refine ⟨p + 1, p + 1, h2, ?_, by omega, fun sg' ln' hc => ⟨p, h3, hc⟩⟩
    rw [e]
    exact StpR.not (by omega)
  · have hq : x = 12 ∨ x = 13 := by
      rcases hx with q | q | q
      · exact absurd q z
      · exact .inl (Int32.toInt_inj.mp (by rw [q]; decide))
      · exact .inr (Int32.toInt_inj.mp (by rw [q]; decide))
    rw [if_pos (by omega)] at h3 h4
    refine ⟨p + 1, p, h2, StpR.op ?_ rfl h4, by omega, fun sg' ln' hc => ⟨p - 1, h3, ?_⟩⟩
    · rcases hq with q | q
      · exact .inr (.inr (.inr (.inr (.inr (.inr (.inr (.inr (.inr (.inl q)))))))))
      · exact .inr (.inr (.inr (.inr (.inr (.inr (.inr (.inr (.inr (.inr (.inl q))))))))))
    · rw [show p - 1 + 1 = p by omega]
      exact hc
def LdE (op : Nat → Int32) (n least : Int32) : Prop := n.toInt = 0 ∨ ((1 ≤ least.toInt → (op (n.toInt.toNat - 1)).toInt ≠ 13 ∧ (op (n.toInt.toNat - 1)).toInt ≠ 12 ∧ (op (n.toInt.toNat - 1)).toInt ≠ 11) ∨ 1 < least.toInt)
def NIns (op : Nat → Int32) (n : Int32) : Prop := ∀ k : Nat, (k : Int) < n.toInt → (op k).toInt ≠ 91
theorem LSR.drop {op : Nat → Int32} {n n' least : Int32} {sg ln : Nat → Int32} {t b md : Int32} (h : LSR op n sg ln t b md) (hE : LdE op n least) (hl : least.toInt = 1) (h1 : 1 ≤ n.toInt) (hn : n'.toInt = n.toInt - 1) : LSR op n' sg ln t b md := by
  obtain ⟨p, h2, h3⟩ := h
  obtain ⟨h4, h5⟩ := h2.pop hn h1
  have e : n'.toNatClampNeg = n.toInt.toNat - 1 := by
    show n'.toInt.toNat = _
    omega
  have hz : (op n'.toNatClampNeg).toInt ≠ 13 ∧ (op n'.toNatClampNeg).toInt ≠ 12 ∧ (op n'.toNatClampNeg).toInt ≠ 11 := by
    rw [e]
    rcases hE with z | z | z
    · omega
    · exact z (by omega)
    · omega
  rw [if_neg (by omega), Nat.sub_zero] at h4
  exact ⟨p, h4, h3⟩
theorem LSR.fin {op : Nat → Int32} {n m least : Int32} {sg ln : Nat → Int32} {t b md : Int32} (h : LSR op n sg ln t b md) (hE : LdE op n least) (hl : least.toInt = 1) (hN : NIns op m) (hm : n.toInt ≤ m.toInt) : Cd sg ln t b md 1 := by
  obtain ⟨p, h2, h3⟩ := h
  have hz : n.toInt = 0 := by
    rcases hE with z | z | z
    · exact z
    · by_cases q : n.toInt = 0
      · exact q
      · have h0 := h2.1
        have hv := h2.2.1 (n.toInt.toNat - 1) (by omega)
        have hw := hN (n.toInt.toNat - 1) (by omega)
        have hq := z (by omega)
        omega
    · omega
  have hp := h2.2.2
  rw [hz] at hp
  have : p = 0 := hp.symm
  subst this
  exact h3
def RdC (f g : Nat → Int32) (c : Int32) : Prop := ∀ i : Nat, i ≠ c.toNatClampNeg → g i = f i
def ClV (cl : Nat → Int32) (A j : Nat) (v : Int32) : Prop := cl (A + j) = v
theorem ClV.put {cl cl' : Nat → Int32} {A j : Nat} {i x : Int32} (e : cl' = upd cl i.toNatClampNeg x) (hi : i.toInt = (A : Int) + (j : Int)) : ClV cl' A j x := by
  unfold ClV
  rw [e, clN (i := i) (n := A + j) (by omega), upd_at]
/-! the readers' language as functions of the bytes (-1 behind the last one): what class and reference have in common -/
def pz_run (P : Int → Bool) (B : Nat → Int) : Nat → Nat → Nat
  | 0, p => p
  | k + 1, p => if P (B p) = true then pz_run P B k (p + 1) else p
theorem pz_run_eq {P : Int → Bool} {B : Nat → Int} : ∀ (k p q : Nat), p ≤ q → q < p + k → (∀ i, p ≤ i → i < q → P (B i) = true) → ¬ P (B q) = true → pz_run P B k p = q
  | 0, p, q, h1, h2, h3, h4 => by omega
  | k + 1, p, q, h1, h2, h3, h4 => by
    unfold pz_run
    by_cases z : p = q
    · subst z; rw [if_neg h4]
    · rw [if_pos (h3 p (Nat.le_refl _) (by omega))]
      exact pz_run_eq k (p + 1) q (by omega) (by omega) (fun i a b => h3 i (by omega) b) h4
theorem pz_run_ge {P : Int → Bool} {B : Nat → Int} : ∀ (k p : Nat), p ≤ pz_run P B k p
  | 0, p => Nat.le_refl _
  | k + 1, p => by
    unfold pz_run
    by_cases z : P (B p) = true
    · rw [if_pos z]; exact Nat.le_trans (Nat.le_succ p) (pz_run_ge k (p + 1))
    · rw [if_neg z]; exact Nat.le_refl _
theorem pz_run_gt {P : Int → Bool} {B : Nat → Int} {k p : Nat} (h : P (B p) = true) : p + 1 ≤ pz_run P B (k + 1) p := by
  unfold pz_run
  rw [if_pos h]
  exact pz_run_ge k (p + 1)
def pz_isS (x : Int) : Bool := decide (x = 32)
def pz_isL (x : Int) : Bool := decide (97 ≤ x ∧ x ≤ 122)
def pz_isD (x : Int) : Bool := decide (48 ≤ x ∧ x ≤ 57)
def pz_sk (B : Nat → Int) (p : Nat) : Nat := pz_run pz_isS B 401 p
def pz_te (B : Nat → Int) (p : Nat) : Nat := if pz_isL (B p) = true then pz_run pz_isL B 401 p else if pz_isD (B p) = true then pz_run pz_isD B 401 p else if B p = -1 then p else if (B p = 60 ∨ B p = 62) ∧ B (p + 1) = 61 then p + 2 else p + 1
def pz_nt (B : Nat → Int) (p : Nat) : Nat := pz_sk B (pz_te B p)
theorem pz_te_gt {B : Nat → Int} {p : Nat} (h : B p ≠ -1) : p + 1 ≤ pz_te B p := by
  unfold pz_te
  split
  · exact pz_run_gt ‹_›
  · split
    · exact pz_run_gt ‹_›
    · split <;> omega
theorem pz_nt_gt {B : Nat → Int} {p : Nat} (h : B p ≠ -1) : p + 1 ≤ pz_nt B p := Nat.le_trans (pz_te_gt h) (pz_run_ge _ _)
def pz_b {S T : Type} (r : Except Int S) (f : S → Except Int T) : Except Int T := match r with
  | .error e => .error e
  | .ok s => f s
theorem pz_b_ok {S T : Type} {s : S} {f : S → Except Int T} : pz_b (.ok s) f = f s := rfl
theorem pz_b_er {S T : Type} {e : Int} {f : S → Except Int T} : pz_b (.error e) f = .error e := rfl
theorem pz_b_as {S T U : Type} {r : Except Int S} {f : S → Except Int T} {g : T → Except Int U} : pz_b (pz_b r f) g = pz_b r (fun s => pz_b (f s) g) := by cases r <;> rfl
theorem pz_b_id {S : Type} {r : Except Int S} : pz_b r .ok = r := by cases r <;> rfl
def pz_it {S : Type} (F : S → Option (Except Int S)) : Nat → S → Except Int S
  | 0, s => .ok s
  | k + 1, s => match F s with
    | none => .ok s
    | some r => pz_b r (pz_it F k)
/-- each turn of a loop goes on along the bytes -/
def pz_pr {S : Type} (pos : S → Nat) (F : S → Option (Except Int S)) : Prop := ∀ s r, F s = some r → pos s < 400 ∧ ∀ s', r = .ok s' → pos s < pos s'
theorem pz_it_big {S : Type} {pos : S → Nat} {F : S → Option (Except Int S)} (hF : pz_pr pos F) : ∀ (k : Nat) (s : S), 400 ≤ pos s + k → pz_it F (k + 1) s = pz_it F k s := by
  intro k
  induction k with
  | zero =>
    intro s h
    show (match F s with | none => Except.ok s | some r => pz_b r (pz_it F 0)) = Except.ok s
    cases e : F s with
    | none => rfl
    | some r => exact absurd (hF s r e).1 (by omega)
  | succ k ih =>
    intro s h
    show (match F s with | none => Except.ok s | some r => pz_b r (pz_it F (k + 1))) = (match F s with | none => Except.ok s | some r => pz_b r (pz_it F k))
    cases e : F s with
    | none => rfl
    | some r =>
      cases r with
      | error z => rfl
      | ok s' =>
        have := (hF s _ e).2 s' rfl
        exact ih s' (by omega)
def pz_lp {S : Type} (F : S → Option (Except Int S)) (s : S) : Except Int S := pz_it F 401 s
theorem pz_lp_no {S : Type} {F : S → Option (Except Int S)} {s : S} (h : F s = none) : pz_lp F s = .ok s := by
  show (match F s with | none => Except.ok s | some r => pz_b r (pz_it F 400)) = Except.ok s
  rw [h]
theorem pz_lp_on {S : Type} {pos : S → Nat} {F : S → Option (Except Int S)} (hF : pz_pr pos F) {s : S} {r : Except Int S} (h : F s = some r) : pz_lp F s = pz_b r (pz_lp F) := by
  show (match F s with | none => Except.ok s | some r => pz_b r (pz_it F 400)) = pz_b r (pz_it F 401)
  rw [h]
  cases r with
  | error z => show pz_b (Except.error z) (pz_it F 400) = _; rw [pz_b_er, pz_b_er]
  | ok s' =>
    have e : pz_it F (400 + 1) s' = pz_it F 400 s' := pz_it_big hF 400 s' (Nat.le_add_left _ _)
    have e' : (400 + 1 : Nat) = 401 := rfl
    rw [e'] at e
    show pz_b (Except.ok s') (pz_it F 400) = _
    rw [pz_b_ok, pz_b_ok, e]
/-- a loop goes on, or stays where it is -/
theorem pz_it_ge {S : Type} {pos : S → Nat} {F : S → Option (Except Int S)} (hF : pz_pr pos F) : ∀ (k : Nat) (s s' : S), pz_it F k s = .ok s' → pos s ≤ pos s' := by
  intro k
  induction k with
  | zero => intro s s' h; cases h; exact Nat.le_refl _
  | succ k ih =>
    intro s s' h
    have h : (match F s with | none => Except.ok s | some r => pz_b r (pz_it F k)) = Except.ok s' := h
    cases e : F s with
    | none => rw [e] at h; cases h; exact Nat.le_refl _
    | some r =>
      rw [e] at h
      cases r with
      | error z => cases h
      | ok s1 =>
        have h1 := (hF s _ e).2 s1 rfl
        have h2 := ih s1 s' h
        omega
theorem pz_lp_ge {S : Type} {pos : S → Nat} {F : S → Option (Except Int S)} (hF : pz_pr pos F) {s s' : S} (h : pz_lp F s = .ok s') : pos s ≤ pos s' := pz_it_ge hF 401 s s' h
/-- nothing stands behind the last byte -/
def pz_fi (B : Nat → Int) : Prop := ∀ k, 400 ≤ k → B k = -1
theorem pz_fi.lt {B : Nat → Int} (h : pz_fi B) {p : Nat} (hp : B p ≠ -1) : p < 400 := Nat.lt_of_not_le (fun z => hp (h p z))
def pz_er (k : Int) (p : Nat) : Int := 1 + 8 * (p : Int) + k
/-- the number of k digits from p on -/
def pz_nv (B : Nat → Int) (p : Nat) : Nat → Int
  | 0 => 0
  | k + 1 => 10 * pz_nv B p k + (B (p + k) - 48)
def pz_num (B : Nat → Int) (lo hi : Int) (p : Nat) : Except Int Int := if pz_isD (B p) = true then (if 5 < pz_te B p - p then .error (pz_er 1 p) else if pz_nv B p (pz_te B p - p) < lo ∨ hi < pz_nv B p (pz_te B p - p) then .error (pz_er 1 p) else .ok (pz_nv B p (pz_te B p - p))) else .error (pz_er 0 p)
def pz_wd (B : Nat → Int) (p : Nat) (w : List Int) : Bool := decide (pz_te B p = p + w.length ∧ ∀ i, i < w.length → B (p + i) = w.getD i 0)
/-- which of the words stands there -/
def pz_wa (B : Nat → Int) (p : Nat) : List (List Int) → Int → Int
  | [], _ => -1
  | w :: t, k => if pz_wd B p w = true then k else pz_wa B p t (k + 1)
theorem pz_wa_hit {B : Nat → Int} {p : Nat} : ∀ (ws : List (List Int)) (k : Int), 0 ≤ k → pz_wa B p ws k ≠ -1 → ∃ w ∈ ws, pz_wd B p w = true
  | [], k, _, h => absurd rfl h
  | w :: t, k, h0, h => by
    by_cases z : pz_wd B p w = true
    · exact ⟨w, List.mem_cons_self, z⟩
    · have e : pz_wa B p (w :: t) k = pz_wa B p t (k + 1) := by show (if _ then _ else _) = _; rw [if_neg z]
      rw [e] at h
      obtain ⟨v, hv, hw⟩ := pz_wa_hit t (k + 1) (by omega) h
      exact ⟨v, List.mem_cons_of_mem _ hv, hw⟩
def pz_buyer : List Int := [98, 117, 121, 101, 114]
def pz_words : List (List Int) := [pz_buyer, [116, 101, 109, 112, 101, 114], [103, 114, 97, 105, 110, 115], [119, 97, 105, 116, 115], [115, 116, 105, 108, 108], [110, 101, 120, 116], [115, 104, 101, 108, 102], [98, 111, 117, 103, 104, 116], [109, 101, 116], [115, 105, 110, 99, 101], [115, 111, 108, 100], [99, 108, 111, 99, 107], [100, 97, 121]]
def pz_book : List Int := [98, 111, 111, 107]
def pz_sky : List Int := [115, 107, 121]
def pz_watch : List Int := [119, 97, 116, 99, 104]
def pz_buy : List Int := [98, 117, 121]
def pz_if : List Int := [105, 102]
def pz_not : List Int := [110, 111, 116]
def pz_and : List Int := [97, 110, 100]
def pz_or : List Int := [111, 114]
/-- a word that is not empty stands on a byte -/
theorem pz_wd_ne {B : Nat → Int} {p : Nat} {w : List Int} (h : pz_wd B p w = true) (hw : 0 < w.length) (h1 : w.getD 0 0 ≠ -1) : B p ≠ -1 := by
  have := (of_decide_eq_true h).2 0 hw
  rw [Nat.add_zero] at this
  rw [this]
  exact h1
section PZ
variable (B : Nat → Int)
def pz_nx (s : Nat × Nat) : Nat × Nat := (pz_nt B s.1, s.2)
/-- one more that is counted: 60 are most -/
def pz_cnt (s : Nat × Nat) : Except Int (Nat × Nat) := if 60 ≤ s.2 then .error (pz_er 3 s.1) else .ok (pz_nt B s.1, s.2 + 1)
def pz_val (s : Nat × Nat) : Except Int (Nat × Nat) := if pz_isD (B s.1) = true then pz_b (pz_num B 0 99999 s.1) (fun _ => pz_cnt B s) else if pz_wa B s.1 pz_words 0 = -1 then .error (pz_er 0 s.1) else pz_cnt B s
def pz_op (x : Int) : Prop := x = 43 ∨ x = 45 ∨ x = 42 ∨ x = 47 ∨ x = 37
def pz_sF (s : Nat × Nat) : Option (Except Int (Nat × Nat)) := if B s.1 = 43 ∨ B s.1 = 45 ∨ B s.1 = 42 ∨ B s.1 = 47 ∨ B s.1 = 37 then some (pz_val B (pz_nx B s)) else none
def pz_sum (s : Nat × Nat) : Except Int (Nat × Nat) := pz_b (pz_val B s) (pz_lp (pz_sF B))
def pz_cmp (s : Nat × Nat) : Except Int (Nat × Nat) := if B s.1 = 60 ∨ B s.1 = 61 ∨ B s.1 = 62 then pz_cnt B s else .error (pz_er 0 s.1)
def pz_com (s : Nat × Nat) : Except Int (Nat × Nat) := pz_b (pz_b (pz_sum B s) (pz_cmp B)) (pz_sum B)
def pz_tF (f : Nat × Nat → Except Int (Nat × Nat)) (s : Nat × Nat) : Option (Except Int (Nat × Nat)) := if pz_wd B s.1 pz_and = true ∨ pz_wd B s.1 pz_or = true then some (f (pz_nx B s)) else none
def pz_rb (s : Nat × Nat) : Except Int (Nat × Nat) := if B s.1 = 93 then .ok (pz_nx B s) else .error (pz_er 0 s.1)
def pz_tst (f : Nat × Nat → Except Int (Nat × Nat)) (s : Nat × Nat) : Except Int (Nat × Nat) := pz_b (f s) (pz_lp (pz_tF B f))
def pz_fact : Nat → Nat × Nat → Except Int (Nat × Nat)
  | 0, s => if pz_wd B s.1 pz_not = true ∨ B s.1 = 91 then .error (pz_er 2 s.1) else pz_com B s
  | m + 1, s => if pz_wd B s.1 pz_not = true then pz_fact m (pz_nx B s) else if B s.1 = 91 then pz_b (pz_tst B (pz_fact m) (pz_nx B s)) (pz_rb B) else pz_com B s
/-- a clause: buy, a sum, and a test perhaps -/
def pz_cla (l : Nat) (s : Nat × Nat) : Except Int (Nat × Nat) := if pz_wd B s.1 pz_buy = true then (if l = 12 then .error (pz_er 4 s.1) else pz_b (pz_sum B (pz_nx B s)) (fun t => if pz_wd B t.1 pz_if = true then pz_tst B (pz_fact B 10) (pz_nx B t) else .ok t)) else .error (pz_er 0 s.1)
def pz_rF (u : (Nat × Nat) × Nat) : Option (Except Int ((Nat × Nat) × Nat)) := if B u.1.1 = 59 then some (pz_b (pz_cla B u.2 (pz_nx B u.1)) (fun t => .ok (t, u.2 + 1))) else none
def pz_end (p : Nat) : Except Int Nat := if B p = -1 then .ok p else .error (pz_er 0 p)
/-- a rule's text: the fault, or none -/
def pz_rule : Except Int Nat := pz_b (pz_b (pz_b (pz_cla B 0 (pz_sk B 0, 0)) (fun t => .ok (t, 1))) (pz_lp (pz_rF B))) (fun u => pz_end B u.1.1)
end PZ
/-! all of them go on along the bytes -/
section PZP
variable {B : Nat → Int}
theorem pz_cnt_gt {s t : Nat × Nat} (h : pz_cnt B s = .ok t) (hb : B s.1 ≠ -1) : s.1 < t.1 := by
  unfold pz_cnt at h
  by_cases z : 60 ≤ s.2
  · rw [if_pos z] at h; cases h
  · rw [if_neg z] at h; cases h; exact pz_nt_gt hb
theorem pz_isD_ne {x : Int} (h : pz_isD x = true) : x ≠ -1 := by
  have := of_decide_eq_true h
  omega
theorem pz_words_ne : ∀ w ∈ pz_words, 0 < w.length ∧ w.getD 0 0 ≠ -1 := by decide
theorem pz_val_gt {s t : Nat × Nat} (h : pz_val B s = .ok t) : B s.1 ≠ -1 ∧ s.1 < t.1 := by
  unfold pz_val at h
  by_cases z : pz_isD (B s.1) = true
  · rw [if_pos z] at h
    have hb := pz_isD_ne z
    cases e : pz_num B 0 99999 s.1 with
    | error x => rw [e] at h; cases h
    | ok x => rw [e] at h; exact ⟨hb, pz_cnt_gt h hb⟩
  · rw [if_neg z] at h
    by_cases y : pz_wa B s.1 pz_words 0 = -1
    · rw [if_pos y] at h; cases h
    · rw [if_neg y] at h
      obtain ⟨w, hw, hd⟩ := pz_wa_hit pz_words 0 (Int.le_refl _) y
      have hb := pz_wd_ne hd (pz_words_ne w hw).1 (pz_words_ne w hw).2
      exact ⟨hb, pz_cnt_gt h hb⟩
theorem pz_sF_pr (hB : pz_fi B) : pz_pr (fun s : Nat × Nat => s.1) (pz_sF B) := by
  intro s r h
  unfold pz_sF at h
  by_cases z : B s.1 = 43 ∨ B s.1 = 45 ∨ B s.1 = 42 ∨ B s.1 = 47 ∨ B s.1 = 37
  · rw [if_pos z] at h
    have hb : B s.1 ≠ -1 := by omega
    refine ⟨hB.lt hb, fun t ht => ?_⟩
    cases h
    have h1 := (pz_val_gt ht).2
    have h2 := pz_nt_gt hb
    have h3 : (pz_nx B s).1 = pz_nt B s.1 := rfl
    show s.1 < t.1
    omega
  · rw [if_neg z] at h; cases h
theorem pz_sum_gt (hB : pz_fi B) {s t : Nat × Nat} (h : pz_sum B s = .ok t) : B s.1 ≠ -1 ∧ s.1 < t.1 := by
  unfold pz_sum at h
  cases e : pz_val B s with
  | error x => rw [e] at h; cases h
  | ok s1 =>
    rw [e] at h
    have h1 := pz_val_gt e
    have h2 : s1.1 ≤ t.1 := pz_lp_ge (pz_sF_pr hB) h
    exact ⟨h1.1, by omega⟩
theorem pz_com_gt (hB : pz_fi B) {s t : Nat × Nat} (h : pz_com B s = .ok t) : B s.1 ≠ -1 ∧ s.1 < t.1 := by
  unfold pz_com at h
  cases e : pz_sum B s with
  | error x => rw [e] at h; cases h
  | ok s1 =>
    rw [e] at h
    have h1 := pz_sum_gt hB e
    have h : pz_b (pz_cmp B s1) (pz_sum B) = .ok t := h
    cases e2 : pz_cmp B s1 with
    | error x => rw [e2] at h; cases h
    | ok s2 =>
      rw [e2] at h
      have h3 := pz_sum_gt hB h
      unfold pz_cmp at e2
      by_cases z : B s1.1 = 60 ∨ B s1.1 = 61 ∨ B s1.1 = 62
      · rw [if_pos z] at e2
        have := pz_cnt_gt e2 (by omega)
        exact ⟨h1.1, by omega⟩
      · rw [if_neg z] at e2; cases e2
theorem pz_and_ne {p : Nat} (h : pz_wd B p pz_and = true ∨ pz_wd B p pz_or = true) : B p ≠ -1 := by
  rcases h with h | h
  · exact pz_wd_ne h (by decide) (by decide)
  · exact pz_wd_ne h (by decide) (by decide)
theorem pz_tF_pr (hB : pz_fi B) {f : Nat × Nat → Except Int (Nat × Nat)} (hf : ∀ s t, f s = .ok t → B s.1 ≠ -1 ∧ s.1 < t.1) : pz_pr (fun s : Nat × Nat => s.1) (pz_tF B f) := by
  intro s r h
  unfold pz_tF at h
  by_cases z : pz_wd B s.1 pz_and = true ∨ pz_wd B s.1 pz_or = true
  · rw [if_pos z] at h
    have hb : B s.1 ≠ -1 := pz_and_ne z
    refine ⟨hB.lt hb, fun t ht => ?_⟩
    cases h
    have h1 := (hf _ _ ht).2
    have h2 := pz_nt_gt hb
    have h3 : (pz_nx B s).1 = pz_nt B s.1 := rfl
    show s.1 < t.1
    omega
  · rw [if_neg z] at h; cases h
theorem pz_tst_gt (hB : pz_fi B) {f : Nat × Nat → Except Int (Nat × Nat)} (hf : ∀ s t, f s = .ok t → B s.1 ≠ -1 ∧ s.1 < t.1) {s t : Nat × Nat} (h : pz_tst B f s = .ok t) : B s.1 ≠ -1 ∧ s.1 < t.1 := by
  unfold pz_tst at h
  cases e : f s with
  | error x => rw [e] at h; cases h
  | ok s1 =>
    rw [e] at h
    have h1 := hf _ _ e
    have h2 : s1.1 ≤ t.1 := pz_lp_ge (pz_tF_pr hB hf) h
    exact ⟨h1.1, by omega⟩
theorem pz_not_ne {p : Nat} (h : pz_wd B p pz_not = true) : B p ≠ -1 := pz_wd_ne h (by decide) (by decide)
theorem pz_fact_gt (hB : pz_fi B) : ∀ (m : Nat) (s t : Nat × Nat), pz_fact B m s = .ok t → B s.1 ≠ -1 ∧ s.1 < t.1
  | 0, s, t, h => by
    unfold pz_fact at h
    by_cases z : pz_wd B s.1 pz_not = true ∨ B s.1 = 91
    · rw [if_pos z] at h; cases h
    · rw [if_neg z] at h; exact pz_com_gt hB h
  | m + 1, s, t, h => by
    unfold pz_fact at h
    by_cases z : pz_wd B s.1 pz_not = true
    · rw [if_pos z] at h
      have h1 := (pz_fact_gt hB m _ _ h).2
      have hb := pz_not_ne z
      have h2 := pz_nt_gt hb
      have h3 : (pz_nx B s).1 = pz_nt B s.1 := rfl
      exact ⟨hb, by omega⟩
    · rw [if_neg z] at h
      by_cases y : B s.1 = 91
      · rw [if_pos y] at h
        have hb : B s.1 ≠ -1 := by omega
        cases e : pz_tst B (pz_fact B m) (pz_nx B s) with
        | error x => rw [e] at h; cases h
        | ok s1 =>
          rw [e] at h
          have h1 := (pz_tst_gt hB (pz_fact_gt hB m) e).2
          have h : pz_rb B s1 = .ok t := h
          unfold pz_rb at h
          by_cases x : B s1.1 = 93
          · rw [if_pos x] at h
            cases h
            have h2 := pz_nt_gt hb
            have h3 : (pz_nx B s).1 = pz_nt B s.1 := rfl
            have h4 := pz_nt_gt (B := B) (p := s1.1) (by omega)
            have h5 : (pz_nx B s1).1 = pz_nt B s1.1 := rfl
            exact ⟨hb, by omega⟩
          · rw [if_neg x] at h; cases h
      · rw [if_neg y] at h; exact pz_com_gt hB h
/-! the loops' turns -/
theorem pz_sum_on (hB : pz_fi B) {s : Nat × Nat} (h : B s.1 = 43 ∨ B s.1 = 45 ∨ B s.1 = 42 ∨ B s.1 = 47 ∨ B s.1 = 37) : pz_lp (pz_sF B) s = pz_sum B (pz_nx B s) := pz_lp_on (pz_sF_pr hB) (if_pos h)
theorem pz_sum_no {s : Nat × Nat} (h : ¬ (B s.1 = 43 ∨ B s.1 = 45 ∨ B s.1 = 42 ∨ B s.1 = 47 ∨ B s.1 = 37)) : pz_lp (pz_sF B) s = .ok s := pz_lp_no (if_neg h)
theorem pz_tst_on (hB : pz_fi B) {m : Nat} {s : Nat × Nat} (h : pz_wd B s.1 pz_and = true ∨ pz_wd B s.1 pz_or = true) : pz_lp (pz_tF B (pz_fact B m)) s = pz_tst B (pz_fact B m) (pz_nx B s) := pz_lp_on (pz_tF_pr hB (pz_fact_gt hB m)) (if_pos h)
theorem pz_tst_no {f : Nat × Nat → Except Int (Nat × Nat)} {s : Nat × Nat} (h : ¬ (pz_wd B s.1 pz_and = true ∨ pz_wd B s.1 pz_or = true)) : pz_lp (pz_tF B f) s = .ok s := pz_lp_no (if_neg h)
/-! what is still to be read, by the brackets that are open: of each the depth that is left -/
def pz_K (B : Nat → Int) : List Nat → Except Int (Nat × Nat) → Except Int (Nat × Nat)
  | [], r => r
  | [m], r => pz_b r (pz_lp (pz_tF B (pz_fact B m)))
  | m :: m' :: ms, r => pz_K B (m' :: ms) (pz_b (pz_b r (pz_lp (pz_tF B (pz_fact B m)))) (pz_rb B))
theorem pz_K_er {e : Int} : ∀ (S : List Nat), pz_K B S (.error e) = .error e
  | [] => rfl
  | [_] => rfl
  | _ :: m' :: ms => pz_K_er (m' :: ms)
/-- a not: one level less is left -/
theorem pz_K_not {S : List Nat} {m : Nat} {s : Nat × Nat} (h : pz_wd B s.1 pz_not = true) : pz_K B S (pz_fact B (m + 1) s) = pz_K B S (pz_fact B m (pz_nx B s)) := by
  rw [show pz_fact B (m + 1) s = pz_fact B m (pz_nx B s) from if_pos h]
/-- a bracket opens -/
theorem pz_K_open {S : List Nat} {m m' : Nat} {s : Nat × Nat} (h : ¬ pz_wd B s.1 pz_not = true) (h1 : B s.1 = 91) : pz_K B (m' :: S) (pz_fact B (m + 1) s) = pz_K B (m :: m' :: S) (pz_fact B m (pz_nx B s)) := by
  rw [show pz_fact B (m + 1) s = pz_b (pz_tst B (pz_fact B m) (pz_nx B s)) (pz_rb B) from (if_neg h).trans (if_pos h1)]
  rfl
theorem pz_K_deep {S : List Nat} {s : Nat × Nat} (h : pz_wd B s.1 pz_not = true ∨ B s.1 = 91) : pz_K B S (pz_fact B 0 s) = .error (pz_er 2 s.1) := by
  rw [show pz_fact B 0 s = .error (pz_er 2 s.1) from if_pos h]
  exact pz_K_er S
theorem pz_K_com {S : List Nat} {m : Nat} {s : Nat × Nat} (h : ¬ pz_wd B s.1 pz_not = true) (h1 : ¬ B s.1 = 91) : pz_K B S (pz_fact B m s) = pz_K B S (pz_com B s) := by
  cases m with
  | zero => rw [show pz_fact B 0 s = pz_com B s from if_neg (by intro z; rcases z with z | z; exact h z; exact h1 z)]
  | succ m => rw [show pz_fact B (m + 1) s = pz_com B s from (if_neg h).trans (if_neg h1)]
/-- a bracket closes -/
theorem pz_K_close {S : List Nat} {m m' : Nat} {s : Nat × Nat} (h : B s.1 = 93) : pz_K B (m :: m' :: S) (.ok s) = pz_K B (m' :: S) (.ok (pz_nx B s)) := by
  have e : pz_lp (pz_tF B (pz_fact B m)) s = .ok s := pz_tst_no (fun z => by
    rcases z with z | z
    · have := (of_decide_eq_true z).2 0 (by decide)
      rw [Nat.add_zero, h] at this
      exact absurd this (by decide)
    · have := (of_decide_eq_true z).2 0 (by decide)
      rw [Nat.add_zero, h] at this
      exact absurd this (by decide))
  show pz_K B (m' :: S) (pz_b (pz_b (.ok s) (pz_lp (pz_tF B (pz_fact B m)))) (pz_rb B)) = _
  rw [show pz_b (Except.ok s) (pz_lp (pz_tF B (pz_fact B m))) = pz_lp (pz_tF B (pz_fact B m)) s from rfl, e]
  rw [show pz_b (Except.ok s) (pz_rb B) = pz_rb B s from rfl, show pz_rb B s = .ok (pz_nx B s) from if_pos h]
/-- and, or -/
theorem pz_K_and (hB : pz_fi B) {S : List Nat} {m : Nat} {s : Nat × Nat} (h : pz_wd B s.1 pz_and = true ∨ pz_wd B s.1 pz_or = true) : pz_K B (m :: S) (.ok s) = pz_K B (m :: S) (pz_fact B m (pz_nx B s)) := by
  have e := pz_tst_on hB (m := m) h
  cases S with
  | nil => exact e
  | cons m' S =>
    show pz_K B (m' :: S) (pz_b (pz_lp (pz_tF B (pz_fact B m)) s) (pz_rb B)) = pz_K B (m' :: S) (pz_b (pz_b (pz_fact B m (pz_nx B s)) (pz_lp (pz_tF B (pz_fact B m)))) (pz_rb B))
    rw [e]
    rfl
theorem pz_K_in {S : List Nat} {m m' : Nat} {s : Nat × Nat} (h : ¬ (pz_wd B s.1 pz_and = true ∨ pz_wd B s.1 pz_or = true)) (h1 : ¬ B s.1 = 93) : pz_K B (m :: m' :: S) (.ok s) = .error (pz_er 0 s.1) := by
  show pz_K B (m' :: S) (pz_b (pz_lp (pz_tF B (pz_fact B m)) s) (pz_rb B)) = _
  rw [pz_tst_no h]
  rw [show pz_b (Except.ok s) (pz_rb B) = pz_rb B s from rfl, show pz_rb B s = .error (pz_er 0 s.1) from if_neg h1]
  exact pz_K_er _
theorem pz_K_out {m : Nat} {s : Nat × Nat} (h : ¬ (pz_wd B s.1 pz_and = true ∨ pz_wd B s.1 pz_or = true)) : pz_K B [m] (.ok s) = .ok s := pz_tst_no h
end PZP
def cB (f : Nat → Int32) (n : Int32) (k : Nat) : Int := if (k : Int) < n.toInt then (f k).toInt else -1
def Byt (f : Nat → Int32) : Prop := ∀ k : Nat, 0 ≤ (f k).toInt ∧ (f k).toInt ≤ 255
theorem cB_in {f : Nat → Int32} {n : Int32} {k : Nat} (h : (k : Int) < n.toInt) : cB f n k = (f k).toInt := if_pos h
theorem cB_out {f : Nat → Int32} {n : Int32} {k : Nat} (h : n.toInt ≤ (k : Int)) : cB f n k = -1 := if_neg (by omega)
theorem cB_fi {f : Nat → Int32} {n : Int32} (h : n.toInt ≤ 400) : pz_fi (cB f n) := fun k hk => cB_out (by omega)
theorem cB_rg {f : Nat → Int32} {n : Int32} (h : Byt f) (k : Nat) : ((k : Int) < n.toInt ∧ 0 ≤ cB f n k ∧ cB f n k ≤ 255) ∨ (n.toInt ≤ (k : Int) ∧ cB f n k = -1) := by
  by_cases z : (k : Int) < n.toInt
  · left; rw [cB_in z]; exact ⟨z, h k⟩
  · right; exact ⟨by omega, cB_out (by omega)⟩
def Rn (P : Int → Bool) (f : Nat → Int32) (n p q : Int32) : Prop := p.toInt ≤ q.toInt ∧ ∀ i : Nat, p.toInt ≤ (i : Int) → (i : Int) < q.toInt → P (cB f n i) = true
theorem Rn.rf {P : Int → Bool} {f : Nat → Int32} {n p : Int32} : Rn P f n p p := ⟨Int.le_refl _, fun i a b => by omega⟩
theorem Rn.st {P : Int → Bool} {f : Nat → Int32} {n p q q' x : Int32} (h : Rn P f n p q) (h0 : 0 ≤ q.toInt) (hx : x.toInt = cB f n q.toInt.toNat) (hP : P x.toInt = true) (hq : q'.toInt = q.toInt + 1) : Rn P f n p q' := by
  have hp := h.1
  refine ⟨by omega, fun i a b => ?_⟩
  by_cases z : (i : Int) < q.toInt
  · exact h.2 i a z
  · rw [show i = q.toInt.toNat by omega, ← hx]; exact hP
theorem Rn.run {P : Int → Bool} {f : Nat → Int32} {n p q : Int32} (h : Rn P f n p q) (h0 : 0 ≤ p.toInt) (h4 : q.toInt ≤ 400) (hq : ¬ P (cB f n q.toInt.toNat) = true) : pz_run P (cB f n) 401 p.toInt.toNat = q.toInt.toNat := by
  have hp := h.1
  exact pz_run_eq 401 _ _ (by omega) (by omega) (fun i a b => h.2 i (by omega) (by omega)) hq
def TpR (f : Nat → Int32) (n : Int32) (r : Except Int (Nat × Nat)) (a b c d : Int32) : Prop := match r with
  | .error e => d.toInt = e ∧ e ≠ 0 ∧ c.toInt = -1
  | .ok s => d.toInt = 0 ∧ a.toInt = (s.1 : Int) ∧ b.toInt = (pz_te (cB f n) s.1 : Int) ∧ c.toInt = cB f n s.1
def TpB (r : Except Int (Nat × Nat)) (b d : Int32) : Prop := match r with
  | .error e => d.toInt = e ∧ e ≠ 0
  | .ok s => d.toInt = 0 ∧ b.toInt = (s.1 : Int)
def rTE (B : Nat → Int) (r : Except Int (Nat × Nat)) : Except Int (Nat × Nat) := pz_b r (fun s => .ok (pz_te B s.1, s.2))
def rSK (B : Nat → Int) (r : Except Int (Nat × Nat)) : Except Int (Nat × Nat) := pz_b r (fun s => .ok (pz_sk B s.1, s.2))
def rNX (B : Nat → Int) (r : Except Int (Nat × Nat)) : Except Int (Nat × Nat) := pz_b r (fun s => .ok (pz_nx B s))
def rER (k : Int) (r : Except Int (Nat × Nat)) : Except Int (Nat × Nat) := pz_b r (fun s => .error (pz_er k s.1))
def rNU (B : Nat → Int) (lo hi : Int) (r : Except Int (Nat × Nat)) : Except Int (Nat × Nat) := pz_b r (fun s => pz_b (pz_num B lo hi s.1) (fun _ => .ok s))
def rEN (B : Nat → Int) (r : Except Int (Nat × Nat)) : Except Int (Nat × Nat) := pz_b r (fun s => pz_b (pz_end B s.1) (fun _ => .ok s))
theorem rNX_eq {B : Nat → Int} {r : Except Int (Nat × Nat)} : rSK B (rTE B r) = rNX B r := by cases r <;> rfl
theorem TpR.tb {f : Nat → Int32} {n : Int32} {r : Except Int (Nat × Nat)} {a b c d : Int32} (h : TpR f n r a b c d) : TpB (rTE (cB f n) r) b d := by
  cases r with
  | error e => exact ⟨h.1, h.2.1⟩
  | ok s => exact ⟨h.1, h.2.2.1⟩
theorem TpB.er {f : Nat → Int32} {n : Int32} {r : Except Int (Nat × Nat)} {g : Nat × Nat → Except Int (Nat × Nat)} {a b b' c d : Int32} (h : TpB r b d) (hd : ¬ d.toInt = 0) (hc : c.toInt = -1) : TpR f n (pz_b r g) a b' c d := by
  cases r with
  | error e => exact ⟨h.1, h.2, hc⟩
  | ok s => exact absurd h.1 hd
theorem TpR.er {f : Nat → Int32} {n : Int32} {r : Except Int (Nat × Nat)} {g : Nat × Nat → Except Int (Nat × Nat)} {a b c d a' b' : Int32} (h : TpR f n r a b c d) (hd : ¬ d.toInt = 0) : TpR f n (pz_b r g) a' b' c d := by
  cases r with
  | error e => exact h
  | ok s => exact absurd h.1 hd
theorem TpR.fault0 {f : Nat → Int32} {n : Int32} {r : Except Int (Nat × Nat)} {a b c d : Int32} (h : TpR f n r a b c d) (hd : d.toInt = 0) : ∃ s, r = .ok s ∧ a.toInt = (s.1 : Int) ∧ b.toInt = (pz_te (cB f n) s.1 : Int) ∧ c.toInt = cB f n s.1 ∧ s.1 = a.toInt.toNat := by
  cases r with
  | error e => exact absurd (h.1.symm.trans hd) h.2.1
  | ok s => exact ⟨s, rfl, h.2.1, h.2.2.1, h.2.2.2, by have := h.2.1; omega⟩
theorem TpB.at {f : Nat → Int32} {n : Int32} {r : Except Int (Nat × Nat)} {a b b0 c d : Int32} (h : TpB r b0 d) (hd : d.toInt = 0) (h0 : 0 ≤ b0.toInt) (h1 : Rn pz_isS f n b0 a) (h4 : a.toInt ≤ 400) (h2 : ¬ cB f n a.toInt.toNat = 32) (hb : b.toInt = (pz_te (cB f n) a.toInt.toNat : Int)) (hc : c.toInt = cB f n a.toInt.toNat) : TpR f n (rSK (cB f n) r) a b c d := by
  cases r with
  | error e => exact absurd (h.1.symm.trans hd) h.2
  | ok s =>
    have hs : s.1 = b0.toInt.toNat := by have := h.2; omega
    have e : pz_sk (cB f n) s.1 = a.toInt.toNat := by
      rw [hs]
      exact h1.run h0 h4 (fun z => h2 (of_decide_eq_true z))
    have hp := h1.1
    refine ⟨hd, ?_, ?_, ?_⟩
    · show a.toInt = (pz_sk (cB f n) s.1 : Int)
      rw [e]; omega
    · show b.toInt = (pz_te (cB f n) (pz_sk (cB f n) s.1) : Int)
      rw [e]; exact hb
    · show c.toInt = cB f n (pz_sk (cB f n) s.1)
      rw [e]; exact hc
theorem te_L {f : Nat → Int32} {n a b x : Int32} (h0 : 0 ≤ a.toInt) (hx : x.toInt = cB f n a.toInt.toNat) (hL : 97 ≤ x.toInt ∧ x.toInt ≤ 122) (h : Rn pz_isL f n a b) (h4 : b.toInt ≤ 400) (hn : ¬ (97 ≤ cB f n b.toInt.toNat ∧ cB f n b.toInt.toNat ≤ 122)) : b.toInt = (pz_te (cB f n) a.toInt.toNat : Int) := by
  have e : pz_te (cB f n) a.toInt.toNat = b.toInt.toNat := by
    unfold pz_te
    rw [if_pos (by rw [← hx]; exact decide_eq_true hL)]
    exact h.run h0 h4 (fun z => hn (of_decide_eq_true z))
  have := h.1
  rw [e]; omega
theorem te_D {f : Nat → Int32} {n a b x : Int32} (h0 : 0 ≤ a.toInt) (hx : x.toInt = cB f n a.toInt.toNat) (hL : 48 ≤ x.toInt ∧ x.toInt ≤ 57) (h : Rn pz_isD f n a b) (h4 : b.toInt ≤ 400) (hn : ¬ (48 ≤ cB f n b.toInt.toNat ∧ cB f n b.toInt.toNat ≤ 57)) : b.toInt = (pz_te (cB f n) a.toInt.toNat : Int) := by
  have e : pz_te (cB f n) a.toInt.toNat = b.toInt.toNat := by
    unfold pz_te
    rw [if_neg (by rw [← hx]; intro z; have := of_decide_eq_true z; omega), if_pos (by rw [← hx]; exact decide_eq_true hL)]
    exact h.run h0 h4 (fun z => hn (of_decide_eq_true z))
  have := h.1
  rw [e]; omega
theorem te_1 {f : Nat → Int32} {n a b x : Int32} (h0 : 0 ≤ a.toInt) (hx : x.toInt = cB f n a.toInt.toNat) (hL : ¬ (97 ≤ x.toInt ∧ x.toInt ≤ 122)) (hD : ¬ (48 ≤ x.toInt ∧ x.toInt ≤ 57)) (hE : ¬ x.toInt = -1) (h2 : ¬ ((x.toInt = 60 ∨ x.toInt = 62) ∧ cB f n (a.toInt.toNat + 1) = 61)) (hb : b.toInt = a.toInt + 1) : b.toInt = (pz_te (cB f n) a.toInt.toNat : Int) := by
  have e : pz_te (cB f n) a.toInt.toNat = a.toInt.toNat + 1 := by
    unfold pz_te
    rw [← hx, if_neg (show ¬ pz_isL x.toInt = true from fun z => hL (of_decide_eq_true z)), if_neg (show ¬ pz_isD x.toInt = true from fun z => hD (of_decide_eq_true z)), if_neg hE, if_neg h2]
  rw [e]; omega
theorem te_2 {f : Nat → Int32} {n a b x : Int32} (h0 : 0 ≤ a.toInt) (hx : x.toInt = cB f n a.toInt.toNat) (h2 : (x.toInt = 60 ∨ x.toInt = 62) ∧ cB f n (a.toInt.toNat + 1) = 61) (hb : b.toInt = a.toInt + 2) : b.toInt = (pz_te (cB f n) a.toInt.toNat : Int) := by
  have e : pz_te (cB f n) a.toInt.toNat = a.toInt.toNat + 2 := by
    unfold pz_te
    rw [← hx, if_neg (fun z => by have := of_decide_eq_true z; omega), if_neg (fun z => by have := of_decide_eq_true z; omega), if_neg (by omega), if_pos h2]
  rw [e]; omega
theorem te_0 {f : Nat → Int32} {n a x : Int32} (h0 : 0 ≤ a.toInt) (hx : x.toInt = cB f n a.toInt.toNat) (hE : x.toInt = -1) : a.toInt = (pz_te (cB f n) a.toInt.toNat : Int) := by
  have e : pz_te (cB f n) a.toInt.toNat = a.toInt.toNat := by
    unfold pz_te
    rw [← hx, hE, if_neg (by decide), if_neg (by decide), if_pos rfl]
  rw [e]; omega
theorem pz_run_le {P : Int → Bool} {f : Nat → Int32} {n : Int32} (hP : P (-1) = false) : ∀ (k p : Nat), (p : Int) ≤ n.toInt → (pz_run P (cB f n) k p : Int) ≤ n.toInt
  | 0, p, h => h
  | k + 1, p, h => by
    unfold pz_run
    by_cases z : P (cB f n p) = true
    · rw [if_pos z]
      have hp : (p : Int) < n.toInt := by
        refine Int.lt_of_not_ge (fun y => ?_)
        rw [cB_out y, hP] at z
        cases z
      exact pz_run_le hP k (p + 1) (by omega)
    · rw [if_neg z]; exact h
theorem pz_te_le {f : Nat → Int32} {n : Int32} {p : Nat} (h : (p : Int) ≤ n.toInt) : (pz_te (cB f n) p : Int) ≤ n.toInt := by
  have ne : ∀ k : Nat, cB f n k ≠ -1 → (k : Int) < n.toInt := fun k hk => Int.lt_of_not_ge (fun y => hk (cB_out y))
  unfold pz_te
  split
  · exact pz_run_le rfl _ _ h
  · split
    · exact pz_run_le rfl _ _ h
    · split
      · exact h
      · rename_i hE
        split
        · rename_i h2
          have := ne (p + 1) (by rw [h2.2]; decide)
          omega
        · have := ne p hE
          omega
theorem TpR.fail {f : Nat → Int32} {n : Int32} {r : Except Int (Nat × Nat)} {a b c d c' d' : Int32} {k : Int} (h : TpR f n r a b c d) (hd : d.toInt = 0) (hk : 0 ≤ k) (he : d'.toInt = 1 + 8 * a.toInt + k) (hc : c'.toInt = -1) : TpR f n (rER k r) a b c' d' := by
  obtain ⟨s, rfl, ha, -, -, -⟩ := h.fault0 hd
  refine ⟨?_, ?_, hc⟩
  · show d'.toInt = pz_er k s.1
    unfold pz_er; omega
  · show pz_er k s.1 ≠ 0
    unfold pz_er; omega
theorem TpR.end0 {f : Nat → Int32} {n : Int32} {r : Except Int (Nat × Nat)} {a b c d : Int32} (h : TpR f n r a b c d) (hd : d.toInt = 0) (ha : n.toInt ≤ a.toInt) : TpR f n (rEN (cB f n) r) a b c d := by
  obtain ⟨s, rfl, h1, h2, h3, h4⟩ := h.fault0 hd
  have : pz_end (cB f n) s.1 = .ok s.1 := if_pos (cB_out (by omega))
  show TpR f n (pz_b (pz_end (cB f n) s.1) (fun _ => .ok s)) a b c d
  rw [this]
  exact ⟨hd, h1, h2, h3⟩
theorem TpR.end1 {f : Nat → Int32} {n : Int32} {r : Except Int (Nat × Nat)} {a b c d a' b' c' d' : Int32} (hB : Byt f) (h : TpR f n r a b c d) (ha : d.toInt = 0 → a.toInt < n.toInt) (h' : TpR f n (rER 0 r) a' b' c' d') : TpR f n (rEN (cB f n) r) a' b' c' d' := by
  cases r with
  | error e => exact h'
  | ok s =>
    have h1 := ha h.1
    have h2 := h.2.1
    have : pz_end (cB f n) s.1 = .error (pz_er 0 s.1) := if_neg (by rw [cB_in (by omega)]; have := hB s.1; omega)
    show TpR f n (pz_b (pz_end (cB f n) s.1) (fun _ => .ok s)) a' b' c' d'
    rw [this]
    exact h'
theorem cB_yes {f : Nat → Int32} {n x1 x : Int32} (hB : Byt f) (ex : x = f x1.toNatClampNeg) (h : x1.toInt < n.toInt ∧ 0 ≤ x1.toInt) : x.toInt = cB f n x1.toInt.toNat ∧ ((n.toInt ≤ x1.toInt ∧ x.toInt = -1) ∨ (x1.toInt < n.toInt ∧ 0 ≤ x.toInt ∧ x.toInt ≤ 255)) := by
  have e : x.toInt = (f x1.toInt.toNat).toInt := congrArg Int32.toInt ex
  refine ⟨?_, Or.inr ⟨h.1, ?_⟩⟩
  · rw [cB_in (by omega)]; exact e
  · rw [e]; exact hB _
theorem cB_no {f : Nat → Int32} {n x1 : Int32} (h : n.toInt ≤ x1.toInt ∧ 0 ≤ x1.toInt) : (-1 : Int32).toInt = cB f n x1.toInt.toNat ∧ ((n.toInt ≤ x1.toInt ∧ (-1 : Int32).toInt = -1) ∨ (x1.toInt < n.toInt ∧ 0 ≤ (-1 : Int32).toInt ∧ (-1 : Int32).toInt ≤ 255)) := by
  refine ⟨?_, Or.inl ⟨h.1, by decide⟩⟩
  rw [cB_out (by omega)]; decide
def Sg (B : Nat → Int) (x : Int) (r : Except Int (Nat × Nat)) : Prop := ∃ s, r = .ok s ∧ B s.1 = x
def NSg (B : Nat → Int) (x : Int) (r : Except Int (Nat × Nat)) : Prop := ∀ s, r = .ok s → ¬ B s.1 = x
theorem TpR.sg {f : Nat → Int32} {n : Int32} {r : Except Int (Nat × Nat)} {a b c d : Int32} {x : Int} (h : TpR f n r a b c d) (hx : c.toInt = x) (h0 : 0 ≤ x) : Sg (cB f n) x r := by
  cases r with
  | error e => have := h.2.2; omega
  | ok s => exact ⟨s, rfl, h.2.2.2.symm.trans hx⟩
theorem TpR.nsg {f : Nat → Int32} {n : Int32} {r : Except Int (Nat × Nat)} {a b c d : Int32} {x : Int} (h : TpR f n r a b c d) (hx : ¬ c.toInt = x) : NSg (cB f n) x r := fun s hs z => by
  subst hs
  exact hx (h.2.2.2.trans z)
def stB (i k : Nat) : Int := ((bytS.getD i []).getD k 0).toInt
def sbS (i a b : Nat) : List Int := (List.range (b - a)).map (fun j => stB i (a + j))
def wS (i : Nat) : List Int := sbS i 0 (lenS.getD i 0)
theorem sbS_len {i a b : Nat} : (sbS i a b).length = b - a := by unfold sbS; rw [List.length_map, List.length_range]
theorem sbS_get {i a b j : Nat} (h : j < b - a) : (sbS i a b).getD j 0 = stB i (a + j) := by
  unfold sbS
  rw [List.getD_eq_getElem?_getD, List.getElem?_map, List.getElem?_range h]
  rfl
def TWd (B : Nat → Int) (w : List Int) (r : Except Int (Nat × Nat)) : Prop := ∃ s, r = .ok s ∧ pz_wd B s.1 w = true
def NWd (B : Nat → Int) (w : List Int) (r : Except Int (Nat × Nat)) : Prop := ∀ s, r = .ok s → ¬ pz_wd B s.1 w = true
theorem NWd.er {f : Nat → Int32} {n : Int32} {r : Except Int (Nat × Nat)} {a b c d : Int32} {w : List Int} (h : TpR f n r a b c d) (hd : ¬ d.toInt = 0) : NWd (cB f n) w r := fun s hs => by
  subst hs
  exact absurd h.1 hd
theorem NWd.len {f : Nat → Int32} {n : Int32} {r : Except Int (Nat × Nat)} {a b c d : Int32} {w : List Int} (h : TpR f n r a b c d) (hd : ¬ b.toInt - a.toInt = (w.length : Int)) : NWd (cB f n) w r := fun s hs z => by
  subst hs
  have h1 := (of_decide_eq_true z).1
  have h2 := h.2.1
  have h3 := h.2.2.1
  omega
theorem NWd.at {f : Nat → Int32} {n : Int32} {r : Except Int (Nat × Nat)} {a b c d : Int32} {w : List Int} (h : TpR f n r a b c d) (j : Nat) (hj : j < w.length) (hd : ¬ cB f n (a.toInt.toNat + j) = w.getD j 0) : NWd (cB f n) w r := fun s hs z => by
  subst hs
  have h1 := (of_decide_eq_true z).2 j hj
  have h2 : s.1 = a.toInt.toNat := by have := h.2.1; omega
  rw [h2] at h1
  exact hd h1
theorem pz_te_in {f : Nat → Int32} {n : Int32} {p j : Nat} (h : p + j < pz_te (cB f n) p) : ((p + j : Nat) : Int) < n.toInt := by
  by_cases z : (p : Int) < n.toInt
  · have := pz_te_le (f := f) (n := n) (p := p) (by omega)
    omega
  · have e : cB f n p = -1 := cB_out (by omega)
    have : pz_te (cB f n) p = p := by
      unfold pz_te
      rw [e, if_neg (by decide), if_neg (by decide), if_pos rfl]
    omega
def Mt (f : Nat → Int32) (i : Nat) (a x2 k : Int32) : Prop := ∀ j : Nat, x2.toInt ≤ (j : Int) → (j : Int) < k.toInt → (f (a.toInt.toNat + (j - x2.toInt.toNat))).toInt = stB i j
theorem Mt.nil {f : Nat → Int32} {i : Nat} {a x2 : Int32} : Mt f i a x2 x2 := fun j h1 h2 => by omega
theorem Mt.st {f : Nat → Int32} {i : Nat} {a x2 k k' x y r : Int32} (h : Mt f i a x2 k) (h2 : 0 ≤ x2.toInt ∧ x2.toInt ≤ k.toInt ∧ 0 ≤ a.toInt) (ey : y = f x.toNatClampNeg) (hx : x.toInt = a.toInt + k.toInt - x2.toInt) (hr : r.toInt = stB i k.toInt.toNat) (hyr : y.toInt = r.toInt) (hk : k'.toInt = k.toInt + 1) : Mt f i a x2 k' := fun j h1 hj => by
  by_cases z : (j : Int) < k.toInt
  · exact h j h1 z
  · have e1 : j = k.toInt.toNat := by omega
    have e2 : a.toInt.toNat + (j - x2.toInt.toNat) = x.toInt.toNat := by omega
    rw [e2, e1, ← hr, ← hyr, ey]
    rfl
theorem TWd.of {f : Nat → Int32} {n : Int32} {r : Except Int (Nat × Nat)} {a b c d x2 x3 : Int32} {i : Nat} (h : TpR f n r a b c d) (hd : d.toInt = 0) (hl : b.toInt - a.toInt = x3.toInt - x2.toInt) (h2 : 0 ≤ x2.toInt ∧ x2.toInt ≤ x3.toInt) (hm : Mt f i a x2 x3) : TWd (cB f n) (sbS i x2.toInt.toNat x3.toInt.toNat) r := by
  obtain ⟨s, rfl, h1, hb, h3, h4⟩ := h.fault0 hd
  refine ⟨s, rfl, decide_eq_true ⟨?_, fun j hj => ?_⟩⟩
  · rw [sbS_len]; omega
  · rw [sbS_len] at hj
    rw [sbS_get hj, ← hm (x2.toInt.toNat + j) (by omega) (by omega)]
    have hin := pz_te_in (f := f) (n := n) (p := s.1) (j := j) (by omega)
    rw [cB_in hin]
    rw [show a.toInt.toNat + (x2.toInt.toNat + j - x2.toInt.toNat) = s.1 + j by omega]
theorem NWd.ch {f : Nat → Int32} {n : Int32} {r : Except Int (Nat × Nat)} {a b c d x2 x3 k x y q : Int32} {i : Nat} (h : TpR f n r a b c d) (hd : d.toInt = 0) (hl : b.toInt - a.toInt = x3.toInt - x2.toInt) (h2 : 0 ≤ x2.toInt ∧ x2.toInt ≤ k.toInt ∧ k.toInt < x3.toInt) (ey : y = f x.toNatClampNeg) (hx : x.toInt = a.toInt + k.toInt - x2.toInt) (hr : q.toInt = stB i k.toInt.toNat) (hyr : ¬ y.toInt = q.toInt) : NWd (cB f n) (sbS i x2.toInt.toNat x3.toInt.toNat) r := by
  obtain ⟨s, rfl, h1, hb, h3, h4⟩ := h.fault0 hd
  refine NWd.at h (k.toInt.toNat - x2.toInt.toNat) (by rw [sbS_len]; omega) (fun z => hyr ?_)
  have hin := pz_te_in (f := f) (n := n) (p := s.1) (j := k.toInt.toNat - x2.toInt.toNat) (by omega)
  rw [sbS_get (by omega), ← h4, cB_in hin, show x2.toInt.toNat + (k.toInt.toNat - x2.toInt.toNat) = k.toInt.toNat by omega, ← hr] at z
  rw [← z, ey]
  rw [show s.1 + (k.toInt.toNat - x2.toInt.toNat) = x.toInt.toNat by omega]
  rfl
def wR (i : Nat) : Nat → Nat → Nat → List (List Int)
  | 0, _, _ => []
  | k + 1, at', from' => if stB i at' = 32 then sbS i from' at' :: wR i k (at' + 1) (at' + 1) else wR i k (at' + 1) from'
def waR (B : Nat → Int) (ws : List (List Int)) (k : Int) (r : Except Int (Nat × Nat)) : Int := match r with
  | .error _ => -1
  | .ok s => pz_wa B s.1 ws k
def wL (i : Nat) : List (List Int) := wR i (lenS.getD i 0) 0 0
def Wa (B : Nat → Int) (i : Nat) (r : Except Int (Nat × Nat)) (num frm k : Int32) : Prop := waR B (wL i) 0 r = waR B (wR i (lenS.getD i 0 - k.toInt.toNat) k.toInt.toNat frm.toInt.toNat) num.toInt r
theorem Wa.nil {B : Nat → Int} {i : Nat} {r : Except Int (Nat × Nat)} : Wa B i r 0 0 0 := rfl
theorem Wa.end {B : Nat → Int} {i : Nat} {r : Except Int (Nat × Nat)} {num frm k : Int32} (h : Wa B i r num frm k) (hk : ((lenS.getD i 0 : Nat) : Int) ≤ k.toInt) : waR B (wL i) 0 r = -1 := by
  unfold Wa at h
  rw [h, show lenS.getD i 0 - k.toInt.toNat = 0 by omega]
  cases r <;> rfl
theorem Wa.go {B : Nat → Int} {i : Nat} {r : Except Int (Nat × Nat)} {num frm k k' x : Int32} (h : Wa B i r num frm k) (hk : 0 ≤ k.toInt ∧ k.toInt < ((lenS.getD i 0 : Nat) : Int)) (hx : x.toInt = stB i k.toInt.toNat) (h32 : ¬ x.toInt = 32) (hk' : k'.toInt = k.toInt + 1) : Wa B i r num frm k' := by
  unfold Wa at h ⊢
  rw [h, show lenS.getD i 0 - k.toInt.toNat = (lenS.getD i 0 - k'.toInt.toNat) + 1 by omega]
  rw [show wR i (lenS.getD i 0 - k'.toInt.toNat + 1) k.toInt.toNat frm.toInt.toNat = wR i (lenS.getD i 0 - k'.toInt.toNat) (k.toInt.toNat + 1) frm.toInt.toNat from if_neg (by rw [← hx]; exact h32)]
  rw [show k.toInt.toNat + 1 = k'.toInt.toNat by omega]
theorem Wa.no {B : Nat → Int} {i : Nat} {r : Except Int (Nat × Nat)} {num num' frm frm' k k' x : Int32} (h : Wa B i r num frm k) (hk : 0 ≤ k.toInt ∧ k.toInt < ((lenS.getD i 0 : Nat) : Int)) (hx : x.toInt = stB i k.toInt.toNat) (h32 : x.toInt = 32) (hw : NWd B (sbS i frm.toInt.toNat k.toInt.toNat) r) (hk' : k'.toInt = k.toInt + 1) (hf' : frm'.toInt = k.toInt + 1) (hn' : num'.toInt = num.toInt + 1) : Wa B i r num' frm' k' := by
  unfold Wa at h ⊢
  rw [h, show lenS.getD i 0 - k.toInt.toNat = (lenS.getD i 0 - k'.toInt.toNat) + 1 by omega]
  rw [show wR i (lenS.getD i 0 - k'.toInt.toNat + 1) k.toInt.toNat frm.toInt.toNat = sbS i frm.toInt.toNat k.toInt.toNat :: wR i (lenS.getD i 0 - k'.toInt.toNat) (k.toInt.toNat + 1) (k.toInt.toNat + 1) from if_pos (by rw [← hx]; exact h32)]
  rw [show k.toInt.toNat + 1 = k'.toInt.toNat by omega, show frm'.toInt.toNat = k'.toInt.toNat by omega, hn']
  cases r with
  | error e => rfl
  | ok s => exact if_neg (hw s rfl)
theorem Wa.yes {B : Nat → Int} {i : Nat} {r : Except Int (Nat × Nat)} {num frm k x : Int32} (h : Wa B i r num frm k) (hk : 0 ≤ k.toInt ∧ k.toInt < ((lenS.getD i 0 : Nat) : Int)) (hx : x.toInt = stB i k.toInt.toNat) (h32 : x.toInt = 32) (hw : TWd B (sbS i frm.toInt.toNat k.toInt.toNat) r) : waR B (wL i) 0 r = num.toInt := by
  unfold Wa at h
  rw [h, show lenS.getD i 0 - k.toInt.toNat = (lenS.getD i 0 - k.toInt.toNat - 1) + 1 by omega]
  rw [show wR i (lenS.getD i 0 - k.toInt.toNat - 1 + 1) k.toInt.toNat frm.toInt.toNat = sbS i frm.toInt.toNat k.toInt.toNat :: wR i (lenS.getD i 0 - k.toInt.toNat - 1) (k.toInt.toNat + 1) (k.toInt.toNat + 1) from if_pos (by rw [← hx]; exact h32)]
  obtain ⟨s, rfl, hs⟩ := hw
  exact if_pos hs
theorem wL2 : wL 2 = pz_words := by decide +kernel
theorem wL0 : wL 0 = [pz_book, pz_sky, pz_buyer, pz_watch] := by decide +kernel
theorem wS1 : wS 1 = pz_buy := by decide +kernel
theorem wS3 : wS 3 = pz_if := by decide +kernel
theorem wS4 : wS 4 = pz_not := by decide +kernel
theorem wS5 : wS 5 = pz_and := by decide +kernel
theorem wS6 : wS 6 = pz_or := by decide +kernel
theorem pz_run_all {P : Int → Bool} {B : Nat → Int} : ∀ (k p i : Nat), p ≤ i → i < pz_run P B k p → P (B i) = true
  | 0, p, i, h1, h2 => by have : i < p := h2; omega
  | k + 1, p, i, h1, h2 => by
    unfold pz_run at h2
    by_cases z : P (B p) = true
    · rw [if_pos z] at h2
      by_cases y : i = p
      · rw [y]; exact z
      · exact pz_run_all k (p + 1) i (by omega) h2
    · rw [if_neg z] at h2; omega
theorem pz_te_dig {B : Nat → Int} {p i : Nat} (h : pz_isD (B p) = true) (h1 : p ≤ i) (h2 : i < pz_te B p) : 48 ≤ B i ∧ B i ≤ 57 := by
  unfold pz_te at h2
  have hD := of_decide_eq_true h
  rw [if_neg (fun z => by have := of_decide_eq_true z; omega), if_pos h] at h2
  exact of_decide_eq_true (pz_run_all 401 p i h1 h2)
def Nv (B : Nat → Int) (a v i : Int32) : Prop := v.toInt = pz_nv B a.toInt.toNat (i.toInt - a.toInt).toNat ∧ 0 ≤ v.toInt ∧ v.toInt + 1 ≤ 10 ^ (i.toInt - a.toInt).toNat
theorem Nv.nil {B : Nat → Int} {a : Int32} : Nv B a 0 a := by
  unfold Nv
  rw [show (a.toInt - a.toInt).toNat = 0 by omega]
  exact ⟨rfl, by decide, by decide⟩
theorem Nv.ar {B : Nat → Int} {a v i : Int32} (h : Nv B a v i) : 0 ≤ v.toInt ∧ (i.toInt - a.toInt ≤ 5 → v.toInt ≤ 99999) ∧ (i.toInt - a.toInt ≤ 4 → v.toInt ≤ 9999) := by
  refine ⟨h.2.1, fun z => ?_, fun z => ?_⟩
  · have h1 : (10 : Int) ^ (i.toInt - a.toInt).toNat ≤ 10 ^ 5 := by
      have := Nat.pow_le_pow_right (n := 10) (by decide) (show (i.toInt - a.toInt).toNat ≤ 5 by omega)
      exact_mod_cast this
    have := h.2.2
    omega
  · have h1 : (10 : Int) ^ (i.toInt - a.toInt).toNat ≤ 10 ^ 4 := by
      have := Nat.pow_le_pow_right (n := 10) (by decide) (show (i.toInt - a.toInt).toNat ≤ 4 by omega)
      exact_mod_cast this
    have := h.2.2
    omega
theorem Nv.st {B : Nat → Int} {a v v' i i' x : Int32} (h : Nv B a v i) (hi : 0 ≤ a.toInt ∧ a.toInt ≤ i.toInt) (hx : x.toInt = B i.toInt.toNat) (hd : 48 ≤ x.toInt ∧ x.toInt ≤ 57) (hv : v'.toInt = v.toInt * 10 + x.toInt - 48) (hi' : i'.toInt = i.toInt + 1) : Nv B a v' i' := by
  obtain ⟨h1, h2, h3⟩ := h
  unfold Nv
  rw [show (i'.toInt - a.toInt).toNat = (i.toInt - a.toInt).toNat + 1 by omega]
  have e : a.toInt.toNat + (i.toInt - a.toInt).toNat = i.toInt.toNat := by omega
  refine ⟨?_, by omega, ?_⟩
  · show v'.toInt = 10 * pz_nv B a.toInt.toNat (i.toInt - a.toInt).toNat + (B (a.toInt.toNat + (i.toInt - a.toInt).toNat) - 48)
    rw [e, ← hx, ← h1]; omega
  · rw [Int.pow_succ]; omega
def NuV (B : Nat → Int) (lo hi : Int) (r : Except Int (Nat × Nat)) (v : Int32) : Prop := ∀ s x, r = .ok s → pz_num B lo hi s.1 = .ok x → v.toInt = x
theorem TpR.lt {f : Nat → Int32} {n : Int32} {r : Except Int (Nat × Nat)} {a b c d : Int32} (h : TpR f n r a b c d) (hc : 0 ≤ c.toInt) : a.toInt < b.toInt := by
  cases r with
  | error e => have := h.2.2; omega
  | ok s =>
    have h1 := h.2.1
    have h2 := h.2.2.1
    have h3 := h.2.2.2
    have h4 := pz_te_gt (B := cB f n) (p := s.1) (by omega)
    omega
theorem TpR.sgc {f : Nat → Int32} {n : Int32} {r : Except Int (Nat × Nat)} {a b c d : Int32} {x : Int} (h : TpR f n r a b c d) (hx : Sg (cB f n) x r) : c.toInt = x := by
  obtain ⟨s, rfl, e⟩ := hx
  exact h.2.2.2.trans e
