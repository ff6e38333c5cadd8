/-- the char at a place of a String constant -/
def chS (i k : Nat) : Int32 := (bytS.getD i []).getD k 0 &&& 255
theorem lenS_all : ∀ i, i < 7 → lenS.getD i 0 ≤ 75 := by decide
theorem lenS_le {i : Nat} (h : i < 7) : lenS.getD i 0 ≤ 75 := lenS_all i h
theorem chS_n (i k : Nat) : narrow .char (.int (chS i k)) = .int (chS i k) := sc_nar _
theorem chS_gap : ∀ k, k < 20 → chS 0 k = 32 → ¬ chS 0 (k + 1) = 32 := by decide +kernel
theorem sub_ne {a b : Nat} (h : a < b) (hb : b < 2 ^ 31) : ¬ (0 : Int32) = nI b - nI a := by
  rw [pk_sub (Nat.le_of_lt h)]
  intro z
  exact nI_ne0 (n := b - a) (by omega) (by omega) z.symm
theorem vinS {i k : Nat} (hi : i < 7) (hk : k < lenS.getD i 0) : vp_in (nI k) (lenS.getD i 0) := vp_in_nI hk (by have := lenS_le hi; omega)
theorem dJ0_charAt_5068e_0 : decode cJ0_charAt_5068e 0 = .ok (.aload_n 0, 1) := by decide +kernel
theorem dJ0_charAt_5068e_1 : decode cJ0_charAt_5068e 1 = .ok (.invokevirtual 492, 3) := by decide +kernel
theorem dJ0_charAt_5068e_4 : decode cJ0_charAt_5068e 4 = .ok (.ifCond .eq 12, 3) := by decide +kernel
theorem dJ0_charAt_5068e_7 : decode cJ0_charAt_5068e 7 = .ok (.aload_n 0, 1) := by decide +kernel
theorem dJ0_charAt_5068e_8 : decode cJ0_charAt_5068e 8 = .ok (.getfield 9, 3) := by decide +kernel
theorem dJ0_charAt_5068e_11 : decode cJ0_charAt_5068e 11 = .ok (.iload_n 1, 1) := by decide +kernel
theorem dJ0_charAt_5068e_12 : decode cJ0_charAt_5068e 12 = .ok (.invokestatic 495, 3) := by decide +kernel
theorem dJ0_charAt_5068e_15 : decode cJ0_charAt_5068e 15 = .ok (.ireturn, 1) := by decide +kernel
theorem dJ0_checkIndex_df160_0 : decode cJ0_checkIndex_df160 0 = .ok (.iload_n 0, 1) := by decide +kernel
theorem dJ0_checkIndex_df160_1 : decode cJ0_checkIndex_df160 1 = .ok (.iload_n 1, 1) := by decide +kernel
theorem dJ0_checkIndex_df160_2 : decode cJ0_checkIndex_df160 2 = .ok (.getstatic 1053, 3) := by decide +kernel
theorem dJ0_checkIndex_df160_5 : decode cJ0_checkIndex_df160 5 = .ok (.invokestatic 1059, 3) := by decide +kernel
theorem dJ0_checkIndex_df160_8 : decode cJ0_checkIndex_df160 8 = .ok (.pop, 1) := by decide +kernel
theorem dJ0_checkIndex_df160_9 : decode cJ0_checkIndex_df160 9 = .ok (.return_, 1) := by decide +kernel
theorem dJ0_coder_7d493_0 : decode cJ0_coder_7d493 0 = .ok (.getstatic 38, 3) := by decide +kernel
theorem dJ0_coder_7d493_3 : decode cJ0_coder_7d493 3 = .ok (.ifCond .eq 10, 3) := by decide +kernel
theorem dJ0_coder_7d493_6 : decode cJ0_coder_7d493 6 = .ok (.aload_n 0, 1) := by decide +kernel
theorem dJ0_coder_7d493_7 : decode cJ0_coder_7d493 7 = .ok (.getfield 15, 3) := by decide +kernel
theorem dJ0_coder_7d493_10 : decode cJ0_coder_7d493 10 = .ok (.goto 4, 3) := by decide +kernel
theorem dJ0_coder_7d493_14 : decode cJ0_coder_7d493 14 = .ok (.ireturn, 1) := by decide +kernel
theorem dJ0_isLatin1_aae02_0 : decode cJ0_isLatin1_aae02 0 = .ok (.getstatic 38, 3) := by decide +kernel
theorem dJ0_isLatin1_aae02_3 : decode cJ0_isLatin1_aae02 3 = .ok (.ifCond .eq 14, 3) := by decide +kernel
theorem dJ0_isLatin1_aae02_6 : decode cJ0_isLatin1_aae02 6 = .ok (.aload_n 0, 1) := by decide +kernel
theorem dJ0_isLatin1_aae02_7 : decode cJ0_isLatin1_aae02 7 = .ok (.getfield 15, 3) := by decide +kernel
theorem dJ0_isLatin1_aae02_10 : decode cJ0_isLatin1_aae02 10 = .ok (.ifCond .ne 7, 3) := by decide +kernel
theorem dJ0_isLatin1_aae02_13 : decode cJ0_isLatin1_aae02 13 = .ok (.iconst 1, 1) := by decide +kernel
theorem dJ0_isLatin1_aae02_14 : decode cJ0_isLatin1_aae02 14 = .ok (.goto 4, 3) := by decide +kernel
theorem dJ0_isLatin1_aae02_18 : decode cJ0_isLatin1_aae02 18 = .ok (.ireturn, 1) := by decide +kernel
theorem dJ0_length_8abf5_0 : decode cJ0_length_8abf5 0 = .ok (.aload_n 0, 1) := by decide +kernel
theorem dJ0_length_8abf5_1 : decode cJ0_length_8abf5 1 = .ok (.getfield 9, 3) := by decide +kernel
theorem dJ0_length_8abf5_4 : decode cJ0_length_8abf5 4 = .ok (.arraylength, 1) := by decide +kernel
theorem dJ0_length_8abf5_5 : decode cJ0_length_8abf5 5 = .ok (.aload_n 0, 1) := by decide +kernel
theorem dJ0_length_8abf5_6 : decode cJ0_length_8abf5 6 = .ok (.invokevirtual 335, 3) := by decide +kernel
theorem dJ0_length_8abf5_9 : decode cJ0_length_8abf5 9 = .ok (.ishr, 1) := by decide +kernel
theorem dJ0_length_8abf5_10 : decode cJ0_length_8abf5 10 = .ok (.ireturn, 1) := by decide +kernel
theorem dJ1_charAt_3b067_0 : decode cJ1_charAt_3b067 0 = .ok (.iload_n 1, 1) := by decide +kernel
theorem dJ1_charAt_3b067_1 : decode cJ1_charAt_3b067 1 = .ok (.aload_n 0, 1) := by decide +kernel
theorem dJ1_charAt_3b067_2 : decode cJ1_charAt_3b067 2 = .ok (.arraylength, 1) := by decide +kernel
theorem dJ1_charAt_3b067_3 : decode cJ1_charAt_3b067 3 = .ok (.invokestatic 9, 3) := by decide +kernel
theorem dJ1_charAt_3b067_6 : decode cJ1_charAt_3b067 6 = .ok (.aload_n 0, 1) := by decide +kernel
theorem dJ1_charAt_3b067_7 : decode cJ1_charAt_3b067 7 = .ok (.iload_n 1, 1) := by decide +kernel
theorem dJ1_charAt_3b067_8 : decode cJ1_charAt_3b067 8 = .ok (.baload, 1) := by decide +kernel
theorem dJ1_charAt_3b067_9 : decode cJ1_charAt_3b067 9 = .ok (.sipush 255, 3) := by decide +kernel
theorem dJ1_charAt_3b067_12 : decode cJ1_charAt_3b067 12 = .ok (.iand, 1) := by decide +kernel
theorem dJ1_charAt_3b067_13 : decode cJ1_charAt_3b067 13 = .ok (.i2c, 1) := by decide +kernel
theorem dJ1_charAt_3b067_14 : decode cJ1_charAt_3b067 14 = .ok (.ireturn, 1) := by decide +kernel
theorem dJ3_checkIndex_8e157_0 : decode cJ3_checkIndex_8e157 0 = .ok (.iload_n 0, 1) := by decide +kernel
theorem dJ3_checkIndex_8e157_1 : decode cJ3_checkIndex_8e157 1 = .ok (.ifCond .lt 8, 3) := by decide +kernel
theorem dJ3_checkIndex_8e157_4 : decode cJ3_checkIndex_8e157 4 = .ok (.iload_n 0, 1) := by decide +kernel
theorem dJ3_checkIndex_8e157_5 : decode cJ3_checkIndex_8e157 5 = .ok (.iload_n 1, 1) := by decide +kernel
theorem dJ3_checkIndex_8e157_6 : decode cJ3_checkIndex_8e157 6 = .ok (.if_icmp .lt 10, 3) := by decide +kernel
theorem dJ3_checkIndex_8e157_16 : decode cJ3_checkIndex_8e157 16 = .ok (.iload_n 0, 1) := by decide +kernel
theorem dJ3_checkIndex_8e157_17 : decode cJ3_checkIndex_8e157 17 = .ok (.ireturn, 1) := by decide +kernel
theorem dX10_begin_0 : decode cX10_begin 0 = .ok (.aload_n 0, 1) := by decide +kernel
theorem dX10_begin_1 : decode cX10_begin 1 = .ok (.iconst 0, 1) := by decide +kernel
theorem dX10_begin_2 : decode cX10_begin 2 = .ok (.putfield 28, 3) := by decide +kernel
theorem dX10_begin_5 : decode cX10_begin 5 = .ok (.aload_n 0, 1) := by decide +kernel
theorem dX10_begin_6 : decode cX10_begin 6 = .ok (.iconst 0, 1) := by decide +kernel
theorem dX10_begin_7 : decode cX10_begin 7 = .ok (.putfield 22, 3) := by decide +kernel
theorem dX10_begin_10 : decode cX10_begin 10 = .ok (.aload_n 0, 1) := by decide +kernel
theorem dX10_begin_11 : decode cX10_begin 11 = .ok (.invokevirtual 31, 3) := by decide +kernel
theorem dX10_begin_14 : decode cX10_begin 14 = .ok (.return_, 1) := by decide +kernel
theorem dX10_byteAt_0 : decode cX10_byteAt 0 = .ok (.iload_n 1, 1) := by decide +kernel
theorem dX10_byteAt_1 : decode cX10_byteAt 1 = .ok (.ifCond .lt 29, 3) := by decide +kernel
theorem dX10_byteAt_4 : decode cX10_byteAt 4 = .ok (.iload_n 1, 1) := by decide +kernel
theorem dX10_byteAt_5 : decode cX10_byteAt 5 = .ok (.aload_n 0, 1) := by decide +kernel
theorem dX10_byteAt_6 : decode cX10_byteAt 6 = .ok (.getfield 15, 3) := by decide +kernel
theorem dX10_byteAt_9 : decode cX10_byteAt 9 = .ok (.if_icmp .ge 21, 3) := by decide +kernel
theorem dX10_byteAt_30 : decode cX10_byteAt 30 = .ok (.iconst (-1), 1) := by decide +kernel
theorem dX10_byteAt_31 : decode cX10_byteAt 31 = .ok (.ireturn, 1) := by decide +kernel
theorem dX10_fail_0 : decode cX10_fail 0 = .ok (.aload_n 0, 1) := by decide +kernel
theorem dX10_fail_1 : decode cX10_fail 1 = .ok (.getfield 28, 3) := by decide +kernel
theorem dX10_fail_4 : decode cX10_fail 4 = .ok (.ifCond .ne 23, 3) := by decide +kernel
theorem dX10_fail_7 : decode cX10_fail 7 = .ok (.aload_n 0, 1) := by decide +kernel
theorem dX10_fail_8 : decode cX10_fail 8 = .ok (.iconst 1, 1) := by decide +kernel
theorem dX10_fail_9 : decode cX10_fail 9 = .ok (.bipush 8, 2) := by decide +kernel
theorem dX10_fail_11 : decode cX10_fail 11 = .ok (.aload_n 0, 1) := by decide +kernel
theorem dX10_fail_12 : decode cX10_fail 12 = .ok (.getfield 19, 3) := by decide +kernel
theorem dX10_fail_15 : decode cX10_fail 15 = .ok (.imul, 1) := by decide +kernel
theorem dX10_fail_16 : decode cX10_fail 16 = .ok (.iadd, 1) := by decide +kernel
theorem dX10_fail_17 : decode cX10_fail 17 = .ok (.iload_n 1, 1) := by decide +kernel
theorem dX10_fail_18 : decode cX10_fail 18 = .ok (.iadd, 1) := by decide +kernel
theorem dX10_fail_19 : decode cX10_fail 19 = .ok (.putfield 28, 3) := by decide +kernel
theorem dX10_fail_22 : decode cX10_fail 22 = .ok (.aload_n 0, 1) := by decide +kernel
theorem dX10_fail_23 : decode cX10_fail 23 = .ok (.iconst (-1), 1) := by decide +kernel
theorem dX10_fail_24 : decode cX10_fail 24 = .ok (.putfield 25, 3) := by decide +kernel
theorem dX10_fail_27 : decode cX10_fail 27 = .ok (.return_, 1) := by decide +kernel
theorem dX10_finish_0 : decode cX10_finish 0 = .ok (.aload_n 0, 1) := by decide +kernel
theorem dX10_finish_1 : decode cX10_finish 1 = .ok (.getfield 19, 3) := by decide +kernel
theorem dX10_finish_4 : decode cX10_finish 4 = .ok (.aload_n 0, 1) := by decide +kernel
theorem dX10_finish_5 : decode cX10_finish 5 = .ok (.getfield 15, 3) := by decide +kernel
theorem dX10_finish_8 : decode cX10_finish 8 = .ok (.if_icmp .ge 8, 3) := by decide +kernel
theorem dX10_finish_16 : decode cX10_finish 16 = .ok (.return_, 1) := by decide +kernel
theorem dX10_isDigit_0 : decode cX10_isDigit 0 = .ok (.iload_n 0, 1) := by decide +kernel
theorem dX10_isDigit_1 : decode cX10_isDigit 1 = .ok (.bipush 48, 2) := by decide +kernel
theorem dX10_isDigit_3 : decode cX10_isDigit 3 = .ok (.if_icmp .lt 13, 3) := by decide +kernel
theorem dX10_isDigit_16 : decode cX10_isDigit 16 = .ok (.iconst 0, 1) := by decide +kernel
theorem dX10_isDigit_17 : decode cX10_isDigit 17 = .ok (.ireturn, 1) := by decide +kernel
theorem dX10_isLetter_0 : decode cX10_isLetter 0 = .ok (.iload_n 0, 1) := by decide +kernel
theorem dX10_isLetter_1 : decode cX10_isLetter 1 = .ok (.bipush 97, 2) := by decide +kernel
theorem dX10_isLetter_3 : decode cX10_isLetter 3 = .ok (.if_icmp .lt 13, 3) := by decide +kernel
theorem dX10_isLetter_16 : decode cX10_isLetter 16 = .ok (.iconst 0, 1) := by decide +kernel
theorem dX10_isLetter_17 : decode cX10_isLetter 17 = .ok (.ireturn, 1) := by decide +kernel
theorem dX10_isPartOf_0 : decode cX10_isPartOf 0 = .ok (.aload_n 0, 1) := by decide +kernel
theorem dX10_isPartOf_1 : decode cX10_isPartOf 1 = .ok (.getfield 28, 3) := by decide +kernel
theorem dX10_isPartOf_4 : decode cX10_isPartOf 4 = .ok (.ifCond .ne 30, 3) := by decide +kernel
theorem dX10_isPartOf_7 : decode cX10_isPartOf 7 = .ok (.aload_n 0, 1) := by decide +kernel
theorem dX10_isPartOf_8 : decode cX10_isPartOf 8 = .ok (.getfield 22, 3) := by decide +kernel
theorem dX10_isPartOf_11 : decode cX10_isPartOf 11 = .ok (.aload_n 0, 1) := by decide +kernel
theorem dX10_isPartOf_12 : decode cX10_isPartOf 12 = .ok (.getfield 19, 3) := by decide +kernel
theorem dX10_isPartOf_15 : decode cX10_isPartOf 15 = .ok (.isub, 1) := by decide +kernel
theorem dX10_isPartOf_16 : decode cX10_isPartOf 16 = .ok (.iload_n 3, 1) := by decide +kernel
theorem dX10_isPartOf_17 : decode cX10_isPartOf 17 = .ok (.iload_n 2, 1) := by decide +kernel
theorem dX10_isPartOf_18 : decode cX10_isPartOf 18 = .ok (.isub, 1) := by decide +kernel
theorem dX10_isPartOf_19 : decode cX10_isPartOf 19 = .ok (.if_icmp .ne 15, 3) := by decide +kernel
theorem dX10_isPartOf_34 : decode cX10_isPartOf 34 = .ok (.iconst 0, 1) := by decide +kernel
theorem dX10_isPartOf_35 : decode cX10_isPartOf 35 = .ok (.ireturn, 1) := by decide +kernel
theorem dX10_isWord_0 : decode cX10_isWord 0 = .ok (.aload_n 0, 1) := by decide +kernel
theorem dX10_isWord_1 : decode cX10_isWord 1 = .ok (.aload_n 1, 1) := by decide +kernel
theorem dX10_isWord_2 : decode cX10_isWord 2 = .ok (.iconst 0, 1) := by decide +kernel
theorem dX10_isWord_3 : decode cX10_isWord 3 = .ok (.aload_n 1, 1) := by decide +kernel
theorem dX10_isWord_4 : decode cX10_isWord 4 = .ok (.invokevirtual 45, 3) := by decide +kernel
theorem dX10_isWord_7 : decode cX10_isWord 7 = .ok (.invokevirtual 50, 3) := by decide +kernel
theorem dX10_isWord_10 : decode cX10_isWord 10 = .ok (.ireturn, 1) := by decide +kernel
theorem dX10_step_0 : decode cX10_step 0 = .ok (.aload_n 0, 1) := by decide +kernel
theorem dX10_step_1 : decode cX10_step 1 = .ok (.aload_n 0, 1) := by decide +kernel
theorem dX10_step_2 : decode cX10_step 2 = .ok (.getfield 22, 3) := by decide +kernel
theorem dX10_step_5 : decode cX10_step 5 = .ok (.putfield 19, 3) := by decide +kernel
theorem dX10_step_8 : decode cX10_step 8 = .ok (.aload_n 0, 1) := by decide +kernel
theorem dX10_step_9 : decode cX10_step 9 = .ok (.getfield 19, 3) := by decide +kernel
theorem dX10_step_12 : decode cX10_step 12 = .ok (.aload_n 0, 1) := by decide +kernel
theorem dX10_step_13 : decode cX10_step 13 = .ok (.getfield 15, 3) := by decide +kernel
theorem dX10_step_16 : decode cX10_step 16 = .ok (.if_icmp .ge 29, 3) := by decide +kernel
theorem dX10_step_45 : decode cX10_step 45 = .ok (.aload_n 0, 1) := by decide +kernel
theorem dX10_step_46 : decode cX10_step 46 = .ok (.aload_n 0, 1) := by decide +kernel
theorem dX10_step_47 : decode cX10_step 47 = .ok (.getfield 19, 3) := by decide +kernel
theorem dX10_step_50 : decode cX10_step 50 = .ok (.putfield 22, 3) := by decide +kernel
theorem dX10_step_53 : decode cX10_step 53 = .ok (.aload_n 0, 1) := by decide +kernel
theorem dX10_step_54 : decode cX10_step 54 = .ok (.aload_n 0, 1) := by decide +kernel
theorem dX10_step_55 : decode cX10_step 55 = .ok (.getfield 28, 3) := by decide +kernel
theorem dX10_step_58 : decode cX10_step 58 = .ok (.ifCond .ne 14, 3) := by decide +kernel
theorem dX10_step_61 : decode cX10_step 61 = .ok (.aload_n 0, 1) := by decide +kernel
theorem dX10_step_62 : decode cX10_step 62 = .ok (.aload_n 0, 1) := by decide +kernel
theorem dX10_step_63 : decode cX10_step 63 = .ok (.getfield 19, 3) := by decide +kernel
theorem dX10_step_66 : decode cX10_step 66 = .ok (.invokevirtual 34, 3) := by decide +kernel
theorem dX10_step_69 : decode cX10_step 69 = .ok (.goto 4, 3) := by decide +kernel
theorem dX10_step_72 : decode cX10_step 72 = .ok (.iconst (-1), 1) := by decide +kernel
theorem dX10_step_73 : decode cX10_step 73 = .ok (.putfield 25, 3) := by decide +kernel
theorem dX10_step_76 : decode cX10_step 76 = .ok (.aload_n 0, 1) := by decide +kernel
theorem dX10_step_77 : decode cX10_step 77 = .ok (.getfield 25, 3) := by decide +kernel
theorem dX10_step_80 : decode cX10_step 80 = .ok (.invokestatic 38, 3) := by decide +kernel
theorem dX10_step_83 : decode cX10_step 83 = .ok (.ifCond .eq 41, 3) := by decide +kernel
theorem dX10_step_124 : decode cX10_step 124 = .ok (.aload_n 0, 1) := by decide +kernel
theorem dX10_step_125 : decode cX10_step 125 = .ok (.getfield 25, 3) := by decide +kernel
theorem dX10_step_128 : decode cX10_step 128 = .ok (.invokestatic 42, 3) := by decide +kernel
theorem dX10_step_131 : decode cX10_step 131 = .ok (.ifCond .eq 41, 3) := by decide +kernel
theorem dX10_step_172 : decode cX10_step 172 = .ok (.aload_n 0, 1) := by decide +kernel
theorem dX10_step_173 : decode cX10_step 173 = .ok (.getfield 25, 3) := by decide +kernel
theorem dX10_step_176 : decode cX10_step 176 = .ok (.iconst (-1), 1) := by decide +kernel
theorem dX10_step_177 : decode cX10_step 177 = .ok (.if_icmp .eq 65, 3) := by decide +kernel
theorem dX10_step_242 : decode cX10_step 242 = .ok (.return_, 1) := by decide +kernel
theorem dX10_takes_0 : decode cX10_takes 0 = .ok (.aload_n 0, 1) := by decide +kernel
theorem dX10_takes_1 : decode cX10_takes 1 = .ok (.getfield 25, 3) := by decide +kernel
theorem dX10_takes_4 : decode cX10_takes 4 = .ok (.iload_n 1, 1) := by decide +kernel
theorem dX10_takes_5 : decode cX10_takes 5 = .ok (.if_icmp .eq 5, 3) := by decide +kernel
theorem dX10_takes_8 : decode cX10_takes 8 = .ok (.iconst 0, 1) := by decide +kernel
theorem dX10_takes_9 : decode cX10_takes 9 = .ok (.ireturn, 1) := by decide +kernel
theorem dX10_takesWord_0 : decode cX10_takesWord 0 = .ok (.aload_n 0, 1) := by decide +kernel
theorem dX10_takesWord_1 : decode cX10_takesWord 1 = .ok (.aload_n 1, 1) := by decide +kernel
theorem dX10_takesWord_2 : decode cX10_takesWord 2 = .ok (.invokevirtual 54, 3) := by decide +kernel
theorem dX10_takesWord_5 : decode cX10_takesWord 5 = .ok (.ifCond .ne 5, 3) := by decide +kernel
theorem dX10_takesWord_8 : decode cX10_takesWord 8 = .ok (.iconst 0, 1) := by decide +kernel
theorem dX10_takesWord_9 : decode cX10_takesWord 9 = .ok (.ireturn, 1) := by decide +kernel
theorem dX10_wordAmong_0 : decode cX10_wordAmong 0 = .ok (.iconst 0, 1) := by decide +kernel
theorem dX10_wordAmong_1 : decode cX10_wordAmong 1 = .ok (.istore_n 2, 1) := by decide +kernel
theorem dX10_wordAmong_2 : decode cX10_wordAmong 2 = .ok (.iconst 0, 1) := by decide +kernel
theorem dX10_wordAmong_3 : decode cX10_wordAmong 3 = .ok (.istore_n 3, 1) := by decide +kernel
theorem dX10_wordAmong_4 : decode cX10_wordAmong 4 = .ok (.iconst 0, 1) := by decide +kernel
theorem dX10_wordAmong_5 : decode cX10_wordAmong 5 = .ok (.istore 4, 2) := by decide +kernel
theorem dX10_wordAmong_7 : decode cX10_wordAmong 7 = .ok (.iload 4, 2) := by decide +kernel
theorem dX10_wordAmong_9 : decode cX10_wordAmong 9 = .ok (.aload_n 1, 1) := by decide +kernel
theorem dX10_wordAmong_10 : decode cX10_wordAmong 10 = .ok (.invokevirtual 45, 3) := by decide +kernel
theorem dX10_wordAmong_13 : decode cX10_wordAmong 13 = .ok (.if_icmp .ge 41, 3) := by decide +kernel
theorem dX10_wordAmong_16 : decode cX10_wordAmong 16 = .ok (.aload_n 1, 1) := by decide +kernel
theorem dX10_wordAmong_17 : decode cX10_wordAmong 17 = .ok (.iload 4, 2) := by decide +kernel
theorem dX10_wordAmong_19 : decode cX10_wordAmong 19 = .ok (.invokevirtual 58, 3) := by decide +kernel
theorem dX10_wordAmong_22 : decode cX10_wordAmong 22 = .ok (.bipush 32, 2) := by decide +kernel
theorem dX10_wordAmong_24 : decode cX10_wordAmong 24 = .ok (.if_icmp .ne 24, 3) := by decide +kernel
theorem dX10_wordAmong_27 : decode cX10_wordAmong 27 = .ok (.aload_n 0, 1) := by decide +kernel
theorem dX10_wordAmong_28 : decode cX10_wordAmong 28 = .ok (.aload_n 1, 1) := by decide +kernel
theorem dX10_wordAmong_29 : decode cX10_wordAmong 29 = .ok (.iload_n 3, 1) := by decide +kernel
theorem dX10_wordAmong_30 : decode cX10_wordAmong 30 = .ok (.iload 4, 2) := by decide +kernel
theorem dX10_wordAmong_32 : decode cX10_wordAmong 32 = .ok (.invokevirtual 50, 3) := by decide +kernel
theorem dX10_wordAmong_35 : decode cX10_wordAmong 35 = .ok (.ifCond .eq 5, 3) := by decide +kernel
theorem dX10_wordAmong_40 : decode cX10_wordAmong 40 = .ok (.iinc 2 1, 3) := by decide +kernel
theorem dX10_wordAmong_43 : decode cX10_wordAmong 43 = .ok (.iload 4, 2) := by decide +kernel
theorem dX10_wordAmong_45 : decode cX10_wordAmong 45 = .ok (.iconst 1, 1) := by decide +kernel
theorem dX10_wordAmong_46 : decode cX10_wordAmong 46 = .ok (.iadd, 1) := by decide +kernel
theorem dX10_wordAmong_47 : decode cX10_wordAmong 47 = .ok (.istore_n 3, 1) := by decide +kernel
theorem dX10_wordAmong_48 : decode cX10_wordAmong 48 = .ok (.iinc 4 1, 3) := by decide +kernel
theorem dX10_wordAmong_51 : decode cX10_wordAmong 51 = .ok (.goto (-44), 3) := by decide +kernel
theorem dX10_wordAmong_54 : decode cX10_wordAmong 54 = .ok (.iconst (-1), 1) := by decide +kernel
theorem dX10_wordAmong_55 : decode cX10_wordAmong 55 = .ok (.ireturn, 1) := by decide +kernel
set_option maxHeartbeats 4000000 in
set_option maxRecDepth 100000 in
theorem ct_J0_coder (l : Launch) (D : va_G) (tc : Nat → ClassId) (sk : (Nat → Nat) × (Nat → Nat)) (i : Nat) (hi : i < 7) : Ct l yJ0_coder_7d493 cJ0_coder_7d493 1 (some .byte) { frames := 0, cells := 0, slots := 0, locals := 0 } D tc sk [.ref (sk.1 i)] [] (fun (v : Option Value) (_ : Unit) => v = some (.int 0)) (fun (_ : Unit) => []) 0 0 := by
  refine Ct.start (by decide) (Nat.le_of_ble_eq_true rfl) (fun p e s m below meth c A ls hx hb hr hlk hin hml hown hts hK hX hP hD hA hl hS => ?_)
  have hl : lv_has ls 1 [(0, .ref (sk.1 i))] := hl
  refine va_gets hx hb hX.2.1 hS hown (hts _ k_510) (fun _ h9 => h9) dJ0_coder_7d493_0 ?_
  refine lv_if_eq (tgt := 13) hx hb dJ0_coder_7d493_3 (by decide) (fun c_1 => absurd c_1 (by decide)) (fun c_1 => ?_)
  refine lv_aload_n hx hb dJ0_coder_7d493_6 rfl (lv_at hl 0 rfl) ?_
  refine vk_getf hx hb (hX.1.1 i hi).2.1 hS hown (hts _ k_1657) (fun _ h9 => h9) dJ0_coder_7d493_7 ?_
  refine lv_goto (tgt := 14) hx hb dJ0_coder_7d493_10 (by decide) ?_
  exact retI (v := 0) hx hb hr hlk (rfl) hP hD hS () rfl [] rfl rfl dJ0_coder_7d493_14 (Nat.le_of_ble_eq_true rfl) (Nat.le_of_ble_eq_true rfl) rfl
set_option maxHeartbeats 4000000 in
set_option maxRecDepth 100000 in
theorem ct_J0_isLatin1 (l : Launch) (D : va_G) (tc : Nat → ClassId) (sk : (Nat → Nat) × (Nat → Nat)) (i : Nat) (hi : i < 7) : Ct l yJ0_isLatin1_aae02 cJ0_isLatin1_aae02 1 (some .boolean) { frames := 0, cells := 0, slots := 0, locals := 0 } D tc sk [.ref (sk.1 i)] [] (fun (v : Option Value) (_ : Unit) => v = some (.int 1)) (fun (_ : Unit) => []) 0 0 := by
  refine Ct.start (by decide) (Nat.le_of_ble_eq_true rfl) (fun p e s m below meth c A ls hx hb hr hlk hin hml hown hts hK hX hP hD hA hl hS => ?_)
  have hl : lv_has ls 1 [(0, .ref (sk.1 i))] := hl
  refine va_gets hx hb hX.2.1 hS hown (hts _ k_510) (fun _ h9 => h9) dJ0_isLatin1_aae02_0 ?_
  refine lv_if_eq (tgt := 17) hx hb dJ0_isLatin1_aae02_3 (by decide) (fun c_1 => absurd c_1 (by decide)) (fun c_1 => ?_)
  refine lv_aload_n hx hb dJ0_isLatin1_aae02_6 rfl (lv_at hl 0 rfl) ?_
  refine vk_getf hx hb (hX.1.1 i hi).2.1 hS hown (hts _ k_1657) (fun _ h9 => h9) dJ0_isLatin1_aae02_7 ?_
  refine lv_if_ne (tgt := 17) hx hb dJ0_isLatin1_aae02_10 (by decide) (fun c_2 => absurd c_2 (by decide)) (fun c_2 => ?_)
  refine lv_iconst (v := 1) hx hb dJ0_isLatin1_aae02_13 (by decide) ?_
  refine lv_goto (tgt := 18) hx hb dJ0_isLatin1_aae02_14 (by decide) ?_
  exact retI (v := 1) hx hb hr hlk (rfl) hP hD hS () rfl [] rfl rfl dJ0_isLatin1_aae02_18 (Nat.le_of_ble_eq_true rfl) (Nat.le_of_ble_eq_true rfl) rfl
set_option maxHeartbeats 4000000 in
set_option maxRecDepth 100000 in
theorem ct_J0_length (l : Launch) (D : va_G) (tc : Nat → ClassId) (sk : (Nat → Nat) × (Nat → Nat)) (i : Nat) (hi : i < 7) : Ct l yJ0_length_8abf5 cJ0_length_8abf5 1 (some .int) { frames := 1, cells := 0, slots := 0, locals := 20 } D tc sk [.ref (sk.1 i)] [] (fun (v : Option Value) (_ : Unit) => v = some (.int (nI (lenS.getD i 0)))) (fun (_ : Unit) => []) 0 0 := by
  refine Ct.start (by decide) (Nat.le_of_ble_eq_true rfl) (fun p e s m below meth c A ls hx hb hr hlk hin hml hown hts hK hX hP hD hA hl hS => ?_)
  have hl : lv_has ls 1 [(0, .ref (sk.1 i))] := hl
  refine lv_aload_n hx hb dJ0_length_8abf5_0 rfl (lv_at hl 0 rfl) ?_
  refine vk_getf hx hb (hX.1.1 i hi).2.2.1 hS hown (hts _ k_1656) (fun _ h9 => h9) dJ0_length_8abf5_1 ?_
  refine va_tlen hx hb (hX.1.1 i hi).2.2.2 hS (v := nI (lenS.getD i 0)) rfl dJ0_length_8abf5_4 ?_
  refine lv_aload_n hx hb dJ0_length_8abf5_5 rfl (lv_at hl 0 rfl) ?_
  refine cV (a := (sk.1 i)) (As := []) (rest := [.int (nI (lenS.getD i 0))]) (wr := []) ⟨hx, hb, hml, hown, hts⟩ hK hX hA (ct_J0_coder l D tc sk i hi) k_509 k_506 k_507 k_508 k_107 pl_J0_coder_7d493 ⟨Nat.le_of_ble_eq_true rfl, Nat.le_of_ble_eq_true rfl⟩ rfl rfl (vk_recv hX.1 hi hS) hP hD hS [] [] rfl rfl rfl rfl rfl (by decide) rfl hl.1 rfl (Nat.le_of_ble_eq_true rfl) dJ0_length_8abf5_6 ⟨Nat.le_of_ble_eq_true rfl, Nat.le_of_ble_eq_true rfl⟩ (fun v_1 u_2 H locs hv_3 hP hD hS => ?_)
  obtain rfl : v_1 = some (.int 0) := hv_3
  refine W.eq (g2 := F0 m 9 ls [.int 0, .int (nI (lenS.getD i 0))]) rfl ?_
  have hP : va_P D classes [] H := hP
  have hD : va_D A [] := hD
  refine lv_ishr hx hb dJ0_length_8abf5_9 ?_
  refine lv_topi (fun x_4 ex_4 => ?_)
  have hp_5 : x_4 = nI (lenS.getD i 0) := ex_4.trans (sc_shr0 (by have := lenS_le hi; omega))
  exact retI (v := x_4) hx hb hr hlk (rfl) hP hD hS () (by rw [hp_5]) [] rfl rfl dJ0_length_8abf5_10 (Nat.le_of_ble_eq_true rfl) (Nat.le_of_ble_eq_true rfl) rfl
set_option maxHeartbeats 4000000 in
set_option maxRecDepth 100000 in
theorem ct_J3_checkIndex_n (l : Launch) (D : va_G) (tc : Nat → ClassId) (sk : (Nat → Nat) × (Nat → Nat)) (k : Nat) (n : Nat) (hkn : k < n) (hn : n < 2 ^ 31) : Ct l yJ3_checkIndex_8e157 cJ3_checkIndex_8e157 3 (some .int) { frames := 0, cells := 0, slots := 0, locals := 0 } D tc sk [.int (nI k), .int (nI n), .null] [] (fun (v : Option Value) (_ : Unit) => v = some (.int (nI k))) (fun (_ : Unit) => []) 0 0 := by
  refine Ct.start (by decide) (Nat.le_of_ble_eq_true rfl) (fun p e s m below meth c A ls hx hb hr hlk hin hml hown hts hK hX hP hD hA hl hS => ?_)
  have hl : lv_has ls 3 [(0, .int (nI k)), (1, .int (nI n)), (2, .null)] := hl
  refine lv_iload_n hx hb dJ3_checkIndex_8e157_0 rfl (lv_at hl 0 rfl) ?_
  refine lv_if_lt (tgt := 9) hx hb dJ3_checkIndex_8e157_1 (by decide) (fun c_1 => ?_) (fun c_1 => ?_)
  · skip
    exfalso
    have z_1 := Int32.lt_iff_toInt_lt.mp c_1
    have y_0 : (0 : Int32).toInt = 0 := by decide
    have n_0 : (nI k).toInt = ((k : Nat) : Int) := nI_toInt (by omega)
    omega
  · skip
    refine lv_iload_n hx hb dJ3_checkIndex_8e157_4 rfl (lv_at hl 0 rfl) ?_
    refine lv_iload_n hx hb dJ3_checkIndex_8e157_5 rfl (lv_at hl 1 rfl) ?_
    refine lv_icmp_lt (tgt := 16) hx hb dJ3_checkIndex_8e157_6 (by decide) (fun c_2 => ?_) (fun c_2 => ?_)
    · skip
      refine lv_iload_n hx hb dJ3_checkIndex_8e157_16 rfl (lv_at hl 0 rfl) ?_
      exact retI (v := (nI k)) hx hb hr hlk (rfl) hP hD hS () rfl [] rfl rfl dJ3_checkIndex_8e157_17 (Nat.le_of_ble_eq_true rfl) (Nat.le_of_ble_eq_true rfl) rfl
    · skip
      exfalso
      have z_1 := Int32.le_iff_toInt_le.mp (Int32.not_lt.mp c_1)
      have z_2 := Int32.le_iff_toInt_le.mp (Int32.not_lt.mp c_2)
      have y_0 : (0 : Int32).toInt = 0 := by decide
      have n_0 : (nI k).toInt = ((k : Nat) : Int) := nI_toInt (by omega)
      have n_1 : (nI n).toInt = ((n : Nat) : Int) := nI_toInt (by omega)
      omega
set_option maxHeartbeats 4000000 in
set_option maxRecDepth 100000 in
theorem ct_J3_checkIndex_r (l : Launch) (D : va_G) (tc : Nat → ClassId) (sk : (Nat → Nat) × (Nat → Nat)) (k : Nat) (n : Nat) (tz : Nat) (hkn : k < n) (hn : n < 2 ^ 31) : Ct l yJ3_checkIndex_8e157 cJ3_checkIndex_8e157 3 (some .int) { frames := 0, cells := 0, slots := 0, locals := 0 } D tc sk [.int (nI k), .int (nI n), .ref tz] [] (fun (v : Option Value) (_ : Unit) => v = some (.int (nI k))) (fun (_ : Unit) => []) 0 0 := by
  refine Ct.start (by decide) (Nat.le_of_ble_eq_true rfl) (fun p e s m below meth c A ls hx hb hr hlk hin hml hown hts hK hX hP hD hA hl hS => ?_)
  have hl : lv_has ls 3 [(0, .int (nI k)), (1, .int (nI n)), (2, .ref tz)] := hl
  refine lv_iload_n hx hb dJ3_checkIndex_8e157_0 rfl (lv_at hl 0 rfl) ?_
  refine lv_if_lt (tgt := 9) hx hb dJ3_checkIndex_8e157_1 (by decide) (fun c_1 => ?_) (fun c_1 => ?_)
  · skip
    exfalso
    have z_1 := Int32.lt_iff_toInt_lt.mp c_1
    have y_0 : (0 : Int32).toInt = 0 := by decide
    have n_0 : (nI k).toInt = ((k : Nat) : Int) := nI_toInt (by omega)
    omega
  · skip
    refine lv_iload_n hx hb dJ3_checkIndex_8e157_4 rfl (lv_at hl 0 rfl) ?_
    refine lv_iload_n hx hb dJ3_checkIndex_8e157_5 rfl (lv_at hl 1 rfl) ?_
    refine lv_icmp_lt (tgt := 16) hx hb dJ3_checkIndex_8e157_6 (by decide) (fun c_2 => ?_) (fun c_2 => ?_)
    · skip
      refine lv_iload_n hx hb dJ3_checkIndex_8e157_16 rfl (lv_at hl 0 rfl) ?_
      exact retI (v := (nI k)) hx hb hr hlk (rfl) hP hD hS () rfl [] rfl rfl dJ3_checkIndex_8e157_17 (Nat.le_of_ble_eq_true rfl) (Nat.le_of_ble_eq_true rfl) rfl
    · skip
      exfalso
      have z_1 := Int32.le_iff_toInt_le.mp (Int32.not_lt.mp c_1)
      have z_2 := Int32.le_iff_toInt_le.mp (Int32.not_lt.mp c_2)
      have y_0 : (0 : Int32).toInt = 0 := by decide
      have n_0 : (nI k).toInt = ((k : Nat) : Int) := nI_toInt (by omega)
      have n_1 : (nI n).toInt = ((n : Nat) : Int) := nI_toInt (by omega)
      omega
set_option maxHeartbeats 4000000 in
set_option maxRecDepth 100000 in
theorem ct_J0_checkIndex (l : Launch) (D : va_G) (tc : Nat → ClassId) (sk : (Nat → Nat) × (Nat → Nat)) (k : Nat) (n : Nat) (hkn : k < n) (hn : n < 2 ^ 31) : Ct l yJ0_checkIndex_df160 cJ0_checkIndex_df160 2 none { frames := 1, cells := 0, slots := 0, locals := 22 } D tc sk [.int (nI k), .int (nI n)] [] (fun (v : Option Value) (_ : Unit) => v = none) (fun (_ : Unit) => []) 0 0 := by
  refine Ct.start (by decide) (Nat.le_of_ble_eq_true rfl) (fun p e s m below meth c A ls hx hb hr hlk hin hml hown hts hK hX hP hD hA hl hS => ?_)
  have hl : lv_has ls 2 [(0, .int (nI k)), (1, .int (nI n))] := hl
  refine lv_iload_n hx hb dJ0_checkIndex_df160_0 rfl (lv_at hl 0 rfl) ?_
  refine lv_iload_n hx hb dJ0_checkIndex_df160_1 rfl (lv_at hl 1 rfl) ?_
  rcases hX.2.2.1 with hz_1 | ⟨tz_2, hz_1⟩
  · skip
    refine va_gets hx hb hz_1 hS hown (hts _ k_526) (fun _ h9 => h9) dJ0_checkIndex_df160_2 ?_
    refine cS (As := [.int (nI k), .int (nI n), .null]) (rest := []) (wr := []) ⟨hx, hb, hml, hown, hts⟩ hK hX hA (ct_J3_checkIndex_n l D tc sk k n hkn hn) k_530 k_528 k_529 k_109 pl_J3_checkIndex_8e157 ⟨Nat.le_of_ble_eq_true rfl, Nat.le_of_ble_eq_true rfl⟩ rfl rfl  hP hD hS [] [] rfl rfl rfl rfl rfl (by decide) rfl hl.1 rfl (Nat.le_of_ble_eq_true rfl) dJ0_checkIndex_df160_5 ⟨Nat.le_of_ble_eq_true rfl, Nat.le_of_ble_eq_true rfl⟩ (fun v_3 u_4 H locs hv_5 hP hD hS => ?_)
    obtain rfl : v_3 = some (.int (nI k)) := hv_5
    refine W.eq (g2 := F0 m 8 ls [.int (nI k)]) rfl ?_
    have hP : va_P D classes [] H := hP
    have hD : va_D A [] := hD
    refine lv_pop hx hb dJ0_checkIndex_df160_8 rfl ?_
    exact retV hx hb hr hlk hP hD hS () rfl [] rfl rfl dJ0_checkIndex_df160_9 (Nat.le_of_ble_eq_true rfl) (Nat.le_of_ble_eq_true rfl) rfl
  · skip
    refine va_gets hx hb hz_1 hS hown (hts _ k_526) (fun _ h9 => h9) dJ0_checkIndex_df160_2 ?_
    refine cS (As := [.int (nI k), .int (nI n), .ref tz_2]) (rest := []) (wr := []) ⟨hx, hb, hml, hown, hts⟩ hK hX hA (ct_J3_checkIndex_r l D tc sk k n tz_2 hkn hn) k_530 k_528 k_529 k_109 pl_J3_checkIndex_8e157 ⟨Nat.le_of_ble_eq_true rfl, Nat.le_of_ble_eq_true rfl⟩ rfl rfl  hP hD hS [] [] rfl rfl rfl rfl rfl (by decide) rfl hl.1 rfl (Nat.le_of_ble_eq_true rfl) dJ0_checkIndex_df160_5 ⟨Nat.le_of_ble_eq_true rfl, Nat.le_of_ble_eq_true rfl⟩ (fun v_6 u_7 H locs hv_8 hP hD hS => ?_)
    obtain rfl : v_6 = some (.int (nI k)) := hv_8
    refine W.eq (g2 := F0 m 8 ls [.int (nI k)]) rfl ?_
    have hP : va_P D classes [] H := hP
    have hD : va_D A [] := hD
    refine lv_pop hx hb dJ0_checkIndex_df160_8 rfl ?_
    exact retV hx hb hr hlk hP hD hS () rfl [] rfl rfl dJ0_checkIndex_df160_9 (Nat.le_of_ble_eq_true rfl) (Nat.le_of_ble_eq_true rfl) rfl
set_option maxHeartbeats 4000000 in
set_option maxRecDepth 100000 in
theorem ct_J1_charAt (l : Launch) (D : va_G) (tc : Nat → ClassId) (sk : (Nat → Nat) × (Nat → Nat)) (i : Nat) (k : Nat) (hi : i < 7) (hk : k < lenS.getD i 0) : Ct l yJ1_charAt_3b067 cJ1_charAt_3b067 2 (some .char) { frames := 2, cells := 0, slots := 0, locals := 43 } D tc sk [.ref (sk.2 i), .int (nI k)] [] (fun (v : Option Value) (_ : Unit) => v = some (.int (chS i k))) (fun (_ : Unit) => []) 0 0 := by
  refine Ct.start (by decide) (Nat.le_of_ble_eq_true rfl) (fun p e s m below meth c A ls hx hb hr hlk hin hml hown hts hK hX hP hD hA hl hS => ?_)
  have hl : lv_has ls 2 [(0, .ref (sk.2 i)), (1, .int (nI k))] := hl
  refine lv_iload_n hx hb dJ1_charAt_3b067_0 rfl (lv_at hl 1 rfl) ?_
  refine lv_aload_n hx hb dJ1_charAt_3b067_1 rfl (lv_at hl 0 rfl) ?_
  refine va_tlen hx hb (hX.1.1 i hi).2.2.2 hS (v := nI (lenS.getD i 0)) rfl dJ1_charAt_3b067_2 ?_
  refine cS (As := [.int (nI k), .int (nI (lenS.getD i 0))]) (rest := []) (wr := []) ⟨hx, hb, hml, hown, hts⟩ hK hX hA (ct_J0_checkIndex l D tc sk k (lenS.getD i 0) hk (by have := lenS_le hi; omega)) k_525 k_523 k_524 k_107 pl_J0_checkIndex_df160 ⟨Nat.le_of_ble_eq_true rfl, Nat.le_of_ble_eq_true rfl⟩ rfl rfl  hP hD hS [] [] rfl rfl rfl rfl rfl (by decide) rfl hl.1 rfl (Nat.le_of_ble_eq_true rfl) dJ1_charAt_3b067_3 ⟨Nat.le_of_ble_eq_true rfl, Nat.le_of_ble_eq_true rfl⟩ (fun v_1 u_2 H locs hv_3 hP hD hS => ?_)
  obtain rfl : v_1 = none := hv_3
  refine W.eq (g2 := F0 m 6 ls []) rfl ?_
  have hP : va_P D classes [] H := hP
  have hD : va_D A [] := hD
  refine lv_aload_n hx hb dJ1_charAt_3b067_6 rfl (lv_at hl 0 rfl) ?_
  refine lv_iload_n hx hb dJ1_charAt_3b067_7 rfl (lv_at hl 1 rfl) ?_
  have hl76 := lenS_le hi
  refine va_tb hx hb (hX.1.1 i hi).2.2.2 hS (vinS hi hk) (v := .int ((bytS.getD i []).getD k 0)) (by rw [nI_clamp (by omega)]) dJ1_charAt_3b067_8 ?_
  refine lv_sipush (v := 255) hx hb dJ1_charAt_3b067_9 (by decide) ?_
  refine lv_iand hx hb dJ1_charAt_3b067_12 ?_
  refine lv_topi (fun x_4 ex_4 => ?_)
  obtain ⟨x_5, ex_5⟩ : ∃ y : Int32, y = ((x_4 : Int32).toUInt32 % 65536).toInt32 := ⟨_, rfl⟩
  refine lv_i2c (v := x_5) hx hb dJ1_charAt_3b067_13 ex_5.symm ?_
  have hq_6 : x_5 = chS i k := by rw [ex_5, ex_4]; exact sc_c2 _
  have hp_7 : x_5 = chS i k := by rw [ex_5, ex_4]; exact sc_c2 _
  exact retI (v := x_5) hx hb hr hlk (by rw [hq_6]; exact chS_n i k) hP hD hS () (by rw [hp_7]) [] rfl rfl dJ1_charAt_3b067_14 (Nat.le_of_ble_eq_true rfl) (Nat.le_of_ble_eq_true rfl) rfl
set_option maxHeartbeats 4000000 in
set_option maxRecDepth 100000 in
theorem ct_J0_charAt (l : Launch) (D : va_G) (tc : Nat → ClassId) (sk : (Nat → Nat) × (Nat → Nat)) (i : Nat) (k : Nat) (hi : i < 7) (hk : k < lenS.getD i 0) : Ct l yJ0_charAt_5068e cJ0_charAt_5068e 2 (some .char) { frames := 3, cells := 0, slots := 0, locals := 64 } D tc sk [.ref (sk.1 i), .int (nI k)] [] (fun (v : Option Value) (_ : Unit) => v = some (.int (chS i k))) (fun (_ : Unit) => []) 0 0 := by
  refine Ct.start (by decide) (Nat.le_of_ble_eq_true rfl) (fun p e s m below meth c A ls hx hb hr hlk hin hml hown hts hK hX hP hD hA hl hS => ?_)
  have hl : lv_has ls 2 [(0, .ref (sk.1 i)), (1, .int (nI k))] := hl
  refine lv_aload_n hx hb dJ0_charAt_5068e_0 rfl (lv_at hl 0 rfl) ?_
  refine cV (a := (sk.1 i)) (As := []) (rest := []) (wr := []) ⟨hx, hb, hml, hown, hts⟩ hK hX hA (ct_J0_isLatin1 l D tc sk i hi) k_519 k_516 k_517 k_518 k_107 pl_J0_isLatin1_aae02 ⟨Nat.le_of_ble_eq_true rfl, Nat.le_of_ble_eq_true rfl⟩ rfl rfl (vk_recv hX.1 hi hS) hP hD hS [] [] rfl rfl rfl rfl rfl (by decide) rfl hl.1 rfl (Nat.le_of_ble_eq_true rfl) dJ0_charAt_5068e_1 ⟨Nat.le_of_ble_eq_true rfl, Nat.le_of_ble_eq_true rfl⟩ (fun v_1 u_2 H locs hv_3 hP hD hS => ?_)
  obtain rfl : v_1 = some (.int 1) := hv_3
  refine W.eq (g2 := F0 m 4 ls [.int 1]) rfl ?_
  have hP : va_P D classes [] H := hP
  have hD : va_D A [] := hD
  refine lv_if_eq (tgt := 16) hx hb dJ0_charAt_5068e_4 (by decide) (fun c_4 => absurd c_4 (by decide)) (fun c_4 => ?_)
  refine lv_aload_n hx hb dJ0_charAt_5068e_7 rfl (lv_at hl 0 rfl) ?_
  refine vk_getf hx hb (hX.1.1 i hi).2.2.1 hS hown (hts _ k_1656) (fun _ h9 => h9) dJ0_charAt_5068e_8 ?_
  refine lv_iload_n hx hb dJ0_charAt_5068e_11 rfl (lv_at hl 1 rfl) ?_
  refine cS (As := [.ref (sk.2 i), .int (nI k)]) (rest := []) (wr := []) ⟨hx, hb, hml, hown, hts⟩ hK hX hA (ct_J1_charAt l D tc sk i k hi hk) k_522 k_520 k_521 k_108 pl_J1_charAt_3b067 ⟨Nat.le_of_ble_eq_true rfl, Nat.le_of_ble_eq_true rfl⟩ rfl rfl  hP hD hS [] [] rfl rfl rfl rfl rfl (by decide) rfl hl.1 rfl (Nat.le_of_ble_eq_true rfl) dJ0_charAt_5068e_12 ⟨Nat.le_of_ble_eq_true rfl, Nat.le_of_ble_eq_true rfl⟩ (fun v_5 u_6 H locs hv_7 hP hD hS => ?_)
  obtain rfl : v_5 = some (.int (chS i k)) := hv_7
  refine W.eq (g2 := F0 m 15 ls [.int (chS i k)]) rfl ?_
  have hP : va_P D classes [] H := hP
  have hD : va_D A [] := hD
  exact retI (v := (chS i k)) hx hb hr hlk (chS_n i k) hP hD hS () rfl [] rfl rfl dJ0_charAt_5068e_15 (Nat.le_of_ble_eq_true rfl) (Nat.le_of_ble_eq_true rfl) rfl
set_option maxHeartbeats 4000000 in
set_option maxRecDepth 100000 in
theorem ct_X10_isLetter (l : Launch) (D : va_G) (tc : Nat → ClassId) (sk : (Nat → Nat) × (Nat → Nat))   : Ct l yX10_isLetter cX10_isLetter 1 (some .boolean) { frames := 0, cells := 0, slots := 0, locals := 0 } D tc sk [.int (-1)] [] (fun (v : Option Value) (_ : Unit) => v = some (.int 0)) (fun (_ : Unit) => []) 0 0 := by
  refine Ct.start (by decide) (Nat.le_of_ble_eq_true rfl) (fun p e s m below meth c A ls hx hb hr hlk hin hml hown hts hK hX hP hD hA hl hS => ?_)
  have hl : lv_has ls 1 [(0, .int (-1))] := hl
  refine lv_iload_n hx hb dX10_isLetter_0 rfl (lv_at hl 0 rfl) ?_
  refine lv_bipush (v := 97) hx hb dX10_isLetter_1 (by decide) ?_
  refine lv_icmp_lt (tgt := 16) hx hb dX10_isLetter_3 (by decide) (fun c_1 => ?_) (fun c_1 => absurd c_1 (by decide))
  refine lv_iconst (v := 0) hx hb dX10_isLetter_16 (by decide) ?_
  exact retI (v := 0) hx hb hr hlk (rfl) hP hD hS () rfl [] rfl rfl dX10_isLetter_17 (Nat.le_of_ble_eq_true rfl) (Nat.le_of_ble_eq_true rfl) rfl
set_option maxHeartbeats 4000000 in
set_option maxRecDepth 100000 in
theorem ct_X10_isDigit (l : Launch) (D : va_G) (tc : Nat → ClassId) (sk : (Nat → Nat) × (Nat → Nat))   : Ct l yX10_isDigit cX10_isDigit 1 (some .boolean) { frames := 0, cells := 0, slots := 0, locals := 0 } D tc sk [.int (-1)] [] (fun (v : Option Value) (_ : Unit) => v = some (.int 0)) (fun (_ : Unit) => []) 0 0 := by
  refine Ct.start (by decide) (Nat.le_of_ble_eq_true rfl) (fun p e s m below meth c A ls hx hb hr hlk hin hml hown hts hK hX hP hD hA hl hS => ?_)
  have hl : lv_has ls 1 [(0, .int (-1))] := hl
  refine lv_iload_n hx hb dX10_isDigit_0 rfl (lv_at hl 0 rfl) ?_
  refine lv_bipush (v := 48) hx hb dX10_isDigit_1 (by decide) ?_
  refine lv_icmp_lt (tgt := 16) hx hb dX10_isDigit_3 (by decide) (fun c_1 => ?_) (fun c_1 => absurd c_1 (by decide))
  refine lv_iconst (v := 0) hx hb dX10_isDigit_16 (by decide) ?_
  exact retI (v := 0) hx hb hr hlk (rfl) hP hD hS () rfl [] rfl rfl dX10_isDigit_17 (Nat.le_of_ble_eq_true rfl) (Nat.le_of_ble_eq_true rfl) rfl
set_option maxHeartbeats 4000000 in
set_option maxRecDepth 100000 in
theorem ct_X10_byteAt (l : Launch) (D : va_G) (tc : Nat → ClassId) (sk : (Nat → Nat) × (Nat → Nat)) (ta : Nat) (t1 : Nat) (f1 : Int32)  : Ct l yX10_byteAt cX10_byteAt 2 (some .int) { frames := 0, cells := 0, slots := 0, locals := 0 } D tc sk [.ref ta, .int 0] [(ta, .inr (10, [.ref t1, .int 0, .int 0, .int 0, .int f1, .int 0]))] (fun (v : Option Value) (_ : Unit) => v = some (.int (-1))) (fun (_ : Unit) => [(ta, .inr (10, [.ref t1, .int 0, .int 0, .int 0, .int f1, .int 0]))]) 0 0 := by
  refine Ct.start (by decide) (Nat.le_of_ble_eq_true rfl) (fun p e s m below meth c A ls hx hb hr hlk hin hml hown hts hK hX hP hD hA hl hS => ?_)
  have hl : lv_has ls 2 [(0, .ref ta), (1, .int 0)] := hl
  refine lv_iload_n hx hb dX10_byteAt_0 rfl (lv_at hl 1 rfl) ?_
  refine lv_if_lt (tgt := 30) hx hb dX10_byteAt_1 (by decide) (fun c_1 => absurd c_1 (by decide)) (fun c_1 => ?_)
  refine lv_iload_n hx hb dX10_byteAt_4 rfl (lv_at hl 1 rfl) ?_
  refine lv_aload_n hx hb dX10_byteAt_5 rfl (lv_at hl 0 rfl) ?_
  refine gf_X10_15 hx hb hts hown hK hP 0 rfl rfl dX10_byteAt_6 ?_
  refine lv_icmp_ge (tgt := 30) hx hb dX10_byteAt_9 (by decide) (fun c_2 => ?_) (fun c_2 => absurd c_2 (by decide))
  refine lv_iconst (v := (-1)) hx hb dX10_byteAt_30 (by decide) ?_
  exact retI (v := (-1)) hx hb hr hlk (rfl) hP hD hS () rfl [0] rfl rfl dX10_byteAt_31 (Nat.le_of_ble_eq_true rfl) (Nat.le_of_ble_eq_true rfl) rfl
set_option maxHeartbeats 4000000 in
set_option maxRecDepth 100000 in
theorem ct_X10_step_0 (l : Launch) (D : va_G) (tc : Nat → ClassId) (sk : (Nat → Nat) × (Nat → Nat)) (ta : Nat) (t1 : Nat) (f1 : Int32) (q1 : Int32)  : Ct l yX10_step cX10_step 2 none { frames := 1, cells := 0, slots := 0, locals := 21 } D tc sk [.ref ta] [(ta, .inr (10, [.ref t1, .int 0, .int q1, .int 0, .int f1, .int 0]))] (fun (v : Option Value) (_ : Unit) => v = none) (fun (_ : Unit) => [(ta, .inr (10, [.ref t1, .int 0, .int 0, .int 0, .int (-1), .int 0]))]) 0 0 := by
  refine Ct.start (by decide) (Nat.le_of_ble_eq_true rfl) (fun p e s m below meth c A ls hx hb hr hlk hin hml hown hts hK hX hP hD hA hl hS => ?_)
  have hl : lv_has ls 2 [(0, .ref ta)] := hl
  refine lv_aload_n hx hb dX10_step_0 rfl (lv_at hl 0 rfl) ?_
  refine lv_aload_n hx hb dX10_step_1 rfl (lv_at hl 0 rfl) ?_
  refine gf_X10_22 hx hb hts hown hK hP 0 rfl rfl dX10_step_2 ?_
  refine pf_X10_19 hx hb hts hown hK hP hD hS 0 rfl (Nat.le_of_ble_eq_true rfl) rfl rfl dX10_step_5 (fun H locs hP hD hS => ?_)
  have hP : va_P D classes [(ta, .inr (10, [.ref t1, .int 0, .int 0, .int 0, .int f1, .int 0]))] H := hP
  have hD : va_D A [(ta, .inr (10, [.ref t1, .int 0, .int 0, .int 0, .int f1, .int 0]))] := hD
  refine lv_aload_n hx hb dX10_step_8 rfl (lv_at hl 0 rfl) ?_
  refine gf_X10_19 hx hb hts hown hK hP 0 rfl rfl dX10_step_9 ?_
  refine lv_aload_n hx hb dX10_step_12 rfl (lv_at hl 0 rfl) ?_
  refine gf_X10_15 hx hb hts hown hK hP 0 rfl rfl dX10_step_13 ?_
  refine lv_icmp_ge (tgt := 45) hx hb dX10_step_16 (by decide) (fun c_1 => ?_) (fun c_1 => absurd c_1 (by decide))
  refine lv_aload_n hx hb dX10_step_45 rfl (lv_at hl 0 rfl) ?_
  refine lv_aload_n hx hb dX10_step_46 rfl (lv_at hl 0 rfl) ?_
  refine gf_X10_19 hx hb hts hown hK hP 0 rfl rfl dX10_step_47 ?_
  refine pf_X10_22 hx hb hts hown hK hP hD hS 0 rfl (Nat.le_of_ble_eq_true rfl) rfl rfl dX10_step_50 (fun H locs hP hD hS => ?_)
  have hP : va_P D classes [(ta, .inr (10, [.ref t1, .int 0, .int 0, .int 0, .int f1, .int 0]))] H := hP
  have hD : va_D A [(ta, .inr (10, [.ref t1, .int 0, .int 0, .int 0, .int f1, .int 0]))] := hD
  refine lv_aload_n hx hb dX10_step_53 rfl (lv_at hl 0 rfl) ?_
  refine lv_aload_n hx hb dX10_step_54 rfl (lv_at hl 0 rfl) ?_
  refine gf_X10_28 hx hb hts hown hK hP 0 rfl rfl dX10_step_55 ?_
  refine lv_if_ne (tgt := 72) hx hb dX10_step_58 (by decide) (fun c_2 => absurd c_2 (by decide)) (fun c_2 => ?_)
  refine lv_aload_n hx hb dX10_step_61 rfl (lv_at hl 0 rfl) ?_
  refine lv_aload_n hx hb dX10_step_62 rfl (lv_at hl 0 rfl) ?_
  refine gf_X10_19 hx hb hts hown hK hP 0 rfl rfl dX10_step_63 ?_
  refine cV (a := ta) (As := [.int 0]) (rest := [.ref ta]) (wr := []) ⟨hx, hb, hml, hown, hts⟩ hK hX hA (ct_X10_byteAt l D tc sk ta t1 f1) k_482 k_479 k_481 k_0 k_96 pl_X10_byteAt ⟨Nat.le_of_ble_eq_true rfl, Nat.le_of_ble_eq_true rfl⟩ rfl rfl (va_recv hK hP (ci := 10) (q0 := 0) rfl rfl) hP hD hS [0] [] rfl rfl rfl rfl rfl (by decide) rfl hl.1 rfl (Nat.le_of_ble_eq_true rfl) dX10_step_66 ⟨Nat.le_of_ble_eq_true rfl, Nat.le_of_ble_eq_true rfl⟩ (fun v_3 u_4 H locs hv_5 hP hD hS => ?_)
  obtain rfl : v_3 = some (.int (-1)) := hv_5
  refine W.eq (g2 := F0 m 69 ls [.int (-1), .ref ta]) rfl ?_
  have hP : va_P D classes [(ta, .inr (10, [.ref t1, .int 0, .int 0, .int 0, .int f1, .int 0]))] H := hP
  have hD : va_D A [(ta, .inr (10, [.ref t1, .int 0, .int 0, .int 0, .int f1, .int 0]))] := hD
  refine lv_goto (tgt := 73) hx hb dX10_step_69 (by decide) ?_
  refine pf_X10_25 hx hb hts hown hK hP hD hS 0 rfl (Nat.le_of_ble_eq_true rfl) rfl rfl dX10_step_73 (fun H locs hP hD hS => ?_)
  have hP : va_P D classes [(ta, .inr (10, [.ref t1, .int 0, .int 0, .int 0, .int (-1), .int 0]))] H := hP
  have hD : va_D A [(ta, .inr (10, [.ref t1, .int 0, .int 0, .int 0, .int (-1), .int 0]))] := hD
  refine lv_aload_n hx hb dX10_step_76 rfl (lv_at hl 0 rfl) ?_
  refine gf_X10_25 hx hb hts hown hK hP 0 rfl rfl dX10_step_77 ?_
  refine cS (As := [.int (-1)]) (rest := []) (wr := [(ta, .inr (10, [.ref t1, .int 0, .int 0, .int 0, .int (-1), .int 0]))]) ⟨hx, hb, hml, hown, hts⟩ hK hX hA (ct_X10_isLetter l D tc sk ) k_485 k_483 k_484 k_96 pl_X10_isLetter ⟨Nat.le_of_ble_eq_true rfl, Nat.le_of_ble_eq_true rfl⟩ rfl rfl  hP hD hS [] [0] rfl rfl rfl rfl rfl (by decide) rfl hl.1 rfl (Nat.le_of_ble_eq_true rfl) dX10_step_80 ⟨Nat.le_of_ble_eq_true rfl, Nat.le_of_ble_eq_true rfl⟩ (fun v_6 u_7 H locs hv_8 hP hD hS => ?_)
  obtain rfl : v_6 = some (.int 0) := hv_8
  refine W.eq (g2 := F0 m 83 ls [.int 0]) rfl ?_
  have hP : va_P D classes [(ta, .inr (10, [.ref t1, .int 0, .int 0, .int 0, .int (-1), .int 0]))] H := hP
  have hD : va_D A [(ta, .inr (10, [.ref t1, .int 0, .int 0, .int 0, .int (-1), .int 0]))] := hD
  refine lv_if_eq (tgt := 124) hx hb dX10_step_83 (by decide) (fun c_9 => ?_) (fun c_9 => absurd c_9 (by decide))
  refine lv_aload_n hx hb dX10_step_124 rfl (lv_at hl 0 rfl) ?_
  refine gf_X10_25 hx hb hts hown hK hP 0 rfl rfl dX10_step_125 ?_
  refine cS (As := [.int (-1)]) (rest := []) (wr := [(ta, .inr (10, [.ref t1, .int 0, .int 0, .int 0, .int (-1), .int 0]))]) ⟨hx, hb, hml, hown, hts⟩ hK hX hA (ct_X10_isDigit l D tc sk ) k_488 k_486 k_487 k_96 pl_X10_isDigit ⟨Nat.le_of_ble_eq_true rfl, Nat.le_of_ble_eq_true rfl⟩ rfl rfl  hP hD hS [] [0] rfl rfl rfl rfl rfl (by decide) rfl hl.1 rfl (Nat.le_of_ble_eq_true rfl) dX10_step_128 ⟨Nat.le_of_ble_eq_true rfl, Nat.le_of_ble_eq_true rfl⟩ (fun v_10 u_11 H locs hv_12 hP hD hS => ?_)
  obtain rfl : v_10 = some (.int 0) := hv_12
  refine W.eq (g2 := F0 m 131 ls [.int 0]) rfl ?_
  have hP : va_P D classes [(ta, .inr (10, [.ref t1, .int 0, .int 0, .int 0, .int (-1), .int 0]))] H := hP
  have hD : va_D A [(ta, .inr (10, [.ref t1, .int 0, .int 0, .int 0, .int (-1), .int 0]))] := hD
  refine lv_if_eq (tgt := 172) hx hb dX10_step_131 (by decide) (fun c_13 => ?_) (fun c_13 => absurd c_13 (by decide))
  refine lv_aload_n hx hb dX10_step_172 rfl (lv_at hl 0 rfl) ?_
  refine gf_X10_25 hx hb hts hown hK hP 0 rfl rfl dX10_step_173 ?_
  refine lv_iconst (v := (-1)) hx hb dX10_step_176 (by decide) ?_
  refine lv_icmp_eq (tgt := 242) hx hb dX10_step_177 (by decide) (fun c_14 => ?_) (fun c_14 => absurd c_14 (by decide))
  exact retV hx hb hr hlk hP hD hS () rfl [0] rfl rfl dX10_step_242 (Nat.le_of_ble_eq_true rfl) (Nat.le_of_ble_eq_true rfl) rfl
set_option maxHeartbeats 4000000 in
set_option maxRecDepth 100000 in
theorem ct_X10_step_1 (l : Launch) (D : va_G) (tc : Nat → ClassId) (sk : (Nat → Nat) × (Nat → Nat)) (ta : Nat) (t1 : Nat) (f1 : Int32) (q1 : Int32)  : Ct l yX10_step cX10_step 2 none { frames := 1, cells := 0, slots := 0, locals := 20 } D tc sk [.ref ta] [(ta, .inr (10, [.ref t1, .int 0, .int q1, .int 0, .int f1, .int 1]))] (fun (v : Option Value) (_ : Unit) => v = none) (fun (_ : Unit) => [(ta, .inr (10, [.ref t1, .int 0, .int 0, .int 0, .int (-1), .int 1]))]) 0 0 := by
  refine Ct.start (by decide) (Nat.le_of_ble_eq_true rfl) (fun p e s m below meth c A ls hx hb hr hlk hin hml hown hts hK hX hP hD hA hl hS => ?_)
  have hl : lv_has ls 2 [(0, .ref ta)] := hl
  refine lv_aload_n hx hb dX10_step_0 rfl (lv_at hl 0 rfl) ?_
  refine lv_aload_n hx hb dX10_step_1 rfl (lv_at hl 0 rfl) ?_
  refine gf_X10_22 hx hb hts hown hK hP 0 rfl rfl dX10_step_2 ?_
  refine pf_X10_19 hx hb hts hown hK hP hD hS 0 rfl (Nat.le_of_ble_eq_true rfl) rfl rfl dX10_step_5 (fun H locs hP hD hS => ?_)
  have hP : va_P D classes [(ta, .inr (10, [.ref t1, .int 0, .int 0, .int 0, .int f1, .int 1]))] H := hP
  have hD : va_D A [(ta, .inr (10, [.ref t1, .int 0, .int 0, .int 0, .int f1, .int 1]))] := hD
  refine lv_aload_n hx hb dX10_step_8 rfl (lv_at hl 0 rfl) ?_
  refine gf_X10_19 hx hb hts hown hK hP 0 rfl rfl dX10_step_9 ?_
  refine lv_aload_n hx hb dX10_step_12 rfl (lv_at hl 0 rfl) ?_
  refine gf_X10_15 hx hb hts hown hK hP 0 rfl rfl dX10_step_13 ?_
  refine lv_icmp_ge (tgt := 45) hx hb dX10_step_16 (by decide) (fun c_1 => ?_) (fun c_1 => absurd c_1 (by decide))
  refine lv_aload_n hx hb dX10_step_45 rfl (lv_at hl 0 rfl) ?_
  refine lv_aload_n hx hb dX10_step_46 rfl (lv_at hl 0 rfl) ?_
  refine gf_X10_19 hx hb hts hown hK hP 0 rfl rfl dX10_step_47 ?_
  refine pf_X10_22 hx hb hts hown hK hP hD hS 0 rfl (Nat.le_of_ble_eq_true rfl) rfl rfl dX10_step_50 (fun H locs hP hD hS => ?_)
  have hP : va_P D classes [(ta, .inr (10, [.ref t1, .int 0, .int 0, .int 0, .int f1, .int 1]))] H := hP
  have hD : va_D A [(ta, .inr (10, [.ref t1, .int 0, .int 0, .int 0, .int f1, .int 1]))] := hD
  refine lv_aload_n hx hb dX10_step_53 rfl (lv_at hl 0 rfl) ?_
  refine lv_aload_n hx hb dX10_step_54 rfl (lv_at hl 0 rfl) ?_
  refine gf_X10_28 hx hb hts hown hK hP 0 rfl rfl dX10_step_55 ?_
  refine lv_if_ne (tgt := 72) hx hb dX10_step_58 (by decide) (fun c_2 => ?_) (fun c_2 => absurd c_2 (by decide))
  refine lv_iconst (v := (-1)) hx hb dX10_step_72 (by decide) ?_
  refine pf_X10_25 hx hb hts hown hK hP hD hS 0 rfl (Nat.le_of_ble_eq_true rfl) rfl rfl dX10_step_73 (fun H locs hP hD hS => ?_)
  have hP : va_P D classes [(ta, .inr (10, [.ref t1, .int 0, .int 0, .int 0, .int (-1), .int 1]))] H := hP
  have hD : va_D A [(ta, .inr (10, [.ref t1, .int 0, .int 0, .int 0, .int (-1), .int 1]))] := hD
  refine lv_aload_n hx hb dX10_step_76 rfl (lv_at hl 0 rfl) ?_
  refine gf_X10_25 hx hb hts hown hK hP 0 rfl rfl dX10_step_77 ?_
  refine cS (As := [.int (-1)]) (rest := []) (wr := [(ta, .inr (10, [.ref t1, .int 0, .int 0, .int 0, .int (-1), .int 1]))]) ⟨hx, hb, hml, hown, hts⟩ hK hX hA (ct_X10_isLetter l D tc sk ) k_485 k_483 k_484 k_96 pl_X10_isLetter ⟨Nat.le_of_ble_eq_true rfl, Nat.le_of_ble_eq_true rfl⟩ rfl rfl  hP hD hS [] [0] rfl rfl rfl rfl rfl (by decide) rfl hl.1 rfl (Nat.le_of_ble_eq_true rfl) dX10_step_80 ⟨Nat.le_of_ble_eq_true rfl, Nat.le_of_ble_eq_true rfl⟩ (fun v_3 u_4 H locs hv_5 hP hD hS => ?_)
  obtain rfl : v_3 = some (.int 0) := hv_5
  refine W.eq (g2 := F0 m 83 ls [.int 0]) rfl ?_
  have hP : va_P D classes [(ta, .inr (10, [.ref t1, .int 0, .int 0, .int 0, .int (-1), .int 1]))] H := hP
  have hD : va_D A [(ta, .inr (10, [.ref t1, .int 0, .int 0, .int 0, .int (-1), .int 1]))] := hD
  refine lv_if_eq (tgt := 124) hx hb dX10_step_83 (by decide) (fun c_6 => ?_) (fun c_6 => absurd c_6 (by decide))
  refine lv_aload_n hx hb dX10_step_124 rfl (lv_at hl 0 rfl) ?_
  refine gf_X10_25 hx hb hts hown hK hP 0 rfl rfl dX10_step_125 ?_
  refine cS (As := [.int (-1)]) (rest := []) (wr := [(ta, .inr (10, [.ref t1, .int 0, .int 0, .int 0, .int (-1), .int 1]))]) ⟨hx, hb, hml, hown, hts⟩ hK hX hA (ct_X10_isDigit l D tc sk ) k_488 k_486 k_487 k_96 pl_X10_isDigit ⟨Nat.le_of_ble_eq_true rfl, Nat.le_of_ble_eq_true rfl⟩ rfl rfl  hP hD hS [] [0] rfl rfl rfl rfl rfl (by decide) rfl hl.1 rfl (Nat.le_of_ble_eq_true rfl) dX10_step_128 ⟨Nat.le_of_ble_eq_true rfl, Nat.le_of_ble_eq_true rfl⟩ (fun v_7 u_8 H locs hv_9 hP hD hS => ?_)
  obtain rfl : v_7 = some (.int 0) := hv_9
  refine W.eq (g2 := F0 m 131 ls [.int 0]) rfl ?_
  have hP : va_P D classes [(ta, .inr (10, [.ref t1, .int 0, .int 0, .int 0, .int (-1), .int 1]))] H := hP
  have hD : va_D A [(ta, .inr (10, [.ref t1, .int 0, .int 0, .int 0, .int (-1), .int 1]))] := hD
  refine lv_if_eq (tgt := 172) hx hb dX10_step_131 (by decide) (fun c_10 => ?_) (fun c_10 => absurd c_10 (by decide))
  refine lv_aload_n hx hb dX10_step_172 rfl (lv_at hl 0 rfl) ?_
  refine gf_X10_25 hx hb hts hown hK hP 0 rfl rfl dX10_step_173 ?_
  refine lv_iconst (v := (-1)) hx hb dX10_step_176 (by decide) ?_
  refine lv_icmp_eq (tgt := 242) hx hb dX10_step_177 (by decide) (fun c_11 => ?_) (fun c_11 => absurd c_11 (by decide))
  exact retV hx hb hr hlk hP hD hS () rfl [0] rfl rfl dX10_step_242 (Nat.le_of_ble_eq_true rfl) (Nat.le_of_ble_eq_true rfl) rfl
set_option maxHeartbeats 4000000 in
set_option maxRecDepth 100000 in
theorem ct_X10_begin (l : Launch) (D : va_G) (tc : Nat → ClassId) (sk : (Nat → Nat) × (Nat → Nat)) (ta : Nat) (t1 : Nat) (f1 : Int32) (q1 : Int32) (q2 : Int32) (q3 : Int32)  : Ct l yX10_begin cX10_begin 1 none { frames := 2, cells := 0, slots := 0, locals := 42 } D tc sk [.ref ta] [(ta, .inr (10, [.ref t1, .int 0, .int q1, .int q2, .int f1, .int q3]))] (fun (v : Option Value) (_ : Unit) => v = none) (fun (_ : Unit) => [(ta, .inr (10, [.ref t1, .int 0, .int 0, .int 0, .int (-1), .int 0]))]) 0 0 := by
  refine Ct.start (by decide) (Nat.le_of_ble_eq_true rfl) (fun p e s m below meth c A ls hx hb hr hlk hin hml hown hts hK hX hP hD hA hl hS => ?_)
  have hl : lv_has ls 1 [(0, .ref ta)] := hl
  refine lv_aload_n hx hb dX10_begin_0 rfl (lv_at hl 0 rfl) ?_
  refine lv_iconst (v := 0) hx hb dX10_begin_1 (by decide) ?_
  refine pf_X10_28 hx hb hts hown hK hP hD hS 0 rfl (Nat.le_of_ble_eq_true rfl) rfl rfl dX10_begin_2 (fun H locs hP hD hS => ?_)
  have hP : va_P D classes [(ta, .inr (10, [.ref t1, .int 0, .int q1, .int q2, .int f1, .int 0]))] H := hP
  have hD : va_D A [(ta, .inr (10, [.ref t1, .int 0, .int q1, .int q2, .int f1, .int 0]))] := hD
  refine lv_aload_n hx hb dX10_begin_5 rfl (lv_at hl 0 rfl) ?_
  refine lv_iconst (v := 0) hx hb dX10_begin_6 (by decide) ?_
  refine pf_X10_22 hx hb hts hown hK hP hD hS 0 rfl (Nat.le_of_ble_eq_true rfl) rfl rfl dX10_begin_7 (fun H locs hP hD hS => ?_)
  have hP : va_P D classes [(ta, .inr (10, [.ref t1, .int 0, .int q1, .int 0, .int f1, .int 0]))] H := hP
  have hD : va_D A [(ta, .inr (10, [.ref t1, .int 0, .int q1, .int 0, .int f1, .int 0]))] := hD
  refine lv_aload_n hx hb dX10_begin_10 rfl (lv_at hl 0 rfl) ?_
  refine cV (a := ta) (As := []) (rest := []) (wr := []) ⟨hx, hb, hml, hown, hts⟩ hK hX hA (ct_X10_step_0 l D tc sk ta t1 f1 q1) k_478 k_475 k_476 k_477 k_96 pl_X10_step ⟨Nat.le_of_ble_eq_true rfl, Nat.le_of_ble_eq_true rfl⟩ rfl rfl (va_recv hK hP (ci := 10) (q0 := 0) rfl rfl) hP hD hS [0] [] rfl rfl rfl rfl rfl (by decide) rfl hl.1 rfl (Nat.le_of_ble_eq_true rfl) dX10_begin_11 ⟨Nat.le_of_ble_eq_true rfl, Nat.le_of_ble_eq_true rfl⟩ (fun v_1 u_2 H locs hv_3 hP hD hS => ?_)
  obtain rfl : v_1 = none := hv_3
  refine W.eq (g2 := F0 m 14 ls []) rfl ?_
  have hP : va_P D classes [(ta, .inr (10, [.ref t1, .int 0, .int 0, .int 0, .int (-1), .int 0]))] H := hP
  have hD : va_D A [(ta, .inr (10, [.ref t1, .int 0, .int 0, .int 0, .int (-1), .int 0]))] := hD
  exact retV hx hb hr hlk hP hD hS () rfl [0] rfl rfl dX10_begin_14 (Nat.le_of_ble_eq_true rfl) (Nat.le_of_ble_eq_true rfl) rfl
set_option maxHeartbeats 4000000 in
set_option maxRecDepth 100000 in
theorem ct_X10_fail_0 (l : Launch) (D : va_G) (tc : Nat → ClassId) (sk : (Nat → Nat) × (Nat → Nat)) (ta : Nat) (t1 : Nat)  : Ct l yX10_fail cX10_fail 2 none { frames := 0, cells := 0, slots := 0, locals := 0 } D tc sk [.ref ta, .int 0] [(ta, .inr (10, [.ref t1, .int 0, .int 0, .int 0, .int (-1), .int 0]))] (fun (v : Option Value) (_ : Unit) => v = none) (fun (_ : Unit) => [(ta, .inr (10, [.ref t1, .int 0, .int 0, .int 0, .int (-1), .int 1]))]) 0 0 := by
  refine Ct.start (by decide) (Nat.le_of_ble_eq_true rfl) (fun p e s m below meth c A ls hx hb hr hlk hin hml hown hts hK hX hP hD hA hl hS => ?_)
  have hl : lv_has ls 2 [(0, .ref ta), (1, .int 0)] := hl
  refine lv_aload_n hx hb dX10_fail_0 rfl (lv_at hl 0 rfl) ?_
  refine gf_X10_28 hx hb hts hown hK hP 0 rfl rfl dX10_fail_1 ?_
  refine lv_if_ne (tgt := 27) hx hb dX10_fail_4 (by decide) (fun c_1 => absurd c_1 (by decide)) (fun c_1 => ?_)
  refine lv_aload_n hx hb dX10_fail_7 rfl (lv_at hl 0 rfl) ?_
  refine lv_iconst (v := 1) hx hb dX10_fail_8 (by decide) ?_
  refine lv_bipush (v := 8) hx hb dX10_fail_9 (by decide) ?_
  refine lv_aload_n hx hb dX10_fail_11 rfl (lv_at hl 0 rfl) ?_
  refine gf_X10_19 hx hb hts hown hK hP 0 rfl rfl dX10_fail_12 ?_
  refine lv_imul hx hb dX10_fail_15 ?_
  refine lv_lit (v := 0) (by decide) ?_
  refine lv_iadd hx hb dX10_fail_16 ?_
  refine lv_lit (v := 1) (by decide) ?_
  refine lv_iload_n hx hb dX10_fail_17 rfl (lv_at hl 1 rfl) ?_
  refine lv_iadd hx hb dX10_fail_18 ?_
  refine lv_lit (v := 1) (by decide) ?_
  refine pf_X10_28 hx hb hts hown hK hP hD hS 0 rfl (Nat.le_of_ble_eq_true rfl) rfl rfl dX10_fail_19 (fun H locs hP hD hS => ?_)
  have hP : va_P D classes [(ta, .inr (10, [.ref t1, .int 0, .int 0, .int 0, .int (-1), .int 1]))] H := hP
  have hD : va_D A [(ta, .inr (10, [.ref t1, .int 0, .int 0, .int 0, .int (-1), .int 1]))] := hD
  refine lv_aload_n hx hb dX10_fail_22 rfl (lv_at hl 0 rfl) ?_
  refine lv_iconst (v := (-1)) hx hb dX10_fail_23 (by decide) ?_
  refine pf_X10_25 hx hb hts hown hK hP hD hS 0 rfl (Nat.le_of_ble_eq_true rfl) rfl rfl dX10_fail_24 (fun H locs hP hD hS => ?_)
  have hP : va_P D classes [(ta, .inr (10, [.ref t1, .int 0, .int 0, .int 0, .int (-1), .int 1]))] H := hP
  have hD : va_D A [(ta, .inr (10, [.ref t1, .int 0, .int 0, .int 0, .int (-1), .int 1]))] := hD
  exact retV hx hb hr hlk hP hD hS () rfl [0] rfl rfl dX10_fail_27 (Nat.le_of_ble_eq_true rfl) (Nat.le_of_ble_eq_true rfl) rfl
set_option maxHeartbeats 4000000 in
set_option maxRecDepth 100000 in
theorem ct_X10_fail_1 (l : Launch) (D : va_G) (tc : Nat → ClassId) (sk : (Nat → Nat) × (Nat → Nat)) (ta : Nat) (t1 : Nat)  : Ct l yX10_fail cX10_fail 2 none { frames := 0, cells := 0, slots := 0, locals := 0 } D tc sk [.ref ta, .int 0] [(ta, .inr (10, [.ref t1, .int 0, .int 0, .int 0, .int (-1), .int 1]))] (fun (v : Option Value) (_ : Unit) => v = none) (fun (_ : Unit) => [(ta, .inr (10, [.ref t1, .int 0, .int 0, .int 0, .int (-1), .int 1]))]) 0 0 := by
  refine Ct.start (by decide) (Nat.le_of_ble_eq_true rfl) (fun p e s m below meth c A ls hx hb hr hlk hin hml hown hts hK hX hP hD hA hl hS => ?_)
  have hl : lv_has ls 2 [(0, .ref ta), (1, .int 0)] := hl
  refine lv_aload_n hx hb dX10_fail_0 rfl (lv_at hl 0 rfl) ?_
  refine gf_X10_28 hx hb hts hown hK hP 0 rfl rfl dX10_fail_1 ?_
  refine lv_if_ne (tgt := 27) hx hb dX10_fail_4 (by decide) (fun c_1 => ?_) (fun c_1 => absurd c_1 (by decide))
  exact retV hx hb hr hlk hP hD hS () rfl [0] rfl rfl dX10_fail_27 (Nat.le_of_ble_eq_true rfl) (Nat.le_of_ble_eq_true rfl) rfl
set_option maxHeartbeats 4000000 in
set_option maxRecDepth 100000 in
theorem ct_X10_takes_0 (l : Launch) (D : va_G) (tc : Nat → ClassId) (sk : (Nat → Nat) × (Nat → Nat)) (ta : Nat) (t1 : Nat)  : Ct l yX10_takes cX10_takes 2 (some .boolean) { frames := 0, cells := 0, slots := 0, locals := 0 } D tc sk [.ref ta, .int 59] [(ta, .inr (10, [.ref t1, .int 0, .int 0, .int 0, .int (-1), .int 0]))] (fun (v : Option Value) (_ : Unit) => v = some (.int 0)) (fun (_ : Unit) => [(ta, .inr (10, [.ref t1, .int 0, .int 0, .int 0, .int (-1), .int 0]))]) 0 0 := by
  refine Ct.start (by decide) (Nat.le_of_ble_eq_true rfl) (fun p e s m below meth c A ls hx hb hr hlk hin hml hown hts hK hX hP hD hA hl hS => ?_)
  have hl : lv_has ls 2 [(0, .ref ta), (1, .int 59)] := hl
  refine lv_aload_n hx hb dX10_takes_0 rfl (lv_at hl 0 rfl) ?_
  refine gf_X10_25 hx hb hts hown hK hP 0 rfl rfl dX10_takes_1 ?_
  refine lv_iload_n hx hb dX10_takes_4 rfl (lv_at hl 1 rfl) ?_
  refine lv_icmp_eq (tgt := 10) hx hb dX10_takes_5 (by decide) (fun c_1 => absurd c_1 (by decide)) (fun c_1 => ?_)
  refine lv_iconst (v := 0) hx hb dX10_takes_8 (by decide) ?_
  exact retI (v := 0) hx hb hr hlk (rfl) hP hD hS () rfl [0] rfl rfl dX10_takes_9 (Nat.le_of_ble_eq_true rfl) (Nat.le_of_ble_eq_true rfl) rfl
set_option maxHeartbeats 4000000 in
set_option maxRecDepth 100000 in
theorem ct_X10_finish_0 (l : Launch) (D : va_G) (tc : Nat → ClassId) (sk : (Nat → Nat) × (Nat → Nat)) (ta : Nat) (t1 : Nat)  : Ct l yX10_finish cX10_finish 1 none { frames := 0, cells := 0, slots := 0, locals := 0 } D tc sk [.ref ta] [(ta, .inr (10, [.ref t1, .int 0, .int 0, .int 0, .int (-1), .int 0]))] (fun (v : Option Value) (_ : Unit) => v = none) (fun (_ : Unit) => [(ta, .inr (10, [.ref t1, .int 0, .int 0, .int 0, .int (-1), .int 0]))]) 0 0 := by
  refine Ct.start (by decide) (Nat.le_of_ble_eq_true rfl) (fun p e s m below meth c A ls hx hb hr hlk hin hml hown hts hK hX hP hD hA hl hS => ?_)
  have hl : lv_has ls 1 [(0, .ref ta)] := hl
  refine lv_aload_n hx hb dX10_finish_0 rfl (lv_at hl 0 rfl) ?_
  refine gf_X10_19 hx hb hts hown hK hP 0 rfl rfl dX10_finish_1 ?_
  refine lv_aload_n hx hb dX10_finish_4 rfl (lv_at hl 0 rfl) ?_
  refine gf_X10_15 hx hb hts hown hK hP 0 rfl rfl dX10_finish_5 ?_
  refine lv_icmp_ge (tgt := 16) hx hb dX10_finish_8 (by decide) (fun c_1 => ?_) (fun c_1 => absurd c_1 (by decide))
  exact retV hx hb hr hlk hP hD hS () rfl [0] rfl rfl dX10_finish_16 (Nat.le_of_ble_eq_true rfl) (Nat.le_of_ble_eq_true rfl) rfl
set_option maxHeartbeats 4000000 in
set_option maxRecDepth 100000 in
theorem ct_X10_takes_1 (l : Launch) (D : va_G) (tc : Nat → ClassId) (sk : (Nat → Nat) × (Nat → Nat)) (ta : Nat) (t1 : Nat)  : Ct l yX10_takes cX10_takes 2 (some .boolean) { frames := 0, cells := 0, slots := 0, locals := 0 } D tc sk [.ref ta, .int 59] [(ta, .inr (10, [.ref t1, .int 0, .int 0, .int 0, .int (-1), .int 1]))] (fun (v : Option Value) (_ : Unit) => v = some (.int 0)) (fun (_ : Unit) => [(ta, .inr (10, [.ref t1, .int 0, .int 0, .int 0, .int (-1), .int 1]))]) 0 0 := by
  refine Ct.start (by decide) (Nat.le_of_ble_eq_true rfl) (fun p e s m below meth c A ls hx hb hr hlk hin hml hown hts hK hX hP hD hA hl hS => ?_)
  have hl : lv_has ls 2 [(0, .ref ta), (1, .int 59)] := hl
  refine lv_aload_n hx hb dX10_takes_0 rfl (lv_at hl 0 rfl) ?_
  refine gf_X10_25 hx hb hts hown hK hP 0 rfl rfl dX10_takes_1 ?_
  refine lv_iload_n hx hb dX10_takes_4 rfl (lv_at hl 1 rfl) ?_
  refine lv_icmp_eq (tgt := 10) hx hb dX10_takes_5 (by decide) (fun c_1 => absurd c_1 (by decide)) (fun c_1 => ?_)
  refine lv_iconst (v := 0) hx hb dX10_takes_8 (by decide) ?_
  exact retI (v := 0) hx hb hr hlk (rfl) hP hD hS () rfl [0] rfl rfl dX10_takes_9 (Nat.le_of_ble_eq_true rfl) (Nat.le_of_ble_eq_true rfl) rfl
set_option maxHeartbeats 4000000 in
set_option maxRecDepth 100000 in
theorem ct_X10_finish_1 (l : Launch) (D : va_G) (tc : Nat → ClassId) (sk : (Nat → Nat) × (Nat → Nat)) (ta : Nat) (t1 : Nat)  : Ct l yX10_finish cX10_finish 1 none { frames := 0, cells := 0, slots := 0, locals := 0 } D tc sk [.ref ta] [(ta, .inr (10, [.ref t1, .int 0, .int 0, .int 0, .int (-1), .int 1]))] (fun (v : Option Value) (_ : Unit) => v = none) (fun (_ : Unit) => [(ta, .inr (10, [.ref t1, .int 0, .int 0, .int 0, .int (-1), .int 1]))]) 0 0 := by
  refine Ct.start (by decide) (Nat.le_of_ble_eq_true rfl) (fun p e s m below meth c A ls hx hb hr hlk hin hml hown hts hK hX hP hD hA hl hS => ?_)
  have hl : lv_has ls 1 [(0, .ref ta)] := hl
  refine lv_aload_n hx hb dX10_finish_0 rfl (lv_at hl 0 rfl) ?_
  refine gf_X10_19 hx hb hts hown hK hP 0 rfl rfl dX10_finish_1 ?_
  refine lv_aload_n hx hb dX10_finish_4 rfl (lv_at hl 0 rfl) ?_
  refine gf_X10_15 hx hb hts hown hK hP 0 rfl rfl dX10_finish_5 ?_
  refine lv_icmp_ge (tgt := 16) hx hb dX10_finish_8 (by decide) (fun c_1 => ?_) (fun c_1 => absurd c_1 (by decide))
  exact retV hx hb hr hlk hP hD hS () rfl [0] rfl rfl dX10_finish_16 (Nat.le_of_ble_eq_true rfl) (Nat.le_of_ble_eq_true rfl) rfl
set_option maxHeartbeats 4000000 in
set_option maxRecDepth 100000 in
theorem ct_X10_isPartOf_1 (l : Launch) (D : va_G) (tc : Nat → ClassId) (sk : (Nat → Nat) × (Nat → Nat)) (ta : Nat) (t1 : Nat) (i : Nat) (x2 : Int32) (x3 : Int32)  : Ct l yX10_isPartOf cX10_isPartOf 5 (some .boolean) { frames := 0, cells := 0, slots := 0, locals := 0 } D tc sk [.ref ta, .ref (sk.1 i), .int x2, .int x3] [(ta, .inr (10, [.ref t1, .int 0, .int 0, .int 0, .int (-1), .int 1]))] (fun (v : Option Value) (_ : Unit) => v = some (.int 0)) (fun (_ : Unit) => [(ta, .inr (10, [.ref t1, .int 0, .int 0, .int 0, .int (-1), .int 1]))]) 0 0 := by
  refine Ct.start (by decide) (Nat.le_of_ble_eq_true rfl) (fun p e s m below meth c A ls hx hb hr hlk hin hml hown hts hK hX hP hD hA hl hS => ?_)
  have hl : lv_has ls 5 [(0, .ref ta), (1, .ref (sk.1 i)), (2, .int x2), (3, .int x3)] := hl
  refine lv_aload_n hx hb dX10_isPartOf_0 rfl (lv_at hl 0 rfl) ?_
  refine gf_X10_28 hx hb hts hown hK hP 0 rfl rfl dX10_isPartOf_1 ?_
  refine lv_if_ne (tgt := 34) hx hb dX10_isPartOf_4 (by decide) (fun c_1 => ?_) (fun c_1 => absurd c_1 (by decide))
  refine lv_iconst (v := 0) hx hb dX10_isPartOf_34 (by decide) ?_
  exact retI (v := 0) hx hb hr hlk (rfl) hP hD hS () rfl [0] rfl rfl dX10_isPartOf_35 (Nat.le_of_ble_eq_true rfl) (Nat.le_of_ble_eq_true rfl) rfl
set_option maxHeartbeats 4000000 in
set_option maxRecDepth 100000 in
theorem ct_X10_isPartOf_0 (l : Launch) (D : va_G) (tc : Nat → ClassId) (sk : (Nat → Nat) × (Nat → Nat)) (ta : Nat) (t1 : Nat) (i : Nat) (k : Nat) (n : Nat) (hkn : k < n) (hn : n < 2 ^ 31) : Ct l yX10_isPartOf cX10_isPartOf 5 (some .boolean) { frames := 0, cells := 0, slots := 0, locals := 0 } D tc sk [.ref ta, .ref (sk.1 i), .int (nI k), .int (nI n)] [(ta, .inr (10, [.ref t1, .int 0, .int 0, .int 0, .int (-1), .int 0]))] (fun (v : Option Value) (_ : Unit) => v = some (.int 0)) (fun (_ : Unit) => [(ta, .inr (10, [.ref t1, .int 0, .int 0, .int 0, .int (-1), .int 0]))]) 0 0 := by
  refine Ct.start (by decide) (Nat.le_of_ble_eq_true rfl) (fun p e s m below meth c A ls hx hb hr hlk hin hml hown hts hK hX hP hD hA hl hS => ?_)
  have hl : lv_has ls 5 [(0, .ref ta), (1, .ref (sk.1 i)), (2, .int (nI k)), (3, .int (nI n))] := hl
  refine lv_aload_n hx hb dX10_isPartOf_0 rfl (lv_at hl 0 rfl) ?_
  refine gf_X10_28 hx hb hts hown hK hP 0 rfl rfl dX10_isPartOf_1 ?_
  refine lv_if_ne (tgt := 34) hx hb dX10_isPartOf_4 (by decide) (fun c_1 => absurd c_1 (by decide)) (fun c_1 => ?_)
  refine lv_aload_n hx hb dX10_isPartOf_7 rfl (lv_at hl 0 rfl) ?_
  refine gf_X10_22 hx hb hts hown hK hP 0 rfl rfl dX10_isPartOf_8 ?_
  refine lv_aload_n hx hb dX10_isPartOf_11 rfl (lv_at hl 0 rfl) ?_
  refine gf_X10_19 hx hb hts hown hK hP 0 rfl rfl dX10_isPartOf_12 ?_
  refine lv_isub hx hb dX10_isPartOf_15 ?_
  refine lv_lit (v := 0) (by decide) ?_
  refine lv_iload_n hx hb dX10_isPartOf_16 rfl (lv_at hl 3 rfl) ?_
  refine lv_iload_n hx hb dX10_isPartOf_17 rfl (lv_at hl 2 rfl) ?_
  refine lv_isub hx hb dX10_isPartOf_18 ?_
  refine lv_topi (fun x_2 ex_2 => ?_)
  refine lv_icmp_ne (tgt := 34) hx hb dX10_isPartOf_19 (by decide) (fun c_3 => ?_) (fun c_3 => absurd (c_3.trans ex_2) (sub_ne hkn hn))
  refine lv_iconst (v := 0) hx hb dX10_isPartOf_34 (by decide) ?_
  exact retI (v := 0) hx hb hr hlk (rfl) hP hD hS () rfl [0] rfl rfl dX10_isPartOf_35 (Nat.le_of_ble_eq_true rfl) (Nat.le_of_ble_eq_true rfl) rfl
set_option maxHeartbeats 4000000 in
set_option maxRecDepth 100000 in
theorem ct_X10_isWord_0 (l : Launch) (D : va_G) (tc : Nat → ClassId) (sk : (Nat → Nat) × (Nat → Nat)) (ta : Nat) (t1 : Nat)  : Ct l yX10_isWord cX10_isWord 2 (some .boolean) { frames := 2, cells := 0, slots := 0, locals := 40 } D tc sk [.ref ta, .ref (sk.1 1)] [(ta, .inr (10, [.ref t1, .int 0, .int 0, .int 0, .int (-1), .int 0]))] (fun (v : Option Value) (_ : Unit) => v = some (.int 0)) (fun (_ : Unit) => [(ta, .inr (10, [.ref t1, .int 0, .int 0, .int 0, .int (-1), .int 0]))]) 0 0 := by
  refine Ct.start (by decide) (Nat.le_of_ble_eq_true rfl) (fun p e s m below meth c A ls hx hb hr hlk hin hml hown hts hK hX hP hD hA hl hS => ?_)
  have hl : lv_has ls 2 [(0, .ref ta), (1, .ref (sk.1 1))] := hl
  refine lv_aload_n hx hb dX10_isWord_0 rfl (lv_at hl 0 rfl) ?_
  refine lv_aload_n hx hb dX10_isWord_1 rfl (lv_at hl 1 rfl) ?_
  refine lv_iconst (v := 0) hx hb dX10_isWord_2 (by decide) ?_
  refine lv_aload_n hx hb dX10_isWord_3 rfl (lv_at hl 1 rfl) ?_
  refine cV (a := (sk.1 1)) (As := []) (rest := [.int 0, .ref (sk.1 1), .ref ta]) (wr := [(ta, .inr (10, [.ref t1, .int 0, .int 0, .int 0, .int (-1), .int 0]))]) ⟨hx, hb, hml, hown, hts⟩ hK hX hA (ct_J0_length l D tc sk 1 (by decide)) k_505 k_502 k_503 k_504 k_107 pl_J0_length_8abf5 ⟨Nat.le_of_ble_eq_true rfl, Nat.le_of_ble_eq_true rfl⟩ rfl rfl (vk_recv hX.1 (by decide) hS) hP hD hS [] [0] rfl rfl rfl rfl rfl (by decide) rfl hl.1 rfl (Nat.le_of_ble_eq_true rfl) dX10_isWord_4 ⟨Nat.le_of_ble_eq_true rfl, Nat.le_of_ble_eq_true rfl⟩ (fun v_1 u_2 H locs hv_3 hP hD hS => ?_)
  obtain rfl : v_1 = some (.int (nI (lenS.getD 1 0))) := hv_3
  refine W.eq (g2 := F0 m 7 ls [.int (nI (lenS.getD 1 0)), .int 0, .ref (sk.1 1), .ref ta]) rfl ?_
  have hP : va_P D classes [(ta, .inr (10, [.ref t1, .int 0, .int 0, .int 0, .int (-1), .int 0]))] H := hP
  have hD : va_D A [(ta, .inr (10, [.ref t1, .int 0, .int 0, .int 0, .int (-1), .int 0]))] := hD
  refine lv_lit (v := 3) rfl ?_
  refine cV (a := ta) (As := [.ref (sk.1 1), .int 0, .int 3]) (rest := []) (wr := []) ⟨hx, hb, hml, hown, hts⟩ hK hX hA (ct_X10_isPartOf_0 l D tc sk ta t1 1 0 3 (by decide) (by decide)) k_553 k_550 k_552 k_2 k_96 pl_X10_isPartOf ⟨Nat.le_of_ble_eq_true rfl, Nat.le_of_ble_eq_true rfl⟩ rfl rfl (va_recv hK hP (ci := 10) (q0 := 0) rfl rfl) hP hD hS [0] [] rfl rfl rfl rfl rfl (by decide) rfl hl.1 rfl (Nat.le_of_ble_eq_true rfl) dX10_isWord_7 ⟨Nat.le_of_ble_eq_true rfl, Nat.le_of_ble_eq_true rfl⟩ (fun v_4 u_5 H locs hv_6 hP hD hS => ?_)
  obtain rfl : v_4 = some (.int 0) := hv_6
  refine W.eq (g2 := F0 m 10 ls [.int 0]) rfl ?_
  have hP : va_P D classes [(ta, .inr (10, [.ref t1, .int 0, .int 0, .int 0, .int (-1), .int 0]))] H := hP
  have hD : va_D A [(ta, .inr (10, [.ref t1, .int 0, .int 0, .int 0, .int (-1), .int 0]))] := hD
  exact retI (v := 0) hx hb hr hlk (rfl) hP hD hS () rfl [0] rfl rfl dX10_isWord_10 (Nat.le_of_ble_eq_true rfl) (Nat.le_of_ble_eq_true rfl) rfl
set_option maxHeartbeats 4000000 in
set_option maxRecDepth 100000 in
theorem ct_X10_isWord_1 (l : Launch) (D : va_G) (tc : Nat → ClassId) (sk : (Nat → Nat) × (Nat → Nat)) (ta : Nat) (t1 : Nat) (i : Nat) (hi : i < 7) : Ct l yX10_isWord cX10_isWord 2 (some .boolean) { frames := 2, cells := 0, slots := 0, locals := 40 } D tc sk [.ref ta, .ref (sk.1 i)] [(ta, .inr (10, [.ref t1, .int 0, .int 0, .int 0, .int (-1), .int 1]))] (fun (v : Option Value) (_ : Unit) => v = some (.int 0)) (fun (_ : Unit) => [(ta, .inr (10, [.ref t1, .int 0, .int 0, .int 0, .int (-1), .int 1]))]) 0 0 := by
  refine Ct.start (by decide) (Nat.le_of_ble_eq_true rfl) (fun p e s m below meth c A ls hx hb hr hlk hin hml hown hts hK hX hP hD hA hl hS => ?_)
  have hl : lv_has ls 2 [(0, .ref ta), (1, .ref (sk.1 i))] := hl
  refine lv_aload_n hx hb dX10_isWord_0 rfl (lv_at hl 0 rfl) ?_
  refine lv_aload_n hx hb dX10_isWord_1 rfl (lv_at hl 1 rfl) ?_
  refine lv_iconst (v := 0) hx hb dX10_isWord_2 (by decide) ?_
  refine lv_aload_n hx hb dX10_isWord_3 rfl (lv_at hl 1 rfl) ?_
  refine cV (a := (sk.1 i)) (As := []) (rest := [.int 0, .ref (sk.1 i), .ref ta]) (wr := [(ta, .inr (10, [.ref t1, .int 0, .int 0, .int 0, .int (-1), .int 1]))]) ⟨hx, hb, hml, hown, hts⟩ hK hX hA (ct_J0_length l D tc sk i hi) k_505 k_502 k_503 k_504 k_107 pl_J0_length_8abf5 ⟨Nat.le_of_ble_eq_true rfl, Nat.le_of_ble_eq_true rfl⟩ rfl rfl (vk_recv hX.1 hi hS) hP hD hS [] [0] rfl rfl rfl rfl rfl (by decide) rfl hl.1 rfl (Nat.le_of_ble_eq_true rfl) dX10_isWord_4 ⟨Nat.le_of_ble_eq_true rfl, Nat.le_of_ble_eq_true rfl⟩ (fun v_1 u_2 H locs hv_3 hP hD hS => ?_)
  obtain rfl : v_1 = some (.int (nI (lenS.getD i 0))) := hv_3
  refine W.eq (g2 := F0 m 7 ls [.int (nI (lenS.getD i 0)), .int 0, .ref (sk.1 i), .ref ta]) rfl ?_
  have hP : va_P D classes [(ta, .inr (10, [.ref t1, .int 0, .int 0, .int 0, .int (-1), .int 1]))] H := hP
  have hD : va_D A [(ta, .inr (10, [.ref t1, .int 0, .int 0, .int 0, .int (-1), .int 1]))] := hD
  refine cV (a := ta) (As := [.ref (sk.1 i), .int 0, .int (nI (lenS.getD i 0))]) (rest := []) (wr := []) ⟨hx, hb, hml, hown, hts⟩ hK hX hA (ct_X10_isPartOf_1 l D tc sk ta t1 i 0 (nI (lenS.getD i 0))) k_553 k_550 k_552 k_2 k_96 pl_X10_isPartOf ⟨Nat.le_of_ble_eq_true rfl, Nat.le_of_ble_eq_true rfl⟩ rfl rfl (va_recv hK hP (ci := 10) (q0 := 0) rfl rfl) hP hD hS [0] [] rfl rfl rfl rfl rfl (by decide) rfl hl.1 rfl (Nat.le_of_ble_eq_true rfl) dX10_isWord_7 ⟨Nat.le_of_ble_eq_true rfl, Nat.le_of_ble_eq_true rfl⟩ (fun v_4 u_5 H locs hv_6 hP hD hS => ?_)
  obtain rfl : v_4 = some (.int 0) := hv_6
  refine W.eq (g2 := F0 m 10 ls [.int 0]) rfl ?_
  have hP : va_P D classes [(ta, .inr (10, [.ref t1, .int 0, .int 0, .int 0, .int (-1), .int 1]))] H := hP
  have hD : va_D A [(ta, .inr (10, [.ref t1, .int 0, .int 0, .int 0, .int (-1), .int 1]))] := hD
  exact retI (v := 0) hx hb hr hlk (rfl) hP hD hS () rfl [0] rfl rfl dX10_isWord_10 (Nat.le_of_ble_eq_true rfl) (Nat.le_of_ble_eq_true rfl) rfl
set_option maxHeartbeats 4000000 in
set_option maxRecDepth 100000 in
theorem ct_X10_takesWord (l : Launch) (D : va_G) (tc : Nat → ClassId) (sk : (Nat → Nat) × (Nat → Nat)) (ta : Nat) (t1 : Nat) (i : Nat) (hi : i < 7) : Ct l yX10_takesWord cX10_takesWord 2 (some .boolean) { frames := 3, cells := 0, slots := 0, locals := 61 } D tc sk [.ref ta, .ref (sk.1 i)] [(ta, .inr (10, [.ref t1, .int 0, .int 0, .int 0, .int (-1), .int 1]))] (fun (v : Option Value) (_ : Unit) => v = some (.int 0)) (fun (_ : Unit) => [(ta, .inr (10, [.ref t1, .int 0, .int 0, .int 0, .int (-1), .int 1]))]) 0 0 := by
  refine Ct.start (by decide) (Nat.le_of_ble_eq_true rfl) (fun p e s m below meth c A ls hx hb hr hlk hin hml hown hts hK hX hP hD hA hl hS => ?_)
  have hl : lv_has ls 2 [(0, .ref ta), (1, .ref (sk.1 i))] := hl
  refine lv_aload_n hx hb dX10_takesWord_0 rfl (lv_at hl 0 rfl) ?_
  refine lv_aload_n hx hb dX10_takesWord_1 rfl (lv_at hl 1 rfl) ?_
  refine cV (a := ta) (As := [.ref (sk.1 i)]) (rest := []) (wr := []) ⟨hx, hb, hml, hown, hts⟩ hK hX hA (ct_X10_isWord_1 l D tc sk ta t1 i hi) k_618 k_651 k_616 k_617 k_96 pl_X10_isWord ⟨Nat.le_of_ble_eq_true rfl, Nat.le_of_ble_eq_true rfl⟩ rfl rfl (va_recv hK hP (ci := 10) (q0 := 0) rfl rfl) hP hD hS [0] [] rfl rfl rfl rfl rfl (by decide) rfl hl.1 rfl (Nat.le_of_ble_eq_true rfl) dX10_takesWord_2 ⟨Nat.le_of_ble_eq_true rfl, Nat.le_of_ble_eq_true rfl⟩ (fun v_1 u_2 H locs hv_3 hP hD hS => ?_)
  obtain rfl : v_1 = some (.int 0) := hv_3
  refine W.eq (g2 := F0 m 5 ls [.int 0]) rfl ?_
  have hP : va_P D classes [(ta, .inr (10, [.ref t1, .int 0, .int 0, .int 0, .int (-1), .int 1]))] H := hP
  have hD : va_D A [(ta, .inr (10, [.ref t1, .int 0, .int 0, .int 0, .int (-1), .int 1]))] := hD
  refine lv_if_ne (tgt := 10) hx hb dX10_takesWord_5 (by decide) (fun c_4 => absurd c_4 (by decide)) (fun c_4 => ?_)
  refine lv_iconst (v := 0) hx hb dX10_takesWord_8 (by decide) ?_
  exact retI (v := 0) hx hb hr hlk (rfl) hP hD hS () rfl [0] rfl rfl dX10_takesWord_9 (Nat.le_of_ble_eq_true rfl) (Nat.le_of_ble_eq_true rfl) rfl
set_option maxHeartbeats 4000000 in
set_option maxRecDepth 100000 in
theorem ct_X10_wordAmong_1 (l : Launch) (D : va_G) (tc : Nat → ClassId) (sk : (Nat → Nat) × (Nat → Nat)) (ta : Nat) (t1 : Nat)  : Ct l yX10_wordAmong cX10_wordAmong 5 (some .int) { frames := 4, cells := 0, slots := 0, locals := 85 } D tc sk [.ref ta, .ref (sk.1 2)] [(ta, .inr (10, [.ref t1, .int 0, .int 0, .int 0, .int (-1), .int 1]))] (fun (v : Option Value) (_ : Unit) => v = some (.int (-1))) (fun (_ : Unit) => [(ta, .inr (10, [.ref t1, .int 0, .int 0, .int 0, .int (-1), .int 1]))]) 0 0 := by
  refine Ct.start (by decide) (Nat.le_of_ble_eq_true rfl) (fun p e s m below meth c A ls hx hb hr hlk hin hml hown hts hK hX hP hD hA hl hS => ?_)
  have hl : lv_has ls 5 [(0, .ref ta), (1, .ref (sk.1 2))] := hl
  refine lv_iconst (v := 0) hx hb dX10_wordAmong_0 (by decide) ?_
  refine lv_istore_n (lv' := [(2, .int 0), (0, .ref ta), (1, .ref (sk.1 2))]) hx hb dX10_wordAmong_1 rfl hl (by decide) rfl (fun ls hl => ?_)
  refine lv_iconst (v := 0) hx hb dX10_wordAmong_2 (by decide) ?_
  refine lv_istore_n (lv' := [(3, .int 0), (2, .int 0), (0, .ref ta), (1, .ref (sk.1 2))]) hx hb dX10_wordAmong_3 rfl hl (by decide) rfl (fun ls hl => ?_)
  refine lv_iconst (v := 0) hx hb dX10_wordAmong_4 (by decide) ?_
  refine lv_istore (lv' := [(4, .int 0), (3, .int 0), (2, .int 0), (0, .ref ta), (1, .ref (sk.1 2))]) hx hb dX10_wordAmong_5 hl (by decide) rfl (fun ls hl => ?_)
  have loop_4 : ∀ (n_2 i_1 : Nat) (nu_5 : Int32) (fr_6 : Nat) (H : Heap) (locs : List Loc) (ls : Array Slot), i_1 ≤ 75 → 75 + 1 ≤ i_1 + n_2 → va_P D classes [(ta, .inr (10, [.ref t1, .int 0, .int 0, .int 0, .int (-1), .int 1]))] H → va_D A [(ta, .inr (10, [.ref t1, .int 0, .int 0, .int 0, .int (-1), .int 1]))] → va_S A s.heap H locs → lv_has ls 5 [(4, .int (nI i_1)), (3, .int (nI fr_6)), (2, .int nu_5), (0, .ref ta), (1, .ref (sk.1 2))] → W p l e ({ frames := 4, cells := 0, slots := 0, locals := 85 }) s m ([.ref ta, .ref (sk.1 2)].toArray) below meth c H locs 0 0 (MQ below (QW (fun (v : Option Value) (_ : Unit) => v = some (.int (-1))) (BW D (fun (_ : Unit) => [(ta, .inr (10, [.ref t1, .int 0, .int 0, .int 0, .int (-1), .int 1]))]) A) A) ([.ref ta, .ref (sk.1 2)].toArray) s 0 0 A) (F0 m 7 ls []) := by
    intro n_2
    induction n_2 with
    | zero =>
      intro i_1 nu_5 fr_6 H locs ls h1 h2
      exact absurd h2 (by omega)
    | succ n_2 ih_3 =>
      intro i_1 nu_5 fr_6 H locs ls hi_8 hn_9 hP hD hS hl
      refine lv_iload hx hb dX10_wordAmong_7 (lv_at hl 0 rfl) ?_
      refine lv_aload_n hx hb dX10_wordAmong_9 rfl (lv_at hl 4 rfl) ?_
      refine cV (a := (sk.1 2)) (As := []) (rest := [.int (nI i_1)]) (wr := [(ta, .inr (10, [.ref t1, .int 0, .int 0, .int 0, .int (-1), .int 1]))]) ⟨hx, hb, hml, hown, hts⟩ hK hX hA (ct_J0_length l D tc sk 2 (by decide)) k_505 k_502 k_503 k_504 k_107 pl_J0_length_8abf5 ⟨Nat.le_of_ble_eq_true rfl, Nat.le_of_ble_eq_true rfl⟩ rfl rfl (vk_recv hX.1 (by decide) hS) hP hD hS [] [0] rfl rfl rfl rfl rfl (by decide) rfl hl.1 rfl (Nat.le_of_ble_eq_true rfl) dX10_wordAmong_10 ⟨Nat.le_of_ble_eq_true rfl, Nat.le_of_ble_eq_true rfl⟩ (fun v_10 u_11 H locs hv_12 hP hD hS => ?_)
      obtain rfl : v_10 = some (.int (nI (lenS.getD 2 0))) := hv_12
      refine W.eq (g2 := F0 m 13 ls [.int (nI (lenS.getD 2 0)), .int (nI i_1)]) rfl ?_
      have hP : va_P D classes [(ta, .inr (10, [.ref t1, .int 0, .int 0, .int 0, .int (-1), .int 1]))] H := hP
      have hD : va_D A [(ta, .inr (10, [.ref t1, .int 0, .int 0, .int 0, .int (-1), .int 1]))] := hD
      refine lv_lit (v := 75) rfl ?_
      refine lv_icmp_ge (tgt := 54) hx hb dX10_wordAmong_13 (by decide) (fun c_13 => ?_) (fun c_13 => ?_)
      · skip
        refine lv_iconst (v := (-1)) hx hb dX10_wordAmong_54 (by decide) ?_
        exact retI (v := (-1)) hx hb hr hlk (rfl) hP hD hS () rfl [0] rfl rfl dX10_wordAmong_55 (Nat.le_of_ble_eq_true rfl) (Nat.le_of_ble_eq_true rfl) rfl
      · skip
        refine lv_aload_n hx hb dX10_wordAmong_16 rfl (lv_at hl 4 rfl) ?_
        refine lv_iload hx hb dX10_wordAmong_17 (lv_at hl 0 rfl) ?_
        have hk_14 : i_1 < 75 := by
          have z_1 := Int32.lt_iff_toInt_lt.mp (Int32.not_le.mp c_13)
          have y_75 : (75 : Int32).toInt = 75 := by decide
          have n_0 : (nI i_1).toInt = ((i_1 : Nat) : Int) := nI_toInt (by omega)
          omega
        refine cV (a := (sk.1 2)) (As := [.int (nI i_1)]) (rest := []) (wr := [(ta, .inr (10, [.ref t1, .int 0, .int 0, .int 0, .int (-1), .int 1]))]) ⟨hx, hb, hml, hown, hts⟩ hK hX hA (ct_J0_charAt l D tc sk 2 i_1 (by decide) hk_14) k_515 k_512 k_513 k_514 k_107 pl_J0_charAt_5068e ⟨Nat.le_of_ble_eq_true rfl, Nat.le_of_ble_eq_true rfl⟩ rfl rfl (vk_recv hX.1 (by decide) hS) hP hD hS [] [0] rfl rfl rfl rfl rfl (by decide) rfl hl.1 rfl (Nat.le_of_ble_eq_true rfl) dX10_wordAmong_19 ⟨Nat.le_of_ble_eq_true rfl, Nat.le_of_ble_eq_true rfl⟩ (fun v_15 u_16 H locs hv_17 hP hD hS => ?_)
        obtain rfl : v_15 = some (.int (chS 2 i_1)) := hv_17
        refine W.eq (g2 := F0 m 22 ls [.int (chS 2 i_1)]) rfl ?_
        have hP : va_P D classes [(ta, .inr (10, [.ref t1, .int 0, .int 0, .int 0, .int (-1), .int 1]))] H := hP
        have hD : va_D A [(ta, .inr (10, [.ref t1, .int 0, .int 0, .int 0, .int (-1), .int 1]))] := hD
        refine lv_bipush (v := 32) hx hb dX10_wordAmong_22 (by decide) ?_
        refine lv_icmp_ne (tgt := 48) hx hb dX10_wordAmong_24 (by decide) (fun c_18 => ?_) (fun c_18 => ?_)
        · skip
          refine lv_iinc (v := (nI (i_1 + 1))) (lv' := [(4, .int (nI (i_1 + 1))), (3, .int (nI fr_6)), (2, .int nu_5), (0, .ref ta), (1, .ref (sk.1 2))]) hx hb dX10_wordAmong_48 hl (k := 0) rfl (nI_add (i_1) 1) (by decide) rfl (fun ls hl => ?_)
          refine lv_goto (tgt := 7) hx hb dX10_wordAmong_51 (by decide) ?_
          have hlt_19 : i_1 < 75 := by
            have z_1 := Int32.lt_iff_toInt_lt.mp (Int32.not_le.mp c_13)
            have z_2 : ¬ ((chS 2 i_1) : Int32).toInt = (32 : Int32).toInt := fun z => c_18 (Int32.toInt_inj.mp z)
            have y_32 : (32 : Int32).toInt = 32 := by decide
            have y_75 : (75 : Int32).toInt = 75 := by decide
            have n_0 : (nI i_1).toInt = ((i_1 : Nat) : Int) := nI_toInt (by omega)
            omega
          exact ih_3 (i_1 + 1) nu_5 fr_6 _ _ _ (by omega) (by omega) (hP.sub [0] rfl) (hD.sub [0] rfl rfl) hS (lv_sub hl [0, 1, 2, 3, 4] rfl)
        · skip
          refine lv_aload_n hx hb dX10_wordAmong_27 rfl (lv_at hl 3 rfl) ?_
          refine lv_aload_n hx hb dX10_wordAmong_28 rfl (lv_at hl 4 rfl) ?_
          refine lv_iload_n hx hb dX10_wordAmong_29 rfl (lv_at hl 1 rfl) ?_
          refine lv_iload hx hb dX10_wordAmong_30 (lv_at hl 0 rfl) ?_
          refine cV (a := ta) (As := [.ref (sk.1 2), .int (nI fr_6), .int (nI i_1)]) (rest := []) (wr := []) ⟨hx, hb, hml, hown, hts⟩ hK hX hA (ct_X10_isPartOf_1 l D tc sk ta t1 2 (nI fr_6) (nI i_1)) k_553 k_550 k_552 k_2 k_96 pl_X10_isPartOf ⟨Nat.le_of_ble_eq_true rfl, Nat.le_of_ble_eq_true rfl⟩ rfl rfl (va_recv hK hP (ci := 10) (q0 := 0) rfl rfl) hP hD hS [0] [] rfl rfl rfl rfl rfl (by decide) rfl hl.1 rfl (Nat.le_of_ble_eq_true rfl) dX10_wordAmong_32 ⟨Nat.le_of_ble_eq_true rfl, Nat.le_of_ble_eq_true rfl⟩ (fun v_20 u_21 H locs hv_22 hP hD hS => ?_)
          obtain rfl : v_20 = some (.int 0) := hv_22
          refine W.eq (g2 := F0 m 35 ls [.int 0]) rfl ?_
          have hP : va_P D classes [(ta, .inr (10, [.ref t1, .int 0, .int 0, .int 0, .int (-1), .int 1]))] H := hP
          have hD : va_D A [(ta, .inr (10, [.ref t1, .int 0, .int 0, .int 0, .int (-1), .int 1]))] := hD
          refine lv_if_eq (tgt := 40) hx hb dX10_wordAmong_35 (by decide) (fun c_23 => ?_) (fun c_23 => absurd c_23 (by decide))
          obtain ⟨x_24, ex_24⟩ : ∃ y : Int32, y = nu_5 + Int32.ofInt (1) := ⟨_, rfl⟩
          refine lv_iinc (v := x_24) (lv' := [(2, .int x_24), (4, .int (nI i_1)), (3, .int (nI fr_6)), (0, .ref ta), (1, .ref (sk.1 2))]) hx hb dX10_wordAmong_40 hl (k := 2) rfl (ex_24.symm) (by decide) rfl (fun ls hl => ?_)
          refine lv_iload hx hb dX10_wordAmong_43 (lv_at hl 1 rfl) ?_
          refine lv_iconst (v := 1) hx hb dX10_wordAmong_45 (by decide) ?_
          refine lv_iadd hx hb dX10_wordAmong_46 ?_
          refine lv_lit (v := (nI (i_1 + 1))) (nI_addE (i_1) (1) (i_1 + 1) (by omega)) ?_
          refine lv_istore_n (lv' := [(3, .int (nI (i_1 + 1))), (2, .int x_24), (4, .int (nI i_1)), (0, .ref ta), (1, .ref (sk.1 2))]) hx hb dX10_wordAmong_47 rfl hl (by decide) rfl (fun ls hl => ?_)
          refine lv_iinc (v := (nI (i_1 + 1))) (lv' := [(4, .int (nI (i_1 + 1))), (3, .int (nI (i_1 + 1))), (2, .int x_24), (0, .ref ta), (1, .ref (sk.1 2))]) hx hb dX10_wordAmong_48 hl (k := 2) rfl (nI_add (i_1) 1) (by decide) rfl (fun ls hl => ?_)
          refine lv_goto (tgt := 7) hx hb dX10_wordAmong_51 (by decide) ?_
          have hlt_25 : i_1 < 75 := by
            have z_1 := Int32.lt_iff_toInt_lt.mp (Int32.not_le.mp c_13)
            have z_2 := congrArg Int32.toInt c_18
            have y_32 : (32 : Int32).toInt = 32 := by decide
            have y_75 : (75 : Int32).toInt = 75 := by decide
            have n_0 : (nI i_1).toInt = ((i_1 : Nat) : Int) := nI_toInt (by omega)
            omega
          exact ih_3 (i_1 + 1) x_24 (i_1 + 1) _ _ _ (by omega) (by omega) (hP.sub [0] rfl) (hD.sub [0] rfl rfl) hS (lv_sub hl [0, 1, 2, 3, 4] rfl)
  exact loop_4 (75 + 1) 0 0 0 _ _ _ (by omega) (by omega) hP hD hS hl
set_option maxHeartbeats 4000000 in
set_option maxRecDepth 100000 in
theorem ct_X10_wordAmong_0 (l : Launch) (D : va_G) (tc : Nat → ClassId) (sk : (Nat → Nat) × (Nat → Nat)) (ta : Nat) (t1 : Nat)  : Ct l yX10_wordAmong cX10_wordAmong 5 (some .int) { frames := 4, cells := 0, slots := 0, locals := 85 } D tc sk [.ref ta, .ref (sk.1 0)] [(ta, .inr (10, [.ref t1, .int 0, .int 0, .int 0, .int (-1), .int 0]))] (fun (v : Option Value) (_ : Unit) => v = some (.int (-1))) (fun (_ : Unit) => [(ta, .inr (10, [.ref t1, .int 0, .int 0, .int 0, .int (-1), .int 0]))]) 0 0 := by
  refine Ct.start (by decide) (Nat.le_of_ble_eq_true rfl) (fun p e s m below meth c A ls hx hb hr hlk hin hml hown hts hK hX hP hD hA hl hS => ?_)
  have hl : lv_has ls 5 [(0, .ref ta), (1, .ref (sk.1 0))] := hl
  refine lv_iconst (v := 0) hx hb dX10_wordAmong_0 (by decide) ?_
  refine lv_istore_n (lv' := [(2, .int 0), (0, .ref ta), (1, .ref (sk.1 0))]) hx hb dX10_wordAmong_1 rfl hl (by decide) rfl (fun ls hl => ?_)
  refine lv_iconst (v := 0) hx hb dX10_wordAmong_2 (by decide) ?_
  refine lv_istore_n (lv' := [(3, .int 0), (2, .int 0), (0, .ref ta), (1, .ref (sk.1 0))]) hx hb dX10_wordAmong_3 rfl hl (by decide) rfl (fun ls hl => ?_)
  refine lv_iconst (v := 0) hx hb dX10_wordAmong_4 (by decide) ?_
  refine lv_istore (lv' := [(4, .int 0), (3, .int 0), (2, .int 0), (0, .ref ta), (1, .ref (sk.1 0))]) hx hb dX10_wordAmong_5 hl (by decide) rfl (fun ls hl => ?_)
  have loop_4 : ∀ (n_2 i_1 : Nat) (nu_5 : Int32) (fr_6 : Nat) (H : Heap) (locs : List Loc) (ls : Array Slot), i_1 ≤ 21 → 21 + 1 ≤ i_1 + n_2 → (fr_6 ≤ i_1 ∧ (i_1 < 21 → chS 0 i_1 = 32 → fr_6 < i_1)) → va_P D classes [(ta, .inr (10, [.ref t1, .int 0, .int 0, .int 0, .int (-1), .int 0]))] H → va_D A [(ta, .inr (10, [.ref t1, .int 0, .int 0, .int 0, .int (-1), .int 0]))] → va_S A s.heap H locs → lv_has ls 5 [(4, .int (nI i_1)), (3, .int (nI fr_6)), (2, .int nu_5), (0, .ref ta), (1, .ref (sk.1 0))] → W p l e ({ frames := 4, cells := 0, slots := 0, locals := 85 }) s m ([.ref ta, .ref (sk.1 0)].toArray) below meth c H locs 0 0 (MQ below (QW (fun (v : Option Value) (_ : Unit) => v = some (.int (-1))) (BW D (fun (_ : Unit) => [(ta, .inr (10, [.ref t1, .int 0, .int 0, .int 0, .int (-1), .int 0]))]) A) A) ([.ref ta, .ref (sk.1 0)].toArray) s 0 0 A) (F0 m 7 ls []) := by
    intro n_2
    induction n_2 with
    | zero =>
      intro i_1 nu_5 fr_6 H locs ls h1 h2
      exact absurd h2 (by omega)
    | succ n_2 ih_3 =>
      intro i_1 nu_5 fr_6 H locs ls hi_8 hn_9 hinv_7 hP hD hS hl
      refine lv_iload hx hb dX10_wordAmong_7 (lv_at hl 0 rfl) ?_
      refine lv_aload_n hx hb dX10_wordAmong_9 rfl (lv_at hl 4 rfl) ?_
      refine cV (a := (sk.1 0)) (As := []) (rest := [.int (nI i_1)]) (wr := [(ta, .inr (10, [.ref t1, .int 0, .int 0, .int 0, .int (-1), .int 0]))]) ⟨hx, hb, hml, hown, hts⟩ hK hX hA (ct_J0_length l D tc sk 0 (by decide)) k_505 k_502 k_503 k_504 k_107 pl_J0_length_8abf5 ⟨Nat.le_of_ble_eq_true rfl, Nat.le_of_ble_eq_true rfl⟩ rfl rfl (vk_recv hX.1 (by decide) hS) hP hD hS [] [0] rfl rfl rfl rfl rfl (by decide) rfl hl.1 rfl (Nat.le_of_ble_eq_true rfl) dX10_wordAmong_10 ⟨Nat.le_of_ble_eq_true rfl, Nat.le_of_ble_eq_true rfl⟩ (fun v_10 u_11 H locs hv_12 hP hD hS => ?_)
      obtain rfl : v_10 = some (.int (nI (lenS.getD 0 0))) := hv_12
      refine W.eq (g2 := F0 m 13 ls [.int (nI (lenS.getD 0 0)), .int (nI i_1)]) rfl ?_
      have hP : va_P D classes [(ta, .inr (10, [.ref t1, .int 0, .int 0, .int 0, .int (-1), .int 0]))] H := hP
      have hD : va_D A [(ta, .inr (10, [.ref t1, .int 0, .int 0, .int 0, .int (-1), .int 0]))] := hD
      refine lv_lit (v := 21) rfl ?_
      refine lv_icmp_ge (tgt := 54) hx hb dX10_wordAmong_13 (by decide) (fun c_13 => ?_) (fun c_13 => ?_)
      · skip
        refine lv_iconst (v := (-1)) hx hb dX10_wordAmong_54 (by decide) ?_
        exact retI (v := (-1)) hx hb hr hlk (rfl) hP hD hS () rfl [0] rfl rfl dX10_wordAmong_55 (Nat.le_of_ble_eq_true rfl) (Nat.le_of_ble_eq_true rfl) rfl
      · skip
        refine lv_aload_n hx hb dX10_wordAmong_16 rfl (lv_at hl 4 rfl) ?_
        refine lv_iload hx hb dX10_wordAmong_17 (lv_at hl 0 rfl) ?_
        have hk_14 : i_1 < 21 := by
          have z_1 := Int32.lt_iff_toInt_lt.mp (Int32.not_le.mp c_13)
          have y_21 : (21 : Int32).toInt = 21 := by decide
          have n_0 : (nI i_1).toInt = ((i_1 : Nat) : Int) := nI_toInt (by omega)
          omega
        refine cV (a := (sk.1 0)) (As := [.int (nI i_1)]) (rest := []) (wr := [(ta, .inr (10, [.ref t1, .int 0, .int 0, .int 0, .int (-1), .int 0]))]) ⟨hx, hb, hml, hown, hts⟩ hK hX hA (ct_J0_charAt l D tc sk 0 i_1 (by decide) hk_14) k_515 k_512 k_513 k_514 k_107 pl_J0_charAt_5068e ⟨Nat.le_of_ble_eq_true rfl, Nat.le_of_ble_eq_true rfl⟩ rfl rfl (vk_recv hX.1 (by decide) hS) hP hD hS [] [0] rfl rfl rfl rfl rfl (by decide) rfl hl.1 rfl (Nat.le_of_ble_eq_true rfl) dX10_wordAmong_19 ⟨Nat.le_of_ble_eq_true rfl, Nat.le_of_ble_eq_true rfl⟩ (fun v_15 u_16 H locs hv_17 hP hD hS => ?_)
        obtain rfl : v_15 = some (.int (chS 0 i_1)) := hv_17
        refine W.eq (g2 := F0 m 22 ls [.int (chS 0 i_1)]) rfl ?_
        have hP : va_P D classes [(ta, .inr (10, [.ref t1, .int 0, .int 0, .int 0, .int (-1), .int 0]))] H := hP
        have hD : va_D A [(ta, .inr (10, [.ref t1, .int 0, .int 0, .int 0, .int (-1), .int 0]))] := hD
        refine lv_bipush (v := 32) hx hb dX10_wordAmong_22 (by decide) ?_
        refine lv_icmp_ne (tgt := 48) hx hb dX10_wordAmong_24 (by decide) (fun c_18 => ?_) (fun c_18 => ?_)
        · skip
          refine lv_iinc (v := (nI (i_1 + 1))) (lv' := [(4, .int (nI (i_1 + 1))), (3, .int (nI fr_6)), (2, .int nu_5), (0, .ref ta), (1, .ref (sk.1 0))]) hx hb dX10_wordAmong_48 hl (k := 0) rfl (nI_add (i_1) 1) (by decide) rfl (fun ls hl => ?_)
          refine lv_goto (tgt := 7) hx hb dX10_wordAmong_51 (by decide) ?_
          have hlt_19 : i_1 < 21 := by
            have z_1 := Int32.lt_iff_toInt_lt.mp (Int32.not_le.mp c_13)
            have z_2 : ¬ ((chS 0 i_1) : Int32).toInt = (32 : Int32).toInt := fun z => c_18 (Int32.toInt_inj.mp z)
            have y_21 : (21 : Int32).toInt = 21 := by decide
            have y_32 : (32 : Int32).toInt = 32 := by decide
            have n_0 : (nI i_1).toInt = ((i_1 : Nat) : Int) := nI_toInt (by omega)
            omega
          exact ih_3 (i_1 + 1) nu_5 fr_6 _ _ _ (by omega) (by omega) ⟨by have := hinv_7.1; omega, fun h1 h2 => by have := hinv_7.1; omega⟩ (hP.sub [0] rfl) (hD.sub [0] rfl rfl) hS (lv_sub hl [0, 1, 2, 3, 4] rfl)
        · skip
          refine lv_aload_n hx hb dX10_wordAmong_27 rfl (lv_at hl 3 rfl) ?_
          refine lv_aload_n hx hb dX10_wordAmong_28 rfl (lv_at hl 4 rfl) ?_
          refine lv_iload_n hx hb dX10_wordAmong_29 rfl (lv_at hl 1 rfl) ?_
          refine lv_iload hx hb dX10_wordAmong_30 (lv_at hl 0 rfl) ?_
          refine cV (a := ta) (As := [.ref (sk.1 0), .int (nI fr_6), .int (nI i_1)]) (rest := []) (wr := []) ⟨hx, hb, hml, hown, hts⟩ hK hX hA (ct_X10_isPartOf_0 l D tc sk ta t1 0 fr_6 i_1 (hinv_7.2 hk_14 c_18) (by omega)) k_553 k_550 k_552 k_2 k_96 pl_X10_isPartOf ⟨Nat.le_of_ble_eq_true rfl, Nat.le_of_ble_eq_true rfl⟩ rfl rfl (va_recv hK hP (ci := 10) (q0 := 0) rfl rfl) hP hD hS [0] [] rfl rfl rfl rfl rfl (by decide) rfl hl.1 rfl (Nat.le_of_ble_eq_true rfl) dX10_wordAmong_32 ⟨Nat.le_of_ble_eq_true rfl, Nat.le_of_ble_eq_true rfl⟩ (fun v_20 u_21 H locs hv_22 hP hD hS => ?_)
          obtain rfl : v_20 = some (.int 0) := hv_22
          refine W.eq (g2 := F0 m 35 ls [.int 0]) rfl ?_
          have hP : va_P D classes [(ta, .inr (10, [.ref t1, .int 0, .int 0, .int 0, .int (-1), .int 0]))] H := hP
          have hD : va_D A [(ta, .inr (10, [.ref t1, .int 0, .int 0, .int 0, .int (-1), .int 0]))] := hD
          refine lv_if_eq (tgt := 40) hx hb dX10_wordAmong_35 (by decide) (fun c_23 => ?_) (fun c_23 => absurd c_23 (by decide))
          obtain ⟨x_24, ex_24⟩ : ∃ y : Int32, y = nu_5 + Int32.ofInt (1) := ⟨_, rfl⟩
          refine lv_iinc (v := x_24) (lv' := [(2, .int x_24), (4, .int (nI i_1)), (3, .int (nI fr_6)), (0, .ref ta), (1, .ref (sk.1 0))]) hx hb dX10_wordAmong_40 hl (k := 2) rfl (ex_24.symm) (by decide) rfl (fun ls hl => ?_)
          refine lv_iload hx hb dX10_wordAmong_43 (lv_at hl 1 rfl) ?_
          refine lv_iconst (v := 1) hx hb dX10_wordAmong_45 (by decide) ?_
          refine lv_iadd hx hb dX10_wordAmong_46 ?_
          refine lv_lit (v := (nI (i_1 + 1))) (nI_addE (i_1) (1) (i_1 + 1) (by omega)) ?_
          refine lv_istore_n (lv' := [(3, .int (nI (i_1 + 1))), (2, .int x_24), (4, .int (nI i_1)), (0, .ref ta), (1, .ref (sk.1 0))]) hx hb dX10_wordAmong_47 rfl hl (by decide) rfl (fun ls hl => ?_)
          refine lv_iinc (v := (nI (i_1 + 1))) (lv' := [(4, .int (nI (i_1 + 1))), (3, .int (nI (i_1 + 1))), (2, .int x_24), (0, .ref ta), (1, .ref (sk.1 0))]) hx hb dX10_wordAmong_48 hl (k := 2) rfl (nI_add (i_1) 1) (by decide) rfl (fun ls hl => ?_)
          refine lv_goto (tgt := 7) hx hb dX10_wordAmong_51 (by decide) ?_
          have hlt_25 : i_1 < 21 := by
            have z_1 := Int32.lt_iff_toInt_lt.mp (Int32.not_le.mp c_13)
            have z_2 := congrArg Int32.toInt c_18
            have y_21 : (21 : Int32).toInt = 21 := by decide
            have y_32 : (32 : Int32).toInt = 32 := by decide
            have n_0 : (nI i_1).toInt = ((i_1 : Nat) : Int) := nI_toInt (by omega)
            omega
          exact ih_3 (i_1 + 1) x_24 (i_1 + 1) _ _ _ (by omega) (by omega) ⟨Nat.le_refl _, fun h1 h2 => absurd h2 (chS_gap i_1 (by omega) c_18)⟩ (hP.sub [0] rfl) (hD.sub [0] rfl rfl) hS (lv_sub hl [0, 1, 2, 3, 4] rfl)
  exact loop_4 (21 + 1) 0 0 0 _ _ _ (by omega) (by omega) ⟨Nat.le_refl _, fun h1 h2 => absurd h2 (by decide)⟩ hP hD hS hl
