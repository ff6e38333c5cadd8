theorem dJ0_charAt_5068e_0 : decode cJ0_charAt_5068e 0 = .ok (.aload_n 0, 1) := by decide +kernel
theorem dJ0_charAt_5068e_1 : decode cJ0_charAt_5068e 1 = .ok (.invokevirtual 492, 3) := by decide +kernel
theorem dJ0_charAt_5068e_4 : decode cJ0_charAt_5068e 4 = .ok (.ifCond .eq 12, 3) := by decide +kernel
theorem dJ0_charAt_5068e_7 : decode cJ0_charAt_5068e 7 = .ok (.aload_n 0, 1) := by decide +kernel
theorem dJ0_charAt_5068e_8 : decode cJ0_charAt_5068e 8 = .ok (.getfield 9, 3) := by decide +kernel
theorem dJ0_charAt_5068e_11 : decode cJ0_charAt_5068e 11 = .ok (.iload_n 1, 1) := by decide +kernel
theorem dJ0_charAt_5068e_12 : decode cJ0_charAt_5068e 12 = .ok (.invokestatic 495, 3) := by decide +kernel
theorem dJ0_charAt_5068e_15 : decode cJ0_charAt_5068e 15 = .ok (.ireturn, 1) := by decide +kernel
theorem dJ0_checkIndex_df160_0 : decode cJ0_checkIndex_df160 0 = .ok (.iload_n 0, 1) := by decide +kernel
theorem dJ0_checkIndex_df160_1 : decode cJ0_checkIndex_df160 1 = .ok (.iload_n 1, 1) := by decide +kernel
theorem dJ0_checkIndex_df160_2 : decode cJ0_checkIndex_df160 2 = .ok (.getstatic 1053, 3) := by decide +kernel
theorem dJ0_checkIndex_df160_5 : decode cJ0_checkIndex_df160 5 = .ok (.invokestatic 1059, 3) := by decide +kernel
theorem dJ0_checkIndex_df160_8 : decode cJ0_checkIndex_df160 8 = .ok (.pop, 1) := by decide +kernel
theorem dJ0_checkIndex_df160_9 : decode cJ0_checkIndex_df160 9 = .ok (.return_, 1) := by decide +kernel
theorem dJ0_coder_7d493_0 : decode cJ0_coder_7d493 0 = .ok (.getstatic 38, 3) := by decide +kernel
theorem dJ0_coder_7d493_3 : decode cJ0_coder_7d493 3 = .ok (.ifCond .eq 10, 3) := by decide +kernel
theorem dJ0_coder_7d493_6 : decode cJ0_coder_7d493 6 = .ok (.aload_n 0, 1) := by decide +kernel
theorem dJ0_coder_7d493_7 : decode cJ0_coder_7d493 7 = .ok (.getfield 15, 3) := by decide +kernel
theorem dJ0_coder_7d493_10 : decode cJ0_coder_7d493 10 = .ok (.goto 4, 3) := by decide +kernel
theorem dJ0_coder_7d493_14 : decode cJ0_coder_7d493 14 = .ok (.ireturn, 1) := by decide +kernel
theorem dJ0_isLatin1_aae02_0 : decode cJ0_isLatin1_aae02 0 = .ok (.getstatic 38, 3) := by decide +kernel
theorem dJ0_isLatin1_aae02_3 : decode cJ0_isLatin1_aae02 3 = .ok (.ifCond .eq 14, 3) := by decide +kernel
theorem dJ0_isLatin1_aae02_6 : decode cJ0_isLatin1_aae02 6 = .ok (.aload_n 0, 1) := by decide +kernel
theorem dJ0_isLatin1_aae02_7 : decode cJ0_isLatin1_aae02 7 = .ok (.getfield 15, 3) := by decide +kernel
theorem dJ0_isLatin1_aae02_10 : decode cJ0_isLatin1_aae02 10 = .ok (.ifCond .ne 7, 3) := by decide +kernel
theorem dJ0_isLatin1_aae02_13 : decode cJ0_isLatin1_aae02 13 = .ok (.iconst 1, 1) := by decide +kernel
theorem dJ0_isLatin1_aae02_14 : decode cJ0_isLatin1_aae02 14 = .ok (.goto 4, 3) := by decide +kernel
theorem dJ0_isLatin1_aae02_18 : decode cJ0_isLatin1_aae02 18 = .ok (.ireturn, 1) := by decide +kernel
theorem dJ0_length_8abf5_0 : decode cJ0_length_8abf5 0 = .ok (.aload_n 0, 1) := by decide +kernel
theorem dJ0_length_8abf5_1 : decode cJ0_length_8abf5 1 = .ok (.getfield 9, 3) := by decide +kernel
theorem dJ0_length_8abf5_4 : decode cJ0_length_8abf5 4 = .ok (.arraylength, 1) := by decide +kernel
theorem dJ0_length_8abf5_5 : decode cJ0_length_8abf5 5 = .ok (.aload_n 0, 1) := by decide +kernel
theorem dJ0_length_8abf5_6 : decode cJ0_length_8abf5 6 = .ok (.invokevirtual 335, 3) := by decide +kernel
theorem dJ0_length_8abf5_9 : decode cJ0_length_8abf5 9 = .ok (.ishr, 1) := by decide +kernel
theorem dJ0_length_8abf5_10 : decode cJ0_length_8abf5 10 = .ok (.ireturn, 1) := by decide +kernel
theorem dJ1_charAt_3b067_0 : decode cJ1_charAt_3b067 0 = .ok (.iload_n 1, 1) := by decide +kernel
theorem dJ1_charAt_3b067_1 : decode cJ1_charAt_3b067 1 = .ok (.aload_n 0, 1) := by decide +kernel
theorem dJ1_charAt_3b067_2 : decode cJ1_charAt_3b067 2 = .ok (.arraylength, 1) := by decide +kernel
theorem dJ1_charAt_3b067_3 : decode cJ1_charAt_3b067 3 = .ok (.invokestatic 9, 3) := by decide +kernel
theorem dJ1_charAt_3b067_6 : decode cJ1_charAt_3b067 6 = .ok (.aload_n 0, 1) := by decide +kernel
theorem dJ1_charAt_3b067_7 : decode cJ1_charAt_3b067 7 = .ok (.iload_n 1, 1) := by decide +kernel
theorem dJ1_charAt_3b067_8 : decode cJ1_charAt_3b067 8 = .ok (.baload, 1) := by decide +kernel
theorem dJ1_charAt_3b067_9 : decode cJ1_charAt_3b067 9 = .ok (.sipush 255, 3) := by decide +kernel
theorem dJ1_charAt_3b067_12 : decode cJ1_charAt_3b067 12 = .ok (.iand, 1) := by decide +kernel
theorem dJ1_charAt_3b067_13 : decode cJ1_charAt_3b067 13 = .ok (.i2c, 1) := by decide +kernel
theorem dJ1_charAt_3b067_14 : decode cJ1_charAt_3b067 14 = .ok (.ireturn, 1) := by decide +kernel
theorem dJ3_checkIndex_8e157_0 : decode cJ3_checkIndex_8e157 0 = .ok (.iload_n 0, 1) := by decide +kernel
theorem dJ3_checkIndex_8e157_1 : decode cJ3_checkIndex_8e157 1 = .ok (.ifCond .lt 8, 3) := by decide +kernel
theorem dJ3_checkIndex_8e157_4 : decode cJ3_checkIndex_8e157 4 = .ok (.iload_n 0, 1) := by decide +kernel
theorem dJ3_checkIndex_8e157_5 : decode cJ3_checkIndex_8e157 5 = .ok (.iload_n 1, 1) := by decide +kernel
theorem dJ3_checkIndex_8e157_6 : decode cJ3_checkIndex_8e157 6 = .ok (.if_icmp .lt 10, 3) := by decide +kernel
theorem dJ3_checkIndex_8e157_16 : decode cJ3_checkIndex_8e157 16 = .ok (.iload_n 0, 1) := by decide +kernel
theorem dJ3_checkIndex_8e157_17 : decode cJ3_checkIndex_8e157 17 = .ok (.ireturn, 1) := by decide +kernel
theorem dX10_isPartOf_0 : decode cX10_isPartOf 0 = .ok (.aload_n 0, 1) := by decide +kernel
theorem dX10_isPartOf_1 : decode cX10_isPartOf 1 = .ok (.getfield 28, 3) := by decide +kernel
theorem dX10_isPartOf_4 : decode cX10_isPartOf 4 = .ok (.ifCond .ne 30, 3) := by decide +kernel
theorem dX10_isPartOf_7 : decode cX10_isPartOf 7 = .ok (.aload_n 0, 1) := by decide +kernel
theorem dX10_isPartOf_8 : decode cX10_isPartOf 8 = .ok (.getfield 22, 3) := by decide +kernel
theorem dX10_isPartOf_11 : decode cX10_isPartOf 11 = .ok (.aload_n 0, 1) := by decide +kernel
theorem dX10_isPartOf_12 : decode cX10_isPartOf 12 = .ok (.getfield 19, 3) := by decide +kernel
theorem dX10_isPartOf_15 : decode cX10_isPartOf 15 = .ok (.isub, 1) := by decide +kernel
theorem dX10_isPartOf_16 : decode cX10_isPartOf 16 = .ok (.iload_n 3, 1) := by decide +kernel
theorem dX10_isPartOf_17 : decode cX10_isPartOf 17 = .ok (.iload_n 2, 1) := by decide +kernel
theorem dX10_isPartOf_18 : decode cX10_isPartOf 18 = .ok (.isub, 1) := by decide +kernel
theorem dX10_isPartOf_19 : decode cX10_isPartOf 19 = .ok (.if_icmp .ne 15, 3) := by decide +kernel
theorem dX10_isPartOf_22 : decode cX10_isPartOf 22 = .ok (.iload_n 2, 1) := by decide +kernel
theorem dX10_isPartOf_23 : decode cX10_isPartOf 23 = .ok (.ifCond .lt 11, 3) := by decide +kernel
theorem dX10_isPartOf_26 : decode cX10_isPartOf 26 = .ok (.iload_n 3, 1) := by decide +kernel
theorem dX10_isPartOf_27 : decode cX10_isPartOf 27 = .ok (.aload_n 1, 1) := by decide +kernel
theorem dX10_isPartOf_28 : decode cX10_isPartOf 28 = .ok (.invokevirtual 45, 3) := by decide +kernel
theorem dX10_isPartOf_31 : decode cX10_isPartOf 31 = .ok (.if_icmp .le 5, 3) := by decide +kernel
theorem dX10_isPartOf_34 : decode cX10_isPartOf 34 = .ok (.iconst 0, 1) := by decide +kernel
theorem dX10_isPartOf_35 : decode cX10_isPartOf 35 = .ok (.ireturn, 1) := by decide +kernel
theorem dX10_isPartOf_36 : decode cX10_isPartOf 36 = .ok (.aload_n 0, 1) := by decide +kernel
theorem dX10_isPartOf_37 : decode cX10_isPartOf 37 = .ok (.getfield 19, 3) := by decide +kernel
theorem dX10_isPartOf_40 : decode cX10_isPartOf 40 = .ok (.ifCond .lt 15, 3) := by decide +kernel
theorem dX10_isPartOf_43 : decode cX10_isPartOf 43 = .ok (.aload_n 0, 1) := by decide +kernel
theorem dX10_isPartOf_44 : decode cX10_isPartOf 44 = .ok (.getfield 22, 3) := by decide +kernel
theorem dX10_isPartOf_47 : decode cX10_isPartOf 47 = .ok (.aload_n 0, 1) := by decide +kernel
theorem dX10_isPartOf_48 : decode cX10_isPartOf 48 = .ok (.getfield 9, 3) := by decide +kernel
theorem dX10_isPartOf_51 : decode cX10_isPartOf 51 = .ok (.arraylength, 1) := by decide +kernel
theorem dX10_isPartOf_52 : decode cX10_isPartOf 52 = .ok (.if_icmp .le 5, 3) := by decide +kernel
theorem dX10_isPartOf_55 : decode cX10_isPartOf 55 = .ok (.iconst 0, 1) := by decide +kernel
theorem dX10_isPartOf_56 : decode cX10_isPartOf 56 = .ok (.ireturn, 1) := by decide +kernel
theorem dX10_isPartOf_57 : decode cX10_isPartOf 57 = .ok (.iload_n 2, 1) := by decide +kernel
theorem dX10_isPartOf_58 : decode cX10_isPartOf 58 = .ok (.istore 4, 2) := by decide +kernel
theorem dX10_isPartOf_60 : decode cX10_isPartOf 60 = .ok (.iload 4, 2) := by decide +kernel
theorem dX10_isPartOf_62 : decode cX10_isPartOf 62 = .ok (.iload_n 3, 1) := by decide +kernel
theorem dX10_isPartOf_63 : decode cX10_isPartOf 63 = .ok (.if_icmp .ge 34, 3) := by decide +kernel
theorem dX10_isPartOf_66 : decode cX10_isPartOf 66 = .ok (.aload_n 0, 1) := by decide +kernel
theorem dX10_isPartOf_67 : decode cX10_isPartOf 67 = .ok (.getfield 9, 3) := by decide +kernel
theorem dX10_isPartOf_70 : decode cX10_isPartOf 70 = .ok (.aload_n 0, 1) := by decide +kernel
theorem dX10_isPartOf_71 : decode cX10_isPartOf 71 = .ok (.getfield 19, 3) := by decide +kernel
theorem dX10_isPartOf_74 : decode cX10_isPartOf 74 = .ok (.iload 4, 2) := by decide +kernel
theorem dX10_isPartOf_76 : decode cX10_isPartOf 76 = .ok (.iadd, 1) := by decide +kernel
theorem dX10_isPartOf_77 : decode cX10_isPartOf 77 = .ok (.iload_n 2, 1) := by decide +kernel
theorem dX10_isPartOf_78 : decode cX10_isPartOf 78 = .ok (.isub, 1) := by decide +kernel
theorem dX10_isPartOf_79 : decode cX10_isPartOf 79 = .ok (.iaload, 1) := by decide +kernel
theorem dX10_isPartOf_80 : decode cX10_isPartOf 80 = .ok (.aload_n 1, 1) := by decide +kernel
theorem dX10_isPartOf_81 : decode cX10_isPartOf 81 = .ok (.iload 4, 2) := by decide +kernel
theorem dX10_isPartOf_83 : decode cX10_isPartOf 83 = .ok (.invokevirtual 58, 3) := by decide +kernel
theorem dX10_isPartOf_86 : decode cX10_isPartOf 86 = .ok (.if_icmp .eq 5, 3) := by decide +kernel
theorem dX10_isPartOf_89 : decode cX10_isPartOf 89 = .ok (.iconst 0, 1) := by decide +kernel
theorem dX10_isPartOf_90 : decode cX10_isPartOf 90 = .ok (.ireturn, 1) := by decide +kernel
theorem dX10_isPartOf_91 : decode cX10_isPartOf 91 = .ok (.iinc 4 1, 3) := by decide +kernel
theorem dX10_isPartOf_94 : decode cX10_isPartOf 94 = .ok (.goto (-34), 3) := by decide +kernel
theorem dX10_isPartOf_97 : decode cX10_isPartOf 97 = .ok (.iconst 1, 1) := by decide +kernel
theorem dX10_isPartOf_98 : decode cX10_isPartOf 98 = .ok (.ireturn, 1) := by decide +kernel
theorem dX10_isWord_0 : decode cX10_isWord 0 = .ok (.aload_n 0, 1) := by decide +kernel
theorem dX10_isWord_1 : decode cX10_isWord 1 = .ok (.aload_n 1, 1) := by decide +kernel
theorem dX10_isWord_2 : decode cX10_isWord 2 = .ok (.iconst 0, 1) := by decide +kernel
theorem dX10_isWord_3 : decode cX10_isWord 3 = .ok (.aload_n 1, 1) := by decide +kernel
theorem dX10_isWord_4 : decode cX10_isWord 4 = .ok (.invokevirtual 45, 3) := by decide +kernel
theorem dX10_isWord_7 : decode cX10_isWord 7 = .ok (.invokevirtual 50, 3) := by decide +kernel
theorem dX10_isWord_10 : decode cX10_isWord 10 = .ok (.ireturn, 1) := by decide +kernel
theorem dX10_takesWord_0 : decode cX10_takesWord 0 = .ok (.aload_n 0, 1) := by decide +kernel
theorem dX10_takesWord_1 : decode cX10_takesWord 1 = .ok (.aload_n 1, 1) := by decide +kernel
theorem dX10_takesWord_2 : decode cX10_takesWord 2 = .ok (.invokevirtual 54, 3) := by decide +kernel
theorem dX10_takesWord_5 : decode cX10_takesWord 5 = .ok (.ifCond .ne 5, 3) := by decide +kernel
theorem dX10_takesWord_8 : decode cX10_takesWord 8 = .ok (.iconst 0, 1) := by decide +kernel
theorem dX10_takesWord_9 : decode cX10_takesWord 9 = .ok (.ireturn, 1) := by decide +kernel
theorem dX10_takesWord_10 : decode cX10_takesWord 10 = .ok (.aload_n 0, 1) := by decide +kernel
theorem dX10_takesWord_11 : decode cX10_takesWord 11 = .ok (.invokevirtual 31, 3) := by decide +kernel
theorem dX10_takesWord_14 : decode cX10_takesWord 14 = .ok (.iconst 1, 1) := by decide +kernel
theorem dX10_takesWord_15 : decode cX10_takesWord 15 = .ok (.ireturn, 1) := by decide +kernel
theorem dX10_wordAmong_0 : decode cX10_wordAmong 0 = .ok (.iconst 0, 1) := by decide +kernel
theorem dX10_wordAmong_1 : decode cX10_wordAmong 1 = .ok (.istore_n 2, 1) := by decide +kernel
theorem dX10_wordAmong_2 : decode cX10_wordAmong 2 = .ok (.iconst 0, 1) := by decide +kernel
theorem dX10_wordAmong_3 : decode cX10_wordAmong 3 = .ok (.istore_n 3, 1) := by decide +kernel
theorem dX10_wordAmong_4 : decode cX10_wordAmong 4 = .ok (.iconst 0, 1) := by decide +kernel
theorem dX10_wordAmong_5 : decode cX10_wordAmong 5 = .ok (.istore 4, 2) := by decide +kernel
theorem dX10_wordAmong_7 : decode cX10_wordAmong 7 = .ok (.iload 4, 2) := by decide +kernel
theorem dX10_wordAmong_9 : decode cX10_wordAmong 9 = .ok (.aload_n 1, 1) := by decide +kernel
theorem dX10_wordAmong_10 : decode cX10_wordAmong 10 = .ok (.invokevirtual 45, 3) := by decide +kernel
theorem dX10_wordAmong_13 : decode cX10_wordAmong 13 = .ok (.if_icmp .ge 41, 3) := by decide +kernel
theorem dX10_wordAmong_16 : decode cX10_wordAmong 16 = .ok (.aload_n 1, 1) := by decide +kernel
theorem dX10_wordAmong_17 : decode cX10_wordAmong 17 = .ok (.iload 4, 2) := by decide +kernel
theorem dX10_wordAmong_19 : decode cX10_wordAmong 19 = .ok (.invokevirtual 58, 3) := by decide +kernel
theorem dX10_wordAmong_22 : decode cX10_wordAmong 22 = .ok (.bipush 32, 2) := by decide +kernel
theorem dX10_wordAmong_24 : decode cX10_wordAmong 24 = .ok (.if_icmp .ne 24, 3) := by decide +kernel
theorem dX10_wordAmong_27 : decode cX10_wordAmong 27 = .ok (.aload_n 0, 1) := by decide +kernel
theorem dX10_wordAmong_28 : decode cX10_wordAmong 28 = .ok (.aload_n 1, 1) := by decide +kernel
theorem dX10_wordAmong_29 : decode cX10_wordAmong 29 = .ok (.iload_n 3, 1) := by decide +kernel
theorem dX10_wordAmong_30 : decode cX10_wordAmong 30 = .ok (.iload 4, 2) := by decide +kernel
theorem dX10_wordAmong_32 : decode cX10_wordAmong 32 = .ok (.invokevirtual 50, 3) := by decide +kernel
theorem dX10_wordAmong_35 : decode cX10_wordAmong 35 = .ok (.ifCond .eq 5, 3) := by decide +kernel
theorem dX10_wordAmong_38 : decode cX10_wordAmong 38 = .ok (.iload_n 2, 1) := by decide +kernel
theorem dX10_wordAmong_39 : decode cX10_wordAmong 39 = .ok (.ireturn, 1) := by decide +kernel
theorem dX10_wordAmong_40 : decode cX10_wordAmong 40 = .ok (.iinc 2 1, 3) := by decide +kernel
theorem dX10_wordAmong_43 : decode cX10_wordAmong 43 = .ok (.iload 4, 2) := by decide +kernel
theorem dX10_wordAmong_45 : decode cX10_wordAmong 45 = .ok (.iconst 1, 1) := by decide +kernel
theorem dX10_wordAmong_46 : decode cX10_wordAmong 46 = .ok (.iadd, 1) := by decide +kernel
theorem dX10_wordAmong_47 : decode cX10_wordAmong 47 = .ok (.istore_n 3, 1) := by decide +kernel
theorem dX10_wordAmong_48 : decode cX10_wordAmong 48 = .ok (.iinc 4 1, 3) := by decide +kernel
theorem dX10_wordAmong_51 : decode cX10_wordAmong 51 = .ok (.goto (-44), 3) := by decide +kernel
theorem dX10_wordAmong_54 : decode cX10_wordAmong 54 = .ok (.iconst (-1), 1) := by decide +kernel
theorem dX10_wordAmong_55 : decode cX10_wordAmong 55 = .ok (.ireturn, 1) := by decide +kernel
