theorem dJ0_charAt_5068e_0 : decode cJ0_charAt_5068e 0 = .ok (.aload_n 0, 1) := by decide +kernel
theorem dJ0_charAt_5068e_1 : decode cJ0_charAt_5068e 1 = .ok (.invokevirtual 492, 3) := by decide +kernel
theorem dJ0_charAt_5068e_4 : decode cJ0_charAt_5068e 4 = .ok (.ifCond .eq 12, 3) := by decide +kernel
theorem dJ0_charAt_5068e_7 : decode cJ0_charAt_5068e 7 = .ok (.aload_n 0, 1) := by decide +kernel
theorem dJ0_charAt_5068e_8 : decode cJ0_charAt_5068e 8 = .ok (.getfield 9, 3) := by decide +kernel
theorem dJ0_charAt_5068e_11 : decode cJ0_charAt_5068e 11 = .ok (.iload_n 1, 1) := by decide +kernel
theorem dJ0_charAt_5068e_12 : decode cJ0_charAt_5068e 12 = .ok (.invokestatic 495, 3) := by decide +kernel
theorem dJ0_charAt_5068e_15 : decode cJ0_charAt_5068e 15 = .ok (.ireturn, 1) := by decide +kernel
theorem dJ0_checkIndex_df160_0 : decode cJ0_checkIndex_df160 0 = .ok (.iload_n 0, 1) := by decide +kernel
theorem dJ0_checkIndex_df160_1 : decode cJ0_checkIndex_df160 1 = .ok (.iload_n 1, 1) := by decide +kernel
theorem dJ0_checkIndex_df160_2 : decode cJ0_checkIndex_df160 2 = .ok (.getstatic 1053, 3) := by decide +kernel
theorem dJ0_checkIndex_df160_5 : decode cJ0_checkIndex_df160 5 = .ok (.invokestatic 1059, 3) := by decide +kernel
theorem dJ0_checkIndex_df160_8 : decode cJ0_checkIndex_df160 8 = .ok (.pop, 1) := by decide +kernel
theorem dJ0_checkIndex_df160_9 : decode cJ0_checkIndex_df160 9 = .ok (.return_, 1) := by decide +kernel
theorem dJ0_coder_7d493_0 : decode cJ0_coder_7d493 0 = .ok (.getstatic 38, 3) := by decide +kernel
theorem dJ0_coder_7d493_3 : decode cJ0_coder_7d493 3 = .ok (.ifCond .eq 10, 3) := by decide +kernel
theorem dJ0_coder_7d493_6 : decode cJ0_coder_7d493 6 = .ok (.aload_n 0, 1) := by decide +kernel
theorem dJ0_coder_7d493_7 : decode cJ0_coder_7d493 7 = .ok (.getfield 15, 3) := by decide +kernel
theorem dJ0_coder_7d493_10 : decode cJ0_coder_7d493 10 = .ok (.goto 4, 3) := by decide +kernel
theorem dJ0_coder_7d493_14 : decode cJ0_coder_7d493 14 = .ok (.ireturn, 1) := by decide +kernel
theorem dJ0_isLatin1_aae02_0 : decode cJ0_isLatin1_aae02 0 = .ok (.getstatic 38, 3) := by decide +kernel
theorem dJ0_isLatin1_aae02_3 : decode cJ0_isLatin1_aae02 3 = .ok (.ifCond .eq 14, 3) := by decide +kernel
theorem dJ0_isLatin1_aae02_6 : decode cJ0_isLatin1_aae02 6 = .ok (.aload_n 0, 1) := by decide +kernel
theorem dJ0_isLatin1_aae02_7 : decode cJ0_isLatin1_aae02 7 = .ok (.getfield 15, 3) := by decide +kernel
theorem dJ0_isLatin1_aae02_10 : decode cJ0_isLatin1_aae02 10 = .ok (.ifCond .ne 7, 3) := by decide +kernel
theorem dJ0_isLatin1_aae02_13 : decode cJ0_isLatin1_aae02 13 = .ok (.iconst 1, 1) := by decide +kernel
theorem dJ0_isLatin1_aae02_14 : decode cJ0_isLatin1_aae02 14 = .ok (.goto 4, 3) := by decide +kernel
theorem dJ0_isLatin1_aae02_18 : decode cJ0_isLatin1_aae02 18 = .ok (.ireturn, 1) := by decide +kernel
theorem dJ0_length_8abf5_0 : decode cJ0_length_8abf5 0 = .ok (.aload_n 0, 1) := by decide +kernel
theorem dJ0_length_8abf5_1 : decode cJ0_length_8abf5 1 = .ok (.getfield 9, 3) := by decide +kernel
theorem dJ0_length_8abf5_4 : decode cJ0_length_8abf5 4 = .ok (.arraylength, 1) := by decide +kernel
theorem dJ0_length_8abf5_5 : decode cJ0_length_8abf5 5 = .ok (.aload_n 0, 1) := by decide +kernel
theorem dJ0_length_8abf5_6 : decode cJ0_length_8abf5 6 = .ok (.invokevirtual 335, 3) := by decide +kernel
theorem dJ0_length_8abf5_9 : decode cJ0_length_8abf5 9 = .ok (.ishr, 1) := by decide +kernel
theorem dJ0_length_8abf5_10 : decode cJ0_length_8abf5 10 = .ok (.ireturn, 1) := by decide +kernel
theorem dJ1_charAt_3b067_0 : decode cJ1_charAt_3b067 0 = .ok (.iload_n 1, 1) := by decide +kernel
theorem dJ1_charAt_3b067_1 : decode cJ1_charAt_3b067 1 = .ok (.aload_n 0, 1) := by decide +kernel
theorem dJ1_charAt_3b067_2 : decode cJ1_charAt_3b067 2 = .ok (.arraylength, 1) := by decide +kernel
theorem dJ1_charAt_3b067_3 : decode cJ1_charAt_3b067 3 = .ok (.invokestatic 9, 3) := by decide +kernel
theorem dJ1_charAt_3b067_6 : decode cJ1_charAt_3b067 6 = .ok (.aload_n 0, 1) := by decide +kernel
theorem dJ1_charAt_3b067_7 : decode cJ1_charAt_3b067 7 = .ok (.iload_n 1, 1) := by decide +kernel
theorem dJ1_charAt_3b067_8 : decode cJ1_charAt_3b067 8 = .ok (.baload, 1) := by decide +kernel
theorem dJ1_charAt_3b067_9 : decode cJ1_charAt_3b067 9 = .ok (.sipush 255, 3) := by decide +kernel
theorem dJ1_charAt_3b067_12 : decode cJ1_charAt_3b067 12 = .ok (.iand, 1) := by decide +kernel
theorem dJ1_charAt_3b067_13 : decode cJ1_charAt_3b067 13 = .ok (.i2c, 1) := by decide +kernel
theorem dJ1_charAt_3b067_14 : decode cJ1_charAt_3b067 14 = .ok (.ireturn, 1) := by decide +kernel
theorem dJ3_checkIndex_8e157_0 : decode cJ3_checkIndex_8e157 0 = .ok (.iload_n 0, 1) := by decide +kernel
theorem dJ3_checkIndex_8e157_1 : decode cJ3_checkIndex_8e157 1 = .ok (.ifCond .lt 8, 3) := by decide +kernel
theorem dJ3_checkIndex_8e157_4 : decode cJ3_checkIndex_8e157 4 = .ok (.iload_n 0, 1) := by decide +kernel
theorem dJ3_checkIndex_8e157_5 : decode cJ3_checkIndex_8e157 5 = .ok (.iload_n 1, 1) := by decide +kernel
theorem dJ3_checkIndex_8e157_6 : decode cJ3_checkIndex_8e157 6 = .ok (.if_icmp .lt 10, 3) := by decide +kernel
theorem dJ3_checkIndex_8e157_16 : decode cJ3_checkIndex_8e157 16 = .ok (.iload_n 0, 1) := by decide +kernel
theorem dJ3_checkIndex_8e157_17 : decode cJ3_checkIndex_8e157 17 = .ok (.ireturn, 1) := by decide +kernel
theorem dX10_isPartOf_0 : decode cX10_isPartOf 0 = .ok (.aload_n 0, 1) := by decide +kernel
theorem dX10_isPartOf_1 : decode cX10_isPartOf 1 = .ok (.getfield 28, 3) := by decide +kernel
theorem dX10_isPartOf_4 : decode cX10_isPartOf 4 = .ok (.ifCond .ne 30, 3) := by decide +kernel
theorem dX10_isPartOf_7 : decode cX10_isPartOf 7 = .ok (.aload_n 0, 1) := by decide +kernel
theorem dX10_isPartOf_8 : decode cX10_isPartOf 8 = .ok (.getfield 22, 3) := by decide +kernel
theorem dX10_isPartOf_11 : decode cX10_isPartOf 11 = .ok (.aload_n 0, 1) := by decide +kernel
theorem dX10_isPartOf_12 : decode cX10_isPartOf 12 = .ok (.getfield 19, 3) := by decide +kernel
theorem dX10_isPartOf_15 : decode cX10_isPartOf 15 = .ok (.isub, 1) := by decide +kernel
theorem dX10_isPartOf_16 : decode cX10_isPartOf 16 = .ok (.iload_n 3, 1) := by decide +kernel
theorem dX10_isPartOf_17 : decode cX10_isPartOf 17 = .ok (.iload_n 2, 1) := by decide +kernel
theorem dX10_isPartOf_18 : decode cX10_isPartOf 18 = .ok (.isub, 1) := by decide +kernel
theorem dX10_isPartOf_19 : decode cX10_isPartOf 19 = .ok (.if_icmp .ne 15, 3) := by decide +kernel
theorem dX10_isPartOf_22 : decode cX10_isPartOf 22 = .ok (.iload_n 2, 1) := by decide +kernel
theorem dX10_isPartOf_23 : decode cX10_isPartOf 23 = .ok (.ifCond .lt 11, 3) := by decide +kernel
theorem dX10_isPartOf_26 : decode cX10_isPartOf 26 = .ok (.iload_n 3, 1) := by decide +kernel
theorem dX10_isPartOf_27 : decode cX10_isPartOf 27 = .ok (.aload_n 1, 1) := by decide +kernel
theorem dX10_isPartOf_28 : decode cX10_isPartOf 28 = .ok (.invokevirtual 45, 3) := by decide +kernel
theorem dX10_isPartOf_31 : decode cX10_isPartOf 31 = .ok (.if_icmp .le 5, 3) := by decide +kernel
theorem dX10_isPartOf_34 : decode cX10_isPartOf 34 = .ok (.iconst 0, 1) := by decide +kernel
theorem dX10_isPartOf_35 : decode cX10_isPartOf 35 = .ok (.ireturn, 1) := by decide +kernel
theorem dX10_isPartOf_36 : decode cX10_isPartOf 36 = .ok (.aload_n 0, 1) := by decide +kernel
theorem dX10_isPartOf_37 : decode cX10_isPartOf 37 = .ok (.getfield 19, 3) := by decide +kernel
theorem dX10_isPartOf_40 : decode cX10_isPartOf 40 = .ok (.ifCond .lt 15, 3) := by decide +kernel
theorem dX10_isPartOf_43 : decode cX10_isPartOf 43 = .ok (.aload_n 0, 1) := by decide +kernel
theorem dX10_isPartOf_44 : decode cX10_isPartOf 44 = .ok (.getfield 22, 3) := by decide +kernel
theorem dX10_isPartOf_47 : decode cX10_isPartOf 47 = .ok (.aload_n 0, 1) := by decide +kernel
theorem dX10_isPartOf_48 : decode cX10_isPartOf 48 = .ok (.getfield 9, 3) := by decide +kernel
theorem dX10_isPartOf_51 : decode cX10_isPartOf 51 = .ok (.arraylength, 1) := by decide +kernel
theorem dX10_isPartOf_52 : decode cX10_isPartOf 52 = .ok (.if_icmp .le 5, 3) := by decide +kernel
theorem dX10_isPartOf_55 : decode cX10_isPartOf 55 = .ok (.iconst 0, 1) := by decide +kernel
theorem dX10_isPartOf_56 : decode cX10_isPartOf 56 = .ok (.ireturn, 1) := by decide +kernel
theorem dX10_isPartOf_57 : decode cX10_isPartOf 57 = .ok (.iload_n 2, 1) := by decide +kernel
theorem dX10_isPartOf_58 : decode cX10_isPartOf 58 = .ok (.istore 4, 2) := by decide +kernel
theorem dX10_isPartOf_60 : decode cX10_isPartOf 60 = .ok (.iload 4, 2) := by decide +kernel
theorem dX10_isPartOf_62 : decode cX10_isPartOf 62 = .ok (.iload_n 3, 1) := by decide +kernel
theorem dX10_isPartOf_63 : decode cX10_isPartOf 63 = .ok (.if_icmp .ge 34, 3) := by decide +kernel
theorem dX10_isPartOf_66 : decode cX10_isPartOf 66 = .ok (.aload_n 0, 1) := by decide +kernel
theorem dX10_isPartOf_67 : decode cX10_isPartOf 67 = .ok (.getfield 9, 3) := by decide +kernel
theorem dX10_isPartOf_70 : decode cX10_isPartOf 70 = .ok (.aload_n 0, 1) := by decide +kernel
theorem dX10_isPartOf_71 : decode cX10_isPartOf 71 = .ok (.getfield 19, 3) := by decide +kernel
theorem dX10_isPartOf_74 : decode cX10_isPartOf 74 = .ok (.iload 4, 2) := by decide +kernel
theorem dX10_isPartOf_76 : decode cX10_isPartOf 76 = .ok (.iadd, 1) := by decide +kernel
theorem dX10_isPartOf_77 : decode cX10_isPartOf 77 = .ok (.iload_n 2, 1) := by decide +kernel
theorem dX10_isPartOf_78 : decode cX10_isPartOf 78 = .ok (.isub, 1) := by decide +kernel
theorem dX10_isPartOf_79 : decode cX10_isPartOf 79 = .ok (.iaload, 1) := by decide +kernel
theorem dX10_isPartOf_80 : decode cX10_isPartOf 80 = .ok (.aload_n 1, 1) := by decide +kernel
theorem dX10_isPartOf_81 : decode cX10_isPartOf 81 = .ok (.iload 4, 2) := by decide +kernel
theorem dX10_isPartOf_83 : decode cX10_isPartOf 83 = .ok (.invokevirtual 58, 3) := by decide +kernel
theorem dX10_isPartOf_86 : decode cX10_isPartOf 86 = .ok (.if_icmp .eq 5, 3) := by decide +kernel
theorem dX10_isPartOf_89 : decode cX10_isPartOf 89 = .ok (.iconst 0, 1) := by decide +kernel
theorem dX10_isPartOf_90 : decode cX10_isPartOf 90 = .ok (.ireturn, 1) := by decide +kernel
theorem dX10_isPartOf_91 : decode cX10_isPartOf 91 = .ok (.iinc 4 1, 3) := by decide +kernel
theorem dX10_isPartOf_94 : decode cX10_isPartOf 94 = .ok (.goto (-34), 3) := by decide +kernel
theorem dX10_isPartOf_97 : decode cX10_isPartOf 97 = .ok (.iconst 1, 1) := by decide +kernel
theorem dX10_isPartOf_98 : decode cX10_isPartOf 98 = .ok (.ireturn, 1) := by decide +kernel
theorem dX10_isWord_0 : decode cX10_isWord 0 = .ok (.aload_n 0, 1) := by decide +kernel
theorem dX10_isWord_1 : decode cX10_isWord 1 = .ok (.aload_n 1, 1) := by decide +kernel
theorem dX10_isWord_2 : decode cX10_isWord 2 = .ok (.iconst 0, 1) := by decide +kernel
theorem dX10_isWord_3 : decode cX10_isWord 3 = .ok (.aload_n 1, 1) := by decide +kernel
theorem dX10_isWord_4 : decode cX10_isWord 4 = .ok (.invokevirtual 45, 3) := by decide +kernel
theorem dX10_isWord_7 : decode cX10_isWord 7 = .ok (.invokevirtual 50, 3) := by decide +kernel
theorem dX10_isWord_10 : decode cX10_isWord 10 = .ok (.ireturn, 1) := by decide +kernel
theorem dX10_takesWord_0 : decode cX10_takesWord 0 = .ok (.aload_n 0, 1) := by decide +kernel
theorem dX10_takesWord_1 : decode cX10_takesWord 1 = .ok (.aload_n 1, 1) := by decide +kernel
theorem dX10_takesWord_2 : decode cX10_takesWord 2 = .ok (.invokevirtual 54, 3) := by decide +kernel
theorem dX10_takesWord_5 : decode cX10_takesWord 5 = .ok (.ifCond .ne 5, 3) := by decide +kernel
theorem dX10_takesWord_8 : decode cX10_takesWord 8 = .ok (.iconst 0, 1) := by decide +kernel
theorem dX10_takesWord_9 : decode cX10_takesWord 9 = .ok (.ireturn, 1) := by decide +kernel
theorem dX10_takesWord_10 : decode cX10_takesWord 10 = .ok (.aload_n 0, 1) := by decide +kernel
theorem dX10_takesWord_11 : decode cX10_takesWord 11 = .ok (.invokevirtual 31, 3) := by decide +kernel
theorem dX10_takesWord_14 : decode cX10_takesWord 14 = .ok (.iconst 1, 1) := by decide +kernel
theorem dX10_takesWord_15 : decode cX10_takesWord 15 = .ok (.ireturn, 1) := by decide +kernel
theorem dX10_wordAmong_0 : decode cX10_wordAmong 0 = .ok (.iconst 0, 1) := by decide +kernel
theorem dX10_wordAmong_1 : decode cX10_wordAmong 1 = .ok (.istore_n 2, 1) := by decide +kernel
theorem dX10_wordAmong_2 : decode cX10_wordAmong 2 = .ok (.iconst 0, 1) := by decide +kernel
theorem dX10_wordAmong_3 : decode cX10_wordAmong 3 = .ok (.istore_n 3, 1) := by decide +kernel
theorem dX10_wordAmong_4 : decode cX10_wordAmong 4 = .ok (.iconst 0, 1) := by decide +kernel
theorem dX10_wordAmong_5 : decode cX10_wordAmong 5 = .ok (.istore 4, 2) := by decide +kernel
theorem dX10_wordAmong_7 : decode cX10_wordAmong 7 = .ok (.iload 4, 2) := by decide +kernel
theorem dX10_wordAmong_9 : decode cX10_wordAmong 9 = .ok (.aload_n 1, 1) := by decide +kernel
theorem dX10_wordAmong_10 : decode cX10_wordAmong 10 = .ok (.invokevirtual 45, 3) := by decide +kernel
theorem dX10_wordAmong_13 : decode cX10_wordAmong 13 = .ok (.if_icmp .ge 41, 3) := by decide +kernel
theorem dX10_wordAmong_16 : decode cX10_wordAmong 16 = .ok (.aload_n 1, 1) := by decide +kernel
theorem dX10_wordAmong_17 : decode cX10_wordAmong 17 = .ok (.iload 4, 2) := by decide +kernel
theorem dX10_wordAmong_19 : decode cX10_wordAmong 19 = .ok (.invokevirtual 58, 3) := by decide +kernel
theorem dX10_wordAmong_22 : decode cX10_wordAmong 22 = .ok (.bipush 32, 2) := by decide +kernel
theorem dX10_wordAmong_24 : decode cX10_wordAmong 24 = .ok (.if_icmp .ne 24, 3) := by decide +kernel
theorem dX10_wordAmong_27 : decode cX10_wordAmong 27 = .ok (.aload_n 0, 1) := by decide +kernel
theorem dX10_wordAmong_28 : decode cX10_wordAmong 28 = .ok (.aload_n 1, 1) := by decide +kernel
theorem dX10_wordAmong_29 : decode cX10_wordAmong 29 = .ok (.iload_n 3, 1) := by decide +kernel
theorem dX10_wordAmong_30 : decode cX10_wordAmong 30 = .ok (.iload 4, 2) := by decide +kernel
theorem dX10_wordAmong_32 : decode cX10_wordAmong 32 = .ok (.invokevirtual 50, 3) := by decide +kernel
theorem dX10_wordAmong_35 : decode cX10_wordAmong 35 = .ok (.ifCond .eq 5, 3) := by decide +kernel
theorem dX10_wordAmong_38 : decode cX10_wordAmong 38 = .ok (.iload_n 2, 1) := by decide +kernel
theorem dX10_wordAmong_39 : decode cX10_wordAmong 39 = .ok (.ireturn, 1) := by decide +kernel
theorem dX10_wordAmong_40 : decode cX10_wordAmong 40 = .ok (.iinc 2 1, 3) := by decide +kernel
theorem dX10_wordAmong_43 : decode cX10_wordAmong 43 = .ok (.iload 4, 2) := by decide +kernel
theorem dX10_wordAmong_45 : decode cX10_wordAmong 45 = .ok (.iconst 1, 1) := by decide +kernel
theorem dX10_wordAmong_46 : decode cX10_wordAmong 46 = .ok (.iadd, 1) := by decide +kernel
theorem dX10_wordAmong_47 : decode cX10_wordAmong 47 = .ok (.istore_n 3, 1) := by decide +kernel
theorem dX10_wordAmong_48 : decode cX10_wordAmong 48 = .ok (.iinc 4 1, 3) := by decide +kernel
theorem dX10_wordAmong_51 : decode cX10_wordAmong 51 = .ok (.goto (-44), 3) := by decide +kernel
theorem dX10_wordAmong_54 : decode cX10_wordAmong 54 = .ok (.iconst (-1), 1) := by decide +kernel
theorem dX10_wordAmong_55 : decode cX10_wordAmong 55 = .ok (.ireturn, 1) := by decide +kernel
set_option maxHeartbeats 4000000 in
set_option maxRecDepth 100000 in
theorem ct_J0_coder (l : Launch) (D : va_G) (tc : Nat → ClassId) (sk : (Nat → Nat) × (Nat → Nat)) (i : Nat) (hi : i < 7) : Ct l yJ0_coder_7d493 cJ0_coder_7d493 1 (some .byte) { frames := 0, cells := 0, slots := 0, locals := 0 } D tc sk [.ref (sk.1 i)] [] (fun (v : Option Value) (_ : Unit) => ∃ r : Int32, v = some (.int r) ∧ (r.toInt = 0)) (fun (_ : Unit) => []) 0 0 := by
  refine Ct.start (by decide) (Nat.le_of_ble_eq_true rfl) (fun p e s m below meth c A ls hx hb hr hlk hin hml hown hts hK hX hP hD hA hl hS => ?_)
  have hl : lv_has ls 1 [(0, .ref (sk.1 i))] := hl
  refine va_gets hx hb hX.2.1 hS hown (hts _ k_510) (fun _ h9 => h9) dJ0_coder_7d493_0 ?_
  refine lv_if_eq (tgt := 13) hx hb dJ0_coder_7d493_3 (by decide) (fun c_1 => absurd c_1 (by decide)) (fun c_1 => ?_)
  refine lv_aload_n hx hb dJ0_coder_7d493_6 rfl (lv_at hl 0 rfl) ?_
  refine vk_getf hx hb (hX.1.1 i hi).2.1 hS hown (hts _ k_1657) (fun _ h9 => h9) dJ0_coder_7d493_7 ?_
  refine lv_goto (tgt := 14) hx hb dJ0_coder_7d493_10 (by decide) ?_
  have hp_2 : (0 : Int32).toInt = 0 := by
    have y_0 : (0 : Int32).toInt = 0 := by decide
    have yr : (0 : Int32).toInt = 0 := by decide
    omega
  exact retI (v := 0) hx hb hr hlk (rfl) hP hD hS () ⟨_, rfl, hp_2⟩ [] rfl rfl dJ0_coder_7d493_14 (Nat.le_of_ble_eq_true rfl) (Nat.le_of_ble_eq_true rfl) rfl

set_option maxHeartbeats 4000000 in
set_option maxRecDepth 100000 in
theorem ct_J0_isLatin1 (l : Launch) (D : va_G) (tc : Nat → ClassId) (sk : (Nat → Nat) × (Nat → Nat)) (i : Nat) (hi : i < 7) : Ct l yJ0_isLatin1_aae02 cJ0_isLatin1_aae02 1 (some .boolean) { frames := 0, cells := 0, slots := 0, locals := 0 } D tc sk [.ref (sk.1 i)] [] (fun (v : Option Value) (_ : Unit) => ∃ r : Int32, v = some (.int r) ∧ (r.toInt = 1)) (fun (_ : Unit) => []) 0 0 := by
  refine Ct.start (by decide) (Nat.le_of_ble_eq_true rfl) (fun p e s m below meth c A ls hx hb hr hlk hin hml hown hts hK hX hP hD hA hl hS => ?_)
  have hl : lv_has ls 1 [(0, .ref (sk.1 i))] := hl
  refine va_gets hx hb hX.2.1 hS hown (hts _ k_510) (fun _ h9 => h9) dJ0_isLatin1_aae02_0 ?_
  refine lv_if_eq (tgt := 17) hx hb dJ0_isLatin1_aae02_3 (by decide) (fun c_1 => absurd c_1 (by decide)) (fun c_1 => ?_)
  refine lv_aload_n hx hb dJ0_isLatin1_aae02_6 rfl (lv_at hl 0 rfl) ?_
  refine vk_getf hx hb (hX.1.1 i hi).2.1 hS hown (hts _ k_1657) (fun _ h9 => h9) dJ0_isLatin1_aae02_7 ?_
  refine lv_if_ne (tgt := 17) hx hb dJ0_isLatin1_aae02_10 (by decide) (fun c_2 => absurd c_2 (by decide)) (fun c_2 => ?_)
  refine lv_iconst (v := 1) hx hb dJ0_isLatin1_aae02_13 (by decide) ?_
  refine lv_goto (tgt := 18) hx hb dJ0_isLatin1_aae02_14 (by decide) ?_
  have hp_3 : (1 : Int32).toInt = 1 := by
    have y_1 : (1 : Int32).toInt = 1 := by decide
    have yr : (1 : Int32).toInt = 1 := by decide
    omega
  exact retI (v := 1) hx hb hr hlk (rfl) hP hD hS () ⟨_, rfl, hp_3⟩ [] rfl rfl dJ0_isLatin1_aae02_18 (Nat.le_of_ble_eq_true rfl) (Nat.le_of_ble_eq_true rfl) rfl

set_option maxHeartbeats 4000000 in
set_option maxRecDepth 100000 in
theorem ct_J0_length (l : Launch) (D : va_G) (tc : Nat → ClassId) (sk : (Nat → Nat) × (Nat → Nat)) (i : Nat) (hi : i < 7) : Ct l yJ0_length_8abf5 cJ0_length_8abf5 1 (some .int) { frames := 1, cells := 0, slots := 0, locals := 20 } D tc sk [.ref (sk.1 i)] [] (fun (v : Option Value) (_ : Unit) => ∃ r : Int32, v = some (.int r) ∧ (r.toInt = ((lenS.getD i 0 : Nat) : Int))) (fun (_ : Unit) => []) 0 0 := by
  refine Ct.start (by decide) (Nat.le_of_ble_eq_true rfl) (fun p e s m below meth c A ls hx hb hr hlk hin hml hown hts hK hX hP hD hA hl hS => ?_)
  have hl : lv_has ls 1 [(0, .ref (sk.1 i))] := hl
  refine lv_aload_n hx hb dJ0_length_8abf5_0 rfl (lv_at hl 0 rfl) ?_
  refine vk_getf hx hb (hX.1.1 i hi).2.2.1 hS hown (hts _ k_1656) (fun _ h9 => h9) dJ0_length_8abf5_1 ?_
  refine va_tlen hx hb (hX.1.1 i hi).2.2.2 hS (v := nI (lenS.getD i 0)) rfl dJ0_length_8abf5_4 ?_
  refine lv_aload_n hx hb dJ0_length_8abf5_5 rfl (lv_at hl 0 rfl) ?_
  have hh_1 : i < 7 := by
    first | assumption | omega
  refine cV (a := (sk.1 i)) (As := []) (rest := [.int (nI (lenS.getD i 0))]) (wr := []) ⟨hx, hb, hml, hown, hts⟩ hK hX hA (ct_J0_coder l D tc sk i hh_1) k_509 k_506 k_507 k_508 k_107 pl_J0_coder_7d493 ⟨Nat.le_of_ble_eq_true rfl, Nat.le_of_ble_eq_true rfl⟩ rfl rfl (vk_recv hX.1 hi hS) hP hD hS [] [] rfl rfl rfl rfl rfl (by decide) rfl hl.1 rfl (Nat.le_of_ble_eq_true rfl) dJ0_length_8abf5_6 ⟨Nat.le_of_ble_eq_true rfl, Nat.le_of_ble_eq_true rfl⟩ (fun v_2 u_3 H locs hv_4 hP hD hS => ?_)
  obtain ⟨r_5, rfl, he_6⟩ := hv_4
  have he_6 : (r_5.toInt = 0) := he_6
  refine W.eq (g2 := F0 m 9 ls [.int r_5, .int (nI (lenS.getD i 0))]) rfl ?_
  have hP : va_P D classes [] H := hP
  have hD : va_D A [] := hD
  obtain rfl : r_5 = 0 := Int32.toInt_inj.mp (he_6.trans (by decide))
  have hP := hP
  refine lv_ishr hx hb dJ0_length_8abf5_9 ?_
  refine lv_topi (fun x_7 ex_7 => ?_)
  have hp_9 : (x_7 : Int32).toInt = ((lenS.getD i 0 : Nat) : Int) := by rw [ex_7, sc_shr0 (by have := lenS_le hi; omega)]; exact nI_toInt (by have := lenS_le hi; omega)
  exact retI (v := x_7) hx hb hr hlk (rfl) hP hD hS () ⟨_, rfl, hp_9⟩ [] rfl rfl dJ0_length_8abf5_10 (Nat.le_of_ble_eq_true rfl) (Nat.le_of_ble_eq_true rfl) rfl

set_option maxHeartbeats 4000000 in
set_option maxRecDepth 100000 in
theorem ct_J3_checkIndex_n (l : Launch) (D : va_G) (tc : Nat → ClassId) (sk : (Nat → Nat) × (Nat → Nat)) (x1 : Int32) (x2 : Int32) (hk : 0 ≤ x1.toInt ∧ x1.toInt < x2.toInt) : Ct l yJ3_checkIndex_8e157 cJ3_checkIndex_8e157 3 (some .int) { frames := 0, cells := 0, slots := 0, locals := 0 } D tc sk [.int x1, .int x2, .null] [] (fun (v : Option Value) (_ : Unit) => ∃ r : Int32, v = some (.int r) ∧ (True)) (fun (_ : Unit) => []) 0 0 := by
  refine Ct.start (by decide) (Nat.le_of_ble_eq_true rfl) (fun p e s m below meth c A ls hx hb hr hlk hin hml hown hts hK hX hP hD hA hl hS => ?_)
  have hl : lv_has ls 3 [(0, .int x1), (1, .int x2), (2, .null)] := hl
  refine lv_iload_n hx hb dJ3_checkIndex_8e157_0 rfl (lv_at hl 0 rfl) ?_
  refine lv_if_lt (tgt := 9) hx hb dJ3_checkIndex_8e157_1 (by decide) (fun c_1 => ?_) (fun c_1 => ?_)
  · skip
    exfalso
    have z_1 := Int32.lt_iff_toInt_lt.mp c_1
    have y_0 : (0 : Int32).toInt = 0 := by decide
    omega
  · skip
    refine lv_iload_n hx hb dJ3_checkIndex_8e157_4 rfl (lv_at hl 0 rfl) ?_
    refine lv_iload_n hx hb dJ3_checkIndex_8e157_5 rfl (lv_at hl 1 rfl) ?_
    refine lv_icmp_lt (tgt := 16) hx hb dJ3_checkIndex_8e157_6 (by decide) (fun c_2 => ?_) (fun c_2 => ?_)
    · skip
      refine lv_iload_n hx hb dJ3_checkIndex_8e157_16 rfl (lv_at hl 0 rfl) ?_
      exact retI (v := x1) hx hb hr hlk (rfl) hP hD hS () ⟨_, rfl, trivial⟩ [] rfl rfl dJ3_checkIndex_8e157_17 (Nat.le_of_ble_eq_true rfl) (Nat.le_of_ble_eq_true rfl) rfl
    · skip
      exfalso
      have z_1 := Int32.le_iff_toInt_le.mp (Int32.not_lt.mp c_1)
      have z_2 := Int32.le_iff_toInt_le.mp (Int32.not_lt.mp c_2)
      have y_0 : (0 : Int32).toInt = 0 := by decide
      omega

set_option maxHeartbeats 4000000 in
set_option maxRecDepth 100000 in
theorem ct_J3_checkIndex_r (l : Launch) (D : va_G) (tc : Nat → ClassId) (sk : (Nat → Nat) × (Nat → Nat)) (tz : Nat) (x1 : Int32) (x2 : Int32) (hk : 0 ≤ x1.toInt ∧ x1.toInt < x2.toInt) : Ct l yJ3_checkIndex_8e157 cJ3_checkIndex_8e157 3 (some .int) { frames := 0, cells := 0, slots := 0, locals := 0 } D tc sk [.int x1, .int x2, .ref tz] [] (fun (v : Option Value) (_ : Unit) => ∃ r : Int32, v = some (.int r) ∧ (True)) (fun (_ : Unit) => []) 0 0 := by
  refine Ct.start (by decide) (Nat.le_of_ble_eq_true rfl) (fun p e s m below meth c A ls hx hb hr hlk hin hml hown hts hK hX hP hD hA hl hS => ?_)
  have hl : lv_has ls 3 [(0, .int x1), (1, .int x2), (2, .ref tz)] := hl
  refine lv_iload_n hx hb dJ3_checkIndex_8e157_0 rfl (lv_at hl 0 rfl) ?_
  refine lv_if_lt (tgt := 9) hx hb dJ3_checkIndex_8e157_1 (by decide) (fun c_1 => ?_) (fun c_1 => ?_)
  · skip
    exfalso
    have z_1 := Int32.lt_iff_toInt_lt.mp c_1
    have y_0 : (0 : Int32).toInt = 0 := by decide
    omega
  · skip
    refine lv_iload_n hx hb dJ3_checkIndex_8e157_4 rfl (lv_at hl 0 rfl) ?_
    refine lv_iload_n hx hb dJ3_checkIndex_8e157_5 rfl (lv_at hl 1 rfl) ?_
    refine lv_icmp_lt (tgt := 16) hx hb dJ3_checkIndex_8e157_6 (by decide) (fun c_2 => ?_) (fun c_2 => ?_)
    · skip
      refine lv_iload_n hx hb dJ3_checkIndex_8e157_16 rfl (lv_at hl 0 rfl) ?_
      exact retI (v := x1) hx hb hr hlk (rfl) hP hD hS () ⟨_, rfl, trivial⟩ [] rfl rfl dJ3_checkIndex_8e157_17 (Nat.le_of_ble_eq_true rfl) (Nat.le_of_ble_eq_true rfl) rfl
    · skip
      exfalso
      have z_1 := Int32.le_iff_toInt_le.mp (Int32.not_lt.mp c_1)
      have z_2 := Int32.le_iff_toInt_le.mp (Int32.not_lt.mp c_2)
      have y_0 : (0 : Int32).toInt = 0 := by decide
      omega

set_option maxHeartbeats 4000000 in
set_option maxRecDepth 100000 in
theorem ct_J0_checkIndex (l : Launch) (D : va_G) (tc : Nat → ClassId) (sk : (Nat → Nat) × (Nat → Nat)) (x1 : Int32) (x2 : Int32) (hk : 0 ≤ x1.toInt ∧ x1.toInt < x2.toInt) : Ct l yJ0_checkIndex_df160 cJ0_checkIndex_df160 2 none { frames := 1, cells := 0, slots := 0, locals := 22 } D tc sk [.int x1, .int x2] [] (fun (v : Option Value) (_ : Unit) => v = none) (fun (_ : Unit) => []) 0 0 := by
  refine Ct.start (by decide) (Nat.le_of_ble_eq_true rfl) (fun p e s m below meth c A ls hx hb hr hlk hin hml hown hts hK hX hP hD hA hl hS => ?_)
  have hl : lv_has ls 2 [(0, .int x1), (1, .int x2)] := hl
  refine lv_iload_n hx hb dJ0_checkIndex_df160_0 rfl (lv_at hl 0 rfl) ?_
  refine lv_iload_n hx hb dJ0_checkIndex_df160_1 rfl (lv_at hl 1 rfl) ?_
  rcases hX.2.2.1 with hz_1 | ⟨tz_2, hz_1⟩
  · skip
    refine va_gets hx hb hz_1 hS hown (hts _ k_526) (fun _ h9 => h9) dJ0_checkIndex_df160_2 ?_
    have hh_3 : 0 ≤ x1.toInt ∧ x1.toInt < x2.toInt := by
      first | assumption | omega
    refine cS (As := [.int x1, .int x2, .null]) (rest := []) (wr := []) ⟨hx, hb, hml, hown, hts⟩ hK hX hA (ct_J3_checkIndex_n l D tc sk x1 x2 hh_3) k_530 k_528 k_529 k_109 pl_J3_checkIndex_8e157 ⟨Nat.le_of_ble_eq_true rfl, Nat.le_of_ble_eq_true rfl⟩ rfl rfl  hP hD hS [] [] rfl rfl rfl rfl rfl (by decide) rfl hl.1 rfl (Nat.le_of_ble_eq_true rfl) dJ0_checkIndex_df160_5 ⟨Nat.le_of_ble_eq_true rfl, Nat.le_of_ble_eq_true rfl⟩ (fun v_4 u_5 H locs hv_6 hP hD hS => ?_)
    obtain ⟨r_7, rfl, he_8⟩ := hv_6
    have he_8 : (True) := he_8
    refine W.eq (g2 := F0 m 8 ls [.int r_7]) rfl ?_
    have hP : va_P D classes [] H := hP
    have hD : va_D A [] := hD
    refine lv_pop hx hb dJ0_checkIndex_df160_8 rfl ?_
    exact retV hx hb hr hlk hP hD hS () rfl [] rfl rfl dJ0_checkIndex_df160_9 (Nat.le_of_ble_eq_true rfl) (Nat.le_of_ble_eq_true rfl) rfl
  · skip
    refine va_gets hx hb hz_1 hS hown (hts _ k_526) (fun _ h9 => h9) dJ0_checkIndex_df160_2 ?_
    have hh_9 : 0 ≤ x1.toInt ∧ x1.toInt < x2.toInt := by
      first | assumption | omega
    refine cS (As := [.int x1, .int x2, .ref tz_2]) (rest := []) (wr := []) ⟨hx, hb, hml, hown, hts⟩ hK hX hA (ct_J3_checkIndex_r l D tc sk tz_2 x1 x2 hh_9) k_530 k_528 k_529 k_109 pl_J3_checkIndex_8e157 ⟨Nat.le_of_ble_eq_true rfl, Nat.le_of_ble_eq_true rfl⟩ rfl rfl  hP hD hS [] [] rfl rfl rfl rfl rfl (by decide) rfl hl.1 rfl (Nat.le_of_ble_eq_true rfl) dJ0_checkIndex_df160_5 ⟨Nat.le_of_ble_eq_true rfl, Nat.le_of_ble_eq_true rfl⟩ (fun v_10 u_11 H locs hv_12 hP hD hS => ?_)
    obtain ⟨r_13, rfl, he_14⟩ := hv_12
    have he_14 : (True) := he_14
    refine W.eq (g2 := F0 m 8 ls [.int r_13]) rfl ?_
    have hP : va_P D classes [] H := hP
    have hD : va_D A [] := hD
    refine lv_pop hx hb dJ0_checkIndex_df160_8 rfl ?_
    exact retV hx hb hr hlk hP hD hS () rfl [] rfl rfl dJ0_checkIndex_df160_9 (Nat.le_of_ble_eq_true rfl) (Nat.le_of_ble_eq_true rfl) rfl

set_option maxHeartbeats 4000000 in
set_option maxRecDepth 100000 in
theorem ct_J1_charAt (l : Launch) (D : va_G) (tc : Nat → ClassId) (sk : (Nat → Nat) × (Nat → Nat)) (i : Nat) (x1 : Int32) (hi : i < 7) (hk : 0 ≤ x1.toInt ∧ x1.toInt < ((lenS.getD i 0 : Nat) : Int)) : Ct l yJ1_charAt_3b067 cJ1_charAt_3b067 2 (some .char) { frames := 2, cells := 0, slots := 0, locals := 43 } D tc sk [.ref (sk.2 i), .int x1] [] (fun (v : Option Value) (_ : Unit) => ∃ r : Int32, v = some (.int r) ∧ (narrow .char (.int r) = .int r)) (fun (_ : Unit) => []) 0 0 := by
  refine Ct.start (by decide) (Nat.le_of_ble_eq_true rfl) (fun p e s m below meth c A ls hx hb hr hlk hin hml hown hts hK hX hP hD hA hl hS => ?_)
  have hl : lv_has ls 2 [(0, .ref (sk.2 i)), (1, .int x1)] := hl
  have hl75 := lenS_le hi
  refine lv_iload_n hx hb dJ1_charAt_3b067_0 rfl (lv_at hl 1 rfl) ?_
  refine lv_aload_n hx hb dJ1_charAt_3b067_1 rfl (lv_at hl 0 rfl) ?_
  refine va_tlen hx hb (hX.1.1 i hi).2.2.2 hS (v := nI (lenS.getD i 0)) rfl dJ1_charAt_3b067_2 ?_
  have hh_1 : 0 ≤ x1.toInt ∧ x1.toInt < (nI (lenS.getD i 0)).toInt := by
    have n_0 : (nI (lenS.getD i 0)).toInt = (((lenS.getD i 0) : Nat) : Int) := nI_toInt (by omega)
    first | assumption | omega
  refine cS (As := [.int x1, .int (nI (lenS.getD i 0))]) (rest := []) (wr := []) ⟨hx, hb, hml, hown, hts⟩ hK hX hA (ct_J0_checkIndex l D tc sk x1 (nI (lenS.getD i 0)) hh_1) k_525 k_523 k_524 k_107 pl_J0_checkIndex_df160 ⟨Nat.le_of_ble_eq_true rfl, Nat.le_of_ble_eq_true rfl⟩ rfl rfl  hP hD hS [] [] rfl rfl rfl rfl rfl (by decide) rfl hl.1 rfl (Nat.le_of_ble_eq_true rfl) dJ1_charAt_3b067_3 ⟨Nat.le_of_ble_eq_true rfl, Nat.le_of_ble_eq_true rfl⟩ (fun v_2 u_3 H locs hv_4 hP hD hS => ?_)
  obtain rfl : v_2 = none := hv_4
  refine W.eq (g2 := F0 m 6 ls []) rfl ?_
  have hP : va_P D classes [] H := hP
  have hD : va_D A [] := hD
  refine lv_aload_n hx hb dJ1_charAt_3b067_6 rfl (lv_at hl 0 rfl) ?_
  refine lv_iload_n hx hb dJ1_charAt_3b067_7 rfl (lv_at hl 1 rfl) ?_
  have hi_5 : vp_in x1 (lenS.getD i 0) := by
    refine vp_in_iff.mpr ⟨?_, ?_⟩ <;> omega
  refine va_tb hx hb (hX.1.1 i hi).2.2.2 hS hi_5 (v := .int ((bytS.getD i []).getD (x1 : Int32).toNatClampNeg 0)) rfl dJ1_charAt_3b067_8 ?_
  refine lv_sipush (v := 255) hx hb dJ1_charAt_3b067_9 (by decide) ?_
  refine lv_iand hx hb dJ1_charAt_3b067_12 ?_
  refine lv_topi (fun x_6 ex_6 => ?_)
  obtain ⟨x_7, ex_7⟩ : ∃ y : Int32, y = ((x_6 : Int32).toUInt32 % 65536).toInt32 := ⟨_, rfl⟩
  refine lv_i2c (v := x_7) hx hb dJ1_charAt_3b067_13 ex_7.symm ?_
  exact retI (v := x_7) hx hb hr hlk (by rw [ex_7, ex_6]; exact nar_ch _) hP hD hS () ⟨_, rfl, (by rw [ex_7, ex_6]; exact nar_ch _)⟩ [] rfl rfl dJ1_charAt_3b067_14 (Nat.le_of_ble_eq_true rfl) (Nat.le_of_ble_eq_true rfl) rfl

set_option maxHeartbeats 4000000 in
set_option maxRecDepth 100000 in
theorem ct_J0_charAt (l : Launch) (D : va_G) (tc : Nat → ClassId) (sk : (Nat → Nat) × (Nat → Nat)) (i : Nat) (x1 : Int32) (hi : i < 7) (hk : 0 ≤ x1.toInt ∧ x1.toInt < ((lenS.getD i 0 : Nat) : Int)) : Ct l yJ0_charAt_5068e cJ0_charAt_5068e 2 (some .char) { frames := 3, cells := 0, slots := 0, locals := 64 } D tc sk [.ref (sk.1 i), .int x1] [] (fun (v : Option Value) (_ : Unit) => ∃ r : Int32, v = some (.int r) ∧ (narrow .char (.int r) = .int r)) (fun (_ : Unit) => []) 0 0 := by
  refine Ct.start (by decide) (Nat.le_of_ble_eq_true rfl) (fun p e s m below meth c A ls hx hb hr hlk hin hml hown hts hK hX hP hD hA hl hS => ?_)
  have hl : lv_has ls 2 [(0, .ref (sk.1 i)), (1, .int x1)] := hl
  refine lv_aload_n hx hb dJ0_charAt_5068e_0 rfl (lv_at hl 0 rfl) ?_
  have hh_1 : i < 7 := by
    first | assumption | omega
  refine cV (a := (sk.1 i)) (As := []) (rest := []) (wr := []) ⟨hx, hb, hml, hown, hts⟩ hK hX hA (ct_J0_isLatin1 l D tc sk i hh_1) k_519 k_516 k_517 k_518 k_107 pl_J0_isLatin1_aae02 ⟨Nat.le_of_ble_eq_true rfl, Nat.le_of_ble_eq_true rfl⟩ rfl rfl (vk_recv hX.1 hi hS) hP hD hS [] [] rfl rfl rfl rfl rfl (by decide) rfl hl.1 rfl (Nat.le_of_ble_eq_true rfl) dJ0_charAt_5068e_1 ⟨Nat.le_of_ble_eq_true rfl, Nat.le_of_ble_eq_true rfl⟩ (fun v_2 u_3 H locs hv_4 hP hD hS => ?_)
  obtain ⟨r_5, rfl, he_6⟩ := hv_4
  have he_6 : (r_5.toInt = 1) := he_6
  refine W.eq (g2 := F0 m 4 ls [.int r_5]) rfl ?_
  have hP : va_P D classes [] H := hP
  have hD : va_D A [] := hD
  obtain rfl : r_5 = 1 := Int32.toInt_inj.mp (he_6.trans (by decide))
  have hP := hP
  refine lv_if_eq (tgt := 16) hx hb dJ0_charAt_5068e_4 (by decide) (fun c_7 => absurd c_7 (by decide)) (fun c_7 => ?_)
  refine lv_aload_n hx hb dJ0_charAt_5068e_7 rfl (lv_at hl 0 rfl) ?_
  refine vk_getf hx hb (hX.1.1 i hi).2.2.1 hS hown (hts _ k_1656) (fun _ h9 => h9) dJ0_charAt_5068e_8 ?_
  refine lv_iload_n hx hb dJ0_charAt_5068e_11 rfl (lv_at hl 1 rfl) ?_
  have hh_8 : i < 7 := by
    first | assumption | omega
  have hh_9 : 0 ≤ x1.toInt ∧ x1.toInt < ((lenS.getD i 0 : Nat) : Int) := by
    first | assumption | omega
  refine cS (As := [.ref (sk.2 i), .int x1]) (rest := []) (wr := []) ⟨hx, hb, hml, hown, hts⟩ hK hX hA (ct_J1_charAt l D tc sk i x1 hh_8 hh_9) k_522 k_520 k_521 k_108 pl_J1_charAt_3b067 ⟨Nat.le_of_ble_eq_true rfl, Nat.le_of_ble_eq_true rfl⟩ rfl rfl  hP hD hS [] [] rfl rfl rfl rfl rfl (by decide) rfl hl.1 rfl (Nat.le_of_ble_eq_true rfl) dJ0_charAt_5068e_12 ⟨Nat.le_of_ble_eq_true rfl, Nat.le_of_ble_eq_true rfl⟩ (fun v_10 u_11 H locs hv_12 hP hD hS => ?_)
  obtain ⟨r_13, rfl, he_14⟩ := hv_12
  have he_14 : (narrow .char (.int r_13) = .int r_13) := he_14
  refine W.eq (g2 := F0 m 15 ls [.int r_13]) rfl ?_
  have hP : va_P D classes [] H := hP
  have hD : va_D A [] := hD
  exact retI (v := r_13) hx hb hr hlk (he_14) hP hD hS () ⟨_, rfl, he_14⟩ [] rfl rfl dJ0_charAt_5068e_15 (Nat.le_of_ble_eq_true rfl) (Nat.le_of_ble_eq_true rfl) rfl

set_option maxHeartbeats 4000000 in
set_option maxRecDepth 100000 in
theorem ct_X10_isPartOf (l : Launch) (D : va_G) (tc : Nat → ClassId) (sk : (Nat → Nat) × (Nat → Nat)) (Ta : Nat → Nat) (Tv : Nat → Int32) (Tf : Nat → Nat → Int32) (i : Nat) (x2 : Int32) (x3 : Int32) (hi : i < 7) (hft : 0 ≤ x2.toInt ∧ x2.toInt ≤ 75 ∧ 0 ≤ x3.toInt ∧ x3.toInt ≤ 75) (h_tape : 0 ≤ ((Tv 0) : Int32).toInt ∧ ((Tv 0) : Int32).toInt ≤ 400 ∧ 0 ≤ ((Tv 1) : Int32).toInt ∧ ((Tv 1) : Int32).toInt ≤ 400 ∧ 0 ≤ ((Tv 2) : Int32).toInt ∧ ((Tv 2) : Int32).toInt ≤ 400) : Ct l yX10_isPartOf cX10_isPartOf 5 (some .boolean) { frames := 4, cells := 0, slots := 0, locals := 85 } D tc sk [.ref (Ta 0), .ref (sk.1 i), .int x2, .int x3] [((Ta 0), .inr (10, [.ref (Ta 1), .int (Tv 0), .int (Tv 1), .int (Tv 2), .int (Tv 3), .int (Tv 4)])), ((Ta 1), .inl (tc 0, 400, .inl (Tf 1)))] (fun (v : Option Value) (_ : Unit) => ∃ r : Int32, v = some (.int r) ∧ ((r.toInt = 0 ∨ r.toInt = 1)) ∧ (0 ≤ ((Tv 0) : Int32).toInt ∧ ((Tv 0) : Int32).toInt ≤ 400 ∧ 0 ≤ ((Tv 1) : Int32).toInt ∧ ((Tv 1) : Int32).toInt ≤ 400 ∧ 0 ≤ ((Tv 2) : Int32).toInt ∧ ((Tv 2) : Int32).toInt ≤ 400)) (fun (_ : Unit) => [((Ta 0), .inr (10, [.ref (Ta 1), .int (Tv 0), .int (Tv 1), .int (Tv 2), .int (Tv 3), .int (Tv 4)])), ((Ta 1), .inl (tc 0, 400, .inl (Tf 1)))]) 0 0 := by
  refine Ct.start (by decide) (Nat.le_of_ble_eq_true rfl) (fun p e s m below meth c A ls hx hb hr hlk hin hml hown hts hK hX hP hD hA hl hS => ?_)
  have hl : lv_has ls 5 [(0, .ref (Ta 0)), (1, .ref (sk.1 i)), (2, .int x2), (3, .int x3)] := hl
  refine lv_aload_n hx hb dX10_isPartOf_0 rfl (lv_at hl 0 rfl) ?_
  refine gf_X10_28 hx hb hts hown hK hP 0 rfl rfl dX10_isPartOf_1 ?_
  refine lv_if_ne (tgt := 34) hx hb dX10_isPartOf_4 (by decide) (fun c_1 => ?_) (fun c_1 => ?_)
  · skip
    refine lv_iconst (v := 0) hx hb dX10_isPartOf_34 (by decide) ?_
    have hq_2 : 0 ≤ ((Tv 0) : Int32).toInt ∧ ((Tv 0) : Int32).toInt ≤ 400 ∧ 0 ≤ ((Tv 1) : Int32).toInt ∧ ((Tv 1) : Int32).toInt ≤ 400 ∧ 0 ≤ ((Tv 2) : Int32).toInt ∧ ((Tv 2) : Int32).toInt ≤ 400 := by
      have z_1 : ¬ ((Tv 4) : Int32).toInt = (0 : Int32).toInt := fun z => c_1 (Int32.toInt_inj.mp z)
      have y_0 : (0 : Int32).toInt = 0 := by decide
      first | assumption | omega
    have hp_3 : ((0 : Int32).toInt = 0 ∨ (0 : Int32).toInt = 1) := by
      have z_1 : ¬ ((Tv 4) : Int32).toInt = (0 : Int32).toInt := fun z => c_1 (Int32.toInt_inj.mp z)
      have y_0 : (0 : Int32).toInt = 0 := by decide
      omega
    exact retI (v := 0) hx hb hr hlk (rfl) hP hD hS () ⟨_, rfl, hp_3, hq_2⟩ [0, 1] rfl rfl dX10_isPartOf_35 (Nat.le_of_ble_eq_true rfl) (Nat.le_of_ble_eq_true rfl) rfl
  · skip
    refine lv_aload_n hx hb dX10_isPartOf_7 rfl (lv_at hl 0 rfl) ?_
    refine gf_X10_22 hx hb hts hown hK hP 0 rfl rfl dX10_isPartOf_8 ?_
    refine lv_aload_n hx hb dX10_isPartOf_11 rfl (lv_at hl 0 rfl) ?_
    refine gf_X10_19 hx hb hts hown hK hP 0 rfl rfl dX10_isPartOf_12 ?_
    refine lv_isub hx hb dX10_isPartOf_15 ?_
    refine lv_topi (fun x_4 ex_4 => ?_)
    refine lv_iload_n hx hb dX10_isPartOf_16 rfl (lv_at hl 3 rfl) ?_
    refine lv_iload_n hx hb dX10_isPartOf_17 rfl (lv_at hl 2 rfl) ?_
    refine lv_isub hx hb dX10_isPartOf_18 ?_
    refine lv_topi (fun x_5 ex_5 => ?_)
    refine lv_icmp_ne (tgt := 34) hx hb dX10_isPartOf_19 (by decide) (fun c_6 => ?_) (fun c_6 => ?_)
    · skip
      refine lv_iconst (v := 0) hx hb dX10_isPartOf_34 (by decide) ?_
      have hq_7 : 0 ≤ ((Tv 0) : Int32).toInt ∧ ((Tv 0) : Int32).toInt ≤ 400 ∧ 0 ≤ ((Tv 1) : Int32).toInt ∧ ((Tv 1) : Int32).toInt ≤ 400 ∧ 0 ≤ ((Tv 2) : Int32).toInt ∧ ((Tv 2) : Int32).toInt ≤ 400 := by
        have z_1 := congrArg Int32.toInt c_1
        have z_2 : ¬ (x_4 : Int32).toInt = (x_5 : Int32).toInt := fun z => c_6 (Int32.toInt_inj.mp z)
        have y_0 : (0 : Int32).toInt = 0 := by decide
        have t_x_4 : x_4.toInt = ((Tv 2) : Int32).toInt - ((Tv 1) : Int32).toInt := by rw [ex_4]; exact sub_toInt (by omega) (by omega)
        have t_x_5 : x_5.toInt = (x3 : Int32).toInt - (x2 : Int32).toInt := by rw [ex_5]; exact sub_toInt (by omega) (by omega)
        first | assumption | omega
      have hp_8 : ((0 : Int32).toInt = 0 ∨ (0 : Int32).toInt = 1) := by
        have z_1 := congrArg Int32.toInt c_1
        have z_2 : ¬ (x_4 : Int32).toInt = (x_5 : Int32).toInt := fun z => c_6 (Int32.toInt_inj.mp z)
        have y_0 : (0 : Int32).toInt = 0 := by decide
        have t_x_4 : x_4.toInt = ((Tv 2) : Int32).toInt - ((Tv 1) : Int32).toInt := by rw [ex_4]; exact sub_toInt (by omega) (by omega)
        have t_x_5 : x_5.toInt = (x3 : Int32).toInt - (x2 : Int32).toInt := by rw [ex_5]; exact sub_toInt (by omega) (by omega)
        omega
      exact retI (v := 0) hx hb hr hlk (rfl) hP hD hS () ⟨_, rfl, hp_8, hq_7⟩ [0, 1] rfl rfl dX10_isPartOf_35 (Nat.le_of_ble_eq_true rfl) (Nat.le_of_ble_eq_true rfl) rfl
    · skip
      refine lv_iload_n hx hb dX10_isPartOf_22 rfl (lv_at hl 2 rfl) ?_
      refine lv_if_lt (tgt := 34) hx hb dX10_isPartOf_23 (by decide) (fun c_9 => ?_) (fun c_9 => ?_)
      · skip
        refine lv_iconst (v := 0) hx hb dX10_isPartOf_34 (by decide) ?_
        have hq_10 : 0 ≤ ((Tv 0) : Int32).toInt ∧ ((Tv 0) : Int32).toInt ≤ 400 ∧ 0 ≤ ((Tv 1) : Int32).toInt ∧ ((Tv 1) : Int32).toInt ≤ 400 ∧ 0 ≤ ((Tv 2) : Int32).toInt ∧ ((Tv 2) : Int32).toInt ≤ 400 := by
          have z_1 := congrArg Int32.toInt c_1
          have z_2 := congrArg Int32.toInt c_6
          have z_3 := Int32.lt_iff_toInt_lt.mp c_9
          have y_0 : (0 : Int32).toInt = 0 := by decide
          have t_x_4 : x_4.toInt = ((Tv 2) : Int32).toInt - ((Tv 1) : Int32).toInt := by rw [ex_4]; exact sub_toInt (by omega) (by omega)
          have t_x_5 : x_5.toInt = (x3 : Int32).toInt - (x2 : Int32).toInt := by rw [ex_5]; exact sub_toInt (by omega) (by omega)
          first | assumption | omega
        have hp_11 : ((0 : Int32).toInt = 0 ∨ (0 : Int32).toInt = 1) := by
          have z_1 := congrArg Int32.toInt c_1
          have z_2 := congrArg Int32.toInt c_6
          have z_3 := Int32.lt_iff_toInt_lt.mp c_9
          have y_0 : (0 : Int32).toInt = 0 := by decide
          have t_x_4 : x_4.toInt = ((Tv 2) : Int32).toInt - ((Tv 1) : Int32).toInt := by rw [ex_4]; exact sub_toInt (by omega) (by omega)
          have t_x_5 : x_5.toInt = (x3 : Int32).toInt - (x2 : Int32).toInt := by rw [ex_5]; exact sub_toInt (by omega) (by omega)
          omega
        exact retI (v := 0) hx hb hr hlk (rfl) hP hD hS () ⟨_, rfl, hp_11, hq_10⟩ [0, 1] rfl rfl dX10_isPartOf_35 (Nat.le_of_ble_eq_true rfl) (Nat.le_of_ble_eq_true rfl) rfl
      · skip
        refine lv_iload_n hx hb dX10_isPartOf_26 rfl (lv_at hl 3 rfl) ?_
        refine lv_aload_n hx hb dX10_isPartOf_27 rfl (lv_at hl 1 rfl) ?_
        have hh_12 : i < 7 := by
          have z_1 := congrArg Int32.toInt c_1
          have z_2 := congrArg Int32.toInt c_6
          have z_3 := Int32.le_iff_toInt_le.mp (Int32.not_lt.mp c_9)
          have y_0 : (0 : Int32).toInt = 0 := by decide
          have t_x_4 : x_4.toInt = ((Tv 2) : Int32).toInt - ((Tv 1) : Int32).toInt := by rw [ex_4]; exact sub_toInt (by omega) (by omega)
          have t_x_5 : x_5.toInt = (x3 : Int32).toInt - (x2 : Int32).toInt := by rw [ex_5]; exact sub_toInt (by omega) (by omega)
          first | assumption | omega
        refine cV (a := (sk.1 i)) (As := []) (rest := [.int x3]) (wr := [((Ta 0), .inr (10, [.ref (Ta 1), .int (Tv 0), .int (Tv 1), .int (Tv 2), .int (Tv 3), .int (Tv 4)])), ((Ta 1), .inl (tc 0, 400, .inl (Tf 1)))]) ⟨hx, hb, hml, hown, hts⟩ hK hX hA (ct_J0_length l D tc sk i hh_12) k_505 k_502 k_503 k_504 k_107 pl_J0_length_8abf5 ⟨Nat.le_of_ble_eq_true rfl, Nat.le_of_ble_eq_true rfl⟩ rfl rfl (vk_recv hX.1 hi hS) hP hD hS [] [0, 1] rfl rfl rfl rfl rfl (by decide) rfl hl.1 rfl (Nat.le_of_ble_eq_true rfl) dX10_isPartOf_28 ⟨Nat.le_of_ble_eq_true rfl, Nat.le_of_ble_eq_true rfl⟩ (fun v_13 u_14 H locs hv_15 hP hD hS => ?_)
        obtain ⟨r_16, rfl, he_17⟩ := hv_15
        have he_17 : (r_16.toInt = ((lenS.getD i 0 : Nat) : Int)) := he_17
        refine W.eq (g2 := F0 m 31 ls [.int r_16, .int x3]) rfl ?_
        have hP : va_P D classes [((Ta 0), .inr (10, [.ref (Ta 1), .int (Tv 0), .int (Tv 1), .int (Tv 2), .int (Tv 3), .int (Tv 4)])), ((Ta 1), .inl (tc 0, 400, .inl (Tf 1)))] H := hP
        have hD : va_D A [((Ta 0), .inr (10, [.ref (Ta 1), .int (Tv 0), .int (Tv 1), .int (Tv 2), .int (Tv 3), .int (Tv 4)])), ((Ta 1), .inl (tc 0, 400, .inl (Tf 1)))] := hD
        refine lv_icmp_le (tgt := 36) hx hb dX10_isPartOf_31 (by decide) (fun c_18 => ?_) (fun c_18 => ?_)
        · skip
          refine lv_aload_n hx hb dX10_isPartOf_36 rfl (lv_at hl 0 rfl) ?_
          refine gf_X10_19 hx hb hts hown hK hP 0 rfl rfl dX10_isPartOf_37 ?_
          refine lv_if_lt (tgt := 55) hx hb dX10_isPartOf_40 (by decide) (fun c_19 => ?_) (fun c_19 => ?_)
          · skip
            refine lv_iconst (v := 0) hx hb dX10_isPartOf_55 (by decide) ?_
            have hq_20 : 0 ≤ ((Tv 0) : Int32).toInt ∧ ((Tv 0) : Int32).toInt ≤ 400 ∧ 0 ≤ ((Tv 1) : Int32).toInt ∧ ((Tv 1) : Int32).toInt ≤ 400 ∧ 0 ≤ ((Tv 2) : Int32).toInt ∧ ((Tv 2) : Int32).toInt ≤ 400 := by
              have z_1 := congrArg Int32.toInt c_1
              have z_2 := congrArg Int32.toInt c_6
              have z_3 := Int32.le_iff_toInt_le.mp (Int32.not_lt.mp c_9)
              have z_4 := Int32.le_iff_toInt_le.mp c_18
              have z_5 := Int32.lt_iff_toInt_lt.mp c_19
              have y_0 : (0 : Int32).toInt = 0 := by decide
              have t_x_4 : x_4.toInt = ((Tv 2) : Int32).toInt - ((Tv 1) : Int32).toInt := by rw [ex_4]; exact sub_toInt (by omega) (by omega)
              have t_x_5 : x_5.toInt = (x3 : Int32).toInt - (x2 : Int32).toInt := by rw [ex_5]; exact sub_toInt (by omega) (by omega)
              first | assumption | omega
            have hp_21 : ((0 : Int32).toInt = 0 ∨ (0 : Int32).toInt = 1) := by
              have z_1 := congrArg Int32.toInt c_1
              have z_2 := congrArg Int32.toInt c_6
              have z_3 := Int32.le_iff_toInt_le.mp (Int32.not_lt.mp c_9)
              have z_4 := Int32.le_iff_toInt_le.mp c_18
              have z_5 := Int32.lt_iff_toInt_lt.mp c_19
              have y_0 : (0 : Int32).toInt = 0 := by decide
              have t_x_4 : x_4.toInt = ((Tv 2) : Int32).toInt - ((Tv 1) : Int32).toInt := by rw [ex_4]; exact sub_toInt (by omega) (by omega)
              have t_x_5 : x_5.toInt = (x3 : Int32).toInt - (x2 : Int32).toInt := by rw [ex_5]; exact sub_toInt (by omega) (by omega)
              omega
            exact retI (v := 0) hx hb hr hlk (rfl) hP hD hS () ⟨_, rfl, hp_21, hq_20⟩ [0, 1] rfl rfl dX10_isPartOf_56 (Nat.le_of_ble_eq_true rfl) (Nat.le_of_ble_eq_true rfl) rfl
          · skip
            refine lv_aload_n hx hb dX10_isPartOf_43 rfl (lv_at hl 0 rfl) ?_
            refine gf_X10_22 hx hb hts hown hK hP 0 rfl rfl dX10_isPartOf_44 ?_
            refine lv_aload_n hx hb dX10_isPartOf_47 rfl (lv_at hl 0 rfl) ?_
            refine gf_X10_9 hx hb hts hown hK hP 0 rfl rfl dX10_isPartOf_48 ?_
            refine va_alen hx hb hK hP 1 0 rfl rfl (v := 400) rfl dX10_isPartOf_51 ?_
            refine lv_icmp_le (tgt := 57) hx hb dX10_isPartOf_52 (by decide) (fun c_22 => ?_) (fun c_22 => ?_)
            · skip
              refine lv_iload_n hx hb dX10_isPartOf_57 rfl (lv_at hl 2 rfl) ?_
              refine lv_istore (lv' := [(4, .int x2), (0, .ref (Ta 0)), (1, .ref (sk.1 i)), (2, .int x2), (3, .int x3)]) hx hb dX10_isPartOf_58 hl (by decide) rfl (fun ls hl => ?_)
              have loop_27 : ∀ (n_25 : Nat) (vy_24 : Int32) (H : Heap) (locs : List Loc) (ls : Array Slot), 0 ≤ (vy_24 : Int32).toInt → (75 - (vy_24 : Int32).toInt).toNat < n_25 → x2.toInt ≤ (vy_24 : Int32).toInt → va_P D classes [((Ta 0), .inr (10, [.ref (Ta 1), .int (Tv 0), .int (Tv 1), .int (Tv 2), .int (Tv 3), .int (Tv 4)])), ((Ta 1), .inl (tc 0, 400, .inl (Tf 1)))] H → va_D A [((Ta 0), .inr (10, [.ref (Ta 1), .int (Tv 0), .int (Tv 1), .int (Tv 2), .int (Tv 3), .int (Tv 4)])), ((Ta 1), .inl (tc 0, 400, .inl (Tf 1)))] → va_S A s.heap H locs → lv_has ls 5 [(4, .int vy_24), (0, .ref (Ta 0)), (1, .ref (sk.1 i)), (2, .int x2), (3, .int x3)] → W p l e ({ frames := 4, cells := 0, slots := 0, locals := 85 }) s m ([.ref (Ta 0), .ref (sk.1 i), .int x2, .int x3].toArray) below meth c H locs 0 0 (MQ below (QW (fun (v : Option Value) (_ : Unit) => ∃ r : Int32, v = some (.int r) ∧ ((r.toInt = 0 ∨ r.toInt = 1)) ∧ (0 ≤ ((Tv 0) : Int32).toInt ∧ ((Tv 0) : Int32).toInt ≤ 400 ∧ 0 ≤ ((Tv 1) : Int32).toInt ∧ ((Tv 1) : Int32).toInt ≤ 400 ∧ 0 ≤ ((Tv 2) : Int32).toInt ∧ ((Tv 2) : Int32).toInt ≤ 400)) (BW D (fun (_ : Unit) => [((Ta 0), .inr (10, [.ref (Ta 1), .int (Tv 0), .int (Tv 1), .int (Tv 2), .int (Tv 3), .int (Tv 4)])), ((Ta 1), .inl (tc 0, 400, .inl (Tf 1)))]) A) A) ([.ref (Ta 0), .ref (sk.1 i), .int x2, .int x3].toArray) s 0 0 A) (F0 m 60 ls []) := by
                intro n_25
                induction n_25 with
                | zero =>
                  intro vy_24 H locs ls h1 h2
                  exact absurd h2 (Nat.not_lt_zero _)
                | succ n_25 ih_26 =>
                  intro vy_24 H locs ls hi_29 hn_30 hv_28 hP hD hS hl
                  refine lv_iload hx hb dX10_isPartOf_60 (lv_at hl 0 rfl) ?_
                  refine lv_iload_n hx hb dX10_isPartOf_62 rfl (lv_at hl 4 rfl) ?_
                  refine lv_icmp_ge (tgt := 97) hx hb dX10_isPartOf_63 (by decide) (fun c_31 => ?_) (fun c_31 => ?_)
                  · skip
                    refine lv_iconst (v := 1) hx hb dX10_isPartOf_97 (by decide) ?_
                    have hq_32 : 0 ≤ ((Tv 0) : Int32).toInt ∧ ((Tv 0) : Int32).toInt ≤ 400 ∧ 0 ≤ ((Tv 1) : Int32).toInt ∧ ((Tv 1) : Int32).toInt ≤ 400 ∧ 0 ≤ ((Tv 2) : Int32).toInt ∧ ((Tv 2) : Int32).toInt ≤ 400 := by
                      have z_1 := congrArg Int32.toInt c_1
                      have z_2 := congrArg Int32.toInt c_6
                      have z_3 := Int32.le_iff_toInt_le.mp (Int32.not_lt.mp c_9)
                      have z_4 := Int32.le_iff_toInt_le.mp c_18
                      have z_5 := Int32.le_iff_toInt_le.mp (Int32.not_lt.mp c_19)
                      have z_6 := Int32.le_iff_toInt_le.mp c_22
                      have z_7 := Int32.le_iff_toInt_le.mp c_31
                      have y_0 : (0 : Int32).toInt = 0 := by decide
                      have y_400 : (400 : Int32).toInt = 400 := by decide
                      have t_x_4 : x_4.toInt = ((Tv 2) : Int32).toInt - ((Tv 1) : Int32).toInt := by rw [ex_4]; exact sub_toInt (by omega) (by omega)
                      have t_x_5 : x_5.toInt = (x3 : Int32).toInt - (x2 : Int32).toInt := by rw [ex_5]; exact sub_toInt (by omega) (by omega)
                      first | assumption | omega
                    have hp_33 : ((1 : Int32).toInt = 0 ∨ (1 : Int32).toInt = 1) := by
                      have z_1 := congrArg Int32.toInt c_1
                      have z_2 := congrArg Int32.toInt c_6
                      have z_3 := Int32.le_iff_toInt_le.mp (Int32.not_lt.mp c_9)
                      have z_4 := Int32.le_iff_toInt_le.mp c_18
                      have z_5 := Int32.le_iff_toInt_le.mp (Int32.not_lt.mp c_19)
                      have z_6 := Int32.le_iff_toInt_le.mp c_22
                      have z_7 := Int32.le_iff_toInt_le.mp c_31
                      have y_0 : (0 : Int32).toInt = 0 := by decide
                      have y_400 : (400 : Int32).toInt = 400 := by decide
                      have y_1 : (1 : Int32).toInt = 1 := by decide
                      have t_x_4 : x_4.toInt = ((Tv 2) : Int32).toInt - ((Tv 1) : Int32).toInt := by rw [ex_4]; exact sub_toInt (by omega) (by omega)
                      have t_x_5 : x_5.toInt = (x3 : Int32).toInt - (x2 : Int32).toInt := by rw [ex_5]; exact sub_toInt (by omega) (by omega)
                      have yr : (1 : Int32).toInt = 1 := by decide
                      omega
                    exact retI (v := 1) hx hb hr hlk (rfl) hP hD hS () ⟨_, rfl, hp_33, hq_32⟩ [0, 1] rfl rfl dX10_isPartOf_98 (Nat.le_of_ble_eq_true rfl) (Nat.le_of_ble_eq_true rfl) rfl
                  · skip
                    refine lv_aload_n hx hb dX10_isPartOf_66 rfl (lv_at hl 1 rfl) ?_
                    refine gf_X10_9 hx hb hts hown hK hP 0 rfl rfl dX10_isPartOf_67 ?_
                    refine lv_aload_n hx hb dX10_isPartOf_70 rfl (lv_at hl 1 rfl) ?_
                    refine gf_X10_19 hx hb hts hown hK hP 0 rfl rfl dX10_isPartOf_71 ?_
                    refine lv_iload hx hb dX10_isPartOf_74 (lv_at hl 0 rfl) ?_
                    refine lv_iadd hx hb dX10_isPartOf_76 ?_
                    refine lv_topi (fun x_34 ex_34 => ?_)
                    refine lv_iload_n hx hb dX10_isPartOf_77 rfl (lv_at hl 3 rfl) ?_
                    refine lv_isub hx hb dX10_isPartOf_78 ?_
                    refine lv_topi (fun x_35 ex_35 => ?_)
                    have hi_36 : vp_in x_35 400 := by
                      have z_1 := congrArg Int32.toInt c_1
                      have z_2 := congrArg Int32.toInt c_6
                      have z_3 := Int32.le_iff_toInt_le.mp (Int32.not_lt.mp c_9)
                      have z_4 := Int32.le_iff_toInt_le.mp c_18
                      have z_5 := Int32.le_iff_toInt_le.mp (Int32.not_lt.mp c_19)
                      have z_6 := Int32.le_iff_toInt_le.mp c_22
                      have z_7 := Int32.lt_iff_toInt_lt.mp (Int32.not_le.mp c_31)
                      have y_0 : (0 : Int32).toInt = 0 := by decide
                      have y_400 : (400 : Int32).toInt = 400 := by decide
                      have t_x_34 : x_34.toInt = ((Tv 1) : Int32).toInt + (vy_24 : Int32).toInt := by rw [ex_34]; exact add_toInt (by omega) (by omega)
                      have t_x_35 : x_35.toInt = (x_34 : Int32).toInt - (x2 : Int32).toInt := by rw [ex_35]; exact sub_toInt (by omega) (by omega)
                      have t_x_4 : x_4.toInt = ((Tv 2) : Int32).toInt - ((Tv 1) : Int32).toInt := by rw [ex_4]; exact sub_toInt (by omega) (by omega)
                      have t_x_5 : x_5.toInt = (x3 : Int32).toInt - (x2 : Int32).toInt := by rw [ex_5]; exact sub_toInt (by omega) (by omega)
                      refine vp_in_iff.mpr ⟨?_, ?_⟩ <;> omega
                    refine va_iald hx hb hK hP 1 0 rfl rfl hi_36 dX10_isPartOf_79 ?_
                    refine lv_topi (fun x_37 ex_37 => ?_)
                    refine lv_aload_n hx hb dX10_isPartOf_80 rfl (lv_at hl 2 rfl) ?_
                    refine lv_iload hx hb dX10_isPartOf_81 (lv_at hl 0 rfl) ?_
                    have hh_38 : i < 7 := by
                      have z_1 := congrArg Int32.toInt c_1
                      have z_2 := congrArg Int32.toInt c_6
                      have z_3 := Int32.le_iff_toInt_le.mp (Int32.not_lt.mp c_9)
                      have z_4 := Int32.le_iff_toInt_le.mp c_18
                      have z_5 := Int32.le_iff_toInt_le.mp (Int32.not_lt.mp c_19)
                      have z_6 := Int32.le_iff_toInt_le.mp c_22
                      have z_7 := Int32.lt_iff_toInt_lt.mp (Int32.not_le.mp c_31)
                      have y_0 : (0 : Int32).toInt = 0 := by decide
                      have y_400 : (400 : Int32).toInt = 400 := by decide
                      have t_x_4 : x_4.toInt = ((Tv 2) : Int32).toInt - ((Tv 1) : Int32).toInt := by rw [ex_4]; exact sub_toInt (by omega) (by omega)
                      have t_x_5 : x_5.toInt = (x3 : Int32).toInt - (x2 : Int32).toInt := by rw [ex_5]; exact sub_toInt (by omega) (by omega)
                      first | assumption | omega
                    have hh_39 : 0 ≤ vy_24.toInt ∧ vy_24.toInt < ((lenS.getD i 0 : Nat) : Int) := by
                      have z_1 := congrArg Int32.toInt c_1
                      have z_2 := congrArg Int32.toInt c_6
                      have z_3 := Int32.le_iff_toInt_le.mp (Int32.not_lt.mp c_9)
                      have z_4 := Int32.le_iff_toInt_le.mp c_18
                      have z_5 := Int32.le_iff_toInt_le.mp (Int32.not_lt.mp c_19)
                      have z_6 := Int32.le_iff_toInt_le.mp c_22
                      have z_7 := Int32.lt_iff_toInt_lt.mp (Int32.not_le.mp c_31)
                      have y_0 : (0 : Int32).toInt = 0 := by decide
                      have y_400 : (400 : Int32).toInt = 400 := by decide
                      have t_x_4 : x_4.toInt = ((Tv 2) : Int32).toInt - ((Tv 1) : Int32).toInt := by rw [ex_4]; exact sub_toInt (by omega) (by omega)
                      have t_x_5 : x_5.toInt = (x3 : Int32).toInt - (x2 : Int32).toInt := by rw [ex_5]; exact sub_toInt (by omega) (by omega)
                      first | assumption | omega
                    refine cV (a := (sk.1 i)) (As := [.int vy_24]) (rest := [.int x_37]) (wr := [((Ta 0), .inr (10, [.ref (Ta 1), .int (Tv 0), .int (Tv 1), .int (Tv 2), .int (Tv 3), .int (Tv 4)])), ((Ta 1), .inl (tc 0, 400, .inl (Tf 1)))]) ⟨hx, hb, hml, hown, hts⟩ hK hX hA (ct_J0_charAt l D tc sk i vy_24 hh_38 hh_39) k_515 k_512 k_513 k_514 k_107 pl_J0_charAt_5068e ⟨Nat.le_of_ble_eq_true rfl, Nat.le_of_ble_eq_true rfl⟩ rfl rfl (vk_recv hX.1 hi hS) hP hD hS [] [0, 1] rfl rfl rfl rfl rfl (by decide) rfl hl.1 rfl (Nat.le_of_ble_eq_true rfl) dX10_isPartOf_83 ⟨Nat.le_of_ble_eq_true rfl, Nat.le_of_ble_eq_true rfl⟩ (fun v_40 u_41 H locs hv_42 hP hD hS => ?_)
                    obtain ⟨r_43, rfl, he_44⟩ := hv_42
                    have he_44 : (narrow .char (.int r_43) = .int r_43) := he_44
                    refine W.eq (g2 := F0 m 86 ls [.int r_43, .int x_37]) rfl ?_
                    have hP : va_P D classes [((Ta 0), .inr (10, [.ref (Ta 1), .int (Tv 0), .int (Tv 1), .int (Tv 2), .int (Tv 3), .int (Tv 4)])), ((Ta 1), .inl (tc 0, 400, .inl (Tf 1)))] H := hP
                    have hD : va_D A [((Ta 0), .inr (10, [.ref (Ta 1), .int (Tv 0), .int (Tv 1), .int (Tv 2), .int (Tv 3), .int (Tv 4)])), ((Ta 1), .inl (tc 0, 400, .inl (Tf 1)))] := hD
                    refine lv_icmp_eq (tgt := 91) hx hb dX10_isPartOf_86 (by decide) (fun c_45 => ?_) (fun c_45 => ?_)
                    · skip
                      obtain ⟨x_46, ex_46⟩ : ∃ y : Int32, y = vy_24 + 1 := ⟨_, rfl⟩
                      refine lv_iinc (v := x_46) (lv' := [(4, .int x_46), (0, .ref (Ta 0)), (1, .ref (sk.1 i)), (2, .int x2), (3, .int x3)]) hx hb dX10_isPartOf_91 hl (k := 0) rfl (by rw [ex_46]; rfl) (by decide) rfl (fun ls hl => ?_)
                      refine lv_goto (tgt := 60) hx hb dX10_isPartOf_94 (by decide) ?_
                      have hb_47 : 0 ≤ (x_46 : Int32).toInt ∧ (75 - (x_46 : Int32).toInt).toNat < n_25 := by
                        have z_1 := congrArg Int32.toInt c_1
                        have z_2 := congrArg Int32.toInt c_6
                        have z_3 := Int32.le_iff_toInt_le.mp (Int32.not_lt.mp c_9)
                        have z_4 := Int32.le_iff_toInt_le.mp c_18
                        have z_5 := Int32.le_iff_toInt_le.mp (Int32.not_lt.mp c_19)
                        have z_6 := Int32.le_iff_toInt_le.mp c_22
                        have z_7 := Int32.lt_iff_toInt_lt.mp (Int32.not_le.mp c_31)
                        have z_8 := congrArg Int32.toInt c_45
                        have y_0 : (0 : Int32).toInt = 0 := by decide
                        have y_400 : (400 : Int32).toInt = 400 := by decide
                        have y_1 : (1 : Int32).toInt = 1 := by decide
                        have t_x_46 : x_46.toInt = (vy_24 : Int32).toInt + (1 : Int32).toInt := by rw [ex_46]; exact add_toInt (by omega) (by omega)
                        have t_x_4 : x_4.toInt = ((Tv 2) : Int32).toInt - ((Tv 1) : Int32).toInt := by rw [ex_4]; exact sub_toInt (by omega) (by omega)
                        have t_x_5 : x_5.toInt = (x3 : Int32).toInt - (x2 : Int32).toInt := by rw [ex_5]; exact sub_toInt (by omega) (by omega)
                        omega
                      have hv_48 : x2.toInt ≤ (x_46 : Int32).toInt := by
                        have z_1 := congrArg Int32.toInt c_1
                        have z_2 := congrArg Int32.toInt c_6
                        have z_3 := Int32.le_iff_toInt_le.mp (Int32.not_lt.mp c_9)
                        have z_4 := Int32.le_iff_toInt_le.mp c_18
                        have z_5 := Int32.le_iff_toInt_le.mp (Int32.not_lt.mp c_19)
                        have z_6 := Int32.le_iff_toInt_le.mp c_22
                        have z_7 := Int32.lt_iff_toInt_lt.mp (Int32.not_le.mp c_31)
                        have z_8 := congrArg Int32.toInt c_45
                        have y_0 : (0 : Int32).toInt = 0 := by decide
                        have y_400 : (400 : Int32).toInt = 400 := by decide
                        have y_1 : (1 : Int32).toInt = 1 := by decide
                        have t_x_46 : x_46.toInt = (vy_24 : Int32).toInt + (1 : Int32).toInt := by rw [ex_46]; exact add_toInt (by omega) (by omega)
                        have t_x_4 : x_4.toInt = ((Tv 2) : Int32).toInt - ((Tv 1) : Int32).toInt := by rw [ex_4]; exact sub_toInt (by omega) (by omega)
                        have t_x_5 : x_5.toInt = (x3 : Int32).toInt - (x2 : Int32).toInt := by rw [ex_5]; exact sub_toInt (by omega) (by omega)
                        omega
                      exact ih_26 x_46 _ _ _ hb_47.1 hb_47.2 hv_48 (hP.sub [0, 1] rfl) (hD.sub [0, 1] rfl rfl) hS (lv_sub hl [0, 1, 2, 3, 4] rfl)
                    · skip
                      refine lv_iconst (v := 0) hx hb dX10_isPartOf_89 (by decide) ?_
                      have hq_49 : 0 ≤ ((Tv 0) : Int32).toInt ∧ ((Tv 0) : Int32).toInt ≤ 400 ∧ 0 ≤ ((Tv 1) : Int32).toInt ∧ ((Tv 1) : Int32).toInt ≤ 400 ∧ 0 ≤ ((Tv 2) : Int32).toInt ∧ ((Tv 2) : Int32).toInt ≤ 400 := by
                        have z_1 := congrArg Int32.toInt c_1
                        have z_2 := congrArg Int32.toInt c_6
                        have z_3 := Int32.le_iff_toInt_le.mp (Int32.not_lt.mp c_9)
                        have z_4 := Int32.le_iff_toInt_le.mp c_18
                        have z_5 := Int32.le_iff_toInt_le.mp (Int32.not_lt.mp c_19)
                        have z_6 := Int32.le_iff_toInt_le.mp c_22
                        have z_7 := Int32.lt_iff_toInt_lt.mp (Int32.not_le.mp c_31)
                        have z_8 : ¬ (x_37 : Int32).toInt = (r_43 : Int32).toInt := fun z => c_45 (Int32.toInt_inj.mp z)
                        have y_0 : (0 : Int32).toInt = 0 := by decide
                        have y_400 : (400 : Int32).toInt = 400 := by decide
                        have t_x_4 : x_4.toInt = ((Tv 2) : Int32).toInt - ((Tv 1) : Int32).toInt := by rw [ex_4]; exact sub_toInt (by omega) (by omega)
                        have t_x_5 : x_5.toInt = (x3 : Int32).toInt - (x2 : Int32).toInt := by rw [ex_5]; exact sub_toInt (by omega) (by omega)
                        first | assumption | omega
                      have hp_50 : ((0 : Int32).toInt = 0 ∨ (0 : Int32).toInt = 1) := by
                        have z_1 := congrArg Int32.toInt c_1
                        have z_2 := congrArg Int32.toInt c_6
                        have z_3 := Int32.le_iff_toInt_le.mp (Int32.not_lt.mp c_9)
                        have z_4 := Int32.le_iff_toInt_le.mp c_18
                        have z_5 := Int32.le_iff_toInt_le.mp (Int32.not_lt.mp c_19)
                        have z_6 := Int32.le_iff_toInt_le.mp c_22
                        have z_7 := Int32.lt_iff_toInt_lt.mp (Int32.not_le.mp c_31)
                        have z_8 : ¬ (x_37 : Int32).toInt = (r_43 : Int32).toInt := fun z => c_45 (Int32.toInt_inj.mp z)
                        have y_0 : (0 : Int32).toInt = 0 := by decide
                        have y_400 : (400 : Int32).toInt = 400 := by decide
                        have t_x_4 : x_4.toInt = ((Tv 2) : Int32).toInt - ((Tv 1) : Int32).toInt := by rw [ex_4]; exact sub_toInt (by omega) (by omega)
                        have t_x_5 : x_5.toInt = (x3 : Int32).toInt - (x2 : Int32).toInt := by rw [ex_5]; exact sub_toInt (by omega) (by omega)
                        omega
                      exact retI (v := 0) hx hb hr hlk (rfl) hP hD hS () ⟨_, rfl, hp_50, hq_49⟩ [0, 1] rfl rfl dX10_isPartOf_90 (Nat.le_of_ble_eq_true rfl) (Nat.le_of_ble_eq_true rfl) rfl
              have h0_51 : 0 ≤ (x2 : Int32).toInt := by
                have z_1 := congrArg Int32.toInt c_1
                have z_2 := congrArg Int32.toInt c_6
                have z_3 := Int32.le_iff_toInt_le.mp (Int32.not_lt.mp c_9)
                have z_4 := Int32.le_iff_toInt_le.mp c_18
                have z_5 := Int32.le_iff_toInt_le.mp (Int32.not_lt.mp c_19)
                have z_6 := Int32.le_iff_toInt_le.mp c_22
                have y_0 : (0 : Int32).toInt = 0 := by decide
                have y_400 : (400 : Int32).toInt = 400 := by decide
                have t_x_4 : x_4.toInt = ((Tv 2) : Int32).toInt - ((Tv 1) : Int32).toInt := by rw [ex_4]; exact sub_toInt (by omega) (by omega)
                have t_x_5 : x_5.toInt = (x3 : Int32).toInt - (x2 : Int32).toInt := by rw [ex_5]; exact sub_toInt (by omega) (by omega)
                omega
              have hv_52 : x2.toInt ≤ (x2 : Int32).toInt := by
                have z_1 := congrArg Int32.toInt c_1
                have z_2 := congrArg Int32.toInt c_6
                have z_3 := Int32.le_iff_toInt_le.mp (Int32.not_lt.mp c_9)
                have z_4 := Int32.le_iff_toInt_le.mp c_18
                have z_5 := Int32.le_iff_toInt_le.mp (Int32.not_lt.mp c_19)
                have z_6 := Int32.le_iff_toInt_le.mp c_22
                have y_0 : (0 : Int32).toInt = 0 := by decide
                have y_400 : (400 : Int32).toInt = 400 := by decide
                have t_x_4 : x_4.toInt = ((Tv 2) : Int32).toInt - ((Tv 1) : Int32).toInt := by rw [ex_4]; exact sub_toInt (by omega) (by omega)
                have t_x_5 : x_5.toInt = (x3 : Int32).toInt - (x2 : Int32).toInt := by rw [ex_5]; exact sub_toInt (by omega) (by omega)
                omega
              exact loop_27 _ x2 _ _ _ h0_51 (Nat.lt_succ_self _) hv_52 hP hD hS hl
            · skip
              refine lv_iconst (v := 0) hx hb dX10_isPartOf_55 (by decide) ?_
              have hq_53 : 0 ≤ ((Tv 0) : Int32).toInt ∧ ((Tv 0) : Int32).toInt ≤ 400 ∧ 0 ≤ ((Tv 1) : Int32).toInt ∧ ((Tv 1) : Int32).toInt ≤ 400 ∧ 0 ≤ ((Tv 2) : Int32).toInt ∧ ((Tv 2) : Int32).toInt ≤ 400 := by
                have z_1 := congrArg Int32.toInt c_1
                have z_2 := congrArg Int32.toInt c_6
                have z_3 := Int32.le_iff_toInt_le.mp (Int32.not_lt.mp c_9)
                have z_4 := Int32.le_iff_toInt_le.mp c_18
                have z_5 := Int32.le_iff_toInt_le.mp (Int32.not_lt.mp c_19)
                have z_6 := Int32.lt_iff_toInt_lt.mp (Int32.not_le.mp c_22)
                have y_0 : (0 : Int32).toInt = 0 := by decide
                have y_400 : (400 : Int32).toInt = 400 := by decide
                have t_x_4 : x_4.toInt = ((Tv 2) : Int32).toInt - ((Tv 1) : Int32).toInt := by rw [ex_4]; exact sub_toInt (by omega) (by omega)
                have t_x_5 : x_5.toInt = (x3 : Int32).toInt - (x2 : Int32).toInt := by rw [ex_5]; exact sub_toInt (by omega) (by omega)
                first | assumption | omega
              have hp_54 : ((0 : Int32).toInt = 0 ∨ (0 : Int32).toInt = 1) := by
                have z_1 := congrArg Int32.toInt c_1
                have z_2 := congrArg Int32.toInt c_6
                have z_3 := Int32.le_iff_toInt_le.mp (Int32.not_lt.mp c_9)
                have z_4 := Int32.le_iff_toInt_le.mp c_18
                have z_5 := Int32.le_iff_toInt_le.mp (Int32.not_lt.mp c_19)
                have z_6 := Int32.lt_iff_toInt_lt.mp (Int32.not_le.mp c_22)
                have y_0 : (0 : Int32).toInt = 0 := by decide
                have y_400 : (400 : Int32).toInt = 400 := by decide
                have t_x_4 : x_4.toInt = ((Tv 2) : Int32).toInt - ((Tv 1) : Int32).toInt := by rw [ex_4]; exact sub_toInt (by omega) (by omega)
                have t_x_5 : x_5.toInt = (x3 : Int32).toInt - (x2 : Int32).toInt := by rw [ex_5]; exact sub_toInt (by omega) (by omega)
                omega
              exact retI (v := 0) hx hb hr hlk (rfl) hP hD hS () ⟨_, rfl, hp_54, hq_53⟩ [0, 1] rfl rfl dX10_isPartOf_56 (Nat.le_of_ble_eq_true rfl) (Nat.le_of_ble_eq_true rfl) rfl
        · skip
          refine lv_iconst (v := 0) hx hb dX10_isPartOf_34 (by decide) ?_
          have hq_55 : 0 ≤ ((Tv 0) : Int32).toInt ∧ ((Tv 0) : Int32).toInt ≤ 400 ∧ 0 ≤ ((Tv 1) : Int32).toInt ∧ ((Tv 1) : Int32).toInt ≤ 400 ∧ 0 ≤ ((Tv 2) : Int32).toInt ∧ ((Tv 2) : Int32).toInt ≤ 400 := by
            have z_1 := congrArg Int32.toInt c_1
            have z_2 := congrArg Int32.toInt c_6
            have z_3 := Int32.le_iff_toInt_le.mp (Int32.not_lt.mp c_9)
            have z_4 := Int32.lt_iff_toInt_lt.mp (Int32.not_le.mp c_18)
            have y_0 : (0 : Int32).toInt = 0 := by decide
            have t_x_4 : x_4.toInt = ((Tv 2) : Int32).toInt - ((Tv 1) : Int32).toInt := by rw [ex_4]; exact sub_toInt (by omega) (by omega)
            have t_x_5 : x_5.toInt = (x3 : Int32).toInt - (x2 : Int32).toInt := by rw [ex_5]; exact sub_toInt (by omega) (by omega)
            first | assumption | omega
          have hp_56 : ((0 : Int32).toInt = 0 ∨ (0 : Int32).toInt = 1) := by
            have z_1 := congrArg Int32.toInt c_1
            have z_2 := congrArg Int32.toInt c_6
            have z_3 := Int32.le_iff_toInt_le.mp (Int32.not_lt.mp c_9)
            have z_4 := Int32.lt_iff_toInt_lt.mp (Int32.not_le.mp c_18)
            have y_0 : (0 : Int32).toInt = 0 := by decide
            have t_x_4 : x_4.toInt = ((Tv 2) : Int32).toInt - ((Tv 1) : Int32).toInt := by rw [ex_4]; exact sub_toInt (by omega) (by omega)
            have t_x_5 : x_5.toInt = (x3 : Int32).toInt - (x2 : Int32).toInt := by rw [ex_5]; exact sub_toInt (by omega) (by omega)
            omega
          exact retI (v := 0) hx hb hr hlk (rfl) hP hD hS () ⟨_, rfl, hp_56, hq_55⟩ [0, 1] rfl rfl dX10_isPartOf_35 (Nat.le_of_ble_eq_true rfl) (Nat.le_of_ble_eq_true rfl) rfl
set_option maxRecDepth 100000 in
theorem cu_X10_isPartOf (l : Launch) (D : va_G) (tc : Nat → ClassId) (sk : (Nat → Nat) × (Nat → Nat)) (Ta_0 : Nat) (Ta_1 : Nat) (Tv_0 : Int32) (Tv_1 : Int32) (Tv_2 : Int32) (Tv_3 : Int32) (Tv_4 : Int32) (Tf_1 : Nat → Int32) (i : Nat) (x2 : Int32) (x3 : Int32) (hi : i < 7) (hft : 0 ≤ x2.toInt ∧ x2.toInt ≤ 75 ∧ 0 ≤ x3.toInt ∧ x3.toInt ≤ 75) (h_tape : 0 ≤ (Tv_0 : Int32).toInt ∧ (Tv_0 : Int32).toInt ≤ 400 ∧ 0 ≤ (Tv_1 : Int32).toInt ∧ (Tv_1 : Int32).toInt ≤ 400 ∧ 0 ≤ (Tv_2 : Int32).toInt ∧ (Tv_2 : Int32).toInt ≤ 400) : Ct l yX10_isPartOf cX10_isPartOf 5 (some .boolean) { frames := 4, cells := 0, slots := 0, locals := 85 } D tc sk [.ref Ta_0, .ref (sk.1 i), .int x2, .int x3] [(Ta_0, .inr (10, [.ref Ta_1, .int Tv_0, .int Tv_1, .int Tv_2, .int Tv_3, .int Tv_4])), (Ta_1, .inl (tc 0, 400, .inl Tf_1))] (fun (v : Option Value) (_ : Unit) => ∃ r : Int32, v = some (.int r) ∧ ((r.toInt = 0 ∨ r.toInt = 1)) ∧ (0 ≤ (Tv_0 : Int32).toInt ∧ (Tv_0 : Int32).toInt ≤ 400 ∧ 0 ≤ (Tv_1 : Int32).toInt ∧ (Tv_1 : Int32).toInt ≤ 400 ∧ 0 ≤ (Tv_2 : Int32).toInt ∧ (Tv_2 : Int32).toInt ≤ 400)) (fun (_ : Unit) => [(Ta_0, .inr (10, [.ref Ta_1, .int Tv_0, .int Tv_1, .int Tv_2, .int Tv_3, .int Tv_4])), (Ta_1, .inl (tc 0, 400, .inl Tf_1))]) 0 0 :=
  ct_X10_isPartOf l D tc sk (fun k => ([Ta_0, Ta_1] : List (Nat)).getD k 0) (fun k => ([Tv_0, Tv_1, Tv_2, Tv_3, Tv_4] : List (Int32)).getD k 0) (fun k => ([(fun _ => 0), Tf_1] : List (Nat → Int32)).getD k (fun _ => 0)) i x2 x3 hi hft h_tape
set_option maxHeartbeats 4000000 in
set_option maxRecDepth 100000 in
theorem ct_X10_isWord (l : Launch) (D : va_G) (tc : Nat → ClassId) (sk : (Nat → Nat) × (Nat → Nat)) (Ta : Nat → Nat) (Tv : Nat → Int32) (Tf : Nat → Nat → Int32) (i : Nat) (hi : i < 7) (h_tape : 0 ≤ ((Tv 0) : Int32).toInt ∧ ((Tv 0) : Int32).toInt ≤ 400 ∧ 0 ≤ ((Tv 1) : Int32).toInt ∧ ((Tv 1) : Int32).toInt ≤ 400 ∧ 0 ≤ ((Tv 2) : Int32).toInt ∧ ((Tv 2) : Int32).toInt ≤ 400) : Ct l yX10_isWord cX10_isWord 2 (some .boolean) { frames := 5, cells := 0, slots := 0, locals := 109 } D tc sk [.ref (Ta 0), .ref (sk.1 i)] [((Ta 0), .inr (10, [.ref (Ta 1), .int (Tv 0), .int (Tv 1), .int (Tv 2), .int (Tv 3), .int (Tv 4)])), ((Ta 1), .inl (tc 0, 400, .inl (Tf 1)))] (fun (v : Option Value) (_ : Unit) => ∃ r : Int32, v = some (.int r) ∧ ((r.toInt = 0 ∨ r.toInt = 1)) ∧ (0 ≤ ((Tv 0) : Int32).toInt ∧ ((Tv 0) : Int32).toInt ≤ 400 ∧ 0 ≤ ((Tv 1) : Int32).toInt ∧ ((Tv 1) : Int32).toInt ≤ 400 ∧ 0 ≤ ((Tv 2) : Int32).toInt ∧ ((Tv 2) : Int32).toInt ≤ 400)) (fun (_ : Unit) => [((Ta 0), .inr (10, [.ref (Ta 1), .int (Tv 0), .int (Tv 1), .int (Tv 2), .int (Tv 3), .int (Tv 4)])), ((Ta 1), .inl (tc 0, 400, .inl (Tf 1)))]) 0 0 := by
  refine Ct.start (by decide) (Nat.le_of_ble_eq_true rfl) (fun p e s m below meth c A ls hx hb hr hlk hin hml hown hts hK hX hP hD hA hl hS => ?_)
  have hl : lv_has ls 2 [(0, .ref (Ta 0)), (1, .ref (sk.1 i))] := hl
  have hl75 := lenS_le hi
  refine lv_aload_n hx hb dX10_isWord_0 rfl (lv_at hl 0 rfl) ?_
  refine lv_aload_n hx hb dX10_isWord_1 rfl (lv_at hl 1 rfl) ?_
  refine lv_iconst (v := 0) hx hb dX10_isWord_2 (by decide) ?_
  refine lv_aload_n hx hb dX10_isWord_3 rfl (lv_at hl 1 rfl) ?_
  have hh_1 : i < 7 := by
    first | assumption | omega
  refine cV (a := (sk.1 i)) (As := []) (rest := [.int 0, .ref (sk.1 i), .ref (Ta 0)]) (wr := [((Ta 0), .inr (10, [.ref (Ta 1), .int (Tv 0), .int (Tv 1), .int (Tv 2), .int (Tv 3), .int (Tv 4)])), ((Ta 1), .inl (tc 0, 400, .inl (Tf 1)))]) ⟨hx, hb, hml, hown, hts⟩ hK hX hA (ct_J0_length l D tc sk i hh_1) k_505 k_502 k_503 k_504 k_107 pl_J0_length_8abf5 ⟨Nat.le_of_ble_eq_true rfl, Nat.le_of_ble_eq_true rfl⟩ rfl rfl (vk_recv hX.1 hi hS) hP hD hS [] [0, 1] rfl rfl rfl rfl rfl (by decide) rfl hl.1 rfl (Nat.le_of_ble_eq_true rfl) dX10_isWord_4 ⟨Nat.le_of_ble_eq_true rfl, Nat.le_of_ble_eq_true rfl⟩ (fun v_2 u_3 H locs hv_4 hP hD hS => ?_)
  obtain ⟨r_5, rfl, he_6⟩ := hv_4
  have he_6 : (r_5.toInt = ((lenS.getD i 0 : Nat) : Int)) := he_6
  refine W.eq (g2 := F0 m 7 ls [.int r_5, .int 0, .ref (sk.1 i), .ref (Ta 0)]) rfl ?_
  have hP : va_P D classes [((Ta 0), .inr (10, [.ref (Ta 1), .int (Tv 0), .int (Tv 1), .int (Tv 2), .int (Tv 3), .int (Tv 4)])), ((Ta 1), .inl (tc 0, 400, .inl (Tf 1)))] H := hP
  have hD : va_D A [((Ta 0), .inr (10, [.ref (Ta 1), .int (Tv 0), .int (Tv 1), .int (Tv 2), .int (Tv 3), .int (Tv 4)])), ((Ta 1), .inl (tc 0, 400, .inl (Tf 1)))] := hD
  have hh_7 : i < 7 := by
    first | assumption | omega
  have hh_8 : 0 ≤ (0 : Int32).toInt ∧ (0 : Int32).toInt ≤ 75 ∧ 0 ≤ r_5.toInt ∧ r_5.toInt ≤ 75 := by
    have y_0 : (0 : Int32).toInt = 0 := by decide
    first | assumption | omega
  have hh_9 : 0 ≤ ((Tv 0) : Int32).toInt ∧ ((Tv 0) : Int32).toInt ≤ 400 ∧ 0 ≤ ((Tv 1) : Int32).toInt ∧ ((Tv 1) : Int32).toInt ≤ 400 ∧ 0 ≤ ((Tv 2) : Int32).toInt ∧ ((Tv 2) : Int32).toInt ≤ 400 := by
    first | assumption | omega
  refine cV (a := (Ta 0)) (As := [.ref (sk.1 i), .int 0, .int r_5]) (rest := []) (wr := []) ⟨hx, hb, hml, hown, hts⟩ hK hX hA (cu_X10_isPartOf l D tc sk (Ta 0) (Ta 1) (Tv 0) (Tv 1) (Tv 2) (Tv 3) (Tv 4) (Tf 1) i 0 r_5 hh_7 hh_8 hh_9) k_553 k_550 k_552 k_2 k_96 pl_X10_isPartOf ⟨Nat.le_of_ble_eq_true rfl, Nat.le_of_ble_eq_true rfl⟩ rfl rfl (va_recv hK hP (ci := 10) (q0 := 0) rfl rfl) hP hD hS [0, 1] [] rfl rfl rfl rfl rfl (by decide) rfl hl.1 rfl (Nat.le_of_ble_eq_true rfl) dX10_isWord_7 ⟨Nat.le_of_ble_eq_true rfl, Nat.le_of_ble_eq_true rfl⟩ (fun v_10 u_11 H locs hv_12 hP hD hS => ?_)
  obtain ⟨r_13, rfl, he_14⟩ := hv_12
  have he_14 : ((r_13.toInt = 0 ∨ r_13.toInt = 1)) ∧ (0 ≤ ((Tv 0) : Int32).toInt ∧ ((Tv 0) : Int32).toInt ≤ 400 ∧ 0 ≤ ((Tv 1) : Int32).toInt ∧ ((Tv 1) : Int32).toInt ≤ 400 ∧ 0 ≤ ((Tv 2) : Int32).toInt ∧ ((Tv 2) : Int32).toInt ≤ 400) := he_14
  have he_14_0 : (0 ≤ ((Tv 0) : Int32).toInt ∧ ((Tv 0) : Int32).toInt ≤ 400 ∧ 0 ≤ ((Tv 1) : Int32).toInt ∧ ((Tv 1) : Int32).toInt ≤ 400 ∧ 0 ≤ ((Tv 2) : Int32).toInt ∧ ((Tv 2) : Int32).toInt ≤ 400) := he_14.2
  refine W.eq (g2 := F0 m 10 ls [.int r_13]) rfl ?_
  have hP : va_P D classes [((Ta 0), .inr (10, [.ref (Ta 1), .int (Tv 0), .int (Tv 1), .int (Tv 2), .int (Tv 3), .int (Tv 4)])), ((Ta 1), .inl (tc 0, 400, .inl (Tf 1)))] H := hP
  have hD : va_D A [((Ta 0), .inr (10, [.ref (Ta 1), .int (Tv 0), .int (Tv 1), .int (Tv 2), .int (Tv 3), .int (Tv 4)])), ((Ta 1), .inl (tc 0, 400, .inl (Tf 1)))] := hD
  have hq_15 : 0 ≤ ((Tv 0) : Int32).toInt ∧ ((Tv 0) : Int32).toInt ≤ 400 ∧ 0 ≤ ((Tv 1) : Int32).toInt ∧ ((Tv 1) : Int32).toInt ≤ 400 ∧ 0 ≤ ((Tv 2) : Int32).toInt ∧ ((Tv 2) : Int32).toInt ≤ 400 := by
    first | assumption | omega
  have hb_16 : (r_13 : Int32).toInt = 0 ∨ (r_13 : Int32).toInt = 1 := by
    omega
  have hp_17 : ((r_13 : Int32).toInt = 0 ∨ (r_13 : Int32).toInt = 1) := by
    omega
  exact retI (v := r_13) hx hb hr hlk (nar01 hb_16) hP hD hS () ⟨_, rfl, hp_17, hq_15⟩ [0, 1] rfl rfl dX10_isWord_10 (Nat.le_of_ble_eq_true rfl) (Nat.le_of_ble_eq_true rfl) rfl
set_option maxRecDepth 100000 in
theorem cu_X10_isWord (l : Launch) (D : va_G) (tc : Nat → ClassId) (sk : (Nat → Nat) × (Nat → Nat)) (Ta_0 : Nat) (Ta_1 : Nat) (Tv_0 : Int32) (Tv_1 : Int32) (Tv_2 : Int32) (Tv_3 : Int32) (Tv_4 : Int32) (Tf_1 : Nat → Int32) (i : Nat) (hi : i < 7) (h_tape : 0 ≤ (Tv_0 : Int32).toInt ∧ (Tv_0 : Int32).toInt ≤ 400 ∧ 0 ≤ (Tv_1 : Int32).toInt ∧ (Tv_1 : Int32).toInt ≤ 400 ∧ 0 ≤ (Tv_2 : Int32).toInt ∧ (Tv_2 : Int32).toInt ≤ 400) : Ct l yX10_isWord cX10_isWord 2 (some .boolean) { frames := 5, cells := 0, slots := 0, locals := 109 } D tc sk [.ref Ta_0, .ref (sk.1 i)] [(Ta_0, .inr (10, [.ref Ta_1, .int Tv_0, .int Tv_1, .int Tv_2, .int Tv_3, .int Tv_4])), (Ta_1, .inl (tc 0, 400, .inl Tf_1))] (fun (v : Option Value) (_ : Unit) => ∃ r : Int32, v = some (.int r) ∧ ((r.toInt = 0 ∨ r.toInt = 1)) ∧ (0 ≤ (Tv_0 : Int32).toInt ∧ (Tv_0 : Int32).toInt ≤ 400 ∧ 0 ≤ (Tv_1 : Int32).toInt ∧ (Tv_1 : Int32).toInt ≤ 400 ∧ 0 ≤ (Tv_2 : Int32).toInt ∧ (Tv_2 : Int32).toInt ≤ 400)) (fun (_ : Unit) => [(Ta_0, .inr (10, [.ref Ta_1, .int Tv_0, .int Tv_1, .int Tv_2, .int Tv_3, .int Tv_4])), (Ta_1, .inl (tc 0, 400, .inl Tf_1))]) 0 0 :=
  ct_X10_isWord l D tc sk (fun k => ([Ta_0, Ta_1] : List (Nat)).getD k 0) (fun k => ([Tv_0, Tv_1, Tv_2, Tv_3, Tv_4] : List (Int32)).getD k 0) (fun k => ([(fun _ => 0), Tf_1] : List (Nat → Int32)).getD k (fun _ => 0)) i hi h_tape
set_option maxHeartbeats 4000000 in
set_option maxRecDepth 100000 in
theorem ct_X10_takesWord (l : Launch) (D : va_G) (tc : Nat → ClassId) (sk : (Nat → Nat) × (Nat → Nat)) (Ta : Nat → Nat) (Tv : Nat → Int32) (Tf : Nat → Nat → Int32) (i : Nat) (hi : i < 7) (h_tape : 0 ≤ ((Tv 0) : Int32).toInt ∧ ((Tv 0) : Int32).toInt ≤ 400 ∧ 0 ≤ ((Tv 1) : Int32).toInt ∧ ((Tv 1) : Int32).toInt ≤ 400 ∧ 0 ≤ ((Tv 2) : Int32).toInt ∧ ((Tv 2) : Int32).toInt ≤ 400) : Ct l yX10_takesWord cX10_takesWord 2 (some .boolean) { frames := 6, cells := 0, slots := 0, locals := 130 } D tc sk [.ref (Ta 0), .ref (sk.1 i)] [((Ta 0), .inr (10, [.ref (Ta 1), .int (Tv 0), .int (Tv 1), .int (Tv 2), .int (Tv 3), .int (Tv 4)])), ((Ta 1), .inl (tc 0, 400, .inl (Tf 1)))] (fun (v : Option Value) (u : (Int32) × (Int32) × (Int32)) => match u with | (o1, o2, o3) => ∃ r : Int32, v = some (.int r) ∧ ((r.toInt = 0 ∨ r.toInt = 1)) ∧ (0 ≤ ((Tv 0) : Int32).toInt ∧ ((Tv 0) : Int32).toInt ≤ 400 ∧ 0 ≤ (o1 : Int32).toInt ∧ (o1 : Int32).toInt ≤ 400 ∧ 0 ≤ (o2 : Int32).toInt ∧ (o2 : Int32).toInt ≤ 400)) (fun (u : (Int32) × (Int32) × (Int32)) => match u with | (o1, o2, o3) => [((Ta 0), .inr (10, [.ref (Ta 1), .int (Tv 0), .int o1, .int o2, .int o3, .int (Tv 4)])), ((Ta 1), .inl (tc 0, 400, .inl (Tf 1)))]) 0 0 := by
  refine Ct.start (by decide) (Nat.le_of_ble_eq_true rfl) (fun p e s m below meth c A ls hx hb hr hlk hin hml hown hts hK hX hP hD hA hl hS => ?_)
  have hl : lv_has ls 2 [(0, .ref (Ta 0)), (1, .ref (sk.1 i))] := hl
  refine lv_aload_n hx hb dX10_takesWord_0 rfl (lv_at hl 0 rfl) ?_
  refine lv_aload_n hx hb dX10_takesWord_1 rfl (lv_at hl 1 rfl) ?_
  have hh_1 : i < 7 := by
    first | assumption | omega
  have hh_2 : 0 ≤ ((Tv 0) : Int32).toInt ∧ ((Tv 0) : Int32).toInt ≤ 400 ∧ 0 ≤ ((Tv 1) : Int32).toInt ∧ ((Tv 1) : Int32).toInt ≤ 400 ∧ 0 ≤ ((Tv 2) : Int32).toInt ∧ ((Tv 2) : Int32).toInt ≤ 400 := by
    first | assumption | omega
  refine cV (a := (Ta 0)) (As := [.ref (sk.1 i)]) (rest := []) (wr := []) ⟨hx, hb, hml, hown, hts⟩ hK hX hA (cu_X10_isWord l D tc sk (Ta 0) (Ta 1) (Tv 0) (Tv 1) (Tv 2) (Tv 3) (Tv 4) (Tf 1) i hh_1 hh_2) k_618 k_651 k_616 k_617 k_96 pl_X10_isWord ⟨Nat.le_of_ble_eq_true rfl, Nat.le_of_ble_eq_true rfl⟩ rfl rfl (va_recv hK hP (ci := 10) (q0 := 0) rfl rfl) hP hD hS [0, 1] [] rfl rfl rfl rfl rfl (by decide) rfl hl.1 rfl (Nat.le_of_ble_eq_true rfl) dX10_takesWord_2 ⟨Nat.le_of_ble_eq_true rfl, Nat.le_of_ble_eq_true rfl⟩ (fun v_3 u_4 H locs hv_5 hP hD hS => ?_)
  obtain ⟨r_6, rfl, he_7⟩ := hv_5
  have he_7 : ((r_6.toInt = 0 ∨ r_6.toInt = 1)) ∧ (0 ≤ ((Tv 0) : Int32).toInt ∧ ((Tv 0) : Int32).toInt ≤ 400 ∧ 0 ≤ ((Tv 1) : Int32).toInt ∧ ((Tv 1) : Int32).toInt ≤ 400 ∧ 0 ≤ ((Tv 2) : Int32).toInt ∧ ((Tv 2) : Int32).toInt ≤ 400) := he_7
  have he_7_0 : (0 ≤ ((Tv 0) : Int32).toInt ∧ ((Tv 0) : Int32).toInt ≤ 400 ∧ 0 ≤ ((Tv 1) : Int32).toInt ∧ ((Tv 1) : Int32).toInt ≤ 400 ∧ 0 ≤ ((Tv 2) : Int32).toInt ∧ ((Tv 2) : Int32).toInt ≤ 400) := he_7.2
  refine W.eq (g2 := F0 m 5 ls [.int r_6]) rfl ?_
  have hP : va_P D classes [((Ta 0), .inr (10, [.ref (Ta 1), .int (Tv 0), .int (Tv 1), .int (Tv 2), .int (Tv 3), .int (Tv 4)])), ((Ta 1), .inl (tc 0, 400, .inl (Tf 1)))] H := hP
  have hD : va_D A [((Ta 0), .inr (10, [.ref (Ta 1), .int (Tv 0), .int (Tv 1), .int (Tv 2), .int (Tv 3), .int (Tv 4)])), ((Ta 1), .inl (tc 0, 400, .inl (Tf 1)))] := hD
  refine lv_if_ne (tgt := 10) hx hb dX10_takesWord_5 (by decide) (fun c_8 => ?_) (fun c_8 => ?_)
  · skip
    refine lv_aload_n hx hb dX10_takesWord_10 rfl (lv_at hl 0 rfl) ?_
    have hh_9 : 0 ≤ ((Tv 0) : Int32).toInt ∧ ((Tv 0) : Int32).toInt ≤ 400 ∧ 0 ≤ ((Tv 1) : Int32).toInt ∧ ((Tv 1) : Int32).toInt ≤ 400 ∧ 0 ≤ ((Tv 2) : Int32).toInt ∧ ((Tv 2) : Int32).toInt ≤ 400 := by
      have z_1 : ¬ (r_6 : Int32).toInt = (0 : Int32).toInt := fun z => c_8 (Int32.toInt_inj.mp z)
      have y_0 : (0 : Int32).toInt = 0 := by decide
      first | assumption | omega
    refine cV (a := (Ta 0)) (As := []) (rest := []) (wr := []) ⟨hx, hb, hml, hown, hts⟩ hK hX hA (cu_X10_step l D tc sk (Ta 0) (Ta 1) (Tv 0) (Tv 1) (Tv 2) (Tv 3) (Tv 4) (Tf 1) hh_9) k_478 k_475 k_476 k_477 k_96 pl_X10_step ⟨Nat.le_of_ble_eq_true rfl, Nat.le_of_ble_eq_true rfl⟩ rfl rfl (va_recv hK hP (ci := 10) (q0 := 0) rfl rfl) hP hD hS [0, 1] [] rfl rfl rfl rfl rfl (by decide) rfl hl.1 rfl (Nat.le_of_ble_eq_true rfl) dX10_takesWord_11 ⟨Nat.le_of_ble_eq_true rfl, Nat.le_of_ble_eq_true rfl⟩ (fun v_10 u_11 H locs hv_12 hP hD hS => ?_)
    obtain ⟨sv_13, sv_14, sv_15⟩ := u_11
    obtain ⟨rfl, he_16⟩ := hv_12
    have he_16 : (0 ≤ ((Tv 0) : Int32).toInt ∧ ((Tv 0) : Int32).toInt ≤ 400 ∧ 0 ≤ (sv_13 : Int32).toInt ∧ (sv_13 : Int32).toInt ≤ 400 ∧ 0 ≤ (sv_14 : Int32).toInt ∧ (sv_14 : Int32).toInt ≤ 400) := he_16
    refine W.eq (g2 := F0 m 14 ls []) rfl ?_
    have hP : va_P D classes [((Ta 0), .inr (10, [.ref (Ta 1), .int (Tv 0), .int sv_13, .int sv_14, .int sv_15, .int (Tv 4)])), ((Ta 1), .inl (tc 0, 400, .inl (Tf 1)))] H := hP
    have hD : va_D A [((Ta 0), .inr (10, [.ref (Ta 1), .int (Tv 0), .int sv_13, .int sv_14, .int sv_15, .int (Tv 4)])), ((Ta 1), .inl (tc 0, 400, .inl (Tf 1)))] := hD
    refine lv_iconst (v := 1) hx hb dX10_takesWord_14 (by decide) ?_
    have hq_17 : 0 ≤ ((Tv 0) : Int32).toInt ∧ ((Tv 0) : Int32).toInt ≤ 400 ∧ 0 ≤ (sv_13 : Int32).toInt ∧ (sv_13 : Int32).toInt ≤ 400 ∧ 0 ≤ (sv_14 : Int32).toInt ∧ (sv_14 : Int32).toInt ≤ 400 := by
      have z_1 : ¬ (r_6 : Int32).toInt = (0 : Int32).toInt := fun z => c_8 (Int32.toInt_inj.mp z)
      have y_0 : (0 : Int32).toInt = 0 := by decide
      first | assumption | omega
    have hp_18 : ((1 : Int32).toInt = 0 ∨ (1 : Int32).toInt = 1) := by
      have z_1 : ¬ (r_6 : Int32).toInt = (0 : Int32).toInt := fun z => c_8 (Int32.toInt_inj.mp z)
      have y_0 : (0 : Int32).toInt = 0 := by decide
      have y_1 : (1 : Int32).toInt = 1 := by decide
      have yr : (1 : Int32).toInt = 1 := by decide
      omega
    exact retI (v := 1) hx hb hr hlk (rfl) hP hD hS (sv_13, sv_14, sv_15) ⟨_, rfl, hp_18, hq_17⟩ [0, 1] rfl rfl dX10_takesWord_15 (Nat.le_of_ble_eq_true rfl) (Nat.le_of_ble_eq_true rfl) rfl
  · skip
    refine lv_iconst (v := 0) hx hb dX10_takesWord_8 (by decide) ?_
    have hq_19 : 0 ≤ ((Tv 0) : Int32).toInt ∧ ((Tv 0) : Int32).toInt ≤ 400 ∧ 0 ≤ ((Tv 1) : Int32).toInt ∧ ((Tv 1) : Int32).toInt ≤ 400 ∧ 0 ≤ ((Tv 2) : Int32).toInt ∧ ((Tv 2) : Int32).toInt ≤ 400 := by
      have z_1 := congrArg Int32.toInt c_8
      have y_0 : (0 : Int32).toInt = 0 := by decide
      first | assumption | omega
    have hp_20 : ((0 : Int32).toInt = 0 ∨ (0 : Int32).toInt = 1) := by
      have z_1 := congrArg Int32.toInt c_8
      have y_0 : (0 : Int32).toInt = 0 := by decide
      omega
    exact retI (v := 0) hx hb hr hlk (rfl) hP hD hS ((Tv 1), (Tv 2), (Tv 3)) ⟨_, rfl, hp_20, hq_19⟩ [0, 1] rfl rfl dX10_takesWord_9 (Nat.le_of_ble_eq_true rfl) (Nat.le_of_ble_eq_true rfl) rfl
set_option maxRecDepth 100000 in
theorem cu_X10_takesWord (l : Launch) (D : va_G) (tc : Nat → ClassId) (sk : (Nat → Nat) × (Nat → Nat)) (Ta_0 : Nat) (Ta_1 : Nat) (Tv_0 : Int32) (Tv_1 : Int32) (Tv_2 : Int32) (Tv_3 : Int32) (Tv_4 : Int32) (Tf_1 : Nat → Int32) (i : Nat) (hi : i < 7) (h_tape : 0 ≤ (Tv_0 : Int32).toInt ∧ (Tv_0 : Int32).toInt ≤ 400 ∧ 0 ≤ (Tv_1 : Int32).toInt ∧ (Tv_1 : Int32).toInt ≤ 400 ∧ 0 ≤ (Tv_2 : Int32).toInt ∧ (Tv_2 : Int32).toInt ≤ 400) : Ct l yX10_takesWord cX10_takesWord 2 (some .boolean) { frames := 6, cells := 0, slots := 0, locals := 130 } D tc sk [.ref Ta_0, .ref (sk.1 i)] [(Ta_0, .inr (10, [.ref Ta_1, .int Tv_0, .int Tv_1, .int Tv_2, .int Tv_3, .int Tv_4])), (Ta_1, .inl (tc 0, 400, .inl Tf_1))] (fun (v : Option Value) (u : (Int32) × (Int32) × (Int32)) => match u with | (o1, o2, o3) => ∃ r : Int32, v = some (.int r) ∧ ((r.toInt = 0 ∨ r.toInt = 1)) ∧ (0 ≤ (Tv_0 : Int32).toInt ∧ (Tv_0 : Int32).toInt ≤ 400 ∧ 0 ≤ (o1 : Int32).toInt ∧ (o1 : Int32).toInt ≤ 400 ∧ 0 ≤ (o2 : Int32).toInt ∧ (o2 : Int32).toInt ≤ 400)) (fun (u : (Int32) × (Int32) × (Int32)) => match u with | (o1, o2, o3) => [(Ta_0, .inr (10, [.ref Ta_1, .int Tv_0, .int o1, .int o2, .int o3, .int Tv_4])), (Ta_1, .inl (tc 0, 400, .inl Tf_1))]) 0 0 :=
  ct_X10_takesWord l D tc sk (fun k => ([Ta_0, Ta_1] : List (Nat)).getD k 0) (fun k => ([Tv_0, Tv_1, Tv_2, Tv_3, Tv_4] : List (Int32)).getD k 0) (fun k => ([(fun _ => 0), Tf_1] : List (Nat → Int32)).getD k (fun _ => 0)) i hi h_tape
set_option maxHeartbeats 4000000 in
set_option maxRecDepth 100000 in
theorem ct_X10_wordAmong (l : Launch) (D : va_G) (tc : Nat → ClassId) (sk : (Nat → Nat) × (Nat → Nat)) (Ta : Nat → Nat) (Tv : Nat → Int32) (Tf : Nat → Nat → Int32) (i : Nat) (hi : i < 7) (h_tape : 0 ≤ ((Tv 0) : Int32).toInt ∧ ((Tv 0) : Int32).toInt ≤ 400 ∧ 0 ≤ ((Tv 1) : Int32).toInt ∧ ((Tv 1) : Int32).toInt ≤ 400 ∧ 0 ≤ ((Tv 2) : Int32).toInt ∧ ((Tv 2) : Int32).toInt ≤ 400) : Ct l yX10_wordAmong cX10_wordAmong 5 (some .int) { frames := 5, cells := 0, slots := 0, locals := 109 } D tc sk [.ref (Ta 0), .ref (sk.1 i)] [((Ta 0), .inr (10, [.ref (Ta 1), .int (Tv 0), .int (Tv 1), .int (Tv 2), .int (Tv 3), .int (Tv 4)])), ((Ta 1), .inl (tc 0, 400, .inl (Tf 1)))] (fun (v : Option Value) (_ : Unit) => ∃ r : Int32, v = some (.int r) ∧ (True) ∧ (0 ≤ ((Tv 0) : Int32).toInt ∧ ((Tv 0) : Int32).toInt ≤ 400 ∧ 0 ≤ ((Tv 1) : Int32).toInt ∧ ((Tv 1) : Int32).toInt ≤ 400 ∧ 0 ≤ ((Tv 2) : Int32).toInt ∧ ((Tv 2) : Int32).toInt ≤ 400)) (fun (_ : Unit) => [((Ta 0), .inr (10, [.ref (Ta 1), .int (Tv 0), .int (Tv 1), .int (Tv 2), .int (Tv 3), .int (Tv 4)])), ((Ta 1), .inl (tc 0, 400, .inl (Tf 1)))]) 0 0 := by
  refine Ct.start (by decide) (Nat.le_of_ble_eq_true rfl) (fun p e s m below meth c A ls hx hb hr hlk hin hml hown hts hK hX hP hD hA hl hS => ?_)
  have hl : lv_has ls 5 [(0, .ref (Ta 0)), (1, .ref (sk.1 i))] := hl
  have hl75 := lenS_le hi
  refine lv_iconst (v := 0) hx hb dX10_wordAmong_0 (by decide) ?_
  refine lv_istore_n (lv' := [(2, .int 0), (0, .ref (Ta 0)), (1, .ref (sk.1 i))]) hx hb dX10_wordAmong_1 rfl hl (by decide) rfl (fun ls hl => ?_)
  refine lv_iconst (v := 0) hx hb dX10_wordAmong_2 (by decide) ?_
  refine lv_istore_n (lv' := [(3, .int 0), (2, .int 0), (0, .ref (Ta 0)), (1, .ref (sk.1 i))]) hx hb dX10_wordAmong_3 rfl hl (by decide) rfl (fun ls hl => ?_)
  refine lv_iconst (v := 0) hx hb dX10_wordAmong_4 (by decide) ?_
  refine lv_istore (lv' := [(4, .int 0), (3, .int 0), (2, .int 0), (0, .ref (Ta 0)), (1, .ref (sk.1 i))]) hx hb dX10_wordAmong_5 hl (by decide) rfl (fun ls hl => ?_)
  have loop_10 : ∀ (n_8 : Nat) (vy_5 : Int32) (vy_6 : Int32) (vy_7 : Int32) (H : Heap) (locs : List Loc) (ls : Array Slot), 0 ≤ (vy_5 : Int32).toInt → (75 - (vy_5 : Int32).toInt).toNat < n_8 → 0 ≤ (vy_6 : Int32).toInt ∧ (vy_6 : Int32).toInt ≤ (vy_5 : Int32).toInt ∧ (vy_5 : Int32).toInt ≤ 75 → va_P D classes [((Ta 0), .inr (10, [.ref (Ta 1), .int (Tv 0), .int (Tv 1), .int (Tv 2), .int (Tv 3), .int (Tv 4)])), ((Ta 1), .inl (tc 0, 400, .inl (Tf 1)))] H → va_D A [((Ta 0), .inr (10, [.ref (Ta 1), .int (Tv 0), .int (Tv 1), .int (Tv 2), .int (Tv 3), .int (Tv 4)])), ((Ta 1), .inl (tc 0, 400, .inl (Tf 1)))] → va_S A s.heap H locs → lv_has ls 5 [(4, .int vy_5), (3, .int vy_6), (2, .int vy_7), (0, .ref (Ta 0)), (1, .ref (sk.1 i))] → W p l e ({ frames := 5, cells := 0, slots := 0, locals := 109 }) s m ([.ref (Ta 0), .ref (sk.1 i)].toArray) below meth c H locs 0 0 (MQ below (QW (fun (v : Option Value) (_ : Unit) => ∃ r : Int32, v = some (.int r) ∧ (True) ∧ (0 ≤ ((Tv 0) : Int32).toInt ∧ ((Tv 0) : Int32).toInt ≤ 400 ∧ 0 ≤ ((Tv 1) : Int32).toInt ∧ ((Tv 1) : Int32).toInt ≤ 400 ∧ 0 ≤ ((Tv 2) : Int32).toInt ∧ ((Tv 2) : Int32).toInt ≤ 400)) (BW D (fun (_ : Unit) => [((Ta 0), .inr (10, [.ref (Ta 1), .int (Tv 0), .int (Tv 1), .int (Tv 2), .int (Tv 3), .int (Tv 4)])), ((Ta 1), .inl (tc 0, 400, .inl (Tf 1)))]) A) A) ([.ref (Ta 0), .ref (sk.1 i)].toArray) s 0 0 A) (F0 m 7 ls []) := by
    intro n_8
    induction n_8 with
    | zero =>
      intro vy_5 vy_6 vy_7 H locs ls h1 h2
      exact absurd h2 (Nat.not_lt_zero _)
    | succ n_8 ih_9 =>
      intro vy_5 vy_6 vy_7 H locs ls hi_12 hn_13 hv_11 hP hD hS hl
      refine lv_iload hx hb dX10_wordAmong_7 (lv_at hl 0 rfl) ?_
      refine lv_aload_n hx hb dX10_wordAmong_9 rfl (lv_at hl 4 rfl) ?_
      have hh_14 : i < 7 := by
        first | assumption | omega
      refine cV (a := (sk.1 i)) (As := []) (rest := [.int vy_5]) (wr := [((Ta 0), .inr (10, [.ref (Ta 1), .int (Tv 0), .int (Tv 1), .int (Tv 2), .int (Tv 3), .int (Tv 4)])), ((Ta 1), .inl (tc 0, 400, .inl (Tf 1)))]) ⟨hx, hb, hml, hown, hts⟩ hK hX hA (ct_J0_length l D tc sk i hh_14) k_505 k_502 k_503 k_504 k_107 pl_J0_length_8abf5 ⟨Nat.le_of_ble_eq_true rfl, Nat.le_of_ble_eq_true rfl⟩ rfl rfl (vk_recv hX.1 hi hS) hP hD hS [] [0, 1] rfl rfl rfl rfl rfl (by decide) rfl hl.1 rfl (Nat.le_of_ble_eq_true rfl) dX10_wordAmong_10 ⟨Nat.le_of_ble_eq_true rfl, Nat.le_of_ble_eq_true rfl⟩ (fun v_15 u_16 H locs hv_17 hP hD hS => ?_)
      obtain ⟨r_18, rfl, he_19⟩ := hv_17
      have he_19 : (r_18.toInt = ((lenS.getD i 0 : Nat) : Int)) := he_19
      refine W.eq (g2 := F0 m 13 ls [.int r_18, .int vy_5]) rfl ?_
      have hP : va_P D classes [((Ta 0), .inr (10, [.ref (Ta 1), .int (Tv 0), .int (Tv 1), .int (Tv 2), .int (Tv 3), .int (Tv 4)])), ((Ta 1), .inl (tc 0, 400, .inl (Tf 1)))] H := hP
      have hD : va_D A [((Ta 0), .inr (10, [.ref (Ta 1), .int (Tv 0), .int (Tv 1), .int (Tv 2), .int (Tv 3), .int (Tv 4)])), ((Ta 1), .inl (tc 0, 400, .inl (Tf 1)))] := hD
      refine lv_icmp_ge (tgt := 54) hx hb dX10_wordAmong_13 (by decide) (fun c_20 => ?_) (fun c_20 => ?_)
      · skip
        refine lv_iconst (v := (-1)) hx hb dX10_wordAmong_54 (by decide) ?_
        have hq_21 : 0 ≤ ((Tv 0) : Int32).toInt ∧ ((Tv 0) : Int32).toInt ≤ 400 ∧ 0 ≤ ((Tv 1) : Int32).toInt ∧ ((Tv 1) : Int32).toInt ≤ 400 ∧ 0 ≤ ((Tv 2) : Int32).toInt ∧ ((Tv 2) : Int32).toInt ≤ 400 := by
          have z_1 := Int32.le_iff_toInt_le.mp c_20
          first | assumption | omega
        exact retI (v := (-1)) hx hb hr hlk (rfl) hP hD hS () ⟨_, rfl, trivial, hq_21⟩ [0, 1] rfl rfl dX10_wordAmong_55 (Nat.le_of_ble_eq_true rfl) (Nat.le_of_ble_eq_true rfl) rfl
      · skip
        refine lv_aload_n hx hb dX10_wordAmong_16 rfl (lv_at hl 4 rfl) ?_
        refine lv_iload hx hb dX10_wordAmong_17 (lv_at hl 0 rfl) ?_
        have hh_22 : i < 7 := by
          have z_1 := Int32.lt_iff_toInt_lt.mp (Int32.not_le.mp c_20)
          first | assumption | omega
        have hh_23 : 0 ≤ vy_5.toInt ∧ vy_5.toInt < ((lenS.getD i 0 : Nat) : Int) := by
          have z_1 := Int32.lt_iff_toInt_lt.mp (Int32.not_le.mp c_20)
          first | assumption | omega
        refine cV (a := (sk.1 i)) (As := [.int vy_5]) (rest := []) (wr := [((Ta 0), .inr (10, [.ref (Ta 1), .int (Tv 0), .int (Tv 1), .int (Tv 2), .int (Tv 3), .int (Tv 4)])), ((Ta 1), .inl (tc 0, 400, .inl (Tf 1)))]) ⟨hx, hb, hml, hown, hts⟩ hK hX hA (ct_J0_charAt l D tc sk i vy_5 hh_22 hh_23) k_515 k_512 k_513 k_514 k_107 pl_J0_charAt_5068e ⟨Nat.le_of_ble_eq_true rfl, Nat.le_of_ble_eq_true rfl⟩ rfl rfl (vk_recv hX.1 hi hS) hP hD hS [] [0, 1] rfl rfl rfl rfl rfl (by decide) rfl hl.1 rfl (Nat.le_of_ble_eq_true rfl) dX10_wordAmong_19 ⟨Nat.le_of_ble_eq_true rfl, Nat.le_of_ble_eq_true rfl⟩ (fun v_24 u_25 H locs hv_26 hP hD hS => ?_)
        obtain ⟨r_27, rfl, he_28⟩ := hv_26
        have he_28 : (narrow .char (.int r_27) = .int r_27) := he_28
        refine W.eq (g2 := F0 m 22 ls [.int r_27]) rfl ?_
        have hP : va_P D classes [((Ta 0), .inr (10, [.ref (Ta 1), .int (Tv 0), .int (Tv 1), .int (Tv 2), .int (Tv 3), .int (Tv 4)])), ((Ta 1), .inl (tc 0, 400, .inl (Tf 1)))] H := hP
        have hD : va_D A [((Ta 0), .inr (10, [.ref (Ta 1), .int (Tv 0), .int (Tv 1), .int (Tv 2), .int (Tv 3), .int (Tv 4)])), ((Ta 1), .inl (tc 0, 400, .inl (Tf 1)))] := hD
        refine lv_bipush (v := 32) hx hb dX10_wordAmong_22 (by decide) ?_
        refine lv_icmp_ne (tgt := 48) hx hb dX10_wordAmong_24 (by decide) (fun c_29 => ?_) (fun c_29 => ?_)
        · skip
          obtain ⟨x_30, ex_30⟩ : ∃ y : Int32, y = vy_5 + 1 := ⟨_, rfl⟩
          refine lv_iinc (v := x_30) (lv' := [(4, .int x_30), (3, .int vy_6), (2, .int vy_7), (0, .ref (Ta 0)), (1, .ref (sk.1 i))]) hx hb dX10_wordAmong_48 hl (k := 0) rfl (by rw [ex_30]; rfl) (by decide) rfl (fun ls hl => ?_)
          refine lv_goto (tgt := 7) hx hb dX10_wordAmong_51 (by decide) ?_
          have hb_31 : 0 ≤ (x_30 : Int32).toInt ∧ (75 - (x_30 : Int32).toInt).toNat < n_8 := by
            have z_1 := Int32.lt_iff_toInt_lt.mp (Int32.not_le.mp c_20)
            have z_2 : ¬ (r_27 : Int32).toInt = (32 : Int32).toInt := fun z => c_29 (Int32.toInt_inj.mp z)
            have y_32 : (32 : Int32).toInt = 32 := by decide
            have y_1 : (1 : Int32).toInt = 1 := by decide
            have t_x_30 : x_30.toInt = (vy_5 : Int32).toInt + (1 : Int32).toInt := by rw [ex_30]; exact add_toInt (by omega) (by omega)
            omega
          have hv_32 : 0 ≤ (vy_6 : Int32).toInt ∧ (vy_6 : Int32).toInt ≤ (x_30 : Int32).toInt ∧ (x_30 : Int32).toInt ≤ 75 := by
            have z_1 := Int32.lt_iff_toInt_lt.mp (Int32.not_le.mp c_20)
            have z_2 : ¬ (r_27 : Int32).toInt = (32 : Int32).toInt := fun z => c_29 (Int32.toInt_inj.mp z)
            have y_32 : (32 : Int32).toInt = 32 := by decide
            have y_1 : (1 : Int32).toInt = 1 := by decide
            have t_x_30 : x_30.toInt = (vy_5 : Int32).toInt + (1 : Int32).toInt := by rw [ex_30]; exact add_toInt (by omega) (by omega)
            omega
          exact ih_9 x_30 vy_6 vy_7 _ _ _ hb_31.1 hb_31.2 hv_32 (hP.sub [0, 1] rfl) (hD.sub [0, 1] rfl rfl) hS (lv_sub hl [0, 1, 2, 3, 4] rfl)
        · skip
          refine lv_aload_n hx hb dX10_wordAmong_27 rfl (lv_at hl 3 rfl) ?_
          refine lv_aload_n hx hb dX10_wordAmong_28 rfl (lv_at hl 4 rfl) ?_
          refine lv_iload_n hx hb dX10_wordAmong_29 rfl (lv_at hl 1 rfl) ?_
          refine lv_iload hx hb dX10_wordAmong_30 (lv_at hl 0 rfl) ?_
          have hh_33 : i < 7 := by
            have z_1 := Int32.lt_iff_toInt_lt.mp (Int32.not_le.mp c_20)
            have z_2 := congrArg Int32.toInt c_29
            have y_32 : (32 : Int32).toInt = 32 := by decide
            first | assumption | omega
          have hh_34 : 0 ≤ vy_6.toInt ∧ vy_6.toInt ≤ 75 ∧ 0 ≤ vy_5.toInt ∧ vy_5.toInt ≤ 75 := by
            have z_1 := Int32.lt_iff_toInt_lt.mp (Int32.not_le.mp c_20)
            have z_2 := congrArg Int32.toInt c_29
            have y_32 : (32 : Int32).toInt = 32 := by decide
            first | assumption | omega
          have hh_35 : 0 ≤ ((Tv 0) : Int32).toInt ∧ ((Tv 0) : Int32).toInt ≤ 400 ∧ 0 ≤ ((Tv 1) : Int32).toInt ∧ ((Tv 1) : Int32).toInt ≤ 400 ∧ 0 ≤ ((Tv 2) : Int32).toInt ∧ ((Tv 2) : Int32).toInt ≤ 400 := by
            have z_1 := Int32.lt_iff_toInt_lt.mp (Int32.not_le.mp c_20)
            have z_2 := congrArg Int32.toInt c_29
            have y_32 : (32 : Int32).toInt = 32 := by decide
            first | assumption | omega
          refine cV (a := (Ta 0)) (As := [.ref (sk.1 i), .int vy_6, .int vy_5]) (rest := []) (wr := []) ⟨hx, hb, hml, hown, hts⟩ hK hX hA (cu_X10_isPartOf l D tc sk (Ta 0) (Ta 1) (Tv 0) (Tv 1) (Tv 2) (Tv 3) (Tv 4) (Tf 1) i vy_6 vy_5 hh_33 hh_34 hh_35) k_553 k_550 k_552 k_2 k_96 pl_X10_isPartOf ⟨Nat.le_of_ble_eq_true rfl, Nat.le_of_ble_eq_true rfl⟩ rfl rfl (va_recv hK hP (ci := 10) (q0 := 0) rfl rfl) hP hD hS [0, 1] [] rfl rfl rfl rfl rfl (by decide) rfl hl.1 rfl (Nat.le_of_ble_eq_true rfl) dX10_wordAmong_32 ⟨Nat.le_of_ble_eq_true rfl, Nat.le_of_ble_eq_true rfl⟩ (fun v_36 u_37 H locs hv_38 hP hD hS => ?_)
          obtain ⟨r_39, rfl, he_40⟩ := hv_38
          have he_40 : ((r_39.toInt = 0 ∨ r_39.toInt = 1)) ∧ (0 ≤ ((Tv 0) : Int32).toInt ∧ ((Tv 0) : Int32).toInt ≤ 400 ∧ 0 ≤ ((Tv 1) : Int32).toInt ∧ ((Tv 1) : Int32).toInt ≤ 400 ∧ 0 ≤ ((Tv 2) : Int32).toInt ∧ ((Tv 2) : Int32).toInt ≤ 400) := he_40
          have he_40_0 : (0 ≤ ((Tv 0) : Int32).toInt ∧ ((Tv 0) : Int32).toInt ≤ 400 ∧ 0 ≤ ((Tv 1) : Int32).toInt ∧ ((Tv 1) : Int32).toInt ≤ 400 ∧ 0 ≤ ((Tv 2) : Int32).toInt ∧ ((Tv 2) : Int32).toInt ≤ 400) := he_40.2
          refine W.eq (g2 := F0 m 35 ls [.int r_39]) rfl ?_
          have hP : va_P D classes [((Ta 0), .inr (10, [.ref (Ta 1), .int (Tv 0), .int (Tv 1), .int (Tv 2), .int (Tv 3), .int (Tv 4)])), ((Ta 1), .inl (tc 0, 400, .inl (Tf 1)))] H := hP
          have hD : va_D A [((Ta 0), .inr (10, [.ref (Ta 1), .int (Tv 0), .int (Tv 1), .int (Tv 2), .int (Tv 3), .int (Tv 4)])), ((Ta 1), .inl (tc 0, 400, .inl (Tf 1)))] := hD
          refine lv_if_eq (tgt := 40) hx hb dX10_wordAmong_35 (by decide) (fun c_41 => ?_) (fun c_41 => ?_)
          · skip
            obtain ⟨x_42, ex_42⟩ : ∃ y : Int32, y = vy_7 + 1 := ⟨_, rfl⟩
            refine lv_iinc (v := x_42) (lv' := [(2, .int x_42), (4, .int vy_5), (3, .int vy_6), (0, .ref (Ta 0)), (1, .ref (sk.1 i))]) hx hb dX10_wordAmong_40 hl (k := 2) rfl (by rw [ex_42]; rfl) (by decide) rfl (fun ls hl => ?_)
            refine lv_iload hx hb dX10_wordAmong_43 (lv_at hl 1 rfl) ?_
            refine lv_iconst (v := 1) hx hb dX10_wordAmong_45 (by decide) ?_
            refine lv_iadd hx hb dX10_wordAmong_46 ?_
            refine lv_topi (fun x_43 ex_43 => ?_)
            refine lv_istore_n (lv' := [(3, .int x_43), (2, .int x_42), (4, .int vy_5), (0, .ref (Ta 0)), (1, .ref (sk.1 i))]) hx hb dX10_wordAmong_47 rfl hl (by decide) rfl (fun ls hl => ?_)
            obtain ⟨x_44, ex_44⟩ : ∃ y : Int32, y = vy_5 + 1 := ⟨_, rfl⟩
            refine lv_iinc (v := x_44) (lv' := [(4, .int x_44), (3, .int x_43), (2, .int x_42), (0, .ref (Ta 0)), (1, .ref (sk.1 i))]) hx hb dX10_wordAmong_48 hl (k := 2) rfl (by rw [ex_44]; rfl) (by decide) rfl (fun ls hl => ?_)
            refine lv_goto (tgt := 7) hx hb dX10_wordAmong_51 (by decide) ?_
            have hb_45 : 0 ≤ (x_44 : Int32).toInt ∧ (75 - (x_44 : Int32).toInt).toNat < n_8 := by
              have z_1 := Int32.lt_iff_toInt_lt.mp (Int32.not_le.mp c_20)
              have z_2 := congrArg Int32.toInt c_29
              have z_3 := congrArg Int32.toInt c_41
              have y_0 : (0 : Int32).toInt = 0 := by decide
              have y_32 : (32 : Int32).toInt = 32 := by decide
              have y_1 : (1 : Int32).toInt = 1 := by decide
              have t_x_44 : x_44.toInt = (vy_5 : Int32).toInt + (1 : Int32).toInt := by rw [ex_44]; exact add_toInt (by omega) (by omega)
              omega
            have hv_46 : 0 ≤ (x_43 : Int32).toInt ∧ (x_43 : Int32).toInt ≤ (x_44 : Int32).toInt ∧ (x_44 : Int32).toInt ≤ 75 := by
              have z_1 := Int32.lt_iff_toInt_lt.mp (Int32.not_le.mp c_20)
              have z_2 := congrArg Int32.toInt c_29
              have z_3 := congrArg Int32.toInt c_41
              have y_0 : (0 : Int32).toInt = 0 := by decide
              have y_32 : (32 : Int32).toInt = 32 := by decide
              have y_1 : (1 : Int32).toInt = 1 := by decide
              have t_x_43 : x_43.toInt = (vy_5 : Int32).toInt + (1 : Int32).toInt := by rw [ex_43]; exact add_toInt (by omega) (by omega)
              have t_x_44 : x_44.toInt = (vy_5 : Int32).toInt + (1 : Int32).toInt := by rw [ex_44]; exact add_toInt (by omega) (by omega)
              omega
            exact ih_9 x_44 x_43 x_42 _ _ _ hb_45.1 hb_45.2 hv_46 (hP.sub [0, 1] rfl) (hD.sub [0, 1] rfl rfl) hS (lv_sub hl [0, 1, 2, 3, 4] rfl)
          · skip
            refine lv_iload_n hx hb dX10_wordAmong_38 rfl (lv_at hl 2 rfl) ?_
            have hq_47 : 0 ≤ ((Tv 0) : Int32).toInt ∧ ((Tv 0) : Int32).toInt ≤ 400 ∧ 0 ≤ ((Tv 1) : Int32).toInt ∧ ((Tv 1) : Int32).toInt ≤ 400 ∧ 0 ≤ ((Tv 2) : Int32).toInt ∧ ((Tv 2) : Int32).toInt ≤ 400 := by
              have z_1 := Int32.lt_iff_toInt_lt.mp (Int32.not_le.mp c_20)
              have z_2 := congrArg Int32.toInt c_29
              have z_3 : ¬ (r_39 : Int32).toInt = (0 : Int32).toInt := fun z => c_41 (Int32.toInt_inj.mp z)
              have y_0 : (0 : Int32).toInt = 0 := by decide
              have y_32 : (32 : Int32).toInt = 32 := by decide
              first | assumption | omega
            exact retI (v := vy_7) hx hb hr hlk (rfl) hP hD hS () ⟨_, rfl, trivial, hq_47⟩ [0, 1] rfl rfl dX10_wordAmong_39 (Nat.le_of_ble_eq_true rfl) (Nat.le_of_ble_eq_true rfl) rfl
  have h0_48 : 0 ≤ (0 : Int32).toInt := by
    have y_0 : (0 : Int32).toInt = 0 := by decide
    decide
  have hv_49 : 0 ≤ (0 : Int32).toInt ∧ (0 : Int32).toInt ≤ (0 : Int32).toInt ∧ (0 : Int32).toInt ≤ 75 := by
    have y_0 : (0 : Int32).toInt = 0 := by decide
    omega
  exact loop_10 _ 0 0 0 _ _ _ h0_48 (Nat.lt_succ_self _) hv_49 hP hD hS hl
set_option maxRecDepth 100000 in
theorem cu_X10_wordAmong (l : Launch) (D : va_G) (tc : Nat → ClassId) (sk : (Nat → Nat) × (Nat → Nat)) (Ta_0 : Nat) (Ta_1 : Nat) (Tv_0 : Int32) (Tv_1 : Int32) (Tv_2 : Int32) (Tv_3 : Int32) (Tv_4 : Int32) (Tf_1 : Nat → Int32) (i : Nat) (hi : i < 7) (h_tape : 0 ≤ (Tv_0 : Int32).toInt ∧ (Tv_0 : Int32).toInt ≤ 400 ∧ 0 ≤ (Tv_1 : Int32).toInt ∧ (Tv_1 : Int32).toInt ≤ 400 ∧ 0 ≤ (Tv_2 : Int32).toInt ∧ (Tv_2 : Int32).toInt ≤ 400) : Ct l yX10_wordAmong cX10_wordAmong 5 (some .int) { frames := 5, cells := 0, slots := 0, locals := 109 } D tc sk [.ref Ta_0, .ref (sk.1 i)] [(Ta_0, .inr (10, [.ref Ta_1, .int Tv_0, .int Tv_1, .int Tv_2, .int Tv_3, .int Tv_4])), (Ta_1, .inl (tc 0, 400, .inl Tf_1))] (fun (v : Option Value) (_ : Unit) => ∃ r : Int32, v = some (.int r) ∧ (True) ∧ (0 ≤ (Tv_0 : Int32).toInt ∧ (Tv_0 : Int32).toInt ≤ 400 ∧ 0 ≤ (Tv_1 : Int32).toInt ∧ (Tv_1 : Int32).toInt ≤ 400 ∧ 0 ≤ (Tv_2 : Int32).toInt ∧ (Tv_2 : Int32).toInt ≤ 400)) (fun (_ : Unit) => [(Ta_0, .inr (10, [.ref Ta_1, .int Tv_0, .int Tv_1, .int Tv_2, .int Tv_3, .int Tv_4])), (Ta_1, .inl (tc 0, 400, .inl Tf_1))]) 0 0 :=
  ct_X10_wordAmong l D tc sk (fun k => ([Ta_0, Ta_1] : List (Nat)).getD k 0) (fun k => ([Tv_0, Tv_1, Tv_2, Tv_3, Tv_4] : List (Int32)).getD k 0) (fun k => ([(fun _ => 0), Tf_1] : List (Nat → Int32)).getD k (fun _ => 0)) i hi h_tape
