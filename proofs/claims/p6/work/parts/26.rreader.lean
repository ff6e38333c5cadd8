theorem dX7_arithmetic_0 : decode cX7_arithmetic 0 = .ok (.aload_n 0, 1) := by decide +kernel
theorem dX7_arithmetic_1 : decode cX7_arithmetic 1 = .ok (.getfield 86, 3) := by decide +kernel
theorem dX7_arithmetic_4 : decode cX7_arithmetic 4 = .ok (.tableswitch 75 37 47 #[72, 75, 75, 75, 75, 66, 60, 75, 63, 75, 69], 60) := by decide +kernel
theorem dX7_arithmetic_64 : decode cX7_arithmetic 64 = .ok (.bipush (-12), 2) := by decide +kernel
theorem dX7_arithmetic_66 : decode cX7_arithmetic 66 = .ok (.ireturn, 1) := by decide +kernel
theorem dX7_arithmetic_67 : decode cX7_arithmetic 67 = .ok (.bipush (-13), 2) := by decide +kernel
theorem dX7_arithmetic_69 : decode cX7_arithmetic 69 = .ok (.ireturn, 1) := by decide +kernel
theorem dX7_arithmetic_70 : decode cX7_arithmetic 70 = .ok (.bipush (-14), 2) := by decide +kernel
theorem dX7_arithmetic_72 : decode cX7_arithmetic 72 = .ok (.ireturn, 1) := by decide +kernel
theorem dX7_arithmetic_73 : decode cX7_arithmetic 73 = .ok (.bipush (-15), 2) := by decide +kernel
theorem dX7_arithmetic_75 : decode cX7_arithmetic 75 = .ok (.ireturn, 1) := by decide +kernel
theorem dX7_arithmetic_76 : decode cX7_arithmetic 76 = .ok (.bipush (-16), 2) := by decide +kernel
theorem dX7_arithmetic_78 : decode cX7_arithmetic 78 = .ok (.ireturn, 1) := by decide +kernel
theorem dX7_arithmetic_79 : decode cX7_arithmetic 79 = .ok (.iconst (-1), 1) := by decide +kernel
theorem dX7_arithmetic_80 : decode cX7_arithmetic 80 = .ok (.ireturn, 1) := by decide +kernel
theorem dX7_comparison_0 : decode cX7_comparison 0 = .ok (.aload_n 0, 1) := by decide +kernel
theorem dX7_comparison_1 : decode cX7_comparison 1 = .ok (.getfield 118, 3) := by decide +kernel
theorem dX7_comparison_4 : decode cX7_comparison 4 = .ok (.aload_n 0, 1) := by decide +kernel
theorem dX7_comparison_5 : decode cX7_comparison 5 = .ok (.getfield 121, 3) := by decide +kernel
theorem dX7_comparison_8 : decode cX7_comparison 8 = .ok (.isub, 1) := by decide +kernel
theorem dX7_comparison_9 : decode cX7_comparison 9 = .ok (.iconst 2, 1) := by decide +kernel
theorem dX7_comparison_10 : decode cX7_comparison 10 = .ok (.if_icmp .ne 7, 3) := by decide +kernel
theorem dX7_comparison_13 : decode cX7_comparison 13 = .ok (.iconst 1, 1) := by decide +kernel
theorem dX7_comparison_14 : decode cX7_comparison 14 = .ok (.goto 4, 3) := by decide +kernel
theorem dX7_comparison_17 : decode cX7_comparison 17 = .ok (.iconst 0, 1) := by decide +kernel
theorem dX7_comparison_18 : decode cX7_comparison 18 = .ok (.istore_n 1, 1) := by decide +kernel
theorem dX7_comparison_19 : decode cX7_comparison 19 = .ok (.aload_n 0, 1) := by decide +kernel
theorem dX7_comparison_20 : decode cX7_comparison 20 = .ok (.getfield 86, 3) := by decide +kernel
theorem dX7_comparison_23 : decode cX7_comparison 23 = .ok (.tableswitch 52 60 62 #[25, 37, 40], 25) := by decide +kernel
theorem dX7_comparison_48 : decode cX7_comparison 48 = .ok (.iload_n 1, 1) := by decide +kernel
theorem dX7_comparison_49 : decode cX7_comparison 49 = .ok (.ifCond .eq 8, 3) := by decide +kernel
theorem dX7_comparison_52 : decode cX7_comparison 52 = .ok (.bipush (-8), 2) := by decide +kernel
theorem dX7_comparison_54 : decode cX7_comparison 54 = .ok (.goto 5, 3) := by decide +kernel
theorem dX7_comparison_57 : decode cX7_comparison 57 = .ok (.bipush (-7), 2) := by decide +kernel
theorem dX7_comparison_59 : decode cX7_comparison 59 = .ok (.ireturn, 1) := by decide +kernel
theorem dX7_comparison_60 : decode cX7_comparison 60 = .ok (.bipush (-9), 2) := by decide +kernel
theorem dX7_comparison_62 : decode cX7_comparison 62 = .ok (.ireturn, 1) := by decide +kernel
theorem dX7_comparison_63 : decode cX7_comparison 63 = .ok (.iload_n 1, 1) := by decide +kernel
theorem dX7_comparison_64 : decode cX7_comparison 64 = .ok (.ifCond .eq 8, 3) := by decide +kernel
theorem dX7_comparison_67 : decode cX7_comparison 67 = .ok (.bipush (-10), 2) := by decide +kernel
theorem dX7_comparison_69 : decode cX7_comparison 69 = .ok (.goto 5, 3) := by decide +kernel
theorem dX7_comparison_72 : decode cX7_comparison 72 = .ok (.bipush (-11), 2) := by decide +kernel
theorem dX7_comparison_74 : decode cX7_comparison 74 = .ok (.ireturn, 1) := by decide +kernel
theorem dX7_comparison_75 : decode cX7_comparison 75 = .ok (.iconst (-1), 1) := by decide +kernel
theorem dX7_comparison_76 : decode cX7_comparison 76 = .ok (.ireturn, 1) := by decide +kernel
theorem dX7_countOne_0 : decode cX7_countOne 0 = .ok (.aload_n 0, 1) := by decide +kernel
theorem dX7_countOne_1 : decode cX7_countOne 1 = .ok (.getfield 19, 3) := by decide +kernel
theorem dX7_countOne_4 : decode cX7_countOne 4 = .ok (.bipush 60, 2) := by decide +kernel
theorem dX7_countOne_6 : decode cX7_countOne 6 = .ok (.if_icmp .lt 8, 3) := by decide +kernel
theorem dX7_countOne_9 : decode cX7_countOne 9 = .ok (.aload_n 1, 1) := by decide +kernel
theorem dX7_countOne_10 : decode cX7_countOne 10 = .ok (.iconst 3, 1) := by decide +kernel
theorem dX7_countOne_11 : decode cX7_countOne 11 = .ok (.invokevirtual 37, 3) := by decide +kernel
theorem dX7_countOne_14 : decode cX7_countOne 14 = .ok (.aload_n 0, 1) := by decide +kernel
theorem dX7_countOne_15 : decode cX7_countOne 15 = .ok (.dup, 1) := by decide +kernel
theorem dX7_countOne_16 : decode cX7_countOne 16 = .ok (.getfield 19, 3) := by decide +kernel
theorem dX7_countOne_19 : decode cX7_countOne 19 = .ok (.iconst 1, 1) := by decide +kernel
theorem dX7_countOne_20 : decode cX7_countOne 20 = .ok (.iadd, 1) := by decide +kernel
theorem dX7_countOne_21 : decode cX7_countOne 21 = .ok (.putfield 19, 3) := by decide +kernel
theorem dX7_countOne_24 : decode cX7_countOne 24 = .ok (.return_, 1) := by decide +kernel
theorem dX7_put_0 : decode cX7_put 0 = .ok (.aload_n 0, 1) := by decide +kernel
theorem dX7_put_1 : decode cX7_put 1 = .ok (.getfield 15, 3) := by decide +kernel
theorem dX7_put_4 : decode cX7_put 4 = .ok (.ifCond .lt 35, 3) := by decide +kernel
theorem dX7_put_7 : decode cX7_put 7 = .ok (.aload_n 0, 1) := by decide +kernel
theorem dX7_put_8 : decode cX7_put 8 = .ok (.getfield 15, 3) := by decide +kernel
theorem dX7_put_11 : decode cX7_put 11 = .ok (.aload_n 0, 1) := by decide +kernel
theorem dX7_put_12 : decode cX7_put 12 = .ok (.getfield 9, 3) := by decide +kernel
theorem dX7_put_15 : decode cX7_put 15 = .ok (.arraylength, 1) := by decide +kernel
theorem dX7_put_16 : decode cX7_put 16 = .ok (.if_icmp .ge 23, 3) := by decide +kernel
theorem dX7_put_19 : decode cX7_put 19 = .ok (.aload_n 0, 1) := by decide +kernel
theorem dX7_put_20 : decode cX7_put 20 = .ok (.getfield 9, 3) := by decide +kernel
theorem dX7_put_23 : decode cX7_put 23 = .ok (.aload_n 0, 1) := by decide +kernel
theorem dX7_put_24 : decode cX7_put 24 = .ok (.getfield 15, 3) := by decide +kernel
theorem dX7_put_27 : decode cX7_put 27 = .ok (.iload_n 1, 1) := by decide +kernel
theorem dX7_put_28 : decode cX7_put 28 = .ok (.iastore, 1) := by decide +kernel
theorem dX7_put_29 : decode cX7_put 29 = .ok (.aload_n 0, 1) := by decide +kernel
theorem dX7_put_30 : decode cX7_put 30 = .ok (.dup, 1) := by decide +kernel
theorem dX7_put_31 : decode cX7_put 31 = .ok (.getfield 15, 3) := by decide +kernel
theorem dX7_put_34 : decode cX7_put 34 = .ok (.iconst 1, 1) := by decide +kernel
theorem dX7_put_35 : decode cX7_put 35 = .ok (.iadd, 1) := by decide +kernel
theorem dX7_put_36 : decode cX7_put 36 = .ok (.putfield 15, 3) := by decide +kernel
theorem dX7_put_39 : decode cX7_put 39 = .ok (.return_, 1) := by decide +kernel
theorem dX7_readSum_0 : decode cX7_readSum 0 = .ok (.aload_n 0, 1) := by decide +kernel
theorem dX7_readSum_1 : decode cX7_readSum 1 = .ok (.aload_n 1, 1) := by decide +kernel
theorem dX7_readSum_2 : decode cX7_readSum 2 = .ok (.invokevirtual 96, 3) := by decide +kernel
theorem dX7_readSum_5 : decode cX7_readSum 5 = .ok (.iconst (-1), 1) := by decide +kernel
theorem dX7_readSum_6 : decode cX7_readSum 6 = .ok (.istore_n 2, 1) := by decide +kernel
theorem dX7_readSum_7 : decode cX7_readSum 7 = .ok (.iconst 0, 1) := by decide +kernel
theorem dX7_readSum_8 : decode cX7_readSum 8 = .ok (.istore_n 3, 1) := by decide +kernel
theorem dX7_readSum_9 : decode cX7_readSum 9 = .ok (.iload_n 3, 1) := by decide +kernel
theorem dX7_readSum_10 : decode cX7_readSum 10 = .ok (.sipush 400, 3) := by decide +kernel
theorem dX7_readSum_13 : decode cX7_readSum 13 = .ok (.if_icmp .ge 73, 3) := by decide +kernel
theorem dX7_readSum_16 : decode cX7_readSum 16 = .ok (.aload_n 1, 1) := by decide +kernel
theorem dX7_readSum_17 : decode cX7_readSum 17 = .ok (.invokestatic 99, 3) := by decide +kernel
theorem dX7_readSum_20 : decode cX7_readSum 20 = .ok (.iconst (-1), 1) := by decide +kernel
theorem dX7_readSum_21 : decode cX7_readSum 21 = .ok (.if_icmp .eq 65, 3) := by decide +kernel
theorem dX7_readSum_24 : decode cX7_readSum 24 = .ok (.aload_n 1, 1) := by decide +kernel
theorem dX7_readSum_25 : decode cX7_readSum 25 = .ok (.invokestatic 99, 3) := by decide +kernel
theorem dX7_readSum_28 : decode cX7_readSum 28 = .ok (.istore 4, 2) := by decide +kernel
theorem dX7_readSum_30 : decode cX7_readSum 30 = .ok (.aload_n 1, 1) := by decide +kernel
theorem dX7_readSum_31 : decode cX7_readSum 31 = .ok (.invokevirtual 41, 3) := by decide +kernel
theorem dX7_readSum_34 : decode cX7_readSum 34 = .ok (.iload 4, 2) := by decide +kernel
theorem dX7_readSum_36 : decode cX7_readSum 36 = .ok (.bipush (-12), 2) := by decide +kernel
theorem dX7_readSum_38 : decode cX7_readSum 38 = .ok (.if_icmp .eq 10, 3) := by decide +kernel
theorem dX7_readSum_41 : decode cX7_readSum 41 = .ok (.iload 4, 2) := by decide +kernel
theorem dX7_readSum_43 : decode cX7_readSum 43 = .ok (.bipush (-13), 2) := by decide +kernel
theorem dX7_readSum_45 : decode cX7_readSum 45 = .ok (.if_icmp .ne 24, 3) := by decide +kernel
theorem dX7_readSum_48 : decode cX7_readSum 48 = .ok (.iload_n 2, 1) := by decide +kernel
theorem dX7_readSum_49 : decode cX7_readSum 49 = .ok (.iconst (-1), 1) := by decide +kernel
theorem dX7_readSum_50 : decode cX7_readSum 50 = .ok (.if_icmp .eq 8, 3) := by decide +kernel
theorem dX7_readSum_53 : decode cX7_readSum 53 = .ok (.aload_n 0, 1) := by decide +kernel
theorem dX7_readSum_54 : decode cX7_readSum 54 = .ok (.iload_n 2, 1) := by decide +kernel
theorem dX7_readSum_55 : decode cX7_readSum 55 = .ok (.invokevirtual 59, 3) := by decide +kernel
theorem dX7_readSum_58 : decode cX7_readSum 58 = .ok (.iload 4, 2) := by decide +kernel
theorem dX7_readSum_60 : decode cX7_readSum 60 = .ok (.istore_n 2, 1) := by decide +kernel
theorem dX7_readSum_61 : decode cX7_readSum 61 = .ok (.aload_n 0, 1) := by decide +kernel
theorem dX7_readSum_62 : decode cX7_readSum 62 = .ok (.aload_n 1, 1) := by decide +kernel
theorem dX7_readSum_63 : decode cX7_readSum 63 = .ok (.invokevirtual 96, 3) := by decide +kernel
theorem dX7_readSum_66 : decode cX7_readSum 66 = .ok (.goto 14, 3) := by decide +kernel
theorem dX7_readSum_69 : decode cX7_readSum 69 = .ok (.aload_n 0, 1) := by decide +kernel
theorem dX7_readSum_70 : decode cX7_readSum 70 = .ok (.aload_n 1, 1) := by decide +kernel
theorem dX7_readSum_71 : decode cX7_readSum 71 = .ok (.invokevirtual 96, 3) := by decide +kernel
theorem dX7_readSum_74 : decode cX7_readSum 74 = .ok (.aload_n 0, 1) := by decide +kernel
theorem dX7_readSum_75 : decode cX7_readSum 75 = .ok (.iload 4, 2) := by decide +kernel
theorem dX7_readSum_77 : decode cX7_readSum 77 = .ok (.invokevirtual 59, 3) := by decide +kernel
theorem dX7_readSum_80 : decode cX7_readSum 80 = .ok (.iinc 3 1, 3) := by decide +kernel
theorem dX7_readSum_83 : decode cX7_readSum 83 = .ok (.goto (-74), 3) := by decide +kernel
theorem dX7_readSum_86 : decode cX7_readSum 86 = .ok (.iload_n 2, 1) := by decide +kernel
theorem dX7_readSum_87 : decode cX7_readSum 87 = .ok (.iconst (-1), 1) := by decide +kernel
theorem dX7_readSum_88 : decode cX7_readSum 88 = .ok (.if_icmp .eq 8, 3) := by decide +kernel
theorem dX7_readSum_91 : decode cX7_readSum 91 = .ok (.aload_n 0, 1) := by decide +kernel
theorem dX7_readSum_92 : decode cX7_readSum 92 = .ok (.iload_n 2, 1) := by decide +kernel
theorem dX7_readSum_93 : decode cX7_readSum 93 = .ok (.invokevirtual 59, 3) := by decide +kernel
theorem dX7_readSum_96 : decode cX7_readSum 96 = .ok (.return_, 1) := by decide +kernel
theorem dX7_readValue_0 : decode cX7_readValue 0 = .ok (.iconst 0, 1) := by decide +kernel
theorem dX7_readValue_1 : decode cX7_readValue 1 = .ok (.istore_n 2, 1) := by decide +kernel
theorem dX7_readValue_2 : decode cX7_readValue 2 = .ok (.aload_n 1, 1) := by decide +kernel
theorem dX7_readValue_3 : decode cX7_readValue 3 = .ok (.getfield 86, 3) := by decide +kernel
theorem dX7_readValue_6 : decode cX7_readValue 6 = .ok (.invokestatic 102, 3) := by decide +kernel
theorem dX7_readValue_9 : decode cX7_readValue 9 = .ok (.ifCond .eq 14, 3) := by decide +kernel
theorem dX7_readValue_12 : decode cX7_readValue 12 = .ok (.aload_n 1, 1) := by decide +kernel
theorem dX7_readValue_13 : decode cX7_readValue 13 = .ok (.iconst 0, 1) := by decide +kernel
theorem dX7_readValue_14 : decode cX7_readValue 14 = .ok (.ldc 106, 2) := by decide +kernel
theorem dX7_readValue_16 : decode cX7_readValue 16 = .ok (.invokevirtual 107, 3) := by decide +kernel
theorem dX7_readValue_19 : decode cX7_readValue 19 = .ok (.istore_n 2, 1) := by decide +kernel
theorem dX7_readValue_20 : decode cX7_readValue 20 = .ok (.goto 28, 3) := by decide +kernel
theorem dX7_readValue_23 : decode cX7_readValue 23 = .ok (.aload_n 1, 1) := by decide +kernel
theorem dX7_readValue_24 : decode cX7_readValue 24 = .ok (.ldc 111, 2) := by decide +kernel
theorem dX7_readValue_26 : decode cX7_readValue 26 = .ok (.invokevirtual 113, 3) := by decide +kernel
theorem dX7_readValue_29 : decode cX7_readValue 29 = .ok (.istore_n 3, 1) := by decide +kernel
theorem dX7_readValue_30 : decode cX7_readValue 30 = .ok (.iload_n 3, 1) := by decide +kernel
theorem dX7_readValue_31 : decode cX7_readValue 31 = .ok (.iconst (-1), 1) := by decide +kernel
theorem dX7_readValue_32 : decode cX7_readValue 32 = .ok (.if_icmp .ne 11, 3) := by decide +kernel
theorem dX7_readValue_35 : decode cX7_readValue 35 = .ok (.aload_n 1, 1) := by decide +kernel
theorem dX7_readValue_36 : decode cX7_readValue 36 = .ok (.iconst 0, 1) := by decide +kernel
theorem dX7_readValue_37 : decode cX7_readValue 37 = .ok (.invokevirtual 37, 3) := by decide +kernel
theorem dX7_readValue_40 : decode cX7_readValue 40 = .ok (.goto 8, 3) := by decide +kernel
theorem dX7_readValue_43 : decode cX7_readValue 43 = .ok (.ldc 117, 2) := by decide +kernel
theorem dX7_readValue_45 : decode cX7_readValue 45 = .ok (.iload_n 3, 1) := by decide +kernel
theorem dX7_readValue_46 : decode cX7_readValue 46 = .ok (.iadd, 1) := by decide +kernel
theorem dX7_readValue_47 : decode cX7_readValue 47 = .ok (.istore_n 2, 1) := by decide +kernel
theorem dX7_readValue_48 : decode cX7_readValue 48 = .ok (.aload_n 0, 1) := by decide +kernel
theorem dX7_readValue_49 : decode cX7_readValue 49 = .ok (.aload_n 1, 1) := by decide +kernel
theorem dX7_readValue_50 : decode cX7_readValue 50 = .ok (.invokevirtual 93, 3) := by decide +kernel
theorem dX7_readValue_53 : decode cX7_readValue 53 = .ok (.aload_n 0, 1) := by decide +kernel
theorem dX7_readValue_54 : decode cX7_readValue 54 = .ok (.iload_n 2, 1) := by decide +kernel
theorem dX7_readValue_55 : decode cX7_readValue 55 = .ok (.invokevirtual 59, 3) := by decide +kernel
theorem dX7_readValue_58 : decode cX7_readValue 58 = .ok (.aload_n 1, 1) := by decide +kernel
theorem dX7_readValue_59 : decode cX7_readValue 59 = .ok (.invokevirtual 41, 3) := by decide +kernel
theorem dX7_readValue_62 : decode cX7_readValue 62 = .ok (.return_, 1) := by decide +kernel
set_option maxHeartbeats 4000000 in
set_option maxRecDepth 100000 in
theorem ct_X7_put (l : Launch) (D : va_G) (tc : Nat → ClassId) (sk : (Nat → Nat) × (Nat → Nat)) (Va : Nat → Nat) (Vv : Nat → Int32) (Vf : Nat → Nat → Int32) (x1 : Int32)  : Ct l yX7_put cX7_put 2 none { frames := 0, cells := 0, slots := 0, locals := 0 } D tc sk [.ref (Va 0), .int x1] [((Va 0), .inr (7, [.ref (Va 1), .int (Vv 0), .int (Vv 1)])), ((Va 1), .inl (tc 0, 400, .inl (Vf 1)))] (fun (v : Option Value) (u : (Int32) × (Nat → Int32)) => match u with | (o1, o2) => v = none) (fun (u : (Int32) × (Nat → Int32)) => match u with | (o1, o2) => [((Va 0), .inr (7, [.ref (Va 1), .int o1, .int (Vv 1)])), ((Va 1), .inl (tc 0, 400, .inl o2))]) 0 0 := by
  refine Ct.start (by decide) (Nat.le_of_ble_eq_true rfl) (fun p e s m below meth c A ls hx hb hr hlk hin hml hown hts hK hX hP hD hA hl hS => ?_)
  have hl : lv_has ls 2 [(0, .ref (Va 0)), (1, .int x1)] := hl
  refine lv_aload_n hx hb dX7_put_0 rfl (lv_at hl 0 rfl) ?_
  refine gf_X7_15 hx hb hts hown hK hP 0 rfl rfl dX7_put_1 ?_
  refine lv_if_lt (tgt := 39) hx hb dX7_put_4 (by decide) (fun c_1 => ?_) (fun c_1 => ?_)
  · skip
    exact retV hx hb hr hlk hP hD hS ((Vv 0), (Vf 1)) rfl [0, 1] rfl rfl dX7_put_39 (Nat.le_of_ble_eq_true rfl) (Nat.le_of_ble_eq_true rfl) rfl
  · skip
    refine lv_aload_n hx hb dX7_put_7 rfl (lv_at hl 0 rfl) ?_
    refine gf_X7_15 hx hb hts hown hK hP 0 rfl rfl dX7_put_8 ?_
    refine lv_aload_n hx hb dX7_put_11 rfl (lv_at hl 0 rfl) ?_
    refine gf_X7_9 hx hb hts hown hK hP 0 rfl rfl dX7_put_12 ?_
    refine va_alen hx hb hK hP 1 0 rfl rfl (v := 400) rfl dX7_put_15 ?_
    refine lv_icmp_ge (tgt := 39) hx hb dX7_put_16 (by decide) (fun c_2 => ?_) (fun c_2 => ?_)
    · skip
      exact retV hx hb hr hlk hP hD hS ((Vv 0), (Vf 1)) rfl [0, 1] rfl rfl dX7_put_39 (Nat.le_of_ble_eq_true rfl) (Nat.le_of_ble_eq_true rfl) rfl
    · skip
      refine lv_aload_n hx hb dX7_put_19 rfl (lv_at hl 0 rfl) ?_
      refine gf_X7_9 hx hb hts hown hK hP 0 rfl rfl dX7_put_20 ?_
      refine lv_aload_n hx hb dX7_put_23 rfl (lv_at hl 0 rfl) ?_
      refine gf_X7_15 hx hb hts hown hK hP 0 rfl rfl dX7_put_24 ?_
      refine lv_iload_n hx hb dX7_put_27 rfl (lv_at hl 1 rfl) ?_
      have hi_3 : vp_in (Vv 0) 400 := by
        have z_1 := Int32.le_iff_toInt_le.mp (Int32.not_lt.mp c_1)
        have z_2 := Int32.lt_iff_toInt_lt.mp (Int32.not_le.mp c_2)
        have y_0 : (0 : Int32).toInt = 0 := by decide
        have y_400 : (400 : Int32).toInt = 400 := by decide
        refine vp_in_iff.mpr ⟨?_, ?_⟩ <;> omega
      refine st_int hx hb hK hP hD hS 1 0 rfl rfl hi_3 dX7_put_28 (fun g_4 H locs eg_4 hP₀ hD₀ hS₀ => ?_)
      replace hP : va_P D classes [((Va 0), .inr (7, [.ref (Va 1), .int (Vv 0), .int (Vv 1)])), ((Va 1), .inl (tc 0, 400, .inl g_4))] H := hP₀
      replace hD : va_D A [((Va 0), .inr (7, [.ref (Va 1), .int (Vv 0), .int (Vv 1)])), ((Va 1), .inl (tc 0, 400, .inl g_4))] := hD₀
      replace hS := hS₀
      clear hP₀ hD₀ hS₀
      refine lv_aload_n hx hb dX7_put_29 rfl (lv_at hl 0 rfl) ?_
      refine lv_dup hx hb dX7_put_30 rfl ?_
      refine gf_X7_15 hx hb hts hown hK hP 0 rfl rfl dX7_put_31 ?_
      refine lv_iconst (v := 1) hx hb dX7_put_34 (by decide) ?_
      refine lv_iadd hx hb dX7_put_35 ?_
      refine lv_topi (fun x_5 ex_5 => ?_)
      refine pf_X7_15 hx hb hts hown hK hP hD hS 0 rfl (Nat.le_of_ble_eq_true rfl) rfl rfl dX7_put_36 (fun H locs hP₀ hD₀ hS₀ => ?_)
      replace hP : va_P D classes [((Va 0), .inr (7, [.ref (Va 1), .int x_5, .int (Vv 1)])), ((Va 1), .inl (tc 0, 400, .inl g_4))] H := hP₀
      replace hD : va_D A [((Va 0), .inr (7, [.ref (Va 1), .int x_5, .int (Vv 1)])), ((Va 1), .inl (tc 0, 400, .inl g_4))] := hD₀
      replace hS := hS₀
      clear hP₀ hD₀ hS₀
      exact retV hx hb hr hlk hP hD hS (x_5, g_4) rfl [0, 1] rfl rfl dX7_put_39 (Nat.le_of_ble_eq_true rfl) (Nat.le_of_ble_eq_true rfl) rfl
set_option maxRecDepth 100000 in
theorem cu_X7_put (l : Launch) (D : va_G) (tc : Nat → ClassId) (sk : (Nat → Nat) × (Nat → Nat)) (Va_0 : Nat) (Va_1 : Nat) (Vv_0 : Int32) (Vv_1 : Int32) (Vf_1 : Nat → Int32) (x1 : Int32)  : Ct l yX7_put cX7_put 2 none { frames := 0, cells := 0, slots := 0, locals := 0 } D tc sk [.ref Va_0, .int x1] [(Va_0, .inr (7, [.ref Va_1, .int Vv_0, .int Vv_1])), (Va_1, .inl (tc 0, 400, .inl Vf_1))] (fun (v : Option Value) (u : (Int32) × (Nat → Int32)) => match u with | (o1, o2) => v = none) (fun (u : (Int32) × (Nat → Int32)) => match u with | (o1, o2) => [(Va_0, .inr (7, [.ref Va_1, .int o1, .int Vv_1])), (Va_1, .inl (tc 0, 400, .inl o2))]) 0 0 :=
  ct_X7_put l D tc sk (fun k => ([Va_0, Va_1] : List (Nat)).getD k 0) (fun k => ([Vv_0, Vv_1] : List (Int32)).getD k 0) (fun k => ([(fun _ => 0), Vf_1] : List (Nat → Int32)).getD k (fun _ => 0)) x1 
set_option maxHeartbeats 4000000 in
set_option maxRecDepth 100000 in
theorem ct_X7_countOne (l : Launch) (D : va_G) (tc : Nat → ClassId) (sk : (Nat → Nat) × (Nat → Nat)) (Va : Nat → Nat) (Vv : Nat → Int32) (Vf : Nat → Nat → Int32) (Ta : Nat → Nat) (Tv : Nat → Int32) (Tf : Nat → Nat → Int32) (h_tape : 0 ≤ ((Tv 0) : Int32).toInt ∧ ((Tv 0) : Int32).toInt ≤ 400 ∧ 0 ≤ ((Tv 1) : Int32).toInt ∧ ((Tv 1) : Int32).toInt ≤ 400 ∧ 0 ≤ ((Tv 2) : Int32).toInt ∧ ((Tv 2) : Int32).toInt ≤ 400) : Ct l yX7_countOne cX7_countOne 2 none { frames := 1, cells := 0, slots := 0, locals := 21 } D tc sk [.ref (Va 0), .ref (Ta 0)] [((Va 0), .inr (7, [.ref (Va 1), .int (Vv 0), .int (Vv 1)])), ((Va 1), .inl (tc 0, 400, .inl (Vf 1))), ((Ta 0), .inr (10, [.ref (Ta 1), .int (Tv 0), .int (Tv 1), .int (Tv 2), .int (Tv 3), .int (Tv 4)])), ((Ta 1), .inl (tc 0, 400, .inl (Tf 1)))] (fun (v : Option Value) (u : (Int32) × (Int32) × (Int32)) => match u with | (o1, o2, o3) => v = none ∧ (0 ≤ ((Tv 0) : Int32).toInt ∧ ((Tv 0) : Int32).toInt ≤ 400 ∧ 0 ≤ ((Tv 1) : Int32).toInt ∧ ((Tv 1) : Int32).toInt ≤ 400 ∧ 0 ≤ ((Tv 2) : Int32).toInt ∧ ((Tv 2) : Int32).toInt ≤ 400)) (fun (u : (Int32) × (Int32) × (Int32)) => match u with | (o1, o2, o3) => [((Va 0), .inr (7, [.ref (Va 1), .int (Vv 0), .int o1])), ((Va 1), .inl (tc 0, 400, .inl (Vf 1))), ((Ta 0), .inr (10, [.ref (Ta 1), .int (Tv 0), .int (Tv 1), .int (Tv 2), .int o2, .int o3])), ((Ta 1), .inl (tc 0, 400, .inl (Tf 1)))]) 0 0 := by
  refine Ct.start (by decide) (Nat.le_of_ble_eq_true rfl) (fun p e s m below meth c A ls hx hb hr hlk hin hml hown hts hK hX hP hD hA hl hS => ?_)
  have hl : lv_has ls 2 [(0, .ref (Va 0)), (1, .ref (Ta 0))] := hl
  refine lv_aload_n hx hb dX7_countOne_0 rfl (lv_at hl 0 rfl) ?_
  refine gf_X7_19 hx hb hts hown hK hP 0 rfl rfl dX7_countOne_1 ?_
  refine lv_bipush (v := 60) hx hb dX7_countOne_4 (by decide) ?_
  refine lv_icmp_lt (tgt := 14) hx hb dX7_countOne_6 (by decide) (fun c_1 => ?_) (fun c_1 => ?_)
  · skip
    refine lv_aload_n hx hb dX7_countOne_14 rfl (lv_at hl 0 rfl) ?_
    refine lv_dup hx hb dX7_countOne_15 rfl ?_
    refine gf_X7_19 hx hb hts hown hK hP 0 rfl rfl dX7_countOne_16 ?_
    refine lv_iconst (v := 1) hx hb dX7_countOne_19 (by decide) ?_
    refine lv_iadd hx hb dX7_countOne_20 ?_
    refine lv_topi (fun x_2 ex_2 => ?_)
    refine pf_X7_19 hx hb hts hown hK hP hD hS 0 rfl (Nat.le_of_ble_eq_true rfl) rfl rfl dX7_countOne_21 (fun H locs hP₀ hD₀ hS₀ => ?_)
    replace hP : va_P D classes [((Va 0), .inr (7, [.ref (Va 1), .int (Vv 0), .int x_2])), ((Va 1), .inl (tc 0, 400, .inl (Vf 1))), ((Ta 0), .inr (10, [.ref (Ta 1), .int (Tv 0), .int (Tv 1), .int (Tv 2), .int (Tv 3), .int (Tv 4)])), ((Ta 1), .inl (tc 0, 400, .inl (Tf 1)))] H := hP₀
    replace hD : va_D A [((Va 0), .inr (7, [.ref (Va 1), .int (Vv 0), .int x_2])), ((Va 1), .inl (tc 0, 400, .inl (Vf 1))), ((Ta 0), .inr (10, [.ref (Ta 1), .int (Tv 0), .int (Tv 1), .int (Tv 2), .int (Tv 3), .int (Tv 4)])), ((Ta 1), .inl (tc 0, 400, .inl (Tf 1)))] := hD₀
    replace hS := hS₀
    clear hP₀ hD₀ hS₀
    exact retV hx hb hr hlk hP hD hS (x_2, (Tv 3), (Tv 4)) ⟨rfl, h_tape⟩ [0, 1, 2, 3] rfl rfl dX7_countOne_24 (Nat.le_of_ble_eq_true rfl) (Nat.le_of_ble_eq_true rfl) rfl
  · skip
    refine lv_aload_n hx hb dX7_countOne_9 rfl (lv_at hl 1 rfl) ?_
    refine lv_iconst (v := 3) hx hb dX7_countOne_10 (by decide) ?_
    refine cV (a := (Ta 0)) (As := [.int 3]) (rest := []) (wr := [((Va 0), .inr (7, [.ref (Va 1), .int (Vv 0), .int (Vv 1)])), ((Va 1), .inl (tc 0, 400, .inl (Vf 1)))]) ⟨hx, hb, hml, hown, hts⟩ hK hX hA (cu_X10_fail l D tc sk (Ta 0) (Ta 1) (Tv 0) (Tv 1) (Tv 2) (Tv 3) (Tv 4) (Tf 1) 3 h_tape) k_557 k_619 k_555 k_556 k_96 pl_X10_fail ⟨Nat.le_of_ble_eq_true rfl, Nat.le_of_ble_eq_true rfl⟩ rfl rfl (va_recv hK hP (ci := 10) (q0 := 2) rfl rfl) hP hD hS [2, 3] [0, 1] rfl rfl rfl rfl rfl (by decide) rfl hl.1 rfl (Nat.le_of_ble_eq_true rfl) dX7_countOne_11 ⟨Nat.le_of_ble_eq_true rfl, Nat.le_of_ble_eq_true rfl⟩ (fun v_3 u_4 H locs hv_5 hP₀ hD₀ hS₀ => ?_)
    obtain ⟨sv_6, sv_7⟩ := u_4
    obtain ⟨rfl, he_8⟩ := hv_5
    have he_8 : (0 ≤ ((Tv 0) : Int32).toInt ∧ ((Tv 0) : Int32).toInt ≤ 400 ∧ 0 ≤ ((Tv 1) : Int32).toInt ∧ ((Tv 1) : Int32).toInt ≤ 400 ∧ 0 ≤ ((Tv 2) : Int32).toInt ∧ ((Tv 2) : Int32).toInt ≤ 400) := he_8
    refine W.eq (g2 := F0 m 14 ls []) rfl ?_
    replace hP : va_P D classes [((Va 0), .inr (7, [.ref (Va 1), .int (Vv 0), .int (Vv 1)])), ((Va 1), .inl (tc 0, 400, .inl (Vf 1))), ((Ta 0), .inr (10, [.ref (Ta 1), .int (Tv 0), .int (Tv 1), .int (Tv 2), .int sv_6, .int sv_7])), ((Ta 1), .inl (tc 0, 400, .inl (Tf 1)))] H := hP₀
    replace hD : va_D A [((Va 0), .inr (7, [.ref (Va 1), .int (Vv 0), .int (Vv 1)])), ((Va 1), .inl (tc 0, 400, .inl (Vf 1))), ((Ta 0), .inr (10, [.ref (Ta 1), .int (Tv 0), .int (Tv 1), .int (Tv 2), .int sv_6, .int sv_7])), ((Ta 1), .inl (tc 0, 400, .inl (Tf 1)))] := hD₀
    replace hS := hS₀
    clear hP₀ hD₀ hS₀
    refine lv_aload_n hx hb dX7_countOne_14 rfl (lv_at hl 0 rfl) ?_
    refine lv_dup hx hb dX7_countOne_15 rfl ?_
    refine gf_X7_19 hx hb hts hown hK hP 0 rfl rfl dX7_countOne_16 ?_
    refine lv_iconst (v := 1) hx hb dX7_countOne_19 (by decide) ?_
    refine lv_iadd hx hb dX7_countOne_20 ?_
    refine lv_topi (fun x_9 ex_9 => ?_)
    refine pf_X7_19 hx hb hts hown hK hP hD hS 0 rfl (Nat.le_of_ble_eq_true rfl) rfl rfl dX7_countOne_21 (fun H locs hP₀ hD₀ hS₀ => ?_)
    replace hP : va_P D classes [((Va 0), .inr (7, [.ref (Va 1), .int (Vv 0), .int x_9])), ((Va 1), .inl (tc 0, 400, .inl (Vf 1))), ((Ta 0), .inr (10, [.ref (Ta 1), .int (Tv 0), .int (Tv 1), .int (Tv 2), .int sv_6, .int sv_7])), ((Ta 1), .inl (tc 0, 400, .inl (Tf 1)))] H := hP₀
    replace hD : va_D A [((Va 0), .inr (7, [.ref (Va 1), .int (Vv 0), .int x_9])), ((Va 1), .inl (tc 0, 400, .inl (Vf 1))), ((Ta 0), .inr (10, [.ref (Ta 1), .int (Tv 0), .int (Tv 1), .int (Tv 2), .int sv_6, .int sv_7])), ((Ta 1), .inl (tc 0, 400, .inl (Tf 1)))] := hD₀
    replace hS := hS₀
    clear hP₀ hD₀ hS₀
    exact retV hx hb hr hlk hP hD hS (x_9, sv_6, sv_7) ⟨rfl, he_8⟩ [0, 1, 2, 3] rfl rfl dX7_countOne_24 (Nat.le_of_ble_eq_true rfl) (Nat.le_of_ble_eq_true rfl) rfl
set_option maxRecDepth 100000 in
theorem cu_X7_countOne (l : Launch) (D : va_G) (tc : Nat → ClassId) (sk : (Nat → Nat) × (Nat → Nat)) (Va_0 : Nat) (Va_1 : Nat) (Vv_0 : Int32) (Vv_1 : Int32) (Vf_1 : Nat → Int32) (Ta_0 : Nat) (Ta_1 : Nat) (Tv_0 : Int32) (Tv_1 : Int32) (Tv_2 : Int32) (Tv_3 : Int32) (Tv_4 : Int32) (Tf_1 : Nat → Int32) (h_tape : 0 ≤ (Tv_0 : Int32).toInt ∧ (Tv_0 : Int32).toInt ≤ 400 ∧ 0 ≤ (Tv_1 : Int32).toInt ∧ (Tv_1 : Int32).toInt ≤ 400 ∧ 0 ≤ (Tv_2 : Int32).toInt ∧ (Tv_2 : Int32).toInt ≤ 400) : Ct l yX7_countOne cX7_countOne 2 none { frames := 1, cells := 0, slots := 0, locals := 21 } D tc sk [.ref Va_0, .ref Ta_0] [(Va_0, .inr (7, [.ref Va_1, .int Vv_0, .int Vv_1])), (Va_1, .inl (tc 0, 400, .inl Vf_1)), (Ta_0, .inr (10, [.ref Ta_1, .int Tv_0, .int Tv_1, .int Tv_2, .int Tv_3, .int Tv_4])), (Ta_1, .inl (tc 0, 400, .inl Tf_1))] (fun (v : Option Value) (u : (Int32) × (Int32) × (Int32)) => match u with | (o1, o2, o3) => v = none ∧ (0 ≤ (Tv_0 : Int32).toInt ∧ (Tv_0 : Int32).toInt ≤ 400 ∧ 0 ≤ (Tv_1 : Int32).toInt ∧ (Tv_1 : Int32).toInt ≤ 400 ∧ 0 ≤ (Tv_2 : Int32).toInt ∧ (Tv_2 : Int32).toInt ≤ 400)) (fun (u : (Int32) × (Int32) × (Int32)) => match u with | (o1, o2, o3) => [(Va_0, .inr (7, [.ref Va_1, .int Vv_0, .int o1])), (Va_1, .inl (tc 0, 400, .inl Vf_1)), (Ta_0, .inr (10, [.ref Ta_1, .int Tv_0, .int Tv_1, .int Tv_2, .int o2, .int o3])), (Ta_1, .inl (tc 0, 400, .inl Tf_1))]) 0 0 :=
  ct_X7_countOne l D tc sk (fun k => ([Va_0, Va_1] : List (Nat)).getD k 0) (fun k => ([Vv_0, Vv_1] : List (Int32)).getD k 0) (fun k => ([(fun _ => 0), Vf_1] : List (Nat → Int32)).getD k (fun _ => 0)) (fun k => ([Ta_0, Ta_1] : List (Nat)).getD k 0) (fun k => ([Tv_0, Tv_1, Tv_2, Tv_3, Tv_4] : List (Int32)).getD k 0) (fun k => ([(fun _ => 0), Tf_1] : List (Nat → Int32)).getD k (fun _ => 0)) h_tape
set_option maxHeartbeats 4000000 in
set_option maxRecDepth 100000 in
theorem ct_X7_arithmetic (l : Launch) (D : va_G) (tc : Nat → ClassId) (sk : (Nat → Nat) × (Nat → Nat)) (Ta : Nat → Nat) (Tv : Nat → Int32) (Tf : Nat → Nat → Int32) (h_tape : 0 ≤ ((Tv 0) : Int32).toInt ∧ ((Tv 0) : Int32).toInt ≤ 400 ∧ 0 ≤ ((Tv 1) : Int32).toInt ∧ ((Tv 1) : Int32).toInt ≤ 400 ∧ 0 ≤ ((Tv 2) : Int32).toInt ∧ ((Tv 2) : Int32).toInt ≤ 400) : Ct l yX7_arithmetic cX7_arithmetic 1 (some .int) { frames := 0, cells := 0, slots := 0, locals := 0 } D tc sk [.ref (Ta 0)] [((Ta 0), .inr (10, [.ref (Ta 1), .int (Tv 0), .int (Tv 1), .int (Tv 2), .int (Tv 3), .int (Tv 4)])), ((Ta 1), .inl (tc 0, 400, .inl (Tf 1)))] (fun (v : Option Value) (_ : Unit) => ∃ r : Int32, v = some (.int r) ∧ (True) ∧ (0 ≤ ((Tv 0) : Int32).toInt ∧ ((Tv 0) : Int32).toInt ≤ 400 ∧ 0 ≤ ((Tv 1) : Int32).toInt ∧ ((Tv 1) : Int32).toInt ≤ 400 ∧ 0 ≤ ((Tv 2) : Int32).toInt ∧ ((Tv 2) : Int32).toInt ≤ 400)) (fun (_ : Unit) => [((Ta 0), .inr (10, [.ref (Ta 1), .int (Tv 0), .int (Tv 1), .int (Tv 2), .int (Tv 3), .int (Tv 4)])), ((Ta 1), .inl (tc 0, 400, .inl (Tf 1)))]) 0 0 := by
  refine Ct.start (by decide) (Nat.le_of_ble_eq_true rfl) (fun p e s m below meth c A ls hx hb hr hlk hin hml hown hts hK hX hP hD hA hl hS => ?_)
  have hl : lv_has ls 1 [(0, .ref (Ta 0))] := hl
  refine lv_aload_n hx hb dX7_arithmetic_0 rfl (lv_at hl 0 rfl) ?_
  refine gf_X7_86 hx hb hts hown hK hP 0 rfl rfl dX7_arithmetic_1 ?_
  refine lv_topi (fun x_1 ex_1 => ?_)
  by_cases c_2 : x_1 = 37
  · skip
    subst c_2
    refine lv_tableIn (off := 72) (tgt := 76) hx hb dX7_arithmetic_4 (by decide) (by decide) (by decide) (by decide) ?_
    refine lv_bipush (v := (-16)) hx hb dX7_arithmetic_76 (by decide) ?_
    exact retI (v := (-16)) hx hb hr hlk (rfl) hP hD hS () ⟨_, rfl, trivial, h_tape⟩ [0, 1] rfl rfl dX7_arithmetic_78 (Nat.le_of_ble_eq_true rfl) (Nat.le_of_ble_eq_true rfl) rfl
  · skip
    by_cases c_3 : x_1 = 38
    · skip
      subst c_3
      refine lv_tableIn (off := 75) (tgt := 79) hx hb dX7_arithmetic_4 (by decide) (by decide) (by decide) (by decide) ?_
      refine lv_iconst (v := (-1)) hx hb dX7_arithmetic_79 (by decide) ?_
      exact retI (v := (-1)) hx hb hr hlk (rfl) hP hD hS () ⟨_, rfl, trivial, h_tape⟩ [0, 1] rfl rfl dX7_arithmetic_80 (Nat.le_of_ble_eq_true rfl) (Nat.le_of_ble_eq_true rfl) rfl
    · skip
      by_cases c_4 : x_1 = 39
      · skip
        subst c_4
        refine lv_tableIn (off := 75) (tgt := 79) hx hb dX7_arithmetic_4 (by decide) (by decide) (by decide) (by decide) ?_
        refine lv_iconst (v := (-1)) hx hb dX7_arithmetic_79 (by decide) ?_
        exact retI (v := (-1)) hx hb hr hlk (rfl) hP hD hS () ⟨_, rfl, trivial, h_tape⟩ [0, 1] rfl rfl dX7_arithmetic_80 (Nat.le_of_ble_eq_true rfl) (Nat.le_of_ble_eq_true rfl) rfl
      · skip
        by_cases c_5 : x_1 = 40
        · skip
          subst c_5
          refine lv_tableIn (off := 75) (tgt := 79) hx hb dX7_arithmetic_4 (by decide) (by decide) (by decide) (by decide) ?_
          refine lv_iconst (v := (-1)) hx hb dX7_arithmetic_79 (by decide) ?_
          exact retI (v := (-1)) hx hb hr hlk (rfl) hP hD hS () ⟨_, rfl, trivial, h_tape⟩ [0, 1] rfl rfl dX7_arithmetic_80 (Nat.le_of_ble_eq_true rfl) (Nat.le_of_ble_eq_true rfl) rfl
        · skip
          by_cases c_6 : x_1 = 41
          · skip
            subst c_6
            refine lv_tableIn (off := 75) (tgt := 79) hx hb dX7_arithmetic_4 (by decide) (by decide) (by decide) (by decide) ?_
            refine lv_iconst (v := (-1)) hx hb dX7_arithmetic_79 (by decide) ?_
            exact retI (v := (-1)) hx hb hr hlk (rfl) hP hD hS () ⟨_, rfl, trivial, h_tape⟩ [0, 1] rfl rfl dX7_arithmetic_80 (Nat.le_of_ble_eq_true rfl) (Nat.le_of_ble_eq_true rfl) rfl
          · skip
            by_cases c_7 : x_1 = 42
            · skip
              subst c_7
              refine lv_tableIn (off := 66) (tgt := 70) hx hb dX7_arithmetic_4 (by decide) (by decide) (by decide) (by decide) ?_
              refine lv_bipush (v := (-14)) hx hb dX7_arithmetic_70 (by decide) ?_
              exact retI (v := (-14)) hx hb hr hlk (rfl) hP hD hS () ⟨_, rfl, trivial, h_tape⟩ [0, 1] rfl rfl dX7_arithmetic_72 (Nat.le_of_ble_eq_true rfl) (Nat.le_of_ble_eq_true rfl) rfl
            · skip
              by_cases c_8 : x_1 = 43
              · skip
                subst c_8
                refine lv_tableIn (off := 60) (tgt := 64) hx hb dX7_arithmetic_4 (by decide) (by decide) (by decide) (by decide) ?_
                refine lv_bipush (v := (-12)) hx hb dX7_arithmetic_64 (by decide) ?_
                exact retI (v := (-12)) hx hb hr hlk (rfl) hP hD hS () ⟨_, rfl, trivial, h_tape⟩ [0, 1] rfl rfl dX7_arithmetic_66 (Nat.le_of_ble_eq_true rfl) (Nat.le_of_ble_eq_true rfl) rfl
              · skip
                by_cases c_9 : x_1 = 44
                · skip
                  subst c_9
                  refine lv_tableIn (off := 75) (tgt := 79) hx hb dX7_arithmetic_4 (by decide) (by decide) (by decide) (by decide) ?_
                  refine lv_iconst (v := (-1)) hx hb dX7_arithmetic_79 (by decide) ?_
                  exact retI (v := (-1)) hx hb hr hlk (rfl) hP hD hS () ⟨_, rfl, trivial, h_tape⟩ [0, 1] rfl rfl dX7_arithmetic_80 (Nat.le_of_ble_eq_true rfl) (Nat.le_of_ble_eq_true rfl) rfl
                · skip
                  by_cases c_10 : x_1 = 45
                  · skip
                    subst c_10
                    refine lv_tableIn (off := 63) (tgt := 67) hx hb dX7_arithmetic_4 (by decide) (by decide) (by decide) (by decide) ?_
                    refine lv_bipush (v := (-13)) hx hb dX7_arithmetic_67 (by decide) ?_
                    exact retI (v := (-13)) hx hb hr hlk (rfl) hP hD hS () ⟨_, rfl, trivial, h_tape⟩ [0, 1] rfl rfl dX7_arithmetic_69 (Nat.le_of_ble_eq_true rfl) (Nat.le_of_ble_eq_true rfl) rfl
                  · skip
                    by_cases c_11 : x_1 = 46
                    · skip
                      subst c_11
                      refine lv_tableIn (off := 75) (tgt := 79) hx hb dX7_arithmetic_4 (by decide) (by decide) (by decide) (by decide) ?_
                      refine lv_iconst (v := (-1)) hx hb dX7_arithmetic_79 (by decide) ?_
                      exact retI (v := (-1)) hx hb hr hlk (rfl) hP hD hS () ⟨_, rfl, trivial, h_tape⟩ [0, 1] rfl rfl dX7_arithmetic_80 (Nat.le_of_ble_eq_true rfl) (Nat.le_of_ble_eq_true rfl) rfl
                    · skip
                      by_cases c_12 : x_1 = 47
                      · skip
                        subst c_12
                        refine lv_tableIn (off := 69) (tgt := 73) hx hb dX7_arithmetic_4 (by decide) (by decide) (by decide) (by decide) ?_
                        refine lv_bipush (v := (-15)) hx hb dX7_arithmetic_73 (by decide) ?_
                        exact retI (v := (-15)) hx hb hr hlk (rfl) hP hD hS () ⟨_, rfl, trivial, h_tape⟩ [0, 1] rfl rfl dX7_arithmetic_75 (Nat.le_of_ble_eq_true rfl) (Nat.le_of_ble_eq_true rfl) rfl
                      · skip
                        have ho_13 : (x_1 : Int32).toInt < 37 ∨ 47 < (x_1 : Int32).toInt := by
                          have z_1 : ¬ (x_1 : Int32).toInt = (37 : Int32).toInt := fun z => c_2 (Int32.toInt_inj.mp z)
                          have z_2 : ¬ (x_1 : Int32).toInt = (38 : Int32).toInt := fun z => c_3 (Int32.toInt_inj.mp z)
                          have z_3 : ¬ (x_1 : Int32).toInt = (39 : Int32).toInt := fun z => c_4 (Int32.toInt_inj.mp z)
                          have z_4 : ¬ (x_1 : Int32).toInt = (40 : Int32).toInt := fun z => c_5 (Int32.toInt_inj.mp z)
                          have z_5 : ¬ (x_1 : Int32).toInt = (41 : Int32).toInt := fun z => c_6 (Int32.toInt_inj.mp z)
                          have z_6 : ¬ (x_1 : Int32).toInt = (42 : Int32).toInt := fun z => c_7 (Int32.toInt_inj.mp z)
                          have z_7 : ¬ (x_1 : Int32).toInt = (43 : Int32).toInt := fun z => c_8 (Int32.toInt_inj.mp z)
                          have z_8 : ¬ (x_1 : Int32).toInt = (44 : Int32).toInt := fun z => c_9 (Int32.toInt_inj.mp z)
                          have z_9 : ¬ (x_1 : Int32).toInt = (45 : Int32).toInt := fun z => c_10 (Int32.toInt_inj.mp z)
                          have z_10 : ¬ (x_1 : Int32).toInt = (46 : Int32).toInt := fun z => c_11 (Int32.toInt_inj.mp z)
                          have z_11 : ¬ (x_1 : Int32).toInt = (47 : Int32).toInt := fun z => c_12 (Int32.toInt_inj.mp z)
                          have y_37 : (37 : Int32).toInt = 37 := by decide
                          have y_38 : (38 : Int32).toInt = 38 := by decide
                          have y_39 : (39 : Int32).toInt = 39 := by decide
                          have y_40 : (40 : Int32).toInt = 40 := by decide
                          have y_41 : (41 : Int32).toInt = 41 := by decide
                          have y_42 : (42 : Int32).toInt = 42 := by decide
                          have y_43 : (43 : Int32).toInt = 43 := by decide
                          have y_44 : (44 : Int32).toInt = 44 := by decide
                          have y_45 : (45 : Int32).toInt = 45 := by decide
                          have y_46 : (46 : Int32).toInt = 46 := by decide
                          have y_47 : (47 : Int32).toInt = 47 := by decide
                          omega
                        refine lv_tableOut (tgt := 79) hx hb dX7_arithmetic_4 ho_13 (by decide) ?_
                        refine lv_iconst (v := (-1)) hx hb dX7_arithmetic_79 (by decide) ?_
                        exact retI (v := (-1)) hx hb hr hlk (rfl) hP hD hS () ⟨_, rfl, trivial, h_tape⟩ [0, 1] rfl rfl dX7_arithmetic_80 (Nat.le_of_ble_eq_true rfl) (Nat.le_of_ble_eq_true rfl) rfl
set_option maxRecDepth 100000 in
theorem cu_X7_arithmetic (l : Launch) (D : va_G) (tc : Nat → ClassId) (sk : (Nat → Nat) × (Nat → Nat)) (Ta_0 : Nat) (Ta_1 : Nat) (Tv_0 : Int32) (Tv_1 : Int32) (Tv_2 : Int32) (Tv_3 : Int32) (Tv_4 : Int32) (Tf_1 : Nat → Int32) (h_tape : 0 ≤ (Tv_0 : Int32).toInt ∧ (Tv_0 : Int32).toInt ≤ 400 ∧ 0 ≤ (Tv_1 : Int32).toInt ∧ (Tv_1 : Int32).toInt ≤ 400 ∧ 0 ≤ (Tv_2 : Int32).toInt ∧ (Tv_2 : Int32).toInt ≤ 400) : Ct l yX7_arithmetic cX7_arithmetic 1 (some .int) { frames := 0, cells := 0, slots := 0, locals := 0 } D tc sk [.ref Ta_0] [(Ta_0, .inr (10, [.ref Ta_1, .int Tv_0, .int Tv_1, .int Tv_2, .int Tv_3, .int Tv_4])), (Ta_1, .inl (tc 0, 400, .inl Tf_1))] (fun (v : Option Value) (_ : Unit) => ∃ r : Int32, v = some (.int r) ∧ (True) ∧ (0 ≤ (Tv_0 : Int32).toInt ∧ (Tv_0 : Int32).toInt ≤ 400 ∧ 0 ≤ (Tv_1 : Int32).toInt ∧ (Tv_1 : Int32).toInt ≤ 400 ∧ 0 ≤ (Tv_2 : Int32).toInt ∧ (Tv_2 : Int32).toInt ≤ 400)) (fun (_ : Unit) => [(Ta_0, .inr (10, [.ref Ta_1, .int Tv_0, .int Tv_1, .int Tv_2, .int Tv_3, .int Tv_4])), (Ta_1, .inl (tc 0, 400, .inl Tf_1))]) 0 0 :=
  ct_X7_arithmetic l D tc sk (fun k => ([Ta_0, Ta_1] : List (Nat)).getD k 0) (fun k => ([Tv_0, Tv_1, Tv_2, Tv_3, Tv_4] : List (Int32)).getD k 0) (fun k => ([(fun _ => 0), Tf_1] : List (Nat → Int32)).getD k (fun _ => 0)) h_tape
set_option maxHeartbeats 4000000 in
set_option maxRecDepth 100000 in
theorem ct_X7_comparison (l : Launch) (D : va_G) (tc : Nat → ClassId) (sk : (Nat → Nat) × (Nat → Nat)) (Ta : Nat → Nat) (Tv : Nat → Int32) (Tf : Nat → Nat → Int32) (h_tape : 0 ≤ ((Tv 0) : Int32).toInt ∧ ((Tv 0) : Int32).toInt ≤ 400 ∧ 0 ≤ ((Tv 1) : Int32).toInt ∧ ((Tv 1) : Int32).toInt ≤ 400 ∧ 0 ≤ ((Tv 2) : Int32).toInt ∧ ((Tv 2) : Int32).toInt ≤ 400) : Ct l yX7_comparison cX7_comparison 2 (some .int) { frames := 0, cells := 0, slots := 0, locals := 0 } D tc sk [.ref (Ta 0)] [((Ta 0), .inr (10, [.ref (Ta 1), .int (Tv 0), .int (Tv 1), .int (Tv 2), .int (Tv 3), .int (Tv 4)])), ((Ta 1), .inl (tc 0, 400, .inl (Tf 1)))] (fun (v : Option Value) (_ : Unit) => ∃ r : Int32, v = some (.int r) ∧ (True) ∧ (0 ≤ ((Tv 0) : Int32).toInt ∧ ((Tv 0) : Int32).toInt ≤ 400 ∧ 0 ≤ ((Tv 1) : Int32).toInt ∧ ((Tv 1) : Int32).toInt ≤ 400 ∧ 0 ≤ ((Tv 2) : Int32).toInt ∧ ((Tv 2) : Int32).toInt ≤ 400)) (fun (_ : Unit) => [((Ta 0), .inr (10, [.ref (Ta 1), .int (Tv 0), .int (Tv 1), .int (Tv 2), .int (Tv 3), .int (Tv 4)])), ((Ta 1), .inl (tc 0, 400, .inl (Tf 1)))]) 0 0 := by
  refine Ct.start (by decide) (Nat.le_of_ble_eq_true rfl) (fun p e s m below meth c A ls hx hb hr hlk hin hml hown hts hK hX hP hD hA hl hS => ?_)
  have hl : lv_has ls 2 [(0, .ref (Ta 0))] := hl
  refine lv_aload_n hx hb dX7_comparison_0 rfl (lv_at hl 0 rfl) ?_
  refine gf_X7_118 hx hb hts hown hK hP 0 rfl rfl dX7_comparison_1 ?_
  refine lv_aload_n hx hb dX7_comparison_4 rfl (lv_at hl 0 rfl) ?_
  refine gf_X7_121 hx hb hts hown hK hP 0 rfl rfl dX7_comparison_5 ?_
  refine lv_isub hx hb dX7_comparison_8 ?_
  refine lv_topi (fun x_1 ex_1 => ?_)
  refine lv_iconst (v := 2) hx hb dX7_comparison_9 (by decide) ?_
  refine lv_icmp_ne (tgt := 17) hx hb dX7_comparison_10 (by decide) (fun c_2 => ?_) (fun c_2 => ?_)
  · skip
    refine lv_iconst (v := 0) hx hb dX7_comparison_17 (by decide) ?_
    refine lv_istore_n (lv' := [(1, .int 0), (0, .ref (Ta 0))]) hx hb dX7_comparison_18 rfl hl (by decide) rfl (fun ls hl₀ => ?_)
    replace hl := hl₀
    clear hl₀
    refine lv_aload_n hx hb dX7_comparison_19 rfl (lv_at hl 1 rfl) ?_
    refine gf_X7_86 hx hb hts hown hK hP 0 rfl rfl dX7_comparison_20 ?_
    refine lv_topi (fun x_3 ex_3 => ?_)
    by_cases c_4 : x_3 = 60
    · skip
      subst c_4
      refine lv_tableIn (off := 25) (tgt := 48) hx hb dX7_comparison_23 (by decide) (by decide) (by decide) (by decide) ?_
      refine lv_iload_n hx hb dX7_comparison_48 rfl (lv_at hl 0 rfl) ?_
      refine lv_if_eq (tgt := 57) hx hb dX7_comparison_49 (by decide) (fun c_5 => ?_) (fun c_5 => absurd c_5 (by decide))
      refine lv_bipush (v := (-7)) hx hb dX7_comparison_57 (by decide) ?_
      exact retI (v := (-7)) hx hb hr hlk (rfl) hP hD hS () ⟨_, rfl, trivial, h_tape⟩ [0, 1] rfl rfl dX7_comparison_59 (Nat.le_of_ble_eq_true rfl) (Nat.le_of_ble_eq_true rfl) rfl
    · skip
      by_cases c_6 : x_3 = 61
      · skip
        subst c_6
        refine lv_tableIn (off := 37) (tgt := 60) hx hb dX7_comparison_23 (by decide) (by decide) (by decide) (by decide) ?_
        refine lv_bipush (v := (-9)) hx hb dX7_comparison_60 (by decide) ?_
        exact retI (v := (-9)) hx hb hr hlk (rfl) hP hD hS () ⟨_, rfl, trivial, h_tape⟩ [0, 1] rfl rfl dX7_comparison_62 (Nat.le_of_ble_eq_true rfl) (Nat.le_of_ble_eq_true rfl) rfl
      · skip
        by_cases c_7 : x_3 = 62
        · skip
          subst c_7
          refine lv_tableIn (off := 40) (tgt := 63) hx hb dX7_comparison_23 (by decide) (by decide) (by decide) (by decide) ?_
          refine lv_iload_n hx hb dX7_comparison_63 rfl (lv_at hl 0 rfl) ?_
          refine lv_if_eq (tgt := 72) hx hb dX7_comparison_64 (by decide) (fun c_8 => ?_) (fun c_8 => absurd c_8 (by decide))
          refine lv_bipush (v := (-11)) hx hb dX7_comparison_72 (by decide) ?_
          exact retI (v := (-11)) hx hb hr hlk (rfl) hP hD hS () ⟨_, rfl, trivial, h_tape⟩ [0, 1] rfl rfl dX7_comparison_74 (Nat.le_of_ble_eq_true rfl) (Nat.le_of_ble_eq_true rfl) rfl
        · skip
          have ho_9 : (x_3 : Int32).toInt < 60 ∨ 62 < (x_3 : Int32).toInt := by
            have z_1 : ¬ (x_1 : Int32).toInt = (2 : Int32).toInt := fun z => c_2 (Int32.toInt_inj.mp z)
            have z_2 : ¬ (x_3 : Int32).toInt = (60 : Int32).toInt := fun z => c_4 (Int32.toInt_inj.mp z)
            have z_3 : ¬ (x_3 : Int32).toInt = (61 : Int32).toInt := fun z => c_6 (Int32.toInt_inj.mp z)
            have z_4 : ¬ (x_3 : Int32).toInt = (62 : Int32).toInt := fun z => c_7 (Int32.toInt_inj.mp z)
            have y_2 : (2 : Int32).toInt = 2 := by decide
            have y_60 : (60 : Int32).toInt = 60 := by decide
            have y_61 : (61 : Int32).toInt = 61 := by decide
            have y_62 : (62 : Int32).toInt = 62 := by decide
            omega
          refine lv_tableOut (tgt := 75) hx hb dX7_comparison_23 ho_9 (by decide) ?_
          refine lv_iconst (v := (-1)) hx hb dX7_comparison_75 (by decide) ?_
          exact retI (v := (-1)) hx hb hr hlk (rfl) hP hD hS () ⟨_, rfl, trivial, h_tape⟩ [0, 1] rfl rfl dX7_comparison_76 (Nat.le_of_ble_eq_true rfl) (Nat.le_of_ble_eq_true rfl) rfl
  · skip
    refine lv_iconst (v := 1) hx hb dX7_comparison_13 (by decide) ?_
    refine lv_goto (tgt := 18) hx hb dX7_comparison_14 (by decide) ?_
    refine lv_istore_n (lv' := [(1, .int 1), (0, .ref (Ta 0))]) hx hb dX7_comparison_18 rfl hl (by decide) rfl (fun ls hl₀ => ?_)
    replace hl := hl₀
    clear hl₀
    refine lv_aload_n hx hb dX7_comparison_19 rfl (lv_at hl 1 rfl) ?_
    refine gf_X7_86 hx hb hts hown hK hP 0 rfl rfl dX7_comparison_20 ?_
    refine lv_topi (fun x_10 ex_10 => ?_)
    by_cases c_11 : x_10 = 60
    · skip
      subst c_11
      refine lv_tableIn (off := 25) (tgt := 48) hx hb dX7_comparison_23 (by decide) (by decide) (by decide) (by decide) ?_
      refine lv_iload_n hx hb dX7_comparison_48 rfl (lv_at hl 0 rfl) ?_
      refine lv_if_eq (tgt := 57) hx hb dX7_comparison_49 (by decide) (fun c_12 => absurd c_12 (by decide)) (fun c_12 => ?_)
      refine lv_bipush (v := (-8)) hx hb dX7_comparison_52 (by decide) ?_
      refine lv_goto (tgt := 59) hx hb dX7_comparison_54 (by decide) ?_
      exact retI (v := (-8)) hx hb hr hlk (rfl) hP hD hS () ⟨_, rfl, trivial, h_tape⟩ [0, 1] rfl rfl dX7_comparison_59 (Nat.le_of_ble_eq_true rfl) (Nat.le_of_ble_eq_true rfl) rfl
    · skip
      by_cases c_13 : x_10 = 61
      · skip
        subst c_13
        refine lv_tableIn (off := 37) (tgt := 60) hx hb dX7_comparison_23 (by decide) (by decide) (by decide) (by decide) ?_
        refine lv_bipush (v := (-9)) hx hb dX7_comparison_60 (by decide) ?_
        exact retI (v := (-9)) hx hb hr hlk (rfl) hP hD hS () ⟨_, rfl, trivial, h_tape⟩ [0, 1] rfl rfl dX7_comparison_62 (Nat.le_of_ble_eq_true rfl) (Nat.le_of_ble_eq_true rfl) rfl
      · skip
        by_cases c_14 : x_10 = 62
        · skip
          subst c_14
          refine lv_tableIn (off := 40) (tgt := 63) hx hb dX7_comparison_23 (by decide) (by decide) (by decide) (by decide) ?_
          refine lv_iload_n hx hb dX7_comparison_63 rfl (lv_at hl 0 rfl) ?_
          refine lv_if_eq (tgt := 72) hx hb dX7_comparison_64 (by decide) (fun c_15 => absurd c_15 (by decide)) (fun c_15 => ?_)
          refine lv_bipush (v := (-10)) hx hb dX7_comparison_67 (by decide) ?_
          refine lv_goto (tgt := 74) hx hb dX7_comparison_69 (by decide) ?_
          exact retI (v := (-10)) hx hb hr hlk (rfl) hP hD hS () ⟨_, rfl, trivial, h_tape⟩ [0, 1] rfl rfl dX7_comparison_74 (Nat.le_of_ble_eq_true rfl) (Nat.le_of_ble_eq_true rfl) rfl
        · skip
          have ho_16 : (x_10 : Int32).toInt < 60 ∨ 62 < (x_10 : Int32).toInt := by
            have z_1 := congrArg Int32.toInt c_2
            have z_2 : ¬ (x_10 : Int32).toInt = (60 : Int32).toInt := fun z => c_11 (Int32.toInt_inj.mp z)
            have z_3 : ¬ (x_10 : Int32).toInt = (61 : Int32).toInt := fun z => c_13 (Int32.toInt_inj.mp z)
            have z_4 : ¬ (x_10 : Int32).toInt = (62 : Int32).toInt := fun z => c_14 (Int32.toInt_inj.mp z)
            have y_2 : (2 : Int32).toInt = 2 := by decide
            have y_60 : (60 : Int32).toInt = 60 := by decide
            have y_61 : (61 : Int32).toInt = 61 := by decide
            have y_62 : (62 : Int32).toInt = 62 := by decide
            omega
          refine lv_tableOut (tgt := 75) hx hb dX7_comparison_23 ho_16 (by decide) ?_
          refine lv_iconst (v := (-1)) hx hb dX7_comparison_75 (by decide) ?_
          exact retI (v := (-1)) hx hb hr hlk (rfl) hP hD hS () ⟨_, rfl, trivial, h_tape⟩ [0, 1] rfl rfl dX7_comparison_76 (Nat.le_of_ble_eq_true rfl) (Nat.le_of_ble_eq_true rfl) rfl
set_option maxRecDepth 100000 in
theorem cu_X7_comparison (l : Launch) (D : va_G) (tc : Nat → ClassId) (sk : (Nat → Nat) × (Nat → Nat)) (Ta_0 : Nat) (Ta_1 : Nat) (Tv_0 : Int32) (Tv_1 : Int32) (Tv_2 : Int32) (Tv_3 : Int32) (Tv_4 : Int32) (Tf_1 : Nat → Int32) (h_tape : 0 ≤ (Tv_0 : Int32).toInt ∧ (Tv_0 : Int32).toInt ≤ 400 ∧ 0 ≤ (Tv_1 : Int32).toInt ∧ (Tv_1 : Int32).toInt ≤ 400 ∧ 0 ≤ (Tv_2 : Int32).toInt ∧ (Tv_2 : Int32).toInt ≤ 400) : Ct l yX7_comparison cX7_comparison 2 (some .int) { frames := 0, cells := 0, slots := 0, locals := 0 } D tc sk [.ref Ta_0] [(Ta_0, .inr (10, [.ref Ta_1, .int Tv_0, .int Tv_1, .int Tv_2, .int Tv_3, .int Tv_4])), (Ta_1, .inl (tc 0, 400, .inl Tf_1))] (fun (v : Option Value) (_ : Unit) => ∃ r : Int32, v = some (.int r) ∧ (True) ∧ (0 ≤ (Tv_0 : Int32).toInt ∧ (Tv_0 : Int32).toInt ≤ 400 ∧ 0 ≤ (Tv_1 : Int32).toInt ∧ (Tv_1 : Int32).toInt ≤ 400 ∧ 0 ≤ (Tv_2 : Int32).toInt ∧ (Tv_2 : Int32).toInt ≤ 400)) (fun (_ : Unit) => [(Ta_0, .inr (10, [.ref Ta_1, .int Tv_0, .int Tv_1, .int Tv_2, .int Tv_3, .int Tv_4])), (Ta_1, .inl (tc 0, 400, .inl Tf_1))]) 0 0 :=
  ct_X7_comparison l D tc sk (fun k => ([Ta_0, Ta_1] : List (Nat)).getD k 0) (fun k => ([Tv_0, Tv_1, Tv_2, Tv_3, Tv_4] : List (Int32)).getD k 0) (fun k => ([(fun _ => 0), Tf_1] : List (Nat → Int32)).getD k (fun _ => 0)) h_tape
set_option maxHeartbeats 4000000 in
set_option maxRecDepth 100000 in
theorem ct_X7_readValue (l : Launch) (D : va_G) (tc : Nat → ClassId) (sk : (Nat → Nat) × (Nat → Nat)) (Va : Nat → Nat) (Vv : Nat → Int32) (Vf : Nat → Nat → Int32) (Ta : Nat → Nat) (Tv : Nat → Int32) (Tf : Nat → Nat → Int32) (h_tape : 0 ≤ ((Tv 0) : Int32).toInt ∧ ((Tv 0) : Int32).toInt ≤ 400 ∧ 0 ≤ ((Tv 1) : Int32).toInt ∧ ((Tv 1) : Int32).toInt ≤ 400 ∧ 0 ≤ ((Tv 2) : Int32).toInt ∧ ((Tv 2) : Int32).toInt ≤ 400) : Ct l yX7_readValue cX7_readValue 4 none { frames := 6, cells := 0, slots := 0, locals := 133 } D tc sk [.ref (Va 0), .ref (Ta 0)] [((Va 0), .inr (7, [.ref (Va 1), .int (Vv 0), .int (Vv 1)])), ((Va 1), .inl (tc 0, 400, .inl (Vf 1))), ((Ta 0), .inr (10, [.ref (Ta 1), .int (Tv 0), .int (Tv 1), .int (Tv 2), .int (Tv 3), .int (Tv 4)])), ((Ta 1), .inl (tc 0, 400, .inl (Tf 1)))] (fun (v : Option Value) (u : (Int32) × (Int32) × (Nat → Int32) × (Int32) × (Int32) × (Int32) × (Int32)) => match u with | (o1, o2, o3, o4, o5, o6, o7) => v = none ∧ (0 ≤ ((Tv 0) : Int32).toInt ∧ ((Tv 0) : Int32).toInt ≤ 400 ∧ 0 ≤ (o4 : Int32).toInt ∧ (o4 : Int32).toInt ≤ 400 ∧ 0 ≤ (o5 : Int32).toInt ∧ (o5 : Int32).toInt ≤ 400)) (fun (u : (Int32) × (Int32) × (Nat → Int32) × (Int32) × (Int32) × (Int32) × (Int32)) => match u with | (o1, o2, o3, o4, o5, o6, o7) => [((Va 0), .inr (7, [.ref (Va 1), .int o1, .int o2])), ((Va 1), .inl (tc 0, 400, .inl o3)), ((Ta 0), .inr (10, [.ref (Ta 1), .int (Tv 0), .int o4, .int o5, .int o6, .int o7])), ((Ta 1), .inl (tc 0, 400, .inl (Tf 1)))]) 0 0 := by
  refine Ct.start (by decide) (Nat.le_of_ble_eq_true rfl) (fun p e s m below meth c A ls hx hb hr hlk hin hml hown hts hK hX hP hD hA hl hS => ?_)
  have hl : lv_has ls 4 [(0, .ref (Va 0)), (1, .ref (Ta 0))] := hl
  refine lv_iconst (v := 0) hx hb dX7_readValue_0 (by decide) ?_
  refine lv_istore_n (lv' := [(2, .int 0), (0, .ref (Va 0)), (1, .ref (Ta 0))]) hx hb dX7_readValue_1 rfl hl (by decide) rfl (fun ls hl₀ => ?_)
  replace hl := hl₀
  clear hl₀
  refine lv_aload_n hx hb dX7_readValue_2 rfl (lv_at hl 2 rfl) ?_
  refine gf_X7_86 hx hb hts hown hK hP 2 rfl rfl dX7_readValue_3 ?_
  refine cS (As := [.int (Tv 3)]) (rest := []) (wr := [((Va 0), .inr (7, [.ref (Va 1), .int (Vv 0), .int (Vv 1)])), ((Va 1), .inl (tc 0, 400, .inl (Vf 1))), ((Ta 0), .inr (10, [.ref (Ta 1), .int (Tv 0), .int (Tv 1), .int (Tv 2), .int (Tv 3), .int (Tv 4)])), ((Ta 1), .inl (tc 0, 400, .inl (Tf 1)))]) ⟨hx, hb, hml, hown, hts⟩ hK hX hA (ct_X10_isDigit l D tc sk (Tv 3)) k_488 k_629 k_487 k_96 pl_X10_isDigit ⟨Nat.le_of_ble_eq_true rfl, Nat.le_of_ble_eq_true rfl⟩ rfl rfl  hP hD hS [] [0, 1, 2, 3] rfl rfl rfl rfl rfl (by decide) rfl hl.1 rfl (Nat.le_of_ble_eq_true rfl) dX7_readValue_6 ⟨Nat.le_of_ble_eq_true rfl, Nat.le_of_ble_eq_true rfl⟩ (fun v_1 u_2 H locs hv_3 hP₀ hD₀ hS₀ => ?_)
  obtain ⟨r_4, rfl, he_5⟩ := hv_3
  have he_5 : ((r_4.toInt = 0 ∨ r_4.toInt = 1)) := he_5
  refine W.eq (g2 := F0 m 9 ls [.int r_4]) rfl ?_
  replace hP : va_P D classes [((Va 0), .inr (7, [.ref (Va 1), .int (Vv 0), .int (Vv 1)])), ((Va 1), .inl (tc 0, 400, .inl (Vf 1))), ((Ta 0), .inr (10, [.ref (Ta 1), .int (Tv 0), .int (Tv 1), .int (Tv 2), .int (Tv 3), .int (Tv 4)])), ((Ta 1), .inl (tc 0, 400, .inl (Tf 1)))] H := hP₀
  replace hD : va_D A [((Va 0), .inr (7, [.ref (Va 1), .int (Vv 0), .int (Vv 1)])), ((Va 1), .inl (tc 0, 400, .inl (Vf 1))), ((Ta 0), .inr (10, [.ref (Ta 1), .int (Tv 0), .int (Tv 1), .int (Tv 2), .int (Tv 3), .int (Tv 4)])), ((Ta 1), .inl (tc 0, 400, .inl (Tf 1)))] := hD₀
  replace hS := hS₀
  clear hP₀ hD₀ hS₀
  refine lv_if_eq (tgt := 23) hx hb dX7_readValue_9 (by decide) (fun c_6 => ?_) (fun c_6 => ?_)
  · skip
    refine lv_aload_n hx hb dX7_readValue_23 rfl (lv_at hl 2 rfl) ?_
    refine va_ldcS hx hb hown (sx_2 hX) dX7_readValue_24 ?_
    have hh_7 : (2 : Nat) < 7 := by
      have z_1 := congrArg Int32.toInt c_6
      have y_0 : (0 : Int32).toInt = 0 := by decide
      have y_2 : (2 : Int32).toInt = 2 := by decide
      omega
    refine cV (a := (Ta 0)) (As := [.ref (sk.1 2)]) (rest := []) (wr := [((Va 0), .inr (7, [.ref (Va 1), .int (Vv 0), .int (Vv 1)])), ((Va 1), .inl (tc 0, 400, .inl (Vf 1)))]) ⟨hx, hb, hml, hown, hts⟩ hK hX hA (cu_X10_wordAmong l D tc sk (Ta 0) (Ta 1) (Tv 0) (Tv 1) (Tv 2) (Tv 3) (Tv 4) (Tf 1) 2 hh_7 h_tape) k_501 k_633 k_499 k_500 k_96 pl_X10_wordAmong ⟨Nat.le_of_ble_eq_true rfl, Nat.le_of_ble_eq_true rfl⟩ rfl rfl (va_recv hK hP (ci := 10) (q0 := 2) rfl rfl) hP hD hS [2, 3] [0, 1] rfl rfl rfl rfl rfl (by decide) rfl hl.1 rfl (Nat.le_of_ble_eq_true rfl) dX7_readValue_26 ⟨Nat.le_of_ble_eq_true rfl, Nat.le_of_ble_eq_true rfl⟩ (fun v_8 u_9 H locs hv_10 hP₀ hD₀ hS₀ => ?_)
    obtain ⟨r_11, rfl, he_12⟩ := hv_10
    have he_12 : (True) ∧ (0 ≤ ((Tv 0) : Int32).toInt ∧ ((Tv 0) : Int32).toInt ≤ 400 ∧ 0 ≤ ((Tv 1) : Int32).toInt ∧ ((Tv 1) : Int32).toInt ≤ 400 ∧ 0 ≤ ((Tv 2) : Int32).toInt ∧ ((Tv 2) : Int32).toInt ≤ 400) := he_12
    refine W.eq (g2 := F0 m 29 ls [.int r_11]) rfl ?_
    replace hP : va_P D classes [((Va 0), .inr (7, [.ref (Va 1), .int (Vv 0), .int (Vv 1)])), ((Va 1), .inl (tc 0, 400, .inl (Vf 1))), ((Ta 0), .inr (10, [.ref (Ta 1), .int (Tv 0), .int (Tv 1), .int (Tv 2), .int (Tv 3), .int (Tv 4)])), ((Ta 1), .inl (tc 0, 400, .inl (Tf 1)))] H := hP₀
    replace hD : va_D A [((Va 0), .inr (7, [.ref (Va 1), .int (Vv 0), .int (Vv 1)])), ((Va 1), .inl (tc 0, 400, .inl (Vf 1))), ((Ta 0), .inr (10, [.ref (Ta 1), .int (Tv 0), .int (Tv 1), .int (Tv 2), .int (Tv 3), .int (Tv 4)])), ((Ta 1), .inl (tc 0, 400, .inl (Tf 1)))] := hD₀
    replace hS := hS₀
    clear hP₀ hD₀ hS₀
    refine lv_istore_n (lv' := [(3, .int r_11), (2, .int 0), (0, .ref (Va 0)), (1, .ref (Ta 0))]) hx hb dX7_readValue_29 rfl hl (by decide) rfl (fun ls hl₀ => ?_)
    replace hl := hl₀
    clear hl₀
    refine lv_iload_n hx hb dX7_readValue_30 rfl (lv_at hl 0 rfl) ?_
    refine lv_iconst (v := (-1)) hx hb dX7_readValue_31 (by decide) ?_
    refine lv_icmp_ne (tgt := 43) hx hb dX7_readValue_32 (by decide) (fun c_13 => ?_) (fun c_13 => ?_)
    · skip
      refine lv_ldc hx hb hown (hts _ k_634) dX7_readValue_43 ?_
      refine lv_iload_n hx hb dX7_readValue_45 rfl (lv_at hl 0 rfl) ?_
      refine lv_iadd hx hb dX7_readValue_46 ?_
      refine lv_topi (fun x_14 ex_14 => ?_)
      refine lv_istore_n (lv' := [(2, .int x_14), (3, .int r_11), (0, .ref (Va 0)), (1, .ref (Ta 0))]) hx hb dX7_readValue_47 rfl hl (by decide) rfl (fun ls hl₀ => ?_)
      replace hl := hl₀
      clear hl₀
      refine lv_aload_n hx hb dX7_readValue_48 rfl (lv_at hl 2 rfl) ?_
      refine lv_aload_n hx hb dX7_readValue_49 rfl (lv_at hl 3 rfl) ?_
      refine cV (a := (Va 0)) (As := [.ref (Ta 0)]) (rest := []) (wr := []) ⟨hx, hb, hml, hown, hts⟩ hK hX hA (cu_X7_countOne l D tc sk (Va 0) (Va 1) (Vv 0) (Vv 1) (Vf 1) (Ta 0) (Ta 1) (Tv 0) (Tv 1) (Tv 2) (Tv 3) (Tv 4) (Tf 1) he_12.2) k_638 k_635 k_637 k_9 k_99 pl_X7_countOne ⟨Nat.le_of_ble_eq_true rfl, Nat.le_of_ble_eq_true rfl⟩ rfl rfl (va_recv hK hP (ci := 7) (q0 := 0) rfl rfl) hP hD hS [0, 1, 2, 3] [] rfl rfl rfl rfl rfl (by decide) rfl hl.1 rfl (Nat.le_of_ble_eq_true rfl) dX7_readValue_50 ⟨Nat.le_of_ble_eq_true rfl, Nat.le_of_ble_eq_true rfl⟩ (fun v_15 u_16 H locs hv_17 hP₀ hD₀ hS₀ => ?_)
      obtain ⟨sv_18, sv_19, sv_20⟩ := u_16
      obtain ⟨rfl, he_21⟩ := hv_17
      have he_21 : (0 ≤ ((Tv 0) : Int32).toInt ∧ ((Tv 0) : Int32).toInt ≤ 400 ∧ 0 ≤ ((Tv 1) : Int32).toInt ∧ ((Tv 1) : Int32).toInt ≤ 400 ∧ 0 ≤ ((Tv 2) : Int32).toInt ∧ ((Tv 2) : Int32).toInt ≤ 400) := he_21
      refine W.eq (g2 := F0 m 53 ls []) rfl ?_
      replace hP : va_P D classes [((Va 0), .inr (7, [.ref (Va 1), .int (Vv 0), .int sv_18])), ((Va 1), .inl (tc 0, 400, .inl (Vf 1))), ((Ta 0), .inr (10, [.ref (Ta 1), .int (Tv 0), .int (Tv 1), .int (Tv 2), .int sv_19, .int sv_20])), ((Ta 1), .inl (tc 0, 400, .inl (Tf 1)))] H := hP₀
      replace hD : va_D A [((Va 0), .inr (7, [.ref (Va 1), .int (Vv 0), .int sv_18])), ((Va 1), .inl (tc 0, 400, .inl (Vf 1))), ((Ta 0), .inr (10, [.ref (Ta 1), .int (Tv 0), .int (Tv 1), .int (Tv 2), .int sv_19, .int sv_20])), ((Ta 1), .inl (tc 0, 400, .inl (Tf 1)))] := hD₀
      replace hS := hS₀
      clear hP₀ hD₀ hS₀
      refine lv_aload_n hx hb dX7_readValue_53 rfl (lv_at hl 2 rfl) ?_
      refine lv_iload_n hx hb dX7_readValue_54 rfl (lv_at hl 0 rfl) ?_
      refine cV (a := (Va 0)) (As := [.int x_14]) (rest := []) (wr := [((Ta 0), .inr (10, [.ref (Ta 1), .int (Tv 0), .int (Tv 1), .int (Tv 2), .int sv_19, .int sv_20])), ((Ta 1), .inl (tc 0, 400, .inl (Tf 1)))]) ⟨hx, hb, hml, hown, hts⟩ hK hX hA (cu_X7_put l D tc sk (Va 0) (Va 1) (Vv 0) sv_18 (Vf 1) x_14) k_642 k_639 k_641 k_10 k_99 pl_X7_put ⟨Nat.le_of_ble_eq_true rfl, Nat.le_of_ble_eq_true rfl⟩ rfl rfl (va_recv hK hP (ci := 7) (q0 := 0) rfl rfl) hP hD hS [0, 1] [2, 3] rfl rfl rfl rfl rfl (by decide) rfl hl.1 rfl (Nat.le_of_ble_eq_true rfl) dX7_readValue_55 ⟨Nat.le_of_ble_eq_true rfl, Nat.le_of_ble_eq_true rfl⟩ (fun v_22 u_23 H locs hv_24 hP₀ hD₀ hS₀ => ?_)
      obtain ⟨sv_25, sv_26⟩ := u_23
      obtain rfl : v_22 = none := hv_24
      refine W.eq (g2 := F0 m 58 ls []) rfl ?_
      replace hP : va_P D classes [((Ta 0), .inr (10, [.ref (Ta 1), .int (Tv 0), .int (Tv 1), .int (Tv 2), .int sv_19, .int sv_20])), ((Ta 1), .inl (tc 0, 400, .inl (Tf 1))), ((Va 0), .inr (7, [.ref (Va 1), .int sv_25, .int sv_18])), ((Va 1), .inl (tc 0, 400, .inl sv_26))] H := hP₀
      replace hD : va_D A [((Ta 0), .inr (10, [.ref (Ta 1), .int (Tv 0), .int (Tv 1), .int (Tv 2), .int sv_19, .int sv_20])), ((Ta 1), .inl (tc 0, 400, .inl (Tf 1))), ((Va 0), .inr (7, [.ref (Va 1), .int sv_25, .int sv_18])), ((Va 1), .inl (tc 0, 400, .inl sv_26))] := hD₀
      replace hS := hS₀
      clear hP₀ hD₀ hS₀
      refine lv_aload_n hx hb dX7_readValue_58 rfl (lv_at hl 3 rfl) ?_
      refine cV (a := (Ta 0)) (As := []) (rest := []) (wr := [((Va 0), .inr (7, [.ref (Va 1), .int sv_25, .int sv_18])), ((Va 1), .inl (tc 0, 400, .inl sv_26))]) ⟨hx, hb, hml, hown, hts⟩ hK hX hA (cu_X10_step l D tc sk (Ta 0) (Ta 1) (Tv 0) (Tv 1) (Tv 2) sv_19 sv_20 (Tf 1) he_21) k_478 k_620 k_476 k_477 k_96 pl_X10_step ⟨Nat.le_of_ble_eq_true rfl, Nat.le_of_ble_eq_true rfl⟩ rfl rfl (va_recv hK hP (ci := 10) (q0 := 0) rfl rfl) hP hD hS [0, 1] [2, 3] rfl rfl rfl rfl rfl (by decide) rfl hl.1 rfl (Nat.le_of_ble_eq_true rfl) dX7_readValue_59 ⟨Nat.le_of_ble_eq_true rfl, Nat.le_of_ble_eq_true rfl⟩ (fun v_27 u_28 H locs hv_29 hP₀ hD₀ hS₀ => ?_)
      obtain ⟨sv_30, sv_31, sv_32⟩ := u_28
      obtain ⟨rfl, he_33⟩ := hv_29
      have he_33 : (0 ≤ ((Tv 0) : Int32).toInt ∧ ((Tv 0) : Int32).toInt ≤ 400 ∧ 0 ≤ (sv_30 : Int32).toInt ∧ (sv_30 : Int32).toInt ≤ 400 ∧ 0 ≤ (sv_31 : Int32).toInt ∧ (sv_31 : Int32).toInt ≤ 400) := he_33
      refine W.eq (g2 := F0 m 62 ls []) rfl ?_
      replace hP : va_P D classes [((Va 0), .inr (7, [.ref (Va 1), .int sv_25, .int sv_18])), ((Va 1), .inl (tc 0, 400, .inl sv_26)), ((Ta 0), .inr (10, [.ref (Ta 1), .int (Tv 0), .int sv_30, .int sv_31, .int sv_32, .int sv_20])), ((Ta 1), .inl (tc 0, 400, .inl (Tf 1)))] H := hP₀
      replace hD : va_D A [((Va 0), .inr (7, [.ref (Va 1), .int sv_25, .int sv_18])), ((Va 1), .inl (tc 0, 400, .inl sv_26)), ((Ta 0), .inr (10, [.ref (Ta 1), .int (Tv 0), .int sv_30, .int sv_31, .int sv_32, .int sv_20])), ((Ta 1), .inl (tc 0, 400, .inl (Tf 1)))] := hD₀
      replace hS := hS₀
      clear hP₀ hD₀ hS₀
      exact retV hx hb hr hlk hP hD hS (sv_25, sv_18, sv_26, sv_30, sv_31, sv_32, sv_20) ⟨rfl, he_33⟩ [0, 1, 2, 3] rfl rfl dX7_readValue_62 (Nat.le_of_ble_eq_true rfl) (Nat.le_of_ble_eq_true rfl) rfl
    · skip
      refine lv_aload_n hx hb dX7_readValue_35 rfl (lv_at hl 3 rfl) ?_
      refine lv_iconst (v := 0) hx hb dX7_readValue_36 (by decide) ?_
      refine cV (a := (Ta 0)) (As := [.int 0]) (rest := []) (wr := [((Va 0), .inr (7, [.ref (Va 1), .int (Vv 0), .int (Vv 1)])), ((Va 1), .inl (tc 0, 400, .inl (Vf 1)))]) ⟨hx, hb, hml, hown, hts⟩ hK hX hA (cu_X10_fail l D tc sk (Ta 0) (Ta 1) (Tv 0) (Tv 1) (Tv 2) (Tv 3) (Tv 4) (Tf 1) 0 he_12.2) k_557 k_619 k_555 k_556 k_96 pl_X10_fail ⟨Nat.le_of_ble_eq_true rfl, Nat.le_of_ble_eq_true rfl⟩ rfl rfl (va_recv hK hP (ci := 10) (q0 := 2) rfl rfl) hP hD hS [2, 3] [0, 1] rfl rfl rfl rfl rfl (by decide) rfl hl.1 rfl (Nat.le_of_ble_eq_true rfl) dX7_readValue_37 ⟨Nat.le_of_ble_eq_true rfl, Nat.le_of_ble_eq_true rfl⟩ (fun v_34 u_35 H locs hv_36 hP₀ hD₀ hS₀ => ?_)
      obtain ⟨sv_37, sv_38⟩ := u_35
      obtain ⟨rfl, he_39⟩ := hv_36
      have he_39 : (0 ≤ ((Tv 0) : Int32).toInt ∧ ((Tv 0) : Int32).toInt ≤ 400 ∧ 0 ≤ ((Tv 1) : Int32).toInt ∧ ((Tv 1) : Int32).toInt ≤ 400 ∧ 0 ≤ ((Tv 2) : Int32).toInt ∧ ((Tv 2) : Int32).toInt ≤ 400) := he_39
      refine W.eq (g2 := F0 m 40 ls []) rfl ?_
      replace hP : va_P D classes [((Va 0), .inr (7, [.ref (Va 1), .int (Vv 0), .int (Vv 1)])), ((Va 1), .inl (tc 0, 400, .inl (Vf 1))), ((Ta 0), .inr (10, [.ref (Ta 1), .int (Tv 0), .int (Tv 1), .int (Tv 2), .int sv_37, .int sv_38])), ((Ta 1), .inl (tc 0, 400, .inl (Tf 1)))] H := hP₀
      replace hD : va_D A [((Va 0), .inr (7, [.ref (Va 1), .int (Vv 0), .int (Vv 1)])), ((Va 1), .inl (tc 0, 400, .inl (Vf 1))), ((Ta 0), .inr (10, [.ref (Ta 1), .int (Tv 0), .int (Tv 1), .int (Tv 2), .int sv_37, .int sv_38])), ((Ta 1), .inl (tc 0, 400, .inl (Tf 1)))] := hD₀
      replace hS := hS₀
      clear hP₀ hD₀ hS₀
      refine lv_goto (tgt := 48) hx hb dX7_readValue_40 (by decide) ?_
      refine lv_aload_n hx hb dX7_readValue_48 rfl (lv_at hl 2 rfl) ?_
      refine lv_aload_n hx hb dX7_readValue_49 rfl (lv_at hl 3 rfl) ?_
      refine cV (a := (Va 0)) (As := [.ref (Ta 0)]) (rest := []) (wr := []) ⟨hx, hb, hml, hown, hts⟩ hK hX hA (cu_X7_countOne l D tc sk (Va 0) (Va 1) (Vv 0) (Vv 1) (Vf 1) (Ta 0) (Ta 1) (Tv 0) (Tv 1) (Tv 2) sv_37 sv_38 (Tf 1) he_39) k_638 k_635 k_637 k_9 k_99 pl_X7_countOne ⟨Nat.le_of_ble_eq_true rfl, Nat.le_of_ble_eq_true rfl⟩ rfl rfl (va_recv hK hP (ci := 7) (q0 := 0) rfl rfl) hP hD hS [0, 1, 2, 3] [] rfl rfl rfl rfl rfl (by decide) rfl hl.1 rfl (Nat.le_of_ble_eq_true rfl) dX7_readValue_50 ⟨Nat.le_of_ble_eq_true rfl, Nat.le_of_ble_eq_true rfl⟩ (fun v_40 u_41 H locs hv_42 hP₀ hD₀ hS₀ => ?_)
      obtain ⟨sv_43, sv_44, sv_45⟩ := u_41
      obtain ⟨rfl, he_46⟩ := hv_42
      have he_46 : (0 ≤ ((Tv 0) : Int32).toInt ∧ ((Tv 0) : Int32).toInt ≤ 400 ∧ 0 ≤ ((Tv 1) : Int32).toInt ∧ ((Tv 1) : Int32).toInt ≤ 400 ∧ 0 ≤ ((Tv 2) : Int32).toInt ∧ ((Tv 2) : Int32).toInt ≤ 400) := he_46
      refine W.eq (g2 := F0 m 53 ls []) rfl ?_
      replace hP : va_P D classes [((Va 0), .inr (7, [.ref (Va 1), .int (Vv 0), .int sv_43])), ((Va 1), .inl (tc 0, 400, .inl (Vf 1))), ((Ta 0), .inr (10, [.ref (Ta 1), .int (Tv 0), .int (Tv 1), .int (Tv 2), .int sv_44, .int sv_45])), ((Ta 1), .inl (tc 0, 400, .inl (Tf 1)))] H := hP₀
      replace hD : va_D A [((Va 0), .inr (7, [.ref (Va 1), .int (Vv 0), .int sv_43])), ((Va 1), .inl (tc 0, 400, .inl (Vf 1))), ((Ta 0), .inr (10, [.ref (Ta 1), .int (Tv 0), .int (Tv 1), .int (Tv 2), .int sv_44, .int sv_45])), ((Ta 1), .inl (tc 0, 400, .inl (Tf 1)))] := hD₀
      replace hS := hS₀
      clear hP₀ hD₀ hS₀
      refine lv_aload_n hx hb dX7_readValue_53 rfl (lv_at hl 2 rfl) ?_
      refine lv_iload_n hx hb dX7_readValue_54 rfl (lv_at hl 1 rfl) ?_
      refine cV (a := (Va 0)) (As := [.int 0]) (rest := []) (wr := [((Ta 0), .inr (10, [.ref (Ta 1), .int (Tv 0), .int (Tv 1), .int (Tv 2), .int sv_44, .int sv_45])), ((Ta 1), .inl (tc 0, 400, .inl (Tf 1)))]) ⟨hx, hb, hml, hown, hts⟩ hK hX hA (cu_X7_put l D tc sk (Va 0) (Va 1) (Vv 0) sv_43 (Vf 1) 0) k_642 k_639 k_641 k_10 k_99 pl_X7_put ⟨Nat.le_of_ble_eq_true rfl, Nat.le_of_ble_eq_true rfl⟩ rfl rfl (va_recv hK hP (ci := 7) (q0 := 0) rfl rfl) hP hD hS [0, 1] [2, 3] rfl rfl rfl rfl rfl (by decide) rfl hl.1 rfl (Nat.le_of_ble_eq_true rfl) dX7_readValue_55 ⟨Nat.le_of_ble_eq_true rfl, Nat.le_of_ble_eq_true rfl⟩ (fun v_47 u_48 H locs hv_49 hP₀ hD₀ hS₀ => ?_)
      obtain ⟨sv_50, sv_51⟩ := u_48
      obtain rfl : v_47 = none := hv_49
      refine W.eq (g2 := F0 m 58 ls []) rfl ?_
      replace hP : va_P D classes [((Ta 0), .inr (10, [.ref (Ta 1), .int (Tv 0), .int (Tv 1), .int (Tv 2), .int sv_44, .int sv_45])), ((Ta 1), .inl (tc 0, 400, .inl (Tf 1))), ((Va 0), .inr (7, [.ref (Va 1), .int sv_50, .int sv_43])), ((Va 1), .inl (tc 0, 400, .inl sv_51))] H := hP₀
      replace hD : va_D A [((Ta 0), .inr (10, [.ref (Ta 1), .int (Tv 0), .int (Tv 1), .int (Tv 2), .int sv_44, .int sv_45])), ((Ta 1), .inl (tc 0, 400, .inl (Tf 1))), ((Va 0), .inr (7, [.ref (Va 1), .int sv_50, .int sv_43])), ((Va 1), .inl (tc 0, 400, .inl sv_51))] := hD₀
      replace hS := hS₀
      clear hP₀ hD₀ hS₀
      refine lv_aload_n hx hb dX7_readValue_58 rfl (lv_at hl 3 rfl) ?_
      refine cV (a := (Ta 0)) (As := []) (rest := []) (wr := [((Va 0), .inr (7, [.ref (Va 1), .int sv_50, .int sv_43])), ((Va 1), .inl (tc 0, 400, .inl sv_51))]) ⟨hx, hb, hml, hown, hts⟩ hK hX hA (cu_X10_step l D tc sk (Ta 0) (Ta 1) (Tv 0) (Tv 1) (Tv 2) sv_44 sv_45 (Tf 1) he_46) k_478 k_620 k_476 k_477 k_96 pl_X10_step ⟨Nat.le_of_ble_eq_true rfl, Nat.le_of_ble_eq_true rfl⟩ rfl rfl (va_recv hK hP (ci := 10) (q0 := 0) rfl rfl) hP hD hS [0, 1] [2, 3] rfl rfl rfl rfl rfl (by decide) rfl hl.1 rfl (Nat.le_of_ble_eq_true rfl) dX7_readValue_59 ⟨Nat.le_of_ble_eq_true rfl, Nat.le_of_ble_eq_true rfl⟩ (fun v_52 u_53 H locs hv_54 hP₀ hD₀ hS₀ => ?_)
      obtain ⟨sv_55, sv_56, sv_57⟩ := u_53
      obtain ⟨rfl, he_58⟩ := hv_54
      have he_58 : (0 ≤ ((Tv 0) : Int32).toInt ∧ ((Tv 0) : Int32).toInt ≤ 400 ∧ 0 ≤ (sv_55 : Int32).toInt ∧ (sv_55 : Int32).toInt ≤ 400 ∧ 0 ≤ (sv_56 : Int32).toInt ∧ (sv_56 : Int32).toInt ≤ 400) := he_58
      refine W.eq (g2 := F0 m 62 ls []) rfl ?_
      replace hP : va_P D classes [((Va 0), .inr (7, [.ref (Va 1), .int sv_50, .int sv_43])), ((Va 1), .inl (tc 0, 400, .inl sv_51)), ((Ta 0), .inr (10, [.ref (Ta 1), .int (Tv 0), .int sv_55, .int sv_56, .int sv_57, .int sv_45])), ((Ta 1), .inl (tc 0, 400, .inl (Tf 1)))] H := hP₀
      replace hD : va_D A [((Va 0), .inr (7, [.ref (Va 1), .int sv_50, .int sv_43])), ((Va 1), .inl (tc 0, 400, .inl sv_51)), ((Ta 0), .inr (10, [.ref (Ta 1), .int (Tv 0), .int sv_55, .int sv_56, .int sv_57, .int sv_45])), ((Ta 1), .inl (tc 0, 400, .inl (Tf 1)))] := hD₀
      replace hS := hS₀
      clear hP₀ hD₀ hS₀
      exact retV hx hb hr hlk hP hD hS (sv_50, sv_43, sv_51, sv_55, sv_56, sv_57, sv_45) ⟨rfl, he_58⟩ [0, 1, 2, 3] rfl rfl dX7_readValue_62 (Nat.le_of_ble_eq_true rfl) (Nat.le_of_ble_eq_true rfl) rfl
  · skip
    refine lv_aload_n hx hb dX7_readValue_12 rfl (lv_at hl 2 rfl) ?_
    refine lv_iconst (v := 0) hx hb dX7_readValue_13 (by decide) ?_
    refine lv_ldc hx hb hown (hts _ k_630) dX7_readValue_14 ?_
    refine cV (a := (Ta 0)) (As := [.int 0, .int 99999]) (rest := []) (wr := [((Va 0), .inr (7, [.ref (Va 1), .int (Vv 0), .int (Vv 1)])), ((Va 1), .inl (tc 0, 400, .inl (Vf 1)))]) ⟨hx, hb, hml, hown, hts⟩ hK hX hA (cu_X10_numberHere l D tc sk (Ta 0) (Ta 1) (Tv 0) (Tv 1) (Tv 2) (Tv 3) (Tv 4) (Tf 1) 0 99999 h_tape) k_570 k_631 k_568 k_569 k_96 pl_X10_numberHere ⟨Nat.le_of_ble_eq_true rfl, Nat.le_of_ble_eq_true rfl⟩ rfl rfl (va_recv hK hP (ci := 10) (q0 := 2) rfl rfl) hP hD hS [2, 3] [0, 1] rfl rfl rfl rfl rfl (by decide) rfl hl.1 rfl (Nat.le_of_ble_eq_true rfl) dX7_readValue_16 ⟨Nat.le_of_ble_eq_true rfl, Nat.le_of_ble_eq_true rfl⟩ (fun v_59 u_60 H locs hv_61 hP₀ hD₀ hS₀ => ?_)
    obtain ⟨sv_62, sv_63⟩ := u_60
    obtain ⟨r_64, rfl, he_65⟩ := hv_61
    have he_65 : (True) ∧ (0 ≤ ((Tv 0) : Int32).toInt ∧ ((Tv 0) : Int32).toInt ≤ 400 ∧ 0 ≤ ((Tv 1) : Int32).toInt ∧ ((Tv 1) : Int32).toInt ≤ 400 ∧ 0 ≤ ((Tv 2) : Int32).toInt ∧ ((Tv 2) : Int32).toInt ≤ 400) := he_65
    refine W.eq (g2 := F0 m 19 ls [.int r_64]) rfl ?_
    replace hP : va_P D classes [((Va 0), .inr (7, [.ref (Va 1), .int (Vv 0), .int (Vv 1)])), ((Va 1), .inl (tc 0, 400, .inl (Vf 1))), ((Ta 0), .inr (10, [.ref (Ta 1), .int (Tv 0), .int (Tv 1), .int (Tv 2), .int sv_62, .int sv_63])), ((Ta 1), .inl (tc 0, 400, .inl (Tf 1)))] H := hP₀
    replace hD : va_D A [((Va 0), .inr (7, [.ref (Va 1), .int (Vv 0), .int (Vv 1)])), ((Va 1), .inl (tc 0, 400, .inl (Vf 1))), ((Ta 0), .inr (10, [.ref (Ta 1), .int (Tv 0), .int (Tv 1), .int (Tv 2), .int sv_62, .int sv_63])), ((Ta 1), .inl (tc 0, 400, .inl (Tf 1)))] := hD₀
    replace hS := hS₀
    clear hP₀ hD₀ hS₀
    refine lv_istore_n (lv' := [(2, .int r_64), (0, .ref (Va 0)), (1, .ref (Ta 0))]) hx hb dX7_readValue_19 rfl hl (by decide) rfl (fun ls hl₀ => ?_)
    replace hl := hl₀
    clear hl₀
    refine lv_goto (tgt := 48) hx hb dX7_readValue_20 (by decide) ?_
    refine lv_aload_n hx hb dX7_readValue_48 rfl (lv_at hl 1 rfl) ?_
    refine lv_aload_n hx hb dX7_readValue_49 rfl (lv_at hl 2 rfl) ?_
    refine cV (a := (Va 0)) (As := [.ref (Ta 0)]) (rest := []) (wr := []) ⟨hx, hb, hml, hown, hts⟩ hK hX hA (cu_X7_countOne l D tc sk (Va 0) (Va 1) (Vv 0) (Vv 1) (Vf 1) (Ta 0) (Ta 1) (Tv 0) (Tv 1) (Tv 2) sv_62 sv_63 (Tf 1) he_65.2) k_638 k_635 k_637 k_9 k_99 pl_X7_countOne ⟨Nat.le_of_ble_eq_true rfl, Nat.le_of_ble_eq_true rfl⟩ rfl rfl (va_recv hK hP (ci := 7) (q0 := 0) rfl rfl) hP hD hS [0, 1, 2, 3] [] rfl rfl rfl rfl rfl (by decide) rfl hl.1 rfl (Nat.le_of_ble_eq_true rfl) dX7_readValue_50 ⟨Nat.le_of_ble_eq_true rfl, Nat.le_of_ble_eq_true rfl⟩ (fun v_66 u_67 H locs hv_68 hP₀ hD₀ hS₀ => ?_)
    obtain ⟨sv_69, sv_70, sv_71⟩ := u_67
    obtain ⟨rfl, he_72⟩ := hv_68
    have he_72 : (0 ≤ ((Tv 0) : Int32).toInt ∧ ((Tv 0) : Int32).toInt ≤ 400 ∧ 0 ≤ ((Tv 1) : Int32).toInt ∧ ((Tv 1) : Int32).toInt ≤ 400 ∧ 0 ≤ ((Tv 2) : Int32).toInt ∧ ((Tv 2) : Int32).toInt ≤ 400) := he_72
    refine W.eq (g2 := F0 m 53 ls []) rfl ?_
    replace hP : va_P D classes [((Va 0), .inr (7, [.ref (Va 1), .int (Vv 0), .int sv_69])), ((Va 1), .inl (tc 0, 400, .inl (Vf 1))), ((Ta 0), .inr (10, [.ref (Ta 1), .int (Tv 0), .int (Tv 1), .int (Tv 2), .int sv_70, .int sv_71])), ((Ta 1), .inl (tc 0, 400, .inl (Tf 1)))] H := hP₀
    replace hD : va_D A [((Va 0), .inr (7, [.ref (Va 1), .int (Vv 0), .int sv_69])), ((Va 1), .inl (tc 0, 400, .inl (Vf 1))), ((Ta 0), .inr (10, [.ref (Ta 1), .int (Tv 0), .int (Tv 1), .int (Tv 2), .int sv_70, .int sv_71])), ((Ta 1), .inl (tc 0, 400, .inl (Tf 1)))] := hD₀
    replace hS := hS₀
    clear hP₀ hD₀ hS₀
    refine lv_aload_n hx hb dX7_readValue_53 rfl (lv_at hl 1 rfl) ?_
    refine lv_iload_n hx hb dX7_readValue_54 rfl (lv_at hl 0 rfl) ?_
    refine cV (a := (Va 0)) (As := [.int r_64]) (rest := []) (wr := [((Ta 0), .inr (10, [.ref (Ta 1), .int (Tv 0), .int (Tv 1), .int (Tv 2), .int sv_70, .int sv_71])), ((Ta 1), .inl (tc 0, 400, .inl (Tf 1)))]) ⟨hx, hb, hml, hown, hts⟩ hK hX hA (cu_X7_put l D tc sk (Va 0) (Va 1) (Vv 0) sv_69 (Vf 1) r_64) k_642 k_639 k_641 k_10 k_99 pl_X7_put ⟨Nat.le_of_ble_eq_true rfl, Nat.le_of_ble_eq_true rfl⟩ rfl rfl (va_recv hK hP (ci := 7) (q0 := 0) rfl rfl) hP hD hS [0, 1] [2, 3] rfl rfl rfl rfl rfl (by decide) rfl hl.1 rfl (Nat.le_of_ble_eq_true rfl) dX7_readValue_55 ⟨Nat.le_of_ble_eq_true rfl, Nat.le_of_ble_eq_true rfl⟩ (fun v_73 u_74 H locs hv_75 hP₀ hD₀ hS₀ => ?_)
    obtain ⟨sv_76, sv_77⟩ := u_74
    obtain rfl : v_73 = none := hv_75
    refine W.eq (g2 := F0 m 58 ls []) rfl ?_
    replace hP : va_P D classes [((Ta 0), .inr (10, [.ref (Ta 1), .int (Tv 0), .int (Tv 1), .int (Tv 2), .int sv_70, .int sv_71])), ((Ta 1), .inl (tc 0, 400, .inl (Tf 1))), ((Va 0), .inr (7, [.ref (Va 1), .int sv_76, .int sv_69])), ((Va 1), .inl (tc 0, 400, .inl sv_77))] H := hP₀
    replace hD : va_D A [((Ta 0), .inr (10, [.ref (Ta 1), .int (Tv 0), .int (Tv 1), .int (Tv 2), .int sv_70, .int sv_71])), ((Ta 1), .inl (tc 0, 400, .inl (Tf 1))), ((Va 0), .inr (7, [.ref (Va 1), .int sv_76, .int sv_69])), ((Va 1), .inl (tc 0, 400, .inl sv_77))] := hD₀
    replace hS := hS₀
    clear hP₀ hD₀ hS₀
    refine lv_aload_n hx hb dX7_readValue_58 rfl (lv_at hl 2 rfl) ?_
    refine cV (a := (Ta 0)) (As := []) (rest := []) (wr := [((Va 0), .inr (7, [.ref (Va 1), .int sv_76, .int sv_69])), ((Va 1), .inl (tc 0, 400, .inl sv_77))]) ⟨hx, hb, hml, hown, hts⟩ hK hX hA (cu_X10_step l D tc sk (Ta 0) (Ta 1) (Tv 0) (Tv 1) (Tv 2) sv_70 sv_71 (Tf 1) he_72) k_478 k_620 k_476 k_477 k_96 pl_X10_step ⟨Nat.le_of_ble_eq_true rfl, Nat.le_of_ble_eq_true rfl⟩ rfl rfl (va_recv hK hP (ci := 10) (q0 := 0) rfl rfl) hP hD hS [0, 1] [2, 3] rfl rfl rfl rfl rfl (by decide) rfl hl.1 rfl (Nat.le_of_ble_eq_true rfl) dX7_readValue_59 ⟨Nat.le_of_ble_eq_true rfl, Nat.le_of_ble_eq_true rfl⟩ (fun v_78 u_79 H locs hv_80 hP₀ hD₀ hS₀ => ?_)
    obtain ⟨sv_81, sv_82, sv_83⟩ := u_79
    obtain ⟨rfl, he_84⟩ := hv_80
    have he_84 : (0 ≤ ((Tv 0) : Int32).toInt ∧ ((Tv 0) : Int32).toInt ≤ 400 ∧ 0 ≤ (sv_81 : Int32).toInt ∧ (sv_81 : Int32).toInt ≤ 400 ∧ 0 ≤ (sv_82 : Int32).toInt ∧ (sv_82 : Int32).toInt ≤ 400) := he_84
    refine W.eq (g2 := F0 m 62 ls []) rfl ?_
    replace hP : va_P D classes [((Va 0), .inr (7, [.ref (Va 1), .int sv_76, .int sv_69])), ((Va 1), .inl (tc 0, 400, .inl sv_77)), ((Ta 0), .inr (10, [.ref (Ta 1), .int (Tv 0), .int sv_81, .int sv_82, .int sv_83, .int sv_71])), ((Ta 1), .inl (tc 0, 400, .inl (Tf 1)))] H := hP₀
    replace hD : va_D A [((Va 0), .inr (7, [.ref (Va 1), .int sv_76, .int sv_69])), ((Va 1), .inl (tc 0, 400, .inl sv_77)), ((Ta 0), .inr (10, [.ref (Ta 1), .int (Tv 0), .int sv_81, .int sv_82, .int sv_83, .int sv_71])), ((Ta 1), .inl (tc 0, 400, .inl (Tf 1)))] := hD₀
    replace hS := hS₀
    clear hP₀ hD₀ hS₀
    exact retV hx hb hr hlk hP hD hS (sv_76, sv_69, sv_77, sv_81, sv_82, sv_83, sv_71) ⟨rfl, he_84⟩ [0, 1, 2, 3] rfl rfl dX7_readValue_62 (Nat.le_of_ble_eq_true rfl) (Nat.le_of_ble_eq_true rfl) rfl
set_option maxRecDepth 100000 in
theorem cu_X7_readValue (l : Launch) (D : va_G) (tc : Nat → ClassId) (sk : (Nat → Nat) × (Nat → Nat)) (Va_0 : Nat) (Va_1 : Nat) (Vv_0 : Int32) (Vv_1 : Int32) (Vf_1 : Nat → Int32) (Ta_0 : Nat) (Ta_1 : Nat) (Tv_0 : Int32) (Tv_1 : Int32) (Tv_2 : Int32) (Tv_3 : Int32) (Tv_4 : Int32) (Tf_1 : Nat → Int32) (h_tape : 0 ≤ (Tv_0 : Int32).toInt ∧ (Tv_0 : Int32).toInt ≤ 400 ∧ 0 ≤ (Tv_1 : Int32).toInt ∧ (Tv_1 : Int32).toInt ≤ 400 ∧ 0 ≤ (Tv_2 : Int32).toInt ∧ (Tv_2 : Int32).toInt ≤ 400) : Ct l yX7_readValue cX7_readValue 4 none { frames := 6, cells := 0, slots := 0, locals := 133 } D tc sk [.ref Va_0, .ref Ta_0] [(Va_0, .inr (7, [.ref Va_1, .int Vv_0, .int Vv_1])), (Va_1, .inl (tc 0, 400, .inl Vf_1)), (Ta_0, .inr (10, [.ref Ta_1, .int Tv_0, .int Tv_1, .int Tv_2, .int Tv_3, .int Tv_4])), (Ta_1, .inl (tc 0, 400, .inl Tf_1))] (fun (v : Option Value) (u : (Int32) × (Int32) × (Nat → Int32) × (Int32) × (Int32) × (Int32) × (Int32)) => match u with | (o1, o2, o3, o4, o5, o6, o7) => v = none ∧ (0 ≤ (Tv_0 : Int32).toInt ∧ (Tv_0 : Int32).toInt ≤ 400 ∧ 0 ≤ (o4 : Int32).toInt ∧ (o4 : Int32).toInt ≤ 400 ∧ 0 ≤ (o5 : Int32).toInt ∧ (o5 : Int32).toInt ≤ 400)) (fun (u : (Int32) × (Int32) × (Nat → Int32) × (Int32) × (Int32) × (Int32) × (Int32)) => match u with | (o1, o2, o3, o4, o5, o6, o7) => [(Va_0, .inr (7, [.ref Va_1, .int o1, .int o2])), (Va_1, .inl (tc 0, 400, .inl o3)), (Ta_0, .inr (10, [.ref Ta_1, .int Tv_0, .int o4, .int o5, .int o6, .int o7])), (Ta_1, .inl (tc 0, 400, .inl Tf_1))]) 0 0 :=
  ct_X7_readValue l D tc sk (fun k => ([Va_0, Va_1] : List (Nat)).getD k 0) (fun k => ([Vv_0, Vv_1] : List (Int32)).getD k 0) (fun k => ([(fun _ => 0), Vf_1] : List (Nat → Int32)).getD k (fun _ => 0)) (fun k => ([Ta_0, Ta_1] : List (Nat)).getD k 0) (fun k => ([Tv_0, Tv_1, Tv_2, Tv_3, Tv_4] : List (Int32)).getD k 0) (fun k => ([(fun _ => 0), Tf_1] : List (Nat → Int32)).getD k (fun _ => 0)) h_tape
set_option maxHeartbeats 4000000 in
set_option maxRecDepth 100000 in
theorem ct_X7_readSum (l : Launch) (D : va_G) (tc : Nat → ClassId) (sk : (Nat → Nat) × (Nat → Nat)) (Va : Nat → Nat) (Vv : Nat → Int32) (Vf : Nat → Nat → Int32) (Ta : Nat → Nat) (Tv : Nat → Int32) (Tf : Nat → Nat → Int32) (h_tape : 0 ≤ ((Tv 0) : Int32).toInt ∧ ((Tv 0) : Int32).toInt ≤ 400 ∧ 0 ≤ ((Tv 1) : Int32).toInt ∧ ((Tv 1) : Int32).toInt ≤ 400 ∧ 0 ≤ ((Tv 2) : Int32).toInt ∧ ((Tv 2) : Int32).toInt ≤ 400) : Ct l yX7_readSum cX7_readSum 5 none { frames := 7, cells := 0, slots := 0, locals := 156 } D tc sk [.ref (Va 0), .ref (Ta 0)] [((Va 0), .inr (7, [.ref (Va 1), .int (Vv 0), .int (Vv 1)])), ((Va 1), .inl (tc 0, 400, .inl (Vf 1))), ((Ta 0), .inr (10, [.ref (Ta 1), .int (Tv 0), .int (Tv 1), .int (Tv 2), .int (Tv 3), .int (Tv 4)])), ((Ta 1), .inl (tc 0, 400, .inl (Tf 1)))] (fun (v : Option Value) (u : (Int32) × (Int32) × (Nat → Int32) × (Int32) × (Int32) × (Int32) × (Int32)) => match u with | (o1, o2, o3, o4, o5, o6, o7) => v = none ∧ (0 ≤ ((Tv 0) : Int32).toInt ∧ ((Tv 0) : Int32).toInt ≤ 400 ∧ 0 ≤ (o4 : Int32).toInt ∧ (o4 : Int32).toInt ≤ 400 ∧ 0 ≤ (o5 : Int32).toInt ∧ (o5 : Int32).toInt ≤ 400)) (fun (u : (Int32) × (Int32) × (Nat → Int32) × (Int32) × (Int32) × (Int32) × (Int32)) => match u with | (o1, o2, o3, o4, o5, o6, o7) => [((Va 0), .inr (7, [.ref (Va 1), .int o1, .int o2])), ((Va 1), .inl (tc 0, 400, .inl o3)), ((Ta 0), .inr (10, [.ref (Ta 1), .int (Tv 0), .int o4, .int o5, .int o6, .int o7])), ((Ta 1), .inl (tc 0, 400, .inl (Tf 1)))]) 0 0 := by
  refine Ct.start (by decide) (Nat.le_of_ble_eq_true rfl) (fun p e s m below meth c A ls hx hb hr hlk hin hml hown hts hK hX hP hD hA hl hS => ?_)
  have hl : lv_has ls 5 [(0, .ref (Va 0)), (1, .ref (Ta 0))] := hl
  refine lv_aload_n hx hb dX7_readSum_0 rfl (lv_at hl 0 rfl) ?_
  refine lv_aload_n hx hb dX7_readSum_1 rfl (lv_at hl 1 rfl) ?_
  refine cV (a := (Va 0)) (As := [.ref (Ta 0)]) (rest := []) (wr := []) ⟨hx, hb, hml, hown, hts⟩ hK hX hA (cu_X7_readValue l D tc sk (Va 0) (Va 1) (Vv 0) (Vv 1) (Vf 1) (Ta 0) (Ta 1) (Tv 0) (Tv 1) (Tv 2) (Tv 3) (Tv 4) (Tf 1) h_tape) k_628 k_625 k_627 k_8 k_99 pl_X7_readValue ⟨Nat.le_of_ble_eq_true rfl, Nat.le_of_ble_eq_true rfl⟩ rfl rfl (va_recv hK hP (ci := 7) (q0 := 0) rfl rfl) hP hD hS [0, 1, 2, 3] [] rfl rfl rfl rfl rfl (by decide) rfl hl.1 rfl (Nat.le_of_ble_eq_true rfl) dX7_readSum_2 ⟨Nat.le_of_ble_eq_true rfl, Nat.le_of_ble_eq_true rfl⟩ (fun v_1 u_2 H locs hv_3 hP₀ hD₀ hS₀ => ?_)
  obtain ⟨sv_4, sv_5, sv_6, sv_7, sv_8, sv_9, sv_10⟩ := u_2
  obtain ⟨rfl, he_11⟩ := hv_3
  have he_11 : (0 ≤ ((Tv 0) : Int32).toInt ∧ ((Tv 0) : Int32).toInt ≤ 400 ∧ 0 ≤ (sv_7 : Int32).toInt ∧ (sv_7 : Int32).toInt ≤ 400 ∧ 0 ≤ (sv_8 : Int32).toInt ∧ (sv_8 : Int32).toInt ≤ 400) := he_11
  refine W.eq (g2 := F0 m 5 ls []) rfl ?_
  replace hP : va_P D classes [((Va 0), .inr (7, [.ref (Va 1), .int sv_4, .int sv_5])), ((Va 1), .inl (tc 0, 400, .inl sv_6)), ((Ta 0), .inr (10, [.ref (Ta 1), .int (Tv 0), .int sv_7, .int sv_8, .int sv_9, .int sv_10])), ((Ta 1), .inl (tc 0, 400, .inl (Tf 1)))] H := hP₀
  replace hD : va_D A [((Va 0), .inr (7, [.ref (Va 1), .int sv_4, .int sv_5])), ((Va 1), .inl (tc 0, 400, .inl sv_6)), ((Ta 0), .inr (10, [.ref (Ta 1), .int (Tv 0), .int sv_7, .int sv_8, .int sv_9, .int sv_10])), ((Ta 1), .inl (tc 0, 400, .inl (Tf 1)))] := hD₀
  replace hS := hS₀
  clear hP₀ hD₀ hS₀
  refine lv_iconst (v := (-1)) hx hb dX7_readSum_5 (by decide) ?_
  refine lv_istore_n (lv' := [(2, .int (-1)), (0, .ref (Va 0)), (1, .ref (Ta 0))]) hx hb dX7_readSum_6 rfl hl (by decide) rfl (fun ls hl₀ => ?_)
  replace hl := hl₀
  clear hl₀
  refine lv_iconst (v := 0) hx hb dX7_readSum_7 (by decide) ?_
  refine lv_istore_n (lv' := [(3, .int 0), (2, .int (-1)), (0, .ref (Va 0)), (1, .ref (Ta 0))]) hx hb dX7_readSum_8 rfl hl (by decide) rfl (fun ls hl₀ => ?_)
  replace hl := hl₀
  clear hl₀
  have loop_33 : ∀ (n_31 : Nat) (vy_22 : Int32) (vy_23 : Int32) (vy_24 : Int32) (vy_25 : Int32) (vy_26 : Nat → Int32) (vy_27 : Int32) (vy_28 : Int32) (vy_29 : Int32) (vy_30 : Int32) (H : Heap) (locs : List Loc) (ls : Array Slot), 0 ≤ (vy_22 : Int32).toInt → (400 - (vy_22 : Int32).toInt).toNat < n_31 → 0 ≤ ((Tv 0) : Int32).toInt ∧ ((Tv 0) : Int32).toInt ≤ 400 ∧ 0 ≤ (vy_27 : Int32).toInt ∧ (vy_27 : Int32).toInt ≤ 400 ∧ 0 ≤ (vy_28 : Int32).toInt ∧ (vy_28 : Int32).toInt ≤ 400 → va_P D classes [((Va 0), .inr (7, [.ref (Va 1), .int vy_24, .int vy_25])), ((Va 1), .inl (tc 0, 400, .inl vy_26)), ((Ta 0), .inr (10, [.ref (Ta 1), .int (Tv 0), .int vy_27, .int vy_28, .int vy_29, .int vy_30])), ((Ta 1), .inl (tc 0, 400, .inl (Tf 1)))] H → va_D A [((Va 0), .inr (7, [.ref (Va 1), .int vy_24, .int vy_25])), ((Va 1), .inl (tc 0, 400, .inl vy_26)), ((Ta 0), .inr (10, [.ref (Ta 1), .int (Tv 0), .int vy_27, .int vy_28, .int vy_29, .int vy_30])), ((Ta 1), .inl (tc 0, 400, .inl (Tf 1)))] → va_S A s.heap H locs → lv_has ls 5 [(3, .int vy_22), (2, .int vy_23), (0, .ref (Va 0)), (1, .ref (Ta 0))] → W p l e ({ frames := 7, cells := 0, slots := 0, locals := 156 }) s m ([.ref (Va 0), .ref (Ta 0)].toArray) below meth c H locs 0 0 (MQ below (QW (fun (v : Option Value) (u : (Int32) × (Int32) × (Nat → Int32) × (Int32) × (Int32) × (Int32) × (Int32)) => match u with | (o1, o2, o3, o4, o5, o6, o7) => v = none ∧ (0 ≤ ((Tv 0) : Int32).toInt ∧ ((Tv 0) : Int32).toInt ≤ 400 ∧ 0 ≤ (o4 : Int32).toInt ∧ (o4 : Int32).toInt ≤ 400 ∧ 0 ≤ (o5 : Int32).toInt ∧ (o5 : Int32).toInt ≤ 400)) (BW D (fun (u : (Int32) × (Int32) × (Nat → Int32) × (Int32) × (Int32) × (Int32) × (Int32)) => match u with | (o1, o2, o3, o4, o5, o6, o7) => [((Va 0), .inr (7, [.ref (Va 1), .int o1, .int o2])), ((Va 1), .inl (tc 0, 400, .inl o3)), ((Ta 0), .inr (10, [.ref (Ta 1), .int (Tv 0), .int o4, .int o5, .int o6, .int o7])), ((Ta 1), .inl (tc 0, 400, .inl (Tf 1)))]) A) A) ([.ref (Va 0), .ref (Ta 0)].toArray) s 0 0 A) (F0 m 9 ls []) := by
    clear hP hD hS hl
    intro n_31
    induction n_31 with
    | zero =>
      intro vy_22 vy_23 vy_24 vy_25 vy_26 vy_27 vy_28 vy_29 vy_30 H locs ls h1 h2
      exact absurd h2 (Nat.not_lt_zero _)
    | succ n_31 ih_32 =>
      intro vy_22 vy_23 vy_24 vy_25 vy_26 vy_27 vy_28 vy_29 vy_30 H locs ls hi_35 hn_36 hv_34 hP hD hS hl
      refine lv_iload_n hx hb dX7_readSum_9 rfl (lv_at hl 0 rfl) ?_
      refine lv_sipush (v := 400) hx hb dX7_readSum_10 (by decide) ?_
      refine lv_icmp_ge (tgt := 86) hx hb dX7_readSum_13 (by decide) (fun c_37 => ?_) (fun c_37 => ?_)
      · skip
        refine lv_iload_n hx hb dX7_readSum_86 rfl (lv_at hl 1 rfl) ?_
        refine lv_iconst (v := (-1)) hx hb dX7_readSum_87 (by decide) ?_
        refine lv_icmp_eq (tgt := 96) hx hb dX7_readSum_88 (by decide) (fun c_38 => ?_) (fun c_38 => ?_)
        · skip
          exact retV hx hb hr hlk hP hD hS (vy_24, vy_25, vy_26, vy_27, vy_28, vy_29, vy_30) ⟨rfl, hv_34⟩ [0, 1, 2, 3] rfl rfl dX7_readSum_96 (Nat.le_of_ble_eq_true rfl) (Nat.le_of_ble_eq_true rfl) rfl
        · skip
          refine lv_aload_n hx hb dX7_readSum_91 rfl (lv_at hl 2 rfl) ?_
          refine lv_iload_n hx hb dX7_readSum_92 rfl (lv_at hl 1 rfl) ?_
          refine cV (a := (Va 0)) (As := [.int vy_23]) (rest := []) (wr := [((Ta 0), .inr (10, [.ref (Ta 1), .int (Tv 0), .int vy_27, .int vy_28, .int vy_29, .int vy_30])), ((Ta 1), .inl (tc 0, 400, .inl (Tf 1)))]) ⟨hx, hb, hml, hown, hts⟩ hK hX hA (cu_X7_put l D tc sk (Va 0) (Va 1) vy_24 vy_25 vy_26 vy_23) k_642 k_639 k_641 k_10 k_99 pl_X7_put ⟨Nat.le_of_ble_eq_true rfl, Nat.le_of_ble_eq_true rfl⟩ rfl rfl (va_recv hK hP (ci := 7) (q0 := 0) rfl rfl) hP hD hS [0, 1] [2, 3] rfl rfl rfl rfl rfl (by decide) rfl hl.1 rfl (Nat.le_of_ble_eq_true rfl) dX7_readSum_93 ⟨Nat.le_of_ble_eq_true rfl, Nat.le_of_ble_eq_true rfl⟩ (fun v_39 u_40 H locs hv_41 hP₀ hD₀ hS₀ => ?_)
          obtain ⟨sv_42, sv_43⟩ := u_40
          obtain rfl : v_39 = none := hv_41
          refine W.eq (g2 := F0 m 96 ls []) rfl ?_
          replace hP : va_P D classes [((Ta 0), .inr (10, [.ref (Ta 1), .int (Tv 0), .int vy_27, .int vy_28, .int vy_29, .int vy_30])), ((Ta 1), .inl (tc 0, 400, .inl (Tf 1))), ((Va 0), .inr (7, [.ref (Va 1), .int sv_42, .int vy_25])), ((Va 1), .inl (tc 0, 400, .inl sv_43))] H := hP₀
          replace hD : va_D A [((Ta 0), .inr (10, [.ref (Ta 1), .int (Tv 0), .int vy_27, .int vy_28, .int vy_29, .int vy_30])), ((Ta 1), .inl (tc 0, 400, .inl (Tf 1))), ((Va 0), .inr (7, [.ref (Va 1), .int sv_42, .int vy_25])), ((Va 1), .inl (tc 0, 400, .inl sv_43))] := hD₀
          replace hS := hS₀
          clear hP₀ hD₀ hS₀
          exact retV hx hb hr hlk hP hD hS (sv_42, vy_25, sv_43, vy_27, vy_28, vy_29, vy_30) ⟨rfl, hv_34⟩ [2, 3, 0, 1] rfl rfl dX7_readSum_96 (Nat.le_of_ble_eq_true rfl) (Nat.le_of_ble_eq_true rfl) rfl
      · skip
        refine lv_aload_n hx hb dX7_readSum_16 rfl (lv_at hl 3 rfl) ?_
        refine cS (As := [.ref (Ta 0)]) (rest := []) (wr := [((Va 0), .inr (7, [.ref (Va 1), .int vy_24, .int vy_25])), ((Va 1), .inl (tc 0, 400, .inl vy_26))]) ⟨hx, hb, hml, hown, hts⟩ hK hX hA (cu_X7_arithmetic l D tc sk (Ta 0) (Ta 1) (Tv 0) vy_27 vy_28 vy_29 vy_30 (Tf 1) hv_34) k_645 k_643 k_644 k_99 pl_X7_arithmetic ⟨Nat.le_of_ble_eq_true rfl, Nat.le_of_ble_eq_true rfl⟩ rfl rfl  hP hD hS [2, 3] [0, 1] rfl rfl rfl rfl rfl (by decide) rfl hl.1 rfl (Nat.le_of_ble_eq_true rfl) dX7_readSum_17 ⟨Nat.le_of_ble_eq_true rfl, Nat.le_of_ble_eq_true rfl⟩ (fun v_44 u_45 H locs hv_46 hP₀ hD₀ hS₀ => ?_)
        obtain ⟨r_47, rfl, he_48⟩ := hv_46
        have he_48 : (True) ∧ (0 ≤ ((Tv 0) : Int32).toInt ∧ ((Tv 0) : Int32).toInt ≤ 400 ∧ 0 ≤ (vy_27 : Int32).toInt ∧ (vy_27 : Int32).toInt ≤ 400 ∧ 0 ≤ (vy_28 : Int32).toInt ∧ (vy_28 : Int32).toInt ≤ 400) := he_48
        refine W.eq (g2 := F0 m 20 ls [.int r_47]) rfl ?_
        replace hP : va_P D classes [((Va 0), .inr (7, [.ref (Va 1), .int vy_24, .int vy_25])), ((Va 1), .inl (tc 0, 400, .inl vy_26)), ((Ta 0), .inr (10, [.ref (Ta 1), .int (Tv 0), .int vy_27, .int vy_28, .int vy_29, .int vy_30])), ((Ta 1), .inl (tc 0, 400, .inl (Tf 1)))] H := hP₀
        replace hD : va_D A [((Va 0), .inr (7, [.ref (Va 1), .int vy_24, .int vy_25])), ((Va 1), .inl (tc 0, 400, .inl vy_26)), ((Ta 0), .inr (10, [.ref (Ta 1), .int (Tv 0), .int vy_27, .int vy_28, .int vy_29, .int vy_30])), ((Ta 1), .inl (tc 0, 400, .inl (Tf 1)))] := hD₀
        replace hS := hS₀
        clear hP₀ hD₀ hS₀
        refine lv_iconst (v := (-1)) hx hb dX7_readSum_20 (by decide) ?_
        refine lv_icmp_eq (tgt := 86) hx hb dX7_readSum_21 (by decide) (fun c_49 => ?_) (fun c_49 => ?_)
        · skip
          refine lv_iload_n hx hb dX7_readSum_86 rfl (lv_at hl 1 rfl) ?_
          refine lv_iconst (v := (-1)) hx hb dX7_readSum_87 (by decide) ?_
          refine lv_icmp_eq (tgt := 96) hx hb dX7_readSum_88 (by decide) (fun c_50 => ?_) (fun c_50 => ?_)
          · skip
            exact retV hx hb hr hlk hP hD hS (vy_24, vy_25, vy_26, vy_27, vy_28, vy_29, vy_30) ⟨rfl, he_48.2⟩ [0, 1, 2, 3] rfl rfl dX7_readSum_96 (Nat.le_of_ble_eq_true rfl) (Nat.le_of_ble_eq_true rfl) rfl
          · skip
            refine lv_aload_n hx hb dX7_readSum_91 rfl (lv_at hl 2 rfl) ?_
            refine lv_iload_n hx hb dX7_readSum_92 rfl (lv_at hl 1 rfl) ?_
            refine cV (a := (Va 0)) (As := [.int vy_23]) (rest := []) (wr := [((Ta 0), .inr (10, [.ref (Ta 1), .int (Tv 0), .int vy_27, .int vy_28, .int vy_29, .int vy_30])), ((Ta 1), .inl (tc 0, 400, .inl (Tf 1)))]) ⟨hx, hb, hml, hown, hts⟩ hK hX hA (cu_X7_put l D tc sk (Va 0) (Va 1) vy_24 vy_25 vy_26 vy_23) k_642 k_639 k_641 k_10 k_99 pl_X7_put ⟨Nat.le_of_ble_eq_true rfl, Nat.le_of_ble_eq_true rfl⟩ rfl rfl (va_recv hK hP (ci := 7) (q0 := 0) rfl rfl) hP hD hS [0, 1] [2, 3] rfl rfl rfl rfl rfl (by decide) rfl hl.1 rfl (Nat.le_of_ble_eq_true rfl) dX7_readSum_93 ⟨Nat.le_of_ble_eq_true rfl, Nat.le_of_ble_eq_true rfl⟩ (fun v_51 u_52 H locs hv_53 hP₀ hD₀ hS₀ => ?_)
            obtain ⟨sv_54, sv_55⟩ := u_52
            obtain rfl : v_51 = none := hv_53
            refine W.eq (g2 := F0 m 96 ls []) rfl ?_
            replace hP : va_P D classes [((Ta 0), .inr (10, [.ref (Ta 1), .int (Tv 0), .int vy_27, .int vy_28, .int vy_29, .int vy_30])), ((Ta 1), .inl (tc 0, 400, .inl (Tf 1))), ((Va 0), .inr (7, [.ref (Va 1), .int sv_54, .int vy_25])), ((Va 1), .inl (tc 0, 400, .inl sv_55))] H := hP₀
            replace hD : va_D A [((Ta 0), .inr (10, [.ref (Ta 1), .int (Tv 0), .int vy_27, .int vy_28, .int vy_29, .int vy_30])), ((Ta 1), .inl (tc 0, 400, .inl (Tf 1))), ((Va 0), .inr (7, [.ref (Va 1), .int sv_54, .int vy_25])), ((Va 1), .inl (tc 0, 400, .inl sv_55))] := hD₀
            replace hS := hS₀
            clear hP₀ hD₀ hS₀
            exact retV hx hb hr hlk hP hD hS (sv_54, vy_25, sv_55, vy_27, vy_28, vy_29, vy_30) ⟨rfl, he_48.2⟩ [2, 3, 0, 1] rfl rfl dX7_readSum_96 (Nat.le_of_ble_eq_true rfl) (Nat.le_of_ble_eq_true rfl) rfl
        · skip
          refine lv_aload_n hx hb dX7_readSum_24 rfl (lv_at hl 3 rfl) ?_
          refine cS (As := [.ref (Ta 0)]) (rest := []) (wr := [((Va 0), .inr (7, [.ref (Va 1), .int vy_24, .int vy_25])), ((Va 1), .inl (tc 0, 400, .inl vy_26))]) ⟨hx, hb, hml, hown, hts⟩ hK hX hA (cu_X7_arithmetic l D tc sk (Ta 0) (Ta 1) (Tv 0) vy_27 vy_28 vy_29 vy_30 (Tf 1) he_48.2) k_645 k_643 k_644 k_99 pl_X7_arithmetic ⟨Nat.le_of_ble_eq_true rfl, Nat.le_of_ble_eq_true rfl⟩ rfl rfl  hP hD hS [2, 3] [0, 1] rfl rfl rfl rfl rfl (by decide) rfl hl.1 rfl (Nat.le_of_ble_eq_true rfl) dX7_readSum_25 ⟨Nat.le_of_ble_eq_true rfl, Nat.le_of_ble_eq_true rfl⟩ (fun v_56 u_57 H locs hv_58 hP₀ hD₀ hS₀ => ?_)
          obtain ⟨r_59, rfl, he_60⟩ := hv_58
          have he_60 : (True) ∧ (0 ≤ ((Tv 0) : Int32).toInt ∧ ((Tv 0) : Int32).toInt ≤ 400 ∧ 0 ≤ (vy_27 : Int32).toInt ∧ (vy_27 : Int32).toInt ≤ 400 ∧ 0 ≤ (vy_28 : Int32).toInt ∧ (vy_28 : Int32).toInt ≤ 400) := he_60
          refine W.eq (g2 := F0 m 28 ls [.int r_59]) rfl ?_
          replace hP : va_P D classes [((Va 0), .inr (7, [.ref (Va 1), .int vy_24, .int vy_25])), ((Va 1), .inl (tc 0, 400, .inl vy_26)), ((Ta 0), .inr (10, [.ref (Ta 1), .int (Tv 0), .int vy_27, .int vy_28, .int vy_29, .int vy_30])), ((Ta 1), .inl (tc 0, 400, .inl (Tf 1)))] H := hP₀
          replace hD : va_D A [((Va 0), .inr (7, [.ref (Va 1), .int vy_24, .int vy_25])), ((Va 1), .inl (tc 0, 400, .inl vy_26)), ((Ta 0), .inr (10, [.ref (Ta 1), .int (Tv 0), .int vy_27, .int vy_28, .int vy_29, .int vy_30])), ((Ta 1), .inl (tc 0, 400, .inl (Tf 1)))] := hD₀
          replace hS := hS₀
          clear hP₀ hD₀ hS₀
          refine lv_istore (lv' := [(4, .int r_59), (3, .int vy_22), (2, .int vy_23), (0, .ref (Va 0)), (1, .ref (Ta 0))]) hx hb dX7_readSum_28 hl (by decide) rfl (fun ls hl₀ => ?_)
          replace hl := hl₀
          clear hl₀
          refine lv_aload_n hx hb dX7_readSum_30 rfl (lv_at hl 4 rfl) ?_
          refine cV (a := (Ta 0)) (As := []) (rest := []) (wr := [((Va 0), .inr (7, [.ref (Va 1), .int vy_24, .int vy_25])), ((Va 1), .inl (tc 0, 400, .inl vy_26))]) ⟨hx, hb, hml, hown, hts⟩ hK hX hA (cu_X10_step l D tc sk (Ta 0) (Ta 1) (Tv 0) vy_27 vy_28 vy_29 vy_30 (Tf 1) he_60.2) k_478 k_620 k_476 k_477 k_96 pl_X10_step ⟨Nat.le_of_ble_eq_true rfl, Nat.le_of_ble_eq_true rfl⟩ rfl rfl (va_recv hK hP (ci := 10) (q0 := 2) rfl rfl) hP hD hS [2, 3] [0, 1] rfl rfl rfl rfl rfl (by decide) rfl hl.1 rfl (Nat.le_of_ble_eq_true rfl) dX7_readSum_31 ⟨Nat.le_of_ble_eq_true rfl, Nat.le_of_ble_eq_true rfl⟩ (fun v_61 u_62 H locs hv_63 hP₀ hD₀ hS₀ => ?_)
          obtain ⟨sv_64, sv_65, sv_66⟩ := u_62
          obtain ⟨rfl, he_67⟩ := hv_63
          have he_67 : (0 ≤ ((Tv 0) : Int32).toInt ∧ ((Tv 0) : Int32).toInt ≤ 400 ∧ 0 ≤ (sv_64 : Int32).toInt ∧ (sv_64 : Int32).toInt ≤ 400 ∧ 0 ≤ (sv_65 : Int32).toInt ∧ (sv_65 : Int32).toInt ≤ 400) := he_67
          refine W.eq (g2 := F0 m 34 ls []) rfl ?_
          replace hP : va_P D classes [((Va 0), .inr (7, [.ref (Va 1), .int vy_24, .int vy_25])), ((Va 1), .inl (tc 0, 400, .inl vy_26)), ((Ta 0), .inr (10, [.ref (Ta 1), .int (Tv 0), .int sv_64, .int sv_65, .int sv_66, .int vy_30])), ((Ta 1), .inl (tc 0, 400, .inl (Tf 1)))] H := hP₀
          replace hD : va_D A [((Va 0), .inr (7, [.ref (Va 1), .int vy_24, .int vy_25])), ((Va 1), .inl (tc 0, 400, .inl vy_26)), ((Ta 0), .inr (10, [.ref (Ta 1), .int (Tv 0), .int sv_64, .int sv_65, .int sv_66, .int vy_30])), ((Ta 1), .inl (tc 0, 400, .inl (Tf 1)))] := hD₀
          replace hS := hS₀
          clear hP₀ hD₀ hS₀
          refine lv_iload hx hb dX7_readSum_34 (lv_at hl 0 rfl) ?_
          refine lv_bipush (v := (-12)) hx hb dX7_readSum_36 (by decide) ?_
          refine lv_icmp_eq (tgt := 48) hx hb dX7_readSum_38 (by decide) (fun c_68 => ?_) (fun c_68 => ?_)
          · skip
            refine lv_iload_n hx hb dX7_readSum_48 rfl (lv_at hl 2 rfl) ?_
            refine lv_iconst (v := (-1)) hx hb dX7_readSum_49 (by decide) ?_
            refine lv_icmp_eq (tgt := 58) hx hb dX7_readSum_50 (by decide) (fun c_69 => ?_) (fun c_69 => ?_)
            · skip
              refine lv_iload hx hb dX7_readSum_58 (lv_at hl 0 rfl) ?_
              refine lv_istore_n (lv' := [(2, .int r_59), (4, .int r_59), (3, .int vy_22), (0, .ref (Va 0)), (1, .ref (Ta 0))]) hx hb dX7_readSum_60 rfl hl (by decide) rfl (fun ls hl₀ => ?_)
              replace hl := hl₀
              clear hl₀
              refine lv_aload_n hx hb dX7_readSum_61 rfl (lv_at hl 3 rfl) ?_
              refine lv_aload_n hx hb dX7_readSum_62 rfl (lv_at hl 4 rfl) ?_
              refine cV (a := (Va 0)) (As := [.ref (Ta 0)]) (rest := []) (wr := []) ⟨hx, hb, hml, hown, hts⟩ hK hX hA (cu_X7_readValue l D tc sk (Va 0) (Va 1) vy_24 vy_25 vy_26 (Ta 0) (Ta 1) (Tv 0) sv_64 sv_65 sv_66 vy_30 (Tf 1) he_67) k_628 k_625 k_627 k_8 k_99 pl_X7_readValue ⟨Nat.le_of_ble_eq_true rfl, Nat.le_of_ble_eq_true rfl⟩ rfl rfl (va_recv hK hP (ci := 7) (q0 := 0) rfl rfl) hP hD hS [0, 1, 2, 3] [] rfl rfl rfl rfl rfl (by decide) rfl hl.1 rfl (Nat.le_of_ble_eq_true rfl) dX7_readSum_63 ⟨Nat.le_of_ble_eq_true rfl, Nat.le_of_ble_eq_true rfl⟩ (fun v_70 u_71 H locs hv_72 hP₀ hD₀ hS₀ => ?_)
              obtain ⟨sv_73, sv_74, sv_75, sv_76, sv_77, sv_78, sv_79⟩ := u_71
              obtain ⟨rfl, he_80⟩ := hv_72
              have he_80 : (0 ≤ ((Tv 0) : Int32).toInt ∧ ((Tv 0) : Int32).toInt ≤ 400 ∧ 0 ≤ (sv_76 : Int32).toInt ∧ (sv_76 : Int32).toInt ≤ 400 ∧ 0 ≤ (sv_77 : Int32).toInt ∧ (sv_77 : Int32).toInt ≤ 400) := he_80
              refine W.eq (g2 := F0 m 66 ls []) rfl ?_
              replace hP : va_P D classes [((Va 0), .inr (7, [.ref (Va 1), .int sv_73, .int sv_74])), ((Va 1), .inl (tc 0, 400, .inl sv_75)), ((Ta 0), .inr (10, [.ref (Ta 1), .int (Tv 0), .int sv_76, .int sv_77, .int sv_78, .int sv_79])), ((Ta 1), .inl (tc 0, 400, .inl (Tf 1)))] H := hP₀
              replace hD : va_D A [((Va 0), .inr (7, [.ref (Va 1), .int sv_73, .int sv_74])), ((Va 1), .inl (tc 0, 400, .inl sv_75)), ((Ta 0), .inr (10, [.ref (Ta 1), .int (Tv 0), .int sv_76, .int sv_77, .int sv_78, .int sv_79])), ((Ta 1), .inl (tc 0, 400, .inl (Tf 1)))] := hD₀
              replace hS := hS₀
              clear hP₀ hD₀ hS₀
              refine lv_goto (tgt := 80) hx hb dX7_readSum_66 (by decide) ?_
              obtain ⟨x_81, ex_81⟩ : ∃ y : Int32, y = vy_22 + 1 := ⟨_, rfl⟩
              refine lv_iinc (v := x_81) (lv' := [(3, .int x_81), (2, .int r_59), (4, .int r_59), (0, .ref (Va 0)), (1, .ref (Ta 0))]) hx hb dX7_readSum_80 hl (k := 2) rfl (by rw [ex_81]; rfl) (by decide) rfl (fun ls hl₀ => ?_)
              replace hl := hl₀
              clear hl₀
              refine lv_goto (tgt := 9) hx hb dX7_readSum_83 (by decide) ?_
              have hb_82 : 0 ≤ (x_81 : Int32).toInt ∧ (400 - (x_81 : Int32).toInt).toNat < n_31 := by
                have z_1 := Int32.lt_iff_toInt_lt.mp (Int32.not_le.mp c_37)
                have z_2 : ¬ (r_47 : Int32).toInt = ((-1) : Int32).toInt := fun z => c_49 (Int32.toInt_inj.mp z)
                have z_3 := congrArg Int32.toInt c_68
                have z_4 := congrArg Int32.toInt c_69
                have y_m12 : (-12 : Int32).toInt = -12 := by decide
                have y_m1 : (-1 : Int32).toInt = -1 := by decide
                have y_400 : (400 : Int32).toInt = 400 := by decide
                have y_1 : (1 : Int32).toInt = 1 := by decide
                have t_x_81 : x_81.toInt = (vy_22 : Int32).toInt + (1 : Int32).toInt := by rw [ex_81]; exact add_toInt (by omega) (by omega)
                omega
              exact ih_32 x_81 r_59 sv_73 sv_74 sv_75 sv_76 sv_77 sv_78 sv_79 _ _ _ hb_82.1 hb_82.2 he_80 (hP.sub [0, 1, 2, 3] rfl) (hD.sub [0, 1, 2, 3] rfl rfl) hS (lv_sub hl [0, 1, 3, 4] rfl)
            · skip
              refine lv_aload_n hx hb dX7_readSum_53 rfl (lv_at hl 3 rfl) ?_
              refine lv_iload_n hx hb dX7_readSum_54 rfl (lv_at hl 2 rfl) ?_
              refine cV (a := (Va 0)) (As := [.int vy_23]) (rest := []) (wr := [((Ta 0), .inr (10, [.ref (Ta 1), .int (Tv 0), .int sv_64, .int sv_65, .int sv_66, .int vy_30])), ((Ta 1), .inl (tc 0, 400, .inl (Tf 1)))]) ⟨hx, hb, hml, hown, hts⟩ hK hX hA (cu_X7_put l D tc sk (Va 0) (Va 1) vy_24 vy_25 vy_26 vy_23) k_642 k_639 k_641 k_10 k_99 pl_X7_put ⟨Nat.le_of_ble_eq_true rfl, Nat.le_of_ble_eq_true rfl⟩ rfl rfl (va_recv hK hP (ci := 7) (q0 := 0) rfl rfl) hP hD hS [0, 1] [2, 3] rfl rfl rfl rfl rfl (by decide) rfl hl.1 rfl (Nat.le_of_ble_eq_true rfl) dX7_readSum_55 ⟨Nat.le_of_ble_eq_true rfl, Nat.le_of_ble_eq_true rfl⟩ (fun v_83 u_84 H locs hv_85 hP₀ hD₀ hS₀ => ?_)
              obtain ⟨sv_86, sv_87⟩ := u_84
              obtain rfl : v_83 = none := hv_85
              refine W.eq (g2 := F0 m 58 ls []) rfl ?_
              replace hP : va_P D classes [((Ta 0), .inr (10, [.ref (Ta 1), .int (Tv 0), .int sv_64, .int sv_65, .int sv_66, .int vy_30])), ((Ta 1), .inl (tc 0, 400, .inl (Tf 1))), ((Va 0), .inr (7, [.ref (Va 1), .int sv_86, .int vy_25])), ((Va 1), .inl (tc 0, 400, .inl sv_87))] H := hP₀
              replace hD : va_D A [((Ta 0), .inr (10, [.ref (Ta 1), .int (Tv 0), .int sv_64, .int sv_65, .int sv_66, .int vy_30])), ((Ta 1), .inl (tc 0, 400, .inl (Tf 1))), ((Va 0), .inr (7, [.ref (Va 1), .int sv_86, .int vy_25])), ((Va 1), .inl (tc 0, 400, .inl sv_87))] := hD₀
              replace hS := hS₀
              clear hP₀ hD₀ hS₀
              refine lv_iload hx hb dX7_readSum_58 (lv_at hl 0 rfl) ?_
              refine lv_istore_n (lv' := [(2, .int r_59), (4, .int r_59), (3, .int vy_22), (0, .ref (Va 0)), (1, .ref (Ta 0))]) hx hb dX7_readSum_60 rfl hl (by decide) rfl (fun ls hl₀ => ?_)
              replace hl := hl₀
              clear hl₀
              refine lv_aload_n hx hb dX7_readSum_61 rfl (lv_at hl 3 rfl) ?_
              refine lv_aload_n hx hb dX7_readSum_62 rfl (lv_at hl 4 rfl) ?_
              refine cV (a := (Va 0)) (As := [.ref (Ta 0)]) (rest := []) (wr := []) ⟨hx, hb, hml, hown, hts⟩ hK hX hA (cu_X7_readValue l D tc sk (Va 0) (Va 1) sv_86 vy_25 sv_87 (Ta 0) (Ta 1) (Tv 0) sv_64 sv_65 sv_66 vy_30 (Tf 1) he_67) k_628 k_625 k_627 k_8 k_99 pl_X7_readValue ⟨Nat.le_of_ble_eq_true rfl, Nat.le_of_ble_eq_true rfl⟩ rfl rfl (va_recv hK hP (ci := 7) (q0 := 2) rfl rfl) hP hD hS [2, 3, 0, 1] [] rfl rfl rfl rfl rfl (by decide) rfl hl.1 rfl (Nat.le_of_ble_eq_true rfl) dX7_readSum_63 ⟨Nat.le_of_ble_eq_true rfl, Nat.le_of_ble_eq_true rfl⟩ (fun v_88 u_89 H locs hv_90 hP₀ hD₀ hS₀ => ?_)
              obtain ⟨sv_91, sv_92, sv_93, sv_94, sv_95, sv_96, sv_97⟩ := u_89
              obtain ⟨rfl, he_98⟩ := hv_90
              have he_98 : (0 ≤ ((Tv 0) : Int32).toInt ∧ ((Tv 0) : Int32).toInt ≤ 400 ∧ 0 ≤ (sv_94 : Int32).toInt ∧ (sv_94 : Int32).toInt ≤ 400 ∧ 0 ≤ (sv_95 : Int32).toInt ∧ (sv_95 : Int32).toInt ≤ 400) := he_98
              refine W.eq (g2 := F0 m 66 ls []) rfl ?_
              replace hP : va_P D classes [((Va 0), .inr (7, [.ref (Va 1), .int sv_91, .int sv_92])), ((Va 1), .inl (tc 0, 400, .inl sv_93)), ((Ta 0), .inr (10, [.ref (Ta 1), .int (Tv 0), .int sv_94, .int sv_95, .int sv_96, .int sv_97])), ((Ta 1), .inl (tc 0, 400, .inl (Tf 1)))] H := hP₀
              replace hD : va_D A [((Va 0), .inr (7, [.ref (Va 1), .int sv_91, .int sv_92])), ((Va 1), .inl (tc 0, 400, .inl sv_93)), ((Ta 0), .inr (10, [.ref (Ta 1), .int (Tv 0), .int sv_94, .int sv_95, .int sv_96, .int sv_97])), ((Ta 1), .inl (tc 0, 400, .inl (Tf 1)))] := hD₀
              replace hS := hS₀
              clear hP₀ hD₀ hS₀
              refine lv_goto (tgt := 80) hx hb dX7_readSum_66 (by decide) ?_
              obtain ⟨x_99, ex_99⟩ : ∃ y : Int32, y = vy_22 + 1 := ⟨_, rfl⟩
              refine lv_iinc (v := x_99) (lv' := [(3, .int x_99), (2, .int r_59), (4, .int r_59), (0, .ref (Va 0)), (1, .ref (Ta 0))]) hx hb dX7_readSum_80 hl (k := 2) rfl (by rw [ex_99]; rfl) (by decide) rfl (fun ls hl₀ => ?_)
              replace hl := hl₀
              clear hl₀
              refine lv_goto (tgt := 9) hx hb dX7_readSum_83 (by decide) ?_
              have hb_100 : 0 ≤ (x_99 : Int32).toInt ∧ (400 - (x_99 : Int32).toInt).toNat < n_31 := by
                have z_1 := Int32.lt_iff_toInt_lt.mp (Int32.not_le.mp c_37)
                have z_2 : ¬ (r_47 : Int32).toInt = ((-1) : Int32).toInt := fun z => c_49 (Int32.toInt_inj.mp z)
                have z_3 := congrArg Int32.toInt c_68
                have z_4 : ¬ (vy_23 : Int32).toInt = ((-1) : Int32).toInt := fun z => c_69 (Int32.toInt_inj.mp z)
                have y_m12 : (-12 : Int32).toInt = -12 := by decide
                have y_m1 : (-1 : Int32).toInt = -1 := by decide
                have y_400 : (400 : Int32).toInt = 400 := by decide
                have y_1 : (1 : Int32).toInt = 1 := by decide
                have t_x_99 : x_99.toInt = (vy_22 : Int32).toInt + (1 : Int32).toInt := by rw [ex_99]; exact add_toInt (by omega) (by omega)
                omega
              exact ih_32 x_99 r_59 sv_91 sv_92 sv_93 sv_94 sv_95 sv_96 sv_97 _ _ _ hb_100.1 hb_100.2 he_98 (hP.sub [0, 1, 2, 3] rfl) (hD.sub [0, 1, 2, 3] rfl rfl) hS (lv_sub hl [0, 1, 3, 4] rfl)
          · skip
            refine lv_iload hx hb dX7_readSum_41 (lv_at hl 0 rfl) ?_
            refine lv_bipush (v := (-13)) hx hb dX7_readSum_43 (by decide) ?_
            refine lv_icmp_ne (tgt := 69) hx hb dX7_readSum_45 (by decide) (fun c_101 => ?_) (fun c_101 => ?_)
            · skip
              refine lv_aload_n hx hb dX7_readSum_69 rfl (lv_at hl 3 rfl) ?_
              refine lv_aload_n hx hb dX7_readSum_70 rfl (lv_at hl 4 rfl) ?_
              refine cV (a := (Va 0)) (As := [.ref (Ta 0)]) (rest := []) (wr := []) ⟨hx, hb, hml, hown, hts⟩ hK hX hA (cu_X7_readValue l D tc sk (Va 0) (Va 1) vy_24 vy_25 vy_26 (Ta 0) (Ta 1) (Tv 0) sv_64 sv_65 sv_66 vy_30 (Tf 1) he_67) k_628 k_625 k_627 k_8 k_99 pl_X7_readValue ⟨Nat.le_of_ble_eq_true rfl, Nat.le_of_ble_eq_true rfl⟩ rfl rfl (va_recv hK hP (ci := 7) (q0 := 0) rfl rfl) hP hD hS [0, 1, 2, 3] [] rfl rfl rfl rfl rfl (by decide) rfl hl.1 rfl (Nat.le_of_ble_eq_true rfl) dX7_readSum_71 ⟨Nat.le_of_ble_eq_true rfl, Nat.le_of_ble_eq_true rfl⟩ (fun v_102 u_103 H locs hv_104 hP₀ hD₀ hS₀ => ?_)
              obtain ⟨sv_105, sv_106, sv_107, sv_108, sv_109, sv_110, sv_111⟩ := u_103
              obtain ⟨rfl, he_112⟩ := hv_104
              have he_112 : (0 ≤ ((Tv 0) : Int32).toInt ∧ ((Tv 0) : Int32).toInt ≤ 400 ∧ 0 ≤ (sv_108 : Int32).toInt ∧ (sv_108 : Int32).toInt ≤ 400 ∧ 0 ≤ (sv_109 : Int32).toInt ∧ (sv_109 : Int32).toInt ≤ 400) := he_112
              refine W.eq (g2 := F0 m 74 ls []) rfl ?_
              replace hP : va_P D classes [((Va 0), .inr (7, [.ref (Va 1), .int sv_105, .int sv_106])), ((Va 1), .inl (tc 0, 400, .inl sv_107)), ((Ta 0), .inr (10, [.ref (Ta 1), .int (Tv 0), .int sv_108, .int sv_109, .int sv_110, .int sv_111])), ((Ta 1), .inl (tc 0, 400, .inl (Tf 1)))] H := hP₀
              replace hD : va_D A [((Va 0), .inr (7, [.ref (Va 1), .int sv_105, .int sv_106])), ((Va 1), .inl (tc 0, 400, .inl sv_107)), ((Ta 0), .inr (10, [.ref (Ta 1), .int (Tv 0), .int sv_108, .int sv_109, .int sv_110, .int sv_111])), ((Ta 1), .inl (tc 0, 400, .inl (Tf 1)))] := hD₀
              replace hS := hS₀
              clear hP₀ hD₀ hS₀
              refine lv_aload_n hx hb dX7_readSum_74 rfl (lv_at hl 3 rfl) ?_
              refine lv_iload hx hb dX7_readSum_75 (lv_at hl 0 rfl) ?_
              refine cV (a := (Va 0)) (As := [.int r_59]) (rest := []) (wr := [((Ta 0), .inr (10, [.ref (Ta 1), .int (Tv 0), .int sv_108, .int sv_109, .int sv_110, .int sv_111])), ((Ta 1), .inl (tc 0, 400, .inl (Tf 1)))]) ⟨hx, hb, hml, hown, hts⟩ hK hX hA (cu_X7_put l D tc sk (Va 0) (Va 1) sv_105 sv_106 sv_107 r_59) k_642 k_639 k_641 k_10 k_99 pl_X7_put ⟨Nat.le_of_ble_eq_true rfl, Nat.le_of_ble_eq_true rfl⟩ rfl rfl (va_recv hK hP (ci := 7) (q0 := 0) rfl rfl) hP hD hS [0, 1] [2, 3] rfl rfl rfl rfl rfl (by decide) rfl hl.1 rfl (Nat.le_of_ble_eq_true rfl) dX7_readSum_77 ⟨Nat.le_of_ble_eq_true rfl, Nat.le_of_ble_eq_true rfl⟩ (fun v_113 u_114 H locs hv_115 hP₀ hD₀ hS₀ => ?_)
              obtain ⟨sv_116, sv_117⟩ := u_114
              obtain rfl : v_113 = none := hv_115
              refine W.eq (g2 := F0 m 80 ls []) rfl ?_
              replace hP : va_P D classes [((Ta 0), .inr (10, [.ref (Ta 1), .int (Tv 0), .int sv_108, .int sv_109, .int sv_110, .int sv_111])), ((Ta 1), .inl (tc 0, 400, .inl (Tf 1))), ((Va 0), .inr (7, [.ref (Va 1), .int sv_116, .int sv_106])), ((Va 1), .inl (tc 0, 400, .inl sv_117))] H := hP₀
              replace hD : va_D A [((Ta 0), .inr (10, [.ref (Ta 1), .int (Tv 0), .int sv_108, .int sv_109, .int sv_110, .int sv_111])), ((Ta 1), .inl (tc 0, 400, .inl (Tf 1))), ((Va 0), .inr (7, [.ref (Va 1), .int sv_116, .int sv_106])), ((Va 1), .inl (tc 0, 400, .inl sv_117))] := hD₀
              replace hS := hS₀
              clear hP₀ hD₀ hS₀
              obtain ⟨x_118, ex_118⟩ : ∃ y : Int32, y = vy_22 + 1 := ⟨_, rfl⟩
              refine lv_iinc (v := x_118) (lv' := [(3, .int x_118), (4, .int r_59), (2, .int vy_23), (0, .ref (Va 0)), (1, .ref (Ta 0))]) hx hb dX7_readSum_80 hl (k := 1) rfl (by rw [ex_118]; rfl) (by decide) rfl (fun ls hl₀ => ?_)
              replace hl := hl₀
              clear hl₀
              refine lv_goto (tgt := 9) hx hb dX7_readSum_83 (by decide) ?_
              have hb_119 : 0 ≤ (x_118 : Int32).toInt ∧ (400 - (x_118 : Int32).toInt).toNat < n_31 := by
                have z_1 := Int32.lt_iff_toInt_lt.mp (Int32.not_le.mp c_37)
                have z_2 : ¬ (r_47 : Int32).toInt = ((-1) : Int32).toInt := fun z => c_49 (Int32.toInt_inj.mp z)
                have z_3 : ¬ (r_59 : Int32).toInt = ((-12) : Int32).toInt := fun z => c_68 (Int32.toInt_inj.mp z)
                have z_4 : ¬ (r_59 : Int32).toInt = ((-13) : Int32).toInt := fun z => c_101 (Int32.toInt_inj.mp z)
                have y_m13 : (-13 : Int32).toInt = -13 := by decide
                have y_m12 : (-12 : Int32).toInt = -12 := by decide
                have y_m1 : (-1 : Int32).toInt = -1 := by decide
                have y_400 : (400 : Int32).toInt = 400 := by decide
                have y_1 : (1 : Int32).toInt = 1 := by decide
                have t_x_118 : x_118.toInt = (vy_22 : Int32).toInt + (1 : Int32).toInt := by rw [ex_118]; exact add_toInt (by omega) (by omega)
                omega
              exact ih_32 x_118 vy_23 sv_116 sv_106 sv_117 sv_108 sv_109 sv_110 sv_111 _ _ _ hb_119.1 hb_119.2 he_112 (hP.sub [2, 3, 0, 1] rfl) (hD.sub [2, 3, 0, 1] rfl rfl) hS (lv_sub hl [0, 2, 3, 4] rfl)
            · skip
              refine lv_iload_n hx hb dX7_readSum_48 rfl (lv_at hl 2 rfl) ?_
              refine lv_iconst (v := (-1)) hx hb dX7_readSum_49 (by decide) ?_
              refine lv_icmp_eq (tgt := 58) hx hb dX7_readSum_50 (by decide) (fun c_120 => ?_) (fun c_120 => ?_)
              · skip
                refine lv_iload hx hb dX7_readSum_58 (lv_at hl 0 rfl) ?_
                refine lv_istore_n (lv' := [(2, .int r_59), (4, .int r_59), (3, .int vy_22), (0, .ref (Va 0)), (1, .ref (Ta 0))]) hx hb dX7_readSum_60 rfl hl (by decide) rfl (fun ls hl₀ => ?_)
                replace hl := hl₀
                clear hl₀
                refine lv_aload_n hx hb dX7_readSum_61 rfl (lv_at hl 3 rfl) ?_
                refine lv_aload_n hx hb dX7_readSum_62 rfl (lv_at hl 4 rfl) ?_
                refine cV (a := (Va 0)) (As := [.ref (Ta 0)]) (rest := []) (wr := []) ⟨hx, hb, hml, hown, hts⟩ hK hX hA (cu_X7_readValue l D tc sk (Va 0) (Va 1) vy_24 vy_25 vy_26 (Ta 0) (Ta 1) (Tv 0) sv_64 sv_65 sv_66 vy_30 (Tf 1) he_67) k_628 k_625 k_627 k_8 k_99 pl_X7_readValue ⟨Nat.le_of_ble_eq_true rfl, Nat.le_of_ble_eq_true rfl⟩ rfl rfl (va_recv hK hP (ci := 7) (q0 := 0) rfl rfl) hP hD hS [0, 1, 2, 3] [] rfl rfl rfl rfl rfl (by decide) rfl hl.1 rfl (Nat.le_of_ble_eq_true rfl) dX7_readSum_63 ⟨Nat.le_of_ble_eq_true rfl, Nat.le_of_ble_eq_true rfl⟩ (fun v_121 u_122 H locs hv_123 hP₀ hD₀ hS₀ => ?_)
                obtain ⟨sv_124, sv_125, sv_126, sv_127, sv_128, sv_129, sv_130⟩ := u_122
                obtain ⟨rfl, he_131⟩ := hv_123
                have he_131 : (0 ≤ ((Tv 0) : Int32).toInt ∧ ((Tv 0) : Int32).toInt ≤ 400 ∧ 0 ≤ (sv_127 : Int32).toInt ∧ (sv_127 : Int32).toInt ≤ 400 ∧ 0 ≤ (sv_128 : Int32).toInt ∧ (sv_128 : Int32).toInt ≤ 400) := he_131
                refine W.eq (g2 := F0 m 66 ls []) rfl ?_
                replace hP : va_P D classes [((Va 0), .inr (7, [.ref (Va 1), .int sv_124, .int sv_125])), ((Va 1), .inl (tc 0, 400, .inl sv_126)), ((Ta 0), .inr (10, [.ref (Ta 1), .int (Tv 0), .int sv_127, .int sv_128, .int sv_129, .int sv_130])), ((Ta 1), .inl (tc 0, 400, .inl (Tf 1)))] H := hP₀
                replace hD : va_D A [((Va 0), .inr (7, [.ref (Va 1), .int sv_124, .int sv_125])), ((Va 1), .inl (tc 0, 400, .inl sv_126)), ((Ta 0), .inr (10, [.ref (Ta 1), .int (Tv 0), .int sv_127, .int sv_128, .int sv_129, .int sv_130])), ((Ta 1), .inl (tc 0, 400, .inl (Tf 1)))] := hD₀
                replace hS := hS₀
                clear hP₀ hD₀ hS₀
                refine lv_goto (tgt := 80) hx hb dX7_readSum_66 (by decide) ?_
                obtain ⟨x_132, ex_132⟩ : ∃ y : Int32, y = vy_22 + 1 := ⟨_, rfl⟩
                refine lv_iinc (v := x_132) (lv' := [(3, .int x_132), (2, .int r_59), (4, .int r_59), (0, .ref (Va 0)), (1, .ref (Ta 0))]) hx hb dX7_readSum_80 hl (k := 2) rfl (by rw [ex_132]; rfl) (by decide) rfl (fun ls hl₀ => ?_)
                replace hl := hl₀
                clear hl₀
                refine lv_goto (tgt := 9) hx hb dX7_readSum_83 (by decide) ?_
                have hb_133 : 0 ≤ (x_132 : Int32).toInt ∧ (400 - (x_132 : Int32).toInt).toNat < n_31 := by
                  have z_1 := Int32.lt_iff_toInt_lt.mp (Int32.not_le.mp c_37)
                  have z_2 : ¬ (r_47 : Int32).toInt = ((-1) : Int32).toInt := fun z => c_49 (Int32.toInt_inj.mp z)
                  have z_3 : ¬ (r_59 : Int32).toInt = ((-12) : Int32).toInt := fun z => c_68 (Int32.toInt_inj.mp z)
                  have z_4 := congrArg Int32.toInt c_101
                  have z_5 := congrArg Int32.toInt c_120
                  have y_m13 : (-13 : Int32).toInt = -13 := by decide
                  have y_m12 : (-12 : Int32).toInt = -12 := by decide
                  have y_m1 : (-1 : Int32).toInt = -1 := by decide
                  have y_400 : (400 : Int32).toInt = 400 := by decide
                  have y_1 : (1 : Int32).toInt = 1 := by decide
                  have t_x_132 : x_132.toInt = (vy_22 : Int32).toInt + (1 : Int32).toInt := by rw [ex_132]; exact add_toInt (by omega) (by omega)
                  omega
                exact ih_32 x_132 r_59 sv_124 sv_125 sv_126 sv_127 sv_128 sv_129 sv_130 _ _ _ hb_133.1 hb_133.2 he_131 (hP.sub [0, 1, 2, 3] rfl) (hD.sub [0, 1, 2, 3] rfl rfl) hS (lv_sub hl [0, 1, 3, 4] rfl)
              · skip
                refine lv_aload_n hx hb dX7_readSum_53 rfl (lv_at hl 3 rfl) ?_
                refine lv_iload_n hx hb dX7_readSum_54 rfl (lv_at hl 2 rfl) ?_
                refine cV (a := (Va 0)) (As := [.int vy_23]) (rest := []) (wr := [((Ta 0), .inr (10, [.ref (Ta 1), .int (Tv 0), .int sv_64, .int sv_65, .int sv_66, .int vy_30])), ((Ta 1), .inl (tc 0, 400, .inl (Tf 1)))]) ⟨hx, hb, hml, hown, hts⟩ hK hX hA (cu_X7_put l D tc sk (Va 0) (Va 1) vy_24 vy_25 vy_26 vy_23) k_642 k_639 k_641 k_10 k_99 pl_X7_put ⟨Nat.le_of_ble_eq_true rfl, Nat.le_of_ble_eq_true rfl⟩ rfl rfl (va_recv hK hP (ci := 7) (q0 := 0) rfl rfl) hP hD hS [0, 1] [2, 3] rfl rfl rfl rfl rfl (by decide) rfl hl.1 rfl (Nat.le_of_ble_eq_true rfl) dX7_readSum_55 ⟨Nat.le_of_ble_eq_true rfl, Nat.le_of_ble_eq_true rfl⟩ (fun v_134 u_135 H locs hv_136 hP₀ hD₀ hS₀ => ?_)
                obtain ⟨sv_137, sv_138⟩ := u_135
                obtain rfl : v_134 = none := hv_136
                refine W.eq (g2 := F0 m 58 ls []) rfl ?_
                replace hP : va_P D classes [((Ta 0), .inr (10, [.ref (Ta 1), .int (Tv 0), .int sv_64, .int sv_65, .int sv_66, .int vy_30])), ((Ta 1), .inl (tc 0, 400, .inl (Tf 1))), ((Va 0), .inr (7, [.ref (Va 1), .int sv_137, .int vy_25])), ((Va 1), .inl (tc 0, 400, .inl sv_138))] H := hP₀
                replace hD : va_D A [((Ta 0), .inr (10, [.ref (Ta 1), .int (Tv 0), .int sv_64, .int sv_65, .int sv_66, .int vy_30])), ((Ta 1), .inl (tc 0, 400, .inl (Tf 1))), ((Va 0), .inr (7, [.ref (Va 1), .int sv_137, .int vy_25])), ((Va 1), .inl (tc 0, 400, .inl sv_138))] := hD₀
                replace hS := hS₀
                clear hP₀ hD₀ hS₀
                refine lv_iload hx hb dX7_readSum_58 (lv_at hl 0 rfl) ?_
                refine lv_istore_n (lv' := [(2, .int r_59), (4, .int r_59), (3, .int vy_22), (0, .ref (Va 0)), (1, .ref (Ta 0))]) hx hb dX7_readSum_60 rfl hl (by decide) rfl (fun ls hl₀ => ?_)
                replace hl := hl₀
                clear hl₀
                refine lv_aload_n hx hb dX7_readSum_61 rfl (lv_at hl 3 rfl) ?_
                refine lv_aload_n hx hb dX7_readSum_62 rfl (lv_at hl 4 rfl) ?_
                refine cV (a := (Va 0)) (As := [.ref (Ta 0)]) (rest := []) (wr := []) ⟨hx, hb, hml, hown, hts⟩ hK hX hA (cu_X7_readValue l D tc sk (Va 0) (Va 1) sv_137 vy_25 sv_138 (Ta 0) (Ta 1) (Tv 0) sv_64 sv_65 sv_66 vy_30 (Tf 1) he_67) k_628 k_625 k_627 k_8 k_99 pl_X7_readValue ⟨Nat.le_of_ble_eq_true rfl, Nat.le_of_ble_eq_true rfl⟩ rfl rfl (va_recv hK hP (ci := 7) (q0 := 2) rfl rfl) hP hD hS [2, 3, 0, 1] [] rfl rfl rfl rfl rfl (by decide) rfl hl.1 rfl (Nat.le_of_ble_eq_true rfl) dX7_readSum_63 ⟨Nat.le_of_ble_eq_true rfl, Nat.le_of_ble_eq_true rfl⟩ (fun v_139 u_140 H locs hv_141 hP₀ hD₀ hS₀ => ?_)
                obtain ⟨sv_142, sv_143, sv_144, sv_145, sv_146, sv_147, sv_148⟩ := u_140
                obtain ⟨rfl, he_149⟩ := hv_141
                have he_149 : (0 ≤ ((Tv 0) : Int32).toInt ∧ ((Tv 0) : Int32).toInt ≤ 400 ∧ 0 ≤ (sv_145 : Int32).toInt ∧ (sv_145 : Int32).toInt ≤ 400 ∧ 0 ≤ (sv_146 : Int32).toInt ∧ (sv_146 : Int32).toInt ≤ 400) := he_149
                refine W.eq (g2 := F0 m 66 ls []) rfl ?_
                replace hP : va_P D classes [((Va 0), .inr (7, [.ref (Va 1), .int sv_142, .int sv_143])), ((Va 1), .inl (tc 0, 400, .inl sv_144)), ((Ta 0), .inr (10, [.ref (Ta 1), .int (Tv 0), .int sv_145, .int sv_146, .int sv_147, .int sv_148])), ((Ta 1), .inl (tc 0, 400, .inl (Tf 1)))] H := hP₀
                replace hD : va_D A [((Va 0), .inr (7, [.ref (Va 1), .int sv_142, .int sv_143])), ((Va 1), .inl (tc 0, 400, .inl sv_144)), ((Ta 0), .inr (10, [.ref (Ta 1), .int (Tv 0), .int sv_145, .int sv_146, .int sv_147, .int sv_148])), ((Ta 1), .inl (tc 0, 400, .inl (Tf 1)))] := hD₀
                replace hS := hS₀
                clear hP₀ hD₀ hS₀
                refine lv_goto (tgt := 80) hx hb dX7_readSum_66 (by decide) ?_
                obtain ⟨x_150, ex_150⟩ : ∃ y : Int32, y = vy_22 + 1 := ⟨_, rfl⟩
                refine lv_iinc (v := x_150) (lv' := [(3, .int x_150), (2, .int r_59), (4, .int r_59), (0, .ref (Va 0)), (1, .ref (Ta 0))]) hx hb dX7_readSum_80 hl (k := 2) rfl (by rw [ex_150]; rfl) (by decide) rfl (fun ls hl₀ => ?_)
                replace hl := hl₀
                clear hl₀
                refine lv_goto (tgt := 9) hx hb dX7_readSum_83 (by decide) ?_
                have hb_151 : 0 ≤ (x_150 : Int32).toInt ∧ (400 - (x_150 : Int32).toInt).toNat < n_31 := by
                  have z_1 := Int32.lt_iff_toInt_lt.mp (Int32.not_le.mp c_37)
                  have z_2 : ¬ (r_47 : Int32).toInt = ((-1) : Int32).toInt := fun z => c_49 (Int32.toInt_inj.mp z)
                  have z_3 : ¬ (r_59 : Int32).toInt = ((-12) : Int32).toInt := fun z => c_68 (Int32.toInt_inj.mp z)
                  have z_4 := congrArg Int32.toInt c_101
                  have z_5 : ¬ (vy_23 : Int32).toInt = ((-1) : Int32).toInt := fun z => c_120 (Int32.toInt_inj.mp z)
                  have y_m13 : (-13 : Int32).toInt = -13 := by decide
                  have y_m12 : (-12 : Int32).toInt = -12 := by decide
                  have y_m1 : (-1 : Int32).toInt = -1 := by decide
                  have y_400 : (400 : Int32).toInt = 400 := by decide
                  have y_1 : (1 : Int32).toInt = 1 := by decide
                  have t_x_150 : x_150.toInt = (vy_22 : Int32).toInt + (1 : Int32).toInt := by rw [ex_150]; exact add_toInt (by omega) (by omega)
                  omega
                exact ih_32 x_150 r_59 sv_142 sv_143 sv_144 sv_145 sv_146 sv_147 sv_148 _ _ _ hb_151.1 hb_151.2 he_149 (hP.sub [0, 1, 2, 3] rfl) (hD.sub [0, 1, 2, 3] rfl rfl) hS (lv_sub hl [0, 1, 3, 4] rfl)
  have h0_152 : 0 ≤ (0 : Int32).toInt := by
    have y_0 : (0 : Int32).toInt = 0 := by decide
    decide
  exact loop_33 _ 0 (-1) sv_4 sv_5 sv_6 sv_7 sv_8 sv_9 sv_10 _ _ _ h0_152 (Nat.lt_succ_self _) he_11 hP hD hS hl
set_option maxRecDepth 100000 in
theorem cu_X7_readSum (l : Launch) (D : va_G) (tc : Nat → ClassId) (sk : (Nat → Nat) × (Nat → Nat)) (Va_0 : Nat) (Va_1 : Nat) (Vv_0 : Int32) (Vv_1 : Int32) (Vf_1 : Nat → Int32) (Ta_0 : Nat) (Ta_1 : Nat) (Tv_0 : Int32) (Tv_1 : Int32) (Tv_2 : Int32) (Tv_3 : Int32) (Tv_4 : Int32) (Tf_1 : Nat → Int32) (h_tape : 0 ≤ (Tv_0 : Int32).toInt ∧ (Tv_0 : Int32).toInt ≤ 400 ∧ 0 ≤ (Tv_1 : Int32).toInt ∧ (Tv_1 : Int32).toInt ≤ 400 ∧ 0 ≤ (Tv_2 : Int32).toInt ∧ (Tv_2 : Int32).toInt ≤ 400) : Ct l yX7_readSum cX7_readSum 5 none { frames := 7, cells := 0, slots := 0, locals := 156 } D tc sk [.ref Va_0, .ref Ta_0] [(Va_0, .inr (7, [.ref Va_1, .int Vv_0, .int Vv_1])), (Va_1, .inl (tc 0, 400, .inl Vf_1)), (Ta_0, .inr (10, [.ref Ta_1, .int Tv_0, .int Tv_1, .int Tv_2, .int Tv_3, .int Tv_4])), (Ta_1, .inl (tc 0, 400, .inl Tf_1))] (fun (v : Option Value) (u : (Int32) × (Int32) × (Nat → Int32) × (Int32) × (Int32) × (Int32) × (Int32)) => match u with | (o1, o2, o3, o4, o5, o6, o7) => v = none ∧ (0 ≤ (Tv_0 : Int32).toInt ∧ (Tv_0 : Int32).toInt ≤ 400 ∧ 0 ≤ (o4 : Int32).toInt ∧ (o4 : Int32).toInt ≤ 400 ∧ 0 ≤ (o5 : Int32).toInt ∧ (o5 : Int32).toInt ≤ 400)) (fun (u : (Int32) × (Int32) × (Nat → Int32) × (Int32) × (Int32) × (Int32) × (Int32)) => match u with | (o1, o2, o3, o4, o5, o6, o7) => [(Va_0, .inr (7, [.ref Va_1, .int o1, .int o2])), (Va_1, .inl (tc 0, 400, .inl o3)), (Ta_0, .inr (10, [.ref Ta_1, .int Tv_0, .int o4, .int o5, .int o6, .int o7])), (Ta_1, .inl (tc 0, 400, .inl Tf_1))]) 0 0 :=
  ct_X7_readSum l D tc sk (fun k => ([Va_0, Va_1] : List (Nat)).getD k 0) (fun k => ([Vv_0, Vv_1] : List (Int32)).getD k 0) (fun k => ([(fun _ => 0), Vf_1] : List (Nat → Int32)).getD k (fun _ => 0)) (fun k => ([Ta_0, Ta_1] : List (Nat)).getD k 0) (fun k => ([Tv_0, Tv_1, Tv_2, Tv_3, Tv_4] : List (Int32)).getD k 0) (fun k => ([(fun _ => 0), Tf_1] : List (Nat → Int32)).getD k (fun _ => 0)) h_tape
