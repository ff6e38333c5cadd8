theorem k_673 : Cond.sameMethod "[I" "java/lang/Object" "clone" "()Ljava/lang/Object;" ∈ gT := gm 673 (by decide +kernel) (by decide +kernel)
theorem cl400 {x : Int32} (h : 0 ≤ x.toInt ∧ x.toInt ≤ 400) : x.toNatClampNeg ≤ 400 := by
  show x.toInt.toNat ≤ 400
  omega
theorem cpB {n x : Int32} (h : n.toInt ≤ x.toInt) : (0 : Int32).toNatClampNeg + n.toNatClampNeg ≤ x.toNatClampNeg := by
  show (0 : Int32).toInt.toNat + n.toInt.toNat ≤ x.toInt.toNat
  have : (0 : Int32).toInt = 0 := by decide
  omega
theorem cp4 {n : Int32} (h : n.toInt ≤ 400) : (0 : Int32).toNatClampNeg + n.toNatClampNeg ≤ 400 := by
  show (0 : Int32).toInt.toNat + n.toInt.toNat ≤ 400
  have : (0 : Int32).toInt = 0 := by decide
  omega
theorem nneg {n : Int32} (h : 0 ≤ n.toInt) : ¬ n < 0 := fun z => by
  have := Int32.lt_iff_toInt_lt.mp z
  have : (0 : Int32).toInt = 0 := by decide
  omega
theorem rem_emod {x y : Int32} (h : 0 ≤ x.toInt) : (x - x / y * y).toInt = x.toInt % y.toInt := by
  rw [rem_toInt]
  exact Int.tmod_eq_emod_of_nonneg h
theorem dJ7_copyOf_59c91_0 : decode cJ7_copyOf_59c91 0 = .ok (.iload_n 1, 1) := by decide +kernel
theorem dJ7_copyOf_59c91_1 : decode cJ7_copyOf_59c91 1 = .ok (.aload_n 0, 1) := by decide +kernel
theorem dJ7_copyOf_59c91_2 : decode cJ7_copyOf_59c91 2 = .ok (.arraylength, 1) := by decide +kernel
theorem dJ7_copyOf_59c91_3 : decode cJ7_copyOf_59c91 3 = .ok (.if_icmp .ne 11, 3) := by decide +kernel
theorem dJ7_copyOf_59c91_6 : decode cJ7_copyOf_59c91 6 = .ok (.aload_n 0, 1) := by decide +kernel
theorem dJ7_copyOf_59c91_7 : decode cJ7_copyOf_59c91 7 = .ok (.invokevirtual 316, 3) := by decide +kernel
theorem dJ7_copyOf_59c91_10 : decode cJ7_copyOf_59c91 10 = .ok (.checkcast 317, 3) := by decide +kernel
theorem dJ7_copyOf_59c91_13 : decode cJ7_copyOf_59c91 13 = .ok (.areturn, 1) := by decide +kernel
theorem dJ7_copyOf_59c91_14 : decode cJ7_copyOf_59c91 14 = .ok (.iload_n 1, 1) := by decide +kernel
theorem dJ7_copyOf_59c91_15 : decode cJ7_copyOf_59c91 15 = .ok (.newarray .int, 2) := by decide +kernel
theorem dJ7_copyOf_59c91_17 : decode cJ7_copyOf_59c91 17 = .ok (.astore_n 2, 1) := by decide +kernel
theorem dJ7_copyOf_59c91_18 : decode cJ7_copyOf_59c91 18 = .ok (.aload_n 0, 1) := by decide +kernel
theorem dJ7_copyOf_59c91_19 : decode cJ7_copyOf_59c91 19 = .ok (.iconst 0, 1) := by decide +kernel
theorem dJ7_copyOf_59c91_20 : decode cJ7_copyOf_59c91 20 = .ok (.aload_n 2, 1) := by decide +kernel
theorem dJ7_copyOf_59c91_21 : decode cJ7_copyOf_59c91 21 = .ok (.iconst 0, 1) := by decide +kernel
theorem dJ7_copyOf_59c91_22 : decode cJ7_copyOf_59c91 22 = .ok (.aload_n 0, 1) := by decide +kernel
theorem dJ7_copyOf_59c91_23 : decode cJ7_copyOf_59c91 23 = .ok (.arraylength, 1) := by decide +kernel
theorem dJ7_copyOf_59c91_24 : decode cJ7_copyOf_59c91 24 = .ok (.iload_n 1, 1) := by decide +kernel
theorem dJ7_copyOf_59c91_25 : decode cJ7_copyOf_59c91 25 = .ok (.invokestatic 304, 3) := by decide +kernel
theorem dJ7_copyOf_59c91_28 : decode cJ7_copyOf_59c91 28 = .ok (.invokestatic 150, 3) := by decide +kernel
theorem dJ7_copyOf_59c91_31 : decode cJ7_copyOf_59c91 31 = .ok (.aload_n 2, 1) := by decide +kernel
theorem dJ7_copyOf_59c91_32 : decode cJ7_copyOf_59c91 32 = .ok (.areturn, 1) := by decide +kernel
theorem dX0_init_0 : decode cX0_init 0 = .ok (.aload_n 0, 1) := by decide +kernel
theorem dX0_init_1 : decode cX0_init 1 = .ok (.invokespecial 3, 3) := by decide +kernel
theorem dX0_init_4 : decode cX0_init 4 = .ok (.aload_n 0, 1) := by decide +kernel
theorem dX0_init_5 : decode cX0_init 5 = .ok (.new 9, 3) := by decide +kernel
theorem dX0_init_8 : decode cX0_init 8 = .ok (.dup, 1) := by decide +kernel
theorem dX0_init_9 : decode cX0_init 9 = .ok (.invokespecial 11, 3) := by decide +kernel
theorem dX0_init_12 : decode cX0_init 12 = .ok (.putfield 12, 3) := by decide +kernel
theorem dX0_init_15 : decode cX0_init 15 = .ok (.return_, 1) := by decide +kernel
theorem dX10_init_0 : decode cX10_init 0 = .ok (.aload_n 0, 1) := by decide +kernel
theorem dX10_init_1 : decode cX10_init 1 = .ok (.invokespecial 3, 3) := by decide +kernel
theorem dX10_init_4 : decode cX10_init 4 = .ok (.aload_n 0, 1) := by decide +kernel
theorem dX10_init_5 : decode cX10_init 5 = .ok (.sipush 400, 3) := by decide +kernel
theorem dX10_init_8 : decode cX10_init 8 = .ok (.newarray .int, 2) := by decide +kernel
theorem dX10_init_10 : decode cX10_init 10 = .ok (.putfield 9, 3) := by decide +kernel
theorem dX10_init_13 : decode cX10_init 13 = .ok (.aload_n 0, 1) := by decide +kernel
theorem dX10_init_14 : decode cX10_init 14 = .ok (.iconst 0, 1) := by decide +kernel
theorem dX10_init_15 : decode cX10_init 15 = .ok (.putfield 15, 3) := by decide +kernel
theorem dX10_init_18 : decode cX10_init 18 = .ok (.aload_n 0, 1) := by decide +kernel
theorem dX10_init_19 : decode cX10_init 19 = .ok (.iconst 0, 1) := by decide +kernel
theorem dX10_init_20 : decode cX10_init 20 = .ok (.putfield 19, 3) := by decide +kernel
theorem dX10_init_23 : decode cX10_init 23 = .ok (.aload_n 0, 1) := by decide +kernel
theorem dX10_init_24 : decode cX10_init 24 = .ok (.iconst 0, 1) := by decide +kernel
theorem dX10_init_25 : decode cX10_init 25 = .ok (.putfield 22, 3) := by decide +kernel
theorem dX10_init_28 : decode cX10_init 28 = .ok (.aload_n 0, 1) := by decide +kernel
theorem dX10_init_29 : decode cX10_init 29 = .ok (.iconst (-1), 1) := by decide +kernel
theorem dX10_init_30 : decode cX10_init 30 = .ok (.putfield 25, 3) := by decide +kernel
theorem dX10_init_33 : decode cX10_init 33 = .ok (.aload_n 0, 1) := by decide +kernel
theorem dX10_init_34 : decode cX10_init 34 = .ok (.iconst 0, 1) := by decide +kernel
theorem dX10_init_35 : decode cX10_init 35 = .ok (.putfield 28, 3) := by decide +kernel
theorem dX10_init_38 : decode cX10_init 38 = .ok (.return_, 1) := by decide +kernel
theorem dX1_init_0 : decode cX1_init 0 = .ok (.aload_n 0, 1) := by decide +kernel
theorem dX1_init_1 : decode cX1_init 1 = .ok (.invokespecial 3, 3) := by decide +kernel
theorem dX1_init_4 : decode cX1_init 4 = .ok (.aload_n 0, 1) := by decide +kernel
theorem dX1_init_5 : decode cX1_init 5 = .ok (.new 9, 3) := by decide +kernel
theorem dX1_init_8 : decode cX1_init 8 = .ok (.dup, 1) := by decide +kernel
theorem dX1_init_9 : decode cX1_init 9 = .ok (.invokespecial 11, 3) := by decide +kernel
theorem dX1_init_12 : decode cX1_init 12 = .ok (.putfield 12, 3) := by decide +kernel
theorem dX1_init_15 : decode cX1_init 15 = .ok (.aload_n 0, 1) := by decide +kernel
theorem dX1_init_16 : decode cX1_init 16 = .ok (.bipush 25, 2) := by decide +kernel
theorem dX1_init_18 : decode cX1_init 18 = .ok (.newarray .int, 2) := by decide +kernel
theorem dX1_init_20 : decode cX1_init 20 = .ok (.putfield 18, 3) := by decide +kernel
theorem dX1_init_23 : decode cX1_init 23 = .ok (.aload_n 0, 1) := by decide +kernel
theorem dX1_init_24 : decode cX1_init 24 = .ok (.bipush 25, 2) := by decide +kernel
theorem dX1_init_26 : decode cX1_init 26 = .ok (.newarray .int, 2) := by decide +kernel
theorem dX1_init_28 : decode cX1_init 28 = .ok (.putfield 22, 3) := by decide +kernel
theorem dX1_init_31 : decode cX1_init 31 = .ok (.return_, 1) := by decide +kernel
theorem dX2_init_0 : decode cX2_init 0 = .ok (.aload_n 0, 1) := by decide +kernel
theorem dX2_init_1 : decode cX2_init 1 = .ok (.invokespecial 5, 3) := by decide +kernel
theorem dX2_init_4 : decode cX2_init 4 = .ok (.aload_n 0, 1) := by decide +kernel
theorem dX2_init_5 : decode cX2_init 5 = .ok (.new 11, 3) := by decide +kernel
theorem dX2_init_8 : decode cX2_init 8 = .ok (.dup, 1) := by decide +kernel
theorem dX2_init_9 : decode cX2_init 9 = .ok (.invokespecial 13, 3) := by decide +kernel
theorem dX2_init_12 : decode cX2_init 12 = .ok (.putfield 14, 3) := by decide +kernel
theorem dX2_init_15 : decode cX2_init 15 = .ok (.aload_n 0, 1) := by decide +kernel
theorem dX2_init_16 : decode cX2_init 16 = .ok (.sipush 427, 3) := by decide +kernel
theorem dX2_init_19 : decode cX2_init 19 = .ok (.newarray .int, 2) := by decide +kernel
theorem dX2_init_21 : decode cX2_init 21 = .ok (.putfield 18, 3) := by decide +kernel
theorem dX2_init_24 : decode cX2_init 24 = .ok (.aload_n 0, 1) := by decide +kernel
theorem dX2_init_25 : decode cX2_init 25 = .ok (.bipush 7, 2) := by decide +kernel
theorem dX2_init_27 : decode cX2_init 27 = .ok (.newarray .boolean, 2) := by decide +kernel
theorem dX2_init_29 : decode cX2_init 29 = .ok (.putfield 22, 3) := by decide +kernel
theorem dX2_init_32 : decode cX2_init 32 = .ok (.aload_n 0, 1) := by decide +kernel
theorem dX2_init_33 : decode cX2_init 33 = .ok (.iconst 0, 1) := by decide +kernel
theorem dX2_init_34 : decode cX2_init 34 = .ok (.putfield 26, 3) := by decide +kernel
theorem dX2_init_37 : decode cX2_init 37 = .ok (.return_, 1) := by decide +kernel
theorem dX3_init_0 : decode cX3_init 0 = .ok (.aload_n 0, 1) := by decide +kernel
theorem dX3_init_1 : decode cX3_init 1 = .ok (.invokespecial 1, 3) := by decide +kernel
theorem dX3_init_4 : decode cX3_init 4 = .ok (.aload_n 0, 1) := by decide +kernel
theorem dX3_init_5 : decode cX3_init 5 = .ok (.bipush 10, 2) := by decide +kernel
theorem dX3_init_7 : decode cX3_init 7 = .ok (.newarray .int, 2) := by decide +kernel
theorem dX3_init_9 : decode cX3_init 9 = .ok (.putfield 9, 3) := by decide +kernel
theorem dX3_init_12 : decode cX3_init 12 = .ok (.aload_n 0, 1) := by decide +kernel
theorem dX3_init_13 : decode cX3_init 13 = .ok (.bipush 10, 2) := by decide +kernel
theorem dX3_init_15 : decode cX3_init 15 = .ok (.newarray .int, 2) := by decide +kernel
theorem dX3_init_17 : decode cX3_init 17 = .ok (.putfield 13, 3) := by decide +kernel
theorem dX3_init_20 : decode cX3_init 20 = .ok (.aload_n 0, 1) := by decide +kernel
theorem dX3_init_21 : decode cX3_init 21 = .ok (.bipush 10, 2) := by decide +kernel
theorem dX3_init_23 : decode cX3_init 23 = .ok (.newarray .int, 2) := by decide +kernel
theorem dX3_init_25 : decode cX3_init 25 = .ok (.putfield 16, 3) := by decide +kernel
theorem dX3_init_28 : decode cX3_init 28 = .ok (.aload_n 0, 1) := by decide +kernel
theorem dX3_init_29 : decode cX3_init 29 = .ok (.iconst 0, 1) := by decide +kernel
theorem dX3_init_30 : decode cX3_init 30 = .ok (.putfield 19, 3) := by decide +kernel
theorem dX3_init_33 : decode cX3_init 33 = .ok (.return_, 1) := by decide +kernel
theorem dX4_init_0 : decode cX4_init 0 = .ok (.aload_n 0, 1) := by decide +kernel
theorem dX4_init_1 : decode cX4_init 1 = .ok (.invokespecial 3, 3) := by decide +kernel
theorem dX4_init_4 : decode cX4_init 4 = .ok (.aload_n 0, 1) := by decide +kernel
theorem dX4_init_5 : decode cX4_init 5 = .ok (.new 9, 3) := by decide +kernel
theorem dX4_init_8 : decode cX4_init 8 = .ok (.dup, 1) := by decide +kernel
theorem dX4_init_9 : decode cX4_init 9 = .ok (.invokespecial 11, 3) := by decide +kernel
theorem dX4_init_12 : decode cX4_init 12 = .ok (.putfield 12, 3) := by decide +kernel
theorem dX4_init_15 : decode cX4_init 15 = .ok (.aload_n 0, 1) := by decide +kernel
theorem dX4_init_16 : decode cX4_init 16 = .ok (.bipush 61, 2) := by decide +kernel
theorem dX4_init_18 : decode cX4_init 18 = .ok (.newarray .long, 2) := by decide +kernel
theorem dX4_init_20 : decode cX4_init 20 = .ok (.putfield 18, 3) := by decide +kernel
theorem dX4_init_23 : decode cX4_init 23 = .ok (.aload_n 0, 1) := by decide +kernel
theorem dX4_init_24 : decode cX4_init 24 = .ok (.lconst 0, 1) := by decide +kernel
theorem dX4_init_25 : decode cX4_init 25 = .ok (.putfield 22, 3) := by decide +kernel
theorem dX4_init_28 : decode cX4_init 28 = .ok (.return_, 1) := by decide +kernel
theorem dX5_giveBack_0 : decode cX5_giveBack 0 = .ok (.aload_n 0, 1) := by decide +kernel
theorem dX5_giveBack_1 : decode cX5_giveBack 1 = .ok (.getfield 17, 3) := by decide +kernel
theorem dX5_giveBack_4 : decode cX5_giveBack 4 = .ok (.bipush 20, 2) := by decide +kernel
theorem dX5_giveBack_6 : decode cX5_giveBack 6 = .ok (.iadd, 1) := by decide +kernel
theorem dX5_giveBack_7 : decode cX5_giveBack 7 = .ok (.iconst 1, 1) := by decide +kernel
theorem dX5_giveBack_8 : decode cX5_giveBack 8 = .ok (.isub, 1) := by decide +kernel
theorem dX5_giveBack_9 : decode cX5_giveBack 9 = .ok (.bipush 20, 2) := by decide +kernel
theorem dX5_giveBack_11 : decode cX5_giveBack 11 = .ok (.irem, 1) := by decide +kernel
theorem dX5_giveBack_12 : decode cX5_giveBack 12 = .ok (.istore_n 2, 1) := by decide +kernel
theorem dX5_giveBack_13 : decode cX5_giveBack 13 = .ok (.aload_n 0, 1) := by decide +kernel
theorem dX5_giveBack_14 : decode cX5_giveBack 14 = .ok (.getfield 21, 3) := by decide +kernel
theorem dX5_giveBack_17 : decode cX5_giveBack 17 = .ok (.ifCond .le 7, 3) := by decide +kernel
theorem dX5_giveBack_20 : decode cX5_giveBack 20 = .ok (.iload_n 2, 1) := by decide +kernel
theorem dX5_giveBack_21 : decode cX5_giveBack 21 = .ok (.ifCond .ge 5, 3) := by decide +kernel
theorem dX5_giveBack_24 : decode cX5_giveBack 24 = .ok (.iconst (-1), 1) := by decide +kernel
theorem dX5_giveBack_25 : decode cX5_giveBack 25 = .ok (.ireturn, 1) := by decide +kernel
theorem dX5_giveBack_26 : decode cX5_giveBack 26 = .ok (.aload_n 0, 1) := by decide +kernel
theorem dX5_giveBack_27 : decode cX5_giveBack 27 = .ok (.getfield 13, 3) := by decide +kernel
theorem dX5_giveBack_30 : decode cX5_giveBack 30 = .ok (.iload_n 2, 1) := by decide +kernel
theorem dX5_giveBack_31 : decode cX5_giveBack 31 = .ok (.aaload, 1) := by decide +kernel
theorem dX5_giveBack_32 : decode cX5_giveBack 32 = .ok (.astore_n 3, 1) := by decide +kernel
theorem dX5_giveBack_33 : decode cX5_giveBack 33 = .ok (.aload_n 3, 1) := by decide +kernel
theorem dX5_giveBack_34 : decode cX5_giveBack 34 = .ok (.ifnonnull 5, 3) := by decide +kernel
theorem dX5_giveBack_37 : decode cX5_giveBack 37 = .ok (.iconst (-1), 1) := by decide +kernel
theorem dX5_giveBack_38 : decode cX5_giveBack 38 = .ok (.ireturn, 1) := by decide +kernel
theorem dX5_giveBack_39 : decode cX5_giveBack 39 = .ok (.aload_n 1, 1) := by decide +kernel
theorem dX5_giveBack_40 : decode cX5_giveBack 40 = .ok (.aload_n 3, 1) := by decide +kernel
theorem dX5_giveBack_41 : decode cX5_giveBack 41 = .ok (.invokevirtual 25, 3) := by decide +kernel
theorem dX5_giveBack_44 : decode cX5_giveBack 44 = .ok (.aload_n 0, 1) := by decide +kernel
theorem dX5_giveBack_45 : decode cX5_giveBack 45 = .ok (.iload_n 2, 1) := by decide +kernel
theorem dX5_giveBack_46 : decode cX5_giveBack 46 = .ok (.putfield 17, 3) := by decide +kernel
theorem dX5_giveBack_49 : decode cX5_giveBack 49 = .ok (.aload_n 0, 1) := by decide +kernel
theorem dX5_giveBack_50 : decode cX5_giveBack 50 = .ok (.dup, 1) := by decide +kernel
theorem dX5_giveBack_51 : decode cX5_giveBack 51 = .ok (.getfield 21, 3) := by decide +kernel
theorem dX5_giveBack_54 : decode cX5_giveBack 54 = .ok (.iconst 1, 1) := by decide +kernel
theorem dX5_giveBack_55 : decode cX5_giveBack 55 = .ok (.isub, 1) := by decide +kernel
theorem dX5_giveBack_56 : decode cX5_giveBack 56 = .ok (.putfield 21, 3) := by decide +kernel
theorem dX5_giveBack_59 : decode cX5_giveBack 59 = .ok (.aload_n 0, 1) := by decide +kernel
theorem dX5_giveBack_60 : decode cX5_giveBack 60 = .ok (.getfield 21, 3) := by decide +kernel
theorem dX5_giveBack_63 : decode cX5_giveBack 63 = .ok (.ireturn, 1) := by decide +kernel
theorem dX5_init_0 : decode cX5_init 0 = .ok (.aload_n 0, 1) := by decide +kernel
theorem dX5_init_1 : decode cX5_init 1 = .ok (.invokespecial 3, 3) := by decide +kernel
theorem dX5_init_4 : decode cX5_init 4 = .ok (.aload_n 0, 1) := by decide +kernel
theorem dX5_init_5 : decode cX5_init 5 = .ok (.bipush 20, 2) := by decide +kernel
theorem dX5_init_7 : decode cX5_init 7 = .ok (.anewarray 11, 3) := by decide +kernel
theorem dX5_init_10 : decode cX5_init 10 = .ok (.putfield 13, 3) := by decide +kernel
theorem dX5_init_13 : decode cX5_init 13 = .ok (.aload_n 0, 1) := by decide +kernel
theorem dX5_init_14 : decode cX5_init 14 = .ok (.iconst 0, 1) := by decide +kernel
theorem dX5_init_15 : decode cX5_init 15 = .ok (.putfield 17, 3) := by decide +kernel
theorem dX5_init_18 : decode cX5_init 18 = .ok (.aload_n 0, 1) := by decide +kernel
theorem dX5_init_19 : decode cX5_init 19 = .ok (.iconst 0, 1) := by decide +kernel
theorem dX5_init_20 : decode cX5_init 20 = .ok (.putfield 21, 3) := by decide +kernel
theorem dX5_init_23 : decode cX5_init 23 = .ok (.return_, 1) := by decide +kernel
theorem dX5_keep_0 : decode cX5_keep 0 = .ok (.aload_n 0, 1) := by decide +kernel
theorem dX5_keep_1 : decode cX5_keep 1 = .ok (.getfield 17, 3) := by decide +kernel
theorem dX5_keep_4 : decode cX5_keep 4 = .ok (.ifCond .lt 12, 3) := by decide +kernel
theorem dX5_keep_7 : decode cX5_keep 7 = .ok (.aload_n 0, 1) := by decide +kernel
theorem dX5_keep_8 : decode cX5_keep 8 = .ok (.getfield 17, 3) := by decide +kernel
theorem dX5_keep_11 : decode cX5_keep 11 = .ok (.bipush 20, 2) := by decide +kernel
theorem dX5_keep_13 : decode cX5_keep 13 = .ok (.if_icmp .lt 4, 3) := by decide +kernel
theorem dX5_keep_16 : decode cX5_keep 16 = .ok (.return_, 1) := by decide +kernel
theorem dX5_keep_17 : decode cX5_keep 17 = .ok (.aload_n 0, 1) := by decide +kernel
theorem dX5_keep_18 : decode cX5_keep 18 = .ok (.getfield 13, 3) := by decide +kernel
theorem dX5_keep_21 : decode cX5_keep 21 = .ok (.aload_n 0, 1) := by decide +kernel
theorem dX5_keep_22 : decode cX5_keep 22 = .ok (.getfield 17, 3) := by decide +kernel
theorem dX5_keep_25 : decode cX5_keep 25 = .ok (.aaload, 1) := by decide +kernel
theorem dX5_keep_26 : decode cX5_keep 26 = .ok (.astore_n 2, 1) := by decide +kernel
theorem dX5_keep_27 : decode cX5_keep 27 = .ok (.aload_n 2, 1) := by decide +kernel
theorem dX5_keep_28 : decode cX5_keep 28 = .ok (.ifnonnull 21, 3) := by decide +kernel
theorem dX5_keep_31 : decode cX5_keep 31 = .ok (.new 11, 3) := by decide +kernel
theorem dX5_keep_34 : decode cX5_keep 34 = .ok (.dup, 1) := by decide +kernel
theorem dX5_keep_35 : decode cX5_keep 35 = .ok (.invokespecial 24, 3) := by decide +kernel
theorem dX5_keep_38 : decode cX5_keep 38 = .ok (.astore_n 2, 1) := by decide +kernel
theorem dX5_keep_39 : decode cX5_keep 39 = .ok (.aload_n 0, 1) := by decide +kernel
theorem dX5_keep_40 : decode cX5_keep 40 = .ok (.getfield 13, 3) := by decide +kernel
theorem dX5_keep_43 : decode cX5_keep 43 = .ok (.aload_n 0, 1) := by decide +kernel
theorem dX5_keep_44 : decode cX5_keep 44 = .ok (.getfield 17, 3) := by decide +kernel
theorem dX5_keep_47 : decode cX5_keep 47 = .ok (.aload_n 2, 1) := by decide +kernel
theorem dX5_keep_48 : decode cX5_keep 48 = .ok (.aastore, 1) := by decide +kernel
theorem dX5_keep_49 : decode cX5_keep 49 = .ok (.aload_n 2, 1) := by decide +kernel
theorem dX5_keep_50 : decode cX5_keep 50 = .ok (.aload_n 1, 1) := by decide +kernel
theorem dX5_keep_51 : decode cX5_keep 51 = .ok (.invokevirtual 25, 3) := by decide +kernel
theorem dX5_keep_54 : decode cX5_keep 54 = .ok (.aload_n 0, 1) := by decide +kernel
theorem dX5_keep_55 : decode cX5_keep 55 = .ok (.aload_n 0, 1) := by decide +kernel
theorem dX5_keep_56 : decode cX5_keep 56 = .ok (.getfield 17, 3) := by decide +kernel
theorem dX5_keep_59 : decode cX5_keep 59 = .ok (.iconst 1, 1) := by decide +kernel
theorem dX5_keep_60 : decode cX5_keep 60 = .ok (.iadd, 1) := by decide +kernel
theorem dX5_keep_61 : decode cX5_keep 61 = .ok (.bipush 20, 2) := by decide +kernel
theorem dX5_keep_63 : decode cX5_keep 63 = .ok (.irem, 1) := by decide +kernel
theorem dX5_keep_64 : decode cX5_keep 64 = .ok (.putfield 17, 3) := by decide +kernel
theorem dX5_keep_67 : decode cX5_keep 67 = .ok (.aload_n 0, 1) := by decide +kernel
theorem dX5_keep_68 : decode cX5_keep 68 = .ok (.bipush 20, 2) := by decide +kernel
theorem dX5_keep_70 : decode cX5_keep 70 = .ok (.aload_n 0, 1) := by decide +kernel
theorem dX5_keep_71 : decode cX5_keep 71 = .ok (.getfield 21, 3) := by decide +kernel
theorem dX5_keep_74 : decode cX5_keep 74 = .ok (.iconst 1, 1) := by decide +kernel
theorem dX5_keep_75 : decode cX5_keep 75 = .ok (.iadd, 1) := by decide +kernel
theorem dX5_keep_76 : decode cX5_keep 76 = .ok (.invokestatic 29, 3) := by decide +kernel
theorem dX5_keep_79 : decode cX5_keep 79 = .ok (.putfield 21, 3) := by decide +kernel
theorem dX5_keep_82 : decode cX5_keep 82 = .ok (.return_, 1) := by decide +kernel
theorem dX6_init_0 : decode cX6_init 0 = .ok (.aload_n 0, 1) := by decide +kernel
theorem dX6_init_1 : decode cX6_init 1 = .ok (.invokespecial 1, 3) := by decide +kernel
theorem dX6_init_4 : decode cX6_init 4 = .ok (.aload_n 0, 1) := by decide +kernel
theorem dX6_init_5 : decode cX6_init 5 = .ok (.bipush 64, 2) := by decide +kernel
theorem dX6_init_7 : decode cX6_init 7 = .ok (.newarray .long, 2) := by decide +kernel
theorem dX6_init_9 : decode cX6_init 9 = .ok (.putfield 9, 3) := by decide +kernel
theorem dX6_init_12 : decode cX6_init 12 = .ok (.aload_n 0, 1) := by decide +kernel
theorem dX6_init_13 : decode cX6_init 13 = .ok (.aload_n 1, 1) := by decide +kernel
theorem dX6_init_14 : decode cX6_init 14 = .ok (.putfield 13, 3) := by decide +kernel
theorem dX6_init_17 : decode cX6_init 17 = .ok (.return_, 1) := by decide +kernel
theorem dX7_init_0 : decode cX7_init 0 = .ok (.aload_n 0, 1) := by decide +kernel
theorem dX7_init_1 : decode cX7_init 1 = .ok (.invokespecial 3, 3) := by decide +kernel
theorem dX7_init_4 : decode cX7_init 4 = .ok (.aload_n 0, 1) := by decide +kernel
theorem dX7_init_5 : decode cX7_init 5 = .ok (.sipush 400, 3) := by decide +kernel
theorem dX7_init_8 : decode cX7_init 8 = .ok (.newarray .int, 2) := by decide +kernel
theorem dX7_init_10 : decode cX7_init 10 = .ok (.putfield 9, 3) := by decide +kernel
theorem dX7_init_13 : decode cX7_init 13 = .ok (.aload_n 0, 1) := by decide +kernel
theorem dX7_init_14 : decode cX7_init 14 = .ok (.iconst 0, 1) := by decide +kernel
theorem dX7_init_15 : decode cX7_init 15 = .ok (.putfield 15, 3) := by decide +kernel
theorem dX7_init_18 : decode cX7_init 18 = .ok (.aload_n 0, 1) := by decide +kernel
theorem dX7_init_19 : decode cX7_init 19 = .ok (.iconst 0, 1) := by decide +kernel
theorem dX7_init_20 : decode cX7_init 20 = .ok (.putfield 19, 3) := by decide +kernel
theorem dX7_init_23 : decode cX7_init 23 = .ok (.return_, 1) := by decide +kernel
theorem dX7_read_0 : decode cX7_read 0 = .ok (.aload_n 0, 1) := by decide +kernel
theorem dX7_read_1 : decode cX7_read 1 = .ok (.iconst 0, 1) := by decide +kernel
theorem dX7_read_2 : decode cX7_read 2 = .ok (.putfield 15, 3) := by decide +kernel
theorem dX7_read_5 : decode cX7_read 5 = .ok (.aload_n 0, 1) := by decide +kernel
theorem dX7_read_6 : decode cX7_read 6 = .ok (.iconst 0, 1) := by decide +kernel
theorem dX7_read_7 : decode cX7_read 7 = .ok (.putfield 19, 3) := by decide +kernel
theorem dX7_read_10 : decode cX7_read 10 = .ok (.aload_n 1, 1) := by decide +kernel
theorem dX7_read_11 : decode cX7_read 11 = .ok (.invokevirtual 22, 3) := by decide +kernel
theorem dX7_read_14 : decode cX7_read 14 = .ok (.iconst 0, 1) := by decide +kernel
theorem dX7_read_15 : decode cX7_read 15 = .ok (.istore_n 2, 1) := by decide +kernel
theorem dX7_read_16 : decode cX7_read 16 = .ok (.iload_n 2, 1) := by decide +kernel
theorem dX7_read_17 : decode cX7_read 17 = .ok (.bipush 12, 2) := by decide +kernel
theorem dX7_read_19 : decode cX7_read 19 = .ok (.if_icmp .gt 89, 3) := by decide +kernel
theorem dX7_read_22 : decode cX7_read 22 = .ok (.iload_n 2, 1) := by decide +kernel
theorem dX7_read_23 : decode cX7_read 23 = .ok (.ifCond .eq 12, 3) := by decide +kernel
theorem dX7_read_26 : decode cX7_read 26 = .ok (.aload_n 1, 1) := by decide +kernel
theorem dX7_read_27 : decode cX7_read 27 = .ok (.bipush 59, 2) := by decide +kernel
theorem dX7_read_29 : decode cX7_read 29 = .ok (.invokevirtual 27, 3) := by decide +kernel
theorem dX7_read_32 : decode cX7_read 32 = .ok (.ifCond .eq 76, 3) := by decide +kernel
theorem dX7_read_35 : decode cX7_read 35 = .ok (.aload_n 1, 1) := by decide +kernel
theorem dX7_read_36 : decode cX7_read 36 = .ok (.ldc 31, 2) := by decide +kernel
theorem dX7_read_38 : decode cX7_read 38 = .ok (.invokevirtual 33, 3) := by decide +kernel
theorem dX7_read_41 : decode cX7_read 41 = .ok (.ifCond .ne 11, 3) := by decide +kernel
theorem dX7_read_44 : decode cX7_read 44 = .ok (.aload_n 1, 1) := by decide +kernel
theorem dX7_read_45 : decode cX7_read 45 = .ok (.iconst 0, 1) := by decide +kernel
theorem dX7_read_46 : decode cX7_read 46 = .ok (.invokevirtual 37, 3) := by decide +kernel
theorem dX7_read_49 : decode cX7_read 49 = .ok (.goto 14, 3) := by decide +kernel
theorem dX7_read_52 : decode cX7_read 52 = .ok (.iload_n 2, 1) := by decide +kernel
theorem dX7_read_53 : decode cX7_read 53 = .ok (.bipush 12, 2) := by decide +kernel
theorem dX7_read_55 : decode cX7_read 55 = .ok (.if_icmp .ne 8, 3) := by decide +kernel
theorem dX7_read_58 : decode cX7_read 58 = .ok (.aload_n 1, 1) := by decide +kernel
theorem dX7_read_59 : decode cX7_read 59 = .ok (.iconst 4, 1) := by decide +kernel
theorem dX7_read_60 : decode cX7_read 60 = .ok (.invokevirtual 37, 3) := by decide +kernel
theorem dX7_read_63 : decode cX7_read 63 = .ok (.aload_n 1, 1) := by decide +kernel
theorem dX7_read_64 : decode cX7_read 64 = .ok (.invokevirtual 41, 3) := by decide +kernel
theorem dX7_read_67 : decode cX7_read 67 = .ok (.aload_n 0, 1) := by decide +kernel
theorem dX7_read_68 : decode cX7_read 68 = .ok (.aload_n 1, 1) := by decide +kernel
theorem dX7_read_69 : decode cX7_read 69 = .ok (.invokevirtual 44, 3) := by decide +kernel
theorem dX7_read_72 : decode cX7_read 72 = .ok (.aload_n 1, 1) := by decide +kernel
theorem dX7_read_73 : decode cX7_read 73 = .ok (.ldc 48, 2) := by decide +kernel
theorem dX7_read_75 : decode cX7_read 75 = .ok (.invokevirtual 50, 3) := by decide +kernel
theorem dX7_read_78 : decode cX7_read 78 = .ok (.ifCond .eq 18, 3) := by decide +kernel
theorem dX7_read_81 : decode cX7_read 81 = .ok (.aload_n 0, 1) := by decide +kernel
theorem dX7_read_82 : decode cX7_read 82 = .ok (.aload_n 1, 1) := by decide +kernel
theorem dX7_read_83 : decode cX7_read 83 = .ok (.iconst 0, 1) := by decide +kernel
theorem dX7_read_84 : decode cX7_read 84 = .ok (.invokevirtual 53, 3) := by decide +kernel
theorem dX7_read_87 : decode cX7_read 87 = .ok (.aload_n 0, 1) := by decide +kernel
theorem dX7_read_88 : decode cX7_read 88 = .ok (.bipush (-3), 2) := by decide +kernel
theorem dX7_read_90 : decode cX7_read 90 = .ok (.invokevirtual 59, 3) := by decide +kernel
theorem dX7_read_93 : decode cX7_read 93 = .ok (.goto 9, 3) := by decide +kernel
theorem dX7_read_96 : decode cX7_read 96 = .ok (.aload_n 0, 1) := by decide +kernel
theorem dX7_read_97 : decode cX7_read 97 = .ok (.bipush (-2), 2) := by decide +kernel
theorem dX7_read_99 : decode cX7_read 99 = .ok (.invokevirtual 59, 3) := by decide +kernel
theorem dX7_read_102 : decode cX7_read 102 = .ok (.iinc 2 1, 3) := by decide +kernel
theorem dX7_read_105 : decode cX7_read 105 = .ok (.goto (-89), 3) := by decide +kernel
theorem dX7_read_108 : decode cX7_read 108 = .ok (.aload_n 1, 1) := by decide +kernel
theorem dX7_read_109 : decode cX7_read 109 = .ok (.invokevirtual 62, 3) := by decide +kernel
theorem dX7_read_112 : decode cX7_read 112 = .ok (.aload_n 1, 1) := by decide +kernel
theorem dX7_read_113 : decode cX7_read 113 = .ok (.getfield 65, 3) := by decide +kernel
theorem dX7_read_116 : decode cX7_read 116 = .ok (.ifCond .ne 22, 3) := by decide +kernel
theorem dX7_read_119 : decode cX7_read 119 = .ok (.aload_n 0, 1) := by decide +kernel
theorem dX7_read_120 : decode cX7_read 120 = .ok (.getfield 15, 3) := by decide +kernel
theorem dX7_read_123 : decode cX7_read 123 = .ok (.ifCond .lt 15, 3) := by decide +kernel
theorem dX7_read_126 : decode cX7_read 126 = .ok (.aload_n 0, 1) := by decide +kernel
theorem dX7_read_127 : decode cX7_read 127 = .ok (.getfield 15, 3) := by decide +kernel
theorem dX7_read_130 : decode cX7_read 130 = .ok (.aload_n 0, 1) := by decide +kernel
theorem dX7_read_131 : decode cX7_read 131 = .ok (.getfield 9, 3) := by decide +kernel
theorem dX7_read_134 : decode cX7_read 134 = .ok (.arraylength, 1) := by decide +kernel
theorem dX7_read_135 : decode cX7_read 135 = .ok (.if_icmp .le 5, 3) := by decide +kernel
theorem dX7_read_138 : decode cX7_read 138 = .ok (.aconst_null, 1) := by decide +kernel
theorem dX7_read_139 : decode cX7_read 139 = .ok (.areturn, 1) := by decide +kernel
theorem dX7_read_140 : decode cX7_read 140 = .ok (.new 57, 3) := by decide +kernel
theorem dX7_read_143 : decode cX7_read 143 = .ok (.dup, 1) := by decide +kernel
theorem dX7_read_144 : decode cX7_read 144 = .ok (.aload_n 0, 1) := by decide +kernel
theorem dX7_read_145 : decode cX7_read 145 = .ok (.getfield 9, 3) := by decide +kernel
theorem dX7_read_148 : decode cX7_read 148 = .ok (.aload_n 0, 1) := by decide +kernel
theorem dX7_read_149 : decode cX7_read 149 = .ok (.getfield 15, 3) := by decide +kernel
theorem dX7_read_152 : decode cX7_read 152 = .ok (.invokestatic 68, 3) := by decide +kernel
theorem dX7_read_155 : decode cX7_read 155 = .ok (.invokespecial 74, 3) := by decide +kernel
theorem dX7_read_158 : decode cX7_read 158 = .ok (.areturn, 1) := by decide +kernel
theorem dX8_init_0 : decode cX8_init 0 = .ok (.aload_n 0, 1) := by decide +kernel
theorem dX8_init_1 : decode cX8_init 1 = .ok (.invokespecial 3, 3) := by decide +kernel
theorem dX8_init_4 : decode cX8_init 4 = .ok (.aload_n 0, 1) := by decide +kernel
theorem dX8_init_5 : decode cX8_init 5 = .ok (.new 9, 3) := by decide +kernel
theorem dX8_init_8 : decode cX8_init 8 = .ok (.dup, 1) := by decide +kernel
theorem dX8_init_9 : decode cX8_init 9 = .ok (.invokespecial 11, 3) := by decide +kernel
theorem dX8_init_12 : decode cX8_init 12 = .ok (.putfield 12, 3) := by decide +kernel
theorem dX8_init_15 : decode cX8_init 15 = .ok (.aload_n 0, 1) := by decide +kernel
theorem dX8_init_16 : decode cX8_init 16 = .ok (.new 9, 3) := by decide +kernel
theorem dX8_init_19 : decode cX8_init 19 = .ok (.dup, 1) := by decide +kernel
theorem dX8_init_20 : decode cX8_init 20 = .ok (.invokespecial 11, 3) := by decide +kernel
theorem dX8_init_23 : decode cX8_init 23 = .ok (.putfield 18, 3) := by decide +kernel
theorem dX8_init_26 : decode cX8_init 26 = .ok (.aload_n 0, 1) := by decide +kernel
theorem dX8_init_27 : decode cX8_init 27 = .ok (.new 21, 3) := by decide +kernel
theorem dX8_init_30 : decode cX8_init 30 = .ok (.dup, 1) := by decide +kernel
theorem dX8_init_31 : decode cX8_init 31 = .ok (.invokespecial 23, 3) := by decide +kernel
theorem dX8_init_34 : decode cX8_init 34 = .ok (.putfield 24, 3) := by decide +kernel
theorem dX8_init_37 : decode cX8_init 37 = .ok (.aload_n 0, 1) := by decide +kernel
theorem dX8_init_38 : decode cX8_init 38 = .ok (.iconst (-1), 1) := by decide +kernel
theorem dX8_init_39 : decode cX8_init 39 = .ok (.putfield 28, 3) := by decide +kernel
theorem dX8_init_42 : decode cX8_init 42 = .ok (.aload_n 0, 1) := by decide +kernel
theorem dX8_init_43 : decode cX8_init 43 = .ok (.iconst 0, 1) := by decide +kernel
theorem dX8_init_44 : decode cX8_init 44 = .ok (.putfield 32, 3) := by decide +kernel
theorem dX8_init_47 : decode cX8_init 47 = .ok (.return_, 1) := by decide +kernel
theorem dX9_init_0 : decode cX9_init 0 = .ok (.aload_n 0, 1) := by decide +kernel
theorem dX9_init_1 : decode cX9_init 1 = .ok (.invokespecial 3, 3) := by decide +kernel
theorem dX9_init_4 : decode cX9_init 4 = .ok (.aload_n 0, 1) := by decide +kernel
theorem dX9_init_5 : decode cX9_init 5 = .ok (.iconst 0, 1) := by decide +kernel
theorem dX9_init_6 : decode cX9_init 6 = .ok (.putfield 9, 3) := by decide +kernel
theorem dX9_init_9 : decode cX9_init 9 = .ok (.aload_n 0, 1) := by decide +kernel
theorem dX9_init_10 : decode cX9_init 10 = .ok (.iconst 0, 1) := by decide +kernel
theorem dX9_init_11 : decode cX9_init 11 = .ok (.putfield 15, 3) := by decide +kernel
theorem dX9_init_14 : decode cX9_init 14 = .ok (.aload_n 0, 1) := by decide +kernel
theorem dX9_init_15 : decode cX9_init 15 = .ok (.iconst 0, 1) := by decide +kernel
theorem dX9_init_16 : decode cX9_init 16 = .ok (.putfield 18, 3) := by decide +kernel
theorem dX9_init_19 : decode cX9_init 19 = .ok (.aload_n 0, 1) := by decide +kernel
theorem dX9_init_20 : decode cX9_init 20 = .ok (.iconst 0, 1) := by decide +kernel
theorem dX9_init_21 : decode cX9_init 21 = .ok (.putfield 21, 3) := by decide +kernel
theorem dX9_init_24 : decode cX9_init 24 = .ok (.aload_n 0, 1) := by decide +kernel
theorem dX9_init_25 : decode cX9_init 25 = .ok (.iconst 0, 1) := by decide +kernel
theorem dX9_init_26 : decode cX9_init 26 = .ok (.putfield 24, 3) := by decide +kernel
theorem dX9_init_29 : decode cX9_init 29 = .ok (.aload_n 0, 1) := by decide +kernel
theorem dX9_init_30 : decode cX9_init 30 = .ok (.iconst 0, 1) := by decide +kernel
theorem dX9_init_31 : decode cX9_init 31 = .ok (.putfield 27, 3) := by decide +kernel
theorem dX9_init_34 : decode cX9_init 34 = .ok (.aload_n 0, 1) := by decide +kernel
theorem dX9_init_35 : decode cX9_init 35 = .ok (.bipush 10, 2) := by decide +kernel
theorem dX9_init_37 : decode cX9_init 37 = .ok (.newarray .int, 2) := by decide +kernel
theorem dX9_init_39 : decode cX9_init 39 = .ok (.putfield 30, 3) := by decide +kernel
theorem dX9_init_42 : decode cX9_init 42 = .ok (.aload_n 0, 1) := by decide +kernel
theorem dX9_init_43 : decode cX9_init 43 = .ok (.bipush 10, 2) := by decide +kernel
theorem dX9_init_45 : decode cX9_init 45 = .ok (.newarray .int, 2) := by decide +kernel
theorem dX9_init_47 : decode cX9_init 47 = .ok (.putfield 34, 3) := by decide +kernel
theorem dX9_init_50 : decode cX9_init 50 = .ok (.aload_n 0, 1) := by decide +kernel
theorem dX9_init_51 : decode cX9_init 51 = .ok (.bipush 6, 2) := by decide +kernel
theorem dX9_init_53 : decode cX9_init 53 = .ok (.newarray .int, 2) := by decide +kernel
theorem dX9_init_55 : decode cX9_init 55 = .ok (.putfield 37, 3) := by decide +kernel
theorem dX9_init_58 : decode cX9_init 58 = .ok (.aload_n 0, 1) := by decide +kernel
theorem dX9_init_59 : decode cX9_init 59 = .ok (.bipush 6, 2) := by decide +kernel
theorem dX9_init_61 : decode cX9_init 61 = .ok (.newarray .int, 2) := by decide +kernel
theorem dX9_init_63 : decode cX9_init 63 = .ok (.putfield 40, 3) := by decide +kernel
theorem dX9_init_66 : decode cX9_init 66 = .ok (.aload_n 0, 1) := by decide +kernel
theorem dX9_init_67 : decode cX9_init 67 = .ok (.bipush 6, 2) := by decide +kernel
theorem dX9_init_69 : decode cX9_init 69 = .ok (.newarray .int, 2) := by decide +kernel
theorem dX9_init_71 : decode cX9_init 71 = .ok (.putfield 43, 3) := by decide +kernel
theorem dX9_init_74 : decode cX9_init 74 = .ok (.aload_n 0, 1) := by decide +kernel
theorem dX9_init_75 : decode cX9_init 75 = .ok (.bipush 6, 2) := by decide +kernel
theorem dX9_init_77 : decode cX9_init 77 = .ok (.newarray .int, 2) := by decide +kernel
theorem dX9_init_79 : decode cX9_init 79 = .ok (.putfield 46, 3) := by decide +kernel
theorem dX9_init_82 : decode cX9_init 82 = .ok (.aload_n 0, 1) := by decide +kernel
theorem dX9_init_83 : decode cX9_init 83 = .ok (.bipush 6, 2) := by decide +kernel
theorem dX9_init_85 : decode cX9_init 85 = .ok (.newarray .int, 2) := by decide +kernel
theorem dX9_init_87 : decode cX9_init 87 = .ok (.putfield 49, 3) := by decide +kernel
theorem dX9_init_90 : decode cX9_init 90 = .ok (.aload_n 0, 1) := by decide +kernel
theorem dX9_init_91 : decode cX9_init 91 = .ok (.bipush 6, 2) := by decide +kernel
theorem dX9_init_93 : decode cX9_init 93 = .ok (.newarray .int, 2) := by decide +kernel
theorem dX9_init_95 : decode cX9_init 95 = .ok (.putfield 52, 3) := by decide +kernel
theorem dX9_init_98 : decode cX9_init 98 = .ok (.return_, 1) := by decide +kernel
set_option maxHeartbeats 4000000 in
set_option maxRecDepth 100000 in
theorem ct_X9_init (l : Launch) (D : va_G) (tc : Nat → ClassId) (sk : (Nat → Nat) × (Nat → Nat)) (h0 : Nat)  : Ct l yX9_init cX9_init 1 none { frames := 1, cells := 8, slots := 56, locals := 12 } D tc sk [.ref h0] [(h0, .inr (9, [.int 0, .int 0, .int 0, .int 0, .int 0, .int 0, .null, .null, .null, .null, .null, .null, .null, .null]))] (fun (v : Option Value) (u : (Nat) × (Nat) × (Nat) × (Nat) × (Nat) × (Nat) × (Nat) × (Nat)) => match u with | (b1, b2, b3, b4, b5, b6, b7, b8) => v = none) (fun (u : (Nat) × (Nat) × (Nat) × (Nat) × (Nat) × (Nat) × (Nat) × (Nat)) => match u with | (b1, b2, b3, b4, b5, b6, b7, b8) => [(h0, .inr (9, [.int 0, .int 0, .int 0, .int 0, .int 0, .int 0, .ref b1, .ref b2, .ref b3, .ref b4, .ref b5, .ref b6, .ref b7, .ref b8])), (b1, .inl (tc 0, 10, .inl (fun _ => 0))), (b2, .inl (tc 0, 10, .inl (fun _ => 0))), (b3, .inl (tc 0, 6, .inl (fun _ => 0))), (b4, .inl (tc 0, 6, .inl (fun _ => 0))), (b5, .inl (tc 0, 6, .inl (fun _ => 0))), (b6, .inl (tc 0, 6, .inl (fun _ => 0))), (b7, .inl (tc 0, 6, .inl (fun _ => 0))), (b8, .inl (tc 0, 6, .inl (fun _ => 0)))]) 8 56 := by
  refine Ct.start (by decide) (Nat.le_of_ble_eq_true rfl) (fun p e s m below meth c A ls hx hb hr hlk hin hml hown hts hK hX hP hD hA hl hS => ?_)
  have hl : lv_has ls 1 [(0, .ref h0)] := hl
  refine lv_aload_n hx hb dX9_init_0 rfl (lv_at hl 0 rfl) ?_
  refine W.objInit hx hb hown (hts _ k_168) (hts _ k_122) (hts _ k_123) rfl (by rw [hml]; exact hl.1) rfl dX9_init_1 (Nat.le_of_ble_eq_true rfl) (Nat.le_of_ble_eq_true rfl) ?_
  refine W.eq (g2 := F0 m 4 ls []) rfl ?_
  refine lv_aload_n hx hb dX9_init_4 rfl (lv_at hl 0 rfl) ?_
  refine lv_iconst (v := 0) hx hb dX9_init_5 (by decide) ?_
  refine pf_X9_9 hx hb hts hown hK hP hD hS 0 rfl (Nat.le_of_ble_eq_true rfl) rfl rfl dX9_init_6 (fun H locs hP₀ hD₀ hS₀ => ?_)
  replace hP : va_P D classes [(h0, .inr (9, [.int 0, .int 0, .int 0, .int 0, .int 0, .int 0, .null, .null, .null, .null, .null, .null, .null, .null]))] H := hP₀
  replace hD : va_D A [(h0, .inr (9, [.int 0, .int 0, .int 0, .int 0, .int 0, .int 0, .null, .null, .null, .null, .null, .null, .null, .null]))] := hD₀
  replace hS := hS₀
  clear hP₀ hD₀ hS₀
  refine lv_aload_n hx hb dX9_init_9 rfl (lv_at hl 0 rfl) ?_
  refine lv_iconst (v := 0) hx hb dX9_init_10 (by decide) ?_
  refine pf_X9_15 hx hb hts hown hK hP hD hS 0 rfl (Nat.le_of_ble_eq_true rfl) rfl rfl dX9_init_11 (fun H locs hP₀ hD₀ hS₀ => ?_)
  replace hP : va_P D classes [(h0, .inr (9, [.int 0, .int 0, .int 0, .int 0, .int 0, .int 0, .null, .null, .null, .null, .null, .null, .null, .null]))] H := hP₀
  replace hD : va_D A [(h0, .inr (9, [.int 0, .int 0, .int 0, .int 0, .int 0, .int 0, .null, .null, .null, .null, .null, .null, .null, .null]))] := hD₀
  replace hS := hS₀
  clear hP₀ hD₀ hS₀
  refine lv_aload_n hx hb dX9_init_14 rfl (lv_at hl 0 rfl) ?_
  refine lv_iconst (v := 0) hx hb dX9_init_15 (by decide) ?_
  refine pf_X9_18 hx hb hts hown hK hP hD hS 0 rfl (Nat.le_of_ble_eq_true rfl) rfl rfl dX9_init_16 (fun H locs hP₀ hD₀ hS₀ => ?_)
  replace hP : va_P D classes [(h0, .inr (9, [.int 0, .int 0, .int 0, .int 0, .int 0, .int 0, .null, .null, .null, .null, .null, .null, .null, .null]))] H := hP₀
  replace hD : va_D A [(h0, .inr (9, [.int 0, .int 0, .int 0, .int 0, .int 0, .int 0, .null, .null, .null, .null, .null, .null, .null, .null]))] := hD₀
  replace hS := hS₀
  clear hP₀ hD₀ hS₀
  refine lv_aload_n hx hb dX9_init_19 rfl (lv_at hl 0 rfl) ?_
  refine lv_iconst (v := 0) hx hb dX9_init_20 (by decide) ?_
  refine pf_X9_21 hx hb hts hown hK hP hD hS 0 rfl (Nat.le_of_ble_eq_true rfl) rfl rfl dX9_init_21 (fun H locs hP₀ hD₀ hS₀ => ?_)
  replace hP : va_P D classes [(h0, .inr (9, [.int 0, .int 0, .int 0, .int 0, .int 0, .int 0, .null, .null, .null, .null, .null, .null, .null, .null]))] H := hP₀
  replace hD : va_D A [(h0, .inr (9, [.int 0, .int 0, .int 0, .int 0, .int 0, .int 0, .null, .null, .null, .null, .null, .null, .null, .null]))] := hD₀
  replace hS := hS₀
  clear hP₀ hD₀ hS₀
  refine lv_aload_n hx hb dX9_init_24 rfl (lv_at hl 0 rfl) ?_
  refine lv_iconst (v := 0) hx hb dX9_init_25 (by decide) ?_
  refine pf_X9_24 hx hb hts hown hK hP hD hS 0 rfl (Nat.le_of_ble_eq_true rfl) rfl rfl dX9_init_26 (fun H locs hP₀ hD₀ hS₀ => ?_)
  replace hP : va_P D classes [(h0, .inr (9, [.int 0, .int 0, .int 0, .int 0, .int 0, .int 0, .null, .null, .null, .null, .null, .null, .null, .null]))] H := hP₀
  replace hD : va_D A [(h0, .inr (9, [.int 0, .int 0, .int 0, .int 0, .int 0, .int 0, .null, .null, .null, .null, .null, .null, .null, .null]))] := hD₀
  replace hS := hS₀
  clear hP₀ hD₀ hS₀
  refine lv_aload_n hx hb dX9_init_29 rfl (lv_at hl 0 rfl) ?_
  refine lv_iconst (v := 0) hx hb dX9_init_30 (by decide) ?_
  refine pf_X9_27 hx hb hts hown hK hP hD hS 0 rfl (Nat.le_of_ble_eq_true rfl) rfl rfl dX9_init_31 (fun H locs hP₀ hD₀ hS₀ => ?_)
  replace hP : va_P D classes [(h0, .inr (9, [.int 0, .int 0, .int 0, .int 0, .int 0, .int 0, .null, .null, .null, .null, .null, .null, .null, .null]))] H := hP₀
  replace hD : va_D A [(h0, .inr (9, [.int 0, .int 0, .int 0, .int 0, .int 0, .int 0, .null, .null, .null, .null, .null, .null, .null, .null]))] := hD₀
  replace hS := hS₀
  clear hP₀ hD₀ hS₀
  refine lv_aload_n hx hb dX9_init_34 rfl (lv_at hl 0 rfl) ?_
  refine lv_bipush (v := 10) hx hb dX9_init_35 (by decide) ?_
  refine nwA (atype := .int) (a0 := (10, .inl (fun _ => 0))) hx hb (hts _ k_156) rfl hK hP hD hS hA 0 rfl (fun _ => rfl) (by decide) (by decide) (by decide) (Nat.le_of_ble_eq_true rfl) (Nat.le_of_ble_eq_true rfl) dX9_init_37 (fun q_1 H hP₀ hD₀ hS₀ => ?_)
  replace hP : va_P D classes [(h0, .inr (9, [.int 0, .int 0, .int 0, .int 0, .int 0, .int 0, .null, .null, .null, .null, .null, .null, .null, .null])), (q_1, .inl (tc 0, 10, .inl (fun _ => 0)))] H := hP₀
  replace hD : va_D A [(h0, .inr (9, [.int 0, .int 0, .int 0, .int 0, .int 0, .int 0, .null, .null, .null, .null, .null, .null, .null, .null])), (q_1, .inl (tc 0, 10, .inl (fun _ => 0)))] := hD₀
  replace hS := hS₀
  clear hP₀ hD₀ hS₀
  refine pf_X9_30 (ty := (.array .int)) hx hb hts hown hin hK hP hD hS 0 rfl (Nat.le_of_ble_eq_true rfl) (by decide +kernel) rfl rfl dX9_init_39 (fun H locs hP₀ hD₀ hS₀ => ?_)
  replace hP : va_P D classes [(h0, .inr (9, [.int 0, .int 0, .int 0, .int 0, .int 0, .int 0, .ref q_1, .null, .null, .null, .null, .null, .null, .null])), (q_1, .inl (tc 0, 10, .inl (fun _ => 0)))] H := hP₀
  replace hD : va_D A [(h0, .inr (9, [.int 0, .int 0, .int 0, .int 0, .int 0, .int 0, .ref q_1, .null, .null, .null, .null, .null, .null, .null])), (q_1, .inl (tc 0, 10, .inl (fun _ => 0)))] := hD₀
  replace hS := hS₀
  clear hP₀ hD₀ hS₀
  refine lv_aload_n hx hb dX9_init_42 rfl (lv_at hl 0 rfl) ?_
  refine lv_bipush (v := 10) hx hb dX9_init_43 (by decide) ?_
  refine nwA (atype := .int) (a0 := (10, .inl (fun _ => 0))) hx hb (hts _ k_156) rfl hK hP hD hS hA 0 rfl (fun _ => rfl) (by decide) (by decide) (by decide) (Nat.le_of_ble_eq_true rfl) (Nat.le_of_ble_eq_true rfl) dX9_init_45 (fun q_2 H hP₀ hD₀ hS₀ => ?_)
  replace hP : va_P D classes [(h0, .inr (9, [.int 0, .int 0, .int 0, .int 0, .int 0, .int 0, .ref q_1, .null, .null, .null, .null, .null, .null, .null])), (q_1, .inl (tc 0, 10, .inl (fun _ => 0))), (q_2, .inl (tc 0, 10, .inl (fun _ => 0)))] H := hP₀
  replace hD : va_D A [(h0, .inr (9, [.int 0, .int 0, .int 0, .int 0, .int 0, .int 0, .ref q_1, .null, .null, .null, .null, .null, .null, .null])), (q_1, .inl (tc 0, 10, .inl (fun _ => 0))), (q_2, .inl (tc 0, 10, .inl (fun _ => 0)))] := hD₀
  replace hS := hS₀
  clear hP₀ hD₀ hS₀
  refine pf_X9_34 (ty := (.array .int)) hx hb hts hown hin hK hP hD hS 0 rfl (Nat.le_of_ble_eq_true rfl) (by decide +kernel) rfl rfl dX9_init_47 (fun H locs hP₀ hD₀ hS₀ => ?_)
  replace hP : va_P D classes [(h0, .inr (9, [.int 0, .int 0, .int 0, .int 0, .int 0, .int 0, .ref q_1, .ref q_2, .null, .null, .null, .null, .null, .null])), (q_1, .inl (tc 0, 10, .inl (fun _ => 0))), (q_2, .inl (tc 0, 10, .inl (fun _ => 0)))] H := hP₀
  replace hD : va_D A [(h0, .inr (9, [.int 0, .int 0, .int 0, .int 0, .int 0, .int 0, .ref q_1, .ref q_2, .null, .null, .null, .null, .null, .null])), (q_1, .inl (tc 0, 10, .inl (fun _ => 0))), (q_2, .inl (tc 0, 10, .inl (fun _ => 0)))] := hD₀
  replace hS := hS₀
  clear hP₀ hD₀ hS₀
  refine lv_aload_n hx hb dX9_init_50 rfl (lv_at hl 0 rfl) ?_
  refine lv_bipush (v := 6) hx hb dX9_init_51 (by decide) ?_
  refine nwA (atype := .int) (a0 := (6, .inl (fun _ => 0))) hx hb (hts _ k_156) rfl hK hP hD hS hA 0 rfl (fun _ => rfl) (by decide) (by decide) (by decide) (Nat.le_of_ble_eq_true rfl) (Nat.le_of_ble_eq_true rfl) dX9_init_53 (fun q_3 H hP₀ hD₀ hS₀ => ?_)
  replace hP : va_P D classes [(h0, .inr (9, [.int 0, .int 0, .int 0, .int 0, .int 0, .int 0, .ref q_1, .ref q_2, .null, .null, .null, .null, .null, .null])), (q_1, .inl (tc 0, 10, .inl (fun _ => 0))), (q_2, .inl (tc 0, 10, .inl (fun _ => 0))), (q_3, .inl (tc 0, 6, .inl (fun _ => 0)))] H := hP₀
  replace hD : va_D A [(h0, .inr (9, [.int 0, .int 0, .int 0, .int 0, .int 0, .int 0, .ref q_1, .ref q_2, .null, .null, .null, .null, .null, .null])), (q_1, .inl (tc 0, 10, .inl (fun _ => 0))), (q_2, .inl (tc 0, 10, .inl (fun _ => 0))), (q_3, .inl (tc 0, 6, .inl (fun _ => 0)))] := hD₀
  replace hS := hS₀
  clear hP₀ hD₀ hS₀
  refine pf_X9_37 (ty := (.array .int)) hx hb hts hown hin hK hP hD hS 0 rfl (Nat.le_of_ble_eq_true rfl) (by decide +kernel) rfl rfl dX9_init_55 (fun H locs hP₀ hD₀ hS₀ => ?_)
  replace hP : va_P D classes [(h0, .inr (9, [.int 0, .int 0, .int 0, .int 0, .int 0, .int 0, .ref q_1, .ref q_2, .ref q_3, .null, .null, .null, .null, .null])), (q_1, .inl (tc 0, 10, .inl (fun _ => 0))), (q_2, .inl (tc 0, 10, .inl (fun _ => 0))), (q_3, .inl (tc 0, 6, .inl (fun _ => 0)))] H := hP₀
  replace hD : va_D A [(h0, .inr (9, [.int 0, .int 0, .int 0, .int 0, .int 0, .int 0, .ref q_1, .ref q_2, .ref q_3, .null, .null, .null, .null, .null])), (q_1, .inl (tc 0, 10, .inl (fun _ => 0))), (q_2, .inl (tc 0, 10, .inl (fun _ => 0))), (q_3, .inl (tc 0, 6, .inl (fun _ => 0)))] := hD₀
  replace hS := hS₀
  clear hP₀ hD₀ hS₀
  refine lv_aload_n hx hb dX9_init_58 rfl (lv_at hl 0 rfl) ?_
  refine lv_bipush (v := 6) hx hb dX9_init_59 (by decide) ?_
  refine nwA (atype := .int) (a0 := (6, .inl (fun _ => 0))) hx hb (hts _ k_156) rfl hK hP hD hS hA 0 rfl (fun _ => rfl) (by decide) (by decide) (by decide) (Nat.le_of_ble_eq_true rfl) (Nat.le_of_ble_eq_true rfl) dX9_init_61 (fun q_4 H hP₀ hD₀ hS₀ => ?_)
  replace hP : va_P D classes [(h0, .inr (9, [.int 0, .int 0, .int 0, .int 0, .int 0, .int 0, .ref q_1, .ref q_2, .ref q_3, .null, .null, .null, .null, .null])), (q_1, .inl (tc 0, 10, .inl (fun _ => 0))), (q_2, .inl (tc 0, 10, .inl (fun _ => 0))), (q_3, .inl (tc 0, 6, .inl (fun _ => 0))), (q_4, .inl (tc 0, 6, .inl (fun _ => 0)))] H := hP₀
  replace hD : va_D A [(h0, .inr (9, [.int 0, .int 0, .int 0, .int 0, .int 0, .int 0, .ref q_1, .ref q_2, .ref q_3, .null, .null, .null, .null, .null])), (q_1, .inl (tc 0, 10, .inl (fun _ => 0))), (q_2, .inl (tc 0, 10, .inl (fun _ => 0))), (q_3, .inl (tc 0, 6, .inl (fun _ => 0))), (q_4, .inl (tc 0, 6, .inl (fun _ => 0)))] := hD₀
  replace hS := hS₀
  clear hP₀ hD₀ hS₀
  refine pf_X9_40 (ty := (.array .int)) hx hb hts hown hin hK hP hD hS 0 rfl (Nat.le_of_ble_eq_true rfl) (by decide +kernel) rfl rfl dX9_init_63 (fun H locs hP₀ hD₀ hS₀ => ?_)
  replace hP : va_P D classes [(h0, .inr (9, [.int 0, .int 0, .int 0, .int 0, .int 0, .int 0, .ref q_1, .ref q_2, .ref q_3, .ref q_4, .null, .null, .null, .null])), (q_1, .inl (tc 0, 10, .inl (fun _ => 0))), (q_2, .inl (tc 0, 10, .inl (fun _ => 0))), (q_3, .inl (tc 0, 6, .inl (fun _ => 0))), (q_4, .inl (tc 0, 6, .inl (fun _ => 0)))] H := hP₀
  replace hD : va_D A [(h0, .inr (9, [.int 0, .int 0, .int 0, .int 0, .int 0, .int 0, .ref q_1, .ref q_2, .ref q_3, .ref q_4, .null, .null, .null, .null])), (q_1, .inl (tc 0, 10, .inl (fun _ => 0))), (q_2, .inl (tc 0, 10, .inl (fun _ => 0))), (q_3, .inl (tc 0, 6, .inl (fun _ => 0))), (q_4, .inl (tc 0, 6, .inl (fun _ => 0)))] := hD₀
  replace hS := hS₀
  clear hP₀ hD₀ hS₀
  refine lv_aload_n hx hb dX9_init_66 rfl (lv_at hl 0 rfl) ?_
  refine lv_bipush (v := 6) hx hb dX9_init_67 (by decide) ?_
  refine nwA (atype := .int) (a0 := (6, .inl (fun _ => 0))) hx hb (hts _ k_156) rfl hK hP hD hS hA 0 rfl (fun _ => rfl) (by decide) (by decide) (by decide) (Nat.le_of_ble_eq_true rfl) (Nat.le_of_ble_eq_true rfl) dX9_init_69 (fun q_5 H hP₀ hD₀ hS₀ => ?_)
  replace hP : va_P D classes [(h0, .inr (9, [.int 0, .int 0, .int 0, .int 0, .int 0, .int 0, .ref q_1, .ref q_2, .ref q_3, .ref q_4, .null, .null, .null, .null])), (q_1, .inl (tc 0, 10, .inl (fun _ => 0))), (q_2, .inl (tc 0, 10, .inl (fun _ => 0))), (q_3, .inl (tc 0, 6, .inl (fun _ => 0))), (q_4, .inl (tc 0, 6, .inl (fun _ => 0))), (q_5, .inl (tc 0, 6, .inl (fun _ => 0)))] H := hP₀
  replace hD : va_D A [(h0, .inr (9, [.int 0, .int 0, .int 0, .int 0, .int 0, .int 0, .ref q_1, .ref q_2, .ref q_3, .ref q_4, .null, .null, .null, .null])), (q_1, .inl (tc 0, 10, .inl (fun _ => 0))), (q_2, .inl (tc 0, 10, .inl (fun _ => 0))), (q_3, .inl (tc 0, 6, .inl (fun _ => 0))), (q_4, .inl (tc 0, 6, .inl (fun _ => 0))), (q_5, .inl (tc 0, 6, .inl (fun _ => 0)))] := hD₀
  replace hS := hS₀
  clear hP₀ hD₀ hS₀
  refine pf_X9_43 (ty := (.array .int)) hx hb hts hown hin hK hP hD hS 0 rfl (Nat.le_of_ble_eq_true rfl) (by decide +kernel) rfl rfl dX9_init_71 (fun H locs hP₀ hD₀ hS₀ => ?_)
  replace hP : va_P D classes [(h0, .inr (9, [.int 0, .int 0, .int 0, .int 0, .int 0, .int 0, .ref q_1, .ref q_2, .ref q_3, .ref q_4, .ref q_5, .null, .null, .null])), (q_1, .inl (tc 0, 10, .inl (fun _ => 0))), (q_2, .inl (tc 0, 10, .inl (fun _ => 0))), (q_3, .inl (tc 0, 6, .inl (fun _ => 0))), (q_4, .inl (tc 0, 6, .inl (fun _ => 0))), (q_5, .inl (tc 0, 6, .inl (fun _ => 0)))] H := hP₀
  replace hD : va_D A [(h0, .inr (9, [.int 0, .int 0, .int 0, .int 0, .int 0, .int 0, .ref q_1, .ref q_2, .ref q_3, .ref q_4, .ref q_5, .null, .null, .null])), (q_1, .inl (tc 0, 10, .inl (fun _ => 0))), (q_2, .inl (tc 0, 10, .inl (fun _ => 0))), (q_3, .inl (tc 0, 6, .inl (fun _ => 0))), (q_4, .inl (tc 0, 6, .inl (fun _ => 0))), (q_5, .inl (tc 0, 6, .inl (fun _ => 0)))] := hD₀
  replace hS := hS₀
  clear hP₀ hD₀ hS₀
  refine lv_aload_n hx hb dX9_init_74 rfl (lv_at hl 0 rfl) ?_
  refine lv_bipush (v := 6) hx hb dX9_init_75 (by decide) ?_
  refine nwA (atype := .int) (a0 := (6, .inl (fun _ => 0))) hx hb (hts _ k_156) rfl hK hP hD hS hA 0 rfl (fun _ => rfl) (by decide) (by decide) (by decide) (Nat.le_of_ble_eq_true rfl) (Nat.le_of_ble_eq_true rfl) dX9_init_77 (fun q_6 H hP₀ hD₀ hS₀ => ?_)
  replace hP : va_P D classes [(h0, .inr (9, [.int 0, .int 0, .int 0, .int 0, .int 0, .int 0, .ref q_1, .ref q_2, .ref q_3, .ref q_4, .ref q_5, .null, .null, .null])), (q_1, .inl (tc 0, 10, .inl (fun _ => 0))), (q_2, .inl (tc 0, 10, .inl (fun _ => 0))), (q_3, .inl (tc 0, 6, .inl (fun _ => 0))), (q_4, .inl (tc 0, 6, .inl (fun _ => 0))), (q_5, .inl (tc 0, 6, .inl (fun _ => 0))), (q_6, .inl (tc 0, 6, .inl (fun _ => 0)))] H := hP₀
  replace hD : va_D A [(h0, .inr (9, [.int 0, .int 0, .int 0, .int 0, .int 0, .int 0, .ref q_1, .ref q_2, .ref q_3, .ref q_4, .ref q_5, .null, .null, .null])), (q_1, .inl (tc 0, 10, .inl (fun _ => 0))), (q_2, .inl (tc 0, 10, .inl (fun _ => 0))), (q_3, .inl (tc 0, 6, .inl (fun _ => 0))), (q_4, .inl (tc 0, 6, .inl (fun _ => 0))), (q_5, .inl (tc 0, 6, .inl (fun _ => 0))), (q_6, .inl (tc 0, 6, .inl (fun _ => 0)))] := hD₀
  replace hS := hS₀
  clear hP₀ hD₀ hS₀
  refine pf_X9_46 (ty := (.array .int)) hx hb hts hown hin hK hP hD hS 0 rfl (Nat.le_of_ble_eq_true rfl) (by decide +kernel) rfl rfl dX9_init_79 (fun H locs hP₀ hD₀ hS₀ => ?_)
  replace hP : va_P D classes [(h0, .inr (9, [.int 0, .int 0, .int 0, .int 0, .int 0, .int 0, .ref q_1, .ref q_2, .ref q_3, .ref q_4, .ref q_5, .ref q_6, .null, .null])), (q_1, .inl (tc 0, 10, .inl (fun _ => 0))), (q_2, .inl (tc 0, 10, .inl (fun _ => 0))), (q_3, .inl (tc 0, 6, .inl (fun _ => 0))), (q_4, .inl (tc 0, 6, .inl (fun _ => 0))), (q_5, .inl (tc 0, 6, .inl (fun _ => 0))), (q_6, .inl (tc 0, 6, .inl (fun _ => 0)))] H := hP₀
  replace hD : va_D A [(h0, .inr (9, [.int 0, .int 0, .int 0, .int 0, .int 0, .int 0, .ref q_1, .ref q_2, .ref q_3, .ref q_4, .ref q_5, .ref q_6, .null, .null])), (q_1, .inl (tc 0, 10, .inl (fun _ => 0))), (q_2, .inl (tc 0, 10, .inl (fun _ => 0))), (q_3, .inl (tc 0, 6, .inl (fun _ => 0))), (q_4, .inl (tc 0, 6, .inl (fun _ => 0))), (q_5, .inl (tc 0, 6, .inl (fun _ => 0))), (q_6, .inl (tc 0, 6, .inl (fun _ => 0)))] := hD₀
  replace hS := hS₀
  clear hP₀ hD₀ hS₀
  refine lv_aload_n hx hb dX9_init_82 rfl (lv_at hl 0 rfl) ?_
  refine lv_bipush (v := 6) hx hb dX9_init_83 (by decide) ?_
  refine nwA (atype := .int) (a0 := (6, .inl (fun _ => 0))) hx hb (hts _ k_156) rfl hK hP hD hS hA 0 rfl (fun _ => rfl) (by decide) (by decide) (by decide) (Nat.le_of_ble_eq_true rfl) (Nat.le_of_ble_eq_true rfl) dX9_init_85 (fun q_7 H hP₀ hD₀ hS₀ => ?_)
  replace hP : va_P D classes [(h0, .inr (9, [.int 0, .int 0, .int 0, .int 0, .int 0, .int 0, .ref q_1, .ref q_2, .ref q_3, .ref q_4, .ref q_5, .ref q_6, .null, .null])), (q_1, .inl (tc 0, 10, .inl (fun _ => 0))), (q_2, .inl (tc 0, 10, .inl (fun _ => 0))), (q_3, .inl (tc 0, 6, .inl (fun _ => 0))), (q_4, .inl (tc 0, 6, .inl (fun _ => 0))), (q_5, .inl (tc 0, 6, .inl (fun _ => 0))), (q_6, .inl (tc 0, 6, .inl (fun _ => 0))), (q_7, .inl (tc 0, 6, .inl (fun _ => 0)))] H := hP₀
  replace hD : va_D A [(h0, .inr (9, [.int 0, .int 0, .int 0, .int 0, .int 0, .int 0, .ref q_1, .ref q_2, .ref q_3, .ref q_4, .ref q_5, .ref q_6, .null, .null])), (q_1, .inl (tc 0, 10, .inl (fun _ => 0))), (q_2, .inl (tc 0, 10, .inl (fun _ => 0))), (q_3, .inl (tc 0, 6, .inl (fun _ => 0))), (q_4, .inl (tc 0, 6, .inl (fun _ => 0))), (q_5, .inl (tc 0, 6, .inl (fun _ => 0))), (q_6, .inl (tc 0, 6, .inl (fun _ => 0))), (q_7, .inl (tc 0, 6, .inl (fun _ => 0)))] := hD₀
  replace hS := hS₀
  clear hP₀ hD₀ hS₀
  refine pf_X9_49 (ty := (.array .int)) hx hb hts hown hin hK hP hD hS 0 rfl (Nat.le_of_ble_eq_true rfl) (by decide +kernel) rfl rfl dX9_init_87 (fun H locs hP₀ hD₀ hS₀ => ?_)
  replace hP : va_P D classes [(h0, .inr (9, [.int 0, .int 0, .int 0, .int 0, .int 0, .int 0, .ref q_1, .ref q_2, .ref q_3, .ref q_4, .ref q_5, .ref q_6, .ref q_7, .null])), (q_1, .inl (tc 0, 10, .inl (fun _ => 0))), (q_2, .inl (tc 0, 10, .inl (fun _ => 0))), (q_3, .inl (tc 0, 6, .inl (fun _ => 0))), (q_4, .inl (tc 0, 6, .inl (fun _ => 0))), (q_5, .inl (tc 0, 6, .inl (fun _ => 0))), (q_6, .inl (tc 0, 6, .inl (fun _ => 0))), (q_7, .inl (tc 0, 6, .inl (fun _ => 0)))] H := hP₀
  replace hD : va_D A [(h0, .inr (9, [.int 0, .int 0, .int 0, .int 0, .int 0, .int 0, .ref q_1, .ref q_2, .ref q_3, .ref q_4, .ref q_5, .ref q_6, .ref q_7, .null])), (q_1, .inl (tc 0, 10, .inl (fun _ => 0))), (q_2, .inl (tc 0, 10, .inl (fun _ => 0))), (q_3, .inl (tc 0, 6, .inl (fun _ => 0))), (q_4, .inl (tc 0, 6, .inl (fun _ => 0))), (q_5, .inl (tc 0, 6, .inl (fun _ => 0))), (q_6, .inl (tc 0, 6, .inl (fun _ => 0))), (q_7, .inl (tc 0, 6, .inl (fun _ => 0)))] := hD₀
  replace hS := hS₀
  clear hP₀ hD₀ hS₀
  refine lv_aload_n hx hb dX9_init_90 rfl (lv_at hl 0 rfl) ?_
  refine lv_bipush (v := 6) hx hb dX9_init_91 (by decide) ?_
  refine nwA (atype := .int) (a0 := (6, .inl (fun _ => 0))) hx hb (hts _ k_156) rfl hK hP hD hS hA 0 rfl (fun _ => rfl) (by decide) (by decide) (by decide) (Nat.le_of_ble_eq_true rfl) (Nat.le_of_ble_eq_true rfl) dX9_init_93 (fun q_8 H hP₀ hD₀ hS₀ => ?_)
  replace hP : va_P D classes [(h0, .inr (9, [.int 0, .int 0, .int 0, .int 0, .int 0, .int 0, .ref q_1, .ref q_2, .ref q_3, .ref q_4, .ref q_5, .ref q_6, .ref q_7, .null])), (q_1, .inl (tc 0, 10, .inl (fun _ => 0))), (q_2, .inl (tc 0, 10, .inl (fun _ => 0))), (q_3, .inl (tc 0, 6, .inl (fun _ => 0))), (q_4, .inl (tc 0, 6, .inl (fun _ => 0))), (q_5, .inl (tc 0, 6, .inl (fun _ => 0))), (q_6, .inl (tc 0, 6, .inl (fun _ => 0))), (q_7, .inl (tc 0, 6, .inl (fun _ => 0))), (q_8, .inl (tc 0, 6, .inl (fun _ => 0)))] H := hP₀
  replace hD : va_D A [(h0, .inr (9, [.int 0, .int 0, .int 0, .int 0, .int 0, .int 0, .ref q_1, .ref q_2, .ref q_3, .ref q_4, .ref q_5, .ref q_6, .ref q_7, .null])), (q_1, .inl (tc 0, 10, .inl (fun _ => 0))), (q_2, .inl (tc 0, 10, .inl (fun _ => 0))), (q_3, .inl (tc 0, 6, .inl (fun _ => 0))), (q_4, .inl (tc 0, 6, .inl (fun _ => 0))), (q_5, .inl (tc 0, 6, .inl (fun _ => 0))), (q_6, .inl (tc 0, 6, .inl (fun _ => 0))), (q_7, .inl (tc 0, 6, .inl (fun _ => 0))), (q_8, .inl (tc 0, 6, .inl (fun _ => 0)))] := hD₀
  replace hS := hS₀
  clear hP₀ hD₀ hS₀
  refine pf_X9_52 (ty := (.array .int)) hx hb hts hown hin hK hP hD hS 0 rfl (Nat.le_of_ble_eq_true rfl) (by decide +kernel) rfl rfl dX9_init_95 (fun H locs hP₀ hD₀ hS₀ => ?_)
  replace hP : va_P D classes [(h0, .inr (9, [.int 0, .int 0, .int 0, .int 0, .int 0, .int 0, .ref q_1, .ref q_2, .ref q_3, .ref q_4, .ref q_5, .ref q_6, .ref q_7, .ref q_8])), (q_1, .inl (tc 0, 10, .inl (fun _ => 0))), (q_2, .inl (tc 0, 10, .inl (fun _ => 0))), (q_3, .inl (tc 0, 6, .inl (fun _ => 0))), (q_4, .inl (tc 0, 6, .inl (fun _ => 0))), (q_5, .inl (tc 0, 6, .inl (fun _ => 0))), (q_6, .inl (tc 0, 6, .inl (fun _ => 0))), (q_7, .inl (tc 0, 6, .inl (fun _ => 0))), (q_8, .inl (tc 0, 6, .inl (fun _ => 0)))] H := hP₀
  replace hD : va_D A [(h0, .inr (9, [.int 0, .int 0, .int 0, .int 0, .int 0, .int 0, .ref q_1, .ref q_2, .ref q_3, .ref q_4, .ref q_5, .ref q_6, .ref q_7, .ref q_8])), (q_1, .inl (tc 0, 10, .inl (fun _ => 0))), (q_2, .inl (tc 0, 10, .inl (fun _ => 0))), (q_3, .inl (tc 0, 6, .inl (fun _ => 0))), (q_4, .inl (tc 0, 6, .inl (fun _ => 0))), (q_5, .inl (tc 0, 6, .inl (fun _ => 0))), (q_6, .inl (tc 0, 6, .inl (fun _ => 0))), (q_7, .inl (tc 0, 6, .inl (fun _ => 0))), (q_8, .inl (tc 0, 6, .inl (fun _ => 0)))] := hD₀
  replace hS := hS₀
  clear hP₀ hD₀ hS₀
  exact retV hx hb hr hlk hP hD hS (q_1, q_2, q_3, q_4, q_5, q_6, q_7, q_8) rfl [0, 1, 2, 3, 4, 5, 6, 7, 8] rfl rfl dX9_init_98 (Nat.le_of_ble_eq_true rfl) (Nat.le_of_ble_eq_true rfl) rfl
set_option maxHeartbeats 4000000 in
set_option maxRecDepth 100000 in
theorem ct_X10_init (l : Launch) (D : va_G) (tc : Nat → ClassId) (sk : (Nat → Nat) × (Nat → Nat)) (h0 : Nat)  : Ct l yX10_init cX10_init 1 none { frames := 1, cells := 1, slots := 400, locals := 12 } D tc sk [.ref h0] [(h0, .inr (10, [.null, .int 0, .int 0, .int 0, .int 0, .int 0]))] (fun (v : Option Value) (b1 : Nat) => v = none) (fun (b1 : Nat) => [(h0, .inr (10, [.ref b1, .int 0, .int 0, .int 0, .int (-1), .int 0])), (b1, .inl (tc 0, 400, .inl (fun _ => 0)))]) 1 400 := by
  refine Ct.start (by decide) (Nat.le_of_ble_eq_true rfl) (fun p e s m below meth c A ls hx hb hr hlk hin hml hown hts hK hX hP hD hA hl hS => ?_)
  have hl : lv_has ls 1 [(0, .ref h0)] := hl
  refine lv_aload_n hx hb dX10_init_0 rfl (lv_at hl 0 rfl) ?_
  refine W.objInit hx hb hown (hts _ k_129) (hts _ k_122) (hts _ k_123) rfl (by rw [hml]; exact hl.1) rfl dX10_init_1 (Nat.le_of_ble_eq_true rfl) (Nat.le_of_ble_eq_true rfl) ?_
  refine W.eq (g2 := F0 m 4 ls []) rfl ?_
  refine lv_aload_n hx hb dX10_init_4 rfl (lv_at hl 0 rfl) ?_
  refine lv_sipush (v := 400) hx hb dX10_init_5 (by decide) ?_
  refine nwA (atype := .int) (a0 := (400, .inl (fun _ => 0))) hx hb (hts _ k_156) rfl hK hP hD hS hA 0 rfl (fun _ => rfl) (by decide) (by decide) (by decide) (Nat.le_of_ble_eq_true rfl) (Nat.le_of_ble_eq_true rfl) dX10_init_8 (fun q_1 H hP₀ hD₀ hS₀ => ?_)
  replace hP : va_P D classes [(h0, .inr (10, [.null, .int 0, .int 0, .int 0, .int 0, .int 0])), (q_1, .inl (tc 0, 400, .inl (fun _ => 0)))] H := hP₀
  replace hD : va_D A [(h0, .inr (10, [.null, .int 0, .int 0, .int 0, .int 0, .int 0])), (q_1, .inl (tc 0, 400, .inl (fun _ => 0)))] := hD₀
  replace hS := hS₀
  clear hP₀ hD₀ hS₀
  refine pf_X10_9 (ty := (.array .int)) hx hb hts hown hin hK hP hD hS 0 rfl (Nat.le_of_ble_eq_true rfl) (by decide +kernel) rfl rfl dX10_init_10 (fun H locs hP₀ hD₀ hS₀ => ?_)
  replace hP : va_P D classes [(h0, .inr (10, [.ref q_1, .int 0, .int 0, .int 0, .int 0, .int 0])), (q_1, .inl (tc 0, 400, .inl (fun _ => 0)))] H := hP₀
  replace hD : va_D A [(h0, .inr (10, [.ref q_1, .int 0, .int 0, .int 0, .int 0, .int 0])), (q_1, .inl (tc 0, 400, .inl (fun _ => 0)))] := hD₀
  replace hS := hS₀
  clear hP₀ hD₀ hS₀
  refine lv_aload_n hx hb dX10_init_13 rfl (lv_at hl 0 rfl) ?_
  refine lv_iconst (v := 0) hx hb dX10_init_14 (by decide) ?_
  refine pf_X10_15 hx hb hts hown hK hP hD hS 0 rfl (Nat.le_of_ble_eq_true rfl) rfl rfl dX10_init_15 (fun H locs hP₀ hD₀ hS₀ => ?_)
  replace hP : va_P D classes [(h0, .inr (10, [.ref q_1, .int 0, .int 0, .int 0, .int 0, .int 0])), (q_1, .inl (tc 0, 400, .inl (fun _ => 0)))] H := hP₀
  replace hD : va_D A [(h0, .inr (10, [.ref q_1, .int 0, .int 0, .int 0, .int 0, .int 0])), (q_1, .inl (tc 0, 400, .inl (fun _ => 0)))] := hD₀
  replace hS := hS₀
  clear hP₀ hD₀ hS₀
  refine lv_aload_n hx hb dX10_init_18 rfl (lv_at hl 0 rfl) ?_
  refine lv_iconst (v := 0) hx hb dX10_init_19 (by decide) ?_
  refine pf_X10_19 hx hb hts hown hK hP hD hS 0 rfl (Nat.le_of_ble_eq_true rfl) rfl rfl dX10_init_20 (fun H locs hP₀ hD₀ hS₀ => ?_)
  replace hP : va_P D classes [(h0, .inr (10, [.ref q_1, .int 0, .int 0, .int 0, .int 0, .int 0])), (q_1, .inl (tc 0, 400, .inl (fun _ => 0)))] H := hP₀
  replace hD : va_D A [(h0, .inr (10, [.ref q_1, .int 0, .int 0, .int 0, .int 0, .int 0])), (q_1, .inl (tc 0, 400, .inl (fun _ => 0)))] := hD₀
  replace hS := hS₀
  clear hP₀ hD₀ hS₀
  refine lv_aload_n hx hb dX10_init_23 rfl (lv_at hl 0 rfl) ?_
  refine lv_iconst (v := 0) hx hb dX10_init_24 (by decide) ?_
  refine pf_X10_22 hx hb hts hown hK hP hD hS 0 rfl (Nat.le_of_ble_eq_true rfl) rfl rfl dX10_init_25 (fun H locs hP₀ hD₀ hS₀ => ?_)
  replace hP : va_P D classes [(h0, .inr (10, [.ref q_1, .int 0, .int 0, .int 0, .int 0, .int 0])), (q_1, .inl (tc 0, 400, .inl (fun _ => 0)))] H := hP₀
  replace hD : va_D A [(h0, .inr (10, [.ref q_1, .int 0, .int 0, .int 0, .int 0, .int 0])), (q_1, .inl (tc 0, 400, .inl (fun _ => 0)))] := hD₀
  replace hS := hS₀
  clear hP₀ hD₀ hS₀
  refine lv_aload_n hx hb dX10_init_28 rfl (lv_at hl 0 rfl) ?_
  refine lv_iconst (v := (-1)) hx hb dX10_init_29 (by decide) ?_
  refine pf_X10_25 hx hb hts hown hK hP hD hS 0 rfl (Nat.le_of_ble_eq_true rfl) rfl rfl dX10_init_30 (fun H locs hP₀ hD₀ hS₀ => ?_)
  replace hP : va_P D classes [(h0, .inr (10, [.ref q_1, .int 0, .int 0, .int 0, .int (-1), .int 0])), (q_1, .inl (tc 0, 400, .inl (fun _ => 0)))] H := hP₀
  replace hD : va_D A [(h0, .inr (10, [.ref q_1, .int 0, .int 0, .int 0, .int (-1), .int 0])), (q_1, .inl (tc 0, 400, .inl (fun _ => 0)))] := hD₀
  replace hS := hS₀
  clear hP₀ hD₀ hS₀
  refine lv_aload_n hx hb dX10_init_33 rfl (lv_at hl 0 rfl) ?_
  refine lv_iconst (v := 0) hx hb dX10_init_34 (by decide) ?_
  refine pf_X10_28 hx hb hts hown hK hP hD hS 0 rfl (Nat.le_of_ble_eq_true rfl) rfl rfl dX10_init_35 (fun H locs hP₀ hD₀ hS₀ => ?_)
  replace hP : va_P D classes [(h0, .inr (10, [.ref q_1, .int 0, .int 0, .int 0, .int (-1), .int 0])), (q_1, .inl (tc 0, 400, .inl (fun _ => 0)))] H := hP₀
  replace hD : va_D A [(h0, .inr (10, [.ref q_1, .int 0, .int 0, .int 0, .int (-1), .int 0])), (q_1, .inl (tc 0, 400, .inl (fun _ => 0)))] := hD₀
  replace hS := hS₀
  clear hP₀ hD₀ hS₀
  exact retV hx hb hr hlk hP hD hS q_1 rfl [0, 1] rfl rfl dX10_init_38 (Nat.le_of_ble_eq_true rfl) (Nat.le_of_ble_eq_true rfl) rfl
set_option maxHeartbeats 4000000 in
set_option maxRecDepth 100000 in
theorem ct_X3_init (l : Launch) (D : va_G) (tc : Nat → ClassId) (sk : (Nat → Nat) × (Nat → Nat)) (h0 : Nat)  : Ct l yX3_init cX3_init 1 none { frames := 1, cells := 3, slots := 30, locals := 12 } D tc sk [.ref h0] [(h0, .inr (3, [.null, .null, .null, .int 0]))] (fun (v : Option Value) (u : (Nat) × (Nat) × (Nat)) => match u with | (b1, b2, b3) => v = none) (fun (u : (Nat) × (Nat) × (Nat)) => match u with | (b1, b2, b3) => [(h0, .inr (3, [.ref b1, .ref b2, .ref b3, .int 0])), (b1, .inl (tc 0, 10, .inl (fun _ => 0))), (b2, .inl (tc 0, 10, .inl (fun _ => 0))), (b3, .inl (tc 0, 10, .inl (fun _ => 0)))]) 3 30 := by
  refine Ct.start (by decide) (Nat.le_of_ble_eq_true rfl) (fun p e s m below meth c A ls hx hb hr hlk hin hml hown hts hK hX hP hD hA hl hS => ?_)
  have hl : lv_has ls 1 [(0, .ref h0)] := hl
  refine lv_aload_n hx hb dX3_init_0 rfl (lv_at hl 0 rfl) ?_
  refine W.objInit hx hb hown (hts _ k_283) (hts _ k_122) (hts _ k_123) rfl (by rw [hml]; exact hl.1) rfl dX3_init_1 (Nat.le_of_ble_eq_true rfl) (Nat.le_of_ble_eq_true rfl) ?_
  refine W.eq (g2 := F0 m 4 ls []) rfl ?_
  refine lv_aload_n hx hb dX3_init_4 rfl (lv_at hl 0 rfl) ?_
  refine lv_bipush (v := 10) hx hb dX3_init_5 (by decide) ?_
  refine nwA (atype := .int) (a0 := (10, .inl (fun _ => 0))) hx hb (hts _ k_156) rfl hK hP hD hS hA 0 rfl (fun _ => rfl) (by decide) (by decide) (by decide) (Nat.le_of_ble_eq_true rfl) (Nat.le_of_ble_eq_true rfl) dX3_init_7 (fun q_1 H hP₀ hD₀ hS₀ => ?_)
  replace hP : va_P D classes [(h0, .inr (3, [.null, .null, .null, .int 0])), (q_1, .inl (tc 0, 10, .inl (fun _ => 0)))] H := hP₀
  replace hD : va_D A [(h0, .inr (3, [.null, .null, .null, .int 0])), (q_1, .inl (tc 0, 10, .inl (fun _ => 0)))] := hD₀
  replace hS := hS₀
  clear hP₀ hD₀ hS₀
  refine pf_X3_9 (ty := (.array .int)) hx hb hts hown hin hK hP hD hS 0 rfl (Nat.le_of_ble_eq_true rfl) (by decide +kernel) rfl rfl dX3_init_9 (fun H locs hP₀ hD₀ hS₀ => ?_)
  replace hP : va_P D classes [(h0, .inr (3, [.ref q_1, .null, .null, .int 0])), (q_1, .inl (tc 0, 10, .inl (fun _ => 0)))] H := hP₀
  replace hD : va_D A [(h0, .inr (3, [.ref q_1, .null, .null, .int 0])), (q_1, .inl (tc 0, 10, .inl (fun _ => 0)))] := hD₀
  replace hS := hS₀
  clear hP₀ hD₀ hS₀
  refine lv_aload_n hx hb dX3_init_12 rfl (lv_at hl 0 rfl) ?_
  refine lv_bipush (v := 10) hx hb dX3_init_13 (by decide) ?_
  refine nwA (atype := .int) (a0 := (10, .inl (fun _ => 0))) hx hb (hts _ k_156) rfl hK hP hD hS hA 0 rfl (fun _ => rfl) (by decide) (by decide) (by decide) (Nat.le_of_ble_eq_true rfl) (Nat.le_of_ble_eq_true rfl) dX3_init_15 (fun q_2 H hP₀ hD₀ hS₀ => ?_)
  replace hP : va_P D classes [(h0, .inr (3, [.ref q_1, .null, .null, .int 0])), (q_1, .inl (tc 0, 10, .inl (fun _ => 0))), (q_2, .inl (tc 0, 10, .inl (fun _ => 0)))] H := hP₀
  replace hD : va_D A [(h0, .inr (3, [.ref q_1, .null, .null, .int 0])), (q_1, .inl (tc 0, 10, .inl (fun _ => 0))), (q_2, .inl (tc 0, 10, .inl (fun _ => 0)))] := hD₀
  replace hS := hS₀
  clear hP₀ hD₀ hS₀
  refine pf_X3_13 (ty := (.array .int)) hx hb hts hown hin hK hP hD hS 0 rfl (Nat.le_of_ble_eq_true rfl) (by decide +kernel) rfl rfl dX3_init_17 (fun H locs hP₀ hD₀ hS₀ => ?_)
  replace hP : va_P D classes [(h0, .inr (3, [.ref q_1, .ref q_2, .null, .int 0])), (q_1, .inl (tc 0, 10, .inl (fun _ => 0))), (q_2, .inl (tc 0, 10, .inl (fun _ => 0)))] H := hP₀
  replace hD : va_D A [(h0, .inr (3, [.ref q_1, .ref q_2, .null, .int 0])), (q_1, .inl (tc 0, 10, .inl (fun _ => 0))), (q_2, .inl (tc 0, 10, .inl (fun _ => 0)))] := hD₀
  replace hS := hS₀
  clear hP₀ hD₀ hS₀
  refine lv_aload_n hx hb dX3_init_20 rfl (lv_at hl 0 rfl) ?_
  refine lv_bipush (v := 10) hx hb dX3_init_21 (by decide) ?_
  refine nwA (atype := .int) (a0 := (10, .inl (fun _ => 0))) hx hb (hts _ k_156) rfl hK hP hD hS hA 0 rfl (fun _ => rfl) (by decide) (by decide) (by decide) (Nat.le_of_ble_eq_true rfl) (Nat.le_of_ble_eq_true rfl) dX3_init_23 (fun q_3 H hP₀ hD₀ hS₀ => ?_)
  replace hP : va_P D classes [(h0, .inr (3, [.ref q_1, .ref q_2, .null, .int 0])), (q_1, .inl (tc 0, 10, .inl (fun _ => 0))), (q_2, .inl (tc 0, 10, .inl (fun _ => 0))), (q_3, .inl (tc 0, 10, .inl (fun _ => 0)))] H := hP₀
  replace hD : va_D A [(h0, .inr (3, [.ref q_1, .ref q_2, .null, .int 0])), (q_1, .inl (tc 0, 10, .inl (fun _ => 0))), (q_2, .inl (tc 0, 10, .inl (fun _ => 0))), (q_3, .inl (tc 0, 10, .inl (fun _ => 0)))] := hD₀
  replace hS := hS₀
  clear hP₀ hD₀ hS₀
  refine pf_X3_16 (ty := (.array .int)) hx hb hts hown hin hK hP hD hS 0 rfl (Nat.le_of_ble_eq_true rfl) (by decide +kernel) rfl rfl dX3_init_25 (fun H locs hP₀ hD₀ hS₀ => ?_)
  replace hP : va_P D classes [(h0, .inr (3, [.ref q_1, .ref q_2, .ref q_3, .int 0])), (q_1, .inl (tc 0, 10, .inl (fun _ => 0))), (q_2, .inl (tc 0, 10, .inl (fun _ => 0))), (q_3, .inl (tc 0, 10, .inl (fun _ => 0)))] H := hP₀
  replace hD : va_D A [(h0, .inr (3, [.ref q_1, .ref q_2, .ref q_3, .int 0])), (q_1, .inl (tc 0, 10, .inl (fun _ => 0))), (q_2, .inl (tc 0, 10, .inl (fun _ => 0))), (q_3, .inl (tc 0, 10, .inl (fun _ => 0)))] := hD₀
  replace hS := hS₀
  clear hP₀ hD₀ hS₀
  refine lv_aload_n hx hb dX3_init_28 rfl (lv_at hl 0 rfl) ?_
  refine lv_iconst (v := 0) hx hb dX3_init_29 (by decide) ?_
  refine pf_X3_19 hx hb hts hown hK hP hD hS 0 rfl (Nat.le_of_ble_eq_true rfl) rfl rfl dX3_init_30 (fun H locs hP₀ hD₀ hS₀ => ?_)
  replace hP : va_P D classes [(h0, .inr (3, [.ref q_1, .ref q_2, .ref q_3, .int 0])), (q_1, .inl (tc 0, 10, .inl (fun _ => 0))), (q_2, .inl (tc 0, 10, .inl (fun _ => 0))), (q_3, .inl (tc 0, 10, .inl (fun _ => 0)))] H := hP₀
  replace hD : va_D A [(h0, .inr (3, [.ref q_1, .ref q_2, .ref q_3, .int 0])), (q_1, .inl (tc 0, 10, .inl (fun _ => 0))), (q_2, .inl (tc 0, 10, .inl (fun _ => 0))), (q_3, .inl (tc 0, 10, .inl (fun _ => 0)))] := hD₀
  replace hS := hS₀
  clear hP₀ hD₀ hS₀
  exact retV hx hb hr hlk hP hD hS (q_1, q_2, q_3) rfl [0, 1, 2, 3] rfl rfl dX3_init_33 (Nat.le_of_ble_eq_true rfl) (Nat.le_of_ble_eq_true rfl) rfl
set_option maxHeartbeats 4000000 in
set_option maxRecDepth 100000 in
theorem ct_X0_init (l : Launch) (D : va_G) (tc : Nat → ClassId) (sk : (Nat → Nat) × (Nat → Nat)) (h0 : Nat)  : Ct l yX0_init cX0_init 1 none { frames := 2, cells := 9, slots := 70, locals := 32 } D tc sk [.ref h0] [(h0, .inr (0, [.null]))] (fun (v : Option Value) (u : (Nat) × (Nat) × (Nat) × (Nat) × (Nat) × (Nat) × (Nat) × (Nat) × (Nat)) => match u with | (b0, b1, b2, b3, b4, b5, b6, b7, b8) => v = none) (fun (u : (Nat) × (Nat) × (Nat) × (Nat) × (Nat) × (Nat) × (Nat) × (Nat) × (Nat)) => match u with | (b0, b1, b2, b3, b4, b5, b6, b7, b8) => [(h0, .inr (0, [.ref b0])), (b0, .inr (9, [.int 0, .int 0, .int 0, .int 0, .int 0, .int 0, .ref b1, .ref b2, .ref b3, .ref b4, .ref b5, .ref b6, .ref b7, .ref b8])), (b1, .inl (tc 0, 10, .inl (fun _ => 0))), (b2, .inl (tc 0, 10, .inl (fun _ => 0))), (b3, .inl (tc 0, 6, .inl (fun _ => 0))), (b4, .inl (tc 0, 6, .inl (fun _ => 0))), (b5, .inl (tc 0, 6, .inl (fun _ => 0))), (b6, .inl (tc 0, 6, .inl (fun _ => 0))), (b7, .inl (tc 0, 6, .inl (fun _ => 0))), (b8, .inl (tc 0, 6, .inl (fun _ => 0)))]) 9 70 := by
  refine Ct.start (by decide) (Nat.le_of_ble_eq_true rfl) (fun p e s m below meth c A ls hx hb hr hlk hin hml hown hts hK hX hP hD hA hl hS => ?_)
  have hl : lv_has ls 1 [(0, .ref h0)] := hl
  refine lv_aload_n hx hb dX0_init_0 rfl (lv_at hl 0 rfl) ?_
  refine W.objInit hx hb hown (hts _ k_162) (hts _ k_122) (hts _ k_123) rfl (by rw [hml]; exact hl.1) rfl dX0_init_1 (Nat.le_of_ble_eq_true rfl) (Nat.le_of_ble_eq_true rfl) ?_
  refine W.eq (g2 := F0 m 4 ls []) rfl ?_
  refine lv_aload_n hx hb dX0_init_4 rfl (lv_at hl 0 rfl) ?_
  refine va_new (ci := 9) (fs := [.int 0, .int 0, .int 0, .int 0, .int 0, .int 0, .null, .null, .null, .null, .null, .null, .null, .null]) (C := RX9) (T := TX9) (N := 14) hx hb hts iX9 tyX9 tyX9_ok hown (hts _ k_163) (hts _ k_164) (hts _ k_98) hK hP hD hS hA rfl dfX9 (Nat.le_of_ble_eq_true rfl) (Nat.le_of_ble_eq_true rfl) dX0_init_5 (fun q_1 H hP₀ hD₀ hS₀ => ?_)
  replace hP : va_P D classes [(h0, .inr (0, [.null])), (q_1, .inr (9, [.int 0, .int 0, .int 0, .int 0, .int 0, .int 0, .null, .null, .null, .null, .null, .null, .null, .null]))] H := hP₀
  replace hD : va_D A [(h0, .inr (0, [.null])), (q_1, .inr (9, [.int 0, .int 0, .int 0, .int 0, .int 0, .int 0, .null, .null, .null, .null, .null, .null, .null, .null]))] := hD₀
  replace hS := hS₀
  clear hP₀ hD₀ hS₀
  refine lv_dup hx hb dX0_init_8 rfl ?_
  refine cN (a := q_1) (As := []) (rest := [.ref q_1, .ref h0]) (wr := [(h0, .inr (0, [.null]))]) ⟨hx, hb, hml, hown, hts⟩ hK hX hA (ct_X9_init l D tc sk q_1) k_167 (by decide) k_166 k_98 rfl pl_X9_init ⟨Nat.le_of_ble_eq_true rfl, Nat.le_of_ble_eq_true rfl⟩ rfl rfl  hP hD hS [1] [0] rfl rfl rfl rfl rfl (by decide) rfl hl.1 rfl (Nat.le_of_ble_eq_true rfl) dX0_init_9 ⟨Nat.le_of_ble_eq_true rfl, Nat.le_of_ble_eq_true rfl⟩ (fun v_2 u_3 H locs hv_4 hP₀ hD₀ hS₀ => ?_)
  obtain ⟨b_5, b_6, b_7, b_8, b_9, b_10, b_11, b_12⟩ := u_3
  obtain rfl : v_2 = none := hv_4
  refine W.eq (g2 := F0 m 12 ls [.ref q_1, .ref h0]) rfl ?_
  replace hP : va_P D classes [(h0, .inr (0, [.null])), (q_1, .inr (9, [.int 0, .int 0, .int 0, .int 0, .int 0, .int 0, .ref b_5, .ref b_6, .ref b_7, .ref b_8, .ref b_9, .ref b_10, .ref b_11, .ref b_12])), (b_5, .inl (tc 0, 10, .inl (fun _ => 0))), (b_6, .inl (tc 0, 10, .inl (fun _ => 0))), (b_7, .inl (tc 0, 6, .inl (fun _ => 0))), (b_8, .inl (tc 0, 6, .inl (fun _ => 0))), (b_9, .inl (tc 0, 6, .inl (fun _ => 0))), (b_10, .inl (tc 0, 6, .inl (fun _ => 0))), (b_11, .inl (tc 0, 6, .inl (fun _ => 0))), (b_12, .inl (tc 0, 6, .inl (fun _ => 0)))] H := hP₀
  replace hD : va_D A [(h0, .inr (0, [.null])), (q_1, .inr (9, [.int 0, .int 0, .int 0, .int 0, .int 0, .int 0, .ref b_5, .ref b_6, .ref b_7, .ref b_8, .ref b_9, .ref b_10, .ref b_11, .ref b_12])), (b_5, .inl (tc 0, 10, .inl (fun _ => 0))), (b_6, .inl (tc 0, 10, .inl (fun _ => 0))), (b_7, .inl (tc 0, 6, .inl (fun _ => 0))), (b_8, .inl (tc 0, 6, .inl (fun _ => 0))), (b_9, .inl (tc 0, 6, .inl (fun _ => 0))), (b_10, .inl (tc 0, 6, .inl (fun _ => 0))), (b_11, .inl (tc 0, 6, .inl (fun _ => 0))), (b_12, .inl (tc 0, 6, .inl (fun _ => 0)))] := hD₀
  replace hS := hS₀
  clear hP₀ hD₀ hS₀
  refine pf_X0_12 (ty := (.object "PoisonBook$Shop")) hx hb hts hown hin hK hP hD hS 0 rfl (Nat.le_of_ble_eq_true rfl) (by decide +kernel) rfl rfl dX0_init_12 (fun H locs hP₀ hD₀ hS₀ => ?_)
  replace hP : va_P D classes [(h0, .inr (0, [.ref q_1])), (q_1, .inr (9, [.int 0, .int 0, .int 0, .int 0, .int 0, .int 0, .ref b_5, .ref b_6, .ref b_7, .ref b_8, .ref b_9, .ref b_10, .ref b_11, .ref b_12])), (b_5, .inl (tc 0, 10, .inl (fun _ => 0))), (b_6, .inl (tc 0, 10, .inl (fun _ => 0))), (b_7, .inl (tc 0, 6, .inl (fun _ => 0))), (b_8, .inl (tc 0, 6, .inl (fun _ => 0))), (b_9, .inl (tc 0, 6, .inl (fun _ => 0))), (b_10, .inl (tc 0, 6, .inl (fun _ => 0))), (b_11, .inl (tc 0, 6, .inl (fun _ => 0))), (b_12, .inl (tc 0, 6, .inl (fun _ => 0)))] H := hP₀
  replace hD : va_D A [(h0, .inr (0, [.ref q_1])), (q_1, .inr (9, [.int 0, .int 0, .int 0, .int 0, .int 0, .int 0, .ref b_5, .ref b_6, .ref b_7, .ref b_8, .ref b_9, .ref b_10, .ref b_11, .ref b_12])), (b_5, .inl (tc 0, 10, .inl (fun _ => 0))), (b_6, .inl (tc 0, 10, .inl (fun _ => 0))), (b_7, .inl (tc 0, 6, .inl (fun _ => 0))), (b_8, .inl (tc 0, 6, .inl (fun _ => 0))), (b_9, .inl (tc 0, 6, .inl (fun _ => 0))), (b_10, .inl (tc 0, 6, .inl (fun _ => 0))), (b_11, .inl (tc 0, 6, .inl (fun _ => 0))), (b_12, .inl (tc 0, 6, .inl (fun _ => 0)))] := hD₀
  replace hS := hS₀
  clear hP₀ hD₀ hS₀
  exact retV hx hb hr hlk hP hD hS (q_1, b_5, b_6, b_7, b_8, b_9, b_10, b_11, b_12) rfl [0, 1, 2, 3, 4, 5, 6, 7, 8, 9] rfl rfl dX0_init_15 (Nat.le_of_ble_eq_true rfl) (Nat.le_of_ble_eq_true rfl) rfl
set_option maxHeartbeats 4000000 in
set_option maxRecDepth 100000 in
theorem ct_X7_init (l : Launch) (D : va_G) (tc : Nat → ClassId) (sk : (Nat → Nat) × (Nat → Nat)) (h0 : Nat)  : Ct l yX7_init cX7_init 1 none { frames := 1, cells := 1, slots := 400, locals := 12 } D tc sk [.ref h0] [(h0, .inr (7, [.null, .int 0, .int 0]))] (fun (v : Option Value) (b1 : Nat) => v = none) (fun (b1 : Nat) => [(h0, .inr (7, [.ref b1, .int 0, .int 0])), (b1, .inl (tc 0, 400, .inl (fun _ => 0)))]) 1 400 := by
  refine Ct.start (by decide) (Nat.le_of_ble_eq_true rfl) (fun p e s m below meth c A ls hx hb hr hlk hin hml hown hts hK hX hP hD hA hl hS => ?_)
  have hl : lv_has ls 1 [(0, .ref h0)] := hl
  refine lv_aload_n hx hb dX7_init_0 rfl (lv_at hl 0 rfl) ?_
  refine W.objInit hx hb hown (hts _ k_257) (hts _ k_122) (hts _ k_123) rfl (by rw [hml]; exact hl.1) rfl dX7_init_1 (Nat.le_of_ble_eq_true rfl) (Nat.le_of_ble_eq_true rfl) ?_
  refine W.eq (g2 := F0 m 4 ls []) rfl ?_
  refine lv_aload_n hx hb dX7_init_4 rfl (lv_at hl 0 rfl) ?_
  refine lv_sipush (v := 400) hx hb dX7_init_5 (by decide) ?_
  refine nwA (atype := .int) (a0 := (400, .inl (fun _ => 0))) hx hb (hts _ k_156) rfl hK hP hD hS hA 0 rfl (fun _ => rfl) (by decide) (by decide) (by decide) (Nat.le_of_ble_eq_true rfl) (Nat.le_of_ble_eq_true rfl) dX7_init_8 (fun q_1 H hP₀ hD₀ hS₀ => ?_)
  replace hP : va_P D classes [(h0, .inr (7, [.null, .int 0, .int 0])), (q_1, .inl (tc 0, 400, .inl (fun _ => 0)))] H := hP₀
  replace hD : va_D A [(h0, .inr (7, [.null, .int 0, .int 0])), (q_1, .inl (tc 0, 400, .inl (fun _ => 0)))] := hD₀
  replace hS := hS₀
  clear hP₀ hD₀ hS₀
  refine pf_X7_9 (ty := (.array .int)) hx hb hts hown hin hK hP hD hS 0 rfl (Nat.le_of_ble_eq_true rfl) (by decide +kernel) rfl rfl dX7_init_10 (fun H locs hP₀ hD₀ hS₀ => ?_)
  replace hP : va_P D classes [(h0, .inr (7, [.ref q_1, .int 0, .int 0])), (q_1, .inl (tc 0, 400, .inl (fun _ => 0)))] H := hP₀
  replace hD : va_D A [(h0, .inr (7, [.ref q_1, .int 0, .int 0])), (q_1, .inl (tc 0, 400, .inl (fun _ => 0)))] := hD₀
  replace hS := hS₀
  clear hP₀ hD₀ hS₀
  refine lv_aload_n hx hb dX7_init_13 rfl (lv_at hl 0 rfl) ?_
  refine lv_iconst (v := 0) hx hb dX7_init_14 (by decide) ?_
  refine pf_X7_15 hx hb hts hown hK hP hD hS 0 rfl (Nat.le_of_ble_eq_true rfl) rfl rfl dX7_init_15 (fun H locs hP₀ hD₀ hS₀ => ?_)
  replace hP : va_P D classes [(h0, .inr (7, [.ref q_1, .int 0, .int 0])), (q_1, .inl (tc 0, 400, .inl (fun _ => 0)))] H := hP₀
  replace hD : va_D A [(h0, .inr (7, [.ref q_1, .int 0, .int 0])), (q_1, .inl (tc 0, 400, .inl (fun _ => 0)))] := hD₀
  replace hS := hS₀
  clear hP₀ hD₀ hS₀
  refine lv_aload_n hx hb dX7_init_18 rfl (lv_at hl 0 rfl) ?_
  refine lv_iconst (v := 0) hx hb dX7_init_19 (by decide) ?_
  refine pf_X7_19 hx hb hts hown hK hP hD hS 0 rfl (Nat.le_of_ble_eq_true rfl) rfl rfl dX7_init_20 (fun H locs hP₀ hD₀ hS₀ => ?_)
  replace hP : va_P D classes [(h0, .inr (7, [.ref q_1, .int 0, .int 0])), (q_1, .inl (tc 0, 400, .inl (fun _ => 0)))] H := hP₀
  replace hD : va_D A [(h0, .inr (7, [.ref q_1, .int 0, .int 0])), (q_1, .inl (tc 0, 400, .inl (fun _ => 0)))] := hD₀
  replace hS := hS₀
  clear hP₀ hD₀ hS₀
  exact retV hx hb hr hlk hP hD hS q_1 rfl [0, 1] rfl rfl dX7_init_23 (Nat.le_of_ble_eq_true rfl) (Nat.le_of_ble_eq_true rfl) rfl
set_option maxHeartbeats 4000000 in
set_option maxRecDepth 100000 in
theorem ct_X8_init (l : Launch) (D : va_G) (tc : Nat → ClassId) (sk : (Nat → Nat) × (Nat → Nat)) (h0 : Nat)  : Ct l yX8_init cX8_init 1 none { frames := 2, cells := 22, slots := 174, locals := 32 } D tc sk [.ref h0] [(h0, .inr (8, [.null, .null, .null, .int 0, .int 0]))] (fun (v : Option Value) (u : (Nat) × (Nat) × (Nat) × (Nat) × (Nat) × (Nat) × (Nat) × (Nat) × (Nat) × (Nat) × (Nat) × (Nat) × (Nat) × (Nat) × (Nat) × (Nat) × (Nat) × (Nat) × (Nat) × (Nat) × (Nat) × (Nat)) => match u with | (e0, e1, e2, e3, e4, e5, e6, e7, e8, f0, f1, f2, f3, f4, f5, f6, f7, f8, g0, g1, g2, g3) => v = none) (fun (u : (Nat) × (Nat) × (Nat) × (Nat) × (Nat) × (Nat) × (Nat) × (Nat) × (Nat) × (Nat) × (Nat) × (Nat) × (Nat) × (Nat) × (Nat) × (Nat) × (Nat) × (Nat) × (Nat) × (Nat) × (Nat) × (Nat)) => match u with | (e0, e1, e2, e3, e4, e5, e6, e7, e8, f0, f1, f2, f3, f4, f5, f6, f7, f8, g0, g1, g2, g3) => [(h0, .inr (8, [.ref e0, .ref f0, .ref g0, .int (-1), .int 0])), (e0, .inr (9, [.int 0, .int 0, .int 0, .int 0, .int 0, .int 0, .ref e1, .ref e2, .ref e3, .ref e4, .ref e5, .ref e6, .ref e7, .ref e8])), (e1, .inl (tc 0, 10, .inl (fun _ => 0))), (e2, .inl (tc 0, 10, .inl (fun _ => 0))), (e3, .inl (tc 0, 6, .inl (fun _ => 0))), (e4, .inl (tc 0, 6, .inl (fun _ => 0))), (e5, .inl (tc 0, 6, .inl (fun _ => 0))), (e6, .inl (tc 0, 6, .inl (fun _ => 0))), (e7, .inl (tc 0, 6, .inl (fun _ => 0))), (e8, .inl (tc 0, 6, .inl (fun _ => 0))), (f0, .inr (9, [.int 0, .int 0, .int 0, .int 0, .int 0, .int 0, .ref f1, .ref f2, .ref f3, .ref f4, .ref f5, .ref f6, .ref f7, .ref f8])), (f1, .inl (tc 0, 10, .inl (fun _ => 0))), (f2, .inl (tc 0, 10, .inl (fun _ => 0))), (f3, .inl (tc 0, 6, .inl (fun _ => 0))), (f4, .inl (tc 0, 6, .inl (fun _ => 0))), (f5, .inl (tc 0, 6, .inl (fun _ => 0))), (f6, .inl (tc 0, 6, .inl (fun _ => 0))), (f7, .inl (tc 0, 6, .inl (fun _ => 0))), (f8, .inl (tc 0, 6, .inl (fun _ => 0))), (g0, .inr (3, [.ref g1, .ref g2, .ref g3, .int 0])), (g1, .inl (tc 0, 10, .inl (fun _ => 0))), (g2, .inl (tc 0, 10, .inl (fun _ => 0))), (g3, .inl (tc 0, 10, .inl (fun _ => 0)))]) 22 174 := by
  refine Ct.start (by decide) (Nat.le_of_ble_eq_true rfl) (fun p e s m below meth c A ls hx hb hr hlk hin hml hown hts hK hX hP hD hA hl hS => ?_)
  have hl : lv_has ls 1 [(0, .ref h0)] := hl
  refine lv_aload_n hx hb dX8_init_0 rfl (lv_at hl 0 rfl) ?_
  refine W.objInit hx hb hown (hts _ k_275) (hts _ k_122) (hts _ k_123) rfl (by rw [hml]; exact hl.1) rfl dX8_init_1 (Nat.le_of_ble_eq_true rfl) (Nat.le_of_ble_eq_true rfl) ?_
  refine W.eq (g2 := F0 m 4 ls []) rfl ?_
  refine lv_aload_n hx hb dX8_init_4 rfl (lv_at hl 0 rfl) ?_
  refine va_new (ci := 9) (fs := [.int 0, .int 0, .int 0, .int 0, .int 0, .int 0, .null, .null, .null, .null, .null, .null, .null, .null]) (C := RX9) (T := TX9) (N := 14) hx hb hts iX9 tyX9 tyX9_ok hown (hts _ k_276) (hts _ k_164) (hts _ k_98) hK hP hD hS hA rfl dfX9 (Nat.le_of_ble_eq_true rfl) (Nat.le_of_ble_eq_true rfl) dX8_init_5 (fun q_1 H hP₀ hD₀ hS₀ => ?_)
  replace hP : va_P D classes [(h0, .inr (8, [.null, .null, .null, .int 0, .int 0])), (q_1, .inr (9, [.int 0, .int 0, .int 0, .int 0, .int 0, .int 0, .null, .null, .null, .null, .null, .null, .null, .null]))] H := hP₀
  replace hD : va_D A [(h0, .inr (8, [.null, .null, .null, .int 0, .int 0])), (q_1, .inr (9, [.int 0, .int 0, .int 0, .int 0, .int 0, .int 0, .null, .null, .null, .null, .null, .null, .null, .null]))] := hD₀
  replace hS := hS₀
  clear hP₀ hD₀ hS₀
  refine lv_dup hx hb dX8_init_8 rfl ?_
  refine cN (a := q_1) (As := []) (rest := [.ref q_1, .ref h0]) (wr := [(h0, .inr (8, [.null, .null, .null, .int 0, .int 0]))]) ⟨hx, hb, hml, hown, hts⟩ hK hX hA (ct_X9_init l D tc sk q_1) k_167 (by decide) k_166 k_98 rfl pl_X9_init ⟨Nat.le_of_ble_eq_true rfl, Nat.le_of_ble_eq_true rfl⟩ rfl rfl  hP hD hS [1] [0] rfl rfl rfl rfl rfl (by decide) rfl hl.1 rfl (Nat.le_of_ble_eq_true rfl) dX8_init_9 ⟨Nat.le_of_ble_eq_true rfl, Nat.le_of_ble_eq_true rfl⟩ (fun v_2 u_3 H locs hv_4 hP₀ hD₀ hS₀ => ?_)
  obtain ⟨b_5, b_6, b_7, b_8, b_9, b_10, b_11, b_12⟩ := u_3
  obtain rfl : v_2 = none := hv_4
  refine W.eq (g2 := F0 m 12 ls [.ref q_1, .ref h0]) rfl ?_
  replace hP : va_P D classes [(h0, .inr (8, [.null, .null, .null, .int 0, .int 0])), (q_1, .inr (9, [.int 0, .int 0, .int 0, .int 0, .int 0, .int 0, .ref b_5, .ref b_6, .ref b_7, .ref b_8, .ref b_9, .ref b_10, .ref b_11, .ref b_12])), (b_5, .inl (tc 0, 10, .inl (fun _ => 0))), (b_6, .inl (tc 0, 10, .inl (fun _ => 0))), (b_7, .inl (tc 0, 6, .inl (fun _ => 0))), (b_8, .inl (tc 0, 6, .inl (fun _ => 0))), (b_9, .inl (tc 0, 6, .inl (fun _ => 0))), (b_10, .inl (tc 0, 6, .inl (fun _ => 0))), (b_11, .inl (tc 0, 6, .inl (fun _ => 0))), (b_12, .inl (tc 0, 6, .inl (fun _ => 0)))] H := hP₀
  replace hD : va_D A [(h0, .inr (8, [.null, .null, .null, .int 0, .int 0])), (q_1, .inr (9, [.int 0, .int 0, .int 0, .int 0, .int 0, .int 0, .ref b_5, .ref b_6, .ref b_7, .ref b_8, .ref b_9, .ref b_10, .ref b_11, .ref b_12])), (b_5, .inl (tc 0, 10, .inl (fun _ => 0))), (b_6, .inl (tc 0, 10, .inl (fun _ => 0))), (b_7, .inl (tc 0, 6, .inl (fun _ => 0))), (b_8, .inl (tc 0, 6, .inl (fun _ => 0))), (b_9, .inl (tc 0, 6, .inl (fun _ => 0))), (b_10, .inl (tc 0, 6, .inl (fun _ => 0))), (b_11, .inl (tc 0, 6, .inl (fun _ => 0))), (b_12, .inl (tc 0, 6, .inl (fun _ => 0)))] := hD₀
  replace hS := hS₀
  clear hP₀ hD₀ hS₀
  refine pf_X8_12 (ty := (.object "PoisonBook$Shop")) hx hb hts hown hin hK hP hD hS 0 rfl (Nat.le_of_ble_eq_true rfl) (by decide +kernel) rfl rfl dX8_init_12 (fun H locs hP₀ hD₀ hS₀ => ?_)
  replace hP : va_P D classes [(h0, .inr (8, [.ref q_1, .null, .null, .int 0, .int 0])), (q_1, .inr (9, [.int 0, .int 0, .int 0, .int 0, .int 0, .int 0, .ref b_5, .ref b_6, .ref b_7, .ref b_8, .ref b_9, .ref b_10, .ref b_11, .ref b_12])), (b_5, .inl (tc 0, 10, .inl (fun _ => 0))), (b_6, .inl (tc 0, 10, .inl (fun _ => 0))), (b_7, .inl (tc 0, 6, .inl (fun _ => 0))), (b_8, .inl (tc 0, 6, .inl (fun _ => 0))), (b_9, .inl (tc 0, 6, .inl (fun _ => 0))), (b_10, .inl (tc 0, 6, .inl (fun _ => 0))), (b_11, .inl (tc 0, 6, .inl (fun _ => 0))), (b_12, .inl (tc 0, 6, .inl (fun _ => 0)))] H := hP₀
  replace hD : va_D A [(h0, .inr (8, [.ref q_1, .null, .null, .int 0, .int 0])), (q_1, .inr (9, [.int 0, .int 0, .int 0, .int 0, .int 0, .int 0, .ref b_5, .ref b_6, .ref b_7, .ref b_8, .ref b_9, .ref b_10, .ref b_11, .ref b_12])), (b_5, .inl (tc 0, 10, .inl (fun _ => 0))), (b_6, .inl (tc 0, 10, .inl (fun _ => 0))), (b_7, .inl (tc 0, 6, .inl (fun _ => 0))), (b_8, .inl (tc 0, 6, .inl (fun _ => 0))), (b_9, .inl (tc 0, 6, .inl (fun _ => 0))), (b_10, .inl (tc 0, 6, .inl (fun _ => 0))), (b_11, .inl (tc 0, 6, .inl (fun _ => 0))), (b_12, .inl (tc 0, 6, .inl (fun _ => 0)))] := hD₀
  replace hS := hS₀
  clear hP₀ hD₀ hS₀
  refine lv_aload_n hx hb dX8_init_15 rfl (lv_at hl 0 rfl) ?_
  refine va_new (ci := 9) (fs := [.int 0, .int 0, .int 0, .int 0, .int 0, .int 0, .null, .null, .null, .null, .null, .null, .null, .null]) (C := RX9) (T := TX9) (N := 14) hx hb hts iX9 tyX9 tyX9_ok hown (hts _ k_276) (hts _ k_164) (hts _ k_98) hK hP hD hS hA rfl dfX9 (Nat.le_of_ble_eq_true rfl) (Nat.le_of_ble_eq_true rfl) dX8_init_16 (fun q_13 H hP₀ hD₀ hS₀ => ?_)
  replace hP : va_P D classes [(h0, .inr (8, [.ref q_1, .null, .null, .int 0, .int 0])), (q_1, .inr (9, [.int 0, .int 0, .int 0, .int 0, .int 0, .int 0, .ref b_5, .ref b_6, .ref b_7, .ref b_8, .ref b_9, .ref b_10, .ref b_11, .ref b_12])), (b_5, .inl (tc 0, 10, .inl (fun _ => 0))), (b_6, .inl (tc 0, 10, .inl (fun _ => 0))), (b_7, .inl (tc 0, 6, .inl (fun _ => 0))), (b_8, .inl (tc 0, 6, .inl (fun _ => 0))), (b_9, .inl (tc 0, 6, .inl (fun _ => 0))), (b_10, .inl (tc 0, 6, .inl (fun _ => 0))), (b_11, .inl (tc 0, 6, .inl (fun _ => 0))), (b_12, .inl (tc 0, 6, .inl (fun _ => 0))), (q_13, .inr (9, [.int 0, .int 0, .int 0, .int 0, .int 0, .int 0, .null, .null, .null, .null, .null, .null, .null, .null]))] H := hP₀
  replace hD : va_D A [(h0, .inr (8, [.ref q_1, .null, .null, .int 0, .int 0])), (q_1, .inr (9, [.int 0, .int 0, .int 0, .int 0, .int 0, .int 0, .ref b_5, .ref b_6, .ref b_7, .ref b_8, .ref b_9, .ref b_10, .ref b_11, .ref b_12])), (b_5, .inl (tc 0, 10, .inl (fun _ => 0))), (b_6, .inl (tc 0, 10, .inl (fun _ => 0))), (b_7, .inl (tc 0, 6, .inl (fun _ => 0))), (b_8, .inl (tc 0, 6, .inl (fun _ => 0))), (b_9, .inl (tc 0, 6, .inl (fun _ => 0))), (b_10, .inl (tc 0, 6, .inl (fun _ => 0))), (b_11, .inl (tc 0, 6, .inl (fun _ => 0))), (b_12, .inl (tc 0, 6, .inl (fun _ => 0))), (q_13, .inr (9, [.int 0, .int 0, .int 0, .int 0, .int 0, .int 0, .null, .null, .null, .null, .null, .null, .null, .null]))] := hD₀
  replace hS := hS₀
  clear hP₀ hD₀ hS₀
  refine lv_dup hx hb dX8_init_19 rfl ?_
  refine cN (a := q_13) (As := []) (rest := [.ref q_13, .ref h0]) (wr := [(h0, .inr (8, [.ref q_1, .null, .null, .int 0, .int 0])), (q_1, .inr (9, [.int 0, .int 0, .int 0, .int 0, .int 0, .int 0, .ref b_5, .ref b_6, .ref b_7, .ref b_8, .ref b_9, .ref b_10, .ref b_11, .ref b_12])), (b_5, .inl (tc 0, 10, .inl (fun _ => 0))), (b_6, .inl (tc 0, 10, .inl (fun _ => 0))), (b_7, .inl (tc 0, 6, .inl (fun _ => 0))), (b_8, .inl (tc 0, 6, .inl (fun _ => 0))), (b_9, .inl (tc 0, 6, .inl (fun _ => 0))), (b_10, .inl (tc 0, 6, .inl (fun _ => 0))), (b_11, .inl (tc 0, 6, .inl (fun _ => 0))), (b_12, .inl (tc 0, 6, .inl (fun _ => 0)))]) ⟨hx, hb, hml, hown, hts⟩ hK hX hA (ct_X9_init l D tc sk q_13) k_167 (by decide) k_166 k_98 rfl pl_X9_init ⟨Nat.le_of_ble_eq_true rfl, Nat.le_of_ble_eq_true rfl⟩ rfl rfl  hP hD hS [10] [0, 1, 2, 3, 4, 5, 6, 7, 8, 9] rfl rfl rfl rfl rfl (by decide) rfl hl.1 rfl (Nat.le_of_ble_eq_true rfl) dX8_init_20 ⟨Nat.le_of_ble_eq_true rfl, Nat.le_of_ble_eq_true rfl⟩ (fun v_14 u_15 H locs hv_16 hP₀ hD₀ hS₀ => ?_)
  obtain ⟨b_17, b_18, b_19, b_20, b_21, b_22, b_23, b_24⟩ := u_15
  obtain rfl : v_14 = none := hv_16
  refine W.eq (g2 := F0 m 23 ls [.ref q_13, .ref h0]) rfl ?_
  replace hP : va_P D classes [(h0, .inr (8, [.ref q_1, .null, .null, .int 0, .int 0])), (q_1, .inr (9, [.int 0, .int 0, .int 0, .int 0, .int 0, .int 0, .ref b_5, .ref b_6, .ref b_7, .ref b_8, .ref b_9, .ref b_10, .ref b_11, .ref b_12])), (b_5, .inl (tc 0, 10, .inl (fun _ => 0))), (b_6, .inl (tc 0, 10, .inl (fun _ => 0))), (b_7, .inl (tc 0, 6, .inl (fun _ => 0))), (b_8, .inl (tc 0, 6, .inl (fun _ => 0))), (b_9, .inl (tc 0, 6, .inl (fun _ => 0))), (b_10, .inl (tc 0, 6, .inl (fun _ => 0))), (b_11, .inl (tc 0, 6, .inl (fun _ => 0))), (b_12, .inl (tc 0, 6, .inl (fun _ => 0))), (q_13, .inr (9, [.int 0, .int 0, .int 0, .int 0, .int 0, .int 0, .ref b_17, .ref b_18, .ref b_19, .ref b_20, .ref b_21, .ref b_22, .ref b_23, .ref b_24])), (b_17, .inl (tc 0, 10, .inl (fun _ => 0))), (b_18, .inl (tc 0, 10, .inl (fun _ => 0))), (b_19, .inl (tc 0, 6, .inl (fun _ => 0))), (b_20, .inl (tc 0, 6, .inl (fun _ => 0))), (b_21, .inl (tc 0, 6, .inl (fun _ => 0))), (b_22, .inl (tc 0, 6, .inl (fun _ => 0))), (b_23, .inl (tc 0, 6, .inl (fun _ => 0))), (b_24, .inl (tc 0, 6, .inl (fun _ => 0)))] H := hP₀
  replace hD : va_D A [(h0, .inr (8, [.ref q_1, .null, .null, .int 0, .int 0])), (q_1, .inr (9, [.int 0, .int 0, .int 0, .int 0, .int 0, .int 0, .ref b_5, .ref b_6, .ref b_7, .ref b_8, .ref b_9, .ref b_10, .ref b_11, .ref b_12])), (b_5, .inl (tc 0, 10, .inl (fun _ => 0))), (b_6, .inl (tc 0, 10, .inl (fun _ => 0))), (b_7, .inl (tc 0, 6, .inl (fun _ => 0))), (b_8, .inl (tc 0, 6, .inl (fun _ => 0))), (b_9, .inl (tc 0, 6, .inl (fun _ => 0))), (b_10, .inl (tc 0, 6, .inl (fun _ => 0))), (b_11, .inl (tc 0, 6, .inl (fun _ => 0))), (b_12, .inl (tc 0, 6, .inl (fun _ => 0))), (q_13, .inr (9, [.int 0, .int 0, .int 0, .int 0, .int 0, .int 0, .ref b_17, .ref b_18, .ref b_19, .ref b_20, .ref b_21, .ref b_22, .ref b_23, .ref b_24])), (b_17, .inl (tc 0, 10, .inl (fun _ => 0))), (b_18, .inl (tc 0, 10, .inl (fun _ => 0))), (b_19, .inl (tc 0, 6, .inl (fun _ => 0))), (b_20, .inl (tc 0, 6, .inl (fun _ => 0))), (b_21, .inl (tc 0, 6, .inl (fun _ => 0))), (b_22, .inl (tc 0, 6, .inl (fun _ => 0))), (b_23, .inl (tc 0, 6, .inl (fun _ => 0))), (b_24, .inl (tc 0, 6, .inl (fun _ => 0)))] := hD₀
  replace hS := hS₀
  clear hP₀ hD₀ hS₀
  refine pf_X8_18 (ty := (.object "PoisonBook$Shop")) hx hb hts hown hin hK hP hD hS 0 rfl (Nat.le_of_ble_eq_true rfl) (by decide +kernel) rfl rfl dX8_init_23 (fun H locs hP₀ hD₀ hS₀ => ?_)
  replace hP : va_P D classes [(h0, .inr (8, [.ref q_1, .ref q_13, .null, .int 0, .int 0])), (q_1, .inr (9, [.int 0, .int 0, .int 0, .int 0, .int 0, .int 0, .ref b_5, .ref b_6, .ref b_7, .ref b_8, .ref b_9, .ref b_10, .ref b_11, .ref b_12])), (b_5, .inl (tc 0, 10, .inl (fun _ => 0))), (b_6, .inl (tc 0, 10, .inl (fun _ => 0))), (b_7, .inl (tc 0, 6, .inl (fun _ => 0))), (b_8, .inl (tc 0, 6, .inl (fun _ => 0))), (b_9, .inl (tc 0, 6, .inl (fun _ => 0))), (b_10, .inl (tc 0, 6, .inl (fun _ => 0))), (b_11, .inl (tc 0, 6, .inl (fun _ => 0))), (b_12, .inl (tc 0, 6, .inl (fun _ => 0))), (q_13, .inr (9, [.int 0, .int 0, .int 0, .int 0, .int 0, .int 0, .ref b_17, .ref b_18, .ref b_19, .ref b_20, .ref b_21, .ref b_22, .ref b_23, .ref b_24])), (b_17, .inl (tc 0, 10, .inl (fun _ => 0))), (b_18, .inl (tc 0, 10, .inl (fun _ => 0))), (b_19, .inl (tc 0, 6, .inl (fun _ => 0))), (b_20, .inl (tc 0, 6, .inl (fun _ => 0))), (b_21, .inl (tc 0, 6, .inl (fun _ => 0))), (b_22, .inl (tc 0, 6, .inl (fun _ => 0))), (b_23, .inl (tc 0, 6, .inl (fun _ => 0))), (b_24, .inl (tc 0, 6, .inl (fun _ => 0)))] H := hP₀
  replace hD : va_D A [(h0, .inr (8, [.ref q_1, .ref q_13, .null, .int 0, .int 0])), (q_1, .inr (9, [.int 0, .int 0, .int 0, .int 0, .int 0, .int 0, .ref b_5, .ref b_6, .ref b_7, .ref b_8, .ref b_9, .ref b_10, .ref b_11, .ref b_12])), (b_5, .inl (tc 0, 10, .inl (fun _ => 0))), (b_6, .inl (tc 0, 10, .inl (fun _ => 0))), (b_7, .inl (tc 0, 6, .inl (fun _ => 0))), (b_8, .inl (tc 0, 6, .inl (fun _ => 0))), (b_9, .inl (tc 0, 6, .inl (fun _ => 0))), (b_10, .inl (tc 0, 6, .inl (fun _ => 0))), (b_11, .inl (tc 0, 6, .inl (fun _ => 0))), (b_12, .inl (tc 0, 6, .inl (fun _ => 0))), (q_13, .inr (9, [.int 0, .int 0, .int 0, .int 0, .int 0, .int 0, .ref b_17, .ref b_18, .ref b_19, .ref b_20, .ref b_21, .ref b_22, .ref b_23, .ref b_24])), (b_17, .inl (tc 0, 10, .inl (fun _ => 0))), (b_18, .inl (tc 0, 10, .inl (fun _ => 0))), (b_19, .inl (tc 0, 6, .inl (fun _ => 0))), (b_20, .inl (tc 0, 6, .inl (fun _ => 0))), (b_21, .inl (tc 0, 6, .inl (fun _ => 0))), (b_22, .inl (tc 0, 6, .inl (fun _ => 0))), (b_23, .inl (tc 0, 6, .inl (fun _ => 0))), (b_24, .inl (tc 0, 6, .inl (fun _ => 0)))] := hD₀
  replace hS := hS₀
  clear hP₀ hD₀ hS₀
  refine lv_aload_n hx hb dX8_init_26 rfl (lv_at hl 0 rfl) ?_
  refine va_new (ci := 3) (fs := [.null, .null, .null, .int 0]) (C := RX3) (T := TX3) (N := 4) hx hb hts iX3 tyX3 tyX3_ok hown (hts _ k_278) (hts _ k_279) (hts _ k_101) hK hP hD hS hA rfl dfX3 (Nat.le_of_ble_eq_true rfl) (Nat.le_of_ble_eq_true rfl) dX8_init_27 (fun q_25 H hP₀ hD₀ hS₀ => ?_)
  replace hP : va_P D classes [(h0, .inr (8, [.ref q_1, .ref q_13, .null, .int 0, .int 0])), (q_1, .inr (9, [.int 0, .int 0, .int 0, .int 0, .int 0, .int 0, .ref b_5, .ref b_6, .ref b_7, .ref b_8, .ref b_9, .ref b_10, .ref b_11, .ref b_12])), (b_5, .inl (tc 0, 10, .inl (fun _ => 0))), (b_6, .inl (tc 0, 10, .inl (fun _ => 0))), (b_7, .inl (tc 0, 6, .inl (fun _ => 0))), (b_8, .inl (tc 0, 6, .inl (fun _ => 0))), (b_9, .inl (tc 0, 6, .inl (fun _ => 0))), (b_10, .inl (tc 0, 6, .inl (fun _ => 0))), (b_11, .inl (tc 0, 6, .inl (fun _ => 0))), (b_12, .inl (tc 0, 6, .inl (fun _ => 0))), (q_13, .inr (9, [.int 0, .int 0, .int 0, .int 0, .int 0, .int 0, .ref b_17, .ref b_18, .ref b_19, .ref b_20, .ref b_21, .ref b_22, .ref b_23, .ref b_24])), (b_17, .inl (tc 0, 10, .inl (fun _ => 0))), (b_18, .inl (tc 0, 10, .inl (fun _ => 0))), (b_19, .inl (tc 0, 6, .inl (fun _ => 0))), (b_20, .inl (tc 0, 6, .inl (fun _ => 0))), (b_21, .inl (tc 0, 6, .inl (fun _ => 0))), (b_22, .inl (tc 0, 6, .inl (fun _ => 0))), (b_23, .inl (tc 0, 6, .inl (fun _ => 0))), (b_24, .inl (tc 0, 6, .inl (fun _ => 0))), (q_25, .inr (3, [.null, .null, .null, .int 0]))] H := hP₀
  replace hD : va_D A [(h0, .inr (8, [.ref q_1, .ref q_13, .null, .int 0, .int 0])), (q_1, .inr (9, [.int 0, .int 0, .int 0, .int 0, .int 0, .int 0, .ref b_5, .ref b_6, .ref b_7, .ref b_8, .ref b_9, .ref b_10, .ref b_11, .ref b_12])), (b_5, .inl (tc 0, 10, .inl (fun _ => 0))), (b_6, .inl (tc 0, 10, .inl (fun _ => 0))), (b_7, .inl (tc 0, 6, .inl (fun _ => 0))), (b_8, .inl (tc 0, 6, .inl (fun _ => 0))), (b_9, .inl (tc 0, 6, .inl (fun _ => 0))), (b_10, .inl (tc 0, 6, .inl (fun _ => 0))), (b_11, .inl (tc 0, 6, .inl (fun _ => 0))), (b_12, .inl (tc 0, 6, .inl (fun _ => 0))), (q_13, .inr (9, [.int 0, .int 0, .int 0, .int 0, .int 0, .int 0, .ref b_17, .ref b_18, .ref b_19, .ref b_20, .ref b_21, .ref b_22, .ref b_23, .ref b_24])), (b_17, .inl (tc 0, 10, .inl (fun _ => 0))), (b_18, .inl (tc 0, 10, .inl (fun _ => 0))), (b_19, .inl (tc 0, 6, .inl (fun _ => 0))), (b_20, .inl (tc 0, 6, .inl (fun _ => 0))), (b_21, .inl (tc 0, 6, .inl (fun _ => 0))), (b_22, .inl (tc 0, 6, .inl (fun _ => 0))), (b_23, .inl (tc 0, 6, .inl (fun _ => 0))), (b_24, .inl (tc 0, 6, .inl (fun _ => 0))), (q_25, .inr (3, [.null, .null, .null, .int 0]))] := hD₀
  replace hS := hS₀
  clear hP₀ hD₀ hS₀
  refine lv_dup hx hb dX8_init_30 rfl ?_
  refine cN (a := q_25) (As := []) (rest := [.ref q_25, .ref h0]) (wr := [(h0, .inr (8, [.ref q_1, .ref q_13, .null, .int 0, .int 0])), (q_1, .inr (9, [.int 0, .int 0, .int 0, .int 0, .int 0, .int 0, .ref b_5, .ref b_6, .ref b_7, .ref b_8, .ref b_9, .ref b_10, .ref b_11, .ref b_12])), (b_5, .inl (tc 0, 10, .inl (fun _ => 0))), (b_6, .inl (tc 0, 10, .inl (fun _ => 0))), (b_7, .inl (tc 0, 6, .inl (fun _ => 0))), (b_8, .inl (tc 0, 6, .inl (fun _ => 0))), (b_9, .inl (tc 0, 6, .inl (fun _ => 0))), (b_10, .inl (tc 0, 6, .inl (fun _ => 0))), (b_11, .inl (tc 0, 6, .inl (fun _ => 0))), (b_12, .inl (tc 0, 6, .inl (fun _ => 0))), (q_13, .inr (9, [.int 0, .int 0, .int 0, .int 0, .int 0, .int 0, .ref b_17, .ref b_18, .ref b_19, .ref b_20, .ref b_21, .ref b_22, .ref b_23, .ref b_24])), (b_17, .inl (tc 0, 10, .inl (fun _ => 0))), (b_18, .inl (tc 0, 10, .inl (fun _ => 0))), (b_19, .inl (tc 0, 6, .inl (fun _ => 0))), (b_20, .inl (tc 0, 6, .inl (fun _ => 0))), (b_21, .inl (tc 0, 6, .inl (fun _ => 0))), (b_22, .inl (tc 0, 6, .inl (fun _ => 0))), (b_23, .inl (tc 0, 6, .inl (fun _ => 0))), (b_24, .inl (tc 0, 6, .inl (fun _ => 0)))]) ⟨hx, hb, hml, hown, hts⟩ hK hX hA (ct_X3_init l D tc sk q_25) k_282 (by decide) k_281 k_101 rfl pl_X3_init ⟨Nat.le_of_ble_eq_true rfl, Nat.le_of_ble_eq_true rfl⟩ rfl rfl  hP hD hS [19] [0, 1, 2, 3, 4, 5, 6, 7, 8, 9, 10, 11, 12, 13, 14, 15, 16, 17, 18] rfl rfl rfl rfl rfl (by decide) rfl hl.1 rfl (Nat.le_of_ble_eq_true rfl) dX8_init_31 ⟨Nat.le_of_ble_eq_true rfl, Nat.le_of_ble_eq_true rfl⟩ (fun v_26 u_27 H locs hv_28 hP₀ hD₀ hS₀ => ?_)
  obtain ⟨b_29, b_30, b_31⟩ := u_27
  obtain rfl : v_26 = none := hv_28
  refine W.eq (g2 := F0 m 34 ls [.ref q_25, .ref h0]) rfl ?_
  replace hP : va_P D classes [(h0, .inr (8, [.ref q_1, .ref q_13, .null, .int 0, .int 0])), (q_1, .inr (9, [.int 0, .int 0, .int 0, .int 0, .int 0, .int 0, .ref b_5, .ref b_6, .ref b_7, .ref b_8, .ref b_9, .ref b_10, .ref b_11, .ref b_12])), (b_5, .inl (tc 0, 10, .inl (fun _ => 0))), (b_6, .inl (tc 0, 10, .inl (fun _ => 0))), (b_7, .inl (tc 0, 6, .inl (fun _ => 0))), (b_8, .inl (tc 0, 6, .inl (fun _ => 0))), (b_9, .inl (tc 0, 6, .inl (fun _ => 0))), (b_10, .inl (tc 0, 6, .inl (fun _ => 0))), (b_11, .inl (tc 0, 6, .inl (fun _ => 0))), (b_12, .inl (tc 0, 6, .inl (fun _ => 0))), (q_13, .inr (9, [.int 0, .int 0, .int 0, .int 0, .int 0, .int 0, .ref b_17, .ref b_18, .ref b_19, .ref b_20, .ref b_21, .ref b_22, .ref b_23, .ref b_24])), (b_17, .inl (tc 0, 10, .inl (fun _ => 0))), (b_18, .inl (tc 0, 10, .inl (fun _ => 0))), (b_19, .inl (tc 0, 6, .inl (fun _ => 0))), (b_20, .inl (tc 0, 6, .inl (fun _ => 0))), (b_21, .inl (tc 0, 6, .inl (fun _ => 0))), (b_22, .inl (tc 0, 6, .inl (fun _ => 0))), (b_23, .inl (tc 0, 6, .inl (fun _ => 0))), (b_24, .inl (tc 0, 6, .inl (fun _ => 0))), (q_25, .inr (3, [.ref b_29, .ref b_30, .ref b_31, .int 0])), (b_29, .inl (tc 0, 10, .inl (fun _ => 0))), (b_30, .inl (tc 0, 10, .inl (fun _ => 0))), (b_31, .inl (tc 0, 10, .inl (fun _ => 0)))] H := hP₀
  replace hD : va_D A [(h0, .inr (8, [.ref q_1, .ref q_13, .null, .int 0, .int 0])), (q_1, .inr (9, [.int 0, .int 0, .int 0, .int 0, .int 0, .int 0, .ref b_5, .ref b_6, .ref b_7, .ref b_8, .ref b_9, .ref b_10, .ref b_11, .ref b_12])), (b_5, .inl (tc 0, 10, .inl (fun _ => 0))), (b_6, .inl (tc 0, 10, .inl (fun _ => 0))), (b_7, .inl (tc 0, 6, .inl (fun _ => 0))), (b_8, .inl (tc 0, 6, .inl (fun _ => 0))), (b_9, .inl (tc 0, 6, .inl (fun _ => 0))), (b_10, .inl (tc 0, 6, .inl (fun _ => 0))), (b_11, .inl (tc 0, 6, .inl (fun _ => 0))), (b_12, .inl (tc 0, 6, .inl (fun _ => 0))), (q_13, .inr (9, [.int 0, .int 0, .int 0, .int 0, .int 0, .int 0, .ref b_17, .ref b_18, .ref b_19, .ref b_20, .ref b_21, .ref b_22, .ref b_23, .ref b_24])), (b_17, .inl (tc 0, 10, .inl (fun _ => 0))), (b_18, .inl (tc 0, 10, .inl (fun _ => 0))), (b_19, .inl (tc 0, 6, .inl (fun _ => 0))), (b_20, .inl (tc 0, 6, .inl (fun _ => 0))), (b_21, .inl (tc 0, 6, .inl (fun _ => 0))), (b_22, .inl (tc 0, 6, .inl (fun _ => 0))), (b_23, .inl (tc 0, 6, .inl (fun _ => 0))), (b_24, .inl (tc 0, 6, .inl (fun _ => 0))), (q_25, .inr (3, [.ref b_29, .ref b_30, .ref b_31, .int 0])), (b_29, .inl (tc 0, 10, .inl (fun _ => 0))), (b_30, .inl (tc 0, 10, .inl (fun _ => 0))), (b_31, .inl (tc 0, 10, .inl (fun _ => 0)))] := hD₀
  replace hS := hS₀
  clear hP₀ hD₀ hS₀
  refine pf_X8_24 (ty := (.object "PoisonBook$Notes")) hx hb hts hown hin hK hP hD hS 0 rfl (Nat.le_of_ble_eq_true rfl) (by decide +kernel) rfl rfl dX8_init_34 (fun H locs hP₀ hD₀ hS₀ => ?_)
  replace hP : va_P D classes [(h0, .inr (8, [.ref q_1, .ref q_13, .ref q_25, .int 0, .int 0])), (q_1, .inr (9, [.int 0, .int 0, .int 0, .int 0, .int 0, .int 0, .ref b_5, .ref b_6, .ref b_7, .ref b_8, .ref b_9, .ref b_10, .ref b_11, .ref b_12])), (b_5, .inl (tc 0, 10, .inl (fun _ => 0))), (b_6, .inl (tc 0, 10, .inl (fun _ => 0))), (b_7, .inl (tc 0, 6, .inl (fun _ => 0))), (b_8, .inl (tc 0, 6, .inl (fun _ => 0))), (b_9, .inl (tc 0, 6, .inl (fun _ => 0))), (b_10, .inl (tc 0, 6, .inl (fun _ => 0))), (b_11, .inl (tc 0, 6, .inl (fun _ => 0))), (b_12, .inl (tc 0, 6, .inl (fun _ => 0))), (q_13, .inr (9, [.int 0, .int 0, .int 0, .int 0, .int 0, .int 0, .ref b_17, .ref b_18, .ref b_19, .ref b_20, .ref b_21, .ref b_22, .ref b_23, .ref b_24])), (b_17, .inl (tc 0, 10, .inl (fun _ => 0))), (b_18, .inl (tc 0, 10, .inl (fun _ => 0))), (b_19, .inl (tc 0, 6, .inl (fun _ => 0))), (b_20, .inl (tc 0, 6, .inl (fun _ => 0))), (b_21, .inl (tc 0, 6, .inl (fun _ => 0))), (b_22, .inl (tc 0, 6, .inl (fun _ => 0))), (b_23, .inl (tc 0, 6, .inl (fun _ => 0))), (b_24, .inl (tc 0, 6, .inl (fun _ => 0))), (q_25, .inr (3, [.ref b_29, .ref b_30, .ref b_31, .int 0])), (b_29, .inl (tc 0, 10, .inl (fun _ => 0))), (b_30, .inl (tc 0, 10, .inl (fun _ => 0))), (b_31, .inl (tc 0, 10, .inl (fun _ => 0)))] H := hP₀
  replace hD : va_D A [(h0, .inr (8, [.ref q_1, .ref q_13, .ref q_25, .int 0, .int 0])), (q_1, .inr (9, [.int 0, .int 0, .int 0, .int 0, .int 0, .int 0, .ref b_5, .ref b_6, .ref b_7, .ref b_8, .ref b_9, .ref b_10, .ref b_11, .ref b_12])), (b_5, .inl (tc 0, 10, .inl (fun _ => 0))), (b_6, .inl (tc 0, 10, .inl (fun _ => 0))), (b_7, .inl (tc 0, 6, .inl (fun _ => 0))), (b_8, .inl (tc 0, 6, .inl (fun _ => 0))), (b_9, .inl (tc 0, 6, .inl (fun _ => 0))), (b_10, .inl (tc 0, 6, .inl (fun _ => 0))), (b_11, .inl (tc 0, 6, .inl (fun _ => 0))), (b_12, .inl (tc 0, 6, .inl (fun _ => 0))), (q_13, .inr (9, [.int 0, .int 0, .int 0, .int 0, .int 0, .int 0, .ref b_17, .ref b_18, .ref b_19, .ref b_20, .ref b_21, .ref b_22, .ref b_23, .ref b_24])), (b_17, .inl (tc 0, 10, .inl (fun _ => 0))), (b_18, .inl (tc 0, 10, .inl (fun _ => 0))), (b_19, .inl (tc 0, 6, .inl (fun _ => 0))), (b_20, .inl (tc 0, 6, .inl (fun _ => 0))), (b_21, .inl (tc 0, 6, .inl (fun _ => 0))), (b_22, .inl (tc 0, 6, .inl (fun _ => 0))), (b_23, .inl (tc 0, 6, .inl (fun _ => 0))), (b_24, .inl (tc 0, 6, .inl (fun _ => 0))), (q_25, .inr (3, [.ref b_29, .ref b_30, .ref b_31, .int 0])), (b_29, .inl (tc 0, 10, .inl (fun _ => 0))), (b_30, .inl (tc 0, 10, .inl (fun _ => 0))), (b_31, .inl (tc 0, 10, .inl (fun _ => 0)))] := hD₀
  replace hS := hS₀
  clear hP₀ hD₀ hS₀
  refine lv_aload_n hx hb dX8_init_37 rfl (lv_at hl 0 rfl) ?_
  refine lv_iconst (v := (-1)) hx hb dX8_init_38 (by decide) ?_
  refine pf_X8_28 hx hb hts hown hK hP hD hS 0 rfl (Nat.le_of_ble_eq_true rfl) rfl rfl dX8_init_39 (fun H locs hP₀ hD₀ hS₀ => ?_)
  replace hP : va_P D classes [(h0, .inr (8, [.ref q_1, .ref q_13, .ref q_25, .int (-1), .int 0])), (q_1, .inr (9, [.int 0, .int 0, .int 0, .int 0, .int 0, .int 0, .ref b_5, .ref b_6, .ref b_7, .ref b_8, .ref b_9, .ref b_10, .ref b_11, .ref b_12])), (b_5, .inl (tc 0, 10, .inl (fun _ => 0))), (b_6, .inl (tc 0, 10, .inl (fun _ => 0))), (b_7, .inl (tc 0, 6, .inl (fun _ => 0))), (b_8, .inl (tc 0, 6, .inl (fun _ => 0))), (b_9, .inl (tc 0, 6, .inl (fun _ => 0))), (b_10, .inl (tc 0, 6, .inl (fun _ => 0))), (b_11, .inl (tc 0, 6, .inl (fun _ => 0))), (b_12, .inl (tc 0, 6, .inl (fun _ => 0))), (q_13, .inr (9, [.int 0, .int 0, .int 0, .int 0, .int 0, .int 0, .ref b_17, .ref b_18, .ref b_19, .ref b_20, .ref b_21, .ref b_22, .ref b_23, .ref b_24])), (b_17, .inl (tc 0, 10, .inl (fun _ => 0))), (b_18, .inl (tc 0, 10, .inl (fun _ => 0))), (b_19, .inl (tc 0, 6, .inl (fun _ => 0))), (b_20, .inl (tc 0, 6, .inl (fun _ => 0))), (b_21, .inl (tc 0, 6, .inl (fun _ => 0))), (b_22, .inl (tc 0, 6, .inl (fun _ => 0))), (b_23, .inl (tc 0, 6, .inl (fun _ => 0))), (b_24, .inl (tc 0, 6, .inl (fun _ => 0))), (q_25, .inr (3, [.ref b_29, .ref b_30, .ref b_31, .int 0])), (b_29, .inl (tc 0, 10, .inl (fun _ => 0))), (b_30, .inl (tc 0, 10, .inl (fun _ => 0))), (b_31, .inl (tc 0, 10, .inl (fun _ => 0)))] H := hP₀
  replace hD : va_D A [(h0, .inr (8, [.ref q_1, .ref q_13, .ref q_25, .int (-1), .int 0])), (q_1, .inr (9, [.int 0, .int 0, .int 0, .int 0, .int 0, .int 0, .ref b_5, .ref b_6, .ref b_7, .ref b_8, .ref b_9, .ref b_10, .ref b_11, .ref b_12])), (b_5, .inl (tc 0, 10, .inl (fun _ => 0))), (b_6, .inl (tc 0, 10, .inl (fun _ => 0))), (b_7, .inl (tc 0, 6, .inl (fun _ => 0))), (b_8, .inl (tc 0, 6, .inl (fun _ => 0))), (b_9, .inl (tc 0, 6, .inl (fun _ => 0))), (b_10, .inl (tc 0, 6, .inl (fun _ => 0))), (b_11, .inl (tc 0, 6, .inl (fun _ => 0))), (b_12, .inl (tc 0, 6, .inl (fun _ => 0))), (q_13, .inr (9, [.int 0, .int 0, .int 0, .int 0, .int 0, .int 0, .ref b_17, .ref b_18, .ref b_19, .ref b_20, .ref b_21, .ref b_22, .ref b_23, .ref b_24])), (b_17, .inl (tc 0, 10, .inl (fun _ => 0))), (b_18, .inl (tc 0, 10, .inl (fun _ => 0))), (b_19, .inl (tc 0, 6, .inl (fun _ => 0))), (b_20, .inl (tc 0, 6, .inl (fun _ => 0))), (b_21, .inl (tc 0, 6, .inl (fun _ => 0))), (b_22, .inl (tc 0, 6, .inl (fun _ => 0))), (b_23, .inl (tc 0, 6, .inl (fun _ => 0))), (b_24, .inl (tc 0, 6, .inl (fun _ => 0))), (q_25, .inr (3, [.ref b_29, .ref b_30, .ref b_31, .int 0])), (b_29, .inl (tc 0, 10, .inl (fun _ => 0))), (b_30, .inl (tc 0, 10, .inl (fun _ => 0))), (b_31, .inl (tc 0, 10, .inl (fun _ => 0)))] := hD₀
  replace hS := hS₀
  clear hP₀ hD₀ hS₀
  refine lv_aload_n hx hb dX8_init_42 rfl (lv_at hl 0 rfl) ?_
  refine lv_iconst (v := 0) hx hb dX8_init_43 (by decide) ?_
  refine pf_X8_32 hx hb hts hown hK hP hD hS 0 rfl (Nat.le_of_ble_eq_true rfl) rfl rfl dX8_init_44 (fun H locs hP₀ hD₀ hS₀ => ?_)
  replace hP : va_P D classes [(h0, .inr (8, [.ref q_1, .ref q_13, .ref q_25, .int (-1), .int 0])), (q_1, .inr (9, [.int 0, .int 0, .int 0, .int 0, .int 0, .int 0, .ref b_5, .ref b_6, .ref b_7, .ref b_8, .ref b_9, .ref b_10, .ref b_11, .ref b_12])), (b_5, .inl (tc 0, 10, .inl (fun _ => 0))), (b_6, .inl (tc 0, 10, .inl (fun _ => 0))), (b_7, .inl (tc 0, 6, .inl (fun _ => 0))), (b_8, .inl (tc 0, 6, .inl (fun _ => 0))), (b_9, .inl (tc 0, 6, .inl (fun _ => 0))), (b_10, .inl (tc 0, 6, .inl (fun _ => 0))), (b_11, .inl (tc 0, 6, .inl (fun _ => 0))), (b_12, .inl (tc 0, 6, .inl (fun _ => 0))), (q_13, .inr (9, [.int 0, .int 0, .int 0, .int 0, .int 0, .int 0, .ref b_17, .ref b_18, .ref b_19, .ref b_20, .ref b_21, .ref b_22, .ref b_23, .ref b_24])), (b_17, .inl (tc 0, 10, .inl (fun _ => 0))), (b_18, .inl (tc 0, 10, .inl (fun _ => 0))), (b_19, .inl (tc 0, 6, .inl (fun _ => 0))), (b_20, .inl (tc 0, 6, .inl (fun _ => 0))), (b_21, .inl (tc 0, 6, .inl (fun _ => 0))), (b_22, .inl (tc 0, 6, .inl (fun _ => 0))), (b_23, .inl (tc 0, 6, .inl (fun _ => 0))), (b_24, .inl (tc 0, 6, .inl (fun _ => 0))), (q_25, .inr (3, [.ref b_29, .ref b_30, .ref b_31, .int 0])), (b_29, .inl (tc 0, 10, .inl (fun _ => 0))), (b_30, .inl (tc 0, 10, .inl (fun _ => 0))), (b_31, .inl (tc 0, 10, .inl (fun _ => 0)))] H := hP₀
  replace hD : va_D A [(h0, .inr (8, [.ref q_1, .ref q_13, .ref q_25, .int (-1), .int 0])), (q_1, .inr (9, [.int 0, .int 0, .int 0, .int 0, .int 0, .int 0, .ref b_5, .ref b_6, .ref b_7, .ref b_8, .ref b_9, .ref b_10, .ref b_11, .ref b_12])), (b_5, .inl (tc 0, 10, .inl (fun _ => 0))), (b_6, .inl (tc 0, 10, .inl (fun _ => 0))), (b_7, .inl (tc 0, 6, .inl (fun _ => 0))), (b_8, .inl (tc 0, 6, .inl (fun _ => 0))), (b_9, .inl (tc 0, 6, .inl (fun _ => 0))), (b_10, .inl (tc 0, 6, .inl (fun _ => 0))), (b_11, .inl (tc 0, 6, .inl (fun _ => 0))), (b_12, .inl (tc 0, 6, .inl (fun _ => 0))), (q_13, .inr (9, [.int 0, .int 0, .int 0, .int 0, .int 0, .int 0, .ref b_17, .ref b_18, .ref b_19, .ref b_20, .ref b_21, .ref b_22, .ref b_23, .ref b_24])), (b_17, .inl (tc 0, 10, .inl (fun _ => 0))), (b_18, .inl (tc 0, 10, .inl (fun _ => 0))), (b_19, .inl (tc 0, 6, .inl (fun _ => 0))), (b_20, .inl (tc 0, 6, .inl (fun _ => 0))), (b_21, .inl (tc 0, 6, .inl (fun _ => 0))), (b_22, .inl (tc 0, 6, .inl (fun _ => 0))), (b_23, .inl (tc 0, 6, .inl (fun _ => 0))), (b_24, .inl (tc 0, 6, .inl (fun _ => 0))), (q_25, .inr (3, [.ref b_29, .ref b_30, .ref b_31, .int 0])), (b_29, .inl (tc 0, 10, .inl (fun _ => 0))), (b_30, .inl (tc 0, 10, .inl (fun _ => 0))), (b_31, .inl (tc 0, 10, .inl (fun _ => 0)))] := hD₀
  replace hS := hS₀
  clear hP₀ hD₀ hS₀
  exact retV hx hb hr hlk hP hD hS (q_1, b_5, b_6, b_7, b_8, b_9, b_10, b_11, b_12, q_13, b_17, b_18, b_19, b_20, b_21, b_22, b_23, b_24, q_25, b_29, b_30, b_31) rfl [0, 1, 2, 3, 4, 5, 6, 7, 8, 9, 10, 11, 12, 13, 14, 15, 16, 17, 18, 19, 20, 21, 22] rfl rfl dX8_init_47 (Nat.le_of_ble_eq_true rfl) (Nat.le_of_ble_eq_true rfl) rfl
set_option maxHeartbeats 4000000 in
set_option maxRecDepth 100000 in
theorem ct_X5_init (l : Launch) (D : va_G) (tc : Nat → ClassId) (sk : (Nat → Nat) × (Nat → Nat)) (h0 : Nat)  : Ct l yX5_init cX5_init 1 none { frames := 1, cells := 1, slots := 20, locals := 12 } D tc sk [.ref h0] [(h0, .inr (5, [.null, .int 0, .int 0]))] (fun (v : Option Value) (b1 : Nat) => v = none) (fun (b1 : Nat) => [(h0, .inr (5, [.ref b1, .int 0, .int 0])), (b1, .inl (tc 5, 20, .inr (.inr (.inr (.inr (fun _ => none))))))]) 1 20 := by
  refine Ct.start (by decide) (Nat.le_of_ble_eq_true rfl) (fun p e s m below meth c A ls hx hb hr hlk hin hml hown hts hK hX hP hD hA hl hS => ?_)
  have hl : lv_has ls 1 [(0, .ref h0)] := hl
  refine lv_aload_n hx hb dX5_init_0 rfl (lv_at hl 0 rfl) ?_
  refine W.objInit hx hb hown (hts _ k_330) (hts _ k_122) (hts _ k_123) rfl (by rw [hml]; exact hl.1) rfl dX5_init_1 (Nat.le_of_ble_eq_true rfl) (Nat.le_of_ble_eq_true rfl) ?_
  refine W.eq (g2 := F0 m 4 ls []) rfl ?_
  refine lv_aload_n hx hb dX5_init_4 rfl (lv_at hl 0 rfl) ?_
  refine lv_bipush (v := 20) hx hb dX5_init_5 (by decide) ?_
  refine nwQ (N' := 20) hx hb hown (hts _ k_331) hX (by decide) hK hP hD hS hA 5 rfl (by decide) (by decide) (by decide) (Nat.le_of_ble_eq_true rfl) (Nat.le_of_ble_eq_true rfl) dX5_init_7 (fun q_1 H hP₀ hD₀ hS₀ => ?_)
  replace hP : va_P D classes [(h0, .inr (5, [.null, .int 0, .int 0])), (q_1, .inl (tc 5, 20, .inr (.inr (.inr (.inr (fun _ => none))))))] H := hP₀
  replace hD : va_D A [(h0, .inr (5, [.null, .int 0, .int 0])), (q_1, .inl (tc 5, 20, .inr (.inr (.inr (.inr (fun _ => none))))))] := hD₀
  replace hS := hS₀
  clear hP₀ hD₀ hS₀
  refine pf_X5_13 (ty := (.array (.object "PoisonBook$Shop"))) hx hb hts hown hin hK hP hD hS 0 rfl (Nat.le_of_ble_eq_true rfl) (by decide +kernel) rfl rfl dX5_init_10 (fun H locs hP₀ hD₀ hS₀ => ?_)
  replace hP : va_P D classes [(h0, .inr (5, [.ref q_1, .int 0, .int 0])), (q_1, .inl (tc 5, 20, .inr (.inr (.inr (.inr (fun _ => none))))))] H := hP₀
  replace hD : va_D A [(h0, .inr (5, [.ref q_1, .int 0, .int 0])), (q_1, .inl (tc 5, 20, .inr (.inr (.inr (.inr (fun _ => none))))))] := hD₀
  replace hS := hS₀
  clear hP₀ hD₀ hS₀
  refine lv_aload_n hx hb dX5_init_13 rfl (lv_at hl 0 rfl) ?_
  refine lv_iconst (v := 0) hx hb dX5_init_14 (by decide) ?_
  refine pf_X5_17 hx hb hts hown hK hP hD hS 0 rfl (Nat.le_of_ble_eq_true rfl) rfl rfl dX5_init_15 (fun H locs hP₀ hD₀ hS₀ => ?_)
  replace hP : va_P D classes [(h0, .inr (5, [.ref q_1, .int 0, .int 0])), (q_1, .inl (tc 5, 20, .inr (.inr (.inr (.inr (fun _ => none))))))] H := hP₀
  replace hD : va_D A [(h0, .inr (5, [.ref q_1, .int 0, .int 0])), (q_1, .inl (tc 5, 20, .inr (.inr (.inr (.inr (fun _ => none))))))] := hD₀
  replace hS := hS₀
  clear hP₀ hD₀ hS₀
  refine lv_aload_n hx hb dX5_init_18 rfl (lv_at hl 0 rfl) ?_
  refine lv_iconst (v := 0) hx hb dX5_init_19 (by decide) ?_
  refine pf_X5_21 hx hb hts hown hK hP hD hS 0 rfl (Nat.le_of_ble_eq_true rfl) rfl rfl dX5_init_20 (fun H locs hP₀ hD₀ hS₀ => ?_)
  replace hP : va_P D classes [(h0, .inr (5, [.ref q_1, .int 0, .int 0])), (q_1, .inl (tc 5, 20, .inr (.inr (.inr (.inr (fun _ => none))))))] H := hP₀
  replace hD : va_D A [(h0, .inr (5, [.ref q_1, .int 0, .int 0])), (q_1, .inl (tc 5, 20, .inr (.inr (.inr (.inr (fun _ => none))))))] := hD₀
  replace hS := hS₀
  clear hP₀ hD₀ hS₀
  exact retV hx hb hr hlk hP hD hS q_1 rfl [0, 1] rfl rfl dX5_init_23 (Nat.le_of_ble_eq_true rfl) (Nat.le_of_ble_eq_true rfl) rfl
set_option maxHeartbeats 4000000 in
set_option maxRecDepth 100000 in
theorem ct_X4_init (l : Launch) (D : va_G) (tc : Nat → ClassId) (sk : (Nat → Nat) × (Nat → Nat)) (h0 : Nat)  : Ct l yX4_init cX4_init 1 none { frames := 2, cells := 10, slots := 131, locals := 32 } D tc sk [.ref h0] [(h0, .inr (4, [.null, .null, .long 0]))] (fun (v : Option Value) (u : (Nat) × (Nat) × (Nat) × (Nat) × (Nat) × (Nat) × (Nat) × (Nat) × (Nat) × (Nat)) => match u with | (b0, b1, b2, b3, b4, b5, b6, b7, b8, d1) => v = none) (fun (u : (Nat) × (Nat) × (Nat) × (Nat) × (Nat) × (Nat) × (Nat) × (Nat) × (Nat) × (Nat)) => match u with | (b0, b1, b2, b3, b4, b5, b6, b7, b8, d1) => [(h0, .inr (4, [.ref b0, .ref d1, .long 0])), (b0, .inr (9, [.int 0, .int 0, .int 0, .int 0, .int 0, .int 0, .ref b1, .ref b2, .ref b3, .ref b4, .ref b5, .ref b6, .ref b7, .ref b8])), (b1, .inl (tc 0, 10, .inl (fun _ => 0))), (b2, .inl (tc 0, 10, .inl (fun _ => 0))), (b3, .inl (tc 0, 6, .inl (fun _ => 0))), (b4, .inl (tc 0, 6, .inl (fun _ => 0))), (b5, .inl (tc 0, 6, .inl (fun _ => 0))), (b6, .inl (tc 0, 6, .inl (fun _ => 0))), (b7, .inl (tc 0, 6, .inl (fun _ => 0))), (b8, .inl (tc 0, 6, .inl (fun _ => 0))), (d1, .inl (tc 1, 61, .inr (.inl (fun _ => 0))))]) 10 131 := by
  refine Ct.start (by decide) (Nat.le_of_ble_eq_true rfl) (fun p e s m below meth c A ls hx hb hr hlk hin hml hown hts hK hX hP hD hA hl hS => ?_)
  have hl : lv_has ls 1 [(0, .ref h0)] := hl
  refine lv_aload_n hx hb dX4_init_0 rfl (lv_at hl 0 rfl) ?_
  refine W.objInit hx hb hown (hts _ k_350) (hts _ k_122) (hts _ k_123) rfl (by rw [hml]; exact hl.1) rfl dX4_init_1 (Nat.le_of_ble_eq_true rfl) (Nat.le_of_ble_eq_true rfl) ?_
  refine W.eq (g2 := F0 m 4 ls []) rfl ?_
  refine lv_aload_n hx hb dX4_init_4 rfl (lv_at hl 0 rfl) ?_
  refine va_new (ci := 9) (fs := [.int 0, .int 0, .int 0, .int 0, .int 0, .int 0, .null, .null, .null, .null, .null, .null, .null, .null]) (C := RX9) (T := TX9) (N := 14) hx hb hts iX9 tyX9 tyX9_ok hown (hts _ k_351) (hts _ k_164) (hts _ k_98) hK hP hD hS hA rfl dfX9 (Nat.le_of_ble_eq_true rfl) (Nat.le_of_ble_eq_true rfl) dX4_init_5 (fun q_1 H hP₀ hD₀ hS₀ => ?_)
  replace hP : va_P D classes [(h0, .inr (4, [.null, .null, .long 0])), (q_1, .inr (9, [.int 0, .int 0, .int 0, .int 0, .int 0, .int 0, .null, .null, .null, .null, .null, .null, .null, .null]))] H := hP₀
  replace hD : va_D A [(h0, .inr (4, [.null, .null, .long 0])), (q_1, .inr (9, [.int 0, .int 0, .int 0, .int 0, .int 0, .int 0, .null, .null, .null, .null, .null, .null, .null, .null]))] := hD₀
  replace hS := hS₀
  clear hP₀ hD₀ hS₀
  refine lv_dup hx hb dX4_init_8 rfl ?_
  refine cN (a := q_1) (As := []) (rest := [.ref q_1, .ref h0]) (wr := [(h0, .inr (4, [.null, .null, .long 0]))]) ⟨hx, hb, hml, hown, hts⟩ hK hX hA (ct_X9_init l D tc sk q_1) k_167 (by decide) k_166 k_98 rfl pl_X9_init ⟨Nat.le_of_ble_eq_true rfl, Nat.le_of_ble_eq_true rfl⟩ rfl rfl  hP hD hS [1] [0] rfl rfl rfl rfl rfl (by decide) rfl hl.1 rfl (Nat.le_of_ble_eq_true rfl) dX4_init_9 ⟨Nat.le_of_ble_eq_true rfl, Nat.le_of_ble_eq_true rfl⟩ (fun v_2 u_3 H locs hv_4 hP₀ hD₀ hS₀ => ?_)
  obtain ⟨b_5, b_6, b_7, b_8, b_9, b_10, b_11, b_12⟩ := u_3
  obtain rfl : v_2 = none := hv_4
  refine W.eq (g2 := F0 m 12 ls [.ref q_1, .ref h0]) rfl ?_
  replace hP : va_P D classes [(h0, .inr (4, [.null, .null, .long 0])), (q_1, .inr (9, [.int 0, .int 0, .int 0, .int 0, .int 0, .int 0, .ref b_5, .ref b_6, .ref b_7, .ref b_8, .ref b_9, .ref b_10, .ref b_11, .ref b_12])), (b_5, .inl (tc 0, 10, .inl (fun _ => 0))), (b_6, .inl (tc 0, 10, .inl (fun _ => 0))), (b_7, .inl (tc 0, 6, .inl (fun _ => 0))), (b_8, .inl (tc 0, 6, .inl (fun _ => 0))), (b_9, .inl (tc 0, 6, .inl (fun _ => 0))), (b_10, .inl (tc 0, 6, .inl (fun _ => 0))), (b_11, .inl (tc 0, 6, .inl (fun _ => 0))), (b_12, .inl (tc 0, 6, .inl (fun _ => 0)))] H := hP₀
  replace hD : va_D A [(h0, .inr (4, [.null, .null, .long 0])), (q_1, .inr (9, [.int 0, .int 0, .int 0, .int 0, .int 0, .int 0, .ref b_5, .ref b_6, .ref b_7, .ref b_8, .ref b_9, .ref b_10, .ref b_11, .ref b_12])), (b_5, .inl (tc 0, 10, .inl (fun _ => 0))), (b_6, .inl (tc 0, 10, .inl (fun _ => 0))), (b_7, .inl (tc 0, 6, .inl (fun _ => 0))), (b_8, .inl (tc 0, 6, .inl (fun _ => 0))), (b_9, .inl (tc 0, 6, .inl (fun _ => 0))), (b_10, .inl (tc 0, 6, .inl (fun _ => 0))), (b_11, .inl (tc 0, 6, .inl (fun _ => 0))), (b_12, .inl (tc 0, 6, .inl (fun _ => 0)))] := hD₀
  replace hS := hS₀
  clear hP₀ hD₀ hS₀
  refine pf_X4_12 (ty := (.object "PoisonBook$Shop")) hx hb hts hown hin hK hP hD hS 0 rfl (Nat.le_of_ble_eq_true rfl) (by decide +kernel) rfl rfl dX4_init_12 (fun H locs hP₀ hD₀ hS₀ => ?_)
  replace hP : va_P D classes [(h0, .inr (4, [.ref q_1, .null, .long 0])), (q_1, .inr (9, [.int 0, .int 0, .int 0, .int 0, .int 0, .int 0, .ref b_5, .ref b_6, .ref b_7, .ref b_8, .ref b_9, .ref b_10, .ref b_11, .ref b_12])), (b_5, .inl (tc 0, 10, .inl (fun _ => 0))), (b_6, .inl (tc 0, 10, .inl (fun _ => 0))), (b_7, .inl (tc 0, 6, .inl (fun _ => 0))), (b_8, .inl (tc 0, 6, .inl (fun _ => 0))), (b_9, .inl (tc 0, 6, .inl (fun _ => 0))), (b_10, .inl (tc 0, 6, .inl (fun _ => 0))), (b_11, .inl (tc 0, 6, .inl (fun _ => 0))), (b_12, .inl (tc 0, 6, .inl (fun _ => 0)))] H := hP₀
  replace hD : va_D A [(h0, .inr (4, [.ref q_1, .null, .long 0])), (q_1, .inr (9, [.int 0, .int 0, .int 0, .int 0, .int 0, .int 0, .ref b_5, .ref b_6, .ref b_7, .ref b_8, .ref b_9, .ref b_10, .ref b_11, .ref b_12])), (b_5, .inl (tc 0, 10, .inl (fun _ => 0))), (b_6, .inl (tc 0, 10, .inl (fun _ => 0))), (b_7, .inl (tc 0, 6, .inl (fun _ => 0))), (b_8, .inl (tc 0, 6, .inl (fun _ => 0))), (b_9, .inl (tc 0, 6, .inl (fun _ => 0))), (b_10, .inl (tc 0, 6, .inl (fun _ => 0))), (b_11, .inl (tc 0, 6, .inl (fun _ => 0))), (b_12, .inl (tc 0, 6, .inl (fun _ => 0)))] := hD₀
  replace hS := hS₀
  clear hP₀ hD₀ hS₀
  refine lv_aload_n hx hb dX4_init_15 rfl (lv_at hl 0 rfl) ?_
  refine lv_bipush (v := 61) hx hb dX4_init_16 (by decide) ?_
  refine nwA (atype := .long) (a0 := (61, .inr (.inl (fun _ => 0)))) hx hb (hts _ k_364) rfl hK hP hD hS hA 1 rfl (fun _ => rfl) (by decide) (by decide) (by decide) (Nat.le_of_ble_eq_true rfl) (Nat.le_of_ble_eq_true rfl) dX4_init_18 (fun q_13 H hP₀ hD₀ hS₀ => ?_)
  replace hP : va_P D classes [(h0, .inr (4, [.ref q_1, .null, .long 0])), (q_1, .inr (9, [.int 0, .int 0, .int 0, .int 0, .int 0, .int 0, .ref b_5, .ref b_6, .ref b_7, .ref b_8, .ref b_9, .ref b_10, .ref b_11, .ref b_12])), (b_5, .inl (tc 0, 10, .inl (fun _ => 0))), (b_6, .inl (tc 0, 10, .inl (fun _ => 0))), (b_7, .inl (tc 0, 6, .inl (fun _ => 0))), (b_8, .inl (tc 0, 6, .inl (fun _ => 0))), (b_9, .inl (tc 0, 6, .inl (fun _ => 0))), (b_10, .inl (tc 0, 6, .inl (fun _ => 0))), (b_11, .inl (tc 0, 6, .inl (fun _ => 0))), (b_12, .inl (tc 0, 6, .inl (fun _ => 0))), (q_13, .inl (tc 1, 61, .inr (.inl (fun _ => 0))))] H := hP₀
  replace hD : va_D A [(h0, .inr (4, [.ref q_1, .null, .long 0])), (q_1, .inr (9, [.int 0, .int 0, .int 0, .int 0, .int 0, .int 0, .ref b_5, .ref b_6, .ref b_7, .ref b_8, .ref b_9, .ref b_10, .ref b_11, .ref b_12])), (b_5, .inl (tc 0, 10, .inl (fun _ => 0))), (b_6, .inl (tc 0, 10, .inl (fun _ => 0))), (b_7, .inl (tc 0, 6, .inl (fun _ => 0))), (b_8, .inl (tc 0, 6, .inl (fun _ => 0))), (b_9, .inl (tc 0, 6, .inl (fun _ => 0))), (b_10, .inl (tc 0, 6, .inl (fun _ => 0))), (b_11, .inl (tc 0, 6, .inl (fun _ => 0))), (b_12, .inl (tc 0, 6, .inl (fun _ => 0))), (q_13, .inl (tc 1, 61, .inr (.inl (fun _ => 0))))] := hD₀
  replace hS := hS₀
  clear hP₀ hD₀ hS₀
  refine pf_X4_18 (ty := (.array .long)) hx hb hts hown hin hK hP hD hS 0 rfl (Nat.le_of_ble_eq_true rfl) (by decide +kernel) rfl rfl dX4_init_20 (fun H locs hP₀ hD₀ hS₀ => ?_)
  replace hP : va_P D classes [(h0, .inr (4, [.ref q_1, .ref q_13, .long 0])), (q_1, .inr (9, [.int 0, .int 0, .int 0, .int 0, .int 0, .int 0, .ref b_5, .ref b_6, .ref b_7, .ref b_8, .ref b_9, .ref b_10, .ref b_11, .ref b_12])), (b_5, .inl (tc 0, 10, .inl (fun _ => 0))), (b_6, .inl (tc 0, 10, .inl (fun _ => 0))), (b_7, .inl (tc 0, 6, .inl (fun _ => 0))), (b_8, .inl (tc 0, 6, .inl (fun _ => 0))), (b_9, .inl (tc 0, 6, .inl (fun _ => 0))), (b_10, .inl (tc 0, 6, .inl (fun _ => 0))), (b_11, .inl (tc 0, 6, .inl (fun _ => 0))), (b_12, .inl (tc 0, 6, .inl (fun _ => 0))), (q_13, .inl (tc 1, 61, .inr (.inl (fun _ => 0))))] H := hP₀
  replace hD : va_D A [(h0, .inr (4, [.ref q_1, .ref q_13, .long 0])), (q_1, .inr (9, [.int 0, .int 0, .int 0, .int 0, .int 0, .int 0, .ref b_5, .ref b_6, .ref b_7, .ref b_8, .ref b_9, .ref b_10, .ref b_11, .ref b_12])), (b_5, .inl (tc 0, 10, .inl (fun _ => 0))), (b_6, .inl (tc 0, 10, .inl (fun _ => 0))), (b_7, .inl (tc 0, 6, .inl (fun _ => 0))), (b_8, .inl (tc 0, 6, .inl (fun _ => 0))), (b_9, .inl (tc 0, 6, .inl (fun _ => 0))), (b_10, .inl (tc 0, 6, .inl (fun _ => 0))), (b_11, .inl (tc 0, 6, .inl (fun _ => 0))), (b_12, .inl (tc 0, 6, .inl (fun _ => 0))), (q_13, .inl (tc 1, 61, .inr (.inl (fun _ => 0))))] := hD₀
  replace hS := hS₀
  clear hP₀ hD₀ hS₀
  refine lv_aload_n hx hb dX4_init_23 rfl (lv_at hl 0 rfl) ?_
  refine lv_lconst (v := 0) hx hb dX4_init_24 (by decide) ?_
  refine pf_X4_22 hx hb hts hown hK hP hD hS 0 rfl (Nat.le_of_ble_eq_true rfl) rfl rfl dX4_init_25 (fun H locs hP₀ hD₀ hS₀ => ?_)
  replace hP : va_P D classes [(h0, .inr (4, [.ref q_1, .ref q_13, .long 0])), (q_1, .inr (9, [.int 0, .int 0, .int 0, .int 0, .int 0, .int 0, .ref b_5, .ref b_6, .ref b_7, .ref b_8, .ref b_9, .ref b_10, .ref b_11, .ref b_12])), (b_5, .inl (tc 0, 10, .inl (fun _ => 0))), (b_6, .inl (tc 0, 10, .inl (fun _ => 0))), (b_7, .inl (tc 0, 6, .inl (fun _ => 0))), (b_8, .inl (tc 0, 6, .inl (fun _ => 0))), (b_9, .inl (tc 0, 6, .inl (fun _ => 0))), (b_10, .inl (tc 0, 6, .inl (fun _ => 0))), (b_11, .inl (tc 0, 6, .inl (fun _ => 0))), (b_12, .inl (tc 0, 6, .inl (fun _ => 0))), (q_13, .inl (tc 1, 61, .inr (.inl (fun _ => 0))))] H := hP₀
  replace hD : va_D A [(h0, .inr (4, [.ref q_1, .ref q_13, .long 0])), (q_1, .inr (9, [.int 0, .int 0, .int 0, .int 0, .int 0, .int 0, .ref b_5, .ref b_6, .ref b_7, .ref b_8, .ref b_9, .ref b_10, .ref b_11, .ref b_12])), (b_5, .inl (tc 0, 10, .inl (fun _ => 0))), (b_6, .inl (tc 0, 10, .inl (fun _ => 0))), (b_7, .inl (tc 0, 6, .inl (fun _ => 0))), (b_8, .inl (tc 0, 6, .inl (fun _ => 0))), (b_9, .inl (tc 0, 6, .inl (fun _ => 0))), (b_10, .inl (tc 0, 6, .inl (fun _ => 0))), (b_11, .inl (tc 0, 6, .inl (fun _ => 0))), (b_12, .inl (tc 0, 6, .inl (fun _ => 0))), (q_13, .inl (tc 1, 61, .inr (.inl (fun _ => 0))))] := hD₀
  replace hS := hS₀
  clear hP₀ hD₀ hS₀
  exact retV hx hb hr hlk hP hD hS (q_1, b_5, b_6, b_7, b_8, b_9, b_10, b_11, b_12, q_13) rfl [0, 1, 2, 3, 4, 5, 6, 7, 8, 9, 10] rfl rfl dX4_init_28 (Nat.le_of_ble_eq_true rfl) (Nat.le_of_ble_eq_true rfl) rfl
set_option maxHeartbeats 4000000 in
set_option maxRecDepth 100000 in
theorem ct_X1_init (l : Launch) (D : va_G) (tc : Nat → ClassId) (sk : (Nat → Nat) × (Nat → Nat)) (h0 : Nat)  : Ct l yX1_init cX1_init 1 none { frames := 2, cells := 11, slots := 120, locals := 32 } D tc sk [.ref h0] [(h0, .inr (1, [.null, .null, .null]))] (fun (v : Option Value) (u : (Nat) × (Nat) × (Nat) × (Nat) × (Nat) × (Nat) × (Nat) × (Nat) × (Nat) × (Nat) × (Nat)) => match u with | (b0, b1, b2, b3, b4, b5, b6, b7, b8, d1, d2) => v = none) (fun (u : (Nat) × (Nat) × (Nat) × (Nat) × (Nat) × (Nat) × (Nat) × (Nat) × (Nat) × (Nat) × (Nat)) => match u with | (b0, b1, b2, b3, b4, b5, b6, b7, b8, d1, d2) => [(h0, .inr (1, [.ref b0, .ref d1, .ref d2])), (b0, .inr (9, [.int 0, .int 0, .int 0, .int 0, .int 0, .int 0, .ref b1, .ref b2, .ref b3, .ref b4, .ref b5, .ref b6, .ref b7, .ref b8])), (b1, .inl (tc 0, 10, .inl (fun _ => 0))), (b2, .inl (tc 0, 10, .inl (fun _ => 0))), (b3, .inl (tc 0, 6, .inl (fun _ => 0))), (b4, .inl (tc 0, 6, .inl (fun _ => 0))), (b5, .inl (tc 0, 6, .inl (fun _ => 0))), (b6, .inl (tc 0, 6, .inl (fun _ => 0))), (b7, .inl (tc 0, 6, .inl (fun _ => 0))), (b8, .inl (tc 0, 6, .inl (fun _ => 0))), (d1, .inl (tc 0, 25, .inl (fun _ => 0))), (d2, .inl (tc 0, 25, .inl (fun _ => 0)))]) 11 120 := by
  refine Ct.start (by decide) (Nat.le_of_ble_eq_true rfl) (fun p e s m below meth c A ls hx hb hr hlk hin hml hown hts hK hX hP hD hA hl hS => ?_)
  have hl : lv_has ls 1 [(0, .ref h0)] := hl
  refine lv_aload_n hx hb dX1_init_0 rfl (lv_at hl 0 rfl) ?_
  refine W.objInit hx hb hown (hts _ k_370) (hts _ k_122) (hts _ k_123) rfl (by rw [hml]; exact hl.1) rfl dX1_init_1 (Nat.le_of_ble_eq_true rfl) (Nat.le_of_ble_eq_true rfl) ?_
  refine W.eq (g2 := F0 m 4 ls []) rfl ?_
  refine lv_aload_n hx hb dX1_init_4 rfl (lv_at hl 0 rfl) ?_
  refine va_new (ci := 9) (fs := [.int 0, .int 0, .int 0, .int 0, .int 0, .int 0, .null, .null, .null, .null, .null, .null, .null, .null]) (C := RX9) (T := TX9) (N := 14) hx hb hts iX9 tyX9 tyX9_ok hown (hts _ k_371) (hts _ k_164) (hts _ k_98) hK hP hD hS hA rfl dfX9 (Nat.le_of_ble_eq_true rfl) (Nat.le_of_ble_eq_true rfl) dX1_init_5 (fun q_1 H hP₀ hD₀ hS₀ => ?_)
  replace hP : va_P D classes [(h0, .inr (1, [.null, .null, .null])), (q_1, .inr (9, [.int 0, .int 0, .int 0, .int 0, .int 0, .int 0, .null, .null, .null, .null, .null, .null, .null, .null]))] H := hP₀
  replace hD : va_D A [(h0, .inr (1, [.null, .null, .null])), (q_1, .inr (9, [.int 0, .int 0, .int 0, .int 0, .int 0, .int 0, .null, .null, .null, .null, .null, .null, .null, .null]))] := hD₀
  replace hS := hS₀
  clear hP₀ hD₀ hS₀
  refine lv_dup hx hb dX1_init_8 rfl ?_
  refine cN (a := q_1) (As := []) (rest := [.ref q_1, .ref h0]) (wr := [(h0, .inr (1, [.null, .null, .null]))]) ⟨hx, hb, hml, hown, hts⟩ hK hX hA (ct_X9_init l D tc sk q_1) k_167 (by decide) k_166 k_98 rfl pl_X9_init ⟨Nat.le_of_ble_eq_true rfl, Nat.le_of_ble_eq_true rfl⟩ rfl rfl  hP hD hS [1] [0] rfl rfl rfl rfl rfl (by decide) rfl hl.1 rfl (Nat.le_of_ble_eq_true rfl) dX1_init_9 ⟨Nat.le_of_ble_eq_true rfl, Nat.le_of_ble_eq_true rfl⟩ (fun v_2 u_3 H locs hv_4 hP₀ hD₀ hS₀ => ?_)
  obtain ⟨b_5, b_6, b_7, b_8, b_9, b_10, b_11, b_12⟩ := u_3
  obtain rfl : v_2 = none := hv_4
  refine W.eq (g2 := F0 m 12 ls [.ref q_1, .ref h0]) rfl ?_
  replace hP : va_P D classes [(h0, .inr (1, [.null, .null, .null])), (q_1, .inr (9, [.int 0, .int 0, .int 0, .int 0, .int 0, .int 0, .ref b_5, .ref b_6, .ref b_7, .ref b_8, .ref b_9, .ref b_10, .ref b_11, .ref b_12])), (b_5, .inl (tc 0, 10, .inl (fun _ => 0))), (b_6, .inl (tc 0, 10, .inl (fun _ => 0))), (b_7, .inl (tc 0, 6, .inl (fun _ => 0))), (b_8, .inl (tc 0, 6, .inl (fun _ => 0))), (b_9, .inl (tc 0, 6, .inl (fun _ => 0))), (b_10, .inl (tc 0, 6, .inl (fun _ => 0))), (b_11, .inl (tc 0, 6, .inl (fun _ => 0))), (b_12, .inl (tc 0, 6, .inl (fun _ => 0)))] H := hP₀
  replace hD : va_D A [(h0, .inr (1, [.null, .null, .null])), (q_1, .inr (9, [.int 0, .int 0, .int 0, .int 0, .int 0, .int 0, .ref b_5, .ref b_6, .ref b_7, .ref b_8, .ref b_9, .ref b_10, .ref b_11, .ref b_12])), (b_5, .inl (tc 0, 10, .inl (fun _ => 0))), (b_6, .inl (tc 0, 10, .inl (fun _ => 0))), (b_7, .inl (tc 0, 6, .inl (fun _ => 0))), (b_8, .inl (tc 0, 6, .inl (fun _ => 0))), (b_9, .inl (tc 0, 6, .inl (fun _ => 0))), (b_10, .inl (tc 0, 6, .inl (fun _ => 0))), (b_11, .inl (tc 0, 6, .inl (fun _ => 0))), (b_12, .inl (tc 0, 6, .inl (fun _ => 0)))] := hD₀
  replace hS := hS₀
  clear hP₀ hD₀ hS₀
  refine pf_X1_12 (ty := (.object "PoisonBook$Shop")) hx hb hts hown hin hK hP hD hS 0 rfl (Nat.le_of_ble_eq_true rfl) (by decide +kernel) rfl rfl dX1_init_12 (fun H locs hP₀ hD₀ hS₀ => ?_)
  replace hP : va_P D classes [(h0, .inr (1, [.ref q_1, .null, .null])), (q_1, .inr (9, [.int 0, .int 0, .int 0, .int 0, .int 0, .int 0, .ref b_5, .ref b_6, .ref b_7, .ref b_8, .ref b_9, .ref b_10, .ref b_11, .ref b_12])), (b_5, .inl (tc 0, 10, .inl (fun _ => 0))), (b_6, .inl (tc 0, 10, .inl (fun _ => 0))), (b_7, .inl (tc 0, 6, .inl (fun _ => 0))), (b_8, .inl (tc 0, 6, .inl (fun _ => 0))), (b_9, .inl (tc 0, 6, .inl (fun _ => 0))), (b_10, .inl (tc 0, 6, .inl (fun _ => 0))), (b_11, .inl (tc 0, 6, .inl (fun _ => 0))), (b_12, .inl (tc 0, 6, .inl (fun _ => 0)))] H := hP₀
  replace hD : va_D A [(h0, .inr (1, [.ref q_1, .null, .null])), (q_1, .inr (9, [.int 0, .int 0, .int 0, .int 0, .int 0, .int 0, .ref b_5, .ref b_6, .ref b_7, .ref b_8, .ref b_9, .ref b_10, .ref b_11, .ref b_12])), (b_5, .inl (tc 0, 10, .inl (fun _ => 0))), (b_6, .inl (tc 0, 10, .inl (fun _ => 0))), (b_7, .inl (tc 0, 6, .inl (fun _ => 0))), (b_8, .inl (tc 0, 6, .inl (fun _ => 0))), (b_9, .inl (tc 0, 6, .inl (fun _ => 0))), (b_10, .inl (tc 0, 6, .inl (fun _ => 0))), (b_11, .inl (tc 0, 6, .inl (fun _ => 0))), (b_12, .inl (tc 0, 6, .inl (fun _ => 0)))] := hD₀
  replace hS := hS₀
  clear hP₀ hD₀ hS₀
  refine lv_aload_n hx hb dX1_init_15 rfl (lv_at hl 0 rfl) ?_
  refine lv_bipush (v := 25) hx hb dX1_init_16 (by decide) ?_
  refine nwA (atype := .int) (a0 := (25, .inl (fun _ => 0))) hx hb (hts _ k_156) rfl hK hP hD hS hA 0 rfl (fun _ => rfl) (by decide) (by decide) (by decide) (Nat.le_of_ble_eq_true rfl) (Nat.le_of_ble_eq_true rfl) dX1_init_18 (fun q_13 H hP₀ hD₀ hS₀ => ?_)
  replace hP : va_P D classes [(h0, .inr (1, [.ref q_1, .null, .null])), (q_1, .inr (9, [.int 0, .int 0, .int 0, .int 0, .int 0, .int 0, .ref b_5, .ref b_6, .ref b_7, .ref b_8, .ref b_9, .ref b_10, .ref b_11, .ref b_12])), (b_5, .inl (tc 0, 10, .inl (fun _ => 0))), (b_6, .inl (tc 0, 10, .inl (fun _ => 0))), (b_7, .inl (tc 0, 6, .inl (fun _ => 0))), (b_8, .inl (tc 0, 6, .inl (fun _ => 0))), (b_9, .inl (tc 0, 6, .inl (fun _ => 0))), (b_10, .inl (tc 0, 6, .inl (fun _ => 0))), (b_11, .inl (tc 0, 6, .inl (fun _ => 0))), (b_12, .inl (tc 0, 6, .inl (fun _ => 0))), (q_13, .inl (tc 0, 25, .inl (fun _ => 0)))] H := hP₀
  replace hD : va_D A [(h0, .inr (1, [.ref q_1, .null, .null])), (q_1, .inr (9, [.int 0, .int 0, .int 0, .int 0, .int 0, .int 0, .ref b_5, .ref b_6, .ref b_7, .ref b_8, .ref b_9, .ref b_10, .ref b_11, .ref b_12])), (b_5, .inl (tc 0, 10, .inl (fun _ => 0))), (b_6, .inl (tc 0, 10, .inl (fun _ => 0))), (b_7, .inl (tc 0, 6, .inl (fun _ => 0))), (b_8, .inl (tc 0, 6, .inl (fun _ => 0))), (b_9, .inl (tc 0, 6, .inl (fun _ => 0))), (b_10, .inl (tc 0, 6, .inl (fun _ => 0))), (b_11, .inl (tc 0, 6, .inl (fun _ => 0))), (b_12, .inl (tc 0, 6, .inl (fun _ => 0))), (q_13, .inl (tc 0, 25, .inl (fun _ => 0)))] := hD₀
  replace hS := hS₀
  clear hP₀ hD₀ hS₀
  refine pf_X1_18 (ty := (.array .int)) hx hb hts hown hin hK hP hD hS 0 rfl (Nat.le_of_ble_eq_true rfl) (by decide +kernel) rfl rfl dX1_init_20 (fun H locs hP₀ hD₀ hS₀ => ?_)
  replace hP : va_P D classes [(h0, .inr (1, [.ref q_1, .ref q_13, .null])), (q_1, .inr (9, [.int 0, .int 0, .int 0, .int 0, .int 0, .int 0, .ref b_5, .ref b_6, .ref b_7, .ref b_8, .ref b_9, .ref b_10, .ref b_11, .ref b_12])), (b_5, .inl (tc 0, 10, .inl (fun _ => 0))), (b_6, .inl (tc 0, 10, .inl (fun _ => 0))), (b_7, .inl (tc 0, 6, .inl (fun _ => 0))), (b_8, .inl (tc 0, 6, .inl (fun _ => 0))), (b_9, .inl (tc 0, 6, .inl (fun _ => 0))), (b_10, .inl (tc 0, 6, .inl (fun _ => 0))), (b_11, .inl (tc 0, 6, .inl (fun _ => 0))), (b_12, .inl (tc 0, 6, .inl (fun _ => 0))), (q_13, .inl (tc 0, 25, .inl (fun _ => 0)))] H := hP₀
  replace hD : va_D A [(h0, .inr (1, [.ref q_1, .ref q_13, .null])), (q_1, .inr (9, [.int 0, .int 0, .int 0, .int 0, .int 0, .int 0, .ref b_5, .ref b_6, .ref b_7, .ref b_8, .ref b_9, .ref b_10, .ref b_11, .ref b_12])), (b_5, .inl (tc 0, 10, .inl (fun _ => 0))), (b_6, .inl (tc 0, 10, .inl (fun _ => 0))), (b_7, .inl (tc 0, 6, .inl (fun _ => 0))), (b_8, .inl (tc 0, 6, .inl (fun _ => 0))), (b_9, .inl (tc 0, 6, .inl (fun _ => 0))), (b_10, .inl (tc 0, 6, .inl (fun _ => 0))), (b_11, .inl (tc 0, 6, .inl (fun _ => 0))), (b_12, .inl (tc 0, 6, .inl (fun _ => 0))), (q_13, .inl (tc 0, 25, .inl (fun _ => 0)))] := hD₀
  replace hS := hS₀
  clear hP₀ hD₀ hS₀
  refine lv_aload_n hx hb dX1_init_23 rfl (lv_at hl 0 rfl) ?_
  refine lv_bipush (v := 25) hx hb dX1_init_24 (by decide) ?_
  refine nwA (atype := .int) (a0 := (25, .inl (fun _ => 0))) hx hb (hts _ k_156) rfl hK hP hD hS hA 0 rfl (fun _ => rfl) (by decide) (by decide) (by decide) (Nat.le_of_ble_eq_true rfl) (Nat.le_of_ble_eq_true rfl) dX1_init_26 (fun q_14 H hP₀ hD₀ hS₀ => ?_)
  replace hP : va_P D classes [(h0, .inr (1, [.ref q_1, .ref q_13, .null])), (q_1, .inr (9, [.int 0, .int 0, .int 0, .int 0, .int 0, .int 0, .ref b_5, .ref b_6, .ref b_7, .ref b_8, .ref b_9, .ref b_10, .ref b_11, .ref b_12])), (b_5, .inl (tc 0, 10, .inl (fun _ => 0))), (b_6, .inl (tc 0, 10, .inl (fun _ => 0))), (b_7, .inl (tc 0, 6, .inl (fun _ => 0))), (b_8, .inl (tc 0, 6, .inl (fun _ => 0))), (b_9, .inl (tc 0, 6, .inl (fun _ => 0))), (b_10, .inl (tc 0, 6, .inl (fun _ => 0))), (b_11, .inl (tc 0, 6, .inl (fun _ => 0))), (b_12, .inl (tc 0, 6, .inl (fun _ => 0))), (q_13, .inl (tc 0, 25, .inl (fun _ => 0))), (q_14, .inl (tc 0, 25, .inl (fun _ => 0)))] H := hP₀
  replace hD : va_D A [(h0, .inr (1, [.ref q_1, .ref q_13, .null])), (q_1, .inr (9, [.int 0, .int 0, .int 0, .int 0, .int 0, .int 0, .ref b_5, .ref b_6, .ref b_7, .ref b_8, .ref b_9, .ref b_10, .ref b_11, .ref b_12])), (b_5, .inl (tc 0, 10, .inl (fun _ => 0))), (b_6, .inl (tc 0, 10, .inl (fun _ => 0))), (b_7, .inl (tc 0, 6, .inl (fun _ => 0))), (b_8, .inl (tc 0, 6, .inl (fun _ => 0))), (b_9, .inl (tc 0, 6, .inl (fun _ => 0))), (b_10, .inl (tc 0, 6, .inl (fun _ => 0))), (b_11, .inl (tc 0, 6, .inl (fun _ => 0))), (b_12, .inl (tc 0, 6, .inl (fun _ => 0))), (q_13, .inl (tc 0, 25, .inl (fun _ => 0))), (q_14, .inl (tc 0, 25, .inl (fun _ => 0)))] := hD₀
  replace hS := hS₀
  clear hP₀ hD₀ hS₀
  refine pf_X1_22 (ty := (.array .int)) hx hb hts hown hin hK hP hD hS 0 rfl (Nat.le_of_ble_eq_true rfl) (by decide +kernel) rfl rfl dX1_init_28 (fun H locs hP₀ hD₀ hS₀ => ?_)
  replace hP : va_P D classes [(h0, .inr (1, [.ref q_1, .ref q_13, .ref q_14])), (q_1, .inr (9, [.int 0, .int 0, .int 0, .int 0, .int 0, .int 0, .ref b_5, .ref b_6, .ref b_7, .ref b_8, .ref b_9, .ref b_10, .ref b_11, .ref b_12])), (b_5, .inl (tc 0, 10, .inl (fun _ => 0))), (b_6, .inl (tc 0, 10, .inl (fun _ => 0))), (b_7, .inl (tc 0, 6, .inl (fun _ => 0))), (b_8, .inl (tc 0, 6, .inl (fun _ => 0))), (b_9, .inl (tc 0, 6, .inl (fun _ => 0))), (b_10, .inl (tc 0, 6, .inl (fun _ => 0))), (b_11, .inl (tc 0, 6, .inl (fun _ => 0))), (b_12, .inl (tc 0, 6, .inl (fun _ => 0))), (q_13, .inl (tc 0, 25, .inl (fun _ => 0))), (q_14, .inl (tc 0, 25, .inl (fun _ => 0)))] H := hP₀
  replace hD : va_D A [(h0, .inr (1, [.ref q_1, .ref q_13, .ref q_14])), (q_1, .inr (9, [.int 0, .int 0, .int 0, .int 0, .int 0, .int 0, .ref b_5, .ref b_6, .ref b_7, .ref b_8, .ref b_9, .ref b_10, .ref b_11, .ref b_12])), (b_5, .inl (tc 0, 10, .inl (fun _ => 0))), (b_6, .inl (tc 0, 10, .inl (fun _ => 0))), (b_7, .inl (tc 0, 6, .inl (fun _ => 0))), (b_8, .inl (tc 0, 6, .inl (fun _ => 0))), (b_9, .inl (tc 0, 6, .inl (fun _ => 0))), (b_10, .inl (tc 0, 6, .inl (fun _ => 0))), (b_11, .inl (tc 0, 6, .inl (fun _ => 0))), (b_12, .inl (tc 0, 6, .inl (fun _ => 0))), (q_13, .inl (tc 0, 25, .inl (fun _ => 0))), (q_14, .inl (tc 0, 25, .inl (fun _ => 0)))] := hD₀
  replace hS := hS₀
  clear hP₀ hD₀ hS₀
  exact retV hx hb hr hlk hP hD hS (q_1, b_5, b_6, b_7, b_8, b_9, b_10, b_11, b_12, q_13, q_14) rfl [0, 1, 2, 3, 4, 5, 6, 7, 8, 9, 10, 11] rfl rfl dX1_init_31 (Nat.le_of_ble_eq_true rfl) (Nat.le_of_ble_eq_true rfl) rfl
set_option maxHeartbeats 4000000 in
set_option maxRecDepth 100000 in
theorem ct_X2_init (l : Launch) (D : va_G) (tc : Nat → ClassId) (sk : (Nat → Nat) × (Nat → Nat)) (h0 : Nat)  : Ct l yX2_init cX2_init 1 none { frames := 2, cells := 11, slots := 504, locals := 32 } D tc sk [.ref h0] [(h0, .inr (2, [.null, .null, .null, .int 0]))] (fun (v : Option Value) (u : (Nat) × (Nat) × (Nat) × (Nat) × (Nat) × (Nat) × (Nat) × (Nat) × (Nat) × (Nat) × (Nat)) => match u with | (b0, b1, b2, b3, b4, b5, b6, b7, b8, d1, d2) => v = none) (fun (u : (Nat) × (Nat) × (Nat) × (Nat) × (Nat) × (Nat) × (Nat) × (Nat) × (Nat) × (Nat) × (Nat)) => match u with | (b0, b1, b2, b3, b4, b5, b6, b7, b8, d1, d2) => [(h0, .inr (2, [.ref b0, .ref d1, .ref d2, .int 0])), (b0, .inr (9, [.int 0, .int 0, .int 0, .int 0, .int 0, .int 0, .ref b1, .ref b2, .ref b3, .ref b4, .ref b5, .ref b6, .ref b7, .ref b8])), (b1, .inl (tc 0, 10, .inl (fun _ => 0))), (b2, .inl (tc 0, 10, .inl (fun _ => 0))), (b3, .inl (tc 0, 6, .inl (fun _ => 0))), (b4, .inl (tc 0, 6, .inl (fun _ => 0))), (b5, .inl (tc 0, 6, .inl (fun _ => 0))), (b6, .inl (tc 0, 6, .inl (fun _ => 0))), (b7, .inl (tc 0, 6, .inl (fun _ => 0))), (b8, .inl (tc 0, 6, .inl (fun _ => 0))), (d1, .inl (tc 0, 427, .inl (fun _ => 0))), (d2, .inl (tc 3, 7, .inl (fun _ => 0)))]) 11 504 := by
  refine Ct.start (by decide) (Nat.le_of_ble_eq_true rfl) (fun p e s m below meth c A ls hx hb hr hlk hin hml hown hts hK hX hP hD hA hl hS => ?_)
  have hl : lv_has ls 1 [(0, .ref h0)] := hl
  refine lv_aload_n hx hb dX2_init_0 rfl (lv_at hl 0 rfl) ?_
  refine W.objInit hx hb hown (hts _ k_388) (hts _ k_122) (hts _ k_123) rfl (by rw [hml]; exact hl.1) rfl dX2_init_1 (Nat.le_of_ble_eq_true rfl) (Nat.le_of_ble_eq_true rfl) ?_
  refine W.eq (g2 := F0 m 4 ls []) rfl ?_
  refine lv_aload_n hx hb dX2_init_4 rfl (lv_at hl 0 rfl) ?_
  refine va_new (ci := 9) (fs := [.int 0, .int 0, .int 0, .int 0, .int 0, .int 0, .null, .null, .null, .null, .null, .null, .null, .null]) (C := RX9) (T := TX9) (N := 14) hx hb hts iX9 tyX9 tyX9_ok hown (hts _ k_389) (hts _ k_164) (hts _ k_98) hK hP hD hS hA rfl dfX9 (Nat.le_of_ble_eq_true rfl) (Nat.le_of_ble_eq_true rfl) dX2_init_5 (fun q_1 H hP₀ hD₀ hS₀ => ?_)
  replace hP : va_P D classes [(h0, .inr (2, [.null, .null, .null, .int 0])), (q_1, .inr (9, [.int 0, .int 0, .int 0, .int 0, .int 0, .int 0, .null, .null, .null, .null, .null, .null, .null, .null]))] H := hP₀
  replace hD : va_D A [(h0, .inr (2, [.null, .null, .null, .int 0])), (q_1, .inr (9, [.int 0, .int 0, .int 0, .int 0, .int 0, .int 0, .null, .null, .null, .null, .null, .null, .null, .null]))] := hD₀
  replace hS := hS₀
  clear hP₀ hD₀ hS₀
  refine lv_dup hx hb dX2_init_8 rfl ?_
  refine cN (a := q_1) (As := []) (rest := [.ref q_1, .ref h0]) (wr := [(h0, .inr (2, [.null, .null, .null, .int 0]))]) ⟨hx, hb, hml, hown, hts⟩ hK hX hA (ct_X9_init l D tc sk q_1) k_167 (by decide) k_166 k_98 rfl pl_X9_init ⟨Nat.le_of_ble_eq_true rfl, Nat.le_of_ble_eq_true rfl⟩ rfl rfl  hP hD hS [1] [0] rfl rfl rfl rfl rfl (by decide) rfl hl.1 rfl (Nat.le_of_ble_eq_true rfl) dX2_init_9 ⟨Nat.le_of_ble_eq_true rfl, Nat.le_of_ble_eq_true rfl⟩ (fun v_2 u_3 H locs hv_4 hP₀ hD₀ hS₀ => ?_)
  obtain ⟨b_5, b_6, b_7, b_8, b_9, b_10, b_11, b_12⟩ := u_3
  obtain rfl : v_2 = none := hv_4
  refine W.eq (g2 := F0 m 12 ls [.ref q_1, .ref h0]) rfl ?_
  replace hP : va_P D classes [(h0, .inr (2, [.null, .null, .null, .int 0])), (q_1, .inr (9, [.int 0, .int 0, .int 0, .int 0, .int 0, .int 0, .ref b_5, .ref b_6, .ref b_7, .ref b_8, .ref b_9, .ref b_10, .ref b_11, .ref b_12])), (b_5, .inl (tc 0, 10, .inl (fun _ => 0))), (b_6, .inl (tc 0, 10, .inl (fun _ => 0))), (b_7, .inl (tc 0, 6, .inl (fun _ => 0))), (b_8, .inl (tc 0, 6, .inl (fun _ => 0))), (b_9, .inl (tc 0, 6, .inl (fun _ => 0))), (b_10, .inl (tc 0, 6, .inl (fun _ => 0))), (b_11, .inl (tc 0, 6, .inl (fun _ => 0))), (b_12, .inl (tc 0, 6, .inl (fun _ => 0)))] H := hP₀
  replace hD : va_D A [(h0, .inr (2, [.null, .null, .null, .int 0])), (q_1, .inr (9, [.int 0, .int 0, .int 0, .int 0, .int 0, .int 0, .ref b_5, .ref b_6, .ref b_7, .ref b_8, .ref b_9, .ref b_10, .ref b_11, .ref b_12])), (b_5, .inl (tc 0, 10, .inl (fun _ => 0))), (b_6, .inl (tc 0, 10, .inl (fun _ => 0))), (b_7, .inl (tc 0, 6, .inl (fun _ => 0))), (b_8, .inl (tc 0, 6, .inl (fun _ => 0))), (b_9, .inl (tc 0, 6, .inl (fun _ => 0))), (b_10, .inl (tc 0, 6, .inl (fun _ => 0))), (b_11, .inl (tc 0, 6, .inl (fun _ => 0))), (b_12, .inl (tc 0, 6, .inl (fun _ => 0)))] := hD₀
  replace hS := hS₀
  clear hP₀ hD₀ hS₀
  refine pf_X2_14 (ty := (.object "PoisonBook$Shop")) hx hb hts hown hin hK hP hD hS 0 rfl (Nat.le_of_ble_eq_true rfl) (by decide +kernel) rfl rfl dX2_init_12 (fun H locs hP₀ hD₀ hS₀ => ?_)
  replace hP : va_P D classes [(h0, .inr (2, [.ref q_1, .null, .null, .int 0])), (q_1, .inr (9, [.int 0, .int 0, .int 0, .int 0, .int 0, .int 0, .ref b_5, .ref b_6, .ref b_7, .ref b_8, .ref b_9, .ref b_10, .ref b_11, .ref b_12])), (b_5, .inl (tc 0, 10, .inl (fun _ => 0))), (b_6, .inl (tc 0, 10, .inl (fun _ => 0))), (b_7, .inl (tc 0, 6, .inl (fun _ => 0))), (b_8, .inl (tc 0, 6, .inl (fun _ => 0))), (b_9, .inl (tc 0, 6, .inl (fun _ => 0))), (b_10, .inl (tc 0, 6, .inl (fun _ => 0))), (b_11, .inl (tc 0, 6, .inl (fun _ => 0))), (b_12, .inl (tc 0, 6, .inl (fun _ => 0)))] H := hP₀
  replace hD : va_D A [(h0, .inr (2, [.ref q_1, .null, .null, .int 0])), (q_1, .inr (9, [.int 0, .int 0, .int 0, .int 0, .int 0, .int 0, .ref b_5, .ref b_6, .ref b_7, .ref b_8, .ref b_9, .ref b_10, .ref b_11, .ref b_12])), (b_5, .inl (tc 0, 10, .inl (fun _ => 0))), (b_6, .inl (tc 0, 10, .inl (fun _ => 0))), (b_7, .inl (tc 0, 6, .inl (fun _ => 0))), (b_8, .inl (tc 0, 6, .inl (fun _ => 0))), (b_9, .inl (tc 0, 6, .inl (fun _ => 0))), (b_10, .inl (tc 0, 6, .inl (fun _ => 0))), (b_11, .inl (tc 0, 6, .inl (fun _ => 0))), (b_12, .inl (tc 0, 6, .inl (fun _ => 0)))] := hD₀
  replace hS := hS₀
  clear hP₀ hD₀ hS₀
  refine lv_aload_n hx hb dX2_init_15 rfl (lv_at hl 0 rfl) ?_
  refine lv_sipush (v := 427) hx hb dX2_init_16 (by decide) ?_
  refine nwA (atype := .int) (a0 := (427, .inl (fun _ => 0))) hx hb (hts _ k_156) rfl hK hP hD hS hA 0 rfl (fun _ => rfl) (by decide) (by decide) (by decide) (Nat.le_of_ble_eq_true rfl) (Nat.le_of_ble_eq_true rfl) dX2_init_19 (fun q_13 H hP₀ hD₀ hS₀ => ?_)
  replace hP : va_P D classes [(h0, .inr (2, [.ref q_1, .null, .null, .int 0])), (q_1, .inr (9, [.int 0, .int 0, .int 0, .int 0, .int 0, .int 0, .ref b_5, .ref b_6, .ref b_7, .ref b_8, .ref b_9, .ref b_10, .ref b_11, .ref b_12])), (b_5, .inl (tc 0, 10, .inl (fun _ => 0))), (b_6, .inl (tc 0, 10, .inl (fun _ => 0))), (b_7, .inl (tc 0, 6, .inl (fun _ => 0))), (b_8, .inl (tc 0, 6, .inl (fun _ => 0))), (b_9, .inl (tc 0, 6, .inl (fun _ => 0))), (b_10, .inl (tc 0, 6, .inl (fun _ => 0))), (b_11, .inl (tc 0, 6, .inl (fun _ => 0))), (b_12, .inl (tc 0, 6, .inl (fun _ => 0))), (q_13, .inl (tc 0, 427, .inl (fun _ => 0)))] H := hP₀
  replace hD : va_D A [(h0, .inr (2, [.ref q_1, .null, .null, .int 0])), (q_1, .inr (9, [.int 0, .int 0, .int 0, .int 0, .int 0, .int 0, .ref b_5, .ref b_6, .ref b_7, .ref b_8, .ref b_9, .ref b_10, .ref b_11, .ref b_12])), (b_5, .inl (tc 0, 10, .inl (fun _ => 0))), (b_6, .inl (tc 0, 10, .inl (fun _ => 0))), (b_7, .inl (tc 0, 6, .inl (fun _ => 0))), (b_8, .inl (tc 0, 6, .inl (fun _ => 0))), (b_9, .inl (tc 0, 6, .inl (fun _ => 0))), (b_10, .inl (tc 0, 6, .inl (fun _ => 0))), (b_11, .inl (tc 0, 6, .inl (fun _ => 0))), (b_12, .inl (tc 0, 6, .inl (fun _ => 0))), (q_13, .inl (tc 0, 427, .inl (fun _ => 0)))] := hD₀
  replace hS := hS₀
  clear hP₀ hD₀ hS₀
  refine pf_X2_18 (ty := (.array .int)) hx hb hts hown hin hK hP hD hS 0 rfl (Nat.le_of_ble_eq_true rfl) (by decide +kernel) rfl rfl dX2_init_21 (fun H locs hP₀ hD₀ hS₀ => ?_)
  replace hP : va_P D classes [(h0, .inr (2, [.ref q_1, .ref q_13, .null, .int 0])), (q_1, .inr (9, [.int 0, .int 0, .int 0, .int 0, .int 0, .int 0, .ref b_5, .ref b_6, .ref b_7, .ref b_8, .ref b_9, .ref b_10, .ref b_11, .ref b_12])), (b_5, .inl (tc 0, 10, .inl (fun _ => 0))), (b_6, .inl (tc 0, 10, .inl (fun _ => 0))), (b_7, .inl (tc 0, 6, .inl (fun _ => 0))), (b_8, .inl (tc 0, 6, .inl (fun _ => 0))), (b_9, .inl (tc 0, 6, .inl (fun _ => 0))), (b_10, .inl (tc 0, 6, .inl (fun _ => 0))), (b_11, .inl (tc 0, 6, .inl (fun _ => 0))), (b_12, .inl (tc 0, 6, .inl (fun _ => 0))), (q_13, .inl (tc 0, 427, .inl (fun _ => 0)))] H := hP₀
  replace hD : va_D A [(h0, .inr (2, [.ref q_1, .ref q_13, .null, .int 0])), (q_1, .inr (9, [.int 0, .int 0, .int 0, .int 0, .int 0, .int 0, .ref b_5, .ref b_6, .ref b_7, .ref b_8, .ref b_9, .ref b_10, .ref b_11, .ref b_12])), (b_5, .inl (tc 0, 10, .inl (fun _ => 0))), (b_6, .inl (tc 0, 10, .inl (fun _ => 0))), (b_7, .inl (tc 0, 6, .inl (fun _ => 0))), (b_8, .inl (tc 0, 6, .inl (fun _ => 0))), (b_9, .inl (tc 0, 6, .inl (fun _ => 0))), (b_10, .inl (tc 0, 6, .inl (fun _ => 0))), (b_11, .inl (tc 0, 6, .inl (fun _ => 0))), (b_12, .inl (tc 0, 6, .inl (fun _ => 0))), (q_13, .inl (tc 0, 427, .inl (fun _ => 0)))] := hD₀
  replace hS := hS₀
  clear hP₀ hD₀ hS₀
  refine lv_aload_n hx hb dX2_init_24 rfl (lv_at hl 0 rfl) ?_
  refine lv_bipush (v := 7) hx hb dX2_init_25 (by decide) ?_
  refine nwA (atype := .boolean) (a0 := (7, .inl (fun _ => 0))) hx hb (hts _ k_405) rfl hK hP hD hS hA 3 rfl (fun _ => rfl) (by decide) (by decide) (by decide) (Nat.le_of_ble_eq_true rfl) (Nat.le_of_ble_eq_true rfl) dX2_init_27 (fun q_14 H hP₀ hD₀ hS₀ => ?_)
  replace hP : va_P D classes [(h0, .inr (2, [.ref q_1, .ref q_13, .null, .int 0])), (q_1, .inr (9, [.int 0, .int 0, .int 0, .int 0, .int 0, .int 0, .ref b_5, .ref b_6, .ref b_7, .ref b_8, .ref b_9, .ref b_10, .ref b_11, .ref b_12])), (b_5, .inl (tc 0, 10, .inl (fun _ => 0))), (b_6, .inl (tc 0, 10, .inl (fun _ => 0))), (b_7, .inl (tc 0, 6, .inl (fun _ => 0))), (b_8, .inl (tc 0, 6, .inl (fun _ => 0))), (b_9, .inl (tc 0, 6, .inl (fun _ => 0))), (b_10, .inl (tc 0, 6, .inl (fun _ => 0))), (b_11, .inl (tc 0, 6, .inl (fun _ => 0))), (b_12, .inl (tc 0, 6, .inl (fun _ => 0))), (q_13, .inl (tc 0, 427, .inl (fun _ => 0))), (q_14, .inl (tc 3, 7, .inl (fun _ => 0)))] H := hP₀
  replace hD : va_D A [(h0, .inr (2, [.ref q_1, .ref q_13, .null, .int 0])), (q_1, .inr (9, [.int 0, .int 0, .int 0, .int 0, .int 0, .int 0, .ref b_5, .ref b_6, .ref b_7, .ref b_8, .ref b_9, .ref b_10, .ref b_11, .ref b_12])), (b_5, .inl (tc 0, 10, .inl (fun _ => 0))), (b_6, .inl (tc 0, 10, .inl (fun _ => 0))), (b_7, .inl (tc 0, 6, .inl (fun _ => 0))), (b_8, .inl (tc 0, 6, .inl (fun _ => 0))), (b_9, .inl (tc 0, 6, .inl (fun _ => 0))), (b_10, .inl (tc 0, 6, .inl (fun _ => 0))), (b_11, .inl (tc 0, 6, .inl (fun _ => 0))), (b_12, .inl (tc 0, 6, .inl (fun _ => 0))), (q_13, .inl (tc 0, 427, .inl (fun _ => 0))), (q_14, .inl (tc 3, 7, .inl (fun _ => 0)))] := hD₀
  replace hS := hS₀
  clear hP₀ hD₀ hS₀
  refine pf_X2_22 (ty := (.array .boolean)) hx hb hts hown hin hK hP hD hS 0 rfl (Nat.le_of_ble_eq_true rfl) (by decide +kernel) rfl rfl dX2_init_29 (fun H locs hP₀ hD₀ hS₀ => ?_)
  replace hP : va_P D classes [(h0, .inr (2, [.ref q_1, .ref q_13, .ref q_14, .int 0])), (q_1, .inr (9, [.int 0, .int 0, .int 0, .int 0, .int 0, .int 0, .ref b_5, .ref b_6, .ref b_7, .ref b_8, .ref b_9, .ref b_10, .ref b_11, .ref b_12])), (b_5, .inl (tc 0, 10, .inl (fun _ => 0))), (b_6, .inl (tc 0, 10, .inl (fun _ => 0))), (b_7, .inl (tc 0, 6, .inl (fun _ => 0))), (b_8, .inl (tc 0, 6, .inl (fun _ => 0))), (b_9, .inl (tc 0, 6, .inl (fun _ => 0))), (b_10, .inl (tc 0, 6, .inl (fun _ => 0))), (b_11, .inl (tc 0, 6, .inl (fun _ => 0))), (b_12, .inl (tc 0, 6, .inl (fun _ => 0))), (q_13, .inl (tc 0, 427, .inl (fun _ => 0))), (q_14, .inl (tc 3, 7, .inl (fun _ => 0)))] H := hP₀
  replace hD : va_D A [(h0, .inr (2, [.ref q_1, .ref q_13, .ref q_14, .int 0])), (q_1, .inr (9, [.int 0, .int 0, .int 0, .int 0, .int 0, .int 0, .ref b_5, .ref b_6, .ref b_7, .ref b_8, .ref b_9, .ref b_10, .ref b_11, .ref b_12])), (b_5, .inl (tc 0, 10, .inl (fun _ => 0))), (b_6, .inl (tc 0, 10, .inl (fun _ => 0))), (b_7, .inl (tc 0, 6, .inl (fun _ => 0))), (b_8, .inl (tc 0, 6, .inl (fun _ => 0))), (b_9, .inl (tc 0, 6, .inl (fun _ => 0))), (b_10, .inl (tc 0, 6, .inl (fun _ => 0))), (b_11, .inl (tc 0, 6, .inl (fun _ => 0))), (b_12, .inl (tc 0, 6, .inl (fun _ => 0))), (q_13, .inl (tc 0, 427, .inl (fun _ => 0))), (q_14, .inl (tc 3, 7, .inl (fun _ => 0)))] := hD₀
  replace hS := hS₀
  clear hP₀ hD₀ hS₀
  refine lv_aload_n hx hb dX2_init_32 rfl (lv_at hl 0 rfl) ?_
  refine lv_iconst (v := 0) hx hb dX2_init_33 (by decide) ?_
  refine pf_X2_26 hx hb hts hown hK hP hD hS 0 rfl (Nat.le_of_ble_eq_true rfl) rfl rfl dX2_init_34 (fun H locs hP₀ hD₀ hS₀ => ?_)
  replace hP : va_P D classes [(h0, .inr (2, [.ref q_1, .ref q_13, .ref q_14, .int 0])), (q_1, .inr (9, [.int 0, .int 0, .int 0, .int 0, .int 0, .int 0, .ref b_5, .ref b_6, .ref b_7, .ref b_8, .ref b_9, .ref b_10, .ref b_11, .ref b_12])), (b_5, .inl (tc 0, 10, .inl (fun _ => 0))), (b_6, .inl (tc 0, 10, .inl (fun _ => 0))), (b_7, .inl (tc 0, 6, .inl (fun _ => 0))), (b_8, .inl (tc 0, 6, .inl (fun _ => 0))), (b_9, .inl (tc 0, 6, .inl (fun _ => 0))), (b_10, .inl (tc 0, 6, .inl (fun _ => 0))), (b_11, .inl (tc 0, 6, .inl (fun _ => 0))), (b_12, .inl (tc 0, 6, .inl (fun _ => 0))), (q_13, .inl (tc 0, 427, .inl (fun _ => 0))), (q_14, .inl (tc 3, 7, .inl (fun _ => 0)))] H := hP₀
  replace hD : va_D A [(h0, .inr (2, [.ref q_1, .ref q_13, .ref q_14, .int 0])), (q_1, .inr (9, [.int 0, .int 0, .int 0, .int 0, .int 0, .int 0, .ref b_5, .ref b_6, .ref b_7, .ref b_8, .ref b_9, .ref b_10, .ref b_11, .ref b_12])), (b_5, .inl (tc 0, 10, .inl (fun _ => 0))), (b_6, .inl (tc 0, 10, .inl (fun _ => 0))), (b_7, .inl (tc 0, 6, .inl (fun _ => 0))), (b_8, .inl (tc 0, 6, .inl (fun _ => 0))), (b_9, .inl (tc 0, 6, .inl (fun _ => 0))), (b_10, .inl (tc 0, 6, .inl (fun _ => 0))), (b_11, .inl (tc 0, 6, .inl (fun _ => 0))), (b_12, .inl (tc 0, 6, .inl (fun _ => 0))), (q_13, .inl (tc 0, 427, .inl (fun _ => 0))), (q_14, .inl (tc 3, 7, .inl (fun _ => 0)))] := hD₀
  replace hS := hS₀
  clear hP₀ hD₀ hS₀
  exact retV hx hb hr hlk hP hD hS (q_1, b_5, b_6, b_7, b_8, b_9, b_10, b_11, b_12, q_13, q_14) rfl [0, 1, 2, 3, 4, 5, 6, 7, 8, 9, 10, 11] rfl rfl dX2_init_37 (Nat.le_of_ble_eq_true rfl) (Nat.le_of_ble_eq_true rfl) rfl
set_option maxHeartbeats 4000000 in
set_option maxRecDepth 100000 in
theorem ct_X6_init (l : Launch) (D : va_G) (tc : Nat → ClassId) (sk : (Nat → Nat) × (Nat → Nat)) (h0 : Nat) (cc1 : Nat)  : Ct l yX6_init cX6_init 2 none { frames := 1, cells := 1, slots := 64, locals := 12 } D tc sk [.ref h0, .ref cc1] [(h0, .inr (6, [.null, .null]))] (fun (v : Option Value) (b1 : Nat) => v = none) (fun (b1 : Nat) => [(h0, .inr (6, [.ref cc1, .ref b1])), (b1, .inl (tc 1, 64, .inr (.inl (fun _ => 0))))]) 1 64 := by
  refine Ct.start (by decide) (Nat.le_of_ble_eq_true rfl) (fun p e s m below meth c A ls hx hb hr hlk hin hml hown hts hK hX hP hD hA hl hS => ?_)
  have hl : lv_has ls 2 [(0, .ref h0), (1, .ref cc1)] := hl
  refine lv_aload_n hx hb dX6_init_0 rfl (lv_at hl 0 rfl) ?_
  refine W.objInit hx hb hown (hts _ k_686) (hts _ k_122) (hts _ k_123) rfl (by rw [hml]; exact hl.1) rfl dX6_init_1 (Nat.le_of_ble_eq_true rfl) (Nat.le_of_ble_eq_true rfl) ?_
  refine W.eq (g2 := F0 m 4 ls []) rfl ?_
  refine lv_aload_n hx hb dX6_init_4 rfl (lv_at hl 0 rfl) ?_
  refine lv_bipush (v := 64) hx hb dX6_init_5 (by decide) ?_
  refine nwA (atype := .long) (a0 := (64, .inr (.inl (fun _ => 0)))) hx hb (hts _ k_364) rfl hK hP hD hS hA 1 rfl (fun _ => rfl) (by decide) (by decide) (by decide) (Nat.le_of_ble_eq_true rfl) (Nat.le_of_ble_eq_true rfl) dX6_init_7 (fun q_1 H hP₀ hD₀ hS₀ => ?_)
  replace hP : va_P D classes [(h0, .inr (6, [.null, .null])), (q_1, .inl (tc 1, 64, .inr (.inl (fun _ => 0))))] H := hP₀
  replace hD : va_D A [(h0, .inr (6, [.null, .null])), (q_1, .inl (tc 1, 64, .inr (.inl (fun _ => 0))))] := hD₀
  replace hS := hS₀
  clear hP₀ hD₀ hS₀
  refine pf_X6_9 (ty := (.array .long)) hx hb hts hown hin hK hP hD hS 0 rfl (Nat.le_of_ble_eq_true rfl) (by decide +kernel) rfl rfl dX6_init_9 (fun H locs hP₀ hD₀ hS₀ => ?_)
  replace hP : va_P D classes [(h0, .inr (6, [.null, .ref q_1])), (q_1, .inl (tc 1, 64, .inr (.inl (fun _ => 0))))] H := hP₀
  replace hD : va_D A [(h0, .inr (6, [.null, .ref q_1])), (q_1, .inl (tc 1, 64, .inr (.inl (fun _ => 0))))] := hD₀
  replace hS := hS₀
  clear hP₀ hD₀ hS₀
  refine lv_aload_n hx hb dX6_init_12 rfl (lv_at hl 0 rfl) ?_
  refine lv_aload_n hx hb dX6_init_13 rfl (lv_at hl 1 rfl) ?_
  refine pf_X6_13 (ty := (.array .int)) hx hb hts hown hin hK hP hD hS 0 rfl (Nat.le_of_ble_eq_true rfl) (by decide +kernel) rfl rfl dX6_init_14 (fun H locs hP₀ hD₀ hS₀ => ?_)
  replace hP : va_P D classes [(h0, .inr (6, [.ref cc1, .ref q_1])), (q_1, .inl (tc 1, 64, .inr (.inl (fun _ => 0))))] H := hP₀
  replace hD : va_D A [(h0, .inr (6, [.ref cc1, .ref q_1])), (q_1, .inl (tc 1, 64, .inr (.inl (fun _ => 0))))] := hD₀
  replace hS := hS₀
  clear hP₀ hD₀ hS₀
  exact retV hx hb hr hlk hP hD hS q_1 rfl [0, 1] rfl rfl dX6_init_17 (Nat.le_of_ble_eq_true rfl) (Nat.le_of_ble_eq_true rfl) rfl
set_option maxHeartbeats 4000000 in
set_option maxRecDepth 100000 in
theorem ct_J7_copyOf (l : Launch) (D : va_G) (tc : Nat → ClassId) (sk : (Nat → Nat) × (Nat → Nat)) (Ca : Nat → Nat) (Cf : Nat → Nat → Int32) (x1 : Int32) (h_x : 0 ≤ x1.toInt ∧ x1.toInt ≤ 400) : Ct l yJ7_copyOf_59c91 cJ7_copyOf_59c91 3 (some (.array .int)) { frames := 1, cells := 1, slots := 400, locals := 40 } D tc sk [.ref (Ca 0), .int x1] [((Ca 0), .inl (tc 0, 400, .inl (Cf 0)))] (fun (v : Option Value) (u : (Nat) × (Nat → Int32) × (Nat)) => match u with | (na0x0, oo0x1, nn0x1) => v = some (.ref na0x0) ∧ (nn0x1 ≤ 400)) (fun (u : (Nat) × (Nat → Int32) × (Nat)) => match u with | (na0x0, oo0x1, nn0x1) => [((Ca 0), .inl (tc 0, 400, .inl (Cf 0))), (na0x0, .inl (tc 0, nn0x1, .inl oo0x1))]) 1 400 := by
  refine Ct.start (by decide) (Nat.le_of_ble_eq_true rfl) (fun p e s m below meth c A ls hx hb hr hlk hin hml hown hts hK hX hP hD hA hl hS => ?_)
  have hl : lv_has ls 3 [(0, .ref (Ca 0)), (1, .int x1)] := hl
  refine lv_iload_n hx hb dJ7_copyOf_59c91_0 rfl (lv_at hl 1 rfl) ?_
  refine lv_aload_n hx hb dJ7_copyOf_59c91_1 rfl (lv_at hl 0 rfl) ?_
  refine va_alen hx hb hK hP 0 0 rfl rfl (v := 400) rfl dJ7_copyOf_59c91_2 ?_
  refine lv_icmp_ne (tgt := 14) hx hb dJ7_copyOf_59c91_3 (by decide) (fun c_1 => ?_) (fun c_1 => ?_)
  · skip
    refine lv_iload_n hx hb dJ7_copyOf_59c91_14 rfl (lv_at hl 1 rfl) ?_
    have hn4 : 0 + x1.toNatClampNeg ≤ 400 := by have := cl400 h_x; omega
    refine nwA (atype := .int) (N' := x1.toNatClampNeg) (a0 := (x1.toNatClampNeg, .inl (fun _ => 0))) hx hb (hts _ k_156) rfl hK hP hD hS hA 0 rfl (fun _ => rfl) (nneg h_x.1) rfl (by show x1.toNatClampNeg * 4 ≤ 536870912; omega) (Nat.le_of_ble_eq_true rfl) hn4 dJ7_copyOf_59c91_15 (fun q_2 H hP₀ hD₀ hS₀ => ?_)
    replace hP : va_P D classes [((Ca 0), .inl (tc 0, 400, .inl (Cf 0))), (q_2, .inl (tc 0, x1.toNatClampNeg, .inl (fun _ => 0)))] H := hP₀
    replace hD : va_D A [((Ca 0), .inl (tc 0, 400, .inl (Cf 0))), (q_2, .inl (tc 0, x1.toNatClampNeg, .inl (fun _ => 0)))] := hD₀
    replace hS := hS₀
    clear hP₀ hD₀ hS₀
    refine lv_astore_n (lv' := [(2, .ref q_2), (0, .ref (Ca 0)), (1, .int x1)]) hx hb dJ7_copyOf_59c91_17 rfl hl (by decide) rfl (fun ls hl₀ => ?_)
    replace hl := hl₀
    clear hl₀
    refine lv_aload_n hx hb dJ7_copyOf_59c91_18 rfl (lv_at hl 1 rfl) ?_
    refine lv_iconst (v := 0) hx hb dJ7_copyOf_59c91_19 (by decide) ?_
    refine lv_aload_n hx hb dJ7_copyOf_59c91_20 rfl (lv_at hl 0 rfl) ?_
    refine lv_iconst (v := 0) hx hb dJ7_copyOf_59c91_21 (by decide) ?_
    refine lv_aload_n hx hb dJ7_copyOf_59c91_22 rfl (lv_at hl 1 rfl) ?_
    refine va_alen hx hb hK hP 0 0 rfl rfl (v := 400) rfl dJ7_copyOf_59c91_23 ?_
    refine lv_iload_n hx hb dJ7_copyOf_59c91_24 rfl (lv_at hl 2 rfl) ?_
    refine va_mmin hx hb (hml.trans hl.1.symm) hown (hts _ k_679) (hts _ k_680) (hts _ k_114) (hts _ k_681) (Nat.le_of_ble_eq_true rfl) (Nat.le_of_ble_eq_true rfl) (Nat.le_of_ble_eq_true rfl) hn4 dJ7_copyOf_59c91_25 ?_
    refine lv_topi (fun x_3 ex_3 => ?_)
    have mx_3 := imin_f ex_3
    rw [show (400 : Int32).toInt = 400 by decide] at mx_3
    have hn_5 : 0 ≤ x_3.toInt := by omega
    refine cp_int hx hb (hml.trans hl.1.symm) hown (hts _ k_682) (hts _ k_602) (hts _ k_601) (hts _ k_111) hK hP hD hS 0 1 0 0 rfl rfl rfl rfl (by decide) (by decide) (nneg hn_5) (cp4 (by omega)) (cpB (by omega)) (Nat.le_of_ble_eq_true rfl) (Nat.le_of_ble_eq_true rfl) dJ7_copyOf_59c91_28 (fun g_4 H locs eg_4 hP₀ hD₀ hS₀ => ?_)
    replace hP : va_P D classes [((Ca 0), .inl (tc 0, 400, .inl (Cf 0))), (q_2, .inl (tc 0, x1.toNatClampNeg, .inl g_4))] H := hP₀
    replace hD : va_D A [((Ca 0), .inl (tc 0, 400, .inl (Cf 0))), (q_2, .inl (tc 0, x1.toNatClampNeg, .inl g_4))] := hD₀
    replace hS := hS₀
    clear hP₀ hD₀ hS₀
    refine lv_aload_n hx hb dJ7_copyOf_59c91_31 rfl (lv_at hl 0 rfl) ?_
    have ha_6 : x1.toNatClampNeg ≤ 400 := by
      have z_1 : ¬ (x1 : Int32).toInt = (400 : Int32).toInt := fun z => c_1 (Int32.toInt_inj.mp z)
      have y_400 : (400 : Int32).toInt = 400 := by decide
      omega
    exact retA (v := .ref q_2) hx hb hr hlk (Or.inr ⟨_, rfl⟩) (Or.inr ⟨_, rfl⟩) hP hD hS (q_2, g_4, x1.toNatClampNeg) ⟨rfl, ha_6⟩ [0, 1] rfl rfl dJ7_copyOf_59c91_32 (Nat.le_of_ble_eq_true rfl) hn4 rfl
  · skip
    refine lv_aload_n hx hb dJ7_copyOf_59c91_6 rfl (lv_at hl 0 rfl) ?_
    refine va_clone hx hb (hml.trans hl.1.symm) hown (hts _ k_672) (hts _ k_673) (hts _ k_674) (hts _ k_675) (hts _ k_676) hX.2.2.2.2.2.2 hK hP hD hS hA 0 0 rfl rfl (va_nm_int (hK.2 0 _ rfl).2) (fun i v hv => va_fit (cA := tc 0) (n := 400) (F := fun j => .int ((Cf 0) j)) (ty := .int) (fun i _ => rfl) i v hv) (Nat.le_of_ble_eq_true rfl) (Nat.le_of_ble_eq_true rfl) (Nat.le_of_ble_eq_true rfl) (Nat.le_of_ble_eq_true rfl) dJ7_copyOf_59c91_7 (fun q_7 H _ hP₀ hD₀ hS₀ => ?_)
    replace hP : va_P D classes [((Ca 0), .inl (tc 0, 400, .inl (Cf 0))), (q_7, .inl (tc 0, 400, .inl (Cf 0)))] H := hP₀
    replace hD : va_D A [((Ca 0), .inl (tc 0, 400, .inl (Cf 0))), (q_7, .inl (tc 0, 400, .inl (Cf 0)))] := hD₀
    replace hS := hS₀
    clear hP₀ hD₀ hS₀
    refine va_castA hx hb hown (hts _ k_678) hP 1 rfl (va_nm_int (hK.2 0 _ rfl).2) dJ7_copyOf_59c91_10 ?_
    have ha_8 : 400 ≤ 400 := by
      have z_1 := congrArg Int32.toInt c_1
      have y_400 : (400 : Int32).toInt = 400 := by decide
      omega
    exact retA (v := .ref q_7) hx hb hr hlk (Or.inr ⟨_, rfl⟩) (Or.inr ⟨_, rfl⟩) hP hD hS (q_7, (Cf 0), 400) ⟨rfl, ha_8⟩ [0, 1] rfl rfl dJ7_copyOf_59c91_13 (Nat.le_of_ble_eq_true rfl) (Nat.le_of_ble_eq_true rfl) rfl
set_option maxRecDepth 100000 in
theorem cu_J7_copyOf (l : Launch) (D : va_G) (tc : Nat → ClassId) (sk : (Nat → Nat) × (Nat → Nat)) (Ca_0 : Nat) (Cf_0 : Nat → Int32) (x1 : Int32) (h_x : 0 ≤ x1.toInt ∧ x1.toInt ≤ 400) : Ct l yJ7_copyOf_59c91 cJ7_copyOf_59c91 3 (some (.array .int)) { frames := 1, cells := 1, slots := 400, locals := 40 } D tc sk [.ref Ca_0, .int x1] [(Ca_0, .inl (tc 0, 400, .inl Cf_0))] (fun (v : Option Value) (u : (Nat) × (Nat → Int32) × (Nat)) => match u with | (na0x0, oo0x1, nn0x1) => v = some (.ref na0x0) ∧ (nn0x1 ≤ 400)) (fun (u : (Nat) × (Nat → Int32) × (Nat)) => match u with | (na0x0, oo0x1, nn0x1) => [(Ca_0, .inl (tc 0, 400, .inl Cf_0)), (na0x0, .inl (tc 0, nn0x1, .inl oo0x1))]) 1 400 :=
  ct_J7_copyOf l D tc sk (fun k => ([Ca_0] : List (Nat)).getD k 0) (fun k => ([Cf_0] : List (Nat → Int32)).getD k (fun _ => 0)) x1 h_x
