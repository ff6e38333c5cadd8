theorem k_673 : Cond.sameMethod "[I" "java/lang/Object" "clone" "()Ljava/lang/Object;" ∈ gT := gm 673 (by decide +kernel) (by decide +kernel)
theorem cl400 {x : Int32} (h : 0 ≤ x.toInt ∧ x.toInt ≤ 400) : x.toNatClampNeg ≤ 400 := by
  show x.toInt.toNat ≤ 400
  omega
theorem cpB {n x : Int32} (h : n.toInt ≤ x.toInt) : (0 : Int32).toNatClampNeg + n.toNatClampNeg ≤ x.toNatClampNeg := by
  show (0 : Int32).toInt.toNat + n.toInt.toNat ≤ x.toInt.toNat
  have : (0 : Int32).toInt = 0 := by decide
  omega
theorem cp4 {n : Int32} (h : n.toInt ≤ 400) : (0 : Int32).toNatClampNeg + n.toNatClampNeg ≤ 400 := by
  show (0 : Int32).toInt.toNat + n.toInt.toNat ≤ 400
  have : (0 : Int32).toInt = 0 := by decide
  omega
theorem nneg {n : Int32} (h : 0 ≤ n.toInt) : ¬ n < 0 := fun z => by
  have := Int32.lt_iff_toInt_lt.mp z
  have : (0 : Int32).toInt = 0 := by decide
  omega
theorem rem_emod {x y : Int32} (h : 0 ≤ x.toInt) : (x - x / y * y).toInt = x.toInt % y.toInt := by
  rw [rem_toInt]
  exact Int.tmod_eq_emod_of_nonneg h
theorem dJ7_copyOf_59c91_0 : decode cJ7_copyOf_59c91 0 = .ok (.iload_n 1, 1) := by decide +kernel
theorem dJ7_copyOf_59c91_1 : decode cJ7_copyOf_59c91 1 = .ok (.aload_n 0, 1) := by decide +kernel
theorem dJ7_copyOf_59c91_2 : decode cJ7_copyOf_59c91 2 = .ok (.arraylength, 1) := by decide +kernel
theorem dJ7_copyOf_59c91_3 : decode cJ7_copyOf_59c91 3 = .ok (.if_icmp .ne 11, 3) := by decide +kernel
theorem dJ7_copyOf_59c91_6 : decode cJ7_copyOf_59c91 6 = .ok (.aload_n 0, 1) := by decide +kernel
theorem dJ7_copyOf_59c91_7 : decode cJ7_copyOf_59c91 7 = .ok (.invokevirtual 316, 3) := by decide +kernel
theorem dJ7_copyOf_59c91_10 : decode cJ7_copyOf_59c91 10 = .ok (.checkcast 317, 3) := by decide +kernel
theorem dJ7_copyOf_59c91_13 : decode cJ7_copyOf_59c91 13 = .ok (.areturn, 1) := by decide +kernel
theorem dJ7_copyOf_59c91_14 : decode cJ7_copyOf_59c91 14 = .ok (.iload_n 1, 1) := by decide +kernel
theorem dJ7_copyOf_59c91_15 : decode cJ7_copyOf_59c91 15 = .ok (.newarray .int, 2) := by decide +kernel
theorem dJ7_copyOf_59c91_17 : decode cJ7_copyOf_59c91 17 = .ok (.astore_n 2, 1) := by decide +kernel
theorem dJ7_copyOf_59c91_18 : decode cJ7_copyOf_59c91 18 = .ok (.aload_n 0, 1) := by decide +kernel
theorem dJ7_copyOf_59c91_19 : decode cJ7_copyOf_59c91 19 = .ok (.iconst 0, 1) := by decide +kernel
theorem dJ7_copyOf_59c91_20 : decode cJ7_copyOf_59c91 20 = .ok (.aload_n 2, 1) := by decide +kernel
theorem dJ7_copyOf_59c91_21 : decode cJ7_copyOf_59c91 21 = .ok (.iconst 0, 1) := by decide +kernel
theorem dJ7_copyOf_59c91_22 : decode cJ7_copyOf_59c91 22 = .ok (.aload_n 0, 1) := by decide +kernel
theorem dJ7_copyOf_59c91_23 : decode cJ7_copyOf_59c91 23 = .ok (.arraylength, 1) := by decide +kernel
theorem dJ7_copyOf_59c91_24 : decode cJ7_copyOf_59c91 24 = .ok (.iload_n 1, 1) := by decide +kernel
theorem dJ7_copyOf_59c91_25 : decode cJ7_copyOf_59c91 25 = .ok (.invokestatic 304, 3) := by decide +kernel
theorem dJ7_copyOf_59c91_28 : decode cJ7_copyOf_59c91 28 = .ok (.invokestatic 150, 3) := by decide +kernel
theorem dJ7_copyOf_59c91_31 : decode cJ7_copyOf_59c91 31 = .ok (.aload_n 2, 1) := by decide +kernel
theorem dJ7_copyOf_59c91_32 : decode cJ7_copyOf_59c91 32 = .ok (.areturn, 1) := by decide +kernel
theorem dX0_init_0 : decode cX0_init 0 = .ok (.aload_n 0, 1) := by decide +kernel
theorem dX0_init_1 : decode cX0_init 1 = .ok (.invokespecial 3, 3) := by decide +kernel
theorem dX0_init_4 : decode cX0_init 4 = .ok (.aload_n 0, 1) := by decide +kernel
theorem dX0_init_5 : decode cX0_init 5 = .ok (.new 9, 3) := by decide +kernel
theorem dX0_init_8 : decode cX0_init 8 = .ok (.dup, 1) := by decide +kernel
theorem dX0_init_9 : decode cX0_init 9 = .ok (.invokespecial 11, 3) := by decide +kernel
theorem dX0_init_12 : decode cX0_init 12 = .ok (.putfield 12, 3) := by decide +kernel
theorem dX0_init_15 : decode cX0_init 15 = .ok (.return_, 1) := by decide +kernel
theorem dX10_init_0 : decode cX10_init 0 = .ok (.aload_n 0, 1) := by decide +kernel
theorem dX10_init_1 : decode cX10_init 1 = .ok (.invokespecial 3, 3) := by decide +kernel
theorem dX10_init_4 : decode cX10_init 4 = .ok (.aload_n 0, 1) := by decide +kernel
theorem dX10_init_5 : decode cX10_init 5 = .ok (.sipush 400, 3) := by decide +kernel
theorem dX10_init_8 : decode cX10_init 8 = .ok (.newarray .int, 2) := by decide +kernel
theorem dX10_init_10 : decode cX10_init 10 = .ok (.putfield 9, 3) := by decide +kernel
theorem dX10_init_13 : decode cX10_init 13 = .ok (.aload_n 0, 1) := by decide +kernel
theorem dX10_init_14 : decode cX10_init 14 = .ok (.iconst 0, 1) := by decide +kernel
theorem dX10_init_15 : decode cX10_init 15 = .ok (.putfield 15, 3) := by decide +kernel
theorem dX10_init_18 : decode cX10_init 18 = .ok (.aload_n 0, 1) := by decide +kernel
theorem dX10_init_19 : decode cX10_init 19 = .ok (.iconst 0, 1) := by decide +kernel
theorem dX10_init_20 : decode cX10_init 20 = .ok (.putfield 19, 3) := by decide +kernel
theorem dX10_init_23 : decode cX10_init 23 = .ok (.aload_n 0, 1) := by decide +kernel
theorem dX10_init_24 : decode cX10_init 24 = .ok (.iconst 0, 1) := by decide +kernel
theorem dX10_init_25 : decode cX10_init 25 = .ok (.putfield 22, 3) := by decide +kernel
theorem dX10_init_28 : decode cX10_init 28 = .ok (.aload_n 0, 1) := by decide +kernel
theorem dX10_init_29 : decode cX10_init 29 = .ok (.iconst (-1), 1) := by decide +kernel
theorem dX10_init_30 : decode cX10_init 30 = .ok (.putfield 25, 3) := by decide +kernel
theorem dX10_init_33 : decode cX10_init 33 = .ok (.aload_n 0, 1) := by decide +kernel
theorem dX10_init_34 : decode cX10_init 34 = .ok (.iconst 0, 1) := by decide +kernel
theorem dX10_init_35 : decode cX10_init 35 = .ok (.putfield 28, 3) := by decide +kernel
theorem dX10_init_38 : decode cX10_init 38 = .ok (.return_, 1) := by decide +kernel
theorem dX1_init_0 : decode cX1_init 0 = .ok (.aload_n 0, 1) := by decide +kernel
theorem dX1_init_1 : decode cX1_init 1 = .ok (.invokespecial 3, 3) := by decide +kernel
theorem dX1_init_4 : decode cX1_init 4 = .ok (.aload_n 0, 1) := by decide +kernel
theorem dX1_init_5 : decode cX1_init 5 = .ok (.new 9, 3) := by decide +kernel
theorem dX1_init_8 : decode cX1_init 8 = .ok (.dup, 1) := by decide +kernel
theorem dX1_init_9 : decode cX1_init 9 = .ok (.invokespecial 11, 3) := by decide +kernel
theorem dX1_init_12 : decode cX1_init 12 = .ok (.putfield 12, 3) := by decide +kernel
theorem dX1_init_15 : decode cX1_init 15 = .ok (.aload_n 0, 1) := by decide +kernel
theorem dX1_init_16 : decode cX1_init 16 = .ok (.bipush 25, 2) := by decide +kernel
theorem dX1_init_18 : decode cX1_init 18 = .ok (.newarray .int, 2) := by decide +kernel
theorem dX1_init_20 : decode cX1_init 20 = .ok (.putfield 18, 3) := by decide +kernel
theorem dX1_init_23 : decode cX1_init 23 = .ok (.aload_n 0, 1) := by decide +kernel
theorem dX1_init_24 : decode cX1_init 24 = .ok (.bipush 25, 2) := by decide +kernel
theorem dX1_init_26 : decode cX1_init 26 = .ok (.newarray .int, 2) := by decide +kernel
theorem dX1_init_28 : decode cX1_init 28 = .ok (.putfield 22, 3) := by decide +kernel
theorem dX1_init_31 : decode cX1_init 31 = .ok (.return_, 1) := by decide +kernel
theorem dX2_init_0 : decode cX2_init 0 = .ok (.aload_n 0, 1) := by decide +kernel
theorem dX2_init_1 : decode cX2_init 1 = .ok (.invokespecial 5, 3) := by decide +kernel
theorem dX2_init_4 : decode cX2_init 4 = .ok (.aload_n 0, 1) := by decide +kernel
theorem dX2_init_5 : decode cX2_init 5 = .ok (.new 11, 3) := by decide +kernel
theorem dX2_init_8 : decode cX2_init 8 = .ok (.dup, 1) := by decide +kernel
theorem dX2_init_9 : decode cX2_init 9 = .ok (.invokespecial 13, 3) := by decide +kernel
theorem dX2_init_12 : decode cX2_init 12 = .ok (.putfield 14, 3) := by decide +kernel
theorem dX2_init_15 : decode cX2_init 15 = .ok (.aload_n 0, 1) := by decide +kernel
theorem dX2_init_16 : decode cX2_init 16 = .ok (.sipush 427, 3) := by decide +kernel
theorem dX2_init_19 : decode cX2_init 19 = .ok (.newarray .int, 2) := by decide +kernel
theorem dX2_init_21 : decode cX2_init 21 = .ok (.putfield 18, 3) := by decide +kernel
theorem dX2_init_24 : decode cX2_init 24 = .ok (.aload_n 0, 1) := by decide +kernel
theorem dX2_init_25 : decode cX2_init 25 = .ok (.bipush 7, 2) := by decide +kernel
theorem dX2_init_27 : decode cX2_init 27 = .ok (.newarray .boolean, 2) := by decide +kernel
theorem dX2_init_29 : decode cX2_init 29 = .ok (.putfield 22, 3) := by decide +kernel
theorem dX2_init_32 : decode cX2_init 32 = .ok (.aload_n 0, 1) := by decide +kernel
theorem dX2_init_33 : decode cX2_init 33 = .ok (.iconst 0, 1) := by decide +kernel
theorem dX2_init_34 : decode cX2_init 34 = .ok (.putfield 26, 3) := by decide +kernel
theorem dX2_init_37 : decode cX2_init 37 = .ok (.return_, 1) := by decide +kernel
theorem dX3_init_0 : decode cX3_init 0 = .ok (.aload_n 0, 1) := by decide +kernel
theorem dX3_init_1 : decode cX3_init 1 = .ok (.invokespecial 1, 3) := by decide +kernel
theorem dX3_init_4 : decode cX3_init 4 = .ok (.aload_n 0, 1) := by decide +kernel
theorem dX3_init_5 : decode cX3_init 5 = .ok (.bipush 10, 2) := by decide +kernel
theorem dX3_init_7 : decode cX3_init 7 = .ok (.newarray .int, 2) := by decide +kernel
theorem dX3_init_9 : decode cX3_init 9 = .ok (.putfield 9, 3) := by decide +kernel
theorem dX3_init_12 : decode cX3_init 12 = .ok (.aload_n 0, 1) := by decide +kernel
theorem dX3_init_13 : decode cX3_init 13 = .ok (.bipush 10, 2) := by decide +kernel
theorem dX3_init_15 : decode cX3_init 15 = .ok (.newarray .int, 2) := by decide +kernel
theorem dX3_init_17 : decode cX3_init 17 = .ok (.putfield 13, 3) := by decide +kernel
theorem dX3_init_20 : decode cX3_init 20 = .ok (.aload_n 0, 1) := by decide +kernel
theorem dX3_init_21 : decode cX3_init 21 = .ok (.bipush 10, 2) := by decide +kernel
theorem dX3_init_23 : decode cX3_init 23 = .ok (.newarray .int, 2) := by decide +kernel
theorem dX3_init_25 : decode cX3_init 25 = .ok (.putfield 16, 3) := by decide +kernel
theorem dX3_init_28 : decode cX3_init 28 = .ok (.aload_n 0, 1) := by decide +kernel
theorem dX3_init_29 : decode cX3_init 29 = .ok (.iconst 0, 1) := by decide +kernel
theorem dX3_init_30 : decode cX3_init 30 = .ok (.putfield 19, 3) := by decide +kernel
theorem dX3_init_33 : decode cX3_init 33 = .ok (.return_, 1) := by decide +kernel
theorem dX4_init_0 : decode cX4_init 0 = .ok (.aload_n 0, 1) := by decide +kernel
theorem dX4_init_1 : decode cX4_init 1 = .ok (.invokespecial 3, 3) := by decide +kernel
theorem dX4_init_4 : decode cX4_init 4 = .ok (.aload_n 0, 1) := by decide +kernel
theorem dX4_init_5 : decode cX4_init 5 = .ok (.new 9, 3) := by decide +kernel
theorem dX4_init_8 : decode cX4_init 8 = .ok (.dup, 1) := by decide +kernel
theorem dX4_init_9 : decode cX4_init 9 = .ok (.invokespecial 11, 3) := by decide +kernel
theorem dX4_init_12 : decode cX4_init 12 = .ok (.putfield 12, 3) := by decide +kernel
theorem dX4_init_15 : decode cX4_init 15 = .ok (.aload_n 0, 1) := by decide +kernel
theorem dX4_init_16 : decode cX4_init 16 = .ok (.bipush 61, 2) := by decide +kernel
theorem dX4_init_18 : decode cX4_init 18 = .ok (.newarray .long, 2) := by decide +kernel
theorem dX4_init_20 : decode cX4_init 20 = .ok (.putfield 18, 3) := by decide +kernel
theorem dX4_init_23 : decode cX4_init 23 = .ok (.aload_n 0, 1) := by decide +kernel
theorem dX4_init_24 : decode cX4_init 24 = .ok (.lconst 0, 1) := by decide +kernel
theorem dX4_init_25 : decode cX4_init 25 = .ok (.putfield 22, 3) := by decide +kernel
theorem dX4_init_28 : decode cX4_init 28 = .ok (.return_, 1) := by decide +kernel
theorem dX5_giveBack_0 : decode cX5_giveBack 0 = .ok (.aload_n 0, 1) := by decide +kernel
theorem dX5_giveBack_1 : decode cX5_giveBack 1 = .ok (.getfield 17, 3) := by decide +kernel
theorem dX5_giveBack_4 : decode cX5_giveBack 4 = .ok (.bipush 20, 2) := by decide +kernel
theorem dX5_giveBack_6 : decode cX5_giveBack 6 = .ok (.iadd, 1) := by decide +kernel
theorem dX5_giveBack_7 : decode cX5_giveBack 7 = .ok (.iconst 1, 1) := by decide +kernel
theorem dX5_giveBack_8 : decode cX5_giveBack 8 = .ok (.isub, 1) := by decide +kernel
theorem dX5_giveBack_9 : decode cX5_giveBack 9 = .ok (.bipush 20, 2) := by decide +kernel
theorem dX5_giveBack_11 : decode cX5_giveBack 11 = .ok (.irem, 1) := by decide +kernel
theorem dX5_giveBack_12 : decode cX5_giveBack 12 = .ok (.istore_n 2, 1) := by decide +kernel
theorem dX5_giveBack_13 : decode cX5_giveBack 13 = .ok (.aload_n 0, 1) := by decide +kernel
theorem dX5_giveBack_14 : decode cX5_giveBack 14 = .ok (.getfield 21, 3) := by decide +kernel
theorem dX5_giveBack_17 : decode cX5_giveBack 17 = .ok (.ifCond .le 7, 3) := by decide +kernel
theorem dX5_giveBack_20 : decode cX5_giveBack 20 = .ok (.iload_n 2, 1) := by decide +kernel
theorem dX5_giveBack_21 : decode cX5_giveBack 21 = .ok (.ifCond .ge 5, 3) := by decide +kernel
theorem dX5_giveBack_24 : decode cX5_giveBack 24 = .ok (.iconst (-1), 1) := by decide +kernel
theorem dX5_giveBack_25 : decode cX5_giveBack 25 = .ok (.ireturn, 1) := by decide +kernel
theorem dX5_giveBack_26 : decode cX5_giveBack 26 = .ok (.aload_n 0, 1) := by decide +kernel
theorem dX5_giveBack_27 : decode cX5_giveBack 27 = .ok (.getfield 13, 3) := by decide +kernel
theorem dX5_giveBack_30 : decode cX5_giveBack 30 = .ok (.iload_n 2, 1) := by decide +kernel
theorem dX5_giveBack_31 : decode cX5_giveBack 31 = .ok (.aaload, 1) := by decide +kernel
theorem dX5_giveBack_32 : decode cX5_giveBack 32 = .ok (.astore_n 3, 1) := by decide +kernel
theorem dX5_giveBack_33 : decode cX5_giveBack 33 = .ok (.aload_n 3, 1) := by decide +kernel
theorem dX5_giveBack_34 : decode cX5_giveBack 34 = .ok (.ifnonnull 5, 3) := by decide +kernel
theorem dX5_giveBack_37 : decode cX5_giveBack 37 = .ok (.iconst (-1), 1) := by decide +kernel
theorem dX5_giveBack_38 : decode cX5_giveBack 38 = .ok (.ireturn, 1) := by decide +kernel
theorem dX5_giveBack_39 : decode cX5_giveBack 39 = .ok (.aload_n 1, 1) := by decide +kernel
theorem dX5_giveBack_40 : decode cX5_giveBack 40 = .ok (.aload_n 3, 1) := by decide +kernel
theorem dX5_giveBack_41 : decode cX5_giveBack 41 = .ok (.invokevirtual 25, 3) := by decide +kernel
theorem dX5_giveBack_44 : decode cX5_giveBack 44 = .ok (.aload_n 0, 1) := by decide +kernel
theorem dX5_giveBack_45 : decode cX5_giveBack 45 = .ok (.iload_n 2, 1) := by decide +kernel
theorem dX5_giveBack_46 : decode cX5_giveBack 46 = .ok (.putfield 17, 3) := by decide +kernel
theorem dX5_giveBack_49 : decode cX5_giveBack 49 = .ok (.aload_n 0, 1) := by decide +kernel
theorem dX5_giveBack_50 : decode cX5_giveBack 50 = .ok (.dup, 1) := by decide +kernel
theorem dX5_giveBack_51 : decode cX5_giveBack 51 = .ok (.getfield 21, 3) := by decide +kernel
theorem dX5_giveBack_54 : decode cX5_giveBack 54 = .ok (.iconst 1, 1) := by decide +kernel
theorem dX5_giveBack_55 : decode cX5_giveBack 55 = .ok (.isub, 1) := by decide +kernel
theorem dX5_giveBack_56 : decode cX5_giveBack 56 = .ok (.putfield 21, 3) := by decide +kernel
theorem dX5_giveBack_59 : decode cX5_giveBack 59 = .ok (.aload_n 0, 1) := by decide +kernel
theorem dX5_giveBack_60 : decode cX5_giveBack 60 = .ok (.getfield 21, 3) := by decide +kernel
theorem dX5_giveBack_63 : decode cX5_giveBack 63 = .ok (.ireturn, 1) := by decide +kernel
theorem dX5_init_0 : decode cX5_init 0 = .ok (.aload_n 0, 1) := by decide +kernel
theorem dX5_init_1 : decode cX5_init 1 = .ok (.invokespecial 3, 3) := by decide +kernel
theorem dX5_init_4 : decode cX5_init 4 = .ok (.aload_n 0, 1) := by decide +kernel
theorem dX5_init_5 : decode cX5_init 5 = .ok (.bipush 20, 2) := by decide +kernel
theorem dX5_init_7 : decode cX5_init 7 = .ok (.anewarray 11, 3) := by decide +kernel
theorem dX5_init_10 : decode cX5_init 10 = .ok (.putfield 13, 3) := by decide +kernel
theorem dX5_init_13 : decode cX5_init 13 = .ok (.aload_n 0, 1) := by decide +kernel
theorem dX5_init_14 : decode cX5_init 14 = .ok (.iconst 0, 1) := by decide +kernel
theorem dX5_init_15 : decode cX5_init 15 = .ok (.putfield 17, 3) := by decide +kernel
theorem dX5_init_18 : decode cX5_init 18 = .ok (.aload_n 0, 1) := by decide +kernel
theorem dX5_init_19 : decode cX5_init 19 = .ok (.iconst 0, 1) := by decide +kernel
theorem dX5_init_20 : decode cX5_init 20 = .ok (.putfield 21, 3) := by decide +kernel
theorem dX5_init_23 : decode cX5_init 23 = .ok (.return_, 1) := by decide +kernel
theorem dX5_keep_0 : decode cX5_keep 0 = .ok (.aload_n 0, 1) := by decide +kernel
theorem dX5_keep_1 : decode cX5_keep 1 = .ok (.getfield 17, 3) := by decide +kernel
theorem dX5_keep_4 : decode cX5_keep 4 = .ok (.ifCond .lt 12, 3) := by decide +kernel
theorem dX5_keep_7 : decode cX5_keep 7 = .ok (.aload_n 0, 1) := by decide +kernel
theorem dX5_keep_8 : decode cX5_keep 8 = .ok (.getfield 17, 3) := by decide +kernel
theorem dX5_keep_11 : decode cX5_keep 11 = .ok (.bipush 20, 2) := by decide +kernel
theorem dX5_keep_13 : decode cX5_keep 13 = .ok (.if_icmp .lt 4, 3) := by decide +kernel
theorem dX5_keep_16 : decode cX5_keep 16 = .ok (.return_, 1) := by decide +kernel
theorem dX5_keep_17 : decode cX5_keep 17 = .ok (.aload_n 0, 1) := by decide +kernel
theorem dX5_keep_18 : decode cX5_keep 18 = .ok (.getfield 13, 3) := by decide +kernel
theorem dX5_keep_21 : decode cX5_keep 21 = .ok (.aload_n 0, 1) := by decide +kernel
theorem dX5_keep_22 : decode cX5_keep 22 = .ok (.getfield 17, 3) := by decide +kernel
theorem dX5_keep_25 : decode cX5_keep 25 = .ok (.aaload, 1) := by decide +kernel
theorem dX5_keep_26 : decode cX5_keep 26 = .ok (.astore_n 2, 1) := by decide +kernel
theorem dX5_keep_27 : decode cX5_keep 27 = .ok (.aload_n 2, 1) := by decide +kernel
theorem dX5_keep_28 : decode cX5_keep 28 = .ok (.ifnonnull 21, 3) := by decide +kernel
theorem dX5_keep_31 : decode cX5_keep 31 = .ok (.new 11, 3) := by decide +kernel
theorem dX5_keep_34 : decode cX5_keep 34 = .ok (.dup, 1) := by decide +kernel
theorem dX5_keep_35 : decode cX5_keep 35 = .ok (.invokespecial 24, 3) := by decide +kernel
theorem dX5_keep_38 : decode cX5_keep 38 = .ok (.astore_n 2, 1) := by decide +kernel
theorem dX5_keep_39 : decode cX5_keep 39 = .ok (.aload_n 0, 1) := by decide +kernel
theorem dX5_keep_40 : decode cX5_keep 40 = .ok (.getfield 13, 3) := by decide +kernel
theorem dX5_keep_43 : decode cX5_keep 43 = .ok (.aload_n 0, 1) := by decide +kernel
theorem dX5_keep_44 : decode cX5_keep 44 = .ok (.getfield 17, 3) := by decide +kernel
theorem dX5_keep_47 : decode cX5_keep 47 = .ok (.aload_n 2, 1) := by decide +kernel
theorem dX5_keep_48 : decode cX5_keep 48 = .ok (.aastore, 1) := by decide +kernel
theorem dX5_keep_49 : decode cX5_keep 49 = .ok (.aload_n 2, 1) := by decide +kernel
theorem dX5_keep_50 : decode cX5_keep 50 = .ok (.aload_n 1, 1) := by decide +kernel
theorem dX5_keep_51 : decode cX5_keep 51 = .ok (.invokevirtual 25, 3) := by decide +kernel
theorem dX5_keep_54 : decode cX5_keep 54 = .ok (.aload_n 0, 1) := by decide +kernel
theorem dX5_keep_55 : decode cX5_keep 55 = .ok (.aload_n 0, 1) := by decide +kernel
theorem dX5_keep_56 : decode cX5_keep 56 = .ok (.getfield 17, 3) := by decide +kernel
theorem dX5_keep_59 : decode cX5_keep 59 = .ok (.iconst 1, 1) := by decide +kernel
theorem dX5_keep_60 : decode cX5_keep 60 = .ok (.iadd, 1) := by decide +kernel
theorem dX5_keep_61 : decode cX5_keep 61 = .ok (.bipush 20, 2) := by decide +kernel
theorem dX5_keep_63 : decode cX5_keep 63 = .ok (.irem, 1) := by decide +kernel
theorem dX5_keep_64 : decode cX5_keep 64 = .ok (.putfield 17, 3) := by decide +kernel
theorem dX5_keep_67 : decode cX5_keep 67 = .ok (.aload_n 0, 1) := by decide +kernel
theorem dX5_keep_68 : decode cX5_keep 68 = .ok (.bipush 20, 2) := by decide +kernel
theorem dX5_keep_70 : decode cX5_keep 70 = .ok (.aload_n 0, 1) := by decide +kernel
theorem dX5_keep_71 : decode cX5_keep 71 = .ok (.getfield 21, 3) := by decide +kernel
theorem dX5_keep_74 : decode cX5_keep 74 = .ok (.iconst 1, 1) := by decide +kernel
theorem dX5_keep_75 : decode cX5_keep 75 = .ok (.iadd, 1) := by decide +kernel
theorem dX5_keep_76 : decode cX5_keep 76 = .ok (.invokestatic 29, 3) := by decide +kernel
theorem dX5_keep_79 : decode cX5_keep 79 = .ok (.putfield 21, 3) := by decide +kernel
theorem dX5_keep_82 : decode cX5_keep 82 = .ok (.return_, 1) := by decide +kernel
theorem dX6_init_0 : decode cX6_init 0 = .ok (.aload_n 0, 1) := by decide +kernel
theorem dX6_init_1 : decode cX6_init 1 = .ok (.invokespecial 1, 3) := by decide +kernel
theorem dX6_init_4 : decode cX6_init 4 = .ok (.aload_n 0, 1) := by decide +kernel
theorem dX6_init_5 : decode cX6_init 5 = .ok (.bipush 64, 2) := by decide +kernel
theorem dX6_init_7 : decode cX6_init 7 = .ok (.newarray .long, 2) := by decide +kernel
theorem dX6_init_9 : decode cX6_init 9 = .ok (.putfield 9, 3) := by decide +kernel
theorem dX6_init_12 : decode cX6_init 12 = .ok (.aload_n 0, 1) := by decide +kernel
theorem dX6_init_13 : decode cX6_init 13 = .ok (.aload_n 1, 1) := by decide +kernel
theorem dX6_init_14 : decode cX6_init 14 = .ok (.putfield 13, 3) := by decide +kernel
theorem dX6_init_17 : decode cX6_init 17 = .ok (.return_, 1) := by decide +kernel
theorem dX7_init_0 : decode cX7_init 0 = .ok (.aload_n 0, 1) := by decide +kernel
theorem dX7_init_1 : decode cX7_init 1 = .ok (.invokespecial 3, 3) := by decide +kernel
theorem dX7_init_4 : decode cX7_init 4 = .ok (.aload_n 0, 1) := by decide +kernel
theorem dX7_init_5 : decode cX7_init 5 = .ok (.sipush 400, 3) := by decide +kernel
theorem dX7_init_8 : decode cX7_init 8 = .ok (.newarray .int, 2) := by decide +kernel
theorem dX7_init_10 : decode cX7_init 10 = .ok (.putfield 9, 3) := by decide +kernel
theorem dX7_init_13 : decode cX7_init 13 = .ok (.aload_n 0, 1) := by decide +kernel
theorem dX7_init_14 : decode cX7_init 14 = .ok (.iconst 0, 1) := by decide +kernel
theorem dX7_init_15 : decode cX7_init 15 = .ok (.putfield 15, 3) := by decide +kernel
theorem dX7_init_18 : decode cX7_init 18 = .ok (.aload_n 0, 1) := by decide +kernel
theorem dX7_init_19 : decode cX7_init 19 = .ok (.iconst 0, 1) := by decide +kernel
theorem dX7_init_20 : decode cX7_init 20 = .ok (.putfield 19, 3) := by decide +kernel
theorem dX7_init_23 : decode cX7_init 23 = .ok (.return_, 1) := by decide +kernel
theorem dX7_read_0 : decode cX7_read 0 = .ok (.aload_n 0, 1) := by decide +kernel
theorem dX7_read_1 : decode cX7_read 1 = .ok (.iconst 0, 1) := by decide +kernel
theorem dX7_read_2 : decode cX7_read 2 = .ok (.putfield 15, 3) := by decide +kernel
theorem dX7_read_5 : decode cX7_read 5 = .ok (.aload_n 0, 1) := by decide +kernel
theorem dX7_read_6 : decode cX7_read 6 = .ok (.iconst 0, 1) := by decide +kernel
theorem dX7_read_7 : decode cX7_read 7 = .ok (.putfield 19, 3) := by decide +kernel
theorem dX7_read_10 : decode cX7_read 10 = .ok (.aload_n 1, 1) := by decide +kernel
theorem dX7_read_11 : decode cX7_read 11 = .ok (.invokevirtual 22, 3) := by decide +kernel
theorem dX7_read_14 : decode cX7_read 14 = .ok (.iconst 0, 1) := by decide +kernel
theorem dX7_read_15 : decode cX7_read 15 = .ok (.istore_n 2, 1) := by decide +kernel
theorem dX7_read_16 : decode cX7_read 16 = .ok (.iload_n 2, 1) := by decide +kernel
theorem dX7_read_17 : decode cX7_read 17 = .ok (.bipush 12, 2) := by decide +kernel
theorem dX7_read_19 : decode cX7_read 19 = .ok (.if_icmp .gt 89, 3) := by decide +kernel
theorem dX7_read_22 : decode cX7_read 22 = .ok (.iload_n 2, 1) := by decide +kernel
theorem dX7_read_23 : decode cX7_read 23 = .ok (.ifCond .eq 12, 3) := by decide +kernel
theorem dX7_read_26 : decode cX7_read 26 = .ok (.aload_n 1, 1) := by decide +kernel
theorem dX7_read_27 : decode cX7_read 27 = .ok (.bipush 59, 2) := by decide +kernel
theorem dX7_read_29 : decode cX7_read 29 = .ok (.invokevirtual 27, 3) := by decide +kernel
theorem dX7_read_32 : decode cX7_read 32 = .ok (.ifCond .eq 76, 3) := by decide +kernel
theorem dX7_read_35 : decode cX7_read 35 = .ok (.aload_n 1, 1) := by decide +kernel
theorem dX7_read_36 : decode cX7_read 36 = .ok (.ldc 31, 2) := by decide +kernel
theorem dX7_read_38 : decode cX7_read 38 = .ok (.invokevirtual 33, 3) := by decide +kernel
theorem dX7_read_41 : decode cX7_read 41 = .ok (.ifCond .ne 11, 3) := by decide +kernel
theorem dX7_read_44 : decode cX7_read 44 = .ok (.aload_n 1, 1) := by decide +kernel
theorem dX7_read_45 : decode cX7_read 45 = .ok (.iconst 0, 1) := by decide +kernel
theorem dX7_read_46 : decode cX7_read 46 = .ok (.invokevirtual 37, 3) := by decide +kernel
theorem dX7_read_49 : decode cX7_read 49 = .ok (.goto 14, 3) := by decide +kernel
theorem dX7_read_52 : decode cX7_read 52 = .ok (.iload_n 2, 1) := by decide +kernel
theorem dX7_read_53 : decode cX7_read 53 = .ok (.bipush 12, 2) := by decide +kernel
theorem dX7_read_55 : decode cX7_read 55 = .ok (.if_icmp .ne 8, 3) := by decide +kernel
theorem dX7_read_58 : decode cX7_read 58 = .ok (.aload_n 1, 1) := by decide +kernel
theorem dX7_read_59 : decode cX7_read 59 = .ok (.iconst 4, 1) := by decide +kernel
theorem dX7_read_60 : decode cX7_read 60 = .ok (.invokevirtual 37, 3) := by decide +kernel
theorem dX7_read_63 : decode cX7_read 63 = .ok (.aload_n 1, 1) := by decide +kernel
theorem dX7_read_64 : decode cX7_read 64 = .ok (.invokevirtual 41, 3) := by decide +kernel
theorem dX7_read_67 : decode cX7_read 67 = .ok (.aload_n 0, 1) := by decide +kernel
theorem dX7_read_68 : decode cX7_read 68 = .ok (.aload_n 1, 1) := by decide +kernel
theorem dX7_read_69 : decode cX7_read 69 = .ok (.invokevirtual 44, 3) := by decide +kernel
theorem dX7_read_72 : decode cX7_read 72 = .ok (.aload_n 1, 1) := by decide +kernel
theorem dX7_read_73 : decode cX7_read 73 = .ok (.ldc 48, 2) := by decide +kernel
theorem dX7_read_75 : decode cX7_read 75 = .ok (.invokevirtual 50, 3) := by decide +kernel
theorem dX7_read_78 : decode cX7_read 78 = .ok (.ifCond .eq 18, 3) := by decide +kernel
theorem dX7_read_81 : decode cX7_read 81 = .ok (.aload_n 0, 1) := by decide +kernel
theorem dX7_read_82 : decode cX7_read 82 = .ok (.aload_n 1, 1) := by decide +kernel
theorem dX7_read_83 : decode cX7_read 83 = .ok (.iconst 0, 1) := by decide +kernel
theorem dX7_read_84 : decode cX7_read 84 = .ok (.invokevirtual 53, 3) := by decide +kernel
theorem dX7_read_87 : decode cX7_read 87 = .ok (.aload_n 0, 1) := by decide +kernel
theorem dX7_read_88 : decode cX7_read 88 = .ok (.bipush (-3), 2) := by decide +kernel
theorem dX7_read_90 : decode cX7_read 90 = .ok (.invokevirtual 59, 3) := by decide +kernel
theorem dX7_read_93 : decode cX7_read 93 = .ok (.goto 9, 3) := by decide +kernel
theorem dX7_read_96 : decode cX7_read 96 = .ok (.aload_n 0, 1) := by decide +kernel
theorem dX7_read_97 : decode cX7_read 97 = .ok (.bipush (-2), 2) := by decide +kernel
theorem dX7_read_99 : decode cX7_read 99 = .ok (.invokevirtual 59, 3) := by decide +kernel
theorem dX7_read_102 : decode cX7_read 102 = .ok (.iinc 2 1, 3) := by decide +kernel
theorem dX7_read_105 : decode cX7_read 105 = .ok (.goto (-89), 3) := by decide +kernel
theorem dX7_read_108 : decode cX7_read 108 = .ok (.aload_n 1, 1) := by decide +kernel
theorem dX7_read_109 : decode cX7_read 109 = .ok (.invokevirtual 62, 3) := by decide +kernel
theorem dX7_read_112 : decode cX7_read 112 = .ok (.aload_n 1, 1) := by decide +kernel
theorem dX7_read_113 : decode cX7_read 113 = .ok (.getfield 65, 3) := by decide +kernel
theorem dX7_read_116 : decode cX7_read 116 = .ok (.ifCond .ne 22, 3) := by decide +kernel
theorem dX7_read_119 : decode cX7_read 119 = .ok (.aload_n 0, 1) := by decide +kernel
theorem dX7_read_120 : decode cX7_read 120 = .ok (.getfield 15, 3) := by decide +kernel
theorem dX7_read_123 : decode cX7_read 123 = .ok (.ifCond .lt 15, 3) := by decide +kernel
theorem dX7_read_126 : decode cX7_read 126 = .ok (.aload_n 0, 1) := by decide +kernel
theorem dX7_read_127 : decode cX7_read 127 = .ok (.getfield 15, 3) := by decide +kernel
theorem dX7_read_130 : decode cX7_read 130 = .ok (.aload_n 0, 1) := by decide +kernel
theorem dX7_read_131 : decode cX7_read 131 = .ok (.getfield 9, 3) := by decide +kernel
theorem dX7_read_134 : decode cX7_read 134 = .ok (.arraylength, 1) := by decide +kernel
theorem dX7_read_135 : decode cX7_read 135 = .ok (.if_icmp .le 5, 3) := by decide +kernel
theorem dX7_read_138 : decode cX7_read 138 = .ok (.aconst_null, 1) := by decide +kernel
theorem dX7_read_139 : decode cX7_read 139 = .ok (.areturn, 1) := by decide +kernel
theorem dX7_read_140 : decode cX7_read 140 = .ok (.new 57, 3) := by decide +kernel
theorem dX7_read_143 : decode cX7_read 143 = .ok (.dup, 1) := by decide +kernel
theorem dX7_read_144 : decode cX7_read 144 = .ok (.aload_n 0, 1) := by decide +kernel
theorem dX7_read_145 : decode cX7_read 145 = .ok (.getfield 9, 3) := by decide +kernel
theorem dX7_read_148 : decode cX7_read 148 = .ok (.aload_n 0, 1) := by decide +kernel
theorem dX7_read_149 : decode cX7_read 149 = .ok (.getfield 15, 3) := by decide +kernel
theorem dX7_read_152 : decode cX7_read 152 = .ok (.invokestatic 68, 3) := by decide +kernel
theorem dX7_read_155 : decode cX7_read 155 = .ok (.invokespecial 74, 3) := by decide +kernel
theorem dX7_read_158 : decode cX7_read 158 = .ok (.areturn, 1) := by decide +kernel
theorem dX8_init_0 : decode cX8_init 0 = .ok (.aload_n 0, 1) := by decide +kernel
theorem dX8_init_1 : decode cX8_init 1 = .ok (.invokespecial 3, 3) := by decide +kernel
theorem dX8_init_4 : decode cX8_init 4 = .ok (.aload_n 0, 1) := by decide +kernel
theorem dX8_init_5 : decode cX8_init 5 = .ok (.new 9, 3) := by decide +kernel
theorem dX8_init_8 : decode cX8_init 8 = .ok (.dup, 1) := by decide +kernel
theorem dX8_init_9 : decode cX8_init 9 = .ok (.invokespecial 11, 3) := by decide +kernel
theorem dX8_init_12 : decode cX8_init 12 = .ok (.putfield 12, 3) := by decide +kernel
theorem dX8_init_15 : decode cX8_init 15 = .ok (.aload_n 0, 1) := by decide +kernel
theorem dX8_init_16 : decode cX8_init 16 = .ok (.new 9, 3) := by decide +kernel
theorem dX8_init_19 : decode cX8_init 19 = .ok (.dup, 1) := by decide +kernel
theorem dX8_init_20 : decode cX8_init 20 = .ok (.invokespecial 11, 3) := by decide +kernel
theorem dX8_init_23 : decode cX8_init 23 = .ok (.putfield 18, 3) := by decide +kernel
theorem dX8_init_26 : decode cX8_init 26 = .ok (.aload_n 0, 1) := by decide +kernel
theorem dX8_init_27 : decode cX8_init 27 = .ok (.new 21, 3) := by decide +kernel
theorem dX8_init_30 : decode cX8_init 30 = .ok (.dup, 1) := by decide +kernel
theorem dX8_init_31 : decode cX8_init 31 = .ok (.invokespecial 23, 3) := by decide +kernel
theorem dX8_init_34 : decode cX8_init 34 = .ok (.putfield 24, 3) := by decide +kernel
theorem dX8_init_37 : decode cX8_init 37 = .ok (.aload_n 0, 1) := by decide +kernel
theorem dX8_init_38 : decode cX8_init 38 = .ok (.iconst (-1), 1) := by decide +kernel
theorem dX8_init_39 : decode cX8_init 39 = .ok (.putfield 28, 3) := by decide +kernel
theorem dX8_init_42 : decode cX8_init 42 = .ok (.aload_n 0, 1) := by decide +kernel
theorem dX8_init_43 : decode cX8_init 43 = .ok (.iconst 0, 1) := by decide +kernel
theorem dX8_init_44 : decode cX8_init 44 = .ok (.putfield 32, 3) := by decide +kernel
theorem dX8_init_47 : decode cX8_init 47 = .ok (.return_, 1) := by decide +kernel
theorem dX9_init_0 : decode cX9_init 0 = .ok (.aload_n 0, 1) := by decide +kernel
theorem dX9_init_1 : decode cX9_init 1 = .ok (.invokespecial 3, 3) := by decide +kernel
theorem dX9_init_4 : decode cX9_init 4 = .ok (.aload_n 0, 1) := by decide +kernel
theorem dX9_init_5 : decode cX9_init 5 = .ok (.iconst 0, 1) := by decide +kernel
theorem dX9_init_6 : decode cX9_init 6 = .ok (.putfield 9, 3) := by decide +kernel
theorem dX9_init_9 : decode cX9_init 9 = .ok (.aload_n 0, 1) := by decide +kernel
theorem dX9_init_10 : decode cX9_init 10 = .ok (.iconst 0, 1) := by decide +kernel
theorem dX9_init_11 : decode cX9_init 11 = .ok (.putfield 15, 3) := by decide +kernel
theorem dX9_init_14 : decode cX9_init 14 = .ok (.aload_n 0, 1) := by decide +kernel
theorem dX9_init_15 : decode cX9_init 15 = .ok (.iconst 0, 1) := by decide +kernel
theorem dX9_init_16 : decode cX9_init 16 = .ok (.putfield 18, 3) := by decide +kernel
theorem dX9_init_19 : decode cX9_init 19 = .ok (.aload_n 0, 1) := by decide +kernel
theorem dX9_init_20 : decode cX9_init 20 = .ok (.iconst 0, 1) := by decide +kernel
theorem dX9_init_21 : decode cX9_init 21 = .ok (.putfield 21, 3) := by decide +kernel
theorem dX9_init_24 : decode cX9_init 24 = .ok (.aload_n 0, 1) := by decide +kernel
theorem dX9_init_25 : decode cX9_init 25 = .ok (.iconst 0, 1) := by decide +kernel
theorem dX9_init_26 : decode cX9_init 26 = .ok (.putfield 24, 3) := by decide +kernel
theorem dX9_init_29 : decode cX9_init 29 = .ok (.aload_n 0, 1) := by decide +kernel
theorem dX9_init_30 : decode cX9_init 30 = .ok (.iconst 0, 1) := by decide +kernel
theorem dX9_init_31 : decode cX9_init 31 = .ok (.putfield 27, 3) := by decide +kernel
theorem dX9_init_34 : decode cX9_init 34 = .ok (.aload_n 0, 1) := by decide +kernel
theorem dX9_init_35 : decode cX9_init 35 = .ok (.bipush 10, 2) := by decide +kernel
theorem dX9_init_37 : decode cX9_init 37 = .ok (.newarray .int, 2) := by decide +kernel
theorem dX9_init_39 : decode cX9_init 39 = .ok (.putfield 30, 3) := by decide +kernel
theorem dX9_init_42 : decode cX9_init 42 = .ok (.aload_n 0, 1) := by decide +kernel
theorem dX9_init_43 : decode cX9_init 43 = .ok (.bipush 10, 2) := by decide +kernel
theorem dX9_init_45 : decode cX9_init 45 = .ok (.newarray .int, 2) := by decide +kernel
theorem dX9_init_47 : decode cX9_init 47 = .ok (.putfield 34, 3) := by decide +kernel
theorem dX9_init_50 : decode cX9_init 50 = .ok (.aload_n 0, 1) := by decide +kernel
theorem dX9_init_51 : decode cX9_init 51 = .ok (.bipush 6, 2) := by decide +kernel
theorem dX9_init_53 : decode cX9_init 53 = .ok (.newarray .int, 2) := by decide +kernel
theorem dX9_init_55 : decode cX9_init 55 = .ok (.putfield 37, 3) := by decide +kernel
theorem dX9_init_58 : decode cX9_init 58 = .ok (.aload_n 0, 1) := by decide +kernel
theorem dX9_init_59 : decode cX9_init 59 = .ok (.bipush 6, 2) := by decide +kernel
theorem dX9_init_61 : decode cX9_init 61 = .ok (.newarray .int, 2) := by decide +kernel
theorem dX9_init_63 : decode cX9_init 63 = .ok (.putfield 40, 3) := by decide +kernel
theorem dX9_init_66 : decode cX9_init 66 = .ok (.aload_n 0, 1) := by decide +kernel
theorem dX9_init_67 : decode cX9_init 67 = .ok (.bipush 6, 2) := by decide +kernel
theorem dX9_init_69 : decode cX9_init 69 = .ok (.newarray .int, 2) := by decide +kernel
theorem dX9_init_71 : decode cX9_init 71 = .ok (.putfield 43, 3) := by decide +kernel
theorem dX9_init_74 : decode cX9_init 74 = .ok (.aload_n 0, 1) := by decide +kernel
theorem dX9_init_75 : decode cX9_init 75 = .ok (.bipush 6, 2) := by decide +kernel
theorem dX9_init_77 : decode cX9_init 77 = .ok (.newarray .int, 2) := by decide +kernel
theorem dX9_init_79 : decode cX9_init 79 = .ok (.putfield 46, 3) := by decide +kernel
theorem dX9_init_82 : decode cX9_init 82 = .ok (.aload_n 0, 1) := by decide +kernel
theorem dX9_init_83 : decode cX9_init 83 = .ok (.bipush 6, 2) := by decide +kernel
theorem dX9_init_85 : decode cX9_init 85 = .ok (.newarray .int, 2) := by decide +kernel
theorem dX9_init_87 : decode cX9_init 87 = .ok (.putfield 49, 3) := by decide +kernel
theorem dX9_init_90 : decode cX9_init 90 = .ok (.aload_n 0, 1) := by decide +kernel
theorem dX9_init_91 : decode cX9_init 91 = .ok (.bipush 6, 2) := by decide +kernel
theorem dX9_init_93 : decode cX9_init 93 = .ok (.newarray .int, 2) := by decide +kernel
theorem dX9_init_95 : decode cX9_init 95 = .ok (.putfield 52, 3) := by decide +kernel
theorem dX9_init_98 : decode cX9_init 98 = .ok (.return_, 1) := by decide +kernel
set_option maxHeartbeats 4000000 in
set_option maxRecDepth 100000 in
theorem ct_X9_init (l : Launch) (D : va_G) (tc : Nat → ClassId) (sk : (Nat → Nat) × (Nat → Nat)) (h0 : Nat)  : Ct l yX9_init cX9_init 1 none { frames := 1, cells := 8, slots := 56, locals := 12 } D tc sk [.ref h0] [(h0, .inr (9, [.int 0, .int 0, .int 0, .int 0, .int 0, .int 0, .null, .null, .null, .null, .null, .null, .null, .null]))] (fun (v : Option Value) (u : (Nat) × (Nat) × (Nat) × (Nat) × (Nat) × (Nat) × (Nat) × (Nat)) => match u with | (b1, b2, b3, b4, b5, b6, b7, b8) => v = none) (fun (u : (Nat) × (Nat) × (Nat) × (Nat) × (Nat) × (Nat) × (Nat) × (Nat)) => match u with | (b1, b2, b3, b4, b5, b6, b7, b8) => [(h0, .inr (9, [.int 0, .int 0, .int 0, .int 0, .int 0, .int 0, .ref b1, .ref b2, .ref b3, .ref b4, .ref b5, .ref b6, .ref b7, .ref b8])), (b1, .inl (tc 0, 10, .inl (fun _ => 0))), (b2, .inl (tc 0, 10, .inl (fun _ => 0))), (b3, .inl (tc 0, 6, .inl (fun _ => 0))), (b4, .inl (tc 0, 6, .inl (fun _ => 0))), (b5, .inl (tc 0, 6, .inl (fun _ => 0))), (b6, .inl (tc 0, 6, .inl (fun _ => 0))), (b7, .inl (tc 0, 6, .inl (fun _ => 0))), (b8, .inl (tc 0, 6, .inl (fun _ => 0)))]) 8 56 := by
  refine Ct.start (by decide) (Nat.le_of_ble_eq_true rfl) (fun p e s m below meth c A ls hx hb hr hlk hin hml hown hts hK hX hP hD hA hl hS => ?_)
  have hl : lv_has ls 1 [(0, .ref h0)] := hl
  refine lv_aload_n hx hb dX9_init_0 rfl (lv_at hl 0 rfl) ?_
  refine W.objInit hx hb hown (hts _ k_168) (hts _ k_122) (hts _ k_123) rfl (by rw [hml]; exact hl.1) rfl dX9_init_1 (Nat.le_of_ble_eq_true rfl) (Nat.le_of_ble_eq_true rfl) ?_
  refine W.eq (g2 := F0 m 4 ls []) rfl ?_
  refine lv_aload_n hx hb dX9_init_4 rfl (lv_at hl 0 rfl) ?_
  refine lv_iconst (v := 0) hx hb dX9_init_5 (by decide) ?_
  refine pf_X9_9 hx hb hts hown hK hP hD hS 0 rfl (Nat.le_of_ble_eq_true rfl) rfl rfl dX9_init_6 (fun H locs hP hD hS => ?_)
  have hP : va_P D classes [(h0, .inr (9, [.int 0, .int 0, .int 0, .int 0, .int 0, .int 0, .null, .null, .null, .null, .null, .null, .null, .null]))] H := hP
  have hD : va_D A [(h0, .inr (9, [.int 0, .int 0, .int 0, .int 0, .int 0, .int 0, .null, .null, .null, .null, .null, .null, .null, .null]))] := hD
  refine lv_aload_n hx hb dX9_init_9 rfl (lv_at hl 0 rfl) ?_
  refine lv_iconst (v := 0) hx hb dX9_init_10 (by decide) ?_
  refine pf_X9_15 hx hb hts hown hK hP hD hS 0 rfl (Nat.le_of_ble_eq_true rfl) rfl rfl dX9_init_11 (fun H locs hP hD hS => ?_)
  have hP : va_P D classes [(h0, .inr (9, [.int 0, .int 0, .int 0, .int 0, .int 0, .int 0, .null, .null, .null, .null, .null, .null, .null, .null]))] H := hP
  have hD : va_D A [(h0, .inr (9, [.int 0, .int 0, .int 0, .int 0, .int 0, .int 0, .null, .null, .null, .null, .null, .null, .null, .null]))] := hD
  refine lv_aload_n hx hb dX9_init_14 rfl (lv_at hl 0 rfl) ?_
  refine lv_iconst (v := 0) hx hb dX9_init_15 (by decide) ?_
  refine pf_X9_18 hx hb hts hown hK hP hD hS 0 rfl (Nat.le_of_ble_eq_true rfl) rfl rfl dX9_init_16 (fun H locs hP hD hS => ?_)
  have hP : va_P D classes [(h0, .inr (9, [.int 0, .int 0, .int 0, .int 0, .int 0, .int 0, .null, .null, .null, .null, .null, .null, .null, .null]))] H := hP
  have hD : va_D A [(h0, .inr (9, [.int 0, .int 0, .int 0, .int 0, .int 0, .int 0, .null, .null, .null, .null, .null, .null, .null, .null]))] := hD
  refine lv_aload_n hx hb dX9_init_19 rfl (lv_at hl 0 rfl) ?_
  refine lv_iconst (v := 0) hx hb dX9_init_20 (by decide) ?_
  refine pf_X9_21 hx hb hts hown hK hP hD hS 0 rfl (Nat.le_of_ble_eq_true rfl) rfl rfl dX9_init_21 (fun H locs hP hD hS => ?_)
  have hP : va_P D classes [(h0, .inr (9, [.int 0, .int 0, .int 0, .int 0, .int 0, .int 0, .null, .null, .null, .null, .null, .null, .null, .null]))] H := hP
  have hD : va_D A [(h0, .inr (9, [.int 0, .int 0, .int 0, .int 0, .int 0, .int 0, .null, .null, .null, .null, .null, .null, .null, .null]))] := hD
  refine lv_aload_n hx hb dX9_init_24 rfl (lv_at hl 0 rfl) ?_
  refine lv_iconst (v := 0) hx hb dX9_init_25 (by decide) ?_
  refine pf_X9_24 hx hb hts hown hK hP hD hS 0 rfl (Nat.le_of_ble_eq_true rfl) rfl rfl dX9_init_26 (fun H locs hP hD hS => ?_)
  have hP : va_P D classes [(h0, .inr (9, [.int 0, .int 0, .int 0, .int 0, .int 0, .int 0, .null, .null, .null, .null, .null, .null, .null, .null]))] H := hP
  have hD : va_D A [(h0, .inr (9, [.int 0, .int 0, .int 0, .int 0, .int 0, .int 0, .null, .null, .null, .null, .null, .null, .null, .null]))] := hD
  refine lv_aload_n hx hb dX9_init_29 rfl (lv_at hl 0 rfl) ?_
  refine lv_iconst (v := 0) hx hb dX9_init_30 (by decide) ?_
  refine pf_X9_27 hx hb hts hown hK hP hD hS 0 rfl (Nat.le_of_ble_eq_true rfl) rfl rfl dX9_init_31 (fun H locs hP hD hS => ?_)
  have hP : va_P D classes [(h0, .inr (9, [.int 0, .int 0, .int 0, .int 0, .int 0, .int 0, .null, .null, .null, .null, .null, .null, .null, .null]))] H := hP
  have hD : va_D A [(h0, .inr (9, [.int 0, .int 0, .int 0, .int 0, .int 0, .int 0, .null, .null, .null, .null, .null, .null, .null, .null]))] := hD
  refine lv_aload_n hx hb dX9_init_34 rfl (lv_at hl 0 rfl) ?_
  refine lv_bipush (v := 10) hx hb dX9_init_35 (by decide) ?_
  refine nwA (atype := .int) (a0 := (10, .inl (fun _ => 0))) hx hb (hts _ k_156) rfl hK hP hD hS hA 0 rfl (fun _ => rfl) (by decide) (by decide) (by decide) (Nat.le_of_ble_eq_true rfl) (Nat.le_of_ble_eq_true rfl) dX9_init_37 (fun q_1 H hP hD hS => ?_)
  have hP : va_P D classes [(h0, .inr (9, [.int 0, .int 0, .int 0, .int 0, .int 0, .int 0, .null, .null, .null, .null, .null, .null, .null, .null])), (q_1, .inl (tc 0, 10, .inl (fun _ => 0)))] H := hP
  have hD : va_D A [(h0, .inr (9, [.int 0, .int 0, .int 0, .int 0, .int 0, .int 0, .null, .null, .null, .null, .null, .null, .null, .null])), (q_1, .inl (tc 0, 10, .inl (fun _ => 0)))] := hD
  refine pf_X9_30 (ty := (.array .int)) hx hb hts hown hin hK hP hD hS 0 rfl (Nat.le_of_ble_eq_true rfl) (by decide +kernel) rfl rfl dX9_init_39 (fun H locs hP hD hS => ?_)
  have hP : va_P D classes [(h0, .inr (9, [.int 0, .int 0, .int 0, .int 0, .int 0, .int 0, .ref q_1, .null, .null, .null, .null, .null, .null, .null])), (q_1, .inl (tc 0, 10, .inl (fun _ => 0)))] H := hP
  have hD : va_D A [(h0, .inr (9, [.int 0, .int 0, .int 0, .int 0, .int 0, .int 0, .ref q_1, .null, .null, .null, .null, .null, .null, .null])), (q_1, .inl (tc 0, 10, .inl (fun _ => 0)))] := hD
  refine lv_aload_n hx hb dX9_init_42 rfl (lv_at hl 0 rfl) ?_
  refine lv_bipush (v := 10) hx hb dX9_init_43 (by decide) ?_
  refine nwA (atype := .int) (a0 := (10, .inl (fun _ => 0))) hx hb (hts _ k_156) rfl hK hP hD hS hA 0 rfl (fun _ => rfl) (by decide) (by decide) (by decide) (Nat.le_of_ble_eq_true rfl) (Nat.le_of_ble_eq_true rfl) dX9_init_45 (fun q_2 H hP hD hS => ?_)
  have hP : va_P D classes [(h0, .inr (9, [.int 0, .int 0, .int 0, .int 0, .int 0, .int 0, .ref q_1, .null, .null, .null, .null, .null, .null, .null])), (q_1, .inl (tc 0, 10, .inl (fun _ => 0))), (q_2, .inl (tc 0, 10, .inl (fun _ => 0)))] H := hP
  have hD : va_D A [(h0, .inr (9, [.int 0, .int 0, .int 0, .int 0, .int 0, .int 0, .ref q_1, .null, .null, .null, .null, .null, .null, .null])), (q_1, .inl (tc 0, 10, .inl (fun _ => 0))), (q_2, .inl (tc 0, 10, .inl (fun _ => 0)))] := hD
  refine pf_X9_34 (ty := (.array .int)) hx hb hts hown hin hK hP hD hS 0 rfl (Nat.le_of_ble_eq_true rfl) (by decide +kernel) rfl rfl dX9_init_47 (fun H locs hP hD hS => ?_)
  have hP : va_P D classes [(h0, .inr (9, [.int 0, .int 0, .int 0, .int 0, .int 0, .int 0, .ref q_1, .ref q_2, .null, .null, .null, .null, .null, .null])), (q_1, .inl (tc 0, 10, .inl (fun _ => 0))), (q_2, .inl (tc 0, 10, .inl (fun _ => 0)))] H := hP
  have hD : va_D A [(h0, .inr (9, [.int 0, .int 0, .int 0, .int 0, .int 0, .int 0, .ref q_1, .ref q_2, .null, .null, .null, .null, .null, .null])), (q_1, .inl (tc 0, 10, .inl (fun _ => 0))), (q_2, .inl (tc 0, 10, .inl (fun _ => 0)))] := hD
  refine lv_aload_n hx hb dX9_init_50 rfl (lv_at hl 0 rfl) ?_
  refine lv_bipush (v := 6) hx hb dX9_init_51 (by decide) ?_
  refine nwA (atype := .int) (a0 := (6, .inl (fun _ => 0))) hx hb (hts _ k_156) rfl hK hP hD hS hA 0 rfl (fun _ => rfl) (by decide) (by decide) (by decide) (Nat.le_of_ble_eq_true rfl) (Nat.le_of_ble_eq_true rfl) dX9_init_53 (fun q_3 H hP hD hS => ?_)
  have hP : va_P D classes [(h0, .inr (9, [.int 0, .int 0, .int 0, .int 0, .int 0, .int 0, .ref q_1, .ref q_2, .null, .null, .null, .null, .null, .null])), (q_1, .inl (tc 0, 10, .inl (fun _ => 0))), (q_2, .inl (tc 0, 10, .inl (fun _ => 0))), (q_3, .inl (tc 0, 6, .inl (fun _ => 0)))] H := hP
  have hD : va_D A [(h0, .inr (9, [.int 0, .int 0, .int 0, .int 0, .int 0, .int 0, .ref q_1, .ref q_2, .null, .null, .null, .null, .null, .null])), (q_1, .inl (tc 0, 10, .inl (fun _ => 0))), (q_2, .inl (tc 0, 10, .inl (fun _ => 0))), (q_3, .inl (tc 0, 6, .inl (fun _ => 0)))] := hD
  refine pf_X9_37 (ty := (.array .int)) hx hb hts hown hin hK hP hD hS 0 rfl (Nat.le_of_ble_eq_true rfl) (by decide +kernel) rfl rfl dX9_init_55 (fun H locs hP hD hS => ?_)
  have hP : va_P D classes [(h0, .inr (9, [.int 0, .int 0, .int 0, .int 0, .int 0, .int 0, .ref q_1, .ref q_2, .ref q_3, .null, .null, .null, .null, .null])), (q_1, .inl (tc 0, 10, .inl (fun _ => 0))), (q_2, .inl (tc 0, 10, .inl (fun _ => 0))), (q_3, .inl (tc 0, 6, .inl (fun _ => 0)))] H := hP
  have hD : va_D A [(h0, .inr (9, [.int 0, .int 0, .int 0, .int 0, .int 0, .int 0, .ref q_1, .ref q_2, .ref q_3, .null, .null, .null, .null, .null])), (q_1, .inl (tc 0, 10, .inl (fun _ => 0))), (q_2, .inl (tc 0, 10, .inl (fun _ => 0))), (q_3, .inl (tc 0, 6, .inl (fun _ => 0)))] := hD
  refine lv_aload_n hx hb dX9_init_58 rfl (lv_at hl 0 rfl) ?_
  refine lv_bipush (v := 6) hx hb dX9_init_59 (by decide) ?_
  refine nwA (atype := .int) (a0 := (6, .inl (fun _ => 0))) hx hb (hts _ k_156) rfl hK hP hD hS hA 0 rfl (fun _ => rfl) (by decide) (by decide) (by decide) (Nat.le_of_ble_eq_true rfl) (Nat.le_of_ble_eq_true rfl) dX9_init_61 (fun q_4 H hP hD hS => ?_)
  have hP : va_P D classes [(h0, .inr (9, [.int 0, .int 0, .int 0, .int 0, .int 0, .int 0, .ref q_1, .ref q_2, .ref q_3, .null, .null, .null, .null, .null])), (q_1, .inl (tc 0, 10, .inl (fun _ => 0))), (q_2, .inl (tc 0, 10, .inl (fun _ => 0))), (q_3, .inl (tc 0, 6, .inl (fun _ => 0))), (q_4, .inl (tc 0, 6, .inl (fun _ => 0)))] H := hP
  have hD : va_D A [(h0, .inr (9, [.int 0, .int 0, .int 0, .int 0, .int 0, .int 0, .ref q_1, .ref q_2, .ref q_3, .null, .null, .null, .null, .null])), (q_1, .inl (tc 0, 10, .inl (fun _ => 0))), (q_2, .inl (tc 0, 10, .inl (fun _ => 0))), (q_3, .inl (tc 0, 6, .inl (fun _ => 0))), (q_4, .inl (tc 0, 6, .inl (fun _ => 0)))] := hD
  refine pf_X9_40 (ty := (.array .int)) hx hb hts hown hin hK hP hD hS 0 rfl (Nat.le_of_ble_eq_true rfl) (by decide +kernel) rfl rfl dX9_init_63 (fun H locs hP hD hS => ?_)
  have hP : va_P D classes [(h0, .inr (9, [.int 0, .int 0, .int 0, .int 0, .int 0, .int 0, .ref q_1, .ref q_2, .ref q_3, .ref q_4, .null, .null, .null, .null])), (q_1, .inl (tc 0, 10, .inl (fun _ => 0))), (q_2, .inl (tc 0, 10, .inl (fun _ => 0))), (q_3, .inl (tc 0, 6, .inl (fun _ => 0))), (q_4, .inl (tc 0, 6, .inl (fun _ => 0)))] H := hP
  have hD : va_D A [(h0, .inr (9, [.int 0, .int 0, .int 0, .int 0, .int 0, .int 0, .ref q_1, .ref q_2, .ref q_3, .ref q_4, .null, .null, .null, .null])), (q_1, .inl (tc 0, 10, .inl (fun _ => 0))), (q_2, .inl (tc 0, 10, .inl (fun _ => 0))), (q_3, .inl (tc 0, 6, .inl (fun _ => 0))), (q_4, .inl (tc 0, 6, .inl (fun _ => 0)))] := hD
  refine lv_aload_n hx hb dX9_init_66 rfl (lv_at hl 0 rfl) ?_
  refine lv_bipush (v := 6) hx hb dX9_init_67 (by decide) ?_
  refine nwA (atype := .int) (a0 := (6, .inl (fun _ => 0))) hx hb (hts _ k_156) rfl hK hP hD hS hA 0 rfl (fun _ => rfl) (by decide) (by decide) (by decide) (Nat.le_of_ble_eq_true rfl) (Nat.le_of_ble_eq_true rfl) dX9_init_69 (fun q_5 H hP hD hS => ?_)
  have hP : va_P D classes [(h0, .inr (9, [.int 0, .int 0, .int 0, .int 0, .int 0, .int 0, .ref q_1, .ref q_2, .ref q_3, .ref q_4, .null, .null, .null, .null])), (q_1, .inl (tc 0, 10, .inl (fun _ => 0))), (q_2, .inl (tc 0, 10, .inl (fun _ => 0))), (q_3, .inl (tc 0, 6, .inl (fun _ => 0))), (q_4, .inl (tc 0, 6, .inl (fun _ => 0))), (q_5, .inl (tc 0, 6, .inl (fun _ => 0)))] H := hP
  have hD : va_D A [(h0, .inr (9, [.int 0, .int 0, .int 0, .int 0, .int 0, .int 0, .ref q_1, .ref q_2, .ref q_3, .ref q_4, .null, .null, .null, .null])), (q_1, .inl (tc 0, 10, .inl (fun _ => 0))), (q_2, .inl (tc 0, 10, .inl (fun _ => 0))), (q_3, .inl (tc 0, 6, .inl (fun _ => 0))), (q_4, .inl (tc 0, 6, .inl (fun _ => 0))), (q_5, .inl (tc 0, 6, .inl (fun _ => 0)))] := hD
  refine pf_X9_43 (ty := (.array .int)) hx hb hts hown hin hK hP hD hS 0 rfl (Nat.le_of_ble_eq_true rfl) (by decide +kernel) rfl rfl dX9_init_71 (fun H locs hP hD hS => ?_)
  have hP : va_P D classes [(h0, .inr (9, [.int 0, .int 0, .int 0, .int 0, .int 0, .int 0, .ref q_1, .ref q_2, .ref q_3, .ref q_4, .ref q_5, .null, .null, .null])), (q_1, .inl (tc 0, 10, .inl (fun _ => 0))), (q_2, .inl (tc 0, 10, .inl (fun _ => 0))), (q_3, .inl (tc 0, 6, .inl (fun _ => 0))), (q_4, .inl (tc 0, 6, .inl (fun _ => 0))), (q_5, .inl (tc 0, 6, .inl (fun _ => 0)))] H := hP
  have hD : va_D A [(h0, .inr (9, [.int 0, .int 0, .int 0, .int 0, .int 0, .int 0, .ref q_1, .ref q_2, .ref q_3, .ref q_4, .ref q_5, .null, .null, .null])), (q_1, .inl (tc 0, 10, .inl (fun _ => 0))), (q_2, .inl (tc 0, 10, .inl (fun _ => 0))), (q_3, .inl (tc 0, 6, .inl (fun _ => 0))), (q_4, .inl (tc 0, 6, .inl (fun _ => 0))), (q_5, .inl (tc 0, 6, .inl (fun _ => 0)))] := hD
  refine lv_aload_n hx hb dX9_init_74 rfl (lv_at hl 0 rfl) ?_
  refine lv_bipush (v := 6) hx hb dX9_init_75 (by decide) ?_
  refine nwA (atype := .int) (a0 := (6, .inl (fun _ => 0))) hx hb (hts _ k_156) rfl hK hP hD hS hA 0 rfl (fun _ => rfl) (by decide) (by decide) (by decide) (Nat.le_of_ble_eq_true rfl) (Nat.le_of_ble_eq_true rfl) dX9_init_77 (fun q_6 H hP hD hS => ?_)
  have hP : va_P D classes [(h0, .inr (9, [.int 0, .int 0, .int 0, .int 0, .int 0, .int 0, .ref q_1, .ref q_2, .ref q_3, .ref q_4, .ref q_5, .null, .null, .null])), (q_1, .inl (tc 0, 10, .inl (fun _ => 0))), (q_2, .inl (tc 0, 10, .inl (fun _ => 0))), (q_3, .inl (tc 0, 6, .inl (fun _ => 0))), (q_4, .inl (tc 0, 6, .inl (fun _ => 0))), (q_5, .inl (tc 0, 6, .inl (fun _ => 0))), (q_6, .inl (tc 0, 6, .inl (fun _ => 0)))] H := hP
  have hD : va_D A [(h0, .inr (9, [.int 0, .int 0, .int 0, .int 0, .int 0, .int 0, .ref q_1, .ref q_2, .ref q_3, .ref q_4, .ref q_5, .null, .null, .null])), (q_1, .inl (tc 0, 10, .inl (fun _ => 0))), (q_2, .inl (tc 0, 10, .inl (fun _ => 0))), (q_3, .inl (tc 0, 6, .inl (fun _ => 0))), (q_4, .inl (tc 0, 6, .inl (fun _ => 0))), (q_5, .inl (tc 0, 6, .inl (fun _ => 0))), (q_6, .inl (tc 0, 6, .inl (fun _ => 0)))] := hD
  refine pf_X9_46 (ty := (.array .int)) hx hb hts hown hin hK hP hD hS 0 rfl (Nat.le_of_ble_eq_true rfl) (by decide +kernel) rfl rfl dX9_init_79 (fun H locs hP hD hS => ?_)
  have hP : va_P D classes [(h0, .inr (9, [.int 0, .int 0, .int 0, .int 0, .int 0, .int 0, .ref q_1, .ref q_2, .ref q_3, .ref q_4, .ref q_5, .ref q_6, .null, .null])), (q_1, .inl (tc 0, 10, .inl (fun _ => 0))), (q_2, .inl (tc 0, 10, .inl (fun _ => 0))), (q_3, .inl (tc 0, 6, .inl (fun _ => 0))), (q_4, .inl (tc 0, 6, .inl (fun _ => 0))), (q_5, .inl (tc 0, 6, .inl (fun _ => 0))), (q_6, .inl (tc 0, 6, .inl (fun _ => 0)))] H := hP
  have hD : va_D A [(h0, .inr (9, [.int 0, .int 0, .int 0, .int 0, .int 0, .int 0, .ref q_1, .ref q_2, .ref q_3, .ref q_4, .ref q_5, .ref q_6, .null, .null])), (q_1, .inl (tc 0, 10, .inl (fun _ => 0))), (q_2, .inl (tc 0, 10, .inl (fun _ => 0))), (q_3, .inl (tc 0, 6, .inl (fun _ => 0))), (q_4, .inl (tc 0, 6, .inl (fun _ => 0))), (q_5, .inl (tc 0, 6, .inl (fun _ => 0))), (q_6, .inl (tc 0, 6, .inl (fun _ => 0)))] := hD
  refine lv_aload_n hx hb dX9_init_82 rfl (lv_at hl 0 rfl) ?_
  refine lv_bipush (v := 6) hx hb dX9_init_83 (by decide) ?_
  refine nwA (atype := .int) (a0 := (6, .inl (fun _ => 0))) hx hb (hts _ k_156) rfl hK hP hD hS hA 0 rfl (fun _ => rfl) (by decide) (by decide) (by decide) (Nat.le_of_ble_eq_true rfl) (Nat.le_of_ble_eq_true rfl) dX9_init_85 (fun q_7 H hP hD hS => ?_)
  have hP : va_P D classes [(h0, .inr (9, [.int 0, .int 0, .int 0, .int 0, .int 0, .int 0, .ref q_1, .ref q_2, .ref q_3, .ref q_4, .ref q_5, .ref q_6, .null, .null])), (q_1, .inl (tc 0, 10, .inl (fun _ => 0))), (q_2, .inl (tc 0, 10, .inl (fun _ => 0))), (q_3, .inl (tc 0, 6, .inl (fun _ => 0))), (q_4, .inl (tc 0, 6, .inl (fun _ => 0))), (q_5, .inl (tc 0, 6, .inl (fun _ => 0))), (q_6, .inl (tc 0, 6, .inl (fun _ => 0))), (q_7, .inl (tc 0, 6, .inl (fun _ => 0)))] H := hP
  have hD : va_D A [(h0, .inr (9, [.int 0, .int 0, .int 0, .int 0, .int 0, .int 0, .ref q_1, .ref q_2, .ref q_3, .ref q_4, .ref q_5, .ref q_6, .null, .null])), (q_1, .inl (tc 0, 10, .inl (fun _ => 0))), (q_2, .inl (tc 0, 10, .inl (fun _ => 0))), (q_3, .inl (tc 0, 6, .inl (fun _ => 0))), (q_4, .inl (tc 0, 6, .inl (fun _ => 0))), (q_5, .inl (tc 0, 6, .inl (fun _ => 0))), (q_6, .inl (tc 0, 6, .inl (fun _ => 0))), (q_7, .inl (tc 0, 6, .inl (fun _ => 0)))] := hD
  refine pf_X9_49 (ty := (.array .int)) hx hb hts hown hin hK hP hD hS 0 rfl (Nat.le_of_ble_eq_true rfl) (by decide +kernel) rfl rfl dX9_init_87 (fun H locs hP hD hS => ?_)
  have hP : va_P D classes [(h0, .inr (9, [.int 0, .int 0, .int 0, .int 0, .int 0, .int 0, .ref q_1, .ref q_2, .ref q_3, .ref q_4, .ref q_5, .ref q_6, .ref q_7, .null])), (q_1, .inl (tc 0, 10, .inl (fun _ => 0))), (q_2, .inl (tc 0, 10, .inl (fun _ => 0))), (q_3, .inl (tc 0, 6, .inl (fun _ => 0))), (q_4, .inl (tc 0, 6, .inl (fun _ => 0))), (q_5, .inl (tc 0, 6, .inl (fun _ => 0))), (q_6, .inl (tc 0, 6, .inl (fun _ => 0))), (q_7, .inl (tc 0, 6, .inl (fun _ => 0)))] H := hP
  have hD : va_D A [(h0, .inr (9, [.int 0, .int 0, .int 0, .int 0, .int 0, .int 0, .ref q_1, .ref q_2, .ref q_3, .ref q_4, .ref q_5, .ref q_6, .ref q_7, .null])), (q_1, .inl (tc 0, 10, .inl (fun _ => 0))), (q_2, .inl (tc 0, 10, .inl (fun _ => 0))), (q_3, .inl (tc 0, 6, .inl (fun _ => 0))), (q_4, .inl (tc 0, 6, .inl (fun _ => 0))), (q_5, .inl (tc 0, 6, .inl (fun _ => 0))), (q_6, .inl (tc 0, 6, .inl (fun _ => 0))), (q_7, .inl (tc 0, 6, .inl (fun _ => 0)))] := hD
  refine lv_aload_n hx hb dX9_init_90 rfl (lv_at hl 0 rfl) ?_
  refine lv_bipush (v := 6) hx hb dX9_init_91 (by decide) ?_
  refine nwA (atype := .int) (a0 := (6, .inl (fun _ => 0))) hx hb (hts _ k_156) rfl hK hP hD hS hA 0 rfl (fun _ => rfl) (by decide) (by decide) (by decide) (Nat.le_of_ble_eq_true rfl) (Nat.le_of_ble_eq_true rfl) dX9_init_93 (fun q_8 H hP hD hS => ?_)
  have hP : va_P D classes [(h0, .inr (9, [.int 0, .int 0, .int 0, .int 0, .int 0, .int 0, .ref q_1, .ref q_2, .ref q_3, .ref q_4, .ref q_5, .ref q_6, .ref q_7, .null])), (q_1, .inl (tc 0, 10, .inl (fun _ => 0))), (q_2, .inl (tc 0, 10, .inl (fun _ => 0))), (q_3, .inl (tc 0, 6, .inl (fun _ => 0))), (q_4, .inl (tc 0, 6, .inl (fun _ => 0))), (q_5, .inl (tc 0, 6, .inl (fun _ => 0))), (q_6, .inl (tc 0, 6, .inl (fun _ => 0))), (q_7, .inl (tc 0, 6, .inl (fun _ => 0))), (q_8, .inl (tc 0, 6, .inl (fun _ => 0)))] H := hP
  have hD : va_D A [(h0, .inr (9, [.int 0, .int 0, .int 0, .int 0, .int 0, .int 0, .ref q_1, .ref q_2, .ref q_3, .ref q_4, .ref q_5, .ref q_6, .ref q_7, .null])), (q_1, .inl (tc 0, 10, .inl (fun _ => 0))), (q_2, .inl (tc 0, 10, .inl (fun _ => 0))), (q_3, .inl (tc 0, 6, .inl (fun _ => 0))), (q_4, .inl (tc 0, 6, .inl (fun _ => 0))), (q_5, .inl (tc 0, 6, .inl (fun _ => 0))), (q_6, .inl (tc 0, 6, .inl (fun _ => 0))), (q_7, .inl (tc 0, 6, .inl (fun _ => 0))), (q_8, .inl (tc 0, 6, .inl (fun _ => 0)))] := hD
  refine pf_X9_52 (ty := (.array .int)) hx hb hts hown hin hK hP hD hS 0 rfl (Nat.le_of_ble_eq_true rfl) (by decide +kernel) rfl rfl dX9_init_95 (fun H locs hP hD hS => ?_)
  have hP : va_P D classes [(h0, .inr (9, [.int 0, .int 0, .int 0, .int 0, .int 0, .int 0, .ref q_1, .ref q_2, .ref q_3, .ref q_4, .ref q_5, .ref q_6, .ref q_7, .ref q_8])), (q_1, .inl (tc 0, 10, .inl (fun _ => 0))), (q_2, .inl (tc 0, 10, .inl (fun _ => 0))), (q_3, .inl (tc 0, 6, .inl (fun _ => 0))), (q_4, .inl (tc 0, 6, .inl (fun _ => 0))), (q_5, .inl (tc 0, 6, .inl (fun _ => 0))), (q_6, .inl (tc 0, 6, .inl (fun _ => 0))), (q_7, .inl (tc 0, 6, .inl (fun _ => 0))), (q_8, .inl (tc 0, 6, .inl (fun _ => 0)))] H := hP
  have hD : va_D A [(h0, .inr (9, [.int 0, .int 0, .int 0, .int 0, .int 0, .int 0, .ref q_1, .ref q_2, .ref q_3, .ref q_4, .ref q_5, .ref q_6, .ref q_7, .ref q_8])), (q_1, .inl (tc 0, 10, .inl (fun _ => 0))), (q_2, .inl (tc 0, 10, .inl (fun _ => 0))), (q_3, .inl (tc 0, 6, .inl (fun _ => 0))), (q_4, .inl (tc 0, 6, .inl (fun _ => 0))), (q_5, .inl (tc 0, 6, .inl (fun _ => 0))), (q_6, .inl (tc 0, 6, .inl (fun _ => 0))), (q_7, .inl (tc 0, 6, .inl (fun _ => 0))), (q_8, .inl (tc 0, 6, .inl (fun _ => 0)))] := hD
  exact retV hx hb hr hlk hP hD hS (q_1, q_2, q_3, q_4, q_5, q_6, q_7, q_8) rfl [0, 1, 2, 3, 4, 5, 6, 7, 8] rfl rfl dX9_init_98 (Nat.le_of_ble_eq_true rfl) (Nat.le_of_ble_eq_true rfl) rfl
set_option maxHeartbeats 4000000 in
set_option maxRecDepth 100000 in
theorem ct_X10_init (l : Launch) (D : va_G) (tc : Nat → ClassId) (sk : (Nat → Nat) × (Nat → Nat)) (h0 : Nat)  : Ct l yX10_init cX10_init 1 none { frames := 1, cells := 1, slots := 400, locals := 12 } D tc sk [.ref h0] [(h0, .inr (10, [.null, .int 0, .int 0, .int 0, .int 0, .int 0]))] (fun (v : Option Value) (b1 : Nat) => v = none) (fun (b1 : Nat) => [(h0, .inr (10, [.ref b1, .int 0, .int 0, .int 0, .int (-1), .int 0])), (b1, .inl (tc 0, 400, .inl (fun _ => 0)))]) 1 400 := by
  refine Ct.start (by decide) (Nat.le_of_ble_eq_true rfl) (fun p e s m below meth c A ls hx hb hr hlk hin hml hown hts hK hX hP hD hA hl hS => ?_)
  have hl : lv_has ls 1 [(0, .ref h0)] := hl
  refine lv_aload_n hx hb dX10_init_0 rfl (lv_at hl 0 rfl) ?_
  refine W.objInit hx hb hown (hts _ k_129) (hts _ k_122) (hts _ k_123) rfl (by rw [hml]; exact hl.1) rfl dX10_init_1 (Nat.le_of_ble_eq_true rfl) (Nat.le_of_ble_eq_true rfl) ?_
  refine W.eq (g2 := F0 m 4 ls []) rfl ?_
  refine lv_aload_n hx hb dX10_init_4 rfl (lv_at hl 0 rfl) ?_
  refine lv_sipush (v := 400) hx hb dX10_init_5 (by decide) ?_
  refine nwA (atype := .int) (a0 := (400, .inl (fun _ => 0))) hx hb (hts _ k_156) rfl hK hP hD hS hA 0 rfl (fun _ => rfl) (by decide) (by decide) (by decide) (Nat.le_of_ble_eq_true rfl) (Nat.le_of_ble_eq_true rfl) dX10_init_8 (fun q_1 H hP hD hS => ?_)
  have hP : va_P D classes [(h0, .inr (10, [.null, .int 0, .int 0, .int 0, .int 0, .int 0])), (q_1, .inl (tc 0, 400, .inl (fun _ => 0)))] H := hP
  have hD : va_D A [(h0, .inr (10, [.null, .int 0, .int 0, .int 0, .int 0, .int 0])), (q_1, .inl (tc 0, 400, .inl (fun _ => 0)))] := hD
  refine pf_X10_9 (ty := (.array .int)) hx hb hts hown hin hK hP hD hS 0 rfl (Nat.le_of_ble_eq_true rfl) (by decide +kernel) rfl rfl dX10_init_10 (fun H locs hP hD hS => ?_)
  have hP : va_P D classes [(h0, .inr (10, [.ref q_1, .int 0, .int 0, .int 0, .int 0, .int 0])), (q_1, .inl (tc 0, 400, .inl (fun _ => 0)))] H := hP
  have hD : va_D A [(h0, .inr (10, [.ref q_1, .int 0, .int 0, .int 0, .int 0, .int 0])), (q_1, .inl (tc 0, 400, .inl (fun _ => 0)))] := hD
  refine lv_aload_n hx hb dX10_init_13 rfl (lv_at hl 0 rfl) ?_
  refine lv_iconst (v := 0) hx hb dX10_init_14 (by decide) ?_
  refine pf_X10_15 hx hb hts hown hK hP hD hS 0 rfl (Nat.le_of_ble_eq_true rfl) rfl rfl dX10_init_15 (fun H locs hP hD hS => ?_)
  have hP : va_P D classes [(h0, .inr (10, [.ref q_1, .int 0, .int 0, .int 0, .int 0, .int 0])), (q_1, .inl (tc 0, 400, .inl (fun _ => 0)))] H := hP
  have hD : va_D A [(h0, .inr (10, [.ref q_1, .int 0, .int 0, .int 0, .int 0, .int 0])), (q_1, .inl (tc 0, 400, .inl (fun _ => 0)))] := hD
  refine lv_aload_n hx hb dX10_init_18 rfl (lv_at hl 0 rfl) ?_
  refine lv_iconst (v := 0) hx hb dX10_init_19 (by decide) ?_
  refine pf_X10_19 hx hb hts hown hK hP hD hS 0 rfl (Nat.le_of_ble_eq_true rfl) rfl rfl dX10_init_20 (fun H locs hP hD hS => ?_)
  have hP : va_P D classes [(h0, .inr (10, [.ref q_1, .int 0, .int 0, .int 0, .int 0, .int 0])), (q_1, .inl (tc 0, 400, .inl (fun _ => 0)))] H := hP
  have hD : va_D A [(h0, .inr (10, [.ref q_1, .int 0, .int 0, .int 0, .int 0, .int 0])), (q_1, .inl (tc 0, 400, .inl (fun _ => 0)))] := hD
  refine lv_aload_n hx hb dX10_init_23 rfl (lv_at hl 0 rfl) ?_
  refine lv_iconst (v := 0) hx hb dX10_init_24 (by decide) ?_
  refine pf_X10_22 hx hb hts hown hK hP hD hS 0 rfl (Nat.le_of_ble_eq_true rfl) rfl rfl dX10_init_25 (fun H locs hP hD hS => ?_)
  have hP : va_P D classes [(h0, .inr (10, [.ref q_1, .int 0, .int 0, .int 0, .int 0, .int 0])), (q_1, .inl (tc 0, 400, .inl (fun _ => 0)))] H := hP
  have hD : va_D A [(h0, .inr (10, [.ref q_1, .int 0, .int 0, .int 0, .int 0, .int 0])), (q_1, .inl (tc 0, 400, .inl (fun _ => 0)))] := hD
  refine lv_aload_n hx hb dX10_init_28 rfl (lv_at hl 0 rfl) ?_
  refine lv_iconst (v := (-1)) hx hb dX10_init_29 (by decide) ?_
  refine pf_X10_25 hx hb hts hown hK hP hD hS 0 rfl (Nat.le_of_ble_eq_true rfl) rfl rfl dX10_init_30 (fun H locs hP hD hS => ?_)
  have hP : va_P D classes [(h0, .inr (10, [.ref q_1, .int 0, .int 0, .int 0, .int (-1), .int 0])), (q_1, .inl (tc 0, 400, .inl (fun _ => 0)))] H := hP
  have hD : va_D A [(h0, .inr (10, [.ref q_1, .int 0, .int 0, .int 0, .int (-1), .int 0])), (q_1, .inl (tc 0, 400, .inl (fun _ => 0)))] := hD
  refine lv_aload_n hx hb dX10_init_33 rfl (lv_at hl 0 rfl) ?_
  refine lv_iconst (v := 0) hx hb dX10_init_34 (by decide) ?_
  refine pf_X10_28 hx hb hts hown hK hP hD hS 0 rfl (Nat.le_of_ble_eq_true rfl) rfl rfl dX10_init_35 (fun H locs hP hD hS => ?_)
  have hP : va_P D classes [(h0, .inr (10, [.ref q_1, .int 0, .int 0, .int 0, .int (-1), .int 0])), (q_1, .inl (tc 0, 400, .inl (fun _ => 0)))] H := hP
  have hD : va_D A [(h0, .inr (10, [.ref q_1, .int 0, .int 0, .int 0, .int (-1), .int 0])), (q_1, .inl (tc 0, 400, .inl (fun _ => 0)))] := hD
  exact retV hx hb hr hlk hP hD hS q_1 rfl [0, 1] rfl rfl dX10_init_38 (Nat.le_of_ble_eq_true rfl) (Nat.le_of_ble_eq_true rfl) rfl
set_option maxHeartbeats 4000000 in
set_option maxRecDepth 100000 in
theorem ct_X3_init (l : Launch) (D : va_G) (tc : Nat → ClassId) (sk : (Nat → Nat) × (Nat → Nat)) (h0 : Nat)  : Ct l yX3_init cX3_init 1 none { frames := 1, cells := 3, slots := 30, locals := 12 } D tc sk [.ref h0] [(h0, .inr (3, [.null, .null, .null, .int 0]))] (fun (v : Option Value) (u : (Nat) × (Nat) × (Nat)) => match u with | (b1, b2, b3) => v = none) (fun (u : (Nat) × (Nat) × (Nat)) => match u with | (b1, b2, b3) => [(h0, .inr (3, [.ref b1, .ref b2, .ref b3, .int 0])), (b1, .inl (tc 0, 10, .inl (fun _ => 0))), (b2, .inl (tc 0, 10, .inl (fun _ => 0))), (b3, .inl (tc 0, 10, .inl (fun _ => 0)))]) 3 30 := by
  refine Ct.start (by decide) (Nat.le_of_ble_eq_true rfl) (fun p e s m below meth c A ls hx hb hr hlk hin hml hown hts hK hX hP hD hA hl hS => ?_)
  have hl : lv_has ls 1 [(0, .ref h0)] := hl
  refine lv_aload_n hx hb dX3_init_0 rfl (lv_at hl 0 rfl) ?_
  refine W.objInit hx hb hown (hts _ k_283) (hts _ k_122) (hts _ k_123) rfl (by rw [hml]; exact hl.1) rfl dX3_init_1 (Nat.le_of_ble_eq_true rfl) (Nat.le_of_ble_eq_true rfl) ?_
  refine W.eq (g2 := F0 m 4 ls []) rfl ?_
  refine lv_aload_n hx hb dX3_init_4 rfl (lv_at hl 0 rfl) ?_
  refine lv_bipush (v := 10) hx hb dX3_init_5 (by decide) ?_
  refine nwA (atype := .int) (a0 := (10, .inl (fun _ => 0))) hx hb (hts _ k_156) rfl hK hP hD hS hA 0 rfl (fun _ => rfl) (by decide) (by decide) (by decide) (Nat.le_of_ble_eq_true rfl) (Nat.le_of_ble_eq_true rfl) dX3_init_7 (fun q_1 H hP hD hS => ?_)
  have hP : va_P D classes [(h0, .inr (3, [.null, .null, .null, .int 0])), (q_1, .inl (tc 0, 10, .inl (fun _ => 0)))] H := hP
  have hD : va_D A [(h0, .inr (3, [.null, .null, .null, .int 0])), (q_1, .inl (tc 0, 10, .inl (fun _ => 0)))] := hD
  refine pf_X3_9 (ty := (.array .int)) hx hb hts hown hin hK hP hD hS 0 rfl (Nat.le_of_ble_eq_true rfl) (by decide +kernel) rfl rfl dX3_init_9 (fun H locs hP hD hS => ?_)
  have hP : va_P D classes [(h0, .inr (3, [.ref q_1, .null, .null, .int 0])), (q_1, .inl (tc 0, 10, .inl (fun _ => 0)))] H := hP
  have hD : va_D A [(h0, .inr (3, [.ref q_1, .null, .null, .int 0])), (q_1, .inl (tc 0, 10, .inl (fun _ => 0)))] := hD
  refine lv_aload_n hx hb dX3_init_12 rfl (lv_at hl 0 rfl) ?_
  refine lv_bipush (v := 10) hx hb dX3_init_13 (by decide) ?_
  refine nwA (atype := .int) (a0 := (10, .inl (fun _ => 0))) hx hb (hts _ k_156) rfl hK hP hD hS hA 0 rfl (fun _ => rfl) (by decide) (by decide) (by decide) (Nat.le_of_ble_eq_true rfl) (Nat.le_of_ble_eq_true rfl) dX3_init_15 (fun q_2 H hP hD hS => ?_)
  have hP : va_P D classes [(h0, .inr (3, [.ref q_1, .null, .null, .int 0])), (q_1, .inl (tc 0, 10, .inl (fun _ => 0))), (q_2, .inl (tc 0, 10, .inl (fun _ => 0)))] H := hP
  have hD : va_D A [(h0, .inr (3, [.ref q_1, .null, .null, .int 0])), (q_1, .inl (tc 0, 10, .inl (fun _ => 0))), (q_2, .inl (tc 0, 10, .inl (fun _ => 0)))] := hD
  refine pf_X3_13 (ty := (.array .int)) hx hb hts hown hin hK hP hD hS 0 rfl (Nat.le_of_ble_eq_true rfl) (by decide +kernel) rfl rfl dX3_init_17 (fun H locs hP hD hS => ?_)
  have hP : va_P D classes [(h0, .inr (3, [.ref q_1, .ref q_2, .null, .int 0])), (q_1, .inl (tc 0, 10, .inl (fun _ => 0))), (q_2, .inl (tc 0, 10, .inl (fun _ => 0)))] H := hP
  have hD : va_D A [(h0, .inr (3, [.ref q_1, .ref q_2, .null, .int 0])), (q_1, .inl (tc 0, 10, .inl (fun _ => 0))), (q_2, .inl (tc 0, 10, .inl (fun _ => 0)))] := hD
  refine lv_aload_n hx hb dX3_init_20 rfl (lv_at hl 0 rfl) ?_
  refine lv_bipush (v := 10) hx hb dX3_init_21 (by decide) ?_
  refine nwA (atype := .int) (a0 := (10, .inl (fun _ => 0))) hx hb (hts _ k_156) rfl hK hP hD hS hA 0 rfl (fun _ => rfl) (by decide) (by decide) (by decide) (Nat.le_of_ble_eq_true rfl) (Nat.le_of_ble_eq_true rfl) dX3_init_23 (fun q_3 H hP hD hS => ?_)
  have hP : va_P D classes [(h0, .inr (3, [.ref q_1, .ref q_2, .null, .int 0])), (q_1, .inl (tc 0, 10, .inl (fun _ => 0))), (q_2, .inl (tc 0, 10, .inl (fun _ => 0))), (q_3, .inl (tc 0, 10, .inl (fun _ => 0)))] H := hP
  have hD : va_D A [(h0, .inr (3, [.ref q_1, .ref q_2, .null, .int 0])), (q_1, .inl (tc 0, 10, .inl (fun _ => 0))), (q_2, .inl (tc 0, 10, .inl (fun _ => 0))), (q_3, .inl (tc 0, 10, .inl (fun _ => 0)))] := hD
  refine pf_X3_16 (ty := (.array .int)) hx hb hts hown hin hK hP hD hS 0 rfl (Nat.le_of_ble_eq_true rfl) (by decide +kernel) rfl rfl dX3_init_25 (fun H locs hP hD hS => ?_)
  have hP : va_P D classes [(h0, .inr (3, [.ref q_1, .ref q_2, .ref q_3, .int 0])), (q_1, .inl (tc 0, 10, .inl (fun _ => 0))), (q_2, .inl (tc 0, 10, .inl (fun _ => 0))), (q_3, .inl (tc 0, 10, .inl (fun _ => 0)))] H := hP
  have hD : va_D A [(h0, .inr (3, [.ref q_1, .ref q_2, .ref q_3, .int 0])), (q_1, .inl (tc 0, 10, .inl (fun _ => 0))), (q_2, .inl (tc 0, 10, .inl (fun _ => 0))), (q_3, .inl (tc 0, 10, .inl (fun _ => 0)))] := hD
  refine lv_aload_n hx hb dX3_init_28 rfl (lv_at hl 0 rfl) ?_
  refine lv_iconst (v := 0) hx hb dX3_init_29 (by decide) ?_
  refine pf_X3_19 hx hb hts hown hK hP hD hS 0 rfl (Nat.le_of_ble_eq_true rfl) rfl rfl dX3_init_30 (fun H locs hP hD hS => ?_)
  have hP : va_P D classes [(h0, .inr (3, [.ref q_1, .ref q_2, .ref q_3, .int 0])), (q_1, .inl (tc 0, 10, .inl (fun _ => 0))), (q_2, .inl (tc 0, 10, .inl (fun _ => 0))), (q_3, .inl (tc 0, 10, .inl (fun _ => 0)))] H := hP
  have hD : va_D A [(h0, .inr (3, [.ref q_1, .ref q_2, .ref q_3, .int 0])), (q_1, .inl (tc 0, 10, .inl (fun _ => 0))), (q_2, .inl (tc 0, 10, .inl (fun _ => 0))), (q_3, .inl (tc 0, 10, .inl (fun _ => 0)))] := hD
  exact retV hx hb hr hlk hP hD hS (q_1, q_2, q_3) rfl [0, 1, 2, 3] rfl rfl dX3_init_33 (Nat.le_of_ble_eq_true rfl) (Nat.le_of_ble_eq_true rfl) rfl
set_option maxHeartbeats 4000000 in
set_option maxRecDepth 100000 in
theorem ct_X0_init (l : Launch) (D : va_G) (tc : Nat → ClassId) (sk : (Nat → Nat) × (Nat → Nat)) (h0 : Nat)  : Ct l yX0_init cX0_init 1 none { frames := 2, cells := 9, slots := 70, locals := 32 } D tc sk [.ref h0] [(h0, .inr (0, [.null]))] (fun (v : Option Value) (u : (Nat) × (Nat) × (Nat) × (Nat) × (Nat) × (Nat) × (Nat) × (Nat) × (Nat)) => match u with | (b0, b1, b2, b3, b4, b5, b6, b7, b8) => v = none) (fun (u : (Nat) × (Nat) × (Nat) × (Nat) × (Nat) × (Nat) × (Nat) × (Nat) × (Nat)) => match u with | (b0, b1, b2, b3, b4, b5, b6, b7, b8) => [(h0, .inr (0, [.ref b0])), (b0, .inr (9, [.int 0, .int 0, .int 0, .int 0, .int 0, .int 0, .ref b1, .ref b2, .ref b3, .ref b4, .ref b5, .ref b6, .ref b7, .ref b8])), (b1, .inl (tc 0, 10, .inl (fun _ => 0))), (b2, .inl (tc 0, 10, .inl (fun _ => 0))), (b3, .inl (tc 0, 6, .inl (fun _ => 0))), (b4, .inl (tc 0, 6, .inl (fun _ => 0))), (b5, .inl (tc 0, 6, .inl (fun _ => 0))), (b6, .inl (tc 0, 6, .inl (fun _ => 0))), (b7, .inl (tc 0, 6, .inl (fun _ => 0))), (b8, .inl (tc 0, 6, .inl (fun _ => 0)))]) 9 70 := by
  refine Ct.start (by decide) (Nat.le_of_ble_eq_true rfl) (fun p e s m below meth c A ls hx hb hr hlk hin hml hown hts hK hX hP hD hA hl hS => ?_)
  have hl : lv_has ls 1 [(0, .ref h0)] := hl
  refine lv_aload_n hx hb dX0_init_0 rfl (lv_at hl 0 rfl) ?_
  refine W.objInit hx hb hown (hts _ k_162) (hts _ k_122) (hts _ k_123) rfl (by rw [hml]; exact hl.1) rfl dX0_init_1 (Nat.le_of_ble_eq_true rfl) (Nat.le_of_ble_eq_true rfl) ?_
  refine W.eq (g2 := F0 m 4 ls []) rfl ?_
  refine lv_aload_n hx hb dX0_init_4 rfl (lv_at hl 0 rfl) ?_
  refine va_new (ci := 9) (fs := [.int 0, .int 0, .int 0, .int 0, .int 0, .int 0, .null, .null, .null, .null, .null, .null, .null, .null]) (C := RX9) (T := TX9) (N := 14) hx hb hts iX9 tyX9 tyX9_ok hown (hts _ k_163) (hts _ k_164) (hts _ k_98) hK hP hD hS hA rfl dfX9 (Nat.le_of_ble_eq_true rfl) (Nat.le_of_ble_eq_true rfl) dX0_init_5 (fun q_1 H hP hD hS => ?_)
  have hP : va_P D classes [(h0, .inr (0, [.null])), (q_1, .inr (9, [.int 0, .int 0, .int 0, .int 0, .int 0, .int 0, .null, .null, .null, .null, .null, .null, .null, .null]))] H := hP
  have hD : va_D A [(h0, .inr (0, [.null])), (q_1, .inr (9, [.int 0, .int 0, .int 0, .int 0, .int 0, .int 0, .null, .null, .null, .null, .null, .null, .null, .null]))] := hD
  refine lv_dup hx hb dX0_init_8 rfl ?_
  refine cN (a := q_1) (As := []) (rest := [.ref q_1, .ref h0]) (wr := [(h0, .inr (0, [.null]))]) ⟨hx, hb, hml, hown, hts⟩ hK hX hA (ct_X9_init l D tc sk q_1) k_167 (by decide) k_166 k_98 rfl pl_X9_init ⟨Nat.le_of_ble_eq_true rfl, Nat.le_of_ble_eq_true rfl⟩ rfl rfl  hP hD hS [1] [0] rfl rfl rfl rfl rfl (by decide) rfl hl.1 rfl (Nat.le_of_ble_eq_true rfl) dX0_init_9 ⟨Nat.le_of_ble_eq_true rfl, Nat.le_of_ble_eq_true rfl⟩ (fun v_2 u_3 H locs hv_4 hP hD hS => ?_)
  obtain ⟨b_5, b_6, b_7, b_8, b_9, b_10, b_11, b_12⟩ := u_3
  obtain rfl : v_2 = none := hv_4
  refine W.eq (g2 := F0 m 12 ls [.ref q_1, .ref h0]) rfl ?_
  have hP : va_P D classes [(h0, .inr (0, [.null])), (q_1, .inr (9, [.int 0, .int 0, .int 0, .int 0, .int 0, .int 0, .ref b_5, .ref b_6, .ref b_7, .ref b_8, .ref b_9, .ref b_10, .ref b_11, .ref b_12])), (b_5, .inl (tc 0, 10, .inl (fun _ => 0))), (b_6, .inl (tc 0, 10, .inl (fun _ => 0))), (b_7, .inl (tc 0, 6, .inl (fun _ => 0))), (b_8, .inl (tc 0, 6, .inl (fun _ => 0))), (b_9, .inl (tc 0, 6, .inl (fun _ => 0))), (b_10, .inl (tc 0, 6, .inl (fun _ => 0))), (b_11, .inl (tc 0, 6, .inl (fun _ => 0))), (b_12, .inl (tc 0, 6, .inl (fun _ => 0)))] H := hP
  have hD : va_D A [(h0, .inr (0, [.null])), (q_1, .inr (9, [.int 0, .int 0, .int 0, .int 0, .int 0, .int 0, .ref b_5, .ref b_6, .ref b_7, .ref b_8, .ref b_9, .ref b_10, .ref b_11, .ref b_12])), (b_5, .inl (tc 0, 10, .inl (fun _ => 0))), (b_6, .inl (tc 0, 10, .inl (fun _ => 0))), (b_7, .inl (tc 0, 6, .inl (fun _ => 0))), (b_8, .inl (tc 0, 6, .inl (fun _ => 0))), (b_9, .inl (tc 0, 6, .inl (fun _ => 0))), (b_10, .inl (tc 0, 6, .inl (fun _ => 0))), (b_11, .inl (tc 0, 6, .inl (fun _ => 0))), (b_12, .inl (tc 0, 6, .inl (fun _ => 0)))] := hD
  refine pf_X0_12 (ty := (.object "PoisonBook$Shop")) hx hb hts hown hin hK hP hD hS 0 rfl (Nat.le_of_ble_eq_true rfl) (by decide +kernel) rfl rfl dX0_init_12 (fun H locs hP hD hS => ?_)
  have hP : va_P D classes [(h0, .inr (0, [.ref q_1])), (q_1, .inr (9, [.int 0, .int 0, .int 0, .int 0, .int 0, .int 0, .ref b_5, .ref b_6, .ref b_7, .ref b_8, .ref b_9, .ref b_10, .ref b_11, .ref b_12])), (b_5, .inl (tc 0, 10, .inl (fun _ => 0))), (b_6, .inl (tc 0, 10, .inl (fun _ => 0))), (b_7, .inl (tc 0, 6, .inl (fun _ => 0))), (b_8, .inl (tc 0, 6, .inl (fun _ => 0))), (b_9, .inl (tc 0, 6, .inl (fun _ => 0))), (b_10, .inl (tc 0, 6, .inl (fun _ => 0))), (b_11, .inl (tc 0, 6, .inl (fun _ => 0))), (b_12, .inl (tc 0, 6, .inl (fun _ => 0)))] H := hP
  have hD : va_D A [(h0, .inr (0, [.ref q_1])), (q_1, .inr (9, [.int 0, .int 0, .int 0, .int 0, .int 0, .int 0, .ref b_5, .ref b_6, .ref b_7, .ref b_8, .ref b_9, .ref b_10, .ref b_11, .ref b_12])), (b_5, .inl (tc 0, 10, .inl (fun _ => 0))), (b_6, .inl (tc 0, 10, .inl (fun _ => 0))), (b_7, .inl (tc 0, 6, .inl (fun _ => 0))), (b_8, .inl (tc 0, 6, .inl (fun _ => 0))), (b_9, .inl (tc 0, 6, .inl (fun _ => 0))), (b_10, .inl (tc 0, 6, .inl (fun _ => 0))), (b_11, .inl (tc 0, 6, .inl (fun _ => 0))), (b_12, .inl (tc 0, 6, .inl (fun _ => 0)))] := hD
  exact retV hx hb hr hlk hP hD hS (q_1, b_5, b_6, b_7, b_8, b_9, b_10, b_11, b_12) rfl [0, 1, 2, 3, 4, 5, 6, 7, 8, 9] rfl rfl dX0_init_15 (Nat.le_of_ble_eq_true rfl) (Nat.le_of_ble_eq_true rfl) rfl
set_option maxHeartbeats 4000000 in
set_option maxRecDepth 100000 in
theorem ct_X7_init (l : Launch) (D : va_G) (tc : Nat → ClassId) (sk : (Nat → Nat) × (Nat → Nat)) (h0 : Nat)  : Ct l yX7_init cX7_init 1 none { frames := 1, cells := 1, slots := 400, locals := 12 } D tc sk [.ref h0] [(h0, .inr (7, [.null, .int 0, .int 0]))] (fun (v : Option Value) (b1 : Nat) => v = none) (fun (b1 : Nat) => [(h0, .inr (7, [.ref b1, .int 0, .int 0])), (b1, .inl (tc 0, 400, .inl (fun _ => 0)))]) 1 400 := by
  refine Ct.start (by decide) (Nat.le_of_ble_eq_true rfl) (fun p e s m below meth c A ls hx hb hr hlk hin hml hown hts hK hX hP hD hA hl hS => ?_)
  have hl : lv_has ls 1 [(0, .ref h0)] := hl
  refine lv_aload_n hx hb dX7_init_0 rfl (lv_at hl 0 rfl) ?_
  refine W.objInit hx hb hown (hts _ k_257) (hts _ k_122) (hts _ k_123) rfl (by rw [hml]; exact hl.1) rfl dX7_init_1 (Nat.le_of_ble_eq_true rfl) (Nat.le_of_ble_eq_true rfl) ?_
  refine W.eq (g2 := F0 m 4 ls []) rfl ?_
  refine lv_aload_n hx hb dX7_init_4 rfl (lv_at hl 0 rfl) ?_
  refine lv_sipush (v := 400) hx hb dX7_init_5 (by decide) ?_
  refine nwA (atype := .int) (a0 := (400, .inl (fun _ => 0))) hx hb (hts _ k_156) rfl hK hP hD hS hA 0 rfl (fun _ => rfl) (by decide) (by decide) (by decide) (Nat.le_of_ble_eq_true rfl) (Nat.le_of_ble_eq_true rfl) dX7_init_8 (fun q_1 H hP hD hS => ?_)
  have hP : va_P D classes [(h0, .inr (7, [.null, .int 0, .int 0])), (q_1, .inl (tc 0, 400, .inl (fun _ => 0)))] H := hP
  have hD : va_D A [(h0, .inr (7, [.null, .int 0, .int 0])), (q_1, .inl (tc 0, 400, .inl (fun _ => 0)))] := hD
  refine pf_X7_9 (ty := (.array .int)) hx hb hts hown hin hK hP hD hS 0 rfl (Nat.le_of_ble_eq_true rfl) (by decide +kernel) rfl rfl dX7_init_10 (fun H locs hP hD hS => ?_)
  have hP : va_P D classes [(h0, .inr (7, [.ref q_1, .int 0, .int 0])), (q_1, .inl (tc 0, 400, .inl (fun _ => 0)))] H := hP
  have hD : va_D A [(h0, .inr (7, [.ref q_1, .int 0, .int 0])), (q_1, .inl (tc 0, 400, .inl (fun _ => 0)))] := hD
  refine lv_aload_n hx hb dX7_init_13 rfl (lv_at hl 0 rfl) ?_
  refine lv_iconst (v := 0) hx hb dX7_init_14 (by decide) ?_
  refine pf_X7_15 hx hb hts hown hK hP hD hS 0 rfl (Nat.le_of_ble_eq_true rfl) rfl rfl dX7_init_15 (fun H locs hP hD hS => ?_)
  have hP : va_P D classes [(h0, .inr (7, [.ref q_1, .int 0, .int 0])), (q_1, .inl (tc 0, 400, .inl (fun _ => 0)))] H := hP
  have hD : va_D A [(h0, .inr (7, [.ref q_1, .int 0, .int 0])), (q_1, .inl (tc 0, 400, .inl (fun _ => 0)))] := hD
  refine lv_aload_n hx hb dX7_init_18 rfl (lv_at hl 0 rfl) ?_
  refine lv_iconst (v := 0) hx hb dX7_init_19 (by decide) ?_
  refine pf_X7_19 hx hb hts hown hK hP hD hS 0 rfl (Nat.le_of_ble_eq_true rfl) rfl rfl dX7_init_20 (fun H locs hP hD hS => ?_)
  have hP : va_P D classes [(h0, .inr (7, [.ref q_1, .int 0, .int 0])), (q_1, .inl (tc 0, 400, .inl (fun _ => 0)))] H := hP
  have hD : va_D A [(h0, .inr (7, [.ref q_1, .int 0, .int 0])), (q_1, .inl (tc 0, 400, .inl (fun _ => 0)))] := hD
  exact retV hx hb hr hlk hP hD hS q_1 rfl [0, 1] rfl rfl dX7_init_23 (Nat.le_of_ble_eq_true rfl) (Nat.le_of_ble_eq_true rfl) rfl
set_option maxHeartbeats 4000000 in
set_option maxRecDepth 100000 in
theorem ct_X8_init (l : Launch) (D : va_G) (tc : Nat → ClassId) (sk : (Nat → Nat) × (Nat → Nat)) (h0 : Nat)  : Ct l yX8_init cX8_init 1 none { frames := 2, cells := 22, slots := 174, locals := 32 } D tc sk [.ref h0] [(h0, .inr (8, [.null, .null, .null, .int 0, .int 0]))] (fun (v : Option Value) (u : (Nat) × (Nat) × (Nat) × (Nat) × (Nat) × (Nat) × (Nat) × (Nat) × (Nat) × (Nat) × (Nat) × (Nat) × (Nat) × (Nat) × (Nat) × (Nat) × (Nat) × (Nat) × (Nat) × (Nat) × (Nat) × (Nat)) => match u with | (e0, e1, e2, e3, e4, e5, e6, e7, e8, f0, f1, f2, f3, f4, f5, f6, f7, f8, g0, g1, g2, g3) => v = none) (fun (u : (Nat) × (Nat) × (Nat) × (Nat) × (Nat) × (Nat) × (Nat) × (Nat) × (Nat) × (Nat) × (Nat) × (Nat) × (Nat) × (Nat) × (Nat) × (Nat) × (Nat) × (Nat) × (Nat) × (Nat) × (Nat) × (Nat)) => match u with | (e0, e1, e2, e3, e4, e5, e6, e7, e8, f0, f1, f2, f3, f4, f5, f6, f7, f8, g0, g1, g2, g3) => [(h0, .inr (8, [.ref e0, .ref f0, .ref g0, .int (-1), .int 0])), (e0, .inr (9, [.int 0, .int 0, .int 0, .int 0, .int 0, .int 0, .ref e1, .ref e2, .ref e3, .ref e4, .ref e5, .ref e6, .ref e7, .ref e8])), (e1, .inl (tc 0, 10, .inl (fun _ => 0))), (e2, .inl (tc 0, 10, .inl (fun _ => 0))), (e3, .inl (tc 0, 6, .inl (fun _ => 0))), (e4, .inl (tc 0, 6, .inl (fun _ => 0))), (e5, .inl (tc 0, 6, .inl (fun _ => 0))), (e6, .inl (tc 0, 6, .inl (fun _ => 0))), (e7, .inl (tc 0, 6, .inl (fun _ => 0))), (e8, .inl (tc 0, 6, .inl (fun _ => 0))), (f0, .inr (9, [.int 0, .int 0, .int 0, .int 0, .int 0, .int 0, .ref f1, .ref f2, .ref f3, .ref f4, .ref f5, .ref f6, .ref f7, .ref f8])), (f1, .inl (tc 0, 10, .inl (fun _ => 0))), (f2, .inl (tc 0, 10, .inl (fun _ => 0))), (f3, .inl (tc 0, 6, .inl (fun _ => 0))), (f4, .inl (tc 0, 6, .inl (fun _ => 0))), (f5, .inl (tc 0, 6, .inl (fun _ => 0))), (f6, .inl (tc 0, 6, .inl (fun _ => 0))), (f7, .inl (tc 0, 6, .inl (fun _ => 0))), (f8, .inl (tc 0, 6, .inl (fun _ => 0))), (g0, .inr (3, [.ref g1, .ref g2, .ref g3, .int 0])), (g1, .inl (tc 0, 10, .inl (fun _ => 0))), (g2, .inl (tc 0, 10, .inl (fun _ => 0))), (g3, .inl (tc 0, 10, .inl (fun _ => 0)))]) 22 174 := by
  refine Ct.start (by decide) (Nat.le_of_ble_eq_true rfl) (fun p e s m below meth c A ls hx hb hr hlk hin hml hown hts hK hX hP hD hA hl hS => ?_)
  have hl : lv_has ls 1 [(0, .ref h0)] := hl
  refine lv_aload_n hx hb dX8_init_0 rfl (lv_at hl 0 rfl) ?_
  refine W.objInit hx hb hown (hts _ k_275) (hts _ k_122) (hts _ k_123) rfl (by rw [hml]; exact hl.1) rfl dX8_init_1 (Nat.le_of_ble_eq_true rfl) (Nat.le_of_ble_eq_true rfl) ?_
  refine W.eq (g2 := F0 m 4 ls []) rfl ?_
  refine lv_aload_n hx hb dX8_init_4 rfl (lv_at hl 0 rfl) ?_
  refine va_new (ci := 9) (fs := [.int 0, .int 0, .int 0, .int 0, .int 0, .int 0, .null, .null, .null, .null, .null, .null, .null, .null]) (C := RX9) (T := TX9) (N := 14) hx hb hts iX9 tyX9 tyX9_ok hown (hts _ k_276) (hts _ k_164) (hts _ k_98) hK hP hD hS hA rfl dfX9 (Nat.le_of_ble_eq_true rfl) (Nat.le_of_ble_eq_true rfl) dX8_init_5 (fun q_1 H hP hD hS => ?_)
  have hP : va_P D classes [(h0, .inr (8, [.null, .null, .null, .int 0, .int 0])), (q_1, .inr (9, [.int 0, .int 0, .int 0, .int 0, .int 0, .int 0, .null, .null, .null, .null, .null, .null, .null, .null]))] H := hP
  have hD : va_D A [(h0, .inr (8, [.null, .null, .null, .int 0, .int 0])), (q_1, .inr (9, [.int 0, .int 0, .int 0, .int 0, .int 0, .int 0, .null, .null, .null, .null, .null, .null, .null, .null]))] := hD
  refine lv_dup hx hb dX8_init_8 rfl ?_
  refine cN (a := q_1) (As := []) (rest := [.ref q_1, .ref h0]) (wr := [(h0, .inr (8, [.null, .null, .null, .int 0, .int 0]))]) ⟨hx, hb, hml, hown, hts⟩ hK hX hA (ct_X9_init l D tc sk q_1) k_167 (by decide) k_166 k_98 rfl pl_X9_init ⟨Nat.le_of_ble_eq_true rfl, Nat.le_of_ble_eq_true rfl⟩ rfl rfl  hP hD hS [1] [0] rfl rfl rfl rfl rfl (by decide) rfl hl.1 rfl (Nat.le_of_ble_eq_true rfl) dX8_init_9 ⟨Nat.le_of_ble_eq_true rfl, Nat.le_of_ble_eq_true rfl⟩ (fun v_2 u_3 H locs hv_4 hP hD hS => ?_)
  obtain ⟨b_5, b_6, b_7, b_8, b_9, b_10, b_11, b_12⟩ := u_3
  obtain rfl : v_2 = none := hv_4
  refine W.eq (g2 := F0 m 12 ls [.ref q_1, .ref h0]) rfl ?_
  have hP : va_P D classes [(h0, .inr (8, [.null, .null, .null, .int 0, .int 0])), (q_1, .inr (9, [.int 0, .int 0, .int 0, .int 0, .int 0, .int 0, .ref b_5, .ref b_6, .ref b_7, .ref b_8, .ref b_9, .ref b_10, .ref b_11, .ref b_12])), (b_5, .inl (tc 0, 10, .inl (fun _ => 0))), (b_6, .inl (tc 0, 10, .inl (fun _ => 0))), (b_7, .inl (tc 0, 6, .inl (fun _ => 0))), (b_8, .inl (tc 0, 6, .inl (fun _ => 0))), (b_9, .inl (tc 0, 6, .inl (fun _ => 0))), (b_10, .inl (tc 0, 6, .inl (fun _ => 0))), (b_11, .inl (tc 0, 6, .inl (fun _ => 0))), (b_12, .inl (tc 0, 6, .inl (fun _ => 0)))] H := hP
  have hD : va_D A [(h0, .inr (8, [.null, .null, .null, .int 0, .int 0])), (q_1, .inr (9, [.int 0, .int 0, .int 0, .int 0, .int 0, .int 0, .ref b_5, .ref b_6, .ref b_7, .ref b_8, .ref b_9, .ref b_10, .ref b_11, .ref b_12])), (b_5, .inl (tc 0, 10, .inl (fun _ => 0))), (b_6, .inl (tc 0, 10, .inl (fun _ => 0))), (b_7, .inl (tc 0, 6, .inl (fun _ => 0))), (b_8, .inl (tc 0, 6, .inl (fun _ => 0))), (b_9, .inl (tc 0, 6, .inl (fun _ => 0))), (b_10, .inl (tc 0, 6, .inl (fun _ => 0))), (b_11, .inl (tc 0, 6, .inl (fun _ => 0))), (b_12, .inl (tc 0, 6, .inl (fun _ => 0)))] := hD
  refine pf_X8_12 (ty := (.object "PoisonBook$Shop")) hx hb hts hown hin hK hP hD hS 0 rfl (Nat.le_of_ble_eq_true rfl) (by decide +kernel) rfl rfl dX8_init_12 (fun H locs hP hD hS => ?_)
  have hP : va_P D classes [(h0, .inr (8, [.ref q_1, .null, .null, .int 0, .int 0])), (q_1, .inr (9, [.int 0, .int 0, .int 0, .int 0, .int 0, .int 0, .ref b_5, .ref b_6, .ref b_7, .ref b_8, .ref b_9, .ref b_10, .ref b_11, .ref b_12])), (b_5, .inl (tc 0, 10, .inl (fun _ => 0))), (b_6, .inl (tc 0, 10, .inl (fun _ => 0))), (b_7, .inl (tc 0, 6, .inl (fun _ => 0))), (b_8, .inl (tc 0, 6, .inl (fun _ => 0))), (b_9, .inl (tc 0, 6, .inl (fun _ => 0))), (b_10, .inl (tc 0, 6, .inl (fun _ => 0))), (b_11, .inl (tc 0, 6, .inl (fun _ => 0))), (b_12, .inl (tc 0, 6, .inl (fun _ => 0)))] H := hP
  have hD : va_D A [(h0, .inr (8, [.ref q_1, .null, .null, .int 0, .int 0])), (q_1, .inr (9, [.int 0, .int 0, .int 0, .int 0, .int 0, .int 0, .ref b_5, .ref b_6, .ref b_7, .ref b_8, .ref b_9, .ref b_10, .ref b_11, .ref b_12])), (b_5, .inl (tc 0, 10, .inl (fun _ => 0))), (b_6, .inl (tc 0, 10, .inl (fun _ => 0))), (b_7, .inl (tc 0, 6, .inl (fun _ => 0))), (b_8, .inl (tc 0, 6, .inl (fun _ => 0))), (b_9, .inl (tc 0, 6, .inl (fun _ => 0))), (b_10, .inl (tc 0, 6, .inl (fun _ => 0))), (b_11, .inl (tc 0, 6, .inl (fun _ => 0))), (b_12, .inl (tc 0, 6, .inl (fun _ => 0)))] := hD
  refine lv_aload_n hx hb dX8_init_15 rfl (lv_at hl 0 rfl) ?_
  refine va_new (ci := 9) (fs := [.int 0, .int 0, .int 0, .int 0, .int 0, .int 0, .null, .null, .null, .null, .null, .null, .null, .null]) (C := RX9) (T := TX9) (N := 14) hx hb hts iX9 tyX9 tyX9_ok hown (hts _ k_276) (hts _ k_164) (hts _ k_98) hK hP hD hS hA rfl dfX9 (Nat.le_of_ble_eq_true rfl) (Nat.le_of_ble_eq_true rfl) dX8_init_16 (fun q_13 H hP hD hS => ?_)
  have hP : va_P D classes [(h0, .inr (8, [.ref q_1, .null, .null, .int 0, .int 0])), (q_1, .inr (9, [.int 0, .int 0, .int 0, .int 0, .int 0, .int 0, .ref b_5, .ref b_6, .ref b_7, .ref b_8, .ref b_9, .ref b_10, .ref b_11, .ref b_12])), (b_5, .inl (tc 0, 10, .inl (fun _ => 0))), (b_6, .inl (tc 0, 10, .inl (fun _ => 0))), (b_7, .inl (tc 0, 6, .inl (fun _ => 0))), (b_8, .inl (tc 0, 6, .inl (fun _ => 0))), (b_9, .inl (tc 0, 6, .inl (fun _ => 0))), (b_10, .inl (tc 0, 6, .inl (fun _ => 0))), (b_11, .inl (tc 0, 6, .inl (fun _ => 0))), (b_12, .inl (tc 0, 6, .inl (fun _ => 0))), (q_13, .inr (9, [.int 0, .int 0, .int 0, .int 0, .int 0, .int 0, .null, .null, .null, .null, .null, .null, .null, .null]))] H := hP
  have hD : va_D A [(h0, .inr (8, [.ref q_1, .null, .null, .int 0, .int 0])), (q_1, .inr (9, [.int 0, .int 0, .int 0, .int 0, .int 0, .int 0, .ref b_5, .ref b_6, .ref b_7, .ref b_8, .ref b_9, .ref b_10, .ref b_11, .ref b_12])), (b_5, .inl (tc 0, 10, .inl (fun _ => 0))), (b_6, .inl (tc 0, 10, .inl (fun _ => 0))), (b_7, .inl (tc 0, 6, .inl (fun _ => 0))), (b_8, .inl (tc 0, 6, .inl (fun _ => 0))), (b_9, .inl (tc 0, 6, .inl (fun _ => 0))), (b_10, .inl (tc 0, 6, .inl (fun _ => 0))), (b_11, .inl (tc 0, 6, .inl (fun _ => 0))), (b_12, .inl (tc 0, 6, .inl (fun _ => 0))), (q_13, .inr (9, [.int 0, .int 0, .int 0, .int 0, .int 0, .int 0, .null, .null, .null, .null, .null, .null, .null, .null]))] := hD
  refine lv_dup hx hb dX8_init_19 rfl ?_
  refine cN (a := q_13) (As := []) (rest := [.ref q_13, .ref h0]) (wr := [(h0, .inr (8, [.ref q_1, .null, .null, .int 0, .int 0])), (q_1, .inr (9, [.int 0, .int 0, .int 0, .int 0, .int 0, .int 0, .ref b_5, .ref b_6, .ref b_7, .ref b_8, .ref b_9, .ref b_10, .ref b_11, .ref b_12])), (b_5, .inl (tc 0, 10, .inl (fun _ => 0))), (b_6, .inl (tc 0, 10, .inl (fun _ => 0))), (b_7, .inl (tc 0, 6, .inl (fun _ => 0))), (b_8, .inl (tc 0, 6, .inl (fun _ => 0))), (b_9, .inl (tc 0, 6, .inl (fun _ => 0))), (b_10, .inl (tc 0, 6, .inl (fun _ => 0))), (b_11, .inl (tc 0, 6, .inl (fun _ => 0))), (b_12, .inl (tc 0, 6, .inl (fun _ => 0)))]) ⟨hx, hb, hml, hown, hts⟩ hK hX hA (ct_X9_init l D tc sk q_13) k_167 (by decide) k_166 k_98 rfl pl_X9_init ⟨Nat.le_of_ble_eq_true rfl, Nat.le_of_ble_eq_true rfl⟩ rfl rfl  hP hD hS [10] [0, 1, 2, 3, 4, 5, 6, 7, 8, 9] rfl rfl rfl rfl rfl (by decide) rfl hl.1 rfl (Nat.le_of_ble_eq_true rfl) dX8_init_20 ⟨Nat.le_of_ble_eq_true rfl, Nat.le_of_ble_eq_true rfl⟩ (fun v_14 u_15 H locs hv_16 hP hD hS => ?_)
  obtain ⟨b_17, b_18, b_19, b_20, b_21, b_22, b_23, b_24⟩ := u_15
  obtain rfl : v_14 = none := hv_16
  refine W.eq (g2 := F0 m 23 ls [.ref q_13, .ref h0]) rfl ?_
  have hP : va_P D classes [(h0, .inr (8, [.ref q_1, .null, .null, .int 0, .int 0])), (q_1, .inr (9, [.int 0, .int 0, .int 0, .int 0, .int 0, .int 0, .ref b_5, .ref b_6, .ref b_7, .ref b_8, .ref b_9, .ref b_10, .ref b_11, .ref b_12])), (b_5, .inl (tc 0, 10, .inl (fun _ => 0))), (b_6, .inl (tc 0, 10, .inl (fun _ => 0))), (b_7, .inl (tc 0, 6, .inl (fun _ => 0))), (b_8, .inl (tc 0, 6, .inl (fun _ => 0))), (b_9, .inl (tc 0, 6, .inl (fun _ => 0))), (b_10, .inl (tc 0, 6, .inl (fun _ => 0))), (b_11, .inl (tc 0, 6, .inl (fun _ => 0))), (b_12, .inl (tc 0, 6, .inl (fun _ => 0))), (q_13, .inr (9, [.int 0, .int 0, .int 0, .int 0, .int 0, .int 0, .ref b_17, .ref b_18, .ref b_19, .ref b_20, .ref b_21, .ref b_22, .ref b_23, .ref b_24])), (b_17, .inl (tc 0, 10, .inl (fun _ => 0))), (b_18, .inl (tc 0, 10, .inl (fun _ => 0))), (b_19, .inl (tc 0, 6, .inl (fun _ => 0))), (b_20, .inl (tc 0, 6, .inl (fun _ => 0))), (b_21, .inl (tc 0, 6, .inl (fun _ => 0))), (b_22, .inl (tc 0, 6, .inl (fun _ => 0))), (b_23, .inl (tc 0, 6, .inl (fun _ => 0))), (b_24, .inl (tc 0, 6, .inl (fun _ => 0)))] H := hP
  have hD : va_D A [(h0, .inr (8, [.ref q_1, .null, .null, .int 0, .int 0])), (q_1, .inr (9, [.int 0, .int 0, .int 0, .int 0, .int 0, .int 0, .ref b_5, .ref b_6, .ref b_7, .ref b_8, .ref b_9, .ref b_10, .ref b_11, .ref b_12])), (b_5, .inl (tc 0, 10, .inl (fun _ => 0))), (b_6, .inl (tc 0, 10, .inl (fun _ => 0))), (b_7, .inl (tc 0, 6, .inl (fun _ => 0))), (b_8, .inl (tc 0, 6, .inl (fun _ => 0))), (b_9, .inl (tc 0, 6, .inl (fun _ => 0))), (b_10, .inl (tc 0, 6, .inl (fun _ => 0))), (b_11, .inl (tc 0, 6, .inl (fun _ => 0))), (b_12, .inl (tc 0, 6, .inl (fun _ => 0))), (q_13, .inr (9, [.int 0, .int 0, .int 0, .int 0, .int 0, .int 0, .ref b_17, .ref b_18, .ref b_19, .ref b_20, .ref b_21, .ref b_22, .ref b_23, .ref b_24])), (b_17, .inl (tc 0, 10, .inl (fun _ => 0))), (b_18, .inl (tc 0, 10, .inl (fun _ => 0))), (b_19, .inl (tc 0, 6, .inl (fun _ => 0))), (b_20, .inl (tc 0, 6, .inl (fun _ => 0))), (b_21, .inl (tc 0, 6, .inl (fun _ => 0))), (b_22, .inl (tc 0, 6, .inl (fun _ => 0))), (b_23, .inl (tc 0, 6, .inl (fun _ => 0))), (b_24, .inl (tc 0, 6, .inl (fun _ => 0)))] := hD
  refine pf_X8_18 (ty := (.object "PoisonBook$Shop")) hx hb hts hown hin hK hP hD hS 0 rfl (Nat.le_of_ble_eq_true rfl) (by decide +kernel) rfl rfl dX8_init_23 (fun H locs hP hD hS => ?_)
  have hP : va_P D classes [(h0, .inr (8, [.ref q_1, .ref q_13, .null, .int 0, .int 0])), (q_1, .inr (9, [.int 0, .int 0, .int 0, .int 0, .int 0, .int 0, .ref b_5, .ref b_6, .ref b_7, .ref b_8, .ref b_9, .ref b_10, .ref b_11, .ref b_12])), (b_5, .inl (tc 0, 10, .inl (fun _ => 0))), (b_6, .inl (tc 0, 10, .inl (fun _ => 0))), (b_7, .inl (tc 0, 6, .inl (fun _ => 0))), (b_8, .inl (tc 0, 6, .inl (fun _ => 0))), (b_9, .inl (tc 0, 6, .inl (fun _ => 0))), (b_10, .inl (tc 0, 6, .inl (fun _ => 0))), (b_11, .inl (tc 0, 6, .inl (fun _ => 0))), (b_12, .inl (tc 0, 6, .inl (fun _ => 0))), (q_13, .inr (9, [.int 0, .int 0, .int 0, .int 0, .int 0, .int 0, .ref b_17, .ref b_18, .ref b_19, .ref b_20, .ref b_21, .ref b_22, .ref b_23, .ref b_24])), (b_17, .inl (tc 0, 10, .inl (fun _ => 0))), (b_18, .inl (tc 0, 10, .inl (fun _ => 0))), (b_19, .inl (tc 0, 6, .inl (fun _ => 0))), (b_20, .inl (tc 0, 6, .inl (fun _ => 0))), (b_21, .inl (tc 0, 6, .inl (fun _ => 0))), (b_22, .inl (tc 0, 6, .inl (fun _ => 0))), (b_23, .inl (tc 0, 6, .inl (fun _ => 0))), (b_24, .inl (tc 0, 6, .inl (fun _ => 0)))] H := hP
  have hD : va_D A [(h0, .inr (8, [.ref q_1, .ref q_13, .null, .int 0, .int 0])), (q_1, .inr (9, [.int 0, .int 0, .int 0, .int 0, .int 0, .int 0, .ref b_5, .ref b_6, .ref b_7, .ref b_8, .ref b_9, .ref b_10, .ref b_11, .ref b_12])), (b_5, .inl (tc 0, 10, .inl (fun _ => 0))), (b_6, .inl (tc 0, 10, .inl (fun _ => 0))), (b_7, .inl (tc 0, 6, .inl (fun _ => 0))), (b_8, .inl (tc 0, 6, .inl (fun _ => 0))), (b_9, .inl (tc 0, 6, .inl (fun _ => 0))), (b_10, .inl (tc 0, 6, .inl (fun _ => 0))), (b_11, .inl (tc 0, 6, .inl (fun _ => 0))), (b_12, .inl (tc 0, 6, .inl (fun _ => 0))), (q_13, .inr (9, [.int 0, .int 0, .int 0, .int 0, .int 0, .int 0, .ref b_17, .ref b_18, .ref b_19, .ref b_20, .ref b_21, .ref b_22, .ref b_23, .ref b_24])), (b_17, .inl (tc 0, 10, .inl (fun _ => 0))), (b_18, .inl (tc 0, 10, .inl (fun _ => 0))), (b_19, .inl (tc 0, 6, .inl (fun _ => 0))), (b_20, .inl (tc 0, 6, .inl (fun _ => 0))), (b_21, .inl (tc 0, 6, .inl (fun _ => 0))), (b_22, .inl (tc 0, 6, .inl (fun _ => 0))), (b_23, .inl (tc 0, 6, .inl (fun _ => 0))), (b_24, .inl (tc 0, 6, .inl (fun _ => 0)))] := hD
  refine lv_aload_n hx hb dX8_init_26 rfl (lv_at hl 0 rfl) ?_
  refine va_new (ci := 3) (fs := [.null, .null, .null, .int 0]) (C := RX3) (T := TX3) (N := 4) hx hb hts iX3 tyX3 tyX3_ok hown (hts _ k_278) (hts _ k_279) (hts _ k_101) hK hP hD hS hA rfl dfX3 (Nat.le_of_ble_eq_true rfl) (Nat.le_of_ble_eq_true rfl) dX8_init_27 (fun q_25 H hP hD hS => ?_)
  have hP : va_P D classes [(h0, .inr (8, [.ref q_1, .ref q_13, .null, .int 0, .int 0])), (q_1, .inr (9, [.int 0, .int 0, .int 0, .int 0, .int 0, .int 0, .ref b_5, .ref b_6, .ref b_7, .ref b_8, .ref b_9, .ref b_10, .ref b_11, .ref b_12])), (b_5, .inl (tc 0, 10, .inl (fun _ => 0))), (b_6, .inl (tc 0, 10, .inl (fun _ => 0))), (b_7, .inl (tc 0, 6, .inl (fun _ => 0))), (b_8, .inl (tc 0, 6, .inl (fun _ => 0))), (b_9, .inl (tc 0, 6, .inl (fun _ => 0))), (b_10, .inl (tc 0, 6, .inl (fun _ => 0))), (b_11, .inl (tc 0, 6, .inl (fun _ => 0))), (b_12, .inl (tc 0, 6, .inl (fun _ => 0))), (q_13, .inr (9, [.int 0, .int 0, .int 0, .int 0, .int 0, .int 0, .ref b_17, .ref b_18, .ref b_19, .ref b_20, .ref b_21, .ref b_22, .ref b_23, .ref b_24])), (b_17, .inl (tc 0, 10, .inl (fun _ => 0))), (b_18, .inl (tc 0, 10, .inl (fun _ => 0))), (b_19, .inl (tc 0, 6, .inl (fun _ => 0))), (b_20, .inl (tc 0, 6, .inl (fun _ => 0))), (b_21, .inl (tc 0, 6, .inl (fun _ => 0))), (b_22, .inl (tc 0, 6, .inl (fun _ => 0))), (b_23, .inl (tc 0, 6, .inl (fun _ => 0))), (b_24, .inl (tc 0, 6, .inl (fun _ => 0))), (q_25, .inr (3, [.null, .null, .null, .int 0]))] H := hP
  have hD : va_D A [(h0, .inr (8, [.ref q_1, .ref q_13, .null, .int 0, .int 0])), (q_1, .inr (9, [.int 0, .int 0, .int 0, .int 0, .int 0, .int 0, .ref b_5, .ref b_6, .ref b_7, .ref b_8, .ref b_9, .ref b_10, .ref b_11, .ref b_12])), (b_5, .inl (tc 0, 10, .inl (fun _ => 0))), (b_6, .inl (tc 0, 10, .inl (fun _ => 0))), (b_7, .inl (tc 0, 6, .inl (fun _ => 0))), (b_8, .inl (tc 0, 6, .inl (fun _ => 0))), (b_9, .inl (tc 0, 6, .inl (fun _ => 0))), (b_10, .inl (tc 0, 6, .inl (fun _ => 0))), (b_11, .inl (tc 0, 6, .inl (fun _ => 0))), (b_12, .inl (tc 0, 6, .inl (fun _ => 0))), (q_13, .inr (9, [.int 0, .int 0, .int 0, .int 0, .int 0, .int 0, .ref b_17, .ref b_18, .ref b_19, .ref b_20, .ref b_21, .ref b_22, .ref b_23, .ref b_24])), (b_17, .inl (tc 0, 10, .inl (fun _ => 0))), (b_18, .inl (tc 0, 10, .inl (fun _ => 0))), (b_19, .inl (tc 0, 6, .inl (fun _ => 0))), (b_20, .inl (tc 0, 6, .inl (fun _ => 0))), (b_21, .inl (tc 0, 6, .inl (fun _ => 0))), (b_22, .inl (tc 0, 6, .inl (fun _ => 0))), (b_23, .inl (tc 0, 6, .inl (fun _ => 0))), (b_24, .inl (tc 0, 6, .inl (fun _ => 0))), (q_25, .inr (3, [.null, .null, .null, .int 0]))] := hD
  refine lv_dup hx hb dX8_init_30 rfl ?_
  refine cN (a := q_25) (As := []) (rest := [.ref q_25, .ref h0]) (wr := [(h0, .inr (8, [.ref q_1, .ref q_13, .null, .int 0, .int 0])), (q_1, .inr (9, [.int 0, .int 0, .int 0, .int 0, .int 0, .int 0, .ref b_5, .ref b_6, .ref b_7, .ref b_8, .ref b_9, .ref b_10, .ref b_11, .ref b_12])), (b_5, .inl (tc 0, 10, .inl (fun _ => 0))), (b_6, .inl (tc 0, 10, .inl (fun _ => 0))), (b_7, .inl (tc 0, 6, .inl (fun _ => 0))), (b_8, .inl (tc 0, 6, .inl (fun _ => 0))), (b_9, .inl (tc 0, 6, .inl (fun _ => 0))), (b_10, .inl (tc 0, 6, .inl (fun _ => 0))), (b_11, .inl (tc 0, 6, .inl (fun _ => 0))), (b_12, .inl (tc 0, 6, .inl (fun _ => 0))), (q_13, .inr (9, [.int 0, .int 0, .int 0, .int 0, .int 0, .int 0, .ref b_17, .ref b_18, .ref b_19, .ref b_20, .ref b_21, .ref b_22, .ref b_23, .ref b_24])), (b_17, .inl (tc 0, 10, .inl (fun _ => 0))), (b_18, .inl (tc 0, 10, .inl (fun _ => 0))), (b_19, .inl (tc 0, 6, .inl (fun _ => 0))), (b_20, .inl (tc 0, 6, .inl (fun _ => 0))), (b_21, .inl (tc 0, 6, .inl (fun _ => 0))), (b_22, .inl (tc 0, 6, .inl (fun _ => 0))), (b_23, .inl (tc 0, 6, .inl (fun _ => 0))), (b_24, .inl (tc 0, 6, .inl (fun _ => 0)))]) ⟨hx, hb, hml, hown, hts⟩ hK hX hA (ct_X3_init l D tc sk q_25) k_282 (by decide) k_281 k_101 rfl pl_X3_init ⟨Nat.le_of_ble_eq_true rfl, Nat.le_of_ble_eq_true rfl⟩ rfl rfl  hP hD hS [19] [0, 1, 2, 3, 4, 5, 6, 7, 8, 9, 10, 11, 12, 13, 14, 15, 16, 17, 18] rfl rfl rfl rfl rfl (by decide) rfl hl.1 rfl (Nat.le_of_ble_eq_true rfl) dX8_init_31 ⟨Nat.le_of_ble_eq_true rfl, Nat.le_of_ble_eq_true rfl⟩ (fun v_26 u_27 H locs hv_28 hP hD hS => ?_)
  obtain ⟨b_29, b_30, b_31⟩ := u_27
  obtain rfl : v_26 = none := hv_28
  refine W.eq (g2 := F0 m 34 ls [.ref q_25, .ref h0]) rfl ?_
  have hP : va_P D classes [(h0, .inr (8, [.ref q_1, .ref q_13, .null, .int 0, .int 0])), (q_1, .inr (9, [.int 0, .int 0, .int 0, .int 0, .int 0, .int 0, .ref b_5, .ref b_6, .ref b_7, .ref b_8, .ref b_9, .ref b_10, .ref b_11, .ref b_12])), (b_5, .inl (tc 0, 10, .inl (fun _ => 0))), (b_6, .inl (tc 0, 10, .inl (fun _ => 0))), (b_7, .inl (tc 0, 6, .inl (fun _ => 0))), (b_8, .inl (tc 0, 6, .inl (fun _ => 0))), (b_9, .inl (tc 0, 6, .inl (fun _ => 0))), (b_10, .inl (tc 0, 6, .inl (fun _ => 0))), (b_11, .inl (tc 0, 6, .inl (fun _ => 0))), (b_12, .inl (tc 0, 6, .inl (fun _ => 0))), (q_13, .inr (9, [.int 0, .int 0, .int 0, .int 0, .int 0, .int 0, .ref b_17, .ref b_18, .ref b_19, .ref b_20, .ref b_21, .ref b_22, .ref b_23, .ref b_24])), (b_17, .inl (tc 0, 10, .inl (fun _ => 0))), (b_18, .inl (tc 0, 10, .inl (fun _ => 0))), (b_19, .inl (tc 0, 6, .inl (fun _ => 0))), (b_20, .inl (tc 0, 6, .inl (fun _ => 0))), (b_21, .inl (tc 0, 6, .inl (fun _ => 0))), (b_22, .inl (tc 0, 6, .inl (fun _ => 0))), (b_23, .inl (tc 0, 6, .inl (fun _ => 0))), (b_24, .inl (tc 0, 6, .inl (fun _ => 0))), (q_25, .inr (3, [.ref b_29, .ref b_30, .ref b_31, .int 0])), (b_29, .inl (tc 0, 10, .inl (fun _ => 0))), (b_30, .inl (tc 0, 10, .inl (fun _ => 0))), (b_31, .inl (tc 0, 10, .inl (fun _ => 0)))] H := hP
  have hD : va_D A [(h0, .inr (8, [.ref q_1, .ref q_13, .null, .int 0, .int 0])), (q_1, .inr (9, [.int 0, .int 0, .int 0, .int 0, .int 0, .int 0, .ref b_5, .ref b_6, .ref b_7, .ref b_8, .ref b_9, .ref b_10, .ref b_11, .ref b_12])), (b_5, .inl (tc 0, 10, .inl (fun _ => 0))), (b_6, .inl (tc 0, 10, .inl (fun _ => 0))), (b_7, .inl (tc 0, 6, .inl (fun _ => 0))), (b_8, .inl (tc 0, 6, .inl (fun _ => 0))), (b_9, .inl (tc 0, 6, .inl (fun _ => 0))), (b_10, .inl (tc 0, 6, .inl (fun _ => 0))), (b_11, .inl (tc 0, 6, .inl (fun _ => 0))), (b_12, .inl (tc 0, 6, .inl (fun _ => 0))), (q_13, .inr (9, [.int 0, .int 0, .int 0, .int 0, .int 0, .int 0, .ref b_17, .ref b_18, .ref b_19, .ref b_20, .ref b_21, .ref b_22, .ref b_23, .ref b_24])), (b_17, .inl (tc 0, 10, .inl (fun _ => 0))), (b_18, .inl (tc 0, 10, .inl (fun _ => 0))), (b_19, .inl (tc 0, 6, .inl (fun _ => 0))), (b_20, .inl (tc 0, 6, .inl (fun _ => 0))), (b_21, .inl (tc 0, 6, .inl (fun _ => 0))), (b_22, .inl (tc 0, 6, .inl (fun _ => 0))), (b_23, .inl (tc 0, 6, .inl (fun _ => 0))), (b_24, .inl (tc 0, 6, .inl (fun _ => 0))), (q_25, .inr (3, [.ref b_29, .ref b_30, .ref b_31, .int 0])), (b_29, .inl (tc 0, 10, .inl (fun _ => 0))), (b_30, .inl (tc 0, 10, .inl (fun _ => 0))), (b_31, .inl (tc 0, 10, .inl (fun _ => 0)))] := hD
  refine pf_X8_24 (ty := (.object "PoisonBook$Notes")) hx hb hts hown hin hK hP hD hS 0 rfl (Nat.le_of_ble_eq_true rfl) (by decide +kernel) rfl rfl dX8_init_34 (fun H locs hP hD hS => ?_)
  have hP : va_P D classes [(h0, .inr (8, [.ref q_1, .ref q_13, .ref q_25, .int 0, .int 0])), (q_1, .inr (9, [.int 0, .int 0, .int 0, .int 0, .int 0, .int 0, .ref b_5, .ref b_6, .ref b_7, .ref b_8, .ref b_9, .ref b_10, .ref b_11, .ref b_12])), (b_5, .inl (tc 0, 10, .inl (fun _ => 0))), (b_6, .inl (tc 0, 10, .inl (fun _ => 0))), (b_7, .inl (tc 0, 6, .inl (fun _ => 0))), (b_8, .inl (tc 0, 6, .inl (fun _ => 0))), (b_9, .inl (tc 0, 6, .inl (fun _ => 0))), (b_10, .inl (tc 0, 6, .inl (fun _ => 0))), (b_11, .inl (tc 0, 6, .inl (fun _ => 0))), (b_12, .inl (tc 0, 6, .inl (fun _ => 0))), (q_13, .inr (9, [.int 0, .int 0, .int 0, .int 0, .int 0, .int 0, .ref b_17, .ref b_18, .ref b_19, .ref b_20, .ref b_21, .ref b_22, .ref b_23, .ref b_24])), (b_17, .inl (tc 0, 10, .inl (fun _ => 0))), (b_18, .inl (tc 0, 10, .inl (fun _ => 0))), (b_19, .inl (tc 0, 6, .inl (fun _ => 0))), (b_20, .inl (tc 0, 6, .inl (fun _ => 0))), (b_21, .inl (tc 0, 6, .inl (fun _ => 0))), (b_22, .inl (tc 0, 6, .inl (fun _ => 0))), (b_23, .inl (tc 0, 6, .inl (fun _ => 0))), (b_24, .inl (tc 0, 6, .inl (fun _ => 0))), (q_25, .inr (3, [.ref b_29, .ref b_30, .ref b_31, .int 0])), (b_29, .inl (tc 0, 10, .inl (fun _ => 0))), (b_30, .inl (tc 0, 10, .inl (fun _ => 0))), (b_31, .inl (tc 0, 10, .inl (fun _ => 0)))] H := hP
  have hD : va_D A [(h0, .inr (8, [.ref q_1, .ref q_13, .ref q_25, .int 0, .int 0])), (q_1, .inr (9, [.int 0, .int 0, .int 0, .int 0, .int 0, .int 0, .ref b_5, .ref b_6, .ref b_7, .ref b_8, .ref b_9, .ref b_10, .ref b_11, .ref b_12])), (b_5, .inl (tc 0, 10, .inl (fun _ => 0))), (b_6, .inl (tc 0, 10, .inl (fun _ => 0))), (b_7, .inl (tc 0, 6, .inl (fun _ => 0))), (b_8, .inl (tc 0, 6, .inl (fun _ => 0))), (b_9, .inl (tc 0, 6, .inl (fun _ => 0))), (b_10, .inl (tc 0, 6, .inl (fun _ => 0))), (b_11, .inl (tc 0, 6, .inl (fun _ => 0))), (b_12, .inl (tc 0, 6, .inl (fun _ => 0))), (q_13, .inr (9, [.int 0, .int 0, .int 0, .int 0, .int 0, .int 0, .ref b_17, .ref b_18, .ref b_19, .ref b_20, .ref b_21, .ref b_22, .ref b_23, .ref b_24])), (b_17, .inl (tc 0, 10, .inl (fun _ => 0))), (b_18, .inl (tc 0, 10, .inl (fun _ => 0))), (b_19, .inl (tc 0, 6, .inl (fun _ => 0))), (b_20, .inl (tc 0, 6, .inl (fun _ => 0))), (b_21, .inl (tc 0, 6, .inl (fun _ => 0))), (b_22, .inl (tc 0, 6, .inl (fun _ => 0))), (b_23, .inl (tc 0, 6, .inl (fun _ => 0))), (b_24, .inl (tc 0, 6, .inl (fun _ => 0))), (q_25, .inr (3, [.ref b_29, .ref b_30, .ref b_31, .int 0])), (b_29, .inl (tc 0, 10, .inl (fun _ => 0))), (b_30, .inl (tc 0, 10, .inl (fun _ => 0))), (b_31, .inl (tc 0, 10, .inl (fun _ => 0)))] := hD
  refine lv_aload_n hx hb dX8_init_37 rfl (lv_at hl 0 rfl) ?_
  refine lv_iconst (v := (-1)) hx hb dX8_init_38 (by decide) ?_
  refine pf_X8_28 hx hb hts hown hK hP hD hS 0 rfl (Nat.le_of_ble_eq_true rfl) rfl rfl dX8_init_39 (fun H locs hP hD hS => ?_)
  have hP : va_P D classes [(h0, .inr (8, [.ref q_1, .ref q_13, .ref q_25, .int (-1), .int 0])), (q_1, .inr (9, [.int 0, .int 0, .int 0, .int 0, .int 0, .int 0, .ref b_5, .ref b_6, .ref b_7, .ref b_8, .ref b_9, .ref b_10, .ref b_11, .ref b_12])), (b_5, .inl (tc 0, 10, .inl (fun _ => 0))), (b_6, .inl (tc 0, 10, .inl (fun _ => 0))), (b_7, .inl (tc 0, 6, .inl (fun _ => 0))), (b_8, .inl (tc 0, 6, .inl (fun _ => 0))), (b_9, .inl (tc 0, 6, .inl (fun _ => 0))), (b_10, .inl (tc 0, 6, .inl (fun _ => 0))), (b_11, .inl (tc 0, 6, .inl (fun _ => 0))), (b_12, .inl (tc 0, 6, .inl (fun _ => 0))), (q_13, .inr (9, [.int 0, .int 0, .int 0, .int 0, .int 0, .int 0, .ref b_17, .ref b_18, .ref b_19, .ref b_20, .ref b_21, .ref b_22, .ref b_23, .ref b_24])), (b_17, .inl (tc 0, 10, .inl (fun _ => 0))), (b_18, .inl (tc 0, 10, .inl (fun _ => 0))), (b_19, .inl (tc 0, 6, .inl (fun _ => 0))), (b_20, .inl (tc 0, 6, .inl (fun _ => 0))), (b_21, .inl (tc 0, 6, .inl (fun _ => 0))), (b_22, .inl (tc 0, 6, .inl (fun _ => 0))), (b_23, .inl (tc 0, 6, .inl (fun _ => 0))), (b_24, .inl (tc 0, 6, .inl (fun _ => 0))), (q_25, .inr (3, [.ref b_29, .ref b_30, .ref b_31, .int 0])), (b_29, .inl (tc 0, 10, .inl (fun _ => 0))), (b_30, .inl (tc 0, 10, .inl (fun _ => 0))), (b_31, .inl (tc 0, 10, .inl (fun _ => 0)))] H := hP
  have hD : va_D A [(h0, .inr (8, [.ref q_1, .ref q_13, .ref q_25, .int (-1), .int 0])), (q_1, .inr (9, [.int 0, .int 0, .int 0, .int 0, .int 0, .int 0, .ref b_5, .ref b_6, .ref b_7, .ref b_8, .ref b_9, .ref b_10, .ref b_11, .ref b_12])), (b_5, .inl (tc 0, 10, .inl (fun _ => 0))), (b_6, .inl (tc 0, 10, .inl (fun _ => 0))), (b_7, .inl (tc 0, 6, .inl (fun _ => 0))), (b_8, .inl (tc 0, 6, .inl (fun _ => 0))), (b_9, .inl (tc 0, 6, .inl (fun _ => 0))), (b_10, .inl (tc 0, 6, .inl (fun _ => 0))), (b_11, .inl (tc 0, 6, .inl (fun _ => 0))), (b_12, .inl (tc 0, 6, .inl (fun _ => 0))), (q_13, .inr (9, [.int 0, .int 0, .int 0, .int 0, .int 0, .int 0, .ref b_17, .ref b_18, .ref b_19, .ref b_20, .ref b_21, .ref b_22, .ref b_23, .ref b_24])), (b_17, .inl (tc 0, 10, .inl (fun _ => 0))), (b_18, .inl (tc 0, 10, .inl (fun _ => 0))), (b_19, .inl (tc 0, 6, .inl (fun _ => 0))), (b_20, .inl (tc 0, 6, .inl (fun _ => 0))), (b_21, .inl (tc 0, 6, .inl (fun _ => 0))), (b_22, .inl (tc 0, 6, .inl (fun _ => 0))), (b_23, .inl (tc 0, 6, .inl (fun _ => 0))), (b_24, .inl (tc 0, 6, .inl (fun _ => 0))), (q_25, .inr (3, [.ref b_29, .ref b_30, .ref b_31, .int 0])), (b_29, .inl (tc 0, 10, .inl (fun _ => 0))), (b_30, .inl (tc 0, 10, .inl (fun _ => 0))), (b_31, .inl (tc 0, 10, .inl (fun _ => 0)))] := hD
  refine lv_aload_n hx hb dX8_init_42 rfl (lv_at hl 0 rfl) ?_
  refine lv_iconst (v := 0) hx hb dX8_init_43 (by decide) ?_
  refine pf_X8_32 hx hb hts hown hK hP hD hS 0 rfl (Nat.le_of_ble_eq_true rfl) rfl rfl dX8_init_44 (fun H locs hP hD hS => ?_)
  have hP : va_P D classes [(h0, .inr (8, [.ref q_1, .ref q_13, .ref q_25, .int (-1), .int 0])), (q_1, .inr (9, [.int 0, .int 0, .int 0, .int 0, .int 0, .int 0, .ref b_5, .ref b_6, .ref b_7, .ref b_8, .ref b_9, .ref b_10, .ref b_11, .ref b_12])), (b_5, .inl (tc 0, 10, .inl (fun _ => 0))), (b_6, .inl (tc 0, 10, .inl (fun _ => 0))), (b_7, .inl (tc 0, 6, .inl (fun _ => 0))), (b_8, .inl (tc 0, 6, .inl (fun _ => 0))), (b_9, .inl (tc 0, 6, .inl (fun _ => 0))), (b_10, .inl (tc 0, 6, .inl (fun _ => 0))), (b_11, .inl (tc 0, 6, .inl (fun _ => 0))), (b_12, .inl (tc 0, 6, .inl (fun _ => 0))), (q_13, .inr (9, [.int 0, .int 0, .int 0, .int 0, .int 0, .int 0, .ref b_17, .ref b_18, .ref b_19, .ref b_20, .ref b_21, .ref b_22, .ref b_23, .ref b_24])), (b_17, .inl (tc 0, 10, .inl (fun _ => 0))), (b_18, .inl (tc 0, 10, .inl (fun _ => 0))), (b_19, .inl (tc 0, 6, .inl (fun _ => 0))), (b_20, .inl (tc 0, 6, .inl (fun _ => 0))), (b_21, .inl (tc 0, 6, .inl (fun _ => 0))), (b_22, .inl (tc 0, 6, .inl (fun _ => 0))), (b_23, .inl (tc 0, 6, .inl (fun _ => 0))), (b_24, .inl (tc 0, 6, .inl (fun _ => 0))), (q_25, .inr (3, [.ref b_29, .ref b_30, .ref b_31, .int 0])), (b_29, .inl (tc 0, 10, .inl (fun _ => 0))), (b_30, .inl (tc 0, 10, .inl (fun _ => 0))), (b_31, .inl (tc 0, 10, .inl (fun _ => 0)))] H := hP
  have hD : va_D A [(h0, .inr (8, [.ref q_1, .ref q_13, .ref q_25, .int (-1), .int 0])), (q_1, .inr (9, [.int 0, .int 0, .int 0, .int 0, .int 0, .int 0, .ref b_5, .ref b_6, .ref b_7, .ref b_8, .ref b_9, .ref b_10, .ref b_11, .ref b_12])), (b_5, .inl (tc 0, 10, .inl (fun _ => 0))), (b_6, .inl (tc 0, 10, .inl (fun _ => 0))), (b_7, .inl (tc 0, 6, .inl (fun _ => 0))), (b_8, .inl (tc 0, 6, .inl (fun _ => 0))), (b_9, .inl (tc 0, 6, .inl (fun _ => 0))), (b_10, .inl (tc 0, 6, .inl (fun _ => 0))), (b_11, .inl (tc 0, 6, .inl (fun _ => 0))), (b_12, .inl (tc 0, 6, .inl (fun _ => 0))), (q_13, .inr (9, [.int 0, .int 0, .int 0, .int 0, .int 0, .int 0, .ref b_17, .ref b_18, .ref b_19, .ref b_20, .ref b_21, .ref b_22, .ref b_23, .ref b_24])), (b_17, .inl (tc 0, 10, .inl (fun _ => 0))), (b_18, .inl (tc 0, 10, .inl (fun _ => 0))), (b_19, .inl (tc 0, 6, .inl (fun _ => 0))), (b_20, .inl (tc 0, 6, .inl (fun _ => 0))), (b_21, .inl (tc 0, 6, .inl (fun _ => 0))), (b_22, .inl (tc 0, 6, .inl (fun _ => 0))), (b_23, .inl (tc 0, 6, .inl (fun _ => 0))), (b_24, .inl (tc 0, 6, .inl (fun _ => 0))), (q_25, .inr (3, [.ref b_29, .ref b_30, .ref b_31, .int 0])), (b_29, .inl (tc 0, 10, .inl (fun _ => 0))), (b_30, .inl (tc 0, 10, .inl (fun _ => 0))), (b_31, .inl (tc 0, 10, .inl (fun _ => 0)))] := hD
  exact retV hx hb hr hlk hP hD hS (q_1, b_5, b_6, b_7, b_8, b_9, b_10, b_11, b_12, q_13, b_17, b_18, b_19, b_20, b_21, b_22, b_23, b_24, q_25, b_29, b_30, b_31) rfl [0, 1, 2, 3, 4, 5, 6, 7, 8, 9, 10, 11, 12, 13, 14, 15, 16, 17, 18, 19, 20, 21, 22] rfl rfl dX8_init_47 (Nat.le_of_ble_eq_true rfl) (Nat.le_of_ble_eq_true rfl) rfl
set_option maxHeartbeats 4000000 in
set_option maxRecDepth 100000 in
theorem ct_X5_init (l : Launch) (D : va_G) (tc : Nat → ClassId) (sk : (Nat → Nat) × (Nat → Nat)) (h0 : Nat)  : Ct l yX5_init cX5_init 1 none { frames := 1, cells := 1, slots := 20, locals := 12 } D tc sk [.ref h0] [(h0, .inr (5, [.null, .int 0, .int 0]))] (fun (v : Option Value) (b1 : Nat) => v = none) (fun (b1 : Nat) => [(h0, .inr (5, [.ref b1, .int 0, .int 0])), (b1, .inl (tc 5, 20, .inr (.inr (.inr (.inr (fun _ => none))))))]) 1 20 := by
  refine Ct.start (by decide) (Nat.le_of_ble_eq_true rfl) (fun p e s m below meth c A ls hx hb hr hlk hin hml hown hts hK hX hP hD hA hl hS => ?_)
  have hl : lv_has ls 1 [(0, .ref h0)] := hl
  refine lv_aload_n hx hb dX5_init_0 rfl (lv_at hl 0 rfl) ?_
  refine W.objInit hx hb hown (hts _ k_330) (hts _ k_122) (hts _ k_123) rfl (by rw [hml]; exact hl.1) rfl dX5_init_1 (Nat.le_of_ble_eq_true rfl) (Nat.le_of_ble_eq_true rfl) ?_
  refine W.eq (g2 := F0 m 4 ls []) rfl ?_
  refine lv_aload_n hx hb dX5_init_4 rfl (lv_at hl 0 rfl) ?_
  refine lv_bipush (v := 20) hx hb dX5_init_5 (by decide) ?_
  refine nwQ (N' := 20) hx hb hown (hts _ k_331) hX (by decide) hK hP hD hS hA 5 rfl (by decide) (by decide) (by decide) (Nat.le_of_ble_eq_true rfl) (Nat.le_of_ble_eq_true rfl) dX5_init_7 (fun q_1 H hP hD hS => ?_)
  have hP : va_P D classes [(h0, .inr (5, [.null, .int 0, .int 0])), (q_1, .inl (tc 5, 20, .inr (.inr (.inr (.inr (fun _ => none))))))] H := hP
  have hD : va_D A [(h0, .inr (5, [.null, .int 0, .int 0])), (q_1, .inl (tc 5, 20, .inr (.inr (.inr (.inr (fun _ => none))))))] := hD
  refine pf_X5_13 (ty := (.array (.object "PoisonBook$Shop"))) hx hb hts hown hin hK hP hD hS 0 rfl (Nat.le_of_ble_eq_true rfl) (by decide +kernel) rfl rfl dX5_init_10 (fun H locs hP hD hS => ?_)
  have hP : va_P D classes [(h0, .inr (5, [.ref q_1, .int 0, .int 0])), (q_1, .inl (tc 5, 20, .inr (.inr (.inr (.inr (fun _ => none))))))] H := hP
  have hD : va_D A [(h0, .inr (5, [.ref q_1, .int 0, .int 0])), (q_1, .inl (tc 5, 20, .inr (.inr (.inr (.inr (fun _ => none))))))] := hD
  refine lv_aload_n hx hb dX5_init_13 rfl (lv_at hl 0 rfl) ?_
  refine lv_iconst (v := 0) hx hb dX5_init_14 (by decide) ?_
  refine pf_X5_17 hx hb hts hown hK hP hD hS 0 rfl (Nat.le_of_ble_eq_true rfl) rfl rfl dX5_init_15 (fun H locs hP hD hS => ?_)
  have hP : va_P D classes [(h0, .inr (5, [.ref q_1, .int 0, .int 0])), (q_1, .inl (tc 5, 20, .inr (.inr (.inr (.inr (fun _ => none))))))] H := hP
  have hD : va_D A [(h0, .inr (5, [.ref q_1, .int 0, .int 0])), (q_1, .inl (tc 5, 20, .inr (.inr (.inr (.inr (fun _ => none))))))] := hD
  refine lv_aload_n hx hb dX5_init_18 rfl (lv_at hl 0 rfl) ?_
  refine lv_iconst (v := 0) hx hb dX5_init_19 (by decide) ?_
  refine pf_X5_21 hx hb hts hown hK hP hD hS 0 rfl (Nat.le_of_ble_eq_true rfl) rfl rfl dX5_init_20 (fun H locs hP hD hS => ?_)
  have hP : va_P D classes [(h0, .inr (5, [.ref q_1, .int 0, .int 0])), (q_1, .inl (tc 5, 20, .inr (.inr (.inr (.inr (fun _ => none))))))] H := hP
  have hD : va_D A [(h0, .inr (5, [.ref q_1, .int 0, .int 0])), (q_1, .inl (tc 5, 20, .inr (.inr (.inr (.inr (fun _ => none))))))] := hD
  exact retV hx hb hr hlk hP hD hS q_1 rfl [0, 1] rfl rfl dX5_init_23 (Nat.le_of_ble_eq_true rfl) (Nat.le_of_ble_eq_true rfl) rfl
set_option maxHeartbeats 4000000 in
set_option maxRecDepth 100000 in
theorem ct_X4_init (l : Launch) (D : va_G) (tc : Nat → ClassId) (sk : (Nat → Nat) × (Nat → Nat)) (h0 : Nat)  : Ct l yX4_init cX4_init 1 none { frames := 2, cells := 10, slots := 131, locals := 32 } D tc sk [.ref h0] [(h0, .inr (4, [.null, .null, .long 0]))] (fun (v : Option Value) (u : (Nat) × (Nat) × (Nat) × (Nat) × (Nat) × (Nat) × (Nat) × (Nat) × (Nat) × (Nat)) => match u with | (b0, b1, b2, b3, b4, b5, b6, b7, b8, d1) => v = none) (fun (u : (Nat) × (Nat) × (Nat) × (Nat) × (Nat) × (Nat) × (Nat) × (Nat) × (Nat) × (Nat)) => match u with | (b0, b1, b2, b3, b4, b5, b6, b7, b8, d1) => [(h0, .inr (4, [.ref b0, .ref d1, .long 0])), (b0, .inr (9, [.int 0, .int 0, .int 0, .int 0, .int 0, .int 0, .ref b1, .ref b2, .ref b3, .ref b4, .ref b5, .ref b6, .ref b7, .ref b8])), (b1, .inl (tc 0, 10, .inl (fun _ => 0))), (b2, .inl (tc 0, 10, .inl (fun _ => 0))), (b3, .inl (tc 0, 6, .inl (fun _ => 0))), (b4, .inl (tc 0, 6, .inl (fun _ => 0))), (b5, .inl (tc 0, 6, .inl (fun _ => 0))), (b6, .inl (tc 0, 6, .inl (fun _ => 0))), (b7, .inl (tc 0, 6, .inl (fun _ => 0))), (b8, .inl (tc 0, 6, .inl (fun _ => 0))), (d1, .inl (tc 1, 61, .inr (.inl (fun _ => 0))))]) 10 131 := by
  refine Ct.start (by decide) (Nat.le_of_ble_eq_true rfl) (fun p e s m below meth c A ls hx hb hr hlk hin hml hown hts hK hX hP hD hA hl hS => ?_)
  have hl : lv_has ls 1 [(0, .ref h0)] := hl
  refine lv_aload_n hx hb dX4_init_0 rfl (lv_at hl 0 rfl) ?_
  refine W.objInit hx hb hown (hts _ k_350) (hts _ k_122) (hts _ k_123) rfl (by rw [hml]; exact hl.1) rfl dX4_init_1 (Nat.le_of_ble_eq_true rfl) (Nat.le_of_ble_eq_true rfl) ?_
  refine W.eq (g2 := F0 m 4 ls []) rfl ?_
  refine lv_aload_n hx hb dX4_init_4 rfl (lv_at hl 0 rfl) ?_
  refine va_new (ci := 9) (fs := [.int 0, .int 0, .int 0, .int 0, .int 0, .int 0, .null, .null, .null, .null, .null, .null, .null, .null]) (C := RX9) (T := TX9) (N := 14) hx hb hts iX9 tyX9 tyX9_ok hown (hts _ k_351) (hts _ k_164) (hts _ k_98) hK hP hD hS hA rfl dfX9 (Nat.le_of_ble_eq_true rfl) (Nat.le_of_ble_eq_true rfl) dX4_init_5 (fun q_1 H hP hD hS => ?_)
  have hP : va_P D classes [(h0, .inr (4, [.null, .null, .long 0])), (q_1, .inr (9, [.int 0, .int 0, .int 0, .int 0, .int 0, .int 0, .null, .null, .null, .null, .null, .null, .null, .null]))] H := hP
  have hD : va_D A [(h0, .inr (4, [.null, .null, .long 0])), (q_1, .inr (9, [.int 0, .int 0, .int 0, .int 0, .int 0, .int 0, .null, .null, .null, .null, .null, .null, .null, .null]))] := hD
  refine lv_dup hx hb dX4_init_8 rfl ?_
  refine cN (a := q_1) (As := []) (rest := [.ref q_1, .ref h0]) (wr := [(h0, .inr (4, [.null, .null, .long 0]))]) ⟨hx, hb, hml, hown, hts⟩ hK hX hA (ct_X9_init l D tc sk q_1) k_167 (by decide) k_166 k_98 rfl pl_X9_init ⟨Nat.le_of_ble_eq_true rfl, Nat.le_of_ble_eq_true rfl⟩ rfl rfl  hP hD hS [1] [0] rfl rfl rfl rfl rfl (by decide) rfl hl.1 rfl (Nat.le_of_ble_eq_true rfl) dX4_init_9 ⟨Nat.le_of_ble_eq_true rfl, Nat.le_of_ble_eq_true rfl⟩ (fun v_2 u_3 H locs hv_4 hP hD hS => ?_)
  obtain ⟨b_5, b_6, b_7, b_8, b_9, b_10, b_11, b_12⟩ := u_3
  obtain rfl : v_2 = none := hv_4
  refine W.eq (g2 := F0 m 12 ls [.ref q_1, .ref h0]) rfl ?_
  have hP : va_P D classes [(h0, .inr (4, [.null, .null, .long 0])), (q_1, .inr (9, [.int 0, .int 0, .int 0, .int 0, .int 0, .int 0, .ref b_5, .ref b_6, .ref b_7, .ref b_8, .ref b_9, .ref b_10, .ref b_11, .ref b_12])), (b_5, .inl (tc 0, 10, .inl (fun _ => 0))), (b_6, .inl (tc 0, 10, .inl (fun _ => 0))), (b_7, .inl (tc 0, 6, .inl (fun _ => 0))), (b_8, .inl (tc 0, 6, .inl (fun _ => 0))), (b_9, .inl (tc 0, 6, .inl (fun _ => 0))), (b_10, .inl (tc 0, 6, .inl (fun _ => 0))), (b_11, .inl (tc 0, 6, .inl (fun _ => 0))), (b_12, .inl (tc 0, 6, .inl (fun _ => 0)))] H := hP
  have hD : va_D A [(h0, .inr (4, [.null, .null, .long 0])), (q_1, .inr (9, [.int 0, .int 0, .int 0, .int 0, .int 0, .int 0, .ref b_5, .ref b_6, .ref b_7, .ref b_8, .ref b_9, .ref b_10, .ref b_11, .ref b_12])), (b_5, .inl (tc 0, 10, .inl (fun _ => 0))), (b_6, .inl (tc 0, 10, .inl (fun _ => 0))), (b_7, .inl (tc 0, 6, .inl (fun _ => 0))), (b_8, .inl (tc 0, 6, .inl (fun _ => 0))), (b_9, .inl (tc 0, 6, .inl (fun _ => 0))), (b_10, .inl (tc 0, 6, .inl (fun _ => 0))), (b_11, .inl (tc 0, 6, .inl (fun _ => 0))), (b_12, .inl (tc 0, 6, .inl (fun _ => 0)))] := hD
  refine pf_X4_12 (ty := (.object "PoisonBook$Shop")) hx hb hts hown hin hK hP hD hS 0 rfl (Nat.le_of_ble_eq_true rfl) (by decide +kernel) rfl rfl dX4_init_12 (fun H locs hP hD hS => ?_)
  have hP : va_P D classes [(h0, .inr (4, [.ref q_1, .null, .long 0])), (q_1, .inr (9, [.int 0, .int 0, .int 0, .int 0, .int 0, .int 0, .ref b_5, .ref b_6, .ref b_7, .ref b_8, .ref b_9, .ref b_10, .ref b_11, .ref b_12])), (b_5, .inl (tc 0, 10, .inl (fun _ => 0))), (b_6, .inl (tc 0, 10, .inl (fun _ => 0))), (b_7, .inl (tc 0, 6, .inl (fun _ => 0))), (b_8, .inl (tc 0, 6, .inl (fun _ => 0))), (b_9, .inl (tc 0, 6, .inl (fun _ => 0))), (b_10, .inl (tc 0, 6, .inl (fun _ => 0))), (b_11, .inl (tc 0, 6, .inl (fun _ => 0))), (b_12, .inl (tc 0, 6, .inl (fun _ => 0)))] H := hP
  have hD : va_D A [(h0, .inr (4, [.ref q_1, .null, .long 0])), (q_1, .inr (9, [.int 0, .int 0, .int 0, .int 0, .int 0, .int 0, .ref b_5, .ref b_6, .ref b_7, .ref b_8, .ref b_9, .ref b_10, .ref b_11, .ref b_12])), (b_5, .inl (tc 0, 10, .inl (fun _ => 0))), (b_6, .inl (tc 0, 10, .inl (fun _ => 0))), (b_7, .inl (tc 0, 6, .inl (fun _ => 0))), (b_8, .inl (tc 0, 6, .inl (fun _ => 0))), (b_9, .inl (tc 0, 6, .inl (fun _ => 0))), (b_10, .inl (tc 0, 6, .inl (fun _ => 0))), (b_11, .inl (tc 0, 6, .inl (fun _ => 0))), (b_12, .inl (tc 0, 6, .inl (fun _ => 0)))] := hD
  refine lv_aload_n hx hb dX4_init_15 rfl (lv_at hl 0 rfl) ?_
  refine lv_bipush (v := 61) hx hb dX4_init_16 (by decide) ?_
  refine nwA (atype := .long) (a0 := (61, .inr (.inl (fun _ => 0)))) hx hb (hts _ k_364) rfl hK hP hD hS hA 1 rfl (fun _ => rfl) (by decide) (by decide) (by decide) (Nat.le_of_ble_eq_true rfl) (Nat.le_of_ble_eq_true rfl) dX4_init_18 (fun q_13 H hP hD hS => ?_)
  have hP : va_P D classes [(h0, .inr (4, [.ref q_1, .null, .long 0])), (q_1, .inr (9, [.int 0, .int 0, .int 0, .int 0, .int 0, .int 0, .ref b_5, .ref b_6, .ref b_7, .ref b_8, .ref b_9, .ref b_10, .ref b_11, .ref b_12])), (b_5, .inl (tc 0, 10, .inl (fun _ => 0))), (b_6, .inl (tc 0, 10, .inl (fun _ => 0))), (b_7, .inl (tc 0, 6, .inl (fun _ => 0))), (b_8, .inl (tc 0, 6, .inl (fun _ => 0))), (b_9, .inl (tc 0, 6, .inl (fun _ => 0))), (b_10, .inl (tc 0, 6, .inl (fun _ => 0))), (b_11, .inl (tc 0, 6, .inl (fun _ => 0))), (b_12, .inl (tc 0, 6, .inl (fun _ => 0))), (q_13, .inl (tc 1, 61, .inr (.inl (fun _ => 0))))] H := hP
  have hD : va_D A [(h0, .inr (4, [.ref q_1, .null, .long 0])), (q_1, .inr (9, [.int 0, .int 0, .int 0, .int 0, .int 0, .int 0, .ref b_5, .ref b_6, .ref b_7, .ref b_8, .ref b_9, .ref b_10, .ref b_11, .ref b_12])), (b_5, .inl (tc 0, 10, .inl (fun _ => 0))), (b_6, .inl (tc 0, 10, .inl (fun _ => 0))), (b_7, .inl (tc 0, 6, .inl (fun _ => 0))), (b_8, .inl (tc 0, 6, .inl (fun _ => 0))), (b_9, .inl (tc 0, 6, .inl (fun _ => 0))), (b_10, .inl (tc 0, 6, .inl (fun _ => 0))), (b_11, .inl (tc 0, 6, .inl (fun _ => 0))), (b_12, .inl (tc 0, 6, .inl (fun _ => 0))), (q_13, .inl (tc 1, 61, .inr (.inl (fun _ => 0))))] := hD
  refine pf_X4_18 (ty := (.array .long)) hx hb hts hown hin hK hP hD hS 0 rfl (Nat.le_of_ble_eq_true rfl) (by decide +kernel) rfl rfl dX4_init_20 (fun H locs hP hD hS => ?_)
  have hP : va_P D classes [(h0, .inr (4, [.ref q_1, .ref q_13, .long 0])), (q_1, .inr (9, [.int 0, .int 0, .int 0, .int 0, .int 0, .int 0, .ref b_5, .ref b_6, .ref b_7, .ref b_8, .ref b_9, .ref b_10, .ref b_11, .ref b_12])), (b_5, .inl (tc 0, 10, .inl (fun _ => 0))), (b_6, .inl (tc 0, 10, .inl (fun _ => 0))), (b_7, .inl (tc 0, 6, .inl (fun _ => 0))), (b_8, .inl (tc 0, 6, .inl (fun _ => 0))), (b_9, .inl (tc 0, 6, .inl (fun _ => 0))), (b_10, .inl (tc 0, 6, .inl (fun _ => 0))), (b_11, .inl (tc 0, 6, .inl (fun _ => 0))), (b_12, .inl (tc 0, 6, .inl (fun _ => 0))), (q_13, .inl (tc 1, 61, .inr (.inl (fun _ => 0))))] H := hP
  have hD : va_D A [(h0, .inr (4, [.ref q_1, .ref q_13, .long 0])), (q_1, .inr (9, [.int 0, .int 0, .int 0, .int 0, .int 0, .int 0, .ref b_5, .ref b_6, .ref b_7, .ref b_8, .ref b_9, .ref b_10, .ref b_11, .ref b_12])), (b_5, .inl (tc 0, 10, .inl (fun _ => 0))), (b_6, .inl (tc 0, 10, .inl (fun _ => 0))), (b_7, .inl (tc 0, 6, .inl (fun _ => 0))), (b_8, .inl (tc 0, 6, .inl (fun _ => 0))), (b_9, .inl (tc 0, 6, .inl (fun _ => 0))), (b_10, .inl (tc 0, 6, .inl (fun _ => 0))), (b_11, .inl (tc 0, 6, .inl (fun _ => 0))), (b_12, .inl (tc 0, 6, .inl (fun _ => 0))), (q_13, .inl (tc 1, 61, .inr (.inl (fun _ => 0))))] := hD
  refine lv_aload_n hx hb dX4_init_23 rfl (lv_at hl 0 rfl) ?_
  refine lv_lconst (v := 0) hx hb dX4_init_24 (by decide) ?_
  refine pf_X4_22 hx hb hts hown hK hP hD hS 0 rfl (Nat.le_of_ble_eq_true rfl) rfl rfl dX4_init_25 (fun H locs hP hD hS => ?_)
  have hP : va_P D classes [(h0, .inr (4, [.ref q_1, .ref q_13, .long 0])), (q_1, .inr (9, [.int 0, .int 0, .int 0, .int 0, .int 0, .int 0, .ref b_5, .ref b_6, .ref b_7, .ref b_8, .ref b_9, .ref b_10, .ref b_11, .ref b_12])), (b_5, .inl (tc 0, 10, .inl (fun _ => 0))), (b_6, .inl (tc 0, 10, .inl (fun _ => 0))), (b_7, .inl (tc 0, 6, .inl (fun _ => 0))), (b_8, .inl (tc 0, 6, .inl (fun _ => 0))), (b_9, .inl (tc 0, 6, .inl (fun _ => 0))), (b_10, .inl (tc 0, 6, .inl (fun _ => 0))), (b_11, .inl (tc 0, 6, .inl (fun _ => 0))), (b_12, .inl (tc 0, 6, .inl (fun _ => 0))), (q_13, .inl (tc 1, 61, .inr (.inl (fun _ => 0))))] H := hP
  have hD : va_D A [(h0, .inr (4, [.ref q_1, .ref q_13, .long 0])), (q_1, .inr (9, [.int 0, .int 0, .int 0, .int 0, .int 0, .int 0, .ref b_5, .ref b_6, .ref b_7, .ref b_8, .ref b_9, .ref b_10, .ref b_11, .ref b_12])), (b_5, .inl (tc 0, 10, .inl (fun _ => 0))), (b_6, .inl (tc 0, 10, .inl (fun _ => 0))), (b_7, .inl (tc 0, 6, .inl (fun _ => 0))), (b_8, .inl (tc 0, 6, .inl (fun _ => 0))), (b_9, .inl (tc 0, 6, .inl (fun _ => 0))), (b_10, .inl (tc 0, 6, .inl (fun _ => 0))), (b_11, .inl (tc 0, 6, .inl (fun _ => 0))), (b_12, .inl (tc 0, 6, .inl (fun _ => 0))), (q_13, .inl (tc 1, 61, .inr (.inl (fun _ => 0))))] := hD
  exact retV hx hb hr hlk hP hD hS (q_1, b_5, b_6, b_7, b_8, b_9, b_10, b_11, b_12, q_13) rfl [0, 1, 2, 3, 4, 5, 6, 7, 8, 9, 10] rfl rfl dX4_init_28 (Nat.le_of_ble_eq_true rfl) (Nat.le_of_ble_eq_true rfl) rfl
set_option maxHeartbeats 4000000 in
set_option maxRecDepth 100000 in
theorem ct_X1_init (l : Launch) (D : va_G) (tc : Nat → ClassId) (sk : (Nat → Nat) × (Nat → Nat)) (h0 : Nat)  : Ct l yX1_init cX1_init 1 none { frames := 2, cells := 11, slots := 120, locals := 32 } D tc sk [.ref h0] [(h0, .inr (1, [.null, .null, .null]))] (fun (v : Option Value) (u : (Nat) × (Nat) × (Nat) × (Nat) × (Nat) × (Nat) × (Nat) × (Nat) × (Nat) × (Nat) × (Nat)) => match u with | (b0, b1, b2, b3, b4, b5, b6, b7, b8, d1, d2) => v = none) (fun (u : (Nat) × (Nat) × (Nat) × (Nat) × (Nat) × (Nat) × (Nat) × (Nat) × (Nat) × (Nat) × (Nat)) => match u with | (b0, b1, b2, b3, b4, b5, b6, b7, b8, d1, d2) => [(h0, .inr (1, [.ref b0, .ref d1, .ref d2])), (b0, .inr (9, [.int 0, .int 0, .int 0, .int 0, .int 0, .int 0, .ref b1, .ref b2, .ref b3, .ref b4, .ref b5, .ref b6, .ref b7, .ref b8])), (b1, .inl (tc 0, 10, .inl (fun _ => 0))), (b2, .inl (tc 0, 10, .inl (fun _ => 0))), (b3, .inl (tc 0, 6, .inl (fun _ => 0))), (b4, .inl (tc 0, 6, .inl (fun _ => 0))), (b5, .inl (tc 0, 6, .inl (fun _ => 0))), (b6, .inl (tc 0, 6, .inl (fun _ => 0))), (b7, .inl (tc 0, 6, .inl (fun _ => 0))), (b8, .inl (tc 0, 6, .inl (fun _ => 0))), (d1, .inl (tc 0, 25, .inl (fun _ => 0))), (d2, .inl (tc 0, 25, .inl (fun _ => 0)))]) 11 120 := by
  refine Ct.start (by decide) (Nat.le_of_ble_eq_true rfl) (fun p e s m below meth c A ls hx hb hr hlk hin hml hown hts hK hX hP hD hA hl hS => ?_)
  have hl : lv_has ls 1 [(0, .ref h0)] := hl
  refine lv_aload_n hx hb dX1_init_0 rfl (lv_at hl 0 rfl) ?_
  refine W.objInit hx hb hown (hts _ k_370) (hts _ k_122) (hts _ k_123) rfl (by rw [hml]; exact hl.1) rfl dX1_init_1 (Nat.le_of_ble_eq_true rfl) (Nat.le_of_ble_eq_true rfl) ?_
  refine W.eq (g2 := F0 m 4 ls []) rfl ?_
  refine lv_aload_n hx hb dX1_init_4 rfl (lv_at hl 0 rfl) ?_
  refine va_new (ci := 9) (fs := [.int 0, .int 0, .int 0, .int 0, .int 0, .int 0, .null, .null, .null, .null, .null, .null, .null, .null]) (C := RX9) (T := TX9) (N := 14) hx hb hts iX9 tyX9 tyX9_ok hown (hts _ k_371) (hts _ k_164) (hts _ k_98) hK hP hD hS hA rfl dfX9 (Nat.le_of_ble_eq_true rfl) (Nat.le_of_ble_eq_true rfl) dX1_init_5 (fun q_1 H hP hD hS => ?_)
  have hP : va_P D classes [(h0, .inr (1, [.null, .null, .null])), (q_1, .inr (9, [.int 0, .int 0, .int 0, .int 0, .int 0, .int 0, .null, .null, .null, .null, .null, .null, .null, .null]))] H := hP
  have hD : va_D A [(h0, .inr (1, [.null, .null, .null])), (q_1, .inr (9, [.int 0, .int 0, .int 0, .int 0, .int 0, .int 0, .null, .null, .null, .null, .null, .null, .null, .null]))] := hD
  refine lv_dup hx hb dX1_init_8 rfl ?_
  refine cN (a := q_1) (As := []) (rest := [.ref q_1, .ref h0]) (wr := [(h0, .inr (1, [.null, .null, .null]))]) ⟨hx, hb, hml, hown, hts⟩ hK hX hA (ct_X9_init l D tc sk q_1) k_167 (by decide) k_166 k_98 rfl pl_X9_init ⟨Nat.le_of_ble_eq_true rfl, Nat.le_of_ble_eq_true rfl⟩ rfl rfl  hP hD hS [1] [0] rfl rfl rfl rfl rfl (by decide) rfl hl.1 rfl (Nat.le_of_ble_eq_true rfl) dX1_init_9 ⟨Nat.le_of_ble_eq_true rfl, Nat.le_of_ble_eq_true rfl⟩ (fun v_2 u_3 H locs hv_4 hP hD hS => ?_)
  obtain ⟨b_5, b_6, b_7, b_8, b_9, b_10, b_11, b_12⟩ := u_3
  obtain rfl : v_2 = none := hv_4
  refine W.eq (g2 := F0 m 12 ls [.ref q_1, .ref h0]) rfl ?_
  have hP : va_P D classes [(h0, .inr (1, [.null, .null, .null])), (q_1, .inr (9, [.int 0, .int 0, .int 0, .int 0, .int 0, .int 0, .ref b_5, .ref b_6, .ref b_7, .ref b_8, .ref b_9, .ref b_10, .ref b_11, .ref b_12])), (b_5, .inl (tc 0, 10, .inl (fun _ => 0))), (b_6, .inl (tc 0, 10, .inl (fun _ => 0))), (b_7, .inl (tc 0, 6, .inl (fun _ => 0))), (b_8, .inl (tc 0, 6, .inl (fun _ => 0))), (b_9, .inl (tc 0, 6, .inl (fun _ => 0))), (b_10, .inl (tc 0, 6, .inl (fun _ => 0))), (b_11, .inl (tc 0, 6, .inl (fun _ => 0))), (b_12, .inl (tc 0, 6, .inl (fun _ => 0)))] H := hP
  have hD : va_D A [(h0, .inr (1, [.null, .null, .null])), (q_1, .inr (9, [.int 0, .int 0, .int 0, .int 0, .int 0, .int 0, .ref b_5, .ref b_6, .ref b_7, .ref b_8, .ref b_9, .ref b_10, .ref b_11, .ref b_12])), (b_5, .inl (tc 0, 10, .inl (fun _ => 0))), (b_6, .inl (tc 0, 10, .inl (fun _ => 0))), (b_7, .inl (tc 0, 6, .inl (fun _ => 0))), (b_8, .inl (tc 0, 6, .inl (fun _ => 0))), (b_9, .inl (tc 0, 6, .inl (fun _ => 0))), (b_10, .inl (tc 0, 6, .inl (fun _ => 0))), (b_11, .inl (tc 0, 6, .inl (fun _ => 0))), (b_12, .inl (tc 0, 6, .inl (fun _ => 0)))] := hD
  refine pf_X1_12 (ty := (.object "PoisonBook$Shop")) hx hb hts hown hin hK hP hD hS 0 rfl (Nat.le_of_ble_eq_true rfl) (by decide +kernel) rfl rfl dX1_init_12 (fun H locs hP hD hS => ?_)
  have hP : va_P D classes [(h0, .inr (1, [.ref q_1, .null, .null])), (q_1, .inr (9, [.int 0, .int 0, .int 0, .int 0, .int 0, .int 0, .ref b_5, .ref b_6, .ref b_7, .ref b_8, .ref b_9, .ref b_10, .ref b_11, .ref b_12])), (b_5, .inl (tc 0, 10, .inl (fun _ => 0))), (b_6, .inl (tc 0, 10, .inl (fun _ => 0))), (b_7, .inl (tc 0, 6, .inl (fun _ => 0))), (b_8, .inl (tc 0, 6, .inl (fun _ => 0))), (b_9, .inl (tc 0, 6, .inl (fun _ => 0))), (b_10, .inl (tc 0, 6, .inl (fun _ => 0))), (b_11, .inl (tc 0, 6, .inl (fun _ => 0))), (b_12, .inl (tc 0, 6, .inl (fun _ => 0)))] H := hP
  have hD : va_D A [(h0, .inr (1, [.ref q_1, .null, .null])), (q_1, .inr (9, [.int 0, .int 0, .int 0, .int 0, .int 0, .int 0, .ref b_5, .ref b_6, .ref b_7, .ref b_8, .ref b_9, .ref b_10, .ref b_11, .ref b_12])), (b_5, .inl (tc 0, 10, .inl (fun _ => 0))), (b_6, .inl (tc 0, 10, .inl (fun _ => 0))), (b_7, .inl (tc 0, 6, .inl (fun _ => 0))), (b_8, .inl (tc 0, 6, .inl (fun _ => 0))), (b_9, .inl (tc 0, 6, .inl (fun _ => 0))), (b_10, .inl (tc 0, 6, .inl (fun _ => 0))), (b_11, .inl (tc 0, 6, .inl (fun _ => 0))), (b_12, .inl (tc 0, 6, .inl (fun _ => 0)))] := hD
  refine lv_aload_n hx hb dX1_init_15 rfl (lv_at hl 0 rfl) ?_
  refine lv_bipush (v := 25) hx hb dX1_init_16 (by decide) ?_
  refine nwA (atype := .int) (a0 := (25, .inl (fun _ => 0))) hx hb (hts _ k_156) rfl hK hP hD hS hA 0 rfl (fun _ => rfl) (by decide) (by decide) (by decide) (Nat.le_of_ble_eq_true rfl) (Nat.le_of_ble_eq_true rfl) dX1_init_18 (fun q_13 H hP hD hS => ?_)
  have hP : va_P D classes [(h0, .inr (1, [.ref q_1, .null, .null])), (q_1, .inr (9, [.int 0, .int 0, .int 0, .int 0, .int 0, .int 0, .ref b_5, .ref b_6, .ref b_7, .ref b_8, .ref b_9, .ref b_10, .ref b_11, .ref b_12])), (b_5, .inl (tc 0, 10, .inl (fun _ => 0))), (b_6, .inl (tc 0, 10, .inl (fun _ => 0))), (b_7, .inl (tc 0, 6, .inl (fun _ => 0))), (b_8, .inl (tc 0, 6, .inl (fun _ => 0))), (b_9, .inl (tc 0, 6, .inl (fun _ => 0))), (b_10, .inl (tc 0, 6, .inl (fun _ => 0))), (b_11, .inl (tc 0, 6, .inl (fun _ => 0))), (b_12, .inl (tc 0, 6, .inl (fun _ => 0))), (q_13, .inl (tc 0, 25, .inl (fun _ => 0)))] H := hP
  have hD : va_D A [(h0, .inr (1, [.ref q_1, .null, .null])), (q_1, .inr (9, [.int 0, .int 0, .int 0, .int 0, .int 0, .int 0, .ref b_5, .ref b_6, .ref b_7, .ref b_8, .ref b_9, .ref b_10, .ref b_11, .ref b_12])), (b_5, .inl (tc 0, 10, .inl (fun _ => 0))), (b_6, .inl (tc 0, 10, .inl (fun _ => 0))), (b_7, .inl (tc 0, 6, .inl (fun _ => 0))), (b_8, .inl (tc 0, 6, .inl (fun _ => 0))), (b_9, .inl (tc 0, 6, .inl (fun _ => 0))), (b_10, .inl (tc 0, 6, .inl (fun _ => 0))), (b_11, .inl (tc 0, 6, .inl (fun _ => 0))), (b_12, .inl (tc 0, 6, .inl (fun _ => 0))), (q_13, .inl (tc 0, 25, .inl (fun _ => 0)))] := hD
  refine pf_X1_18 (ty := (.array .int)) hx hb hts hown hin hK hP hD hS 0 rfl (Nat.le_of_ble_eq_true rfl) (by decide +kernel) rfl rfl dX1_init_20 (fun H locs hP hD hS => ?_)
  have hP : va_P D classes [(h0, .inr (1, [.ref q_1, .ref q_13, .null])), (q_1, .inr (9, [.int 0, .int 0, .int 0, .int 0, .int 0, .int 0, .ref b_5, .ref b_6, .ref b_7, .ref b_8, .ref b_9, .ref b_10, .ref b_11, .ref b_12])), (b_5, .inl (tc 0, 10, .inl (fun _ => 0))), (b_6, .inl (tc 0, 10, .inl (fun _ => 0))), (b_7, .inl (tc 0, 6, .inl (fun _ => 0))), (b_8, .inl (tc 0, 6, .inl (fun _ => 0))), (b_9, .inl (tc 0, 6, .inl (fun _ => 0))), (b_10, .inl (tc 0, 6, .inl (fun _ => 0))), (b_11, .inl (tc 0, 6, .inl (fun _ => 0))), (b_12, .inl (tc 0, 6, .inl (fun _ => 0))), (q_13, .inl (tc 0, 25, .inl (fun _ => 0)))] H := hP
  have hD : va_D A [(h0, .inr (1, [.ref q_1, .ref q_13, .null])), (q_1, .inr (9, [.int 0, .int 0, .int 0, .int 0, .int 0, .int 0, .ref b_5, .ref b_6, .ref b_7, .ref b_8, .ref b_9, .ref b_10, .ref b_11, .ref b_12])), (b_5, .inl (tc 0, 10, .inl (fun _ => 0))), (b_6, .inl (tc 0, 10, .inl (fun _ => 0))), (b_7, .inl (tc 0, 6, .inl (fun _ => 0))), (b_8, .inl (tc 0, 6, .inl (fun _ => 0))), (b_9, .inl (tc 0, 6, .inl (fun _ => 0))), (b_10, .inl (tc 0, 6, .inl (fun _ => 0))), (b_11, .inl (tc 0, 6, .inl (fun _ => 0))), (b_12, .inl (tc 0, 6, .inl (fun _ => 0))), (q_13, .inl (tc 0, 25, .inl (fun _ => 0)))] := hD
  refine lv_aload_n hx hb dX1_init_23 rfl (lv_at hl 0 rfl) ?_
  refine lv_bipush (v := 25) hx hb dX1_init_24 (by decide) ?_
  refine nwA (atype := .int) (a0 := (25, .inl (fun _ => 0))) hx hb (hts _ k_156) rfl hK hP hD hS hA 0 rfl (fun _ => rfl) (by decide) (by decide) (by decide) (Nat.le_of_ble_eq_true rfl) (Nat.le_of_ble_eq_true rfl) dX1_init_26 (fun q_14 H hP hD hS => ?_)
  have hP : va_P D classes [(h0, .inr (1, [.ref q_1, .ref q_13, .null])), (q_1, .inr (9, [.int 0, .int 0, .int 0, .int 0, .int 0, .int 0, .ref b_5, .ref b_6, .ref b_7, .ref b_8, .ref b_9, .ref b_10, .ref b_11, .ref b_12])), (b_5, .inl (tc 0, 10, .inl (fun _ => 0))), (b_6, .inl (tc 0, 10, .inl (fun _ => 0))), (b_7, .inl (tc 0, 6, .inl (fun _ => 0))), (b_8, .inl (tc 0, 6, .inl (fun _ => 0))), (b_9, .inl (tc 0, 6, .inl (fun _ => 0))), (b_10, .inl (tc 0, 6, .inl (fun _ => 0))), (b_11, .inl (tc 0, 6, .inl (fun _ => 0))), (b_12, .inl (tc 0, 6, .inl (fun _ => 0))), (q_13, .inl (tc 0, 25, .inl (fun _ => 0))), (q_14, .inl (tc 0, 25, .inl (fun _ => 0)))] H := hP
  have hD : va_D A [(h0, .inr (1, [.ref q_1, .ref q_13, .null])), (q_1, .inr (9, [.int 0, .int 0, .int 0, .int 0, .int 0, .int 0, .ref b_5, .ref b_6, .ref b_7, .ref b_8, .ref b_9, .ref b_10, .ref b_11, .ref b_12])), (b_5, .inl (tc 0, 10, .inl (fun _ => 0))), (b_6, .inl (tc 0, 10, .inl (fun _ => 0))), (b_7, .inl (tc 0, 6, .inl (fun _ => 0))), (b_8, .inl (tc 0, 6, .inl (fun _ => 0))), (b_9, .inl (tc 0, 6, .inl (fun _ => 0))), (b_10, .inl (tc 0, 6, .inl (fun _ => 0))), (b_11, .inl (tc 0, 6, .inl (fun _ => 0))), (b_12, .inl (tc 0, 6, .inl (fun _ => 0))), (q_13, .inl (tc 0, 25, .inl (fun _ => 0))), (q_14, .inl (tc 0, 25, .inl (fun _ => 0)))] := hD
  refine pf_X1_22 (ty := (.array .int)) hx hb hts hown hin hK hP hD hS 0 rfl (Nat.le_of_ble_eq_true rfl) (by decide +kernel) rfl rfl dX1_init_28 (fun H locs hP hD hS => ?_)
  have hP : va_P D classes [(h0, .inr (1, [.ref q_1, .ref q_13, .ref q_14])), (q_1, .inr (9, [.int 0, .int 0, .int 0, .int 0, .int 0, .int 0, .ref b_5, .ref b_6, .ref b_7, .ref b_8, .ref b_9, .ref b_10, .ref b_11, .ref b_12])), (b_5, .inl (tc 0, 10, .inl (fun _ => 0))), (b_6, .inl (tc 0, 10, .inl (fun _ => 0))), (b_7, .inl (tc 0, 6, .inl (fun _ => 0))), (b_8, .inl (tc 0, 6, .inl (fun _ => 0))), (b_9, .inl (tc 0, 6, .inl (fun _ => 0))), (b_10, .inl (tc 0, 6, .inl (fun _ => 0))), (b_11, .inl (tc 0, 6, .inl (fun _ => 0))), (b_12, .inl (tc 0, 6, .inl (fun _ => 0))), (q_13, .inl (tc 0, 25, .inl (fun _ => 0))), (q_14, .inl (tc 0, 25, .inl (fun _ => 0)))] H := hP
  have hD : va_D A [(h0, .inr (1, [.ref q_1, .ref q_13, .ref q_14])), (q_1, .inr (9, [.int 0, .int 0, .int 0, .int 0, .int 0, .int 0, .ref b_5, .ref b_6, .ref b_7, .ref b_8, .ref b_9, .ref b_10, .ref b_11, .ref b_12])), (b_5, .inl (tc 0, 10, .inl (fun _ => 0))), (b_6, .inl (tc 0, 10, .inl (fun _ => 0))), (b_7, .inl (tc 0, 6, .inl (fun _ => 0))), (b_8, .inl (tc 0, 6, .inl (fun _ => 0))), (b_9, .inl (tc 0, 6, .inl (fun _ => 0))), (b_10, .inl (tc 0, 6, .inl (fun _ => 0))), (b_11, .inl (tc 0, 6, .inl (fun _ => 0))), (b_12, .inl (tc 0, 6, .inl (fun _ => 0))), (q_13, .inl (tc 0, 25, .inl (fun _ => 0))), (q_14, .inl (tc 0, 25, .inl (fun _ => 0)))] := hD
  exact retV hx hb hr hlk hP hD hS (q_1, b_5, b_6, b_7, b_8, b_9, b_10, b_11, b_12, q_13, q_14) rfl [0, 1, 2, 3, 4, 5, 6, 7, 8, 9, 10, 11] rfl rfl dX1_init_31 (Nat.le_of_ble_eq_true rfl) (Nat.le_of_ble_eq_true rfl) rfl
set_option maxHeartbeats 4000000 in
set_option maxRecDepth 100000 in
theorem ct_X2_init (l : Launch) (D : va_G) (tc : Nat → ClassId) (sk : (Nat → Nat) × (Nat → Nat)) (h0 : Nat)  : Ct l yX2_init cX2_init 1 none { frames := 2, cells := 11, slots := 504, locals := 32 } D tc sk [.ref h0] [(h0, .inr (2, [.null, .null, .null, .int 0]))] (fun (v : Option Value) (u : (Nat) × (Nat) × (Nat) × (Nat) × (Nat) × (Nat) × (Nat) × (Nat) × (Nat) × (Nat) × (Nat)) => match u with | (b0, b1, b2, b3, b4, b5, b6, b7, b8, d1, d2) => v = none) (fun (u : (Nat) × (Nat) × (Nat) × (Nat) × (Nat) × (Nat) × (Nat) × (Nat) × (Nat) × (Nat) × (Nat)) => match u with | (b0, b1, b2, b3, b4, b5, b6, b7, b8, d1, d2) => [(h0, .inr (2, [.ref b0, .ref d1, .ref d2, .int 0])), (b0, .inr (9, [.int 0, .int 0, .int 0, .int 0, .int 0, .int 0, .ref b1, .ref b2, .ref b3, .ref b4, .ref b5, .ref b6, .ref b7, .ref b8])), (b1, .inl (tc 0, 10, .inl (fun _ => 0))), (b2, .inl (tc 0, 10, .inl (fun _ => 0))), (b3, .inl (tc 0, 6, .inl (fun _ => 0))), (b4, .inl (tc 0, 6, .inl (fun _ => 0))), (b5, .inl (tc 0, 6, .inl (fun _ => 0))), (b6, .inl (tc 0, 6, .inl (fun _ => 0))), (b7, .inl (tc 0, 6, .inl (fun _ => 0))), (b8, .inl (tc 0, 6, .inl (fun _ => 0))), (d1, .inl (tc 0, 427, .inl (fun _ => 0))), (d2, .inl (tc 3, 7, .inl (fun _ => 0)))]) 11 504 := by
  refine Ct.start (by decide) (Nat.le_of_ble_eq_true rfl) (fun p e s m below meth c A ls hx hb hr hlk hin hml hown hts hK hX hP hD hA hl hS => ?_)
  have hl : lv_has ls 1 [(0, .ref h0)] := hl
  refine lv_aload_n hx hb dX2_init_0 rfl (lv_at hl 0 rfl) ?_
  refine W.objInit hx hb hown (hts _ k_388) (hts _ k_122) (hts _ k_123) rfl (by rw [hml]; exact hl.1) rfl dX2_init_1 (Nat.le_of_ble_eq_true rfl) (Nat.le_of_ble_eq_true rfl) ?_
  refine W.eq (g2 := F0 m 4 ls []) rfl ?_
  refine lv_aload_n hx hb dX2_init_4 rfl (lv_at hl 0 rfl) ?_
  refine va_new (ci := 9) (fs := [.int 0, .int 0, .int 0, .int 0, .int 0, .int 0, .null, .null, .null, .null, .null, .null, .null, .null]) (C := RX9) (T := TX9) (N := 14) hx hb hts iX9 tyX9 tyX9_ok hown (hts _ k_389) (hts _ k_164) (hts _ k_98) hK hP hD hS hA rfl dfX9 (Nat.le_of_ble_eq_true rfl) (Nat.le_of_ble_eq_true rfl) dX2_init_5 (fun q_1 H hP hD hS => ?_)
  have hP : va_P D classes [(h0, .inr (2, [.null, .null, .null, .int 0])), (q_1, .inr (9, [.int 0, .int 0, .int 0, .int 0, .int 0, .int 0, .null, .null, .null, .null, .null, .null, .null, .null]))] H := hP
  have hD : va_D A [(h0, .inr (2, [.null, .null, .null, .int 0])), (q_1, .inr (9, [.int 0, .int 0, .int 0, .int 0, .int 0, .int 0, .null, .null, .null, .null, .null, .null, .null, .null]))] := hD
  refine lv_dup hx hb dX2_init_8 rfl ?_
  refine cN (a := q_1) (As := []) (rest := [.ref q_1, .ref h0]) (wr := [(h0, .inr (2, [.null, .null, .null, .int 0]))]) ⟨hx, hb, hml, hown, hts⟩ hK hX hA (ct_X9_init l D tc sk q_1) k_167 (by decide) k_166 k_98 rfl pl_X9_init ⟨Nat.le_of_ble_eq_true rfl, Nat.le_of_ble_eq_true rfl⟩ rfl rfl  hP hD hS [1] [0] rfl rfl rfl rfl rfl (by decide) rfl hl.1 rfl (Nat.le_of_ble_eq_true rfl) dX2_init_9 ⟨Nat.le_of_ble_eq_true rfl, Nat.le_of_ble_eq_true rfl⟩ (fun v_2 u_3 H locs hv_4 hP hD hS => ?_)
  obtain ⟨b_5, b_6, b_7, b_8, b_9, b_10, b_11, b_12⟩ := u_3
  obtain rfl : v_2 = none := hv_4
  refine W.eq (g2 := F0 m 12 ls [.ref q_1, .ref h0]) rfl ?_
  have hP : va_P D classes [(h0, .inr (2, [.null, .null, .null, .int 0])), (q_1, .inr (9, [.int 0, .int 0, .int 0, .int 0, .int 0, .int 0, .ref b_5, .ref b_6, .ref b_7, .ref b_8, .ref b_9, .ref b_10, .ref b_11, .ref b_12])), (b_5, .inl (tc 0, 10, .inl (fun _ => 0))), (b_6, .inl (tc 0, 10, .inl (fun _ => 0))), (b_7, .inl (tc 0, 6, .inl (fun _ => 0))), (b_8, .inl (tc 0, 6, .inl (fun _ => 0))), (b_9, .inl (tc 0, 6, .inl (fun _ => 0))), (b_10, .inl (tc 0, 6, .inl (fun _ => 0))), (b_11, .inl (tc 0, 6, .inl (fun _ => 0))), (b_12, .inl (tc 0, 6, .inl (fun _ => 0)))] H := hP
  have hD : va_D A [(h0, .inr (2, [.null, .null, .null, .int 0])), (q_1, .inr (9, [.int 0, .int 0, .int 0, .int 0, .int 0, .int 0, .ref b_5, .ref b_6, .ref b_7, .ref b_8, .ref b_9, .ref b_10, .ref b_11, .ref b_12])), (b_5, .inl (tc 0, 10, .inl (fun _ => 0))), (b_6, .inl (tc 0, 10, .inl (fun _ => 0))), (b_7, .inl (tc 0, 6, .inl (fun _ => 0))), (b_8, .inl (tc 0, 6, .inl (fun _ => 0))), (b_9, .inl (tc 0, 6, .inl (fun _ => 0))), (b_10, .inl (tc 0, 6, .inl (fun _ => 0))), (b_11, .inl (tc 0, 6, .inl (fun _ => 0))), (b_12, .inl (tc 0, 6, .inl (fun _ => 0)))] := hD
  refine pf_X2_14 (ty := (.object "PoisonBook$Shop")) hx hb hts hown hin hK hP hD hS 0 rfl (Nat.le_of_ble_eq_true rfl) (by decide +kernel) rfl rfl dX2_init_12 (fun H locs hP hD hS => ?_)
  have hP : va_P D classes [(h0, .inr (2, [.ref q_1, .null, .null, .int 0])), (q_1, .inr (9, [.int 0, .int 0, .int 0, .int 0, .int 0, .int 0, .ref b_5, .ref b_6, .ref b_7, .ref b_8, .ref b_9, .ref b_10, .ref b_11, .ref b_12])), (b_5, .inl (tc 0, 10, .inl (fun _ => 0))), (b_6, .inl (tc 0, 10, .inl (fun _ => 0))), (b_7, .inl (tc 0, 6, .inl (fun _ => 0))), (b_8, .inl (tc 0, 6, .inl (fun _ => 0))), (b_9, .inl (tc 0, 6, .inl (fun _ => 0))), (b_10, .inl (tc 0, 6, .inl (fun _ => 0))), (b_11, .inl (tc 0, 6, .inl (fun _ => 0))), (b_12, .inl (tc 0, 6, .inl (fun _ => 0)))] H := hP
  have hD : va_D A [(h0, .inr (2, [.ref q_1, .null, .null, .int 0])), (q_1, .inr (9, [.int 0, .int 0, .int 0, .int 0, .int 0, .int 0, .ref b_5, .ref b_6, .ref b_7, .ref b_8, .ref b_9, .ref b_10, .ref b_11, .ref b_12])), (b_5, .inl (tc 0, 10, .inl (fun _ => 0))), (b_6, .inl (tc 0, 10, .inl (fun _ => 0))), (b_7, .inl (tc 0, 6, .inl (fun _ => 0))), (b_8, .inl (tc 0, 6, .inl (fun _ => 0))), (b_9, .inl (tc 0, 6, .inl (fun _ => 0))), (b_10, .inl (tc 0, 6, .inl (fun _ => 0))), (b_11, .inl (tc 0, 6, .inl (fun _ => 0))), (b_12, .inl (tc 0, 6, .inl (fun _ => 0)))] := hD
  refine lv_aload_n hx hb dX2_init_15 rfl (lv_at hl 0 rfl) ?_
  refine lv_sipush (v := 427) hx hb dX2_init_16 (by decide) ?_
  refine nwA (atype := .int) (a0 := (427, .inl (fun _ => 0))) hx hb (hts _ k_156) rfl hK hP hD hS hA 0 rfl (fun _ => rfl) (by decide) (by decide) (by decide) (Nat.le_of_ble_eq_true rfl) (Nat.le_of_ble_eq_true rfl) dX2_init_19 (fun q_13 H hP hD hS => ?_)
  have hP : va_P D classes [(h0, .inr (2, [.ref q_1, .null, .null, .int 0])), (q_1, .inr (9, [.int 0, .int 0, .int 0, .int 0, .int 0, .int 0, .ref b_5, .ref b_6, .ref b_7, .ref b_8, .ref b_9, .ref b_10, .ref b_11, .ref b_12])), (b_5, .inl (tc 0, 10, .inl (fun _ => 0))), (b_6, .inl (tc 0, 10, .inl (fun _ => 0))), (b_7, .inl (tc 0, 6, .inl (fun _ => 0))), (b_8, .inl (tc 0, 6, .inl (fun _ => 0))), (b_9, .inl (tc 0, 6, .inl (fun _ => 0))), (b_10, .inl (tc 0, 6, .inl (fun _ => 0))), (b_11, .inl (tc 0, 6, .inl (fun _ => 0))), (b_12, .inl (tc 0, 6, .inl (fun _ => 0))), (q_13, .inl (tc 0, 427, .inl (fun _ => 0)))] H := hP
  have hD : va_D A [(h0, .inr (2, [.ref q_1, .null, .null, .int 0])), (q_1, .inr (9, [.int 0, .int 0, .int 0, .int 0, .int 0, .int 0, .ref b_5, .ref b_6, .ref b_7, .ref b_8, .ref b_9, .ref b_10, .ref b_11, .ref b_12])), (b_5, .inl (tc 0, 10, .inl (fun _ => 0))), (b_6, .inl (tc 0, 10, .inl (fun _ => 0))), (b_7, .inl (tc 0, 6, .inl (fun _ => 0))), (b_8, .inl (tc 0, 6, .inl (fun _ => 0))), (b_9, .inl (tc 0, 6, .inl (fun _ => 0))), (b_10, .inl (tc 0, 6, .inl (fun _ => 0))), (b_11, .inl (tc 0, 6, .inl (fun _ => 0))), (b_12, .inl (tc 0, 6, .inl (fun _ => 0))), (q_13, .inl (tc 0, 427, .inl (fun _ => 0)))] := hD
  refine pf_X2_18 (ty := (.array .int)) hx hb hts hown hin hK hP hD hS 0 rfl (Nat.le_of_ble_eq_true rfl) (by decide +kernel) rfl rfl dX2_init_21 (fun H locs hP hD hS => ?_)
  have hP : va_P D classes [(h0, .inr (2, [.ref q_1, .ref q_13, .null, .int 0])), (q_1, .inr (9, [.int 0, .int 0, .int 0, .int 0, .int 0, .int 0, .ref b_5, .ref b_6, .ref b_7, .ref b_8, .ref b_9, .ref b_10, .ref b_11, .ref b_12])), (b_5, .inl (tc 0, 10, .inl (fun _ => 0))), (b_6, .inl (tc 0, 10, .inl (fun _ => 0))), (b_7, .inl (tc 0, 6, .inl (fun _ => 0))), (b_8, .inl (tc 0, 6, .inl (fun _ => 0))), (b_9, .inl (tc 0, 6, .inl (fun _ => 0))), (b_10, .inl (tc 0, 6, .inl (fun _ => 0))), (b_11, .inl (tc 0, 6, .inl (fun _ => 0))), (b_12, .inl (tc 0, 6, .inl (fun _ => 0))), (q_13, .inl (tc 0, 427, .inl (fun _ => 0)))] H := hP
  have hD : va_D A [(h0, .inr (2, [.ref q_1, .ref q_13, .null, .int 0])), (q_1, .inr (9, [.int 0, .int 0, .int 0, .int 0, .int 0, .int 0, .ref b_5, .ref b_6, .ref b_7, .ref b_8, .ref b_9, .ref b_10, .ref b_11, .ref b_12])), (b_5, .inl (tc 0, 10, .inl (fun _ => 0))), (b_6, .inl (tc 0, 10, .inl (fun _ => 0))), (b_7, .inl (tc 0, 6, .inl (fun _ => 0))), (b_8, .inl (tc 0, 6, .inl (fun _ => 0))), (b_9, .inl (tc 0, 6, .inl (fun _ => 0))), (b_10, .inl (tc 0, 6, .inl (fun _ => 0))), (b_11, .inl (tc 0, 6, .inl (fun _ => 0))), (b_12, .inl (tc 0, 6, .inl (fun _ => 0))), (q_13, .inl (tc 0, 427, .inl (fun _ => 0)))] := hD
  refine lv_aload_n hx hb dX2_init_24 rfl (lv_at hl 0 rfl) ?_
  refine lv_bipush (v := 7) hx hb dX2_init_25 (by decide) ?_
  refine nwA (atype := .boolean) (a0 := (7, .inl (fun _ => 0))) hx hb (hts _ k_405) rfl hK hP hD hS hA 3 rfl (fun _ => rfl) (by decide) (by decide) (by decide) (Nat.le_of_ble_eq_true rfl) (Nat.le_of_ble_eq_true rfl) dX2_init_27 (fun q_14 H hP hD hS => ?_)
  have hP : va_P D classes [(h0, .inr (2, [.ref q_1, .ref q_13, .null, .int 0])), (q_1, .inr (9, [.int 0, .int 0, .int 0, .int 0, .int 0, .int 0, .ref b_5, .ref b_6, .ref b_7, .ref b_8, .ref b_9, .ref b_10, .ref b_11, .ref b_12])), (b_5, .inl (tc 0, 10, .inl (fun _ => 0))), (b_6, .inl (tc 0, 10, .inl (fun _ => 0))), (b_7, .inl (tc 0, 6, .inl (fun _ => 0))), (b_8, .inl (tc 0, 6, .inl (fun _ => 0))), (b_9, .inl (tc 0, 6, .inl (fun _ => 0))), (b_10, .inl (tc 0, 6, .inl (fun _ => 0))), (b_11, .inl (tc 0, 6, .inl (fun _ => 0))), (b_12, .inl (tc 0, 6, .inl (fun _ => 0))), (q_13, .inl (tc 0, 427, .inl (fun _ => 0))), (q_14, .inl (tc 3, 7, .inl (fun _ => 0)))] H := hP
  have hD : va_D A [(h0, .inr (2, [.ref q_1, .ref q_13, .null, .int 0])), (q_1, .inr (9, [.int 0, .int 0, .int 0, .int 0, .int 0, .int 0, .ref b_5, .ref b_6, .ref b_7, .ref b_8, .ref b_9, .ref b_10, .ref b_11, .ref b_12])), (b_5, .inl (tc 0, 10, .inl (fun _ => 0))), (b_6, .inl (tc 0, 10, .inl (fun _ => 0))), (b_7, .inl (tc 0, 6, .inl (fun _ => 0))), (b_8, .inl (tc 0, 6, .inl (fun _ => 0))), (b_9, .inl (tc 0, 6, .inl (fun _ => 0))), (b_10, .inl (tc 0, 6, .inl (fun _ => 0))), (b_11, .inl (tc 0, 6, .inl (fun _ => 0))), (b_12, .inl (tc 0, 6, .inl (fun _ => 0))), (q_13, .inl (tc 0, 427, .inl (fun _ => 0))), (q_14, .inl (tc 3, 7, .inl (fun _ => 0)))] := hD
  refine pf_X2_22 (ty := (.array .boolean)) hx hb hts hown hin hK hP hD hS 0 rfl (Nat.le_of_ble_eq_true rfl) (by decide +kernel) rfl rfl dX2_init_29 (fun H locs hP hD hS => ?_)
  have hP : va_P D classes [(h0, .inr (2, [.ref q_1, .ref q_13, .ref q_14, .int 0])), (q_1, .inr (9, [.int 0, .int 0, .int 0, .int 0, .int 0, .int 0, .ref b_5, .ref b_6, .ref b_7, .ref b_8, .ref b_9, .ref b_10, .ref b_11, .ref b_12])), (b_5, .inl (tc 0, 10, .inl (fun _ => 0))), (b_6, .inl (tc 0, 10, .inl (fun _ => 0))), (b_7, .inl (tc 0, 6, .inl (fun _ => 0))), (b_8, .inl (tc 0, 6, .inl (fun _ => 0))), (b_9, .inl (tc 0, 6, .inl (fun _ => 0))), (b_10, .inl (tc 0, 6, .inl (fun _ => 0))), (b_11, .inl (tc 0, 6, .inl (fun _ => 0))), (b_12, .inl (tc 0, 6, .inl (fun _ => 0))), (q_13, .inl (tc 0, 427, .inl (fun _ => 0))), (q_14, .inl (tc 3, 7, .inl (fun _ => 0)))] H := hP
  have hD : va_D A [(h0, .inr (2, [.ref q_1, .ref q_13, .ref q_14, .int 0])), (q_1, .inr (9, [.int 0, .int 0, .int 0, .int 0, .int 0, .int 0, .ref b_5, .ref b_6, .ref b_7, .ref b_8, .ref b_9, .ref b_10, .ref b_11, .ref b_12])), (b_5, .inl (tc 0, 10, .inl (fun _ => 0))), (b_6, .inl (tc 0, 10, .inl (fun _ => 0))), (b_7, .inl (tc 0, 6, .inl (fun _ => 0))), (b_8, .inl (tc 0, 6, .inl (fun _ => 0))), (b_9, .inl (tc 0, 6, .inl (fun _ => 0))), (b_10, .inl (tc 0, 6, .inl (fun _ => 0))), (b_11, .inl (tc 0, 6, .inl (fun _ => 0))), (b_12, .inl (tc 0, 6, .inl (fun _ => 0))), (q_13, .inl (tc 0, 427, .inl (fun _ => 0))), (q_14, .inl (tc 3, 7, .inl (fun _ => 0)))] := hD
  refine lv_aload_n hx hb dX2_init_32 rfl (lv_at hl 0 rfl) ?_
  refine lv_iconst (v := 0) hx hb dX2_init_33 (by decide) ?_
  refine pf_X2_26 hx hb hts hown hK hP hD hS 0 rfl (Nat.le_of_ble_eq_true rfl) rfl rfl dX2_init_34 (fun H locs hP hD hS => ?_)
  have hP : va_P D classes [(h0, .inr (2, [.ref q_1, .ref q_13, .ref q_14, .int 0])), (q_1, .inr (9, [.int 0, .int 0, .int 0, .int 0, .int 0, .int 0, .ref b_5, .ref b_6, .ref b_7, .ref b_8, .ref b_9, .ref b_10, .ref b_11, .ref b_12])), (b_5, .inl (tc 0, 10, .inl (fun _ => 0))), (b_6, .inl (tc 0, 10, .inl (fun _ => 0))), (b_7, .inl (tc 0, 6, .inl (fun _ => 0))), (b_8, .inl (tc 0, 6, .inl (fun _ => 0))), (b_9, .inl (tc 0, 6, .inl (fun _ => 0))), (b_10, .inl (tc 0, 6, .inl (fun _ => 0))), (b_11, .inl (tc 0, 6, .inl (fun _ => 0))), (b_12, .inl (tc 0, 6, .inl (fun _ => 0))), (q_13, .inl (tc 0, 427, .inl (fun _ => 0))), (q_14, .inl (tc 3, 7, .inl (fun _ => 0)))] H := hP
  have hD : va_D A [(h0, .inr (2, [.ref q_1, .ref q_13, .ref q_14, .int 0])), (q_1, .inr (9, [.int 0, .int 0, .int 0, .int 0, .int 0, .int 0, .ref b_5, .ref b_6, .ref b_7, .ref b_8, .ref b_9, .ref b_10, .ref b_11, .ref b_12])), (b_5, .inl (tc 0, 10, .inl (fun _ => 0))), (b_6, .inl (tc 0, 10, .inl (fun _ => 0))), (b_7, .inl (tc 0, 6, .inl (fun _ => 0))), (b_8, .inl (tc 0, 6, .inl (fun _ => 0))), (b_9, .inl (tc 0, 6, .inl (fun _ => 0))), (b_10, .inl (tc 0, 6, .inl (fun _ => 0))), (b_11, .inl (tc 0, 6, .inl (fun _ => 0))), (b_12, .inl (tc 0, 6, .inl (fun _ => 0))), (q_13, .inl (tc 0, 427, .inl (fun _ => 0))), (q_14, .inl (tc 3, 7, .inl (fun _ => 0)))] := hD
  exact retV hx hb hr hlk hP hD hS (q_1, b_5, b_6, b_7, b_8, b_9, b_10, b_11, b_12, q_13, q_14) rfl [0, 1, 2, 3, 4, 5, 6, 7, 8, 9, 10, 11] rfl rfl dX2_init_37 (Nat.le_of_ble_eq_true rfl) (Nat.le_of_ble_eq_true rfl) rfl
set_option maxHeartbeats 4000000 in
set_option maxRecDepth 100000 in
theorem ct_X6_init (l : Launch) (D : va_G) (tc : Nat → ClassId) (sk : (Nat → Nat) × (Nat → Nat)) (h0 : Nat) (cc1 : Nat)  : Ct l yX6_init cX6_init 2 none { frames := 1, cells := 1, slots := 64, locals := 12 } D tc sk [.ref h0, .ref cc1] [(h0, .inr (6, [.null, .null]))] (fun (v : Option Value) (b1 : Nat) => v = none) (fun (b1 : Nat) => [(h0, .inr (6, [.ref cc1, .ref b1])), (b1, .inl (tc 1, 64, .inr (.inl (fun _ => 0))))]) 1 64 := by
  refine Ct.start (by decide) (Nat.le_of_ble_eq_true rfl) (fun p e s m below meth c A ls hx hb hr hlk hin hml hown hts hK hX hP hD hA hl hS => ?_)
  have hl : lv_has ls 2 [(0, .ref h0), (1, .ref cc1)] := hl
  refine lv_aload_n hx hb dX6_init_0 rfl (lv_at hl 0 rfl) ?_
  refine W.objInit hx hb hown (hts _ k_686) (hts _ k_122) (hts _ k_123) rfl (by rw [hml]; exact hl.1) rfl dX6_init_1 (Nat.le_of_ble_eq_true rfl) (Nat.le_of_ble_eq_true rfl) ?_
  refine W.eq (g2 := F0 m 4 ls []) rfl ?_
  refine lv_aload_n hx hb dX6_init_4 rfl (lv_at hl 0 rfl) ?_
  refine lv_bipush (v := 64) hx hb dX6_init_5 (by decide) ?_
  refine nwA (atype := .long) (a0 := (64, .inr (.inl (fun _ => 0)))) hx hb (hts _ k_364) rfl hK hP hD hS hA 1 rfl (fun _ => rfl) (by decide) (by decide) (by decide) (Nat.le_of_ble_eq_true rfl) (Nat.le_of_ble_eq_true rfl) dX6_init_7 (fun q_1 H hP hD hS => ?_)
  have hP : va_P D classes [(h0, .inr (6, [.null, .null])), (q_1, .inl (tc 1, 64, .inr (.inl (fun _ => 0))))] H := hP
  have hD : va_D A [(h0, .inr (6, [.null, .null])), (q_1, .inl (tc 1, 64, .inr (.inl (fun _ => 0))))] := hD
  refine pf_X6_9 (ty := (.array .long)) hx hb hts hown hin hK hP hD hS 0 rfl (Nat.le_of_ble_eq_true rfl) (by decide +kernel) rfl rfl dX6_init_9 (fun H locs hP hD hS => ?_)
  have hP : va_P D classes [(h0, .inr (6, [.null, .ref q_1])), (q_1, .inl (tc 1, 64, .inr (.inl (fun _ => 0))))] H := hP
  have hD : va_D A [(h0, .inr (6, [.null, .ref q_1])), (q_1, .inl (tc 1, 64, .inr (.inl (fun _ => 0))))] := hD
  refine lv_aload_n hx hb dX6_init_12 rfl (lv_at hl 0 rfl) ?_
  refine lv_aload_n hx hb dX6_init_13 rfl (lv_at hl 1 rfl) ?_
  refine pf_X6_13 (ty := (.array .int)) hx hb hts hown hin hK hP hD hS 0 rfl (Nat.le_of_ble_eq_true rfl) (by decide +kernel) rfl rfl dX6_init_14 (fun H locs hP hD hS => ?_)
  have hP : va_P D classes [(h0, .inr (6, [.ref cc1, .ref q_1])), (q_1, .inl (tc 1, 64, .inr (.inl (fun _ => 0))))] H := hP
  have hD : va_D A [(h0, .inr (6, [.ref cc1, .ref q_1])), (q_1, .inl (tc 1, 64, .inr (.inl (fun _ => 0))))] := hD
  exact retV hx hb hr hlk hP hD hS q_1 rfl [0, 1] rfl rfl dX6_init_17 (Nat.le_of_ble_eq_true rfl) (Nat.le_of_ble_eq_true rfl) rfl
set_option maxHeartbeats 4000000 in
set_option maxRecDepth 100000 in
theorem ct_J7_copyOf (l : Launch) (D : va_G) (tc : Nat → ClassId) (sk : (Nat → Nat) × (Nat → Nat)) (Ca : Nat → Nat) (Cf : Nat → Nat → Int32) (x1 : Int32) (h_x : 0 ≤ x1.toInt ∧ x1.toInt ≤ 400) : Ct l yJ7_copyOf_59c91 cJ7_copyOf_59c91 3 (some (.array .int)) { frames := 1, cells := 1, slots := 400, locals := 40 } D tc sk [.ref (Ca 0), .int x1] [((Ca 0), .inl (tc 0, 400, .inl (Cf 0)))] (fun (v : Option Value) (u : (Nat) × (Nat → Int32) × (Nat)) => match u with | (na0x0, oo0x1, nn0x1) => v = some (.ref na0x0) ∧ (nn0x1 ≤ 400)) (fun (u : (Nat) × (Nat → Int32) × (Nat)) => match u with | (na0x0, oo0x1, nn0x1) => [((Ca 0), .inl (tc 0, 400, .inl (Cf 0))), (na0x0, .inl (tc 0, nn0x1, .inl oo0x1))]) 1 400 := by
  refine Ct.start (by decide) (Nat.le_of_ble_eq_true rfl) (fun p e s m below meth c A ls hx hb hr hlk hin hml hown hts hK hX hP hD hA hl hS => ?_)
  have hl : lv_has ls 3 [(0, .ref (Ca 0)), (1, .int x1)] := hl
  refine lv_iload_n hx hb dJ7_copyOf_59c91_0 rfl (lv_at hl 1 rfl) ?_
  refine lv_aload_n hx hb dJ7_copyOf_59c91_1 rfl (lv_at hl 0 rfl) ?_
  refine va_alen hx hb hK hP 0 0 rfl rfl (v := 400) rfl dJ7_copyOf_59c91_2 ?_
  refine lv_icmp_ne (tgt := 14) hx hb dJ7_copyOf_59c91_3 (by decide) (fun c_1 => ?_) (fun c_1 => ?_)
  · skip
    refine lv_iload_n hx hb dJ7_copyOf_59c91_14 rfl (lv_at hl 1 rfl) ?_
    have hn4 : 0 + x1.toNatClampNeg ≤ 400 := by have := cl400 h_x; omega
    refine nwA (atype := .int) (N' := x1.toNatClampNeg) (a0 := (x1.toNatClampNeg, .inl (fun _ => 0))) hx hb (hts _ k_156) rfl hK hP hD hS hA 0 rfl (fun _ => rfl) (nneg h_x.1) rfl (by show x1.toNatClampNeg * 4 ≤ 536870912; omega) (Nat.le_of_ble_eq_true rfl) hn4 dJ7_copyOf_59c91_15 (fun q_2 H hP hD hS => ?_)
    have hP : va_P D classes [((Ca 0), .inl (tc 0, 400, .inl (Cf 0))), (q_2, .inl (tc 0, x1.toNatClampNeg, .inl (fun _ => 0)))] H := hP
    have hD : va_D A [((Ca 0), .inl (tc 0, 400, .inl (Cf 0))), (q_2, .inl (tc 0, x1.toNatClampNeg, .inl (fun _ => 0)))] := hD
    refine lv_astore_n (lv' := [(2, .ref q_2), (0, .ref (Ca 0)), (1, .int x1)]) hx hb dJ7_copyOf_59c91_17 rfl hl (by decide) rfl (fun ls hl => ?_)
    refine lv_aload_n hx hb dJ7_copyOf_59c91_18 rfl (lv_at hl 1 rfl) ?_
    refine lv_iconst (v := 0) hx hb dJ7_copyOf_59c91_19 (by decide) ?_
    refine lv_aload_n hx hb dJ7_copyOf_59c91_20 rfl (lv_at hl 0 rfl) ?_
    refine lv_iconst (v := 0) hx hb dJ7_copyOf_59c91_21 (by decide) ?_
    refine lv_aload_n hx hb dJ7_copyOf_59c91_22 rfl (lv_at hl 1 rfl) ?_
    refine va_alen hx hb hK hP 0 0 rfl rfl (v := 400) rfl dJ7_copyOf_59c91_23 ?_
    refine lv_iload_n hx hb dJ7_copyOf_59c91_24 rfl (lv_at hl 2 rfl) ?_
    refine va_mmin hx hb (hml.trans hl.1.symm) hown (hts _ k_679) (hts _ k_680) (hts _ k_114) (hts _ k_681) (Nat.le_of_ble_eq_true rfl) (Nat.le_of_ble_eq_true rfl) (Nat.le_of_ble_eq_true rfl) (Nat.le_of_ble_eq_true rfl) dJ7_copyOf_59c91_25 ?_
    refine lv_topi (fun x_3 ex_3 => ?_)
    have mx_3 := imin_f ex_3
    rw [show (400 : Int32).toInt = 400 by decide] at mx_3
    have hn_5 : 0 ≤ x_3.toInt := by omega
    refine cp_int hx hb (hml.trans hl.1.symm) hown (hts _ k_682) (hts _ k_602) (hts _ k_601) (hts _ k_111) hK hP hD hS 0 1 0 0 rfl rfl rfl rfl (by decide) (by decide) (nneg hn_5) (cp4 (by omega)) (cpB (by omega)) (Nat.le_of_ble_eq_true rfl) (Nat.le_of_ble_eq_true rfl) dJ7_copyOf_59c91_28 (fun g_4 H locs eg_4 hP hD hS => ?_)
    have hP : va_P D classes [((Ca 0), .inl (tc 0, 400, .inl (Cf 0))), (q_2, .inl (tc 0, x1.toNatClampNeg, .inl g_4))] H := hP
    have hD : va_D A [((Ca 0), .inl (tc 0, 400, .inl (Cf 0))), (q_2, .inl (tc 0, x1.toNatClampNeg, .inl g_4))] := hD
    refine lv_aload_n hx hb dJ7_copyOf_59c91_31 rfl (lv_at hl 0 rfl) ?_
    have ha_6 : x1.toNatClampNeg ≤ 400 := by
      have z_1 : ¬ (x1 : Int32).toInt = (400 : Int32).toInt := fun z => c_1 (Int32.toInt_inj.mp z)
      have y_400 : (400 : Int32).toInt = 400 := by decide
      omega
    exact retA (v := .ref q_2) hx hb hr hlk (Or.inr ⟨_, rfl⟩) (Or.inr ⟨_, rfl⟩) hP hD hS (q_2, g_4, x1.toNatClampNeg) ⟨rfl, ha_6⟩ [0, 1] rfl rfl dJ7_copyOf_59c91_32 (Nat.le_of_ble_eq_true rfl) hn4 rfl
  · skip
    refine lv_aload_n hx hb dJ7_copyOf_59c91_6 rfl (lv_at hl 0 rfl) ?_
    refine va_clone hx hb (hml.trans hl.1.symm) hown (hts _ k_672) (hts _ k_673) (hts _ k_674) (hts _ k_675) (hts _ k_676) hX.2.2.2.2.2.2 hK hP hD hS hA 0 0 rfl rfl (va_nm_int (hK.2 0 _ rfl).2) (fun i v hv => va_fit (cA := tc 0) (n := 400) (F := fun j => .int ((Cf 0) j)) (ty := .int) (fun i _ => rfl) i v hv) (Nat.le_of_ble_eq_true rfl) (Nat.le_of_ble_eq_true rfl) (Nat.le_of_ble_eq_true rfl) (Nat.le_of_ble_eq_true rfl) dJ7_copyOf_59c91_7 (fun q_7 H _ hP hD hS => ?_)
    have hP : va_P D classes [((Ca 0), .inl (tc 0, 400, .inl (Cf 0))), (q_7, .inl (tc 0, 400, .inl (Cf 0)))] H := hP
    have hD : va_D A [((Ca 0), .inl (tc 0, 400, .inl (Cf 0))), (q_7, .inl (tc 0, 400, .inl (Cf 0)))] := hD
    refine va_castA hx hb hown (hts _ k_678) hP 1 rfl (va_nm_int (hK.2 0 _ rfl).2) dJ7_copyOf_59c91_10 ?_
    have ha_8 : 400 ≤ 400 := by
      have z_1 := congrArg Int32.toInt c_1
      have y_400 : (400 : Int32).toInt = 400 := by decide
      omega
    exact retA (v := .ref q_7) hx hb hr hlk (Or.inr ⟨_, rfl⟩) (Or.inr ⟨_, rfl⟩) hP hD hS (q_7, (Cf 0), 400) ⟨rfl, ha_8⟩ [0, 1] rfl rfl dJ7_copyOf_59c91_13 (Nat.le_of_ble_eq_true rfl) (Nat.le_of_ble_eq_true rfl) rfl
set_option maxHeartbeats 4000000 in
set_option maxRecDepth 100000 in
theorem ct_X7_read (l : Launch) (D : va_G) (tc : Nat → ClassId) (sk : (Nat → Nat) × (Nat → Nat)) (Va : Nat → Nat) (Vv : Nat → Int32) (Vf : Nat → Nat → Int32) (Ta : Nat → Nat) (Tv : Nat → Int32) (Tf : Nat → Nat → Int32) (h_tape : 0 ≤ ((Tv 0) : Int32).toInt ∧ ((Tv 0) : Int32).toInt ≤ 400 ∧ 0 ≤ ((Tv 1) : Int32).toInt ∧ ((Tv 1) : Int32).toInt ≤ 400 ∧ 0 ≤ ((Tv 2) : Int32).toInt ∧ ((Tv 2) : Int32).toInt ≤ 400) : Ct l yX7_read cX7_read 3 (some (.object "PoisonBook$Rule")) { frames := 30, cells := 3, slots := 466, locals := 719 } D tc sk [.ref (Va 0), .ref (Ta 0)] [((Va 0), .inr (7, [.ref (Va 1), .int (Vv 0), .int (Vv 1)])), ((Va 1), .inl (tc 0, 400, .inl (Vf 1))), ((Ta 0), .inr (10, [.ref (Ta 1), .int (Tv 0), .int (Tv 1), .int (Tv 2), .int (Tv 3), .int (Tv 4)])), ((Ta 1), .inl (tc 0, 400, .inl (Tf 1)))] (fun (v : Option Value) (u : (Bool) × (Nat) × (Nat) × (Nat) × (Int32) × (Int32) × (Nat → Int32) × (Int32) × (Int32) × (Int32) × (Int32) × (Nat → Int32) × (Nat) × (Int32) × (Int32) × (Nat → Int32) × (Int32) × (Int32) × (Int32) × (Int32)) => match u with | (true, na0x0, na0x1, na0x2, oo0x1, oo0x2, oo0x3, oo0x4, oo0x5, oo0x6, oo0x7, oo0x8, nn0x5, oo1x1, oo1x2, oo1x3, oo1x4, oo1x5, oo1x6, oo1x7) => v = some (.ref na0x0) ∧ (0 ≤ ((Tv 0) : Int32).toInt ∧ ((Tv 0) : Int32).toInt ≤ 400 ∧ 0 ≤ (oo0x4 : Int32).toInt ∧ (oo0x4 : Int32).toInt ≤ 400 ∧ 0 ≤ (oo0x5 : Int32).toInt ∧ (oo0x5 : Int32).toInt ≤ 400) | (false, na0x0, na0x1, na0x2, oo0x1, oo0x2, oo0x3, oo0x4, oo0x5, oo0x6, oo0x7, oo0x8, nn0x5, oo1x1, oo1x2, oo1x3, oo1x4, oo1x5, oo1x6, oo1x7) => v = some (.null) ∧ (0 ≤ ((Tv 0) : Int32).toInt ∧ ((Tv 0) : Int32).toInt ≤ 400 ∧ 0 ≤ (oo1x4 : Int32).toInt ∧ (oo1x4 : Int32).toInt ≤ 400 ∧ 0 ≤ (oo1x5 : Int32).toInt ∧ (oo1x5 : Int32).toInt ≤ 400)) (fun (u : (Bool) × (Nat) × (Nat) × (Nat) × (Int32) × (Int32) × (Nat → Int32) × (Int32) × (Int32) × (Int32) × (Int32) × (Nat → Int32) × (Nat) × (Int32) × (Int32) × (Nat → Int32) × (Int32) × (Int32) × (Int32) × (Int32)) => match u with | (true, na0x0, na0x1, na0x2, oo0x1, oo0x2, oo0x3, oo0x4, oo0x5, oo0x6, oo0x7, oo0x8, nn0x5, oo1x1, oo1x2, oo1x3, oo1x4, oo1x5, oo1x6, oo1x7) => [((Va 0), .inr (7, [.ref (Va 1), .int oo0x1, .int oo0x2])), ((Va 1), .inl (tc 0, 400, .inl oo0x3)), ((Ta 0), .inr (10, [.ref (Ta 1), .int (Tv 0), .int oo0x4, .int oo0x5, .int oo0x6, .int oo0x7])), ((Ta 1), .inl (tc 0, 400, .inl (Tf 1))), (na0x0, .inr (6, [.ref na0x1, .ref na0x2])), (na0x1, .inl (tc 0, nn0x5, .inl oo0x8)), (na0x2, .inl (tc 1, 64, .inr (.inl (fun _ => 0))))] | (false, na0x0, na0x1, na0x2, oo0x1, oo0x2, oo0x3, oo0x4, oo0x5, oo0x6, oo0x7, oo0x8, nn0x5, oo1x1, oo1x2, oo1x3, oo1x4, oo1x5, oo1x6, oo1x7) => [((Va 0), .inr (7, [.ref (Va 1), .int oo1x1, .int oo1x2])), ((Va 1), .inl (tc 0, 400, .inl oo1x3)), ((Ta 0), .inr (10, [.ref (Ta 1), .int (Tv 0), .int oo1x4, .int oo1x5, .int oo1x6, .int oo1x7])), ((Ta 1), .inl (tc 0, 400, .inl (Tf 1)))]) 3 466 := by
  refine Ct.start (by decide) (Nat.le_of_ble_eq_true rfl) (fun p e s m below meth c A ls hx hb hr hlk hin hml hown hts hK hX hP hD hA hl hS => ?_)
  have hl : lv_has ls 3 [(0, .ref (Va 0)), (1, .ref (Ta 0))] := hl
  refine lv_aload_n hx hb dX7_read_0 rfl (lv_at hl 0 rfl) ?_
  refine lv_iconst (v := 0) hx hb dX7_read_1 (by decide) ?_
  refine pf_X7_15 hx hb hts hown hK hP hD hS 0 rfl (Nat.le_of_ble_eq_true rfl) rfl rfl dX7_read_2 (fun H locs hP hD hS => ?_)
  have hP : va_P D classes [((Va 0), .inr (7, [.ref (Va 1), .int 0, .int (Vv 1)])), ((Va 1), .inl (tc 0, 400, .inl (Vf 1))), ((Ta 0), .inr (10, [.ref (Ta 1), .int (Tv 0), .int (Tv 1), .int (Tv 2), .int (Tv 3), .int (Tv 4)])), ((Ta 1), .inl (tc 0, 400, .inl (Tf 1)))] H := hP
  have hD : va_D A [((Va 0), .inr (7, [.ref (Va 1), .int 0, .int (Vv 1)])), ((Va 1), .inl (tc 0, 400, .inl (Vf 1))), ((Ta 0), .inr (10, [.ref (Ta 1), .int (Tv 0), .int (Tv 1), .int (Tv 2), .int (Tv 3), .int (Tv 4)])), ((Ta 1), .inl (tc 0, 400, .inl (Tf 1)))] := hD
  refine lv_aload_n hx hb dX7_read_5 rfl (lv_at hl 0 rfl) ?_
  refine lv_iconst (v := 0) hx hb dX7_read_6 (by decide) ?_
  refine pf_X7_19 hx hb hts hown hK hP hD hS 0 rfl (Nat.le_of_ble_eq_true rfl) rfl rfl dX7_read_7 (fun H locs hP hD hS => ?_)
  have hP : va_P D classes [((Va 0), .inr (7, [.ref (Va 1), .int 0, .int 0])), ((Va 1), .inl (tc 0, 400, .inl (Vf 1))), ((Ta 0), .inr (10, [.ref (Ta 1), .int (Tv 0), .int (Tv 1), .int (Tv 2), .int (Tv 3), .int (Tv 4)])), ((Ta 1), .inl (tc 0, 400, .inl (Tf 1)))] H := hP
  have hD : va_D A [((Va 0), .inr (7, [.ref (Va 1), .int 0, .int 0])), ((Va 1), .inl (tc 0, 400, .inl (Vf 1))), ((Ta 0), .inr (10, [.ref (Ta 1), .int (Tv 0), .int (Tv 1), .int (Tv 2), .int (Tv 3), .int (Tv 4)])), ((Ta 1), .inl (tc 0, 400, .inl (Tf 1)))] := hD
  refine lv_aload_n hx hb dX7_read_10 rfl (lv_at hl 1 rfl) ?_
  have ha_1 : 0 ≤ ((Tv 0) : Int32).toInt ∧ ((Tv 0) : Int32).toInt ≤ 400 ∧ 0 ≤ ((Tv 1) : Int32).toInt ∧ ((Tv 1) : Int32).toInt ≤ 400 ∧ 0 ≤ ((Tv 2) : Int32).toInt ∧ ((Tv 2) : Int32).toInt ≤ 400 := by
    omega
  refine cV (a := (Ta 0)) (As := []) (rest := []) (wr := [((Va 0), .inr (7, [.ref (Va 1), .int 0, .int 0])), ((Va 1), .inl (tc 0, 400, .inl (Vf 1)))]) ⟨hx, hb, hml, hown, hts⟩ hK hX hA (ct_X10_begin l D tc sk Ta Tv Tf ha_1) k_474 k_612 k_472 k_473 k_96 pl_X10_begin ⟨Nat.le_of_ble_eq_true rfl, Nat.le_of_ble_eq_true rfl⟩ rfl rfl (va_recv hK hP (ci := 10) (q0 := 2) rfl rfl) hP hD hS [2, 3] [0, 1] rfl rfl rfl rfl rfl (by decide) rfl hl.1 rfl (Nat.le_of_ble_eq_true rfl) dX7_read_11 ⟨Nat.le_of_ble_eq_true rfl, Nat.le_of_ble_eq_true rfl⟩ (fun v_2 u_3 H locs hv_4 hP hD hS => ?_)
  obtain ⟨sv_5, sv_6, sv_7⟩ := u_3
  obtain ⟨rfl, he_8⟩ := hv_4
  have he_8 : (0 ≤ ((Tv 0) : Int32).toInt ∧ ((Tv 0) : Int32).toInt ≤ 400 ∧ 0 ≤ (sv_5 : Int32).toInt ∧ (sv_5 : Int32).toInt ≤ 400 ∧ 0 ≤ (sv_6 : Int32).toInt ∧ (sv_6 : Int32).toInt ≤ 400) := he_8
  refine W.eq (g2 := F0 m 14 ls []) rfl ?_
  have hP : va_P D classes [((Va 0), .inr (7, [.ref (Va 1), .int 0, .int 0])), ((Va 1), .inl (tc 0, 400, .inl (Vf 1))), ((Ta 0), .inr (10, [.ref (Ta 1), .int (Tv 0), .int sv_5, .int sv_6, .int sv_7, .int 0])), ((Ta 1), .inl (tc 0, 400, .inl (Tf 1)))] H := hP
  have hD : va_D A [((Va 0), .inr (7, [.ref (Va 1), .int 0, .int 0])), ((Va 1), .inl (tc 0, 400, .inl (Vf 1))), ((Ta 0), .inr (10, [.ref (Ta 1), .int (Tv 0), .int sv_5, .int sv_6, .int sv_7, .int 0])), ((Ta 1), .inl (tc 0, 400, .inl (Tf 1)))] := hD
  refine lv_iconst (v := 0) hx hb dX7_read_14 (by decide) ?_
  refine lv_istore_n (lv' := [(2, .int 0), (0, .ref (Va 0)), (1, .ref (Ta 0))]) hx hb dX7_read_15 rfl hl (by decide) rfl (fun ls hl => ?_)
  have loop_27 : ∀ (n_25 : Nat) (vy_17 : Int32) (vy_18 : Int32) (vy_19 : Int32) (vy_20 : Nat → Int32) (vy_21 : Int32) (vy_22 : Int32) (vy_23 : Int32) (vy_24 : Int32) (H : Heap) (locs : List Loc) (ls : Array Slot), (13 - (vy_17 : Int32).toInt).toNat < n_25 → (0 ≤ (vy_17 : Int32).toInt) → (0 ≤ ((Tv 0) : Int32).toInt ∧ ((Tv 0) : Int32).toInt ≤ 400 ∧ 0 ≤ (vy_21 : Int32).toInt ∧ (vy_21 : Int32).toInt ≤ 400 ∧ 0 ≤ (vy_22 : Int32).toInt ∧ (vy_22 : Int32).toInt ≤ 400) → va_P D classes [((Va 0), .inr (7, [.ref (Va 1), .int vy_18, .int vy_19])), ((Va 1), .inl (tc 0, 400, .inl vy_20)), ((Ta 0), .inr (10, [.ref (Ta 1), .int (Tv 0), .int vy_21, .int vy_22, .int vy_23, .int vy_24])), ((Ta 1), .inl (tc 0, 400, .inl (Tf 1)))] H → va_D A [((Va 0), .inr (7, [.ref (Va 1), .int vy_18, .int vy_19])), ((Va 1), .inl (tc 0, 400, .inl vy_20)), ((Ta 0), .inr (10, [.ref (Ta 1), .int (Tv 0), .int vy_21, .int vy_22, .int vy_23, .int vy_24])), ((Ta 1), .inl (tc 0, 400, .inl (Tf 1)))] → va_S A s.heap H locs → lv_has ls 3 [(2, .int vy_17), (0, .ref (Va 0)), (1, .ref (Ta 0))] → W p l e ({ frames := 30, cells := 3, slots := 466, locals := 719 }) s m ([.ref (Va 0), .ref (Ta 0)].toArray) below meth c H locs 0 0 (MQ below (QW (fun (v : Option Value) (u : (Bool) × (Nat) × (Nat) × (Nat) × (Int32) × (Int32) × (Nat → Int32) × (Int32) × (Int32) × (Int32) × (Int32) × (Nat → Int32) × (Nat) × (Int32) × (Int32) × (Nat → Int32) × (Int32) × (Int32) × (Int32) × (Int32)) => match u with | (true, na0x0, na0x1, na0x2, oo0x1, oo0x2, oo0x3, oo0x4, oo0x5, oo0x6, oo0x7, oo0x8, nn0x5, oo1x1, oo1x2, oo1x3, oo1x4, oo1x5, oo1x6, oo1x7) => v = some (.ref na0x0) ∧ (0 ≤ ((Tv 0) : Int32).toInt ∧ ((Tv 0) : Int32).toInt ≤ 400 ∧ 0 ≤ (oo0x4 : Int32).toInt ∧ (oo0x4 : Int32).toInt ≤ 400 ∧ 0 ≤ (oo0x5 : Int32).toInt ∧ (oo0x5 : Int32).toInt ≤ 400) | (false, na0x0, na0x1, na0x2, oo0x1, oo0x2, oo0x3, oo0x4, oo0x5, oo0x6, oo0x7, oo0x8, nn0x5, oo1x1, oo1x2, oo1x3, oo1x4, oo1x5, oo1x6, oo1x7) => v = some (.null) ∧ (0 ≤ ((Tv 0) : Int32).toInt ∧ ((Tv 0) : Int32).toInt ≤ 400 ∧ 0 ≤ (oo1x4 : Int32).toInt ∧ (oo1x4 : Int32).toInt ≤ 400 ∧ 0 ≤ (oo1x5 : Int32).toInt ∧ (oo1x5 : Int32).toInt ≤ 400)) (BW D (fun (u : (Bool) × (Nat) × (Nat) × (Nat) × (Int32) × (Int32) × (Nat → Int32) × (Int32) × (Int32) × (Int32) × (Int32) × (Nat → Int32) × (Nat) × (Int32) × (Int32) × (Nat → Int32) × (Int32) × (Int32) × (Int32) × (Int32)) => match u with | (true, na0x0, na0x1, na0x2, oo0x1, oo0x2, oo0x3, oo0x4, oo0x5, oo0x6, oo0x7, oo0x8, nn0x5, oo1x1, oo1x2, oo1x3, oo1x4, oo1x5, oo1x6, oo1x7) => [((Va 0), .inr (7, [.ref (Va 1), .int oo0x1, .int oo0x2])), ((Va 1), .inl (tc 0, 400, .inl oo0x3)), ((Ta 0), .inr (10, [.ref (Ta 1), .int (Tv 0), .int oo0x4, .int oo0x5, .int oo0x6, .int oo0x7])), ((Ta 1), .inl (tc 0, 400, .inl (Tf 1))), (na0x0, .inr (6, [.ref na0x1, .ref na0x2])), (na0x1, .inl (tc 0, nn0x5, .inl oo0x8)), (na0x2, .inl (tc 1, 64, .inr (.inl (fun _ => 0))))] | (false, na0x0, na0x1, na0x2, oo0x1, oo0x2, oo0x3, oo0x4, oo0x5, oo0x6, oo0x7, oo0x8, nn0x5, oo1x1, oo1x2, oo1x3, oo1x4, oo1x5, oo1x6, oo1x7) => [((Va 0), .inr (7, [.ref (Va 1), .int oo1x1, .int oo1x2])), ((Va 1), .inl (tc 0, 400, .inl oo1x3)), ((Ta 0), .inr (10, [.ref (Ta 1), .int (Tv 0), .int oo1x4, .int oo1x5, .int oo1x6, .int oo1x7])), ((Ta 1), .inl (tc 0, 400, .inl (Tf 1)))]) A) A) ([.ref (Va 0), .ref (Ta 0)].toArray) s 3 466 A) (F0 m 16 ls []) := by
    intro n_25
    induction n_25 with
    | zero =>
      intro vy_17 vy_18 vy_19 vy_20 vy_21 vy_22 vy_23 vy_24 H locs ls h1
      exact absurd h1 (Nat.not_lt_zero _)
    | succ n_25 ih_26 =>
      intro vy_17 vy_18 vy_19 vy_20 vy_21 vy_22 vy_23 vy_24 H locs ls hn_30 pf_28 pf_29 hP hD hS hl
      refine lv_iload_n hx hb dX7_read_16 rfl (lv_at hl 0 rfl) ?_
      refine lv_bipush (v := 12) hx hb dX7_read_17 (by decide) ?_
      refine lv_icmp_gt (tgt := 108) hx hb dX7_read_19 (by decide) (fun c_31 => ?_) (fun c_31 => ?_)
      · skip
        refine lv_aload_n hx hb dX7_read_108 rfl (lv_at hl 2 rfl) ?_
        have ha_32 : 0 ≤ ((Tv 0) : Int32).toInt ∧ ((Tv 0) : Int32).toInt ≤ 400 ∧ 0 ≤ (vy_21 : Int32).toInt ∧ (vy_21 : Int32).toInt ≤ 400 ∧ 0 ≤ (vy_22 : Int32).toInt ∧ (vy_22 : Int32).toInt ≤ 400 := by
          have z_1 := Int32.lt_iff_toInt_lt.mp c_31
          have y_12 : (12 : Int32).toInt = 12 := by decide
          omega
        refine cV (a := (Ta 0)) (As := []) (rest := []) (wr := [((Va 0), .inr (7, [.ref (Va 1), .int vy_18, .int vy_19])), ((Va 1), .inl (tc 0, 400, .inl vy_20))]) ⟨hx, hb, hml, hown, hts⟩ hK hX hA (ct_X10_finish l D tc sk Ta (fun k => ([(Tv 0), vy_21, vy_22, vy_23, vy_24] : List (Int32)).getD k 0) Tf ha_32) k_595 k_666 k_593 k_594 k_96 pl_X10_finish ⟨Nat.le_of_ble_eq_true rfl, Nat.le_of_ble_eq_true rfl⟩ rfl rfl (va_recv hK hP (ci := 10) (q0 := 2) rfl rfl) hP hD hS [2, 3] [0, 1] rfl rfl rfl rfl rfl (by decide) rfl hl.1 rfl (Nat.le_of_ble_eq_true rfl) dX7_read_109 ⟨Nat.le_of_ble_eq_true rfl, Nat.le_of_ble_eq_true rfl⟩ (fun v_33 u_34 H locs hv_35 hP hD hS => ?_)
        obtain ⟨sv_36, sv_37⟩ := u_34
        obtain ⟨rfl, he_38⟩ := hv_35
        have he_38 : (0 ≤ ((Tv 0) : Int32).toInt ∧ ((Tv 0) : Int32).toInt ≤ 400 ∧ 0 ≤ (vy_21 : Int32).toInt ∧ (vy_21 : Int32).toInt ≤ 400 ∧ 0 ≤ (vy_22 : Int32).toInt ∧ (vy_22 : Int32).toInt ≤ 400) := he_38
        refine W.eq (g2 := F0 m 112 ls []) rfl ?_
        have hP : va_P D classes [((Va 0), .inr (7, [.ref (Va 1), .int vy_18, .int vy_19])), ((Va 1), .inl (tc 0, 400, .inl vy_20)), ((Ta 0), .inr (10, [.ref (Ta 1), .int (Tv 0), .int vy_21, .int vy_22, .int sv_36, .int sv_37])), ((Ta 1), .inl (tc 0, 400, .inl (Tf 1)))] H := hP
        have hD : va_D A [((Va 0), .inr (7, [.ref (Va 1), .int vy_18, .int vy_19])), ((Va 1), .inl (tc 0, 400, .inl vy_20)), ((Ta 0), .inr (10, [.ref (Ta 1), .int (Tv 0), .int vy_21, .int vy_22, .int sv_36, .int sv_37])), ((Ta 1), .inl (tc 0, 400, .inl (Tf 1)))] := hD
        refine lv_aload_n hx hb dX7_read_112 rfl (lv_at hl 2 rfl) ?_
        refine gf_X7_65 hx hb hts hown hK hP 2 rfl rfl dX7_read_113 ?_
        refine lv_if_ne (tgt := 138) hx hb dX7_read_116 (by decide) (fun c_39 => ?_) (fun c_39 => ?_)
        · skip
          refine lv_null hx hb dX7_read_138 ?_
          have ha_40 : 0 ≤ ((Tv 0) : Int32).toInt ∧ ((Tv 0) : Int32).toInt ≤ 400 ∧ 0 ≤ (vy_21 : Int32).toInt ∧ (vy_21 : Int32).toInt ≤ 400 ∧ 0 ≤ (vy_22 : Int32).toInt ∧ (vy_22 : Int32).toInt ≤ 400 := by
            have z_1 := Int32.lt_iff_toInt_lt.mp c_31
            have z_2 : ¬ (sv_37 : Int32).toInt = (0 : Int32).toInt := fun z => c_39 (Int32.toInt_inj.mp z)
            have y_0 : (0 : Int32).toInt = 0 := by decide
            have y_12 : (12 : Int32).toInt = 12 := by decide
            omega
          exact retA (v := .null) hx hb hr hlk (Or.inl ⟨_, rfl⟩) (Or.inl rfl) hP hD hS (false, 0, 0, 0, 0, 0, (fun _ => 0), 0, 0, 0, 0, (fun _ => 0), 0, vy_18, vy_19, vy_20, vy_21, vy_22, sv_36, sv_37) ⟨rfl, ha_40⟩ [0, 1, 2, 3] rfl rfl dX7_read_139 (Nat.le_of_ble_eq_true rfl) (Nat.le_of_ble_eq_true rfl) rfl
        · skip
          refine lv_aload_n hx hb dX7_read_119 rfl (lv_at hl 1 rfl) ?_
          refine gf_X7_15 hx hb hts hown hK hP 0 rfl rfl dX7_read_120 ?_
          refine lv_if_lt (tgt := 138) hx hb dX7_read_123 (by decide) (fun c_41 => ?_) (fun c_41 => ?_)
          · skip
            refine lv_null hx hb dX7_read_138 ?_
            have ha_42 : 0 ≤ ((Tv 0) : Int32).toInt ∧ ((Tv 0) : Int32).toInt ≤ 400 ∧ 0 ≤ (vy_21 : Int32).toInt ∧ (vy_21 : Int32).toInt ≤ 400 ∧ 0 ≤ (vy_22 : Int32).toInt ∧ (vy_22 : Int32).toInt ≤ 400 := by
              have z_1 := Int32.lt_iff_toInt_lt.mp c_31
              have z_2 := congrArg Int32.toInt c_39
              have z_3 := Int32.lt_iff_toInt_lt.mp c_41
              have y_0 : (0 : Int32).toInt = 0 := by decide
              have y_12 : (12 : Int32).toInt = 12 := by decide
              omega
            exact retA (v := .null) hx hb hr hlk (Or.inl ⟨_, rfl⟩) (Or.inl rfl) hP hD hS (false, 0, 0, 0, 0, 0, (fun _ => 0), 0, 0, 0, 0, (fun _ => 0), 0, vy_18, vy_19, vy_20, vy_21, vy_22, sv_36, sv_37) ⟨rfl, ha_42⟩ [0, 1, 2, 3] rfl rfl dX7_read_139 (Nat.le_of_ble_eq_true rfl) (Nat.le_of_ble_eq_true rfl) rfl
          · skip
            refine lv_aload_n hx hb dX7_read_126 rfl (lv_at hl 1 rfl) ?_
            refine gf_X7_15 hx hb hts hown hK hP 0 rfl rfl dX7_read_127 ?_
            refine lv_aload_n hx hb dX7_read_130 rfl (lv_at hl 1 rfl) ?_
            refine gf_X7_9 hx hb hts hown hK hP 0 rfl rfl dX7_read_131 ?_
            refine va_alen hx hb hK hP 1 0 rfl rfl (v := 400) rfl dX7_read_134 ?_
            refine lv_icmp_le (tgt := 140) hx hb dX7_read_135 (by decide) (fun c_43 => ?_) (fun c_43 => ?_)
            · skip
              refine va_new (ci := 6) (fs := [.null, .null]) (C := RX6) (T := TX6) (N := 2) hx hb hts iX6 tyX6 tyX6_ok hown (hts _ k_667) (hts _ k_668) (hts _ k_112) hK hP hD hS hA rfl dfX6 (Nat.le_of_ble_eq_true rfl) (Nat.le_of_ble_eq_true rfl) dX7_read_140 (fun q_44 H hP hD hS => ?_)
              have hP : va_P D classes [((Va 0), .inr (7, [.ref (Va 1), .int vy_18, .int vy_19])), ((Va 1), .inl (tc 0, 400, .inl vy_20)), ((Ta 0), .inr (10, [.ref (Ta 1), .int (Tv 0), .int vy_21, .int vy_22, .int sv_36, .int sv_37])), ((Ta 1), .inl (tc 0, 400, .inl (Tf 1))), (q_44, .inr (6, [.null, .null]))] H := hP
              have hD : va_D A [((Va 0), .inr (7, [.ref (Va 1), .int vy_18, .int vy_19])), ((Va 1), .inl (tc 0, 400, .inl vy_20)), ((Ta 0), .inr (10, [.ref (Ta 1), .int (Tv 0), .int vy_21, .int vy_22, .int sv_36, .int sv_37])), ((Ta 1), .inl (tc 0, 400, .inl (Tf 1))), (q_44, .inr (6, [.null, .null]))] := hD
              refine lv_dup hx hb dX7_read_143 rfl ?_
              refine lv_aload_n hx hb dX7_read_144 rfl (lv_at hl 1 rfl) ?_
              refine gf_X7_9 hx hb hts hown hK hP 0 rfl rfl dX7_read_145 ?_
              refine lv_aload_n hx hb dX7_read_148 rfl (lv_at hl 1 rfl) ?_
              refine gf_X7_15 hx hb hts hown hK hP 0 rfl rfl dX7_read_149 ?_
              have ha_45 : 0 ≤ vy_18.toInt ∧ vy_18.toInt ≤ 400 := by
                have z_1 := Int32.lt_iff_toInt_lt.mp c_31
                have z_2 := congrArg Int32.toInt c_39
                have z_3 := Int32.le_iff_toInt_le.mp (Int32.not_lt.mp c_41)
                have z_4 := Int32.le_iff_toInt_le.mp c_43
                have y_0 : (0 : Int32).toInt = 0 := by decide
                have y_12 : (12 : Int32).toInt = 12 := by decide
                have y_400 : (400 : Int32).toInt = 400 := by decide
                omega
              refine cS (As := [.ref (Va 1), .int vy_18]) (rest := [.ref q_44, .ref q_44]) (wr := [((Va 0), .inr (7, [.ref (Va 1), .int vy_18, .int vy_19])), ((Ta 0), .inr (10, [.ref (Ta 1), .int (Tv 0), .int vy_21, .int vy_22, .int sv_36, .int sv_37])), ((Ta 1), .inl (tc 0, 400, .inl (Tf 1))), (q_44, .inr (6, [.null, .null]))]) ⟨hx, hb, hml, hown, hts⟩ hK hX hA (ct_J7_copyOf l D tc sk (fun k => ([(Va 1)] : List (Nat)).getD k 0) (fun k => ([vy_20] : List (Nat → Int32)).getD k (fun _ => 0)) vy_18 ha_45) k_671 k_669 k_670 k_113 pl_J7_copyOf_59c91 ⟨Nat.le_of_ble_eq_true rfl, Nat.le_of_ble_eq_true rfl⟩ rfl rfl  hP hD hS [1] [0, 2, 3, 4] rfl rfl rfl rfl rfl (by decide) rfl hl.1 rfl (Nat.le_of_ble_eq_true rfl) dX7_read_152 ⟨Nat.le_of_ble_eq_true rfl, Nat.le_of_ble_eq_true rfl⟩ (fun v_46 u_47 H locs hv_48 hP hD hS => ?_)
              obtain ⟨sv_49, sv_50, sv_51⟩ := u_47
              obtain ⟨rfl, pf_52⟩ := hv_48
              have pf_52 : sv_51 ≤ 400 := pf_52
              refine W.eq (g2 := F0 m 155 ls [.ref sv_49, .ref q_44, .ref q_44]) rfl ?_
              have hP : va_P D classes [((Va 0), .inr (7, [.ref (Va 1), .int vy_18, .int vy_19])), ((Ta 0), .inr (10, [.ref (Ta 1), .int (Tv 0), .int vy_21, .int vy_22, .int sv_36, .int sv_37])), ((Ta 1), .inl (tc 0, 400, .inl (Tf 1))), (q_44, .inr (6, [.null, .null])), ((Va 1), .inl (tc 0, 400, .inl vy_20)), (sv_49, .inl (tc 0, sv_51, .inl sv_50))] H := hP
              have hD : va_D A [((Va 0), .inr (7, [.ref (Va 1), .int vy_18, .int vy_19])), ((Ta 0), .inr (10, [.ref (Ta 1), .int (Tv 0), .int vy_21, .int vy_22, .int sv_36, .int sv_37])), ((Ta 1), .inl (tc 0, 400, .inl (Tf 1))), (q_44, .inr (6, [.null, .null])), ((Va 1), .inl (tc 0, 400, .inl vy_20)), (sv_49, .inl (tc 0, sv_51, .inl sv_50))] := hD
              refine cI (a := q_44) (As := [.ref sv_49]) (rest := [.ref q_44]) (wr := [((Va 0), .inr (7, [.ref (Va 1), .int vy_18, .int vy_19])), ((Ta 0), .inr (10, [.ref (Ta 1), .int (Tv 0), .int vy_21, .int vy_22, .int sv_36, .int sv_37])), ((Ta 1), .inl (tc 0, 400, .inl (Tf 1))), ((Va 1), .inl (tc 0, 400, .inl vy_20)), (sv_49, .inl (tc 0, sv_51, .inl sv_50))]) ⟨hx, hb, hml, hown, hts⟩ hK hX hA (ct_X6_init l D tc sk q_44 sv_49) k_685 k_683 k_684 k_112 rfl pl_X6_init ⟨Nat.le_of_ble_eq_true rfl, Nat.le_of_ble_eq_true rfl⟩ rfl rfl  hP hD hS [3] [0, 1, 2, 4, 5] rfl rfl rfl rfl rfl (by decide) rfl hl.1 rfl (Nat.le_of_ble_eq_true rfl) dX7_read_155 ⟨Nat.le_of_ble_eq_true rfl, Nat.le_of_ble_eq_true rfl⟩ (fun v_53 u_54 H locs hv_55 hP hD hS => ?_)
              obtain ⟨sv_56, rfl⟩ : ∃ z, z = u_54 := ⟨_, rfl⟩
              obtain rfl : v_53 = none := hv_55
              refine W.eq (g2 := F0 m 158 ls [.ref q_44]) rfl ?_
              have hP : va_P D classes [((Va 0), .inr (7, [.ref (Va 1), .int vy_18, .int vy_19])), ((Ta 0), .inr (10, [.ref (Ta 1), .int (Tv 0), .int vy_21, .int vy_22, .int sv_36, .int sv_37])), ((Ta 1), .inl (tc 0, 400, .inl (Tf 1))), ((Va 1), .inl (tc 0, 400, .inl vy_20)), (sv_49, .inl (tc 0, sv_51, .inl sv_50)), (q_44, .inr (6, [.ref sv_49, .ref sv_56])), (sv_56, .inl (tc 1, 64, .inr (.inl (fun _ => 0))))] H := hP
              have hD : va_D A [((Va 0), .inr (7, [.ref (Va 1), .int vy_18, .int vy_19])), ((Ta 0), .inr (10, [.ref (Ta 1), .int (Tv 0), .int vy_21, .int vy_22, .int sv_36, .int sv_37])), ((Ta 1), .inl (tc 0, 400, .inl (Tf 1))), ((Va 1), .inl (tc 0, 400, .inl vy_20)), (sv_49, .inl (tc 0, sv_51, .inl sv_50)), (q_44, .inr (6, [.ref sv_49, .ref sv_56])), (sv_56, .inl (tc 1, 64, .inr (.inl (fun _ => 0))))] := hD
              have ha_57 : 0 ≤ ((Tv 0) : Int32).toInt ∧ ((Tv 0) : Int32).toInt ≤ 400 ∧ 0 ≤ (vy_21 : Int32).toInt ∧ (vy_21 : Int32).toInt ≤ 400 ∧ 0 ≤ (vy_22 : Int32).toInt ∧ (vy_22 : Int32).toInt ≤ 400 := by
                have z_1 := Int32.lt_iff_toInt_lt.mp c_31
                have z_2 := congrArg Int32.toInt c_39
                have z_3 := Int32.le_iff_toInt_le.mp (Int32.not_lt.mp c_41)
                have z_4 := Int32.le_iff_toInt_le.mp c_43
                have y_0 : (0 : Int32).toInt = 0 := by decide
                have y_12 : (12 : Int32).toInt = 12 := by decide
                have y_400 : (400 : Int32).toInt = 400 := by decide
                omega
              exact retA (v := .ref q_44) hx hb hr hlk (Or.inl ⟨_, rfl⟩) (Or.inr ⟨_, rfl⟩) hP hD hS (true, q_44, sv_49, sv_56, vy_18, vy_19, vy_20, vy_21, vy_22, sv_36, sv_37, sv_50, sv_51, 0, 0, (fun _ => 0), 0, 0, 0, 0) ⟨rfl, ha_57⟩ [0, 3, 1, 2, 5, 4, 6] rfl rfl dX7_read_158 (Nat.le_of_ble_eq_true rfl) (Nat.le_of_ble_eq_true rfl) rfl
            · skip
              refine lv_null hx hb dX7_read_138 ?_
              have ha_58 : 0 ≤ ((Tv 0) : Int32).toInt ∧ ((Tv 0) : Int32).toInt ≤ 400 ∧ 0 ≤ (vy_21 : Int32).toInt ∧ (vy_21 : Int32).toInt ≤ 400 ∧ 0 ≤ (vy_22 : Int32).toInt ∧ (vy_22 : Int32).toInt ≤ 400 := by
                have z_1 := Int32.lt_iff_toInt_lt.mp c_31
                have z_2 := congrArg Int32.toInt c_39
                have z_3 := Int32.le_iff_toInt_le.mp (Int32.not_lt.mp c_41)
                have z_4 := Int32.lt_iff_toInt_lt.mp (Int32.not_le.mp c_43)
                have y_0 : (0 : Int32).toInt = 0 := by decide
                have y_12 : (12 : Int32).toInt = 12 := by decide
                have y_400 : (400 : Int32).toInt = 400 := by decide
                omega
              exact retA (v := .null) hx hb hr hlk (Or.inl ⟨_, rfl⟩) (Or.inl rfl) hP hD hS (false, 0, 0, 0, 0, 0, (fun _ => 0), 0, 0, 0, 0, (fun _ => 0), 0, vy_18, vy_19, vy_20, vy_21, vy_22, sv_36, sv_37) ⟨rfl, ha_58⟩ [0, 1, 2, 3] rfl rfl dX7_read_139 (Nat.le_of_ble_eq_true rfl) (Nat.le_of_ble_eq_true rfl) rfl
      · skip
        refine lv_iload_n hx hb dX7_read_22 rfl (lv_at hl 0 rfl) ?_
        refine lv_if_eq (tgt := 35) hx hb dX7_read_23 (by decide) (fun c_59 => ?_) (fun c_59 => ?_)
        · skip
          refine lv_aload_n hx hb dX7_read_35 rfl (lv_at hl 2 rfl) ?_
          refine va_ldcS hx hb hown (hX.2.2.2.1 1 _ rfl) dX7_read_36 ?_
          have ha_60 : (1 : Nat) < 7 := by
            have z_1 := Int32.le_iff_toInt_le.mp (Int32.not_lt.mp c_31)
            have z_2 := congrArg Int32.toInt c_59
            have y_0 : (0 : Int32).toInt = 0 := by decide
            have y_12 : (12 : Int32).toInt = 12 := by decide
            have y_1 : (1 : Int32).toInt = 1 := by decide
            omega
          have ha_61 : 0 ≤ ((Tv 0) : Int32).toInt ∧ ((Tv 0) : Int32).toInt ≤ 400 ∧ 0 ≤ (vy_21 : Int32).toInt ∧ (vy_21 : Int32).toInt ≤ 400 ∧ 0 ≤ (vy_22 : Int32).toInt ∧ (vy_22 : Int32).toInt ≤ 400 := by
            have z_1 := Int32.le_iff_toInt_le.mp (Int32.not_lt.mp c_31)
            have z_2 := congrArg Int32.toInt c_59
            have y_0 : (0 : Int32).toInt = 0 := by decide
            have y_12 : (12 : Int32).toInt = 12 := by decide
            omega
          refine cV (a := (Ta 0)) (As := [.ref (sk.1 1)]) (rest := []) (wr := [((Va 0), .inr (7, [.ref (Va 1), .int vy_18, .int vy_19])), ((Va 1), .inl (tc 0, 400, .inl vy_20))]) ⟨hx, hb, hml, hown, hts⟩ hK hX hA (ct_X10_isWord l D tc sk Ta (fun k => ([(Tv 0), vy_21, vy_22, vy_23, vy_24] : List (Int32)).getD k 0) Tf 1 ha_60 ha_61) k_618 k_615 k_616 k_617 k_96 pl_X10_isWord ⟨Nat.le_of_ble_eq_true rfl, Nat.le_of_ble_eq_true rfl⟩ rfl rfl (va_recv hK hP (ci := 10) (q0 := 2) rfl rfl) hP hD hS [2, 3] [0, 1] rfl rfl rfl rfl rfl (by decide) rfl hl.1 rfl (Nat.le_of_ble_eq_true rfl) dX7_read_38 ⟨Nat.le_of_ble_eq_true rfl, Nat.le_of_ble_eq_true rfl⟩ (fun v_62 u_63 H locs hv_64 hP hD hS => ?_)
          obtain ⟨r_65, rfl, he_66⟩ := hv_64
          have he_66 : ((r_65.toInt = 0 ∨ r_65.toInt = 1)) ∧ (0 ≤ ((Tv 0) : Int32).toInt ∧ ((Tv 0) : Int32).toInt ≤ 400 ∧ 0 ≤ (vy_21 : Int32).toInt ∧ (vy_21 : Int32).toInt ≤ 400 ∧ 0 ≤ (vy_22 : Int32).toInt ∧ (vy_22 : Int32).toInt ≤ 400) := he_66
          refine W.eq (g2 := F0 m 41 ls [.int r_65]) rfl ?_
          have hP : va_P D classes [((Va 0), .inr (7, [.ref (Va 1), .int vy_18, .int vy_19])), ((Va 1), .inl (tc 0, 400, .inl vy_20)), ((Ta 0), .inr (10, [.ref (Ta 1), .int (Tv 0), .int vy_21, .int vy_22, .int vy_23, .int vy_24])), ((Ta 1), .inl (tc 0, 400, .inl (Tf 1)))] H := hP
          have hD : va_D A [((Va 0), .inr (7, [.ref (Va 1), .int vy_18, .int vy_19])), ((Va 1), .inl (tc 0, 400, .inl vy_20)), ((Ta 0), .inr (10, [.ref (Ta 1), .int (Tv 0), .int vy_21, .int vy_22, .int vy_23, .int vy_24])), ((Ta 1), .inl (tc 0, 400, .inl (Tf 1)))] := hD
          refine lv_if_ne (tgt := 52) hx hb dX7_read_41 (by decide) (fun c_67 => ?_) (fun c_67 => ?_)
          · skip
            refine lv_iload_n hx hb dX7_read_52 rfl (lv_at hl 0 rfl) ?_
            refine lv_bipush (v := 12) hx hb dX7_read_53 (by decide) ?_
            refine lv_icmp_ne (tgt := 63) hx hb dX7_read_55 (by decide) (fun c_68 => ?_) (fun c_68 => ?_)
            · skip
              refine lv_aload_n hx hb dX7_read_63 rfl (lv_at hl 2 rfl) ?_
              have ha_69 : 0 ≤ ((Tv 0) : Int32).toInt ∧ ((Tv 0) : Int32).toInt ≤ 400 ∧ 0 ≤ (vy_21 : Int32).toInt ∧ (vy_21 : Int32).toInt ≤ 400 ∧ 0 ≤ (vy_22 : Int32).toInt ∧ (vy_22 : Int32).toInt ≤ 400 := by
                have z_1 := Int32.le_iff_toInt_le.mp (Int32.not_lt.mp c_31)
                have z_2 := congrArg Int32.toInt c_59
                have z_3 : ¬ (r_65 : Int32).toInt = (0 : Int32).toInt := fun z => c_67 (Int32.toInt_inj.mp z)
                have z_4 : ¬ (vy_17 : Int32).toInt = (12 : Int32).toInt := fun z => c_68 (Int32.toInt_inj.mp z)
                have y_0 : (0 : Int32).toInt = 0 := by decide
                have y_12 : (12 : Int32).toInt = 12 := by decide
                omega
              refine cV (a := (Ta 0)) (As := []) (rest := []) (wr := [((Va 0), .inr (7, [.ref (Va 1), .int vy_18, .int vy_19])), ((Va 1), .inl (tc 0, 400, .inl vy_20))]) ⟨hx, hb, hml, hown, hts⟩ hK hX hA (ct_X10_step l D tc sk Ta (fun k => ([(Tv 0), vy_21, vy_22, vy_23, vy_24] : List (Int32)).getD k 0) Tf ha_69) k_478 k_620 k_476 k_477 k_96 pl_X10_step ⟨Nat.le_of_ble_eq_true rfl, Nat.le_of_ble_eq_true rfl⟩ rfl rfl (va_recv hK hP (ci := 10) (q0 := 2) rfl rfl) hP hD hS [2, 3] [0, 1] rfl rfl rfl rfl rfl (by decide) rfl hl.1 rfl (Nat.le_of_ble_eq_true rfl) dX7_read_64 ⟨Nat.le_of_ble_eq_true rfl, Nat.le_of_ble_eq_true rfl⟩ (fun v_70 u_71 H locs hv_72 hP hD hS => ?_)
              obtain ⟨sv_73, sv_74, sv_75⟩ := u_71
              obtain ⟨rfl, he_76⟩ := hv_72
              have he_76 : (0 ≤ ((Tv 0) : Int32).toInt ∧ ((Tv 0) : Int32).toInt ≤ 400 ∧ 0 ≤ (sv_73 : Int32).toInt ∧ (sv_73 : Int32).toInt ≤ 400 ∧ 0 ≤ (sv_74 : Int32).toInt ∧ (sv_74 : Int32).toInt ≤ 400) := he_76
              refine W.eq (g2 := F0 m 67 ls []) rfl ?_
              have hP : va_P D classes [((Va 0), .inr (7, [.ref (Va 1), .int vy_18, .int vy_19])), ((Va 1), .inl (tc 0, 400, .inl vy_20)), ((Ta 0), .inr (10, [.ref (Ta 1), .int (Tv 0), .int sv_73, .int sv_74, .int sv_75, .int vy_24])), ((Ta 1), .inl (tc 0, 400, .inl (Tf 1)))] H := hP
              have hD : va_D A [((Va 0), .inr (7, [.ref (Va 1), .int vy_18, .int vy_19])), ((Va 1), .inl (tc 0, 400, .inl vy_20)), ((Ta 0), .inr (10, [.ref (Ta 1), .int (Tv 0), .int sv_73, .int sv_74, .int sv_75, .int vy_24])), ((Ta 1), .inl (tc 0, 400, .inl (Tf 1)))] := hD
              refine lv_aload_n hx hb dX7_read_67 rfl (lv_at hl 1 rfl) ?_
              refine lv_aload_n hx hb dX7_read_68 rfl (lv_at hl 2 rfl) ?_
              have ha_77 : 0 ≤ ((Tv 0) : Int32).toInt ∧ ((Tv 0) : Int32).toInt ≤ 400 ∧ 0 ≤ (sv_73 : Int32).toInt ∧ (sv_73 : Int32).toInt ≤ 400 ∧ 0 ≤ (sv_74 : Int32).toInt ∧ (sv_74 : Int32).toInt ≤ 400 := by
                have z_1 := Int32.le_iff_toInt_le.mp (Int32.not_lt.mp c_31)
                have z_2 := congrArg Int32.toInt c_59
                have z_3 : ¬ (r_65 : Int32).toInt = (0 : Int32).toInt := fun z => c_67 (Int32.toInt_inj.mp z)
                have z_4 : ¬ (vy_17 : Int32).toInt = (12 : Int32).toInt := fun z => c_68 (Int32.toInt_inj.mp z)
                have y_0 : (0 : Int32).toInt = 0 := by decide
                have y_12 : (12 : Int32).toInt = 12 := by decide
                omega
              refine cV (a := (Va 0)) (As := [.ref (Ta 0)]) (rest := []) (wr := []) ⟨hx, hb, hml, hown, hts⟩ hK hX hA (ct_X7_readSum l D tc sk Va (fun k => ([vy_18, vy_19] : List (Int32)).getD k 0) (fun k => ([(fun _ => 0), vy_20] : List (Nat → Int32)).getD k (fun _ => 0)) Ta (fun k => ([(Tv 0), sv_73, sv_74, sv_75, vy_24] : List (Int32)).getD k 0) Tf ha_77) k_624 k_621 k_623 k_7 k_99 pl_X7_readSum ⟨Nat.le_of_ble_eq_true rfl, Nat.le_of_ble_eq_true rfl⟩ rfl rfl (va_recv hK hP (ci := 7) (q0 := 0) rfl rfl) hP hD hS [0, 1, 2, 3] [] rfl rfl rfl rfl rfl (by decide) rfl hl.1 rfl (Nat.le_of_ble_eq_true rfl) dX7_read_69 ⟨Nat.le_of_ble_eq_true rfl, Nat.le_of_ble_eq_true rfl⟩ (fun v_78 u_79 H locs hv_80 hP hD hS => ?_)
              obtain ⟨sv_81, sv_82, sv_83, sv_84, sv_85, sv_86, sv_87⟩ := u_79
              obtain ⟨rfl, he_88⟩ := hv_80
              have he_88 : (0 ≤ ((Tv 0) : Int32).toInt ∧ ((Tv 0) : Int32).toInt ≤ 400 ∧ 0 ≤ (sv_84 : Int32).toInt ∧ (sv_84 : Int32).toInt ≤ 400 ∧ 0 ≤ (sv_85 : Int32).toInt ∧ (sv_85 : Int32).toInt ≤ 400) := he_88
              refine W.eq (g2 := F0 m 72 ls []) rfl ?_
              have hP : va_P D classes [((Va 0), .inr (7, [.ref (Va 1), .int sv_81, .int sv_82])), ((Va 1), .inl (tc 0, 400, .inl sv_83)), ((Ta 0), .inr (10, [.ref (Ta 1), .int (Tv 0), .int sv_84, .int sv_85, .int sv_86, .int sv_87])), ((Ta 1), .inl (tc 0, 400, .inl (Tf 1)))] H := hP
              have hD : va_D A [((Va 0), .inr (7, [.ref (Va 1), .int sv_81, .int sv_82])), ((Va 1), .inl (tc 0, 400, .inl sv_83)), ((Ta 0), .inr (10, [.ref (Ta 1), .int (Tv 0), .int sv_84, .int sv_85, .int sv_86, .int sv_87])), ((Ta 1), .inl (tc 0, 400, .inl (Tf 1)))] := hD
              refine lv_aload_n hx hb dX7_read_72 rfl (lv_at hl 2 rfl) ?_
              refine va_ldcS hx hb hown (hX.2.2.2.1 3 _ rfl) dX7_read_73 ?_
              have ha_89 : (3 : Nat) < 7 := by
                have z_1 := Int32.le_iff_toInt_le.mp (Int32.not_lt.mp c_31)
                have z_2 := congrArg Int32.toInt c_59
                have z_3 : ¬ (r_65 : Int32).toInt = (0 : Int32).toInt := fun z => c_67 (Int32.toInt_inj.mp z)
                have z_4 : ¬ (vy_17 : Int32).toInt = (12 : Int32).toInt := fun z => c_68 (Int32.toInt_inj.mp z)
                have y_0 : (0 : Int32).toInt = 0 := by decide
                have y_12 : (12 : Int32).toInt = 12 := by decide
                have y_3 : (3 : Int32).toInt = 3 := by decide
                omega
              have ha_90 : 0 ≤ ((Tv 0) : Int32).toInt ∧ ((Tv 0) : Int32).toInt ≤ 400 ∧ 0 ≤ (sv_84 : Int32).toInt ∧ (sv_84 : Int32).toInt ≤ 400 ∧ 0 ≤ (sv_85 : Int32).toInt ∧ (sv_85 : Int32).toInt ≤ 400 := by
                have z_1 := Int32.le_iff_toInt_le.mp (Int32.not_lt.mp c_31)
                have z_2 := congrArg Int32.toInt c_59
                have z_3 : ¬ (r_65 : Int32).toInt = (0 : Int32).toInt := fun z => c_67 (Int32.toInt_inj.mp z)
                have z_4 : ¬ (vy_17 : Int32).toInt = (12 : Int32).toInt := fun z => c_68 (Int32.toInt_inj.mp z)
                have y_0 : (0 : Int32).toInt = 0 := by decide
                have y_12 : (12 : Int32).toInt = 12 := by decide
                omega
              refine cV (a := (Ta 0)) (As := [.ref (sk.1 3)]) (rest := []) (wr := [((Va 0), .inr (7, [.ref (Va 1), .int sv_81, .int sv_82])), ((Va 1), .inl (tc 0, 400, .inl sv_83))]) ⟨hx, hb, hml, hown, hts⟩ hK hX hA (ct_X10_takesWord l D tc sk Ta (fun k => ([(Tv 0), sv_84, sv_85, sv_86, sv_87] : List (Int32)).getD k 0) Tf 3 ha_89 ha_90) k_650 k_647 k_648 k_649 k_96 pl_X10_takesWord ⟨Nat.le_of_ble_eq_true rfl, Nat.le_of_ble_eq_true rfl⟩ rfl rfl (va_recv hK hP (ci := 10) (q0 := 2) rfl rfl) hP hD hS [2, 3] [0, 1] rfl rfl rfl rfl rfl (by decide) rfl hl.1 rfl (Nat.le_of_ble_eq_true rfl) dX7_read_75 ⟨Nat.le_of_ble_eq_true rfl, Nat.le_of_ble_eq_true rfl⟩ (fun v_91 u_92 H locs hv_93 hP hD hS => ?_)
              obtain ⟨sv_94, sv_95, sv_96⟩ := u_92
              obtain ⟨r_97, rfl, he_98⟩ := hv_93
              have he_98 : ((r_97.toInt = 0 ∨ r_97.toInt = 1)) ∧ (0 ≤ ((Tv 0) : Int32).toInt ∧ ((Tv 0) : Int32).toInt ≤ 400 ∧ 0 ≤ (sv_94 : Int32).toInt ∧ (sv_94 : Int32).toInt ≤ 400 ∧ 0 ≤ (sv_95 : Int32).toInt ∧ (sv_95 : Int32).toInt ≤ 400) := he_98
              refine W.eq (g2 := F0 m 78 ls [.int r_97]) rfl ?_
              have hP : va_P D classes [((Va 0), .inr (7, [.ref (Va 1), .int sv_81, .int sv_82])), ((Va 1), .inl (tc 0, 400, .inl sv_83)), ((Ta 0), .inr (10, [.ref (Ta 1), .int (Tv 0), .int sv_94, .int sv_95, .int sv_96, .int sv_87])), ((Ta 1), .inl (tc 0, 400, .inl (Tf 1)))] H := hP
              have hD : va_D A [((Va 0), .inr (7, [.ref (Va 1), .int sv_81, .int sv_82])), ((Va 1), .inl (tc 0, 400, .inl sv_83)), ((Ta 0), .inr (10, [.ref (Ta 1), .int (Tv 0), .int sv_94, .int sv_95, .int sv_96, .int sv_87])), ((Ta 1), .inl (tc 0, 400, .inl (Tf 1)))] := hD
              refine lv_if_eq (tgt := 96) hx hb dX7_read_78 (by decide) (fun c_99 => ?_) (fun c_99 => ?_)
              · skip
                refine lv_aload_n hx hb dX7_read_96 rfl (lv_at hl 1 rfl) ?_
                refine lv_bipush (v := (-2)) hx hb dX7_read_97 (by decide) ?_
                refine cV (a := (Va 0)) (As := [.int (-2)]) (rest := []) (wr := [((Ta 0), .inr (10, [.ref (Ta 1), .int (Tv 0), .int sv_94, .int sv_95, .int sv_96, .int sv_87])), ((Ta 1), .inl (tc 0, 400, .inl (Tf 1)))]) ⟨hx, hb, hml, hown, hts⟩ hK hX hA (ct_X7_put l D tc sk Va (fun k => ([sv_81, sv_82] : List (Int32)).getD k 0) (fun k => ([(fun _ => 0), sv_83] : List (Nat → Int32)).getD k (fun _ => 0)) (-2)) k_642 k_639 k_641 k_10 k_99 pl_X7_put ⟨Nat.le_of_ble_eq_true rfl, Nat.le_of_ble_eq_true rfl⟩ rfl rfl (va_recv hK hP (ci := 7) (q0 := 0) rfl rfl) hP hD hS [0, 1] [2, 3] rfl rfl rfl rfl rfl (by decide) rfl hl.1 rfl (Nat.le_of_ble_eq_true rfl) dX7_read_99 ⟨Nat.le_of_ble_eq_true rfl, Nat.le_of_ble_eq_true rfl⟩ (fun v_100 u_101 H locs hv_102 hP hD hS => ?_)
                obtain ⟨sv_103, sv_104⟩ := u_101
                obtain rfl : v_100 = none := hv_102
                refine W.eq (g2 := F0 m 102 ls []) rfl ?_
                have hP : va_P D classes [((Ta 0), .inr (10, [.ref (Ta 1), .int (Tv 0), .int sv_94, .int sv_95, .int sv_96, .int sv_87])), ((Ta 1), .inl (tc 0, 400, .inl (Tf 1))), ((Va 0), .inr (7, [.ref (Va 1), .int sv_103, .int sv_82])), ((Va 1), .inl (tc 0, 400, .inl sv_104))] H := hP
                have hD : va_D A [((Ta 0), .inr (10, [.ref (Ta 1), .int (Tv 0), .int sv_94, .int sv_95, .int sv_96, .int sv_87])), ((Ta 1), .inl (tc 0, 400, .inl (Tf 1))), ((Va 0), .inr (7, [.ref (Va 1), .int sv_103, .int sv_82])), ((Va 1), .inl (tc 0, 400, .inl sv_104))] := hD
                obtain ⟨x_105, ex_105⟩ : ∃ y : Int32, y = vy_17 + 1 := ⟨_, rfl⟩
                refine lv_iinc (v := x_105) (lv' := [(2, .int x_105), (0, .ref (Va 0)), (1, .ref (Ta 0))]) hx hb dX7_read_102 hl (k := 0) rfl (by rw [ex_105]; rfl) (by decide) rfl (fun ls hl => ?_)
                refine lv_goto (tgt := 16) hx hb dX7_read_105 (by decide) ?_
                have hb_106 : 13 - (x_105 : Int32).toInt < 13 - (vy_17 : Int32).toInt ∧ 1 ≤ 13 - (vy_17 : Int32).toInt := by
                  have z_1 := Int32.le_iff_toInt_le.mp (Int32.not_lt.mp c_31)
                  have z_2 := congrArg Int32.toInt c_59
                  have z_3 : ¬ (r_65 : Int32).toInt = (0 : Int32).toInt := fun z => c_67 (Int32.toInt_inj.mp z)
                  have z_4 : ¬ (vy_17 : Int32).toInt = (12 : Int32).toInt := fun z => c_68 (Int32.toInt_inj.mp z)
                  have z_5 := congrArg Int32.toInt c_99
                  have y_0 : (0 : Int32).toInt = 0 := by decide
                  have y_12 : (12 : Int32).toInt = 12 := by decide
                  have y_1 : (1 : Int32).toInt = 1 := by decide
                  have t_x_105 : x_105.toInt = (vy_17 : Int32).toInt + (1 : Int32).toInt := by rw [ex_105]; exact add_toInt (by omega) (by omega)
                  omega
                have ha_107 : 0 ≤ (x_105 : Int32).toInt := by
                  have z_1 := Int32.le_iff_toInt_le.mp (Int32.not_lt.mp c_31)
                  have z_2 := congrArg Int32.toInt c_59
                  have z_3 : ¬ (r_65 : Int32).toInt = (0 : Int32).toInt := fun z => c_67 (Int32.toInt_inj.mp z)
                  have z_4 : ¬ (vy_17 : Int32).toInt = (12 : Int32).toInt := fun z => c_68 (Int32.toInt_inj.mp z)
                  have z_5 := congrArg Int32.toInt c_99
                  have y_0 : (0 : Int32).toInt = 0 := by decide
                  have y_12 : (12 : Int32).toInt = 12 := by decide
                  have y_1 : (1 : Int32).toInt = 1 := by decide
                  have t_x_105 : x_105.toInt = (vy_17 : Int32).toInt + (1 : Int32).toInt := by rw [ex_105]; exact add_toInt (by omega) (by omega)
                  omega
                have ha_108 : 0 ≤ ((Tv 0) : Int32).toInt ∧ ((Tv 0) : Int32).toInt ≤ 400 ∧ 0 ≤ (sv_94 : Int32).toInt ∧ (sv_94 : Int32).toInt ≤ 400 ∧ 0 ≤ (sv_95 : Int32).toInt ∧ (sv_95 : Int32).toInt ≤ 400 := by
                  have z_1 := Int32.le_iff_toInt_le.mp (Int32.not_lt.mp c_31)
                  have z_2 := congrArg Int32.toInt c_59
                  have z_3 : ¬ (r_65 : Int32).toInt = (0 : Int32).toInt := fun z => c_67 (Int32.toInt_inj.mp z)
                  have z_4 : ¬ (vy_17 : Int32).toInt = (12 : Int32).toInt := fun z => c_68 (Int32.toInt_inj.mp z)
                  have z_5 := congrArg Int32.toInt c_99
                  have y_0 : (0 : Int32).toInt = 0 := by decide
                  have y_12 : (12 : Int32).toInt = 12 := by decide
                  omega
                exact ih_26 x_105 sv_103 sv_82 sv_104 sv_94 sv_95 sv_96 sv_87 _ _ _ (by omega) ha_107 ha_108 (hP.sub [2, 3, 0, 1] rfl) (hD.sub [2, 3, 0, 1] rfl rfl) hS (lv_sub hl [0, 1, 2] rfl)
              · skip
                refine lv_aload_n hx hb dX7_read_81 rfl (lv_at hl 1 rfl) ?_
                refine lv_aload_n hx hb dX7_read_82 rfl (lv_at hl 2 rfl) ?_
                refine lv_iconst (v := 0) hx hb dX7_read_83 (by decide) ?_
                have ha_109 : 0 ≤ ((Tv 0) : Int32).toInt ∧ ((Tv 0) : Int32).toInt ≤ 400 ∧ 0 ≤ (sv_94 : Int32).toInt ∧ (sv_94 : Int32).toInt ≤ 400 ∧ 0 ≤ (sv_95 : Int32).toInt ∧ (sv_95 : Int32).toInt ≤ 400 := by
                  have z_1 := Int32.le_iff_toInt_le.mp (Int32.not_lt.mp c_31)
                  have z_2 := congrArg Int32.toInt c_59
                  have z_3 : ¬ (r_65 : Int32).toInt = (0 : Int32).toInt := fun z => c_67 (Int32.toInt_inj.mp z)
                  have z_4 : ¬ (vy_17 : Int32).toInt = (12 : Int32).toInt := fun z => c_68 (Int32.toInt_inj.mp z)
                  have z_5 : ¬ (r_97 : Int32).toInt = (0 : Int32).toInt := fun z => c_99 (Int32.toInt_inj.mp z)
                  have y_0 : (0 : Int32).toInt = 0 := by decide
                  have y_12 : (12 : Int32).toInt = 12 := by decide
                  omega
                refine cV (a := (Va 0)) (As := [.ref (Ta 0), .int 0]) (rest := []) (wr := []) ⟨hx, hb, hml, hown, hts⟩ hK hX hA (ct_X7_readTest_0 l D tc sk Va (fun k => ([sv_81, sv_82] : List (Int32)).getD k 0) (fun k => ([(fun _ => 0), sv_83] : List (Nat → Int32)).getD k (fun _ => 0)) Ta (fun k => ([(Tv 0), sv_94, sv_95, sv_96, sv_87] : List (Int32)).getD k 0) Tf ha_109) k_655 k_652 k_654 k_11 k_99 pl_X7_readTest ⟨Nat.le_of_ble_eq_true rfl, Nat.le_of_ble_eq_true rfl⟩ rfl rfl (va_recv hK hP (ci := 7) (q0 := 0) rfl rfl) hP hD hS [0, 1, 2, 3] [] rfl rfl rfl rfl rfl (by decide) rfl hl.1 rfl (Nat.le_of_ble_eq_true rfl) dX7_read_84 ⟨Nat.le_of_ble_eq_true rfl, Nat.le_of_ble_eq_true rfl⟩ (fun v_110 u_111 H locs hv_112 hP hD hS => ?_)
                obtain ⟨sv_113, sv_114, sv_115, sv_116, sv_117, sv_118, sv_119⟩ := u_111
                obtain ⟨rfl, he_120⟩ := hv_112
                have he_120 : (0 ≤ ((Tv 0) : Int32).toInt ∧ ((Tv 0) : Int32).toInt ≤ 400 ∧ 0 ≤ (sv_116 : Int32).toInt ∧ (sv_116 : Int32).toInt ≤ 400 ∧ 0 ≤ (sv_117 : Int32).toInt ∧ (sv_117 : Int32).toInt ≤ 400) := he_120
                refine W.eq (g2 := F0 m 87 ls []) rfl ?_
                have hP : va_P D classes [((Va 0), .inr (7, [.ref (Va 1), .int sv_113, .int sv_114])), ((Va 1), .inl (tc 0, 400, .inl sv_115)), ((Ta 0), .inr (10, [.ref (Ta 1), .int (Tv 0), .int sv_116, .int sv_117, .int sv_118, .int sv_119])), ((Ta 1), .inl (tc 0, 400, .inl (Tf 1)))] H := hP
                have hD : va_D A [((Va 0), .inr (7, [.ref (Va 1), .int sv_113, .int sv_114])), ((Va 1), .inl (tc 0, 400, .inl sv_115)), ((Ta 0), .inr (10, [.ref (Ta 1), .int (Tv 0), .int sv_116, .int sv_117, .int sv_118, .int sv_119])), ((Ta 1), .inl (tc 0, 400, .inl (Tf 1)))] := hD
                refine lv_aload_n hx hb dX7_read_87 rfl (lv_at hl 1 rfl) ?_
                refine lv_bipush (v := (-3)) hx hb dX7_read_88 (by decide) ?_
                refine cV (a := (Va 0)) (As := [.int (-3)]) (rest := []) (wr := [((Ta 0), .inr (10, [.ref (Ta 1), .int (Tv 0), .int sv_116, .int sv_117, .int sv_118, .int sv_119])), ((Ta 1), .inl (tc 0, 400, .inl (Tf 1)))]) ⟨hx, hb, hml, hown, hts⟩ hK hX hA (ct_X7_put l D tc sk Va (fun k => ([sv_113, sv_114] : List (Int32)).getD k 0) (fun k => ([(fun _ => 0), sv_115] : List (Nat → Int32)).getD k (fun _ => 0)) (-3)) k_642 k_639 k_641 k_10 k_99 pl_X7_put ⟨Nat.le_of_ble_eq_true rfl, Nat.le_of_ble_eq_true rfl⟩ rfl rfl (va_recv hK hP (ci := 7) (q0 := 0) rfl rfl) hP hD hS [0, 1] [2, 3] rfl rfl rfl rfl rfl (by decide) rfl hl.1 rfl (Nat.le_of_ble_eq_true rfl) dX7_read_90 ⟨Nat.le_of_ble_eq_true rfl, Nat.le_of_ble_eq_true rfl⟩ (fun v_121 u_122 H locs hv_123 hP hD hS => ?_)
                obtain ⟨sv_124, sv_125⟩ := u_122
                obtain rfl : v_121 = none := hv_123
                refine W.eq (g2 := F0 m 93 ls []) rfl ?_
                have hP : va_P D classes [((Ta 0), .inr (10, [.ref (Ta 1), .int (Tv 0), .int sv_116, .int sv_117, .int sv_118, .int sv_119])), ((Ta 1), .inl (tc 0, 400, .inl (Tf 1))), ((Va 0), .inr (7, [.ref (Va 1), .int sv_124, .int sv_114])), ((Va 1), .inl (tc 0, 400, .inl sv_125))] H := hP
                have hD : va_D A [((Ta 0), .inr (10, [.ref (Ta 1), .int (Tv 0), .int sv_116, .int sv_117, .int sv_118, .int sv_119])), ((Ta 1), .inl (tc 0, 400, .inl (Tf 1))), ((Va 0), .inr (7, [.ref (Va 1), .int sv_124, .int sv_114])), ((Va 1), .inl (tc 0, 400, .inl sv_125))] := hD
                refine lv_goto (tgt := 102) hx hb dX7_read_93 (by decide) ?_
                obtain ⟨x_126, ex_126⟩ : ∃ y : Int32, y = vy_17 + 1 := ⟨_, rfl⟩
                refine lv_iinc (v := x_126) (lv' := [(2, .int x_126), (0, .ref (Va 0)), (1, .ref (Ta 0))]) hx hb dX7_read_102 hl (k := 0) rfl (by rw [ex_126]; rfl) (by decide) rfl (fun ls hl => ?_)
                refine lv_goto (tgt := 16) hx hb dX7_read_105 (by decide) ?_
                have hb_127 : 13 - (x_126 : Int32).toInt < 13 - (vy_17 : Int32).toInt ∧ 1 ≤ 13 - (vy_17 : Int32).toInt := by
                  have z_1 := Int32.le_iff_toInt_le.mp (Int32.not_lt.mp c_31)
                  have z_2 := congrArg Int32.toInt c_59
                  have z_3 : ¬ (r_65 : Int32).toInt = (0 : Int32).toInt := fun z => c_67 (Int32.toInt_inj.mp z)
                  have z_4 : ¬ (vy_17 : Int32).toInt = (12 : Int32).toInt := fun z => c_68 (Int32.toInt_inj.mp z)
                  have z_5 : ¬ (r_97 : Int32).toInt = (0 : Int32).toInt := fun z => c_99 (Int32.toInt_inj.mp z)
                  have y_0 : (0 : Int32).toInt = 0 := by decide
                  have y_12 : (12 : Int32).toInt = 12 := by decide
                  have y_1 : (1 : Int32).toInt = 1 := by decide
                  have t_x_126 : x_126.toInt = (vy_17 : Int32).toInt + (1 : Int32).toInt := by rw [ex_126]; exact add_toInt (by omega) (by omega)
                  omega
                have ha_128 : 0 ≤ (x_126 : Int32).toInt := by
                  have z_1 := Int32.le_iff_toInt_le.mp (Int32.not_lt.mp c_31)
                  have z_2 := congrArg Int32.toInt c_59
                  have z_3 : ¬ (r_65 : Int32).toInt = (0 : Int32).toInt := fun z => c_67 (Int32.toInt_inj.mp z)
                  have z_4 : ¬ (vy_17 : Int32).toInt = (12 : Int32).toInt := fun z => c_68 (Int32.toInt_inj.mp z)
                  have z_5 : ¬ (r_97 : Int32).toInt = (0 : Int32).toInt := fun z => c_99 (Int32.toInt_inj.mp z)
                  have y_0 : (0 : Int32).toInt = 0 := by decide
                  have y_12 : (12 : Int32).toInt = 12 := by decide
                  have y_1 : (1 : Int32).toInt = 1 := by decide
                  have t_x_126 : x_126.toInt = (vy_17 : Int32).toInt + (1 : Int32).toInt := by rw [ex_126]; exact add_toInt (by omega) (by omega)
                  omega
                have ha_129 : 0 ≤ ((Tv 0) : Int32).toInt ∧ ((Tv 0) : Int32).toInt ≤ 400 ∧ 0 ≤ (sv_116 : Int32).toInt ∧ (sv_116 : Int32).toInt ≤ 400 ∧ 0 ≤ (sv_117 : Int32).toInt ∧ (sv_117 : Int32).toInt ≤ 400 := by
                  have z_1 := Int32.le_iff_toInt_le.mp (Int32.not_lt.mp c_31)
                  have z_2 := congrArg Int32.toInt c_59
                  have z_3 : ¬ (r_65 : Int32).toInt = (0 : Int32).toInt := fun z => c_67 (Int32.toInt_inj.mp z)
                  have z_4 : ¬ (vy_17 : Int32).toInt = (12 : Int32).toInt := fun z => c_68 (Int32.toInt_inj.mp z)
                  have z_5 : ¬ (r_97 : Int32).toInt = (0 : Int32).toInt := fun z => c_99 (Int32.toInt_inj.mp z)
                  have y_0 : (0 : Int32).toInt = 0 := by decide
                  have y_12 : (12 : Int32).toInt = 12 := by decide
                  omega
                exact ih_26 x_126 sv_124 sv_114 sv_125 sv_116 sv_117 sv_118 sv_119 _ _ _ (by omega) ha_128 ha_129 (hP.sub [2, 3, 0, 1] rfl) (hD.sub [2, 3, 0, 1] rfl rfl) hS (lv_sub hl [0, 1, 2] rfl)
            · skip
              refine lv_aload_n hx hb dX7_read_58 rfl (lv_at hl 2 rfl) ?_
              refine lv_iconst (v := 4) hx hb dX7_read_59 (by decide) ?_
              have ha_130 : 0 ≤ ((Tv 0) : Int32).toInt ∧ ((Tv 0) : Int32).toInt ≤ 400 ∧ 0 ≤ (vy_21 : Int32).toInt ∧ (vy_21 : Int32).toInt ≤ 400 ∧ 0 ≤ (vy_22 : Int32).toInt ∧ (vy_22 : Int32).toInt ≤ 400 := by
                have z_1 := Int32.le_iff_toInt_le.mp (Int32.not_lt.mp c_31)
                have z_2 := congrArg Int32.toInt c_59
                have z_3 : ¬ (r_65 : Int32).toInt = (0 : Int32).toInt := fun z => c_67 (Int32.toInt_inj.mp z)
                have z_4 := congrArg Int32.toInt c_68
                have y_0 : (0 : Int32).toInt = 0 := by decide
                have y_12 : (12 : Int32).toInt = 12 := by decide
                omega
              refine cV (a := (Ta 0)) (As := [.int 4]) (rest := []) (wr := [((Va 0), .inr (7, [.ref (Va 1), .int vy_18, .int vy_19])), ((Va 1), .inl (tc 0, 400, .inl vy_20))]) ⟨hx, hb, hml, hown, hts⟩ hK hX hA (ct_X10_fail l D tc sk Ta (fun k => ([(Tv 0), vy_21, vy_22, vy_23, vy_24] : List (Int32)).getD k 0) Tf 4 ha_130) k_557 k_619 k_555 k_556 k_96 pl_X10_fail ⟨Nat.le_of_ble_eq_true rfl, Nat.le_of_ble_eq_true rfl⟩ rfl rfl (va_recv hK hP (ci := 10) (q0 := 2) rfl rfl) hP hD hS [2, 3] [0, 1] rfl rfl rfl rfl rfl (by decide) rfl hl.1 rfl (Nat.le_of_ble_eq_true rfl) dX7_read_60 ⟨Nat.le_of_ble_eq_true rfl, Nat.le_of_ble_eq_true rfl⟩ (fun v_131 u_132 H locs hv_133 hP hD hS => ?_)
              obtain ⟨sv_134, sv_135⟩ := u_132
              obtain ⟨rfl, he_136⟩ := hv_133
              have he_136 : (0 ≤ ((Tv 0) : Int32).toInt ∧ ((Tv 0) : Int32).toInt ≤ 400 ∧ 0 ≤ (vy_21 : Int32).toInt ∧ (vy_21 : Int32).toInt ≤ 400 ∧ 0 ≤ (vy_22 : Int32).toInt ∧ (vy_22 : Int32).toInt ≤ 400) := he_136
              refine W.eq (g2 := F0 m 63 ls []) rfl ?_
              have hP : va_P D classes [((Va 0), .inr (7, [.ref (Va 1), .int vy_18, .int vy_19])), ((Va 1), .inl (tc 0, 400, .inl vy_20)), ((Ta 0), .inr (10, [.ref (Ta 1), .int (Tv 0), .int vy_21, .int vy_22, .int sv_134, .int sv_135])), ((Ta 1), .inl (tc 0, 400, .inl (Tf 1)))] H := hP
              have hD : va_D A [((Va 0), .inr (7, [.ref (Va 1), .int vy_18, .int vy_19])), ((Va 1), .inl (tc 0, 400, .inl vy_20)), ((Ta 0), .inr (10, [.ref (Ta 1), .int (Tv 0), .int vy_21, .int vy_22, .int sv_134, .int sv_135])), ((Ta 1), .inl (tc 0, 400, .inl (Tf 1)))] := hD
              refine lv_aload_n hx hb dX7_read_63 rfl (lv_at hl 2 rfl) ?_
              have ha_137 : 0 ≤ ((Tv 0) : Int32).toInt ∧ ((Tv 0) : Int32).toInt ≤ 400 ∧ 0 ≤ (vy_21 : Int32).toInt ∧ (vy_21 : Int32).toInt ≤ 400 ∧ 0 ≤ (vy_22 : Int32).toInt ∧ (vy_22 : Int32).toInt ≤ 400 := by
                have z_1 := Int32.le_iff_toInt_le.mp (Int32.not_lt.mp c_31)
                have z_2 := congrArg Int32.toInt c_59
                have z_3 : ¬ (r_65 : Int32).toInt = (0 : Int32).toInt := fun z => c_67 (Int32.toInt_inj.mp z)
                have z_4 := congrArg Int32.toInt c_68
                have y_0 : (0 : Int32).toInt = 0 := by decide
                have y_12 : (12 : Int32).toInt = 12 := by decide
                omega
              refine cV (a := (Ta 0)) (As := []) (rest := []) (wr := [((Va 0), .inr (7, [.ref (Va 1), .int vy_18, .int vy_19])), ((Va 1), .inl (tc 0, 400, .inl vy_20))]) ⟨hx, hb, hml, hown, hts⟩ hK hX hA (ct_X10_step l D tc sk Ta (fun k => ([(Tv 0), vy_21, vy_22, sv_134, sv_135] : List (Int32)).getD k 0) Tf ha_137) k_478 k_620 k_476 k_477 k_96 pl_X10_step ⟨Nat.le_of_ble_eq_true rfl, Nat.le_of_ble_eq_true rfl⟩ rfl rfl (va_recv hK hP (ci := 10) (q0 := 2) rfl rfl) hP hD hS [2, 3] [0, 1] rfl rfl rfl rfl rfl (by decide) rfl hl.1 rfl (Nat.le_of_ble_eq_true rfl) dX7_read_64 ⟨Nat.le_of_ble_eq_true rfl, Nat.le_of_ble_eq_true rfl⟩ (fun v_138 u_139 H locs hv_140 hP hD hS => ?_)
              obtain ⟨sv_141, sv_142, sv_143⟩ := u_139
              obtain ⟨rfl, he_144⟩ := hv_140
              have he_144 : (0 ≤ ((Tv 0) : Int32).toInt ∧ ((Tv 0) : Int32).toInt ≤ 400 ∧ 0 ≤ (sv_141 : Int32).toInt ∧ (sv_141 : Int32).toInt ≤ 400 ∧ 0 ≤ (sv_142 : Int32).toInt ∧ (sv_142 : Int32).toInt ≤ 400) := he_144
              refine W.eq (g2 := F0 m 67 ls []) rfl ?_
              have hP : va_P D classes [((Va 0), .inr (7, [.ref (Va 1), .int vy_18, .int vy_19])), ((Va 1), .inl (tc 0, 400, .inl vy_20)), ((Ta 0), .inr (10, [.ref (Ta 1), .int (Tv 0), .int sv_141, .int sv_142, .int sv_143, .int sv_135])), ((Ta 1), .inl (tc 0, 400, .inl (Tf 1)))] H := hP
              have hD : va_D A [((Va 0), .inr (7, [.ref (Va 1), .int vy_18, .int vy_19])), ((Va 1), .inl (tc 0, 400, .inl vy_20)), ((Ta 0), .inr (10, [.ref (Ta 1), .int (Tv 0), .int sv_141, .int sv_142, .int sv_143, .int sv_135])), ((Ta 1), .inl (tc 0, 400, .inl (Tf 1)))] := hD
              refine lv_aload_n hx hb dX7_read_67 rfl (lv_at hl 1 rfl) ?_
              refine lv_aload_n hx hb dX7_read_68 rfl (lv_at hl 2 rfl) ?_
              have ha_145 : 0 ≤ ((Tv 0) : Int32).toInt ∧ ((Tv 0) : Int32).toInt ≤ 400 ∧ 0 ≤ (sv_141 : Int32).toInt ∧ (sv_141 : Int32).toInt ≤ 400 ∧ 0 ≤ (sv_142 : Int32).toInt ∧ (sv_142 : Int32).toInt ≤ 400 := by
                have z_1 := Int32.le_iff_toInt_le.mp (Int32.not_lt.mp c_31)
                have z_2 := congrArg Int32.toInt c_59
                have z_3 : ¬ (r_65 : Int32).toInt = (0 : Int32).toInt := fun z => c_67 (Int32.toInt_inj.mp z)
                have z_4 := congrArg Int32.toInt c_68
                have y_0 : (0 : Int32).toInt = 0 := by decide
                have y_12 : (12 : Int32).toInt = 12 := by decide
                omega
              refine cV (a := (Va 0)) (As := [.ref (Ta 0)]) (rest := []) (wr := []) ⟨hx, hb, hml, hown, hts⟩ hK hX hA (ct_X7_readSum l D tc sk Va (fun k => ([vy_18, vy_19] : List (Int32)).getD k 0) (fun k => ([(fun _ => 0), vy_20] : List (Nat → Int32)).getD k (fun _ => 0)) Ta (fun k => ([(Tv 0), sv_141, sv_142, sv_143, sv_135] : List (Int32)).getD k 0) Tf ha_145) k_624 k_621 k_623 k_7 k_99 pl_X7_readSum ⟨Nat.le_of_ble_eq_true rfl, Nat.le_of_ble_eq_true rfl⟩ rfl rfl (va_recv hK hP (ci := 7) (q0 := 0) rfl rfl) hP hD hS [0, 1, 2, 3] [] rfl rfl rfl rfl rfl (by decide) rfl hl.1 rfl (Nat.le_of_ble_eq_true rfl) dX7_read_69 ⟨Nat.le_of_ble_eq_true rfl, Nat.le_of_ble_eq_true rfl⟩ (fun v_146 u_147 H locs hv_148 hP hD hS => ?_)
              obtain ⟨sv_149, sv_150, sv_151, sv_152, sv_153, sv_154, sv_155⟩ := u_147
              obtain ⟨rfl, he_156⟩ := hv_148
              have he_156 : (0 ≤ ((Tv 0) : Int32).toInt ∧ ((Tv 0) : Int32).toInt ≤ 400 ∧ 0 ≤ (sv_152 : Int32).toInt ∧ (sv_152 : Int32).toInt ≤ 400 ∧ 0 ≤ (sv_153 : Int32).toInt ∧ (sv_153 : Int32).toInt ≤ 400) := he_156
              refine W.eq (g2 := F0 m 72 ls []) rfl ?_
              have hP : va_P D classes [((Va 0), .inr (7, [.ref (Va 1), .int sv_149, .int sv_150])), ((Va 1), .inl (tc 0, 400, .inl sv_151)), ((Ta 0), .inr (10, [.ref (Ta 1), .int (Tv 0), .int sv_152, .int sv_153, .int sv_154, .int sv_155])), ((Ta 1), .inl (tc 0, 400, .inl (Tf 1)))] H := hP
              have hD : va_D A [((Va 0), .inr (7, [.ref (Va 1), .int sv_149, .int sv_150])), ((Va 1), .inl (tc 0, 400, .inl sv_151)), ((Ta 0), .inr (10, [.ref (Ta 1), .int (Tv 0), .int sv_152, .int sv_153, .int sv_154, .int sv_155])), ((Ta 1), .inl (tc 0, 400, .inl (Tf 1)))] := hD
              refine lv_aload_n hx hb dX7_read_72 rfl (lv_at hl 2 rfl) ?_
              refine va_ldcS hx hb hown (hX.2.2.2.1 3 _ rfl) dX7_read_73 ?_
              have ha_157 : (3 : Nat) < 7 := by
                have z_1 := Int32.le_iff_toInt_le.mp (Int32.not_lt.mp c_31)
                have z_2 := congrArg Int32.toInt c_59
                have z_3 : ¬ (r_65 : Int32).toInt = (0 : Int32).toInt := fun z => c_67 (Int32.toInt_inj.mp z)
                have z_4 := congrArg Int32.toInt c_68
                have y_0 : (0 : Int32).toInt = 0 := by decide
                have y_12 : (12 : Int32).toInt = 12 := by decide
                have y_3 : (3 : Int32).toInt = 3 := by decide
                omega
              have ha_158 : 0 ≤ ((Tv 0) : Int32).toInt ∧ ((Tv 0) : Int32).toInt ≤ 400 ∧ 0 ≤ (sv_152 : Int32).toInt ∧ (sv_152 : Int32).toInt ≤ 400 ∧ 0 ≤ (sv_153 : Int32).toInt ∧ (sv_153 : Int32).toInt ≤ 400 := by
                have z_1 := Int32.le_iff_toInt_le.mp (Int32.not_lt.mp c_31)
                have z_2 := congrArg Int32.toInt c_59
                have z_3 : ¬ (r_65 : Int32).toInt = (0 : Int32).toInt := fun z => c_67 (Int32.toInt_inj.mp z)
                have z_4 := congrArg Int32.toInt c_68
                have y_0 : (0 : Int32).toInt = 0 := by decide
                have y_12 : (12 : Int32).toInt = 12 := by decide
                omega
              refine cV (a := (Ta 0)) (As := [.ref (sk.1 3)]) (rest := []) (wr := [((Va 0), .inr (7, [.ref (Va 1), .int sv_149, .int sv_150])), ((Va 1), .inl (tc 0, 400, .inl sv_151))]) ⟨hx, hb, hml, hown, hts⟩ hK hX hA (ct_X10_takesWord l D tc sk Ta (fun k => ([(Tv 0), sv_152, sv_153, sv_154, sv_155] : List (Int32)).getD k 0) Tf 3 ha_157 ha_158) k_650 k_647 k_648 k_649 k_96 pl_X10_takesWord ⟨Nat.le_of_ble_eq_true rfl, Nat.le_of_ble_eq_true rfl⟩ rfl rfl (va_recv hK hP (ci := 10) (q0 := 2) rfl rfl) hP hD hS [2, 3] [0, 1] rfl rfl rfl rfl rfl (by decide) rfl hl.1 rfl (Nat.le_of_ble_eq_true rfl) dX7_read_75 ⟨Nat.le_of_ble_eq_true rfl, Nat.le_of_ble_eq_true rfl⟩ (fun v_159 u_160 H locs hv_161 hP hD hS => ?_)
              obtain ⟨sv_162, sv_163, sv_164⟩ := u_160
              obtain ⟨r_165, rfl, he_166⟩ := hv_161
              have he_166 : ((r_165.toInt = 0 ∨ r_165.toInt = 1)) ∧ (0 ≤ ((Tv 0) : Int32).toInt ∧ ((Tv 0) : Int32).toInt ≤ 400 ∧ 0 ≤ (sv_162 : Int32).toInt ∧ (sv_162 : Int32).toInt ≤ 400 ∧ 0 ≤ (sv_163 : Int32).toInt ∧ (sv_163 : Int32).toInt ≤ 400) := he_166
              refine W.eq (g2 := F0 m 78 ls [.int r_165]) rfl ?_
              have hP : va_P D classes [((Va 0), .inr (7, [.ref (Va 1), .int sv_149, .int sv_150])), ((Va 1), .inl (tc 0, 400, .inl sv_151)), ((Ta 0), .inr (10, [.ref (Ta 1), .int (Tv 0), .int sv_162, .int sv_163, .int sv_164, .int sv_155])), ((Ta 1), .inl (tc 0, 400, .inl (Tf 1)))] H := hP
              have hD : va_D A [((Va 0), .inr (7, [.ref (Va 1), .int sv_149, .int sv_150])), ((Va 1), .inl (tc 0, 400, .inl sv_151)), ((Ta 0), .inr (10, [.ref (Ta 1), .int (Tv 0), .int sv_162, .int sv_163, .int sv_164, .int sv_155])), ((Ta 1), .inl (tc 0, 400, .inl (Tf 1)))] := hD
              refine lv_if_eq (tgt := 96) hx hb dX7_read_78 (by decide) (fun c_167 => ?_) (fun c_167 => ?_)
              · skip
                refine lv_aload_n hx hb dX7_read_96 rfl (lv_at hl 1 rfl) ?_
                refine lv_bipush (v := (-2)) hx hb dX7_read_97 (by decide) ?_
                refine cV (a := (Va 0)) (As := [.int (-2)]) (rest := []) (wr := [((Ta 0), .inr (10, [.ref (Ta 1), .int (Tv 0), .int sv_162, .int sv_163, .int sv_164, .int sv_155])), ((Ta 1), .inl (tc 0, 400, .inl (Tf 1)))]) ⟨hx, hb, hml, hown, hts⟩ hK hX hA (ct_X7_put l D tc sk Va (fun k => ([sv_149, sv_150] : List (Int32)).getD k 0) (fun k => ([(fun _ => 0), sv_151] : List (Nat → Int32)).getD k (fun _ => 0)) (-2)) k_642 k_639 k_641 k_10 k_99 pl_X7_put ⟨Nat.le_of_ble_eq_true rfl, Nat.le_of_ble_eq_true rfl⟩ rfl rfl (va_recv hK hP (ci := 7) (q0 := 0) rfl rfl) hP hD hS [0, 1] [2, 3] rfl rfl rfl rfl rfl (by decide) rfl hl.1 rfl (Nat.le_of_ble_eq_true rfl) dX7_read_99 ⟨Nat.le_of_ble_eq_true rfl, Nat.le_of_ble_eq_true rfl⟩ (fun v_168 u_169 H locs hv_170 hP hD hS => ?_)
                obtain ⟨sv_171, sv_172⟩ := u_169
                obtain rfl : v_168 = none := hv_170
                refine W.eq (g2 := F0 m 102 ls []) rfl ?_
                have hP : va_P D classes [((Ta 0), .inr (10, [.ref (Ta 1), .int (Tv 0), .int sv_162, .int sv_163, .int sv_164, .int sv_155])), ((Ta 1), .inl (tc 0, 400, .inl (Tf 1))), ((Va 0), .inr (7, [.ref (Va 1), .int sv_171, .int sv_150])), ((Va 1), .inl (tc 0, 400, .inl sv_172))] H := hP
                have hD : va_D A [((Ta 0), .inr (10, [.ref (Ta 1), .int (Tv 0), .int sv_162, .int sv_163, .int sv_164, .int sv_155])), ((Ta 1), .inl (tc 0, 400, .inl (Tf 1))), ((Va 0), .inr (7, [.ref (Va 1), .int sv_171, .int sv_150])), ((Va 1), .inl (tc 0, 400, .inl sv_172))] := hD
                obtain ⟨x_173, ex_173⟩ : ∃ y : Int32, y = vy_17 + 1 := ⟨_, rfl⟩
                refine lv_iinc (v := x_173) (lv' := [(2, .int x_173), (0, .ref (Va 0)), (1, .ref (Ta 0))]) hx hb dX7_read_102 hl (k := 0) rfl (by rw [ex_173]; rfl) (by decide) rfl (fun ls hl => ?_)
                refine lv_goto (tgt := 16) hx hb dX7_read_105 (by decide) ?_
                have hb_174 : 13 - (x_173 : Int32).toInt < 13 - (vy_17 : Int32).toInt ∧ 1 ≤ 13 - (vy_17 : Int32).toInt := by
                  have z_1 := Int32.le_iff_toInt_le.mp (Int32.not_lt.mp c_31)
                  have z_2 := congrArg Int32.toInt c_59
                  have z_3 : ¬ (r_65 : Int32).toInt = (0 : Int32).toInt := fun z => c_67 (Int32.toInt_inj.mp z)
                  have z_4 := congrArg Int32.toInt c_68
                  have z_5 := congrArg Int32.toInt c_167
                  have y_0 : (0 : Int32).toInt = 0 := by decide
                  have y_12 : (12 : Int32).toInt = 12 := by decide
                  have y_1 : (1 : Int32).toInt = 1 := by decide
                  have t_x_173 : x_173.toInt = (vy_17 : Int32).toInt + (1 : Int32).toInt := by rw [ex_173]; exact add_toInt (by omega) (by omega)
                  omega
                have ha_175 : 0 ≤ (x_173 : Int32).toInt := by
                  have z_1 := Int32.le_iff_toInt_le.mp (Int32.not_lt.mp c_31)
                  have z_2 := congrArg Int32.toInt c_59
                  have z_3 : ¬ (r_65 : Int32).toInt = (0 : Int32).toInt := fun z => c_67 (Int32.toInt_inj.mp z)
                  have z_4 := congrArg Int32.toInt c_68
                  have z_5 := congrArg Int32.toInt c_167
                  have y_0 : (0 : Int32).toInt = 0 := by decide
                  have y_12 : (12 : Int32).toInt = 12 := by decide
                  have y_1 : (1 : Int32).toInt = 1 := by decide
                  have t_x_173 : x_173.toInt = (vy_17 : Int32).toInt + (1 : Int32).toInt := by rw [ex_173]; exact add_toInt (by omega) (by omega)
                  omega
                have ha_176 : 0 ≤ ((Tv 0) : Int32).toInt ∧ ((Tv 0) : Int32).toInt ≤ 400 ∧ 0 ≤ (sv_162 : Int32).toInt ∧ (sv_162 : Int32).toInt ≤ 400 ∧ 0 ≤ (sv_163 : Int32).toInt ∧ (sv_163 : Int32).toInt ≤ 400 := by
                  have z_1 := Int32.le_iff_toInt_le.mp (Int32.not_lt.mp c_31)
                  have z_2 := congrArg Int32.toInt c_59
                  have z_3 : ¬ (r_65 : Int32).toInt = (0 : Int32).toInt := fun z => c_67 (Int32.toInt_inj.mp z)
                  have z_4 := congrArg Int32.toInt c_68
                  have z_5 := congrArg Int32.toInt c_167
                  have y_0 : (0 : Int32).toInt = 0 := by decide
                  have y_12 : (12 : Int32).toInt = 12 := by decide
                  omega
                exact ih_26 x_173 sv_171 sv_150 sv_172 sv_162 sv_163 sv_164 sv_155 _ _ _ (by omega) ha_175 ha_176 (hP.sub [2, 3, 0, 1] rfl) (hD.sub [2, 3, 0, 1] rfl rfl) hS (lv_sub hl [0, 1, 2] rfl)
              · skip
                refine lv_aload_n hx hb dX7_read_81 rfl (lv_at hl 1 rfl) ?_
                refine lv_aload_n hx hb dX7_read_82 rfl (lv_at hl 2 rfl) ?_
                refine lv_iconst (v := 0) hx hb dX7_read_83 (by decide) ?_
                have ha_177 : 0 ≤ ((Tv 0) : Int32).toInt ∧ ((Tv 0) : Int32).toInt ≤ 400 ∧ 0 ≤ (sv_162 : Int32).toInt ∧ (sv_162 : Int32).toInt ≤ 400 ∧ 0 ≤ (sv_163 : Int32).toInt ∧ (sv_163 : Int32).toInt ≤ 400 := by
                  have z_1 := Int32.le_iff_toInt_le.mp (Int32.not_lt.mp c_31)
                  have z_2 := congrArg Int32.toInt c_59
                  have z_3 : ¬ (r_65 : Int32).toInt = (0 : Int32).toInt := fun z => c_67 (Int32.toInt_inj.mp z)
                  have z_4 := congrArg Int32.toInt c_68
                  have z_5 : ¬ (r_165 : Int32).toInt = (0 : Int32).toInt := fun z => c_167 (Int32.toInt_inj.mp z)
                  have y_0 : (0 : Int32).toInt = 0 := by decide
                  have y_12 : (12 : Int32).toInt = 12 := by decide
                  omega
                refine cV (a := (Va 0)) (As := [.ref (Ta 0), .int 0]) (rest := []) (wr := []) ⟨hx, hb, hml, hown, hts⟩ hK hX hA (ct_X7_readTest_0 l D tc sk Va (fun k => ([sv_149, sv_150] : List (Int32)).getD k 0) (fun k => ([(fun _ => 0), sv_151] : List (Nat → Int32)).getD k (fun _ => 0)) Ta (fun k => ([(Tv 0), sv_162, sv_163, sv_164, sv_155] : List (Int32)).getD k 0) Tf ha_177) k_655 k_652 k_654 k_11 k_99 pl_X7_readTest ⟨Nat.le_of_ble_eq_true rfl, Nat.le_of_ble_eq_true rfl⟩ rfl rfl (va_recv hK hP (ci := 7) (q0 := 0) rfl rfl) hP hD hS [0, 1, 2, 3] [] rfl rfl rfl rfl rfl (by decide) rfl hl.1 rfl (Nat.le_of_ble_eq_true rfl) dX7_read_84 ⟨Nat.le_of_ble_eq_true rfl, Nat.le_of_ble_eq_true rfl⟩ (fun v_178 u_179 H locs hv_180 hP hD hS => ?_)
                obtain ⟨sv_181, sv_182, sv_183, sv_184, sv_185, sv_186, sv_187⟩ := u_179
                obtain ⟨rfl, he_188⟩ := hv_180
                have he_188 : (0 ≤ ((Tv 0) : Int32).toInt ∧ ((Tv 0) : Int32).toInt ≤ 400 ∧ 0 ≤ (sv_184 : Int32).toInt ∧ (sv_184 : Int32).toInt ≤ 400 ∧ 0 ≤ (sv_185 : Int32).toInt ∧ (sv_185 : Int32).toInt ≤ 400) := he_188
                refine W.eq (g2 := F0 m 87 ls []) rfl ?_
                have hP : va_P D classes [((Va 0), .inr (7, [.ref (Va 1), .int sv_181, .int sv_182])), ((Va 1), .inl (tc 0, 400, .inl sv_183)), ((Ta 0), .inr (10, [.ref (Ta 1), .int (Tv 0), .int sv_184, .int sv_185, .int sv_186, .int sv_187])), ((Ta 1), .inl (tc 0, 400, .inl (Tf 1)))] H := hP
                have hD : va_D A [((Va 0), .inr (7, [.ref (Va 1), .int sv_181, .int sv_182])), ((Va 1), .inl (tc 0, 400, .inl sv_183)), ((Ta 0), .inr (10, [.ref (Ta 1), .int (Tv 0), .int sv_184, .int sv_185, .int sv_186, .int sv_187])), ((Ta 1), .inl (tc 0, 400, .inl (Tf 1)))] := hD
                refine lv_aload_n hx hb dX7_read_87 rfl (lv_at hl 1 rfl) ?_
                refine lv_bipush (v := (-3)) hx hb dX7_read_88 (by decide) ?_
                refine cV (a := (Va 0)) (As := [.int (-3)]) (rest := []) (wr := [((Ta 0), .inr (10, [.ref (Ta 1), .int (Tv 0), .int sv_184, .int sv_185, .int sv_186, .int sv_187])), ((Ta 1), .inl (tc 0, 400, .inl (Tf 1)))]) ⟨hx, hb, hml, hown, hts⟩ hK hX hA (ct_X7_put l D tc sk Va (fun k => ([sv_181, sv_182] : List (Int32)).getD k 0) (fun k => ([(fun _ => 0), sv_183] : List (Nat → Int32)).getD k (fun _ => 0)) (-3)) k_642 k_639 k_641 k_10 k_99 pl_X7_put ⟨Nat.le_of_ble_eq_true rfl, Nat.le_of_ble_eq_true rfl⟩ rfl rfl (va_recv hK hP (ci := 7) (q0 := 0) rfl rfl) hP hD hS [0, 1] [2, 3] rfl rfl rfl rfl rfl (by decide) rfl hl.1 rfl (Nat.le_of_ble_eq_true rfl) dX7_read_90 ⟨Nat.le_of_ble_eq_true rfl, Nat.le_of_ble_eq_true rfl⟩ (fun v_189 u_190 H locs hv_191 hP hD hS => ?_)
                obtain ⟨sv_192, sv_193⟩ := u_190
                obtain rfl : v_189 = none := hv_191
                refine W.eq (g2 := F0 m 93 ls []) rfl ?_
                have hP : va_P D classes [((Ta 0), .inr (10, [.ref (Ta 1), .int (Tv 0), .int sv_184, .int sv_185, .int sv_186, .int sv_187])), ((Ta 1), .inl (tc 0, 400, .inl (Tf 1))), ((Va 0), .inr (7, [.ref (Va 1), .int sv_192, .int sv_182])), ((Va 1), .inl (tc 0, 400, .inl sv_193))] H := hP
                have hD : va_D A [((Ta 0), .inr (10, [.ref (Ta 1), .int (Tv 0), .int sv_184, .int sv_185, .int sv_186, .int sv_187])), ((Ta 1), .inl (tc 0, 400, .inl (Tf 1))), ((Va 0), .inr (7, [.ref (Va 1), .int sv_192, .int sv_182])), ((Va 1), .inl (tc 0, 400, .inl sv_193))] := hD
                refine lv_goto (tgt := 102) hx hb dX7_read_93 (by decide) ?_
                obtain ⟨x_194, ex_194⟩ : ∃ y : Int32, y = vy_17 + 1 := ⟨_, rfl⟩
                refine lv_iinc (v := x_194) (lv' := [(2, .int x_194), (0, .ref (Va 0)), (1, .ref (Ta 0))]) hx hb dX7_read_102 hl (k := 0) rfl (by rw [ex_194]; rfl) (by decide) rfl (fun ls hl => ?_)
                refine lv_goto (tgt := 16) hx hb dX7_read_105 (by decide) ?_
                have hb_195 : 13 - (x_194 : Int32).toInt < 13 - (vy_17 : Int32).toInt ∧ 1 ≤ 13 - (vy_17 : Int32).toInt := by
                  have z_1 := Int32.le_iff_toInt_le.mp (Int32.not_lt.mp c_31)
                  have z_2 := congrArg Int32.toInt c_59
                  have z_3 : ¬ (r_65 : Int32).toInt = (0 : Int32).toInt := fun z => c_67 (Int32.toInt_inj.mp z)
                  have z_4 := congrArg Int32.toInt c_68
                  have z_5 : ¬ (r_165 : Int32).toInt = (0 : Int32).toInt := fun z => c_167 (Int32.toInt_inj.mp z)
                  have y_0 : (0 : Int32).toInt = 0 := by decide
                  have y_12 : (12 : Int32).toInt = 12 := by decide
                  have y_1 : (1 : Int32).toInt = 1 := by decide
                  have t_x_194 : x_194.toInt = (vy_17 : Int32).toInt + (1 : Int32).toInt := by rw [ex_194]; exact add_toInt (by omega) (by omega)
                  omega
                have ha_196 : 0 ≤ (x_194 : Int32).toInt := by
                  have z_1 := Int32.le_iff_toInt_le.mp (Int32.not_lt.mp c_31)
                  have z_2 := congrArg Int32.toInt c_59
                  have z_3 : ¬ (r_65 : Int32).toInt = (0 : Int32).toInt := fun z => c_67 (Int32.toInt_inj.mp z)
                  have z_4 := congrArg Int32.toInt c_68
                  have z_5 : ¬ (r_165 : Int32).toInt = (0 : Int32).toInt := fun z => c_167 (Int32.toInt_inj.mp z)
                  have y_0 : (0 : Int32).toInt = 0 := by decide
                  have y_12 : (12 : Int32).toInt = 12 := by decide
                  have y_1 : (1 : Int32).toInt = 1 := by decide
                  have t_x_194 : x_194.toInt = (vy_17 : Int32).toInt + (1 : Int32).toInt := by rw [ex_194]; exact add_toInt (by omega) (by omega)
                  omega
                have ha_197 : 0 ≤ ((Tv 0) : Int32).toInt ∧ ((Tv 0) : Int32).toInt ≤ 400 ∧ 0 ≤ (sv_184 : Int32).toInt ∧ (sv_184 : Int32).toInt ≤ 400 ∧ 0 ≤ (sv_185 : Int32).toInt ∧ (sv_185 : Int32).toInt ≤ 400 := by
                  have z_1 := Int32.le_iff_toInt_le.mp (Int32.not_lt.mp c_31)
                  have z_2 := congrArg Int32.toInt c_59
                  have z_3 : ¬ (r_65 : Int32).toInt = (0 : Int32).toInt := fun z => c_67 (Int32.toInt_inj.mp z)
                  have z_4 := congrArg Int32.toInt c_68
                  have z_5 : ¬ (r_165 : Int32).toInt = (0 : Int32).toInt := fun z => c_167 (Int32.toInt_inj.mp z)
                  have y_0 : (0 : Int32).toInt = 0 := by decide
                  have y_12 : (12 : Int32).toInt = 12 := by decide
                  omega
                exact ih_26 x_194 sv_192 sv_182 sv_193 sv_184 sv_185 sv_186 sv_187 _ _ _ (by omega) ha_196 ha_197 (hP.sub [2, 3, 0, 1] rfl) (hD.sub [2, 3, 0, 1] rfl rfl) hS (lv_sub hl [0, 1, 2] rfl)
          · skip
            refine lv_aload_n hx hb dX7_read_44 rfl (lv_at hl 2 rfl) ?_
            refine lv_iconst (v := 0) hx hb dX7_read_45 (by decide) ?_
            have ha_198 : 0 ≤ ((Tv 0) : Int32).toInt ∧ ((Tv 0) : Int32).toInt ≤ 400 ∧ 0 ≤ (vy_21 : Int32).toInt ∧ (vy_21 : Int32).toInt ≤ 400 ∧ 0 ≤ (vy_22 : Int32).toInt ∧ (vy_22 : Int32).toInt ≤ 400 := by
              have z_1 := Int32.le_iff_toInt_le.mp (Int32.not_lt.mp c_31)
              have z_2 := congrArg Int32.toInt c_59
              have z_3 := congrArg Int32.toInt c_67
              have y_0 : (0 : Int32).toInt = 0 := by decide
              have y_12 : (12 : Int32).toInt = 12 := by decide
              omega
            refine cV (a := (Ta 0)) (As := [.int 0]) (rest := []) (wr := [((Va 0), .inr (7, [.ref (Va 1), .int vy_18, .int vy_19])), ((Va 1), .inl (tc 0, 400, .inl vy_20))]) ⟨hx, hb, hml, hown, hts⟩ hK hX hA (ct_X10_fail l D tc sk Ta (fun k => ([(Tv 0), vy_21, vy_22, vy_23, vy_24] : List (Int32)).getD k 0) Tf 0 ha_198) k_557 k_619 k_555 k_556 k_96 pl_X10_fail ⟨Nat.le_of_ble_eq_true rfl, Nat.le_of_ble_eq_true rfl⟩ rfl rfl (va_recv hK hP (ci := 10) (q0 := 2) rfl rfl) hP hD hS [2, 3] [0, 1] rfl rfl rfl rfl rfl (by decide) rfl hl.1 rfl (Nat.le_of_ble_eq_true rfl) dX7_read_46 ⟨Nat.le_of_ble_eq_true rfl, Nat.le_of_ble_eq_true rfl⟩ (fun v_199 u_200 H locs hv_201 hP hD hS => ?_)
            obtain ⟨sv_202, sv_203⟩ := u_200
            obtain ⟨rfl, he_204⟩ := hv_201
            have he_204 : (0 ≤ ((Tv 0) : Int32).toInt ∧ ((Tv 0) : Int32).toInt ≤ 400 ∧ 0 ≤ (vy_21 : Int32).toInt ∧ (vy_21 : Int32).toInt ≤ 400 ∧ 0 ≤ (vy_22 : Int32).toInt ∧ (vy_22 : Int32).toInt ≤ 400) := he_204
            refine W.eq (g2 := F0 m 49 ls []) rfl ?_
            have hP : va_P D classes [((Va 0), .inr (7, [.ref (Va 1), .int vy_18, .int vy_19])), ((Va 1), .inl (tc 0, 400, .inl vy_20)), ((Ta 0), .inr (10, [.ref (Ta 1), .int (Tv 0), .int vy_21, .int vy_22, .int sv_202, .int sv_203])), ((Ta 1), .inl (tc 0, 400, .inl (Tf 1)))] H := hP
            have hD : va_D A [((Va 0), .inr (7, [.ref (Va 1), .int vy_18, .int vy_19])), ((Va 1), .inl (tc 0, 400, .inl vy_20)), ((Ta 0), .inr (10, [.ref (Ta 1), .int (Tv 0), .int vy_21, .int vy_22, .int sv_202, .int sv_203])), ((Ta 1), .inl (tc 0, 400, .inl (Tf 1)))] := hD
            refine lv_goto (tgt := 63) hx hb dX7_read_49 (by decide) ?_
            refine lv_aload_n hx hb dX7_read_63 rfl (lv_at hl 2 rfl) ?_
            have ha_205 : 0 ≤ ((Tv 0) : Int32).toInt ∧ ((Tv 0) : Int32).toInt ≤ 400 ∧ 0 ≤ (vy_21 : Int32).toInt ∧ (vy_21 : Int32).toInt ≤ 400 ∧ 0 ≤ (vy_22 : Int32).toInt ∧ (vy_22 : Int32).toInt ≤ 400 := by
              have z_1 := Int32.le_iff_toInt_le.mp (Int32.not_lt.mp c_31)
              have z_2 := congrArg Int32.toInt c_59
              have z_3 := congrArg Int32.toInt c_67
              have y_0 : (0 : Int32).toInt = 0 := by decide
              have y_12 : (12 : Int32).toInt = 12 := by decide
              omega
            refine cV (a := (Ta 0)) (As := []) (rest := []) (wr := [((Va 0), .inr (7, [.ref (Va 1), .int vy_18, .int vy_19])), ((Va 1), .inl (tc 0, 400, .inl vy_20))]) ⟨hx, hb, hml, hown, hts⟩ hK hX hA (ct_X10_step l D tc sk Ta (fun k => ([(Tv 0), vy_21, vy_22, sv_202, sv_203] : List (Int32)).getD k 0) Tf ha_205) k_478 k_620 k_476 k_477 k_96 pl_X10_step ⟨Nat.le_of_ble_eq_true rfl, Nat.le_of_ble_eq_true rfl⟩ rfl rfl (va_recv hK hP (ci := 10) (q0 := 2) rfl rfl) hP hD hS [2, 3] [0, 1] rfl rfl rfl rfl rfl (by decide) rfl hl.1 rfl (Nat.le_of_ble_eq_true rfl) dX7_read_64 ⟨Nat.le_of_ble_eq_true rfl, Nat.le_of_ble_eq_true rfl⟩ (fun v_206 u_207 H locs hv_208 hP hD hS => ?_)
            obtain ⟨sv_209, sv_210, sv_211⟩ := u_207
            obtain ⟨rfl, he_212⟩ := hv_208
            have he_212 : (0 ≤ ((Tv 0) : Int32).toInt ∧ ((Tv 0) : Int32).toInt ≤ 400 ∧ 0 ≤ (sv_209 : Int32).toInt ∧ (sv_209 : Int32).toInt ≤ 400 ∧ 0 ≤ (sv_210 : Int32).toInt ∧ (sv_210 : Int32).toInt ≤ 400) := he_212
            refine W.eq (g2 := F0 m 67 ls []) rfl ?_
            have hP : va_P D classes [((Va 0), .inr (7, [.ref (Va 1), .int vy_18, .int vy_19])), ((Va 1), .inl (tc 0, 400, .inl vy_20)), ((Ta 0), .inr (10, [.ref (Ta 1), .int (Tv 0), .int sv_209, .int sv_210, .int sv_211, .int sv_203])), ((Ta 1), .inl (tc 0, 400, .inl (Tf 1)))] H := hP
            have hD : va_D A [((Va 0), .inr (7, [.ref (Va 1), .int vy_18, .int vy_19])), ((Va 1), .inl (tc 0, 400, .inl vy_20)), ((Ta 0), .inr (10, [.ref (Ta 1), .int (Tv 0), .int sv_209, .int sv_210, .int sv_211, .int sv_203])), ((Ta 1), .inl (tc 0, 400, .inl (Tf 1)))] := hD
            refine lv_aload_n hx hb dX7_read_67 rfl (lv_at hl 1 rfl) ?_
            refine lv_aload_n hx hb dX7_read_68 rfl (lv_at hl 2 rfl) ?_
            have ha_213 : 0 ≤ ((Tv 0) : Int32).toInt ∧ ((Tv 0) : Int32).toInt ≤ 400 ∧ 0 ≤ (sv_209 : Int32).toInt ∧ (sv_209 : Int32).toInt ≤ 400 ∧ 0 ≤ (sv_210 : Int32).toInt ∧ (sv_210 : Int32).toInt ≤ 400 := by
              have z_1 := Int32.le_iff_toInt_le.mp (Int32.not_lt.mp c_31)
              have z_2 := congrArg Int32.toInt c_59
              have z_3 := congrArg Int32.toInt c_67
              have y_0 : (0 : Int32).toInt = 0 := by decide
              have y_12 : (12 : Int32).toInt = 12 := by decide
              omega
            refine cV (a := (Va 0)) (As := [.ref (Ta 0)]) (rest := []) (wr := []) ⟨hx, hb, hml, hown, hts⟩ hK hX hA (ct_X7_readSum l D tc sk Va (fun k => ([vy_18, vy_19] : List (Int32)).getD k 0) (fun k => ([(fun _ => 0), vy_20] : List (Nat → Int32)).getD k (fun _ => 0)) Ta (fun k => ([(Tv 0), sv_209, sv_210, sv_211, sv_203] : List (Int32)).getD k 0) Tf ha_213) k_624 k_621 k_623 k_7 k_99 pl_X7_readSum ⟨Nat.le_of_ble_eq_true rfl, Nat.le_of_ble_eq_true rfl⟩ rfl rfl (va_recv hK hP (ci := 7) (q0 := 0) rfl rfl) hP hD hS [0, 1, 2, 3] [] rfl rfl rfl rfl rfl (by decide) rfl hl.1 rfl (Nat.le_of_ble_eq_true rfl) dX7_read_69 ⟨Nat.le_of_ble_eq_true rfl, Nat.le_of_ble_eq_true rfl⟩ (fun v_214 u_215 H locs hv_216 hP hD hS => ?_)
            obtain ⟨sv_217, sv_218, sv_219, sv_220, sv_221, sv_222, sv_223⟩ := u_215
            obtain ⟨rfl, he_224⟩ := hv_216
            have he_224 : (0 ≤ ((Tv 0) : Int32).toInt ∧ ((Tv 0) : Int32).toInt ≤ 400 ∧ 0 ≤ (sv_220 : Int32).toInt ∧ (sv_220 : Int32).toInt ≤ 400 ∧ 0 ≤ (sv_221 : Int32).toInt ∧ (sv_221 : Int32).toInt ≤ 400) := he_224
            refine W.eq (g2 := F0 m 72 ls []) rfl ?_
            have hP : va_P D classes [((Va 0), .inr (7, [.ref (Va 1), .int sv_217, .int sv_218])), ((Va 1), .inl (tc 0, 400, .inl sv_219)), ((Ta 0), .inr (10, [.ref (Ta 1), .int (Tv 0), .int sv_220, .int sv_221, .int sv_222, .int sv_223])), ((Ta 1), .inl (tc 0, 400, .inl (Tf 1)))] H := hP
            have hD : va_D A [((Va 0), .inr (7, [.ref (Va 1), .int sv_217, .int sv_218])), ((Va 1), .inl (tc 0, 400, .inl sv_219)), ((Ta 0), .inr (10, [.ref (Ta 1), .int (Tv 0), .int sv_220, .int sv_221, .int sv_222, .int sv_223])), ((Ta 1), .inl (tc 0, 400, .inl (Tf 1)))] := hD
            refine lv_aload_n hx hb dX7_read_72 rfl (lv_at hl 2 rfl) ?_
            refine va_ldcS hx hb hown (hX.2.2.2.1 3 _ rfl) dX7_read_73 ?_
            have ha_225 : (3 : Nat) < 7 := by
              have z_1 := Int32.le_iff_toInt_le.mp (Int32.not_lt.mp c_31)
              have z_2 := congrArg Int32.toInt c_59
              have z_3 := congrArg Int32.toInt c_67
              have y_0 : (0 : Int32).toInt = 0 := by decide
              have y_12 : (12 : Int32).toInt = 12 := by decide
              have y_3 : (3 : Int32).toInt = 3 := by decide
              omega
            have ha_226 : 0 ≤ ((Tv 0) : Int32).toInt ∧ ((Tv 0) : Int32).toInt ≤ 400 ∧ 0 ≤ (sv_220 : Int32).toInt ∧ (sv_220 : Int32).toInt ≤ 400 ∧ 0 ≤ (sv_221 : Int32).toInt ∧ (sv_221 : Int32).toInt ≤ 400 := by
              have z_1 := Int32.le_iff_toInt_le.mp (Int32.not_lt.mp c_31)
              have z_2 := congrArg Int32.toInt c_59
              have z_3 := congrArg Int32.toInt c_67
              have y_0 : (0 : Int32).toInt = 0 := by decide
              have y_12 : (12 : Int32).toInt = 12 := by decide
              omega
            refine cV (a := (Ta 0)) (As := [.ref (sk.1 3)]) (rest := []) (wr := [((Va 0), .inr (7, [.ref (Va 1), .int sv_217, .int sv_218])), ((Va 1), .inl (tc 0, 400, .inl sv_219))]) ⟨hx, hb, hml, hown, hts⟩ hK hX hA (ct_X10_takesWord l D tc sk Ta (fun k => ([(Tv 0), sv_220, sv_221, sv_222, sv_223] : List (Int32)).getD k 0) Tf 3 ha_225 ha_226) k_650 k_647 k_648 k_649 k_96 pl_X10_takesWord ⟨Nat.le_of_ble_eq_true rfl, Nat.le_of_ble_eq_true rfl⟩ rfl rfl (va_recv hK hP (ci := 10) (q0 := 2) rfl rfl) hP hD hS [2, 3] [0, 1] rfl rfl rfl rfl rfl (by decide) rfl hl.1 rfl (Nat.le_of_ble_eq_true rfl) dX7_read_75 ⟨Nat.le_of_ble_eq_true rfl, Nat.le_of_ble_eq_true rfl⟩ (fun v_227 u_228 H locs hv_229 hP hD hS => ?_)
            obtain ⟨sv_230, sv_231, sv_232⟩ := u_228
            obtain ⟨r_233, rfl, he_234⟩ := hv_229
            have he_234 : ((r_233.toInt = 0 ∨ r_233.toInt = 1)) ∧ (0 ≤ ((Tv 0) : Int32).toInt ∧ ((Tv 0) : Int32).toInt ≤ 400 ∧ 0 ≤ (sv_230 : Int32).toInt ∧ (sv_230 : Int32).toInt ≤ 400 ∧ 0 ≤ (sv_231 : Int32).toInt ∧ (sv_231 : Int32).toInt ≤ 400) := he_234
            refine W.eq (g2 := F0 m 78 ls [.int r_233]) rfl ?_
            have hP : va_P D classes [((Va 0), .inr (7, [.ref (Va 1), .int sv_217, .int sv_218])), ((Va 1), .inl (tc 0, 400, .inl sv_219)), ((Ta 0), .inr (10, [.ref (Ta 1), .int (Tv 0), .int sv_230, .int sv_231, .int sv_232, .int sv_223])), ((Ta 1), .inl (tc 0, 400, .inl (Tf 1)))] H := hP
            have hD : va_D A [((Va 0), .inr (7, [.ref (Va 1), .int sv_217, .int sv_218])), ((Va 1), .inl (tc 0, 400, .inl sv_219)), ((Ta 0), .inr (10, [.ref (Ta 1), .int (Tv 0), .int sv_230, .int sv_231, .int sv_232, .int sv_223])), ((Ta 1), .inl (tc 0, 400, .inl (Tf 1)))] := hD
            refine lv_if_eq (tgt := 96) hx hb dX7_read_78 (by decide) (fun c_235 => ?_) (fun c_235 => ?_)
            · skip
              refine lv_aload_n hx hb dX7_read_96 rfl (lv_at hl 1 rfl) ?_
              refine lv_bipush (v := (-2)) hx hb dX7_read_97 (by decide) ?_
              refine cV (a := (Va 0)) (As := [.int (-2)]) (rest := []) (wr := [((Ta 0), .inr (10, [.ref (Ta 1), .int (Tv 0), .int sv_230, .int sv_231, .int sv_232, .int sv_223])), ((Ta 1), .inl (tc 0, 400, .inl (Tf 1)))]) ⟨hx, hb, hml, hown, hts⟩ hK hX hA (ct_X7_put l D tc sk Va (fun k => ([sv_217, sv_218] : List (Int32)).getD k 0) (fun k => ([(fun _ => 0), sv_219] : List (Nat → Int32)).getD k (fun _ => 0)) (-2)) k_642 k_639 k_641 k_10 k_99 pl_X7_put ⟨Nat.le_of_ble_eq_true rfl, Nat.le_of_ble_eq_true rfl⟩ rfl rfl (va_recv hK hP (ci := 7) (q0 := 0) rfl rfl) hP hD hS [0, 1] [2, 3] rfl rfl rfl rfl rfl (by decide) rfl hl.1 rfl (Nat.le_of_ble_eq_true rfl) dX7_read_99 ⟨Nat.le_of_ble_eq_true rfl, Nat.le_of_ble_eq_true rfl⟩ (fun v_236 u_237 H locs hv_238 hP hD hS => ?_)
              obtain ⟨sv_239, sv_240⟩ := u_237
              obtain rfl : v_236 = none := hv_238
              refine W.eq (g2 := F0 m 102 ls []) rfl ?_
              have hP : va_P D classes [((Ta 0), .inr (10, [.ref (Ta 1), .int (Tv 0), .int sv_230, .int sv_231, .int sv_232, .int sv_223])), ((Ta 1), .inl (tc 0, 400, .inl (Tf 1))), ((Va 0), .inr (7, [.ref (Va 1), .int sv_239, .int sv_218])), ((Va 1), .inl (tc 0, 400, .inl sv_240))] H := hP
              have hD : va_D A [((Ta 0), .inr (10, [.ref (Ta 1), .int (Tv 0), .int sv_230, .int sv_231, .int sv_232, .int sv_223])), ((Ta 1), .inl (tc 0, 400, .inl (Tf 1))), ((Va 0), .inr (7, [.ref (Va 1), .int sv_239, .int sv_218])), ((Va 1), .inl (tc 0, 400, .inl sv_240))] := hD
              obtain ⟨x_241, ex_241⟩ : ∃ y : Int32, y = vy_17 + 1 := ⟨_, rfl⟩
              refine lv_iinc (v := x_241) (lv' := [(2, .int x_241), (0, .ref (Va 0)), (1, .ref (Ta 0))]) hx hb dX7_read_102 hl (k := 0) rfl (by rw [ex_241]; rfl) (by decide) rfl (fun ls hl => ?_)
              refine lv_goto (tgt := 16) hx hb dX7_read_105 (by decide) ?_
              have hb_242 : 13 - (x_241 : Int32).toInt < 13 - (vy_17 : Int32).toInt ∧ 1 ≤ 13 - (vy_17 : Int32).toInt := by
                have z_1 := Int32.le_iff_toInt_le.mp (Int32.not_lt.mp c_31)
                have z_2 := congrArg Int32.toInt c_59
                have z_3 := congrArg Int32.toInt c_67
                have z_4 := congrArg Int32.toInt c_235
                have y_0 : (0 : Int32).toInt = 0 := by decide
                have y_12 : (12 : Int32).toInt = 12 := by decide
                have y_1 : (1 : Int32).toInt = 1 := by decide
                have t_x_241 : x_241.toInt = (vy_17 : Int32).toInt + (1 : Int32).toInt := by rw [ex_241]; exact add_toInt (by omega) (by omega)
                omega
              have ha_243 : 0 ≤ (x_241 : Int32).toInt := by
                have z_1 := Int32.le_iff_toInt_le.mp (Int32.not_lt.mp c_31)
                have z_2 := congrArg Int32.toInt c_59
                have z_3 := congrArg Int32.toInt c_67
                have z_4 := congrArg Int32.toInt c_235
                have y_0 : (0 : Int32).toInt = 0 := by decide
                have y_12 : (12 : Int32).toInt = 12 := by decide
                have y_1 : (1 : Int32).toInt = 1 := by decide
                have t_x_241 : x_241.toInt = (vy_17 : Int32).toInt + (1 : Int32).toInt := by rw [ex_241]; exact add_toInt (by omega) (by omega)
                omega
              have ha_244 : 0 ≤ ((Tv 0) : Int32).toInt ∧ ((Tv 0) : Int32).toInt ≤ 400 ∧ 0 ≤ (sv_230 : Int32).toInt ∧ (sv_230 : Int32).toInt ≤ 400 ∧ 0 ≤ (sv_231 : Int32).toInt ∧ (sv_231 : Int32).toInt ≤ 400 := by
                have z_1 := Int32.le_iff_toInt_le.mp (Int32.not_lt.mp c_31)
                have z_2 := congrArg Int32.toInt c_59
                have z_3 := congrArg Int32.toInt c_67
                have z_4 := congrArg Int32.toInt c_235
                have y_0 : (0 : Int32).toInt = 0 := by decide
                have y_12 : (12 : Int32).toInt = 12 := by decide
                omega
              exact ih_26 x_241 sv_239 sv_218 sv_240 sv_230 sv_231 sv_232 sv_223 _ _ _ (by omega) ha_243 ha_244 (hP.sub [2, 3, 0, 1] rfl) (hD.sub [2, 3, 0, 1] rfl rfl) hS (lv_sub hl [0, 1, 2] rfl)
            · skip
              refine lv_aload_n hx hb dX7_read_81 rfl (lv_at hl 1 rfl) ?_
              refine lv_aload_n hx hb dX7_read_82 rfl (lv_at hl 2 rfl) ?_
              refine lv_iconst (v := 0) hx hb dX7_read_83 (by decide) ?_
              have ha_245 : 0 ≤ ((Tv 0) : Int32).toInt ∧ ((Tv 0) : Int32).toInt ≤ 400 ∧ 0 ≤ (sv_230 : Int32).toInt ∧ (sv_230 : Int32).toInt ≤ 400 ∧ 0 ≤ (sv_231 : Int32).toInt ∧ (sv_231 : Int32).toInt ≤ 400 := by
                have z_1 := Int32.le_iff_toInt_le.mp (Int32.not_lt.mp c_31)
                have z_2 := congrArg Int32.toInt c_59
                have z_3 := congrArg Int32.toInt c_67
                have z_4 : ¬ (r_233 : Int32).toInt = (0 : Int32).toInt := fun z => c_235 (Int32.toInt_inj.mp z)
                have y_0 : (0 : Int32).toInt = 0 := by decide
                have y_12 : (12 : Int32).toInt = 12 := by decide
                omega
              refine cV (a := (Va 0)) (As := [.ref (Ta 0), .int 0]) (rest := []) (wr := []) ⟨hx, hb, hml, hown, hts⟩ hK hX hA (ct_X7_readTest_0 l D tc sk Va (fun k => ([sv_217, sv_218] : List (Int32)).getD k 0) (fun k => ([(fun _ => 0), sv_219] : List (Nat → Int32)).getD k (fun _ => 0)) Ta (fun k => ([(Tv 0), sv_230, sv_231, sv_232, sv_223] : List (Int32)).getD k 0) Tf ha_245) k_655 k_652 k_654 k_11 k_99 pl_X7_readTest ⟨Nat.le_of_ble_eq_true rfl, Nat.le_of_ble_eq_true rfl⟩ rfl rfl (va_recv hK hP (ci := 7) (q0 := 0) rfl rfl) hP hD hS [0, 1, 2, 3] [] rfl rfl rfl rfl rfl (by decide) rfl hl.1 rfl (Nat.le_of_ble_eq_true rfl) dX7_read_84 ⟨Nat.le_of_ble_eq_true rfl, Nat.le_of_ble_eq_true rfl⟩ (fun v_246 u_247 H locs hv_248 hP hD hS => ?_)
              obtain ⟨sv_249, sv_250, sv_251, sv_252, sv_253, sv_254, sv_255⟩ := u_247
              obtain ⟨rfl, he_256⟩ := hv_248
              have he_256 : (0 ≤ ((Tv 0) : Int32).toInt ∧ ((Tv 0) : Int32).toInt ≤ 400 ∧ 0 ≤ (sv_252 : Int32).toInt ∧ (sv_252 : Int32).toInt ≤ 400 ∧ 0 ≤ (sv_253 : Int32).toInt ∧ (sv_253 : Int32).toInt ≤ 400) := he_256
              refine W.eq (g2 := F0 m 87 ls []) rfl ?_
              have hP : va_P D classes [((Va 0), .inr (7, [.ref (Va 1), .int sv_249, .int sv_250])), ((Va 1), .inl (tc 0, 400, .inl sv_251)), ((Ta 0), .inr (10, [.ref (Ta 1), .int (Tv 0), .int sv_252, .int sv_253, .int sv_254, .int sv_255])), ((Ta 1), .inl (tc 0, 400, .inl (Tf 1)))] H := hP
              have hD : va_D A [((Va 0), .inr (7, [.ref (Va 1), .int sv_249, .int sv_250])), ((Va 1), .inl (tc 0, 400, .inl sv_251)), ((Ta 0), .inr (10, [.ref (Ta 1), .int (Tv 0), .int sv_252, .int sv_253, .int sv_254, .int sv_255])), ((Ta 1), .inl (tc 0, 400, .inl (Tf 1)))] := hD
              refine lv_aload_n hx hb dX7_read_87 rfl (lv_at hl 1 rfl) ?_
              refine lv_bipush (v := (-3)) hx hb dX7_read_88 (by decide) ?_
              refine cV (a := (Va 0)) (As := [.int (-3)]) (rest := []) (wr := [((Ta 0), .inr (10, [.ref (Ta 1), .int (Tv 0), .int sv_252, .int sv_253, .int sv_254, .int sv_255])), ((Ta 1), .inl (tc 0, 400, .inl (Tf 1)))]) ⟨hx, hb, hml, hown, hts⟩ hK hX hA (ct_X7_put l D tc sk Va (fun k => ([sv_249, sv_250] : List (Int32)).getD k 0) (fun k => ([(fun _ => 0), sv_251] : List (Nat → Int32)).getD k (fun _ => 0)) (-3)) k_642 k_639 k_641 k_10 k_99 pl_X7_put ⟨Nat.le_of_ble_eq_true rfl, Nat.le_of_ble_eq_true rfl⟩ rfl rfl (va_recv hK hP (ci := 7) (q0 := 0) rfl rfl) hP hD hS [0, 1] [2, 3] rfl rfl rfl rfl rfl (by decide) rfl hl.1 rfl (Nat.le_of_ble_eq_true rfl) dX7_read_90 ⟨Nat.le_of_ble_eq_true rfl, Nat.le_of_ble_eq_true rfl⟩ (fun v_257 u_258 H locs hv_259 hP hD hS => ?_)
              obtain ⟨sv_260, sv_261⟩ := u_258
              obtain rfl : v_257 = none := hv_259
              refine W.eq (g2 := F0 m 93 ls []) rfl ?_
              have hP : va_P D classes [((Ta 0), .inr (10, [.ref (Ta 1), .int (Tv 0), .int sv_252, .int sv_253, .int sv_254, .int sv_255])), ((Ta 1), .inl (tc 0, 400, .inl (Tf 1))), ((Va 0), .inr (7, [.ref (Va 1), .int sv_260, .int sv_250])), ((Va 1), .inl (tc 0, 400, .inl sv_261))] H := hP
              have hD : va_D A [((Ta 0), .inr (10, [.ref (Ta 1), .int (Tv 0), .int sv_252, .int sv_253, .int sv_254, .int sv_255])), ((Ta 1), .inl (tc 0, 400, .inl (Tf 1))), ((Va 0), .inr (7, [.ref (Va 1), .int sv_260, .int sv_250])), ((Va 1), .inl (tc 0, 400, .inl sv_261))] := hD
              refine lv_goto (tgt := 102) hx hb dX7_read_93 (by decide) ?_
              obtain ⟨x_262, ex_262⟩ : ∃ y : Int32, y = vy_17 + 1 := ⟨_, rfl⟩
              refine lv_iinc (v := x_262) (lv' := [(2, .int x_262), (0, .ref (Va 0)), (1, .ref (Ta 0))]) hx hb dX7_read_102 hl (k := 0) rfl (by rw [ex_262]; rfl) (by decide) rfl (fun ls hl => ?_)
              refine lv_goto (tgt := 16) hx hb dX7_read_105 (by decide) ?_
              have hb_263 : 13 - (x_262 : Int32).toInt < 13 - (vy_17 : Int32).toInt ∧ 1 ≤ 13 - (vy_17 : Int32).toInt := by
                have z_1 := Int32.le_iff_toInt_le.mp (Int32.not_lt.mp c_31)
                have z_2 := congrArg Int32.toInt c_59
                have z_3 := congrArg Int32.toInt c_67
                have z_4 : ¬ (r_233 : Int32).toInt = (0 : Int32).toInt := fun z => c_235 (Int32.toInt_inj.mp z)
                have y_0 : (0 : Int32).toInt = 0 := by decide
                have y_12 : (12 : Int32).toInt = 12 := by decide
                have y_1 : (1 : Int32).toInt = 1 := by decide
                have t_x_262 : x_262.toInt = (vy_17 : Int32).toInt + (1 : Int32).toInt := by rw [ex_262]; exact add_toInt (by omega) (by omega)
                omega
              have ha_264 : 0 ≤ (x_262 : Int32).toInt := by
                have z_1 := Int32.le_iff_toInt_le.mp (Int32.not_lt.mp c_31)
                have z_2 := congrArg Int32.toInt c_59
                have z_3 := congrArg Int32.toInt c_67
                have z_4 : ¬ (r_233 : Int32).toInt = (0 : Int32).toInt := fun z => c_235 (Int32.toInt_inj.mp z)
                have y_0 : (0 : Int32).toInt = 0 := by decide
                have y_12 : (12 : Int32).toInt = 12 := by decide
                have y_1 : (1 : Int32).toInt = 1 := by decide
                have t_x_262 : x_262.toInt = (vy_17 : Int32).toInt + (1 : Int32).toInt := by rw [ex_262]; exact add_toInt (by omega) (by omega)
                omega
              have ha_265 : 0 ≤ ((Tv 0) : Int32).toInt ∧ ((Tv 0) : Int32).toInt ≤ 400 ∧ 0 ≤ (sv_252 : Int32).toInt ∧ (sv_252 : Int32).toInt ≤ 400 ∧ 0 ≤ (sv_253 : Int32).toInt ∧ (sv_253 : Int32).toInt ≤ 400 := by
                have z_1 := Int32.le_iff_toInt_le.mp (Int32.not_lt.mp c_31)
                have z_2 := congrArg Int32.toInt c_59
                have z_3 := congrArg Int32.toInt c_67
                have z_4 : ¬ (r_233 : Int32).toInt = (0 : Int32).toInt := fun z => c_235 (Int32.toInt_inj.mp z)
                have y_0 : (0 : Int32).toInt = 0 := by decide
                have y_12 : (12 : Int32).toInt = 12 := by decide
                omega
              exact ih_26 x_262 sv_260 sv_250 sv_261 sv_252 sv_253 sv_254 sv_255 _ _ _ (by omega) ha_264 ha_265 (hP.sub [2, 3, 0, 1] rfl) (hD.sub [2, 3, 0, 1] rfl rfl) hS (lv_sub hl [0, 1, 2] rfl)
        · skip
          refine lv_aload_n hx hb dX7_read_26 rfl (lv_at hl 2 rfl) ?_
          refine lv_bipush (v := 59) hx hb dX7_read_27 (by decide) ?_
          have ha_266 : 0 ≤ ((Tv 0) : Int32).toInt ∧ ((Tv 0) : Int32).toInt ≤ 400 ∧ 0 ≤ (vy_21 : Int32).toInt ∧ (vy_21 : Int32).toInt ≤ 400 ∧ 0 ≤ (vy_22 : Int32).toInt ∧ (vy_22 : Int32).toInt ≤ 400 := by
            have z_1 := Int32.le_iff_toInt_le.mp (Int32.not_lt.mp c_31)
            have z_2 : ¬ (vy_17 : Int32).toInt = (0 : Int32).toInt := fun z => c_59 (Int32.toInt_inj.mp z)
            have y_0 : (0 : Int32).toInt = 0 := by decide
            have y_12 : (12 : Int32).toInt = 12 := by decide
            omega
          refine cV (a := (Ta 0)) (As := [.int 59]) (rest := []) (wr := [((Va 0), .inr (7, [.ref (Va 1), .int vy_18, .int vy_19])), ((Va 1), .inl (tc 0, 400, .inl vy_20))]) ⟨hx, hb, hml, hown, hts⟩ hK hX hA (ct_X10_takes l D tc sk Ta (fun k => ([(Tv 0), vy_21, vy_22, vy_23, vy_24] : List (Int32)).getD k 0) Tf 59 ha_266) k_492 k_613 k_490 k_491 k_96 pl_X10_takes ⟨Nat.le_of_ble_eq_true rfl, Nat.le_of_ble_eq_true rfl⟩ rfl rfl (va_recv hK hP (ci := 10) (q0 := 2) rfl rfl) hP hD hS [2, 3] [0, 1] rfl rfl rfl rfl rfl (by decide) rfl hl.1 rfl (Nat.le_of_ble_eq_true rfl) dX7_read_29 ⟨Nat.le_of_ble_eq_true rfl, Nat.le_of_ble_eq_true rfl⟩ (fun v_267 u_268 H locs hv_269 hP hD hS => ?_)
          obtain ⟨sv_270, sv_271, sv_272⟩ := u_268
          obtain ⟨r_273, rfl, he_274⟩ := hv_269
          have he_274 : ((r_273.toInt = 0 ∨ (r_273.toInt = 1 ∧ vy_23.toInt = (59 : Int32).toInt))) ∧ (0 ≤ ((Tv 0) : Int32).toInt ∧ ((Tv 0) : Int32).toInt ≤ 400 ∧ 0 ≤ (sv_270 : Int32).toInt ∧ (sv_270 : Int32).toInt ≤ 400 ∧ 0 ≤ (sv_271 : Int32).toInt ∧ (sv_271 : Int32).toInt ≤ 400) := he_274
          refine W.eq (g2 := F0 m 32 ls [.int r_273]) rfl ?_
          have hP : va_P D classes [((Va 0), .inr (7, [.ref (Va 1), .int vy_18, .int vy_19])), ((Va 1), .inl (tc 0, 400, .inl vy_20)), ((Ta 0), .inr (10, [.ref (Ta 1), .int (Tv 0), .int sv_270, .int sv_271, .int sv_272, .int vy_24])), ((Ta 1), .inl (tc 0, 400, .inl (Tf 1)))] H := hP
          have hD : va_D A [((Va 0), .inr (7, [.ref (Va 1), .int vy_18, .int vy_19])), ((Va 1), .inl (tc 0, 400, .inl vy_20)), ((Ta 0), .inr (10, [.ref (Ta 1), .int (Tv 0), .int sv_270, .int sv_271, .int sv_272, .int vy_24])), ((Ta 1), .inl (tc 0, 400, .inl (Tf 1)))] := hD
          refine lv_if_eq (tgt := 108) hx hb dX7_read_32 (by decide) (fun c_275 => ?_) (fun c_275 => ?_)
          · skip
            refine lv_aload_n hx hb dX7_read_108 rfl (lv_at hl 2 rfl) ?_
            have ha_276 : 0 ≤ ((Tv 0) : Int32).toInt ∧ ((Tv 0) : Int32).toInt ≤ 400 ∧ 0 ≤ (sv_270 : Int32).toInt ∧ (sv_270 : Int32).toInt ≤ 400 ∧ 0 ≤ (sv_271 : Int32).toInt ∧ (sv_271 : Int32).toInt ≤ 400 := by
              have z_1 := Int32.le_iff_toInt_le.mp (Int32.not_lt.mp c_31)
              have z_2 : ¬ (vy_17 : Int32).toInt = (0 : Int32).toInt := fun z => c_59 (Int32.toInt_inj.mp z)
              have z_3 := congrArg Int32.toInt c_275
              have y_0 : (0 : Int32).toInt = 0 := by decide
              have y_12 : (12 : Int32).toInt = 12 := by decide
              omega
            refine cV (a := (Ta 0)) (As := []) (rest := []) (wr := [((Va 0), .inr (7, [.ref (Va 1), .int vy_18, .int vy_19])), ((Va 1), .inl (tc 0, 400, .inl vy_20))]) ⟨hx, hb, hml, hown, hts⟩ hK hX hA (ct_X10_finish l D tc sk Ta (fun k => ([(Tv 0), sv_270, sv_271, sv_272, vy_24] : List (Int32)).getD k 0) Tf ha_276) k_595 k_666 k_593 k_594 k_96 pl_X10_finish ⟨Nat.le_of_ble_eq_true rfl, Nat.le_of_ble_eq_true rfl⟩ rfl rfl (va_recv hK hP (ci := 10) (q0 := 2) rfl rfl) hP hD hS [2, 3] [0, 1] rfl rfl rfl rfl rfl (by decide) rfl hl.1 rfl (Nat.le_of_ble_eq_true rfl) dX7_read_109 ⟨Nat.le_of_ble_eq_true rfl, Nat.le_of_ble_eq_true rfl⟩ (fun v_277 u_278 H locs hv_279 hP hD hS => ?_)
            obtain ⟨sv_280, sv_281⟩ := u_278
            obtain ⟨rfl, he_282⟩ := hv_279
            have he_282 : (0 ≤ ((Tv 0) : Int32).toInt ∧ ((Tv 0) : Int32).toInt ≤ 400 ∧ 0 ≤ (sv_270 : Int32).toInt ∧ (sv_270 : Int32).toInt ≤ 400 ∧ 0 ≤ (sv_271 : Int32).toInt ∧ (sv_271 : Int32).toInt ≤ 400) := he_282
            refine W.eq (g2 := F0 m 112 ls []) rfl ?_
            have hP : va_P D classes [((Va 0), .inr (7, [.ref (Va 1), .int vy_18, .int vy_19])), ((Va 1), .inl (tc 0, 400, .inl vy_20)), ((Ta 0), .inr (10, [.ref (Ta 1), .int (Tv 0), .int sv_270, .int sv_271, .int sv_280, .int sv_281])), ((Ta 1), .inl (tc 0, 400, .inl (Tf 1)))] H := hP
            have hD : va_D A [((Va 0), .inr (7, [.ref (Va 1), .int vy_18, .int vy_19])), ((Va 1), .inl (tc 0, 400, .inl vy_20)), ((Ta 0), .inr (10, [.ref (Ta 1), .int (Tv 0), .int sv_270, .int sv_271, .int sv_280, .int sv_281])), ((Ta 1), .inl (tc 0, 400, .inl (Tf 1)))] := hD
            refine lv_aload_n hx hb dX7_read_112 rfl (lv_at hl 2 rfl) ?_
            refine gf_X7_65 hx hb hts hown hK hP 2 rfl rfl dX7_read_113 ?_
            refine lv_if_ne (tgt := 138) hx hb dX7_read_116 (by decide) (fun c_283 => ?_) (fun c_283 => ?_)
            · skip
              refine lv_null hx hb dX7_read_138 ?_
              have ha_284 : 0 ≤ ((Tv 0) : Int32).toInt ∧ ((Tv 0) : Int32).toInt ≤ 400 ∧ 0 ≤ (sv_270 : Int32).toInt ∧ (sv_270 : Int32).toInt ≤ 400 ∧ 0 ≤ (sv_271 : Int32).toInt ∧ (sv_271 : Int32).toInt ≤ 400 := by
                have z_1 := Int32.le_iff_toInt_le.mp (Int32.not_lt.mp c_31)
                have z_2 : ¬ (vy_17 : Int32).toInt = (0 : Int32).toInt := fun z => c_59 (Int32.toInt_inj.mp z)
                have z_3 := congrArg Int32.toInt c_275
                have z_4 : ¬ (sv_281 : Int32).toInt = (0 : Int32).toInt := fun z => c_283 (Int32.toInt_inj.mp z)
                have y_0 : (0 : Int32).toInt = 0 := by decide
                have y_12 : (12 : Int32).toInt = 12 := by decide
                omega
              exact retA (v := .null) hx hb hr hlk (Or.inl ⟨_, rfl⟩) (Or.inl rfl) hP hD hS (false, 0, 0, 0, 0, 0, (fun _ => 0), 0, 0, 0, 0, (fun _ => 0), 0, vy_18, vy_19, vy_20, sv_270, sv_271, sv_280, sv_281) ⟨rfl, ha_284⟩ [0, 1, 2, 3] rfl rfl dX7_read_139 (Nat.le_of_ble_eq_true rfl) (Nat.le_of_ble_eq_true rfl) rfl
            · skip
              refine lv_aload_n hx hb dX7_read_119 rfl (lv_at hl 1 rfl) ?_
              refine gf_X7_15 hx hb hts hown hK hP 0 rfl rfl dX7_read_120 ?_
              refine lv_if_lt (tgt := 138) hx hb dX7_read_123 (by decide) (fun c_285 => ?_) (fun c_285 => ?_)
              · skip
                refine lv_null hx hb dX7_read_138 ?_
                have ha_286 : 0 ≤ ((Tv 0) : Int32).toInt ∧ ((Tv 0) : Int32).toInt ≤ 400 ∧ 0 ≤ (sv_270 : Int32).toInt ∧ (sv_270 : Int32).toInt ≤ 400 ∧ 0 ≤ (sv_271 : Int32).toInt ∧ (sv_271 : Int32).toInt ≤ 400 := by
                  have z_1 := Int32.le_iff_toInt_le.mp (Int32.not_lt.mp c_31)
                  have z_2 : ¬ (vy_17 : Int32).toInt = (0 : Int32).toInt := fun z => c_59 (Int32.toInt_inj.mp z)
                  have z_3 := congrArg Int32.toInt c_275
                  have z_4 := congrArg Int32.toInt c_283
                  have z_5 := Int32.lt_iff_toInt_lt.mp c_285
                  have y_0 : (0 : Int32).toInt = 0 := by decide
                  have y_12 : (12 : Int32).toInt = 12 := by decide
                  omega
                exact retA (v := .null) hx hb hr hlk (Or.inl ⟨_, rfl⟩) (Or.inl rfl) hP hD hS (false, 0, 0, 0, 0, 0, (fun _ => 0), 0, 0, 0, 0, (fun _ => 0), 0, vy_18, vy_19, vy_20, sv_270, sv_271, sv_280, sv_281) ⟨rfl, ha_286⟩ [0, 1, 2, 3] rfl rfl dX7_read_139 (Nat.le_of_ble_eq_true rfl) (Nat.le_of_ble_eq_true rfl) rfl
              · skip
                refine lv_aload_n hx hb dX7_read_126 rfl (lv_at hl 1 rfl) ?_
                refine gf_X7_15 hx hb hts hown hK hP 0 rfl rfl dX7_read_127 ?_
                refine lv_aload_n hx hb dX7_read_130 rfl (lv_at hl 1 rfl) ?_
                refine gf_X7_9 hx hb hts hown hK hP 0 rfl rfl dX7_read_131 ?_
                refine va_alen hx hb hK hP 1 0 rfl rfl (v := 400) rfl dX7_read_134 ?_
                refine lv_icmp_le (tgt := 140) hx hb dX7_read_135 (by decide) (fun c_287 => ?_) (fun c_287 => ?_)
                · skip
                  refine va_new (ci := 6) (fs := [.null, .null]) (C := RX6) (T := TX6) (N := 2) hx hb hts iX6 tyX6 tyX6_ok hown (hts _ k_667) (hts _ k_668) (hts _ k_112) hK hP hD hS hA rfl dfX6 (Nat.le_of_ble_eq_true rfl) (Nat.le_of_ble_eq_true rfl) dX7_read_140 (fun q_288 H hP hD hS => ?_)
                  have hP : va_P D classes [((Va 0), .inr (7, [.ref (Va 1), .int vy_18, .int vy_19])), ((Va 1), .inl (tc 0, 400, .inl vy_20)), ((Ta 0), .inr (10, [.ref (Ta 1), .int (Tv 0), .int sv_270, .int sv_271, .int sv_280, .int sv_281])), ((Ta 1), .inl (tc 0, 400, .inl (Tf 1))), (q_288, .inr (6, [.null, .null]))] H := hP
                  have hD : va_D A [((Va 0), .inr (7, [.ref (Va 1), .int vy_18, .int vy_19])), ((Va 1), .inl (tc 0, 400, .inl vy_20)), ((Ta 0), .inr (10, [.ref (Ta 1), .int (Tv 0), .int sv_270, .int sv_271, .int sv_280, .int sv_281])), ((Ta 1), .inl (tc 0, 400, .inl (Tf 1))), (q_288, .inr (6, [.null, .null]))] := hD
                  refine lv_dup hx hb dX7_read_143 rfl ?_
                  refine lv_aload_n hx hb dX7_read_144 rfl (lv_at hl 1 rfl) ?_
                  refine gf_X7_9 hx hb hts hown hK hP 0 rfl rfl dX7_read_145 ?_
                  refine lv_aload_n hx hb dX7_read_148 rfl (lv_at hl 1 rfl) ?_
                  refine gf_X7_15 hx hb hts hown hK hP 0 rfl rfl dX7_read_149 ?_
                  have ha_289 : 0 ≤ vy_18.toInt ∧ vy_18.toInt ≤ 400 := by
                    have z_1 := Int32.le_iff_toInt_le.mp (Int32.not_lt.mp c_31)
                    have z_2 : ¬ (vy_17 : Int32).toInt = (0 : Int32).toInt := fun z => c_59 (Int32.toInt_inj.mp z)
                    have z_3 := congrArg Int32.toInt c_275
                    have z_4 := congrArg Int32.toInt c_283
                    have z_5 := Int32.le_iff_toInt_le.mp (Int32.not_lt.mp c_285)
                    have z_6 := Int32.le_iff_toInt_le.mp c_287
                    have y_0 : (0 : Int32).toInt = 0 := by decide
                    have y_12 : (12 : Int32).toInt = 12 := by decide
                    have y_400 : (400 : Int32).toInt = 400 := by decide
                    omega
                  refine cS (As := [.ref (Va 1), .int vy_18]) (rest := [.ref q_288, .ref q_288]) (wr := [((Va 0), .inr (7, [.ref (Va 1), .int vy_18, .int vy_19])), ((Ta 0), .inr (10, [.ref (Ta 1), .int (Tv 0), .int sv_270, .int sv_271, .int sv_280, .int sv_281])), ((Ta 1), .inl (tc 0, 400, .inl (Tf 1))), (q_288, .inr (6, [.null, .null]))]) ⟨hx, hb, hml, hown, hts⟩ hK hX hA (ct_J7_copyOf l D tc sk (fun k => ([(Va 1)] : List (Nat)).getD k 0) (fun k => ([vy_20] : List (Nat → Int32)).getD k (fun _ => 0)) vy_18 ha_289) k_671 k_669 k_670 k_113 pl_J7_copyOf_59c91 ⟨Nat.le_of_ble_eq_true rfl, Nat.le_of_ble_eq_true rfl⟩ rfl rfl  hP hD hS [1] [0, 2, 3, 4] rfl rfl rfl rfl rfl (by decide) rfl hl.1 rfl (Nat.le_of_ble_eq_true rfl) dX7_read_152 ⟨Nat.le_of_ble_eq_true rfl, Nat.le_of_ble_eq_true rfl⟩ (fun v_290 u_291 H locs hv_292 hP hD hS => ?_)
                  obtain ⟨sv_293, sv_294, sv_295⟩ := u_291
                  obtain ⟨rfl, pf_296⟩ := hv_292
                  have pf_296 : sv_295 ≤ 400 := pf_296
                  refine W.eq (g2 := F0 m 155 ls [.ref sv_293, .ref q_288, .ref q_288]) rfl ?_
                  have hP : va_P D classes [((Va 0), .inr (7, [.ref (Va 1), .int vy_18, .int vy_19])), ((Ta 0), .inr (10, [.ref (Ta 1), .int (Tv 0), .int sv_270, .int sv_271, .int sv_280, .int sv_281])), ((Ta 1), .inl (tc 0, 400, .inl (Tf 1))), (q_288, .inr (6, [.null, .null])), ((Va 1), .inl (tc 0, 400, .inl vy_20)), (sv_293, .inl (tc 0, sv_295, .inl sv_294))] H := hP
                  have hD : va_D A [((Va 0), .inr (7, [.ref (Va 1), .int vy_18, .int vy_19])), ((Ta 0), .inr (10, [.ref (Ta 1), .int (Tv 0), .int sv_270, .int sv_271, .int sv_280, .int sv_281])), ((Ta 1), .inl (tc 0, 400, .inl (Tf 1))), (q_288, .inr (6, [.null, .null])), ((Va 1), .inl (tc 0, 400, .inl vy_20)), (sv_293, .inl (tc 0, sv_295, .inl sv_294))] := hD
                  refine cI (a := q_288) (As := [.ref sv_293]) (rest := [.ref q_288]) (wr := [((Va 0), .inr (7, [.ref (Va 1), .int vy_18, .int vy_19])), ((Ta 0), .inr (10, [.ref (Ta 1), .int (Tv 0), .int sv_270, .int sv_271, .int sv_280, .int sv_281])), ((Ta 1), .inl (tc 0, 400, .inl (Tf 1))), ((Va 1), .inl (tc 0, 400, .inl vy_20)), (sv_293, .inl (tc 0, sv_295, .inl sv_294))]) ⟨hx, hb, hml, hown, hts⟩ hK hX hA (ct_X6_init l D tc sk q_288 sv_293) k_685 k_683 k_684 k_112 rfl pl_X6_init ⟨Nat.le_of_ble_eq_true rfl, Nat.le_of_ble_eq_true rfl⟩ rfl rfl  hP hD hS [3] [0, 1, 2, 4, 5] rfl rfl rfl rfl rfl (by decide) rfl hl.1 rfl (Nat.le_of_ble_eq_true rfl) dX7_read_155 ⟨Nat.le_of_ble_eq_true rfl, Nat.le_of_ble_eq_true rfl⟩ (fun v_297 u_298 H locs hv_299 hP hD hS => ?_)
                  obtain ⟨sv_300, rfl⟩ : ∃ z, z = u_298 := ⟨_, rfl⟩
                  obtain rfl : v_297 = none := hv_299
                  refine W.eq (g2 := F0 m 158 ls [.ref q_288]) rfl ?_
                  have hP : va_P D classes [((Va 0), .inr (7, [.ref (Va 1), .int vy_18, .int vy_19])), ((Ta 0), .inr (10, [.ref (Ta 1), .int (Tv 0), .int sv_270, .int sv_271, .int sv_280, .int sv_281])), ((Ta 1), .inl (tc 0, 400, .inl (Tf 1))), ((Va 1), .inl (tc 0, 400, .inl vy_20)), (sv_293, .inl (tc 0, sv_295, .inl sv_294)), (q_288, .inr (6, [.ref sv_293, .ref sv_300])), (sv_300, .inl (tc 1, 64, .inr (.inl (fun _ => 0))))] H := hP
                  have hD : va_D A [((Va 0), .inr (7, [.ref (Va 1), .int vy_18, .int vy_19])), ((Ta 0), .inr (10, [.ref (Ta 1), .int (Tv 0), .int sv_270, .int sv_271, .int sv_280, .int sv_281])), ((Ta 1), .inl (tc 0, 400, .inl (Tf 1))), ((Va 1), .inl (tc 0, 400, .inl vy_20)), (sv_293, .inl (tc 0, sv_295, .inl sv_294)), (q_288, .inr (6, [.ref sv_293, .ref sv_300])), (sv_300, .inl (tc 1, 64, .inr (.inl (fun _ => 0))))] := hD
                  have ha_301 : 0 ≤ ((Tv 0) : Int32).toInt ∧ ((Tv 0) : Int32).toInt ≤ 400 ∧ 0 ≤ (sv_270 : Int32).toInt ∧ (sv_270 : Int32).toInt ≤ 400 ∧ 0 ≤ (sv_271 : Int32).toInt ∧ (sv_271 : Int32).toInt ≤ 400 := by
                    have z_1 := Int32.le_iff_toInt_le.mp (Int32.not_lt.mp c_31)
                    have z_2 : ¬ (vy_17 : Int32).toInt = (0 : Int32).toInt := fun z => c_59 (Int32.toInt_inj.mp z)
                    have z_3 := congrArg Int32.toInt c_275
                    have z_4 := congrArg Int32.toInt c_283
                    have z_5 := Int32.le_iff_toInt_le.mp (Int32.not_lt.mp c_285)
                    have z_6 := Int32.le_iff_toInt_le.mp c_287
                    have y_0 : (0 : Int32).toInt = 0 := by decide
                    have y_12 : (12 : Int32).toInt = 12 := by decide
                    have y_400 : (400 : Int32).toInt = 400 := by decide
                    omega
                  exact retA (v := .ref q_288) hx hb hr hlk (Or.inl ⟨_, rfl⟩) (Or.inr ⟨_, rfl⟩) hP hD hS (true, q_288, sv_293, sv_300, vy_18, vy_19, vy_20, sv_270, sv_271, sv_280, sv_281, sv_294, sv_295, 0, 0, (fun _ => 0), 0, 0, 0, 0) ⟨rfl, ha_301⟩ [0, 3, 1, 2, 5, 4, 6] rfl rfl dX7_read_158 (Nat.le_of_ble_eq_true rfl) (Nat.le_of_ble_eq_true rfl) rfl
                · skip
                  refine lv_null hx hb dX7_read_138 ?_
                  have ha_302 : 0 ≤ ((Tv 0) : Int32).toInt ∧ ((Tv 0) : Int32).toInt ≤ 400 ∧ 0 ≤ (sv_270 : Int32).toInt ∧ (sv_270 : Int32).toInt ≤ 400 ∧ 0 ≤ (sv_271 : Int32).toInt ∧ (sv_271 : Int32).toInt ≤ 400 := by
                    have z_1 := Int32.le_iff_toInt_le.mp (Int32.not_lt.mp c_31)
                    have z_2 : ¬ (vy_17 : Int32).toInt = (0 : Int32).toInt := fun z => c_59 (Int32.toInt_inj.mp z)
                    have z_3 := congrArg Int32.toInt c_275
                    have z_4 := congrArg Int32.toInt c_283
                    have z_5 := Int32.le_iff_toInt_le.mp (Int32.not_lt.mp c_285)
                    have z_6 := Int32.lt_iff_toInt_lt.mp (Int32.not_le.mp c_287)
                    have y_0 : (0 : Int32).toInt = 0 := by decide
                    have y_12 : (12 : Int32).toInt = 12 := by decide
                    have y_400 : (400 : Int32).toInt = 400 := by decide
                    omega
                  exact retA (v := .null) hx hb hr hlk (Or.inl ⟨_, rfl⟩) (Or.inl rfl) hP hD hS (false, 0, 0, 0, 0, 0, (fun _ => 0), 0, 0, 0, 0, (fun _ => 0), 0, vy_18, vy_19, vy_20, sv_270, sv_271, sv_280, sv_281) ⟨rfl, ha_302⟩ [0, 1, 2, 3] rfl rfl dX7_read_139 (Nat.le_of_ble_eq_true rfl) (Nat.le_of_ble_eq_true rfl) rfl
          · skip
            refine lv_aload_n hx hb dX7_read_35 rfl (lv_at hl 2 rfl) ?_
            refine va_ldcS hx hb hown (hX.2.2.2.1 1 _ rfl) dX7_read_36 ?_
            have ha_303 : (1 : Nat) < 7 := by
              have z_1 := Int32.le_iff_toInt_le.mp (Int32.not_lt.mp c_31)
              have z_2 : ¬ (vy_17 : Int32).toInt = (0 : Int32).toInt := fun z => c_59 (Int32.toInt_inj.mp z)
              have z_3 : ¬ (r_273 : Int32).toInt = (0 : Int32).toInt := fun z => c_275 (Int32.toInt_inj.mp z)
              have y_0 : (0 : Int32).toInt = 0 := by decide
              have y_12 : (12 : Int32).toInt = 12 := by decide
              have y_1 : (1 : Int32).toInt = 1 := by decide
              omega
            have ha_304 : 0 ≤ ((Tv 0) : Int32).toInt ∧ ((Tv 0) : Int32).toInt ≤ 400 ∧ 0 ≤ (sv_270 : Int32).toInt ∧ (sv_270 : Int32).toInt ≤ 400 ∧ 0 ≤ (sv_271 : Int32).toInt ∧ (sv_271 : Int32).toInt ≤ 400 := by
              have z_1 := Int32.le_iff_toInt_le.mp (Int32.not_lt.mp c_31)
              have z_2 : ¬ (vy_17 : Int32).toInt = (0 : Int32).toInt := fun z => c_59 (Int32.toInt_inj.mp z)
              have z_3 : ¬ (r_273 : Int32).toInt = (0 : Int32).toInt := fun z => c_275 (Int32.toInt_inj.mp z)
              have y_0 : (0 : Int32).toInt = 0 := by decide
              have y_12 : (12 : Int32).toInt = 12 := by decide
              omega
            refine cV (a := (Ta 0)) (As := [.ref (sk.1 1)]) (rest := []) (wr := [((Va 0), .inr (7, [.ref (Va 1), .int vy_18, .int vy_19])), ((Va 1), .inl (tc 0, 400, .inl vy_20))]) ⟨hx, hb, hml, hown, hts⟩ hK hX hA (ct_X10_isWord l D tc sk Ta (fun k => ([(Tv 0), sv_270, sv_271, sv_272, vy_24] : List (Int32)).getD k 0) Tf 1 ha_303 ha_304) k_618 k_615 k_616 k_617 k_96 pl_X10_isWord ⟨Nat.le_of_ble_eq_true rfl, Nat.le_of_ble_eq_true rfl⟩ rfl rfl (va_recv hK hP (ci := 10) (q0 := 2) rfl rfl) hP hD hS [2, 3] [0, 1] rfl rfl rfl rfl rfl (by decide) rfl hl.1 rfl (Nat.le_of_ble_eq_true rfl) dX7_read_38 ⟨Nat.le_of_ble_eq_true rfl, Nat.le_of_ble_eq_true rfl⟩ (fun v_305 u_306 H locs hv_307 hP hD hS => ?_)
            obtain ⟨r_308, rfl, he_309⟩ := hv_307
            have he_309 : ((r_308.toInt = 0 ∨ r_308.toInt = 1)) ∧ (0 ≤ ((Tv 0) : Int32).toInt ∧ ((Tv 0) : Int32).toInt ≤ 400 ∧ 0 ≤ (sv_270 : Int32).toInt ∧ (sv_270 : Int32).toInt ≤ 400 ∧ 0 ≤ (sv_271 : Int32).toInt ∧ (sv_271 : Int32).toInt ≤ 400) := he_309
            refine W.eq (g2 := F0 m 41 ls [.int r_308]) rfl ?_
            have hP : va_P D classes [((Va 0), .inr (7, [.ref (Va 1), .int vy_18, .int vy_19])), ((Va 1), .inl (tc 0, 400, .inl vy_20)), ((Ta 0), .inr (10, [.ref (Ta 1), .int (Tv 0), .int sv_270, .int sv_271, .int sv_272, .int vy_24])), ((Ta 1), .inl (tc 0, 400, .inl (Tf 1)))] H := hP
            have hD : va_D A [((Va 0), .inr (7, [.ref (Va 1), .int vy_18, .int vy_19])), ((Va 1), .inl (tc 0, 400, .inl vy_20)), ((Ta 0), .inr (10, [.ref (Ta 1), .int (Tv 0), .int sv_270, .int sv_271, .int sv_272, .int vy_24])), ((Ta 1), .inl (tc 0, 400, .inl (Tf 1)))] := hD
            refine lv_if_ne (tgt := 52) hx hb dX7_read_41 (by decide) (fun c_310 => ?_) (fun c_310 => ?_)
            · skip
              refine lv_iload_n hx hb dX7_read_52 rfl (lv_at hl 0 rfl) ?_
              refine lv_bipush (v := 12) hx hb dX7_read_53 (by decide) ?_
              refine lv_icmp_ne (tgt := 63) hx hb dX7_read_55 (by decide) (fun c_311 => ?_) (fun c_311 => ?_)
              · skip
                refine lv_aload_n hx hb dX7_read_63 rfl (lv_at hl 2 rfl) ?_
                have ha_312 : 0 ≤ ((Tv 0) : Int32).toInt ∧ ((Tv 0) : Int32).toInt ≤ 400 ∧ 0 ≤ (sv_270 : Int32).toInt ∧ (sv_270 : Int32).toInt ≤ 400 ∧ 0 ≤ (sv_271 : Int32).toInt ∧ (sv_271 : Int32).toInt ≤ 400 := by
                  have z_1 := Int32.le_iff_toInt_le.mp (Int32.not_lt.mp c_31)
                  have z_2 : ¬ (vy_17 : Int32).toInt = (0 : Int32).toInt := fun z => c_59 (Int32.toInt_inj.mp z)
                  have z_3 : ¬ (r_273 : Int32).toInt = (0 : Int32).toInt := fun z => c_275 (Int32.toInt_inj.mp z)
                  have z_4 : ¬ (r_308 : Int32).toInt = (0 : Int32).toInt := fun z => c_310 (Int32.toInt_inj.mp z)
                  have z_5 : ¬ (vy_17 : Int32).toInt = (12 : Int32).toInt := fun z => c_311 (Int32.toInt_inj.mp z)
                  have y_0 : (0 : Int32).toInt = 0 := by decide
                  have y_12 : (12 : Int32).toInt = 12 := by decide
                  omega
                refine cV (a := (Ta 0)) (As := []) (rest := []) (wr := [((Va 0), .inr (7, [.ref (Va 1), .int vy_18, .int vy_19])), ((Va 1), .inl (tc 0, 400, .inl vy_20))]) ⟨hx, hb, hml, hown, hts⟩ hK hX hA (ct_X10_step l D tc sk Ta (fun k => ([(Tv 0), sv_270, sv_271, sv_272, vy_24] : List (Int32)).getD k 0) Tf ha_312) k_478 k_620 k_476 k_477 k_96 pl_X10_step ⟨Nat.le_of_ble_eq_true rfl, Nat.le_of_ble_eq_true rfl⟩ rfl rfl (va_recv hK hP (ci := 10) (q0 := 2) rfl rfl) hP hD hS [2, 3] [0, 1] rfl rfl rfl rfl rfl (by decide) rfl hl.1 rfl (Nat.le_of_ble_eq_true rfl) dX7_read_64 ⟨Nat.le_of_ble_eq_true rfl, Nat.le_of_ble_eq_true rfl⟩ (fun v_313 u_314 H locs hv_315 hP hD hS => ?_)
                obtain ⟨sv_316, sv_317, sv_318⟩ := u_314
                obtain ⟨rfl, he_319⟩ := hv_315
                have he_319 : (0 ≤ ((Tv 0) : Int32).toInt ∧ ((Tv 0) : Int32).toInt ≤ 400 ∧ 0 ≤ (sv_316 : Int32).toInt ∧ (sv_316 : Int32).toInt ≤ 400 ∧ 0 ≤ (sv_317 : Int32).toInt ∧ (sv_317 : Int32).toInt ≤ 400) := he_319
                refine W.eq (g2 := F0 m 67 ls []) rfl ?_
                have hP : va_P D classes [((Va 0), .inr (7, [.ref (Va 1), .int vy_18, .int vy_19])), ((Va 1), .inl (tc 0, 400, .inl vy_20)), ((Ta 0), .inr (10, [.ref (Ta 1), .int (Tv 0), .int sv_316, .int sv_317, .int sv_318, .int vy_24])), ((Ta 1), .inl (tc 0, 400, .inl (Tf 1)))] H := hP
                have hD : va_D A [((Va 0), .inr (7, [.ref (Va 1), .int vy_18, .int vy_19])), ((Va 1), .inl (tc 0, 400, .inl vy_20)), ((Ta 0), .inr (10, [.ref (Ta 1), .int (Tv 0), .int sv_316, .int sv_317, .int sv_318, .int vy_24])), ((Ta 1), .inl (tc 0, 400, .inl (Tf 1)))] := hD
                refine lv_aload_n hx hb dX7_read_67 rfl (lv_at hl 1 rfl) ?_
                refine lv_aload_n hx hb dX7_read_68 rfl (lv_at hl 2 rfl) ?_
                have ha_320 : 0 ≤ ((Tv 0) : Int32).toInt ∧ ((Tv 0) : Int32).toInt ≤ 400 ∧ 0 ≤ (sv_316 : Int32).toInt ∧ (sv_316 : Int32).toInt ≤ 400 ∧ 0 ≤ (sv_317 : Int32).toInt ∧ (sv_317 : Int32).toInt ≤ 400 := by
                  have z_1 := Int32.le_iff_toInt_le.mp (Int32.not_lt.mp c_31)
                  have z_2 : ¬ (vy_17 : Int32).toInt = (0 : Int32).toInt := fun z => c_59 (Int32.toInt_inj.mp z)
                  have z_3 : ¬ (r_273 : Int32).toInt = (0 : Int32).toInt := fun z => c_275 (Int32.toInt_inj.mp z)
                  have z_4 : ¬ (r_308 : Int32).toInt = (0 : Int32).toInt := fun z => c_310 (Int32.toInt_inj.mp z)
                  have z_5 : ¬ (vy_17 : Int32).toInt = (12 : Int32).toInt := fun z => c_311 (Int32.toInt_inj.mp z)
                  have y_0 : (0 : Int32).toInt = 0 := by decide
                  have y_12 : (12 : Int32).toInt = 12 := by decide
                  omega
                refine cV (a := (Va 0)) (As := [.ref (Ta 0)]) (rest := []) (wr := []) ⟨hx, hb, hml, hown, hts⟩ hK hX hA (ct_X7_readSum l D tc sk Va (fun k => ([vy_18, vy_19] : List (Int32)).getD k 0) (fun k => ([(fun _ => 0), vy_20] : List (Nat → Int32)).getD k (fun _ => 0)) Ta (fun k => ([(Tv 0), sv_316, sv_317, sv_318, vy_24] : List (Int32)).getD k 0) Tf ha_320) k_624 k_621 k_623 k_7 k_99 pl_X7_readSum ⟨Nat.le_of_ble_eq_true rfl, Nat.le_of_ble_eq_true rfl⟩ rfl rfl (va_recv hK hP (ci := 7) (q0 := 0) rfl rfl) hP hD hS [0, 1, 2, 3] [] rfl rfl rfl rfl rfl (by decide) rfl hl.1 rfl (Nat.le_of_ble_eq_true rfl) dX7_read_69 ⟨Nat.le_of_ble_eq_true rfl, Nat.le_of_ble_eq_true rfl⟩ (fun v_321 u_322 H locs hv_323 hP hD hS => ?_)
                obtain ⟨sv_324, sv_325, sv_326, sv_327, sv_328, sv_329, sv_330⟩ := u_322
                obtain ⟨rfl, he_331⟩ := hv_323
                have he_331 : (0 ≤ ((Tv 0) : Int32).toInt ∧ ((Tv 0) : Int32).toInt ≤ 400 ∧ 0 ≤ (sv_327 : Int32).toInt ∧ (sv_327 : Int32).toInt ≤ 400 ∧ 0 ≤ (sv_328 : Int32).toInt ∧ (sv_328 : Int32).toInt ≤ 400) := he_331
                refine W.eq (g2 := F0 m 72 ls []) rfl ?_
                have hP : va_P D classes [((Va 0), .inr (7, [.ref (Va 1), .int sv_324, .int sv_325])), ((Va 1), .inl (tc 0, 400, .inl sv_326)), ((Ta 0), .inr (10, [.ref (Ta 1), .int (Tv 0), .int sv_327, .int sv_328, .int sv_329, .int sv_330])), ((Ta 1), .inl (tc 0, 400, .inl (Tf 1)))] H := hP
                have hD : va_D A [((Va 0), .inr (7, [.ref (Va 1), .int sv_324, .int sv_325])), ((Va 1), .inl (tc 0, 400, .inl sv_326)), ((Ta 0), .inr (10, [.ref (Ta 1), .int (Tv 0), .int sv_327, .int sv_328, .int sv_329, .int sv_330])), ((Ta 1), .inl (tc 0, 400, .inl (Tf 1)))] := hD
                refine lv_aload_n hx hb dX7_read_72 rfl (lv_at hl 2 rfl) ?_
                refine va_ldcS hx hb hown (hX.2.2.2.1 3 _ rfl) dX7_read_73 ?_
                have ha_332 : (3 : Nat) < 7 := by
                  have z_1 := Int32.le_iff_toInt_le.mp (Int32.not_lt.mp c_31)
                  have z_2 : ¬ (vy_17 : Int32).toInt = (0 : Int32).toInt := fun z => c_59 (Int32.toInt_inj.mp z)
                  have z_3 : ¬ (r_273 : Int32).toInt = (0 : Int32).toInt := fun z => c_275 (Int32.toInt_inj.mp z)
                  have z_4 : ¬ (r_308 : Int32).toInt = (0 : Int32).toInt := fun z => c_310 (Int32.toInt_inj.mp z)
                  have z_5 : ¬ (vy_17 : Int32).toInt = (12 : Int32).toInt := fun z => c_311 (Int32.toInt_inj.mp z)
                  have y_0 : (0 : Int32).toInt = 0 := by decide
                  have y_12 : (12 : Int32).toInt = 12 := by decide
                  have y_3 : (3 : Int32).toInt = 3 := by decide
                  omega
                have ha_333 : 0 ≤ ((Tv 0) : Int32).toInt ∧ ((Tv 0) : Int32).toInt ≤ 400 ∧ 0 ≤ (sv_327 : Int32).toInt ∧ (sv_327 : Int32).toInt ≤ 400 ∧ 0 ≤ (sv_328 : Int32).toInt ∧ (sv_328 : Int32).toInt ≤ 400 := by
                  have z_1 := Int32.le_iff_toInt_le.mp (Int32.not_lt.mp c_31)
                  have z_2 : ¬ (vy_17 : Int32).toInt = (0 : Int32).toInt := fun z => c_59 (Int32.toInt_inj.mp z)
                  have z_3 : ¬ (r_273 : Int32).toInt = (0 : Int32).toInt := fun z => c_275 (Int32.toInt_inj.mp z)
                  have z_4 : ¬ (r_308 : Int32).toInt = (0 : Int32).toInt := fun z => c_310 (Int32.toInt_inj.mp z)
                  have z_5 : ¬ (vy_17 : Int32).toInt = (12 : Int32).toInt := fun z => c_311 (Int32.toInt_inj.mp z)
                  have y_0 : (0 : Int32).toInt = 0 := by decide
                  have y_12 : (12 : Int32).toInt = 12 := by decide
                  omega
                refine cV (a := (Ta 0)) (As := [.ref (sk.1 3)]) (rest := []) (wr := [((Va 0), .inr (7, [.ref (Va 1), .int sv_324, .int sv_325])), ((Va 1), .inl (tc 0, 400, .inl sv_326))]) ⟨hx, hb, hml, hown, hts⟩ hK hX hA (ct_X10_takesWord l D tc sk Ta (fun k => ([(Tv 0), sv_327, sv_328, sv_329, sv_330] : List (Int32)).getD k 0) Tf 3 ha_332 ha_333) k_650 k_647 k_648 k_649 k_96 pl_X10_takesWord ⟨Nat.le_of_ble_eq_true rfl, Nat.le_of_ble_eq_true rfl⟩ rfl rfl (va_recv hK hP (ci := 10) (q0 := 2) rfl rfl) hP hD hS [2, 3] [0, 1] rfl rfl rfl rfl rfl (by decide) rfl hl.1 rfl (Nat.le_of_ble_eq_true rfl) dX7_read_75 ⟨Nat.le_of_ble_eq_true rfl, Nat.le_of_ble_eq_true rfl⟩ (fun v_334 u_335 H locs hv_336 hP hD hS => ?_)
                obtain ⟨sv_337, sv_338, sv_339⟩ := u_335
                obtain ⟨r_340, rfl, he_341⟩ := hv_336
                have he_341 : ((r_340.toInt = 0 ∨ r_340.toInt = 1)) ∧ (0 ≤ ((Tv 0) : Int32).toInt ∧ ((Tv 0) : Int32).toInt ≤ 400 ∧ 0 ≤ (sv_337 : Int32).toInt ∧ (sv_337 : Int32).toInt ≤ 400 ∧ 0 ≤ (sv_338 : Int32).toInt ∧ (sv_338 : Int32).toInt ≤ 400) := he_341
                refine W.eq (g2 := F0 m 78 ls [.int r_340]) rfl ?_
                have hP : va_P D classes [((Va 0), .inr (7, [.ref (Va 1), .int sv_324, .int sv_325])), ((Va 1), .inl (tc 0, 400, .inl sv_326)), ((Ta 0), .inr (10, [.ref (Ta 1), .int (Tv 0), .int sv_337, .int sv_338, .int sv_339, .int sv_330])), ((Ta 1), .inl (tc 0, 400, .inl (Tf 1)))] H := hP
                have hD : va_D A [((Va 0), .inr (7, [.ref (Va 1), .int sv_324, .int sv_325])), ((Va 1), .inl (tc 0, 400, .inl sv_326)), ((Ta 0), .inr (10, [.ref (Ta 1), .int (Tv 0), .int sv_337, .int sv_338, .int sv_339, .int sv_330])), ((Ta 1), .inl (tc 0, 400, .inl (Tf 1)))] := hD
                refine lv_if_eq (tgt := 96) hx hb dX7_read_78 (by decide) (fun c_342 => ?_) (fun c_342 => ?_)
                · skip
                  refine lv_aload_n hx hb dX7_read_96 rfl (lv_at hl 1 rfl) ?_
                  refine lv_bipush (v := (-2)) hx hb dX7_read_97 (by decide) ?_
                  refine cV (a := (Va 0)) (As := [.int (-2)]) (rest := []) (wr := [((Ta 0), .inr (10, [.ref (Ta 1), .int (Tv 0), .int sv_337, .int sv_338, .int sv_339, .int sv_330])), ((Ta 1), .inl (tc 0, 400, .inl (Tf 1)))]) ⟨hx, hb, hml, hown, hts⟩ hK hX hA (ct_X7_put l D tc sk Va (fun k => ([sv_324, sv_325] : List (Int32)).getD k 0) (fun k => ([(fun _ => 0), sv_326] : List (Nat → Int32)).getD k (fun _ => 0)) (-2)) k_642 k_639 k_641 k_10 k_99 pl_X7_put ⟨Nat.le_of_ble_eq_true rfl, Nat.le_of_ble_eq_true rfl⟩ rfl rfl (va_recv hK hP (ci := 7) (q0 := 0) rfl rfl) hP hD hS [0, 1] [2, 3] rfl rfl rfl rfl rfl (by decide) rfl hl.1 rfl (Nat.le_of_ble_eq_true rfl) dX7_read_99 ⟨Nat.le_of_ble_eq_true rfl, Nat.le_of_ble_eq_true rfl⟩ (fun v_343 u_344 H locs hv_345 hP hD hS => ?_)
                  obtain ⟨sv_346, sv_347⟩ := u_344
                  obtain rfl : v_343 = none := hv_345
                  refine W.eq (g2 := F0 m 102 ls []) rfl ?_
                  have hP : va_P D classes [((Ta 0), .inr (10, [.ref (Ta 1), .int (Tv 0), .int sv_337, .int sv_338, .int sv_339, .int sv_330])), ((Ta 1), .inl (tc 0, 400, .inl (Tf 1))), ((Va 0), .inr (7, [.ref (Va 1), .int sv_346, .int sv_325])), ((Va 1), .inl (tc 0, 400, .inl sv_347))] H := hP
                  have hD : va_D A [((Ta 0), .inr (10, [.ref (Ta 1), .int (Tv 0), .int sv_337, .int sv_338, .int sv_339, .int sv_330])), ((Ta 1), .inl (tc 0, 400, .inl (Tf 1))), ((Va 0), .inr (7, [.ref (Va 1), .int sv_346, .int sv_325])), ((Va 1), .inl (tc 0, 400, .inl sv_347))] := hD
                  obtain ⟨x_348, ex_348⟩ : ∃ y : Int32, y = vy_17 + 1 := ⟨_, rfl⟩
                  refine lv_iinc (v := x_348) (lv' := [(2, .int x_348), (0, .ref (Va 0)), (1, .ref (Ta 0))]) hx hb dX7_read_102 hl (k := 0) rfl (by rw [ex_348]; rfl) (by decide) rfl (fun ls hl => ?_)
                  refine lv_goto (tgt := 16) hx hb dX7_read_105 (by decide) ?_
                  have hb_349 : 13 - (x_348 : Int32).toInt < 13 - (vy_17 : Int32).toInt ∧ 1 ≤ 13 - (vy_17 : Int32).toInt := by
                    have z_1 := Int32.le_iff_toInt_le.mp (Int32.not_lt.mp c_31)
                    have z_2 : ¬ (vy_17 : Int32).toInt = (0 : Int32).toInt := fun z => c_59 (Int32.toInt_inj.mp z)
                    have z_3 : ¬ (r_273 : Int32).toInt = (0 : Int32).toInt := fun z => c_275 (Int32.toInt_inj.mp z)
                    have z_4 : ¬ (r_308 : Int32).toInt = (0 : Int32).toInt := fun z => c_310 (Int32.toInt_inj.mp z)
                    have z_5 : ¬ (vy_17 : Int32).toInt = (12 : Int32).toInt := fun z => c_311 (Int32.toInt_inj.mp z)
                    have z_6 := congrArg Int32.toInt c_342
                    have y_0 : (0 : Int32).toInt = 0 := by decide
                    have y_12 : (12 : Int32).toInt = 12 := by decide
                    have y_1 : (1 : Int32).toInt = 1 := by decide
                    have t_x_348 : x_348.toInt = (vy_17 : Int32).toInt + (1 : Int32).toInt := by rw [ex_348]; exact add_toInt (by omega) (by omega)
                    omega
                  have ha_350 : 0 ≤ (x_348 : Int32).toInt := by
                    have z_1 := Int32.le_iff_toInt_le.mp (Int32.not_lt.mp c_31)
                    have z_2 : ¬ (vy_17 : Int32).toInt = (0 : Int32).toInt := fun z => c_59 (Int32.toInt_inj.mp z)
                    have z_3 : ¬ (r_273 : Int32).toInt = (0 : Int32).toInt := fun z => c_275 (Int32.toInt_inj.mp z)
                    have z_4 : ¬ (r_308 : Int32).toInt = (0 : Int32).toInt := fun z => c_310 (Int32.toInt_inj.mp z)
                    have z_5 : ¬ (vy_17 : Int32).toInt = (12 : Int32).toInt := fun z => c_311 (Int32.toInt_inj.mp z)
                    have z_6 := congrArg Int32.toInt c_342
                    have y_0 : (0 : Int32).toInt = 0 := by decide
                    have y_12 : (12 : Int32).toInt = 12 := by decide
                    have y_1 : (1 : Int32).toInt = 1 := by decide
                    have t_x_348 : x_348.toInt = (vy_17 : Int32).toInt + (1 : Int32).toInt := by rw [ex_348]; exact add_toInt (by omega) (by omega)
                    omega
                  have ha_351 : 0 ≤ ((Tv 0) : Int32).toInt ∧ ((Tv 0) : Int32).toInt ≤ 400 ∧ 0 ≤ (sv_337 : Int32).toInt ∧ (sv_337 : Int32).toInt ≤ 400 ∧ 0 ≤ (sv_338 : Int32).toInt ∧ (sv_338 : Int32).toInt ≤ 400 := by
                    have z_1 := Int32.le_iff_toInt_le.mp (Int32.not_lt.mp c_31)
                    have z_2 : ¬ (vy_17 : Int32).toInt = (0 : Int32).toInt := fun z => c_59 (Int32.toInt_inj.mp z)
                    have z_3 : ¬ (r_273 : Int32).toInt = (0 : Int32).toInt := fun z => c_275 (Int32.toInt_inj.mp z)
                    have z_4 : ¬ (r_308 : Int32).toInt = (0 : Int32).toInt := fun z => c_310 (Int32.toInt_inj.mp z)
                    have z_5 : ¬ (vy_17 : Int32).toInt = (12 : Int32).toInt := fun z => c_311 (Int32.toInt_inj.mp z)
                    have z_6 := congrArg Int32.toInt c_342
                    have y_0 : (0 : Int32).toInt = 0 := by decide
                    have y_12 : (12 : Int32).toInt = 12 := by decide
                    omega
                  exact ih_26 x_348 sv_346 sv_325 sv_347 sv_337 sv_338 sv_339 sv_330 _ _ _ (by omega) ha_350 ha_351 (hP.sub [2, 3, 0, 1] rfl) (hD.sub [2, 3, 0, 1] rfl rfl) hS (lv_sub hl [0, 1, 2] rfl)
                · skip
                  refine lv_aload_n hx hb dX7_read_81 rfl (lv_at hl 1 rfl) ?_
                  refine lv_aload_n hx hb dX7_read_82 rfl (lv_at hl 2 rfl) ?_
                  refine lv_iconst (v := 0) hx hb dX7_read_83 (by decide) ?_
                  have ha_352 : 0 ≤ ((Tv 0) : Int32).toInt ∧ ((Tv 0) : Int32).toInt ≤ 400 ∧ 0 ≤ (sv_337 : Int32).toInt ∧ (sv_337 : Int32).toInt ≤ 400 ∧ 0 ≤ (sv_338 : Int32).toInt ∧ (sv_338 : Int32).toInt ≤ 400 := by
                    have z_1 := Int32.le_iff_toInt_le.mp (Int32.not_lt.mp c_31)
                    have z_2 : ¬ (vy_17 : Int32).toInt = (0 : Int32).toInt := fun z => c_59 (Int32.toInt_inj.mp z)
                    have z_3 : ¬ (r_273 : Int32).toInt = (0 : Int32).toInt := fun z => c_275 (Int32.toInt_inj.mp z)
                    have z_4 : ¬ (r_308 : Int32).toInt = (0 : Int32).toInt := fun z => c_310 (Int32.toInt_inj.mp z)
                    have z_5 : ¬ (vy_17 : Int32).toInt = (12 : Int32).toInt := fun z => c_311 (Int32.toInt_inj.mp z)
                    have z_6 : ¬ (r_340 : Int32).toInt = (0 : Int32).toInt := fun z => c_342 (Int32.toInt_inj.mp z)
                    have y_0 : (0 : Int32).toInt = 0 := by decide
                    have y_12 : (12 : Int32).toInt = 12 := by decide
                    omega
                  refine cV (a := (Va 0)) (As := [.ref (Ta 0), .int 0]) (rest := []) (wr := []) ⟨hx, hb, hml, hown, hts⟩ hK hX hA (ct_X7_readTest_0 l D tc sk Va (fun k => ([sv_324, sv_325] : List (Int32)).getD k 0) (fun k => ([(fun _ => 0), sv_326] : List (Nat → Int32)).getD k (fun _ => 0)) Ta (fun k => ([(Tv 0), sv_337, sv_338, sv_339, sv_330] : List (Int32)).getD k 0) Tf ha_352) k_655 k_652 k_654 k_11 k_99 pl_X7_readTest ⟨Nat.le_of_ble_eq_true rfl, Nat.le_of_ble_eq_true rfl⟩ rfl rfl (va_recv hK hP (ci := 7) (q0 := 0) rfl rfl) hP hD hS [0, 1, 2, 3] [] rfl rfl rfl rfl rfl (by decide) rfl hl.1 rfl (Nat.le_of_ble_eq_true rfl) dX7_read_84 ⟨Nat.le_of_ble_eq_true rfl, Nat.le_of_ble_eq_true rfl⟩ (fun v_353 u_354 H locs hv_355 hP hD hS => ?_)
                  obtain ⟨sv_356, sv_357, sv_358, sv_359, sv_360, sv_361, sv_362⟩ := u_354
                  obtain ⟨rfl, he_363⟩ := hv_355
                  have he_363 : (0 ≤ ((Tv 0) : Int32).toInt ∧ ((Tv 0) : Int32).toInt ≤ 400 ∧ 0 ≤ (sv_359 : Int32).toInt ∧ (sv_359 : Int32).toInt ≤ 400 ∧ 0 ≤ (sv_360 : Int32).toInt ∧ (sv_360 : Int32).toInt ≤ 400) := he_363
                  refine W.eq (g2 := F0 m 87 ls []) rfl ?_
                  have hP : va_P D classes [((Va 0), .inr (7, [.ref (Va 1), .int sv_356, .int sv_357])), ((Va 1), .inl (tc 0, 400, .inl sv_358)), ((Ta 0), .inr (10, [.ref (Ta 1), .int (Tv 0), .int sv_359, .int sv_360, .int sv_361, .int sv_362])), ((Ta 1), .inl (tc 0, 400, .inl (Tf 1)))] H := hP
                  have hD : va_D A [((Va 0), .inr (7, [.ref (Va 1), .int sv_356, .int sv_357])), ((Va 1), .inl (tc 0, 400, .inl sv_358)), ((Ta 0), .inr (10, [.ref (Ta 1), .int (Tv 0), .int sv_359, .int sv_360, .int sv_361, .int sv_362])), ((Ta 1), .inl (tc 0, 400, .inl (Tf 1)))] := hD
                  refine lv_aload_n hx hb dX7_read_87 rfl (lv_at hl 1 rfl) ?_
                  refine lv_bipush (v := (-3)) hx hb dX7_read_88 (by decide) ?_
                  refine cV (a := (Va 0)) (As := [.int (-3)]) (rest := []) (wr := [((Ta 0), .inr (10, [.ref (Ta 1), .int (Tv 0), .int sv_359, .int sv_360, .int sv_361, .int sv_362])), ((Ta 1), .inl (tc 0, 400, .inl (Tf 1)))]) ⟨hx, hb, hml, hown, hts⟩ hK hX hA (ct_X7_put l D tc sk Va (fun k => ([sv_356, sv_357] : List (Int32)).getD k 0) (fun k => ([(fun _ => 0), sv_358] : List (Nat → Int32)).getD k (fun _ => 0)) (-3)) k_642 k_639 k_641 k_10 k_99 pl_X7_put ⟨Nat.le_of_ble_eq_true rfl, Nat.le_of_ble_eq_true rfl⟩ rfl rfl (va_recv hK hP (ci := 7) (q0 := 0) rfl rfl) hP hD hS [0, 1] [2, 3] rfl rfl rfl rfl rfl (by decide) rfl hl.1 rfl (Nat.le_of_ble_eq_true rfl) dX7_read_90 ⟨Nat.le_of_ble_eq_true rfl, Nat.le_of_ble_eq_true rfl⟩ (fun v_364 u_365 H locs hv_366 hP hD hS => ?_)
                  obtain ⟨sv_367, sv_368⟩ := u_365
                  obtain rfl : v_364 = none := hv_366
                  refine W.eq (g2 := F0 m 93 ls []) rfl ?_
                  have hP : va_P D classes [((Ta 0), .inr (10, [.ref (Ta 1), .int (Tv 0), .int sv_359, .int sv_360, .int sv_361, .int sv_362])), ((Ta 1), .inl (tc 0, 400, .inl (Tf 1))), ((Va 0), .inr (7, [.ref (Va 1), .int sv_367, .int sv_357])), ((Va 1), .inl (tc 0, 400, .inl sv_368))] H := hP
                  have hD : va_D A [((Ta 0), .inr (10, [.ref (Ta 1), .int (Tv 0), .int sv_359, .int sv_360, .int sv_361, .int sv_362])), ((Ta 1), .inl (tc 0, 400, .inl (Tf 1))), ((Va 0), .inr (7, [.ref (Va 1), .int sv_367, .int sv_357])), ((Va 1), .inl (tc 0, 400, .inl sv_368))] := hD
                  refine lv_goto (tgt := 102) hx hb dX7_read_93 (by decide) ?_
                  obtain ⟨x_369, ex_369⟩ : ∃ y : Int32, y = vy_17 + 1 := ⟨_, rfl⟩
                  refine lv_iinc (v := x_369) (lv' := [(2, .int x_369), (0, .ref (Va 0)), (1, .ref (Ta 0))]) hx hb dX7_read_102 hl (k := 0) rfl (by rw [ex_369]; rfl) (by decide) rfl (fun ls hl => ?_)
                  refine lv_goto (tgt := 16) hx hb dX7_read_105 (by decide) ?_
                  have hb_370 : 13 - (x_369 : Int32).toInt < 13 - (vy_17 : Int32).toInt ∧ 1 ≤ 13 - (vy_17 : Int32).toInt := by
                    have z_1 := Int32.le_iff_toInt_le.mp (Int32.not_lt.mp c_31)
                    have z_2 : ¬ (vy_17 : Int32).toInt = (0 : Int32).toInt := fun z => c_59 (Int32.toInt_inj.mp z)
                    have z_3 : ¬ (r_273 : Int32).toInt = (0 : Int32).toInt := fun z => c_275 (Int32.toInt_inj.mp z)
                    have z_4 : ¬ (r_308 : Int32).toInt = (0 : Int32).toInt := fun z => c_310 (Int32.toInt_inj.mp z)
                    have z_5 : ¬ (vy_17 : Int32).toInt = (12 : Int32).toInt := fun z => c_311 (Int32.toInt_inj.mp z)
                    have z_6 : ¬ (r_340 : Int32).toInt = (0 : Int32).toInt := fun z => c_342 (Int32.toInt_inj.mp z)
                    have y_0 : (0 : Int32).toInt = 0 := by decide
                    have y_12 : (12 : Int32).toInt = 12 := by decide
                    have y_1 : (1 : Int32).toInt = 1 := by decide
                    have t_x_369 : x_369.toInt = (vy_17 : Int32).toInt + (1 : Int32).toInt := by rw [ex_369]; exact add_toInt (by omega) (by omega)
                    omega
                  have ha_371 : 0 ≤ (x_369 : Int32).toInt := by
                    have z_1 := Int32.le_iff_toInt_le.mp (Int32.not_lt.mp c_31)
                    have z_2 : ¬ (vy_17 : Int32).toInt = (0 : Int32).toInt := fun z => c_59 (Int32.toInt_inj.mp z)
                    have z_3 : ¬ (r_273 : Int32).toInt = (0 : Int32).toInt := fun z => c_275 (Int32.toInt_inj.mp z)
                    have z_4 : ¬ (r_308 : Int32).toInt = (0 : Int32).toInt := fun z => c_310 (Int32.toInt_inj.mp z)
                    have z_5 : ¬ (vy_17 : Int32).toInt = (12 : Int32).toInt := fun z => c_311 (Int32.toInt_inj.mp z)
                    have z_6 : ¬ (r_340 : Int32).toInt = (0 : Int32).toInt := fun z => c_342 (Int32.toInt_inj.mp z)
                    have y_0 : (0 : Int32).toInt = 0 := by decide
                    have y_12 : (12 : Int32).toInt = 12 := by decide
                    have y_1 : (1 : Int32).toInt = 1 := by decide
                    have t_x_369 : x_369.toInt = (vy_17 : Int32).toInt + (1 : Int32).toInt := by rw [ex_369]; exact add_toInt (by omega) (by omega)
                    omega
                  have ha_372 : 0 ≤ ((Tv 0) : Int32).toInt ∧ ((Tv 0) : Int32).toInt ≤ 400 ∧ 0 ≤ (sv_359 : Int32).toInt ∧ (sv_359 : Int32).toInt ≤ 400 ∧ 0 ≤ (sv_360 : Int32).toInt ∧ (sv_360 : Int32).toInt ≤ 400 := by
                    have z_1 := Int32.le_iff_toInt_le.mp (Int32.not_lt.mp c_31)
                    have z_2 : ¬ (vy_17 : Int32).toInt = (0 : Int32).toInt := fun z => c_59 (Int32.toInt_inj.mp z)
                    have z_3 : ¬ (r_273 : Int32).toInt = (0 : Int32).toInt := fun z => c_275 (Int32.toInt_inj.mp z)
                    have z_4 : ¬ (r_308 : Int32).toInt = (0 : Int32).toInt := fun z => c_310 (Int32.toInt_inj.mp z)
                    have z_5 : ¬ (vy_17 : Int32).toInt = (12 : Int32).toInt := fun z => c_311 (Int32.toInt_inj.mp z)
                    have z_6 : ¬ (r_340 : Int32).toInt = (0 : Int32).toInt := fun z => c_342 (Int32.toInt_inj.mp z)
                    have y_0 : (0 : Int32).toInt = 0 := by decide
                    have y_12 : (12 : Int32).toInt = 12 := by decide
                    omega
                  exact ih_26 x_369 sv_367 sv_357 sv_368 sv_359 sv_360 sv_361 sv_362 _ _ _ (by omega) ha_371 ha_372 (hP.sub [2, 3, 0, 1] rfl) (hD.sub [2, 3, 0, 1] rfl rfl) hS (lv_sub hl [0, 1, 2] rfl)
              · skip
                refine lv_aload_n hx hb dX7_read_58 rfl (lv_at hl 2 rfl) ?_
                refine lv_iconst (v := 4) hx hb dX7_read_59 (by decide) ?_
                have ha_373 : 0 ≤ ((Tv 0) : Int32).toInt ∧ ((Tv 0) : Int32).toInt ≤ 400 ∧ 0 ≤ (sv_270 : Int32).toInt ∧ (sv_270 : Int32).toInt ≤ 400 ∧ 0 ≤ (sv_271 : Int32).toInt ∧ (sv_271 : Int32).toInt ≤ 400 := by
                  have z_1 := Int32.le_iff_toInt_le.mp (Int32.not_lt.mp c_31)
                  have z_2 : ¬ (vy_17 : Int32).toInt = (0 : Int32).toInt := fun z => c_59 (Int32.toInt_inj.mp z)
                  have z_3 : ¬ (r_273 : Int32).toInt = (0 : Int32).toInt := fun z => c_275 (Int32.toInt_inj.mp z)
                  have z_4 : ¬ (r_308 : Int32).toInt = (0 : Int32).toInt := fun z => c_310 (Int32.toInt_inj.mp z)
                  have z_5 := congrArg Int32.toInt c_311
                  have y_0 : (0 : Int32).toInt = 0 := by decide
                  have y_12 : (12 : Int32).toInt = 12 := by decide
                  omega
                refine cV (a := (Ta 0)) (As := [.int 4]) (rest := []) (wr := [((Va 0), .inr (7, [.ref (Va 1), .int vy_18, .int vy_19])), ((Va 1), .inl (tc 0, 400, .inl vy_20))]) ⟨hx, hb, hml, hown, hts⟩ hK hX hA (ct_X10_fail l D tc sk Ta (fun k => ([(Tv 0), sv_270, sv_271, sv_272, vy_24] : List (Int32)).getD k 0) Tf 4 ha_373) k_557 k_619 k_555 k_556 k_96 pl_X10_fail ⟨Nat.le_of_ble_eq_true rfl, Nat.le_of_ble_eq_true rfl⟩ rfl rfl (va_recv hK hP (ci := 10) (q0 := 2) rfl rfl) hP hD hS [2, 3] [0, 1] rfl rfl rfl rfl rfl (by decide) rfl hl.1 rfl (Nat.le_of_ble_eq_true rfl) dX7_read_60 ⟨Nat.le_of_ble_eq_true rfl, Nat.le_of_ble_eq_true rfl⟩ (fun v_374 u_375 H locs hv_376 hP hD hS => ?_)
                obtain ⟨sv_377, sv_378⟩ := u_375
                obtain ⟨rfl, he_379⟩ := hv_376
                have he_379 : (0 ≤ ((Tv 0) : Int32).toInt ∧ ((Tv 0) : Int32).toInt ≤ 400 ∧ 0 ≤ (sv_270 : Int32).toInt ∧ (sv_270 : Int32).toInt ≤ 400 ∧ 0 ≤ (sv_271 : Int32).toInt ∧ (sv_271 : Int32).toInt ≤ 400) := he_379
                refine W.eq (g2 := F0 m 63 ls []) rfl ?_
                have hP : va_P D classes [((Va 0), .inr (7, [.ref (Va 1), .int vy_18, .int vy_19])), ((Va 1), .inl (tc 0, 400, .inl vy_20)), ((Ta 0), .inr (10, [.ref (Ta 1), .int (Tv 0), .int sv_270, .int sv_271, .int sv_377, .int sv_378])), ((Ta 1), .inl (tc 0, 400, .inl (Tf 1)))] H := hP
                have hD : va_D A [((Va 0), .inr (7, [.ref (Va 1), .int vy_18, .int vy_19])), ((Va 1), .inl (tc 0, 400, .inl vy_20)), ((Ta 0), .inr (10, [.ref (Ta 1), .int (Tv 0), .int sv_270, .int sv_271, .int sv_377, .int sv_378])), ((Ta 1), .inl (tc 0, 400, .inl (Tf 1)))] := hD
                refine lv_aload_n hx hb dX7_read_63 rfl (lv_at hl 2 rfl) ?_
                have ha_380 : 0 ≤ ((Tv 0) : Int32).toInt ∧ ((Tv 0) : Int32).toInt ≤ 400 ∧ 0 ≤ (sv_270 : Int32).toInt ∧ (sv_270 : Int32).toInt ≤ 400 ∧ 0 ≤ (sv_271 : Int32).toInt ∧ (sv_271 : Int32).toInt ≤ 400 := by
                  have z_1 := Int32.le_iff_toInt_le.mp (Int32.not_lt.mp c_31)
                  have z_2 : ¬ (vy_17 : Int32).toInt = (0 : Int32).toInt := fun z => c_59 (Int32.toInt_inj.mp z)
                  have z_3 : ¬ (r_273 : Int32).toInt = (0 : Int32).toInt := fun z => c_275 (Int32.toInt_inj.mp z)
                  have z_4 : ¬ (r_308 : Int32).toInt = (0 : Int32).toInt := fun z => c_310 (Int32.toInt_inj.mp z)
                  have z_5 := congrArg Int32.toInt c_311
                  have y_0 : (0 : Int32).toInt = 0 := by decide
                  have y_12 : (12 : Int32).toInt = 12 := by decide
                  omega
                refine cV (a := (Ta 0)) (As := []) (rest := []) (wr := [((Va 0), .inr (7, [.ref (Va 1), .int vy_18, .int vy_19])), ((Va 1), .inl (tc 0, 400, .inl vy_20))]) ⟨hx, hb, hml, hown, hts⟩ hK hX hA (ct_X10_step l D tc sk Ta (fun k => ([(Tv 0), sv_270, sv_271, sv_377, sv_378] : List (Int32)).getD k 0) Tf ha_380) k_478 k_620 k_476 k_477 k_96 pl_X10_step ⟨Nat.le_of_ble_eq_true rfl, Nat.le_of_ble_eq_true rfl⟩ rfl rfl (va_recv hK hP (ci := 10) (q0 := 2) rfl rfl) hP hD hS [2, 3] [0, 1] rfl rfl rfl rfl rfl (by decide) rfl hl.1 rfl (Nat.le_of_ble_eq_true rfl) dX7_read_64 ⟨Nat.le_of_ble_eq_true rfl, Nat.le_of_ble_eq_true rfl⟩ (fun v_381 u_382 H locs hv_383 hP hD hS => ?_)
                obtain ⟨sv_384, sv_385, sv_386⟩ := u_382
                obtain ⟨rfl, he_387⟩ := hv_383
                have he_387 : (0 ≤ ((Tv 0) : Int32).toInt ∧ ((Tv 0) : Int32).toInt ≤ 400 ∧ 0 ≤ (sv_384 : Int32).toInt ∧ (sv_384 : Int32).toInt ≤ 400 ∧ 0 ≤ (sv_385 : Int32).toInt ∧ (sv_385 : Int32).toInt ≤ 400) := he_387
                refine W.eq (g2 := F0 m 67 ls []) rfl ?_
                have hP : va_P D classes [((Va 0), .inr (7, [.ref (Va 1), .int vy_18, .int vy_19])), ((Va 1), .inl (tc 0, 400, .inl vy_20)), ((Ta 0), .inr (10, [.ref (Ta 1), .int (Tv 0), .int sv_384, .int sv_385, .int sv_386, .int sv_378])), ((Ta 1), .inl (tc 0, 400, .inl (Tf 1)))] H := hP
                have hD : va_D A [((Va 0), .inr (7, [.ref (Va 1), .int vy_18, .int vy_19])), ((Va 1), .inl (tc 0, 400, .inl vy_20)), ((Ta 0), .inr (10, [.ref (Ta 1), .int (Tv 0), .int sv_384, .int sv_385, .int sv_386, .int sv_378])), ((Ta 1), .inl (tc 0, 400, .inl (Tf 1)))] := hD
                refine lv_aload_n hx hb dX7_read_67 rfl (lv_at hl 1 rfl) ?_
                refine lv_aload_n hx hb dX7_read_68 rfl (lv_at hl 2 rfl) ?_
                have ha_388 : 0 ≤ ((Tv 0) : Int32).toInt ∧ ((Tv 0) : Int32).toInt ≤ 400 ∧ 0 ≤ (sv_384 : Int32).toInt ∧ (sv_384 : Int32).toInt ≤ 400 ∧ 0 ≤ (sv_385 : Int32).toInt ∧ (sv_385 : Int32).toInt ≤ 400 := by
                  have z_1 := Int32.le_iff_toInt_le.mp (Int32.not_lt.mp c_31)
                  have z_2 : ¬ (vy_17 : Int32).toInt = (0 : Int32).toInt := fun z => c_59 (Int32.toInt_inj.mp z)
                  have z_3 : ¬ (r_273 : Int32).toInt = (0 : Int32).toInt := fun z => c_275 (Int32.toInt_inj.mp z)
                  have z_4 : ¬ (r_308 : Int32).toInt = (0 : Int32).toInt := fun z => c_310 (Int32.toInt_inj.mp z)
                  have z_5 := congrArg Int32.toInt c_311
                  have y_0 : (0 : Int32).toInt = 0 := by decide
                  have y_12 : (12 : Int32).toInt = 12 := by decide
                  omega
                refine cV (a := (Va 0)) (As := [.ref (Ta 0)]) (rest := []) (wr := []) ⟨hx, hb, hml, hown, hts⟩ hK hX hA (ct_X7_readSum l D tc sk Va (fun k => ([vy_18, vy_19] : List (Int32)).getD k 0) (fun k => ([(fun _ => 0), vy_20] : List (Nat → Int32)).getD k (fun _ => 0)) Ta (fun k => ([(Tv 0), sv_384, sv_385, sv_386, sv_378] : List (Int32)).getD k 0) Tf ha_388) k_624 k_621 k_623 k_7 k_99 pl_X7_readSum ⟨Nat.le_of_ble_eq_true rfl, Nat.le_of_ble_eq_true rfl⟩ rfl rfl (va_recv hK hP (ci := 7) (q0 := 0) rfl rfl) hP hD hS [0, 1, 2, 3] [] rfl rfl rfl rfl rfl (by decide) rfl hl.1 rfl (Nat.le_of_ble_eq_true rfl) dX7_read_69 ⟨Nat.le_of_ble_eq_true rfl, Nat.le_of_ble_eq_true rfl⟩ (fun v_389 u_390 H locs hv_391 hP hD hS => ?_)
                obtain ⟨sv_392, sv_393, sv_394, sv_395, sv_396, sv_397, sv_398⟩ := u_390
                obtain ⟨rfl, he_399⟩ := hv_391
                have he_399 : (0 ≤ ((Tv 0) : Int32).toInt ∧ ((Tv 0) : Int32).toInt ≤ 400 ∧ 0 ≤ (sv_395 : Int32).toInt ∧ (sv_395 : Int32).toInt ≤ 400 ∧ 0 ≤ (sv_396 : Int32).toInt ∧ (sv_396 : Int32).toInt ≤ 400) := he_399
                refine W.eq (g2 := F0 m 72 ls []) rfl ?_
                have hP : va_P D classes [((Va 0), .inr (7, [.ref (Va 1), .int sv_392, .int sv_393])), ((Va 1), .inl (tc 0, 400, .inl sv_394)), ((Ta 0), .inr (10, [.ref (Ta 1), .int (Tv 0), .int sv_395, .int sv_396, .int sv_397, .int sv_398])), ((Ta 1), .inl (tc 0, 400, .inl (Tf 1)))] H := hP
                have hD : va_D A [((Va 0), .inr (7, [.ref (Va 1), .int sv_392, .int sv_393])), ((Va 1), .inl (tc 0, 400, .inl sv_394)), ((Ta 0), .inr (10, [.ref (Ta 1), .int (Tv 0), .int sv_395, .int sv_396, .int sv_397, .int sv_398])), ((Ta 1), .inl (tc 0, 400, .inl (Tf 1)))] := hD
                refine lv_aload_n hx hb dX7_read_72 rfl (lv_at hl 2 rfl) ?_
                refine va_ldcS hx hb hown (hX.2.2.2.1 3 _ rfl) dX7_read_73 ?_
                have ha_400 : (3 : Nat) < 7 := by
                  have z_1 := Int32.le_iff_toInt_le.mp (Int32.not_lt.mp c_31)
                  have z_2 : ¬ (vy_17 : Int32).toInt = (0 : Int32).toInt := fun z => c_59 (Int32.toInt_inj.mp z)
                  have z_3 : ¬ (r_273 : Int32).toInt = (0 : Int32).toInt := fun z => c_275 (Int32.toInt_inj.mp z)
                  have z_4 : ¬ (r_308 : Int32).toInt = (0 : Int32).toInt := fun z => c_310 (Int32.toInt_inj.mp z)
                  have z_5 := congrArg Int32.toInt c_311
                  have y_0 : (0 : Int32).toInt = 0 := by decide
                  have y_12 : (12 : Int32).toInt = 12 := by decide
                  have y_3 : (3 : Int32).toInt = 3 := by decide
                  omega
                have ha_401 : 0 ≤ ((Tv 0) : Int32).toInt ∧ ((Tv 0) : Int32).toInt ≤ 400 ∧ 0 ≤ (sv_395 : Int32).toInt ∧ (sv_395 : Int32).toInt ≤ 400 ∧ 0 ≤ (sv_396 : Int32).toInt ∧ (sv_396 : Int32).toInt ≤ 400 := by
                  have z_1 := Int32.le_iff_toInt_le.mp (Int32.not_lt.mp c_31)
                  have z_2 : ¬ (vy_17 : Int32).toInt = (0 : Int32).toInt := fun z => c_59 (Int32.toInt_inj.mp z)
                  have z_3 : ¬ (r_273 : Int32).toInt = (0 : Int32).toInt := fun z => c_275 (Int32.toInt_inj.mp z)
                  have z_4 : ¬ (r_308 : Int32).toInt = (0 : Int32).toInt := fun z => c_310 (Int32.toInt_inj.mp z)
                  have z_5 := congrArg Int32.toInt c_311
                  have y_0 : (0 : Int32).toInt = 0 := by decide
                  have y_12 : (12 : Int32).toInt = 12 := by decide
                  omega
                refine cV (a := (Ta 0)) (As := [.ref (sk.1 3)]) (rest := []) (wr := [((Va 0), .inr (7, [.ref (Va 1), .int sv_392, .int sv_393])), ((Va 1), .inl (tc 0, 400, .inl sv_394))]) ⟨hx, hb, hml, hown, hts⟩ hK hX hA (ct_X10_takesWord l D tc sk Ta (fun k => ([(Tv 0), sv_395, sv_396, sv_397, sv_398] : List (Int32)).getD k 0) Tf 3 ha_400 ha_401) k_650 k_647 k_648 k_649 k_96 pl_X10_takesWord ⟨Nat.le_of_ble_eq_true rfl, Nat.le_of_ble_eq_true rfl⟩ rfl rfl (va_recv hK hP (ci := 10) (q0 := 2) rfl rfl) hP hD hS [2, 3] [0, 1] rfl rfl rfl rfl rfl (by decide) rfl hl.1 rfl (Nat.le_of_ble_eq_true rfl) dX7_read_75 ⟨Nat.le_of_ble_eq_true rfl, Nat.le_of_ble_eq_true rfl⟩ (fun v_402 u_403 H locs hv_404 hP hD hS => ?_)
                obtain ⟨sv_405, sv_406, sv_407⟩ := u_403
                obtain ⟨r_408, rfl, he_409⟩ := hv_404
                have he_409 : ((r_408.toInt = 0 ∨ r_408.toInt = 1)) ∧ (0 ≤ ((Tv 0) : Int32).toInt ∧ ((Tv 0) : Int32).toInt ≤ 400 ∧ 0 ≤ (sv_405 : Int32).toInt ∧ (sv_405 : Int32).toInt ≤ 400 ∧ 0 ≤ (sv_406 : Int32).toInt ∧ (sv_406 : Int32).toInt ≤ 400) := he_409
                refine W.eq (g2 := F0 m 78 ls [.int r_408]) rfl ?_
                have hP : va_P D classes [((Va 0), .inr (7, [.ref (Va 1), .int sv_392, .int sv_393])), ((Va 1), .inl (tc 0, 400, .inl sv_394)), ((Ta 0), .inr (10, [.ref (Ta 1), .int (Tv 0), .int sv_405, .int sv_406, .int sv_407, .int sv_398])), ((Ta 1), .inl (tc 0, 400, .inl (Tf 1)))] H := hP
                have hD : va_D A [((Va 0), .inr (7, [.ref (Va 1), .int sv_392, .int sv_393])), ((Va 1), .inl (tc 0, 400, .inl sv_394)), ((Ta 0), .inr (10, [.ref (Ta 1), .int (Tv 0), .int sv_405, .int sv_406, .int sv_407, .int sv_398])), ((Ta 1), .inl (tc 0, 400, .inl (Tf 1)))] := hD
                refine lv_if_eq (tgt := 96) hx hb dX7_read_78 (by decide) (fun c_410 => ?_) (fun c_410 => ?_)
                · skip
                  refine lv_aload_n hx hb dX7_read_96 rfl (lv_at hl 1 rfl) ?_
                  refine lv_bipush (v := (-2)) hx hb dX7_read_97 (by decide) ?_
                  refine cV (a := (Va 0)) (As := [.int (-2)]) (rest := []) (wr := [((Ta 0), .inr (10, [.ref (Ta 1), .int (Tv 0), .int sv_405, .int sv_406, .int sv_407, .int sv_398])), ((Ta 1), .inl (tc 0, 400, .inl (Tf 1)))]) ⟨hx, hb, hml, hown, hts⟩ hK hX hA (ct_X7_put l D tc sk Va (fun k => ([sv_392, sv_393] : List (Int32)).getD k 0) (fun k => ([(fun _ => 0), sv_394] : List (Nat → Int32)).getD k (fun _ => 0)) (-2)) k_642 k_639 k_641 k_10 k_99 pl_X7_put ⟨Nat.le_of_ble_eq_true rfl, Nat.le_of_ble_eq_true rfl⟩ rfl rfl (va_recv hK hP (ci := 7) (q0 := 0) rfl rfl) hP hD hS [0, 1] [2, 3] rfl rfl rfl rfl rfl (by decide) rfl hl.1 rfl (Nat.le_of_ble_eq_true rfl) dX7_read_99 ⟨Nat.le_of_ble_eq_true rfl, Nat.le_of_ble_eq_true rfl⟩ (fun v_411 u_412 H locs hv_413 hP hD hS => ?_)
                  obtain ⟨sv_414, sv_415⟩ := u_412
                  obtain rfl : v_411 = none := hv_413
                  refine W.eq (g2 := F0 m 102 ls []) rfl ?_
                  have hP : va_P D classes [((Ta 0), .inr (10, [.ref (Ta 1), .int (Tv 0), .int sv_405, .int sv_406, .int sv_407, .int sv_398])), ((Ta 1), .inl (tc 0, 400, .inl (Tf 1))), ((Va 0), .inr (7, [.ref (Va 1), .int sv_414, .int sv_393])), ((Va 1), .inl (tc 0, 400, .inl sv_415))] H := hP
                  have hD : va_D A [((Ta 0), .inr (10, [.ref (Ta 1), .int (Tv 0), .int sv_405, .int sv_406, .int sv_407, .int sv_398])), ((Ta 1), .inl (tc 0, 400, .inl (Tf 1))), ((Va 0), .inr (7, [.ref (Va 1), .int sv_414, .int sv_393])), ((Va 1), .inl (tc 0, 400, .inl sv_415))] := hD
                  obtain ⟨x_416, ex_416⟩ : ∃ y : Int32, y = vy_17 + 1 := ⟨_, rfl⟩
                  refine lv_iinc (v := x_416) (lv' := [(2, .int x_416), (0, .ref (Va 0)), (1, .ref (Ta 0))]) hx hb dX7_read_102 hl (k := 0) rfl (by rw [ex_416]; rfl) (by decide) rfl (fun ls hl => ?_)
                  refine lv_goto (tgt := 16) hx hb dX7_read_105 (by decide) ?_
                  have hb_417 : 13 - (x_416 : Int32).toInt < 13 - (vy_17 : Int32).toInt ∧ 1 ≤ 13 - (vy_17 : Int32).toInt := by
                    have z_1 := Int32.le_iff_toInt_le.mp (Int32.not_lt.mp c_31)
                    have z_2 : ¬ (vy_17 : Int32).toInt = (0 : Int32).toInt := fun z => c_59 (Int32.toInt_inj.mp z)
                    have z_3 : ¬ (r_273 : Int32).toInt = (0 : Int32).toInt := fun z => c_275 (Int32.toInt_inj.mp z)
                    have z_4 : ¬ (r_308 : Int32).toInt = (0 : Int32).toInt := fun z => c_310 (Int32.toInt_inj.mp z)
                    have z_5 := congrArg Int32.toInt c_311
                    have z_6 := congrArg Int32.toInt c_410
                    have y_0 : (0 : Int32).toInt = 0 := by decide
                    have y_12 : (12 : Int32).toInt = 12 := by decide
                    have y_1 : (1 : Int32).toInt = 1 := by decide
                    have t_x_416 : x_416.toInt = (vy_17 : Int32).toInt + (1 : Int32).toInt := by rw [ex_416]; exact add_toInt (by omega) (by omega)
                    omega
                  have ha_418 : 0 ≤ (x_416 : Int32).toInt := by
                    have z_1 := Int32.le_iff_toInt_le.mp (Int32.not_lt.mp c_31)
                    have z_2 : ¬ (vy_17 : Int32).toInt = (0 : Int32).toInt := fun z => c_59 (Int32.toInt_inj.mp z)
                    have z_3 : ¬ (r_273 : Int32).toInt = (0 : Int32).toInt := fun z => c_275 (Int32.toInt_inj.mp z)
                    have z_4 : ¬ (r_308 : Int32).toInt = (0 : Int32).toInt := fun z => c_310 (Int32.toInt_inj.mp z)
                    have z_5 := congrArg Int32.toInt c_311
                    have z_6 := congrArg Int32.toInt c_410
                    have y_0 : (0 : Int32).toInt = 0 := by decide
                    have y_12 : (12 : Int32).toInt = 12 := by decide
                    have y_1 : (1 : Int32).toInt = 1 := by decide
                    have t_x_416 : x_416.toInt = (vy_17 : Int32).toInt + (1 : Int32).toInt := by rw [ex_416]; exact add_toInt (by omega) (by omega)
                    omega
                  have ha_419 : 0 ≤ ((Tv 0) : Int32).toInt ∧ ((Tv 0) : Int32).toInt ≤ 400 ∧ 0 ≤ (sv_405 : Int32).toInt ∧ (sv_405 : Int32).toInt ≤ 400 ∧ 0 ≤ (sv_406 : Int32).toInt ∧ (sv_406 : Int32).toInt ≤ 400 := by
                    have z_1 := Int32.le_iff_toInt_le.mp (Int32.not_lt.mp c_31)
                    have z_2 : ¬ (vy_17 : Int32).toInt = (0 : Int32).toInt := fun z => c_59 (Int32.toInt_inj.mp z)
                    have z_3 : ¬ (r_273 : Int32).toInt = (0 : Int32).toInt := fun z => c_275 (Int32.toInt_inj.mp z)
                    have z_4 : ¬ (r_308 : Int32).toInt = (0 : Int32).toInt := fun z => c_310 (Int32.toInt_inj.mp z)
                    have z_5 := congrArg Int32.toInt c_311
                    have z_6 := congrArg Int32.toInt c_410
                    have y_0 : (0 : Int32).toInt = 0 := by decide
                    have y_12 : (12 : Int32).toInt = 12 := by decide
                    omega
                  exact ih_26 x_416 sv_414 sv_393 sv_415 sv_405 sv_406 sv_407 sv_398 _ _ _ (by omega) ha_418 ha_419 (hP.sub [2, 3, 0, 1] rfl) (hD.sub [2, 3, 0, 1] rfl rfl) hS (lv_sub hl [0, 1, 2] rfl)
                · skip
                  refine lv_aload_n hx hb dX7_read_81 rfl (lv_at hl 1 rfl) ?_
                  refine lv_aload_n hx hb dX7_read_82 rfl (lv_at hl 2 rfl) ?_
                  refine lv_iconst (v := 0) hx hb dX7_read_83 (by decide) ?_
                  have ha_420 : 0 ≤ ((Tv 0) : Int32).toInt ∧ ((Tv 0) : Int32).toInt ≤ 400 ∧ 0 ≤ (sv_405 : Int32).toInt ∧ (sv_405 : Int32).toInt ≤ 400 ∧ 0 ≤ (sv_406 : Int32).toInt ∧ (sv_406 : Int32).toInt ≤ 400 := by
                    have z_1 := Int32.le_iff_toInt_le.mp (Int32.not_lt.mp c_31)
                    have z_2 : ¬ (vy_17 : Int32).toInt = (0 : Int32).toInt := fun z => c_59 (Int32.toInt_inj.mp z)
                    have z_3 : ¬ (r_273 : Int32).toInt = (0 : Int32).toInt := fun z => c_275 (Int32.toInt_inj.mp z)
                    have z_4 : ¬ (r_308 : Int32).toInt = (0 : Int32).toInt := fun z => c_310 (Int32.toInt_inj.mp z)
                    have z_5 := congrArg Int32.toInt c_311
                    have z_6 : ¬ (r_408 : Int32).toInt = (0 : Int32).toInt := fun z => c_410 (Int32.toInt_inj.mp z)
                    have y_0 : (0 : Int32).toInt = 0 := by decide
                    have y_12 : (12 : Int32).toInt = 12 := by decide
                    omega
                  refine cV (a := (Va 0)) (As := [.ref (Ta 0), .int 0]) (rest := []) (wr := []) ⟨hx, hb, hml, hown, hts⟩ hK hX hA (ct_X7_readTest_0 l D tc sk Va (fun k => ([sv_392, sv_393] : List (Int32)).getD k 0) (fun k => ([(fun _ => 0), sv_394] : List (Nat → Int32)).getD k (fun _ => 0)) Ta (fun k => ([(Tv 0), sv_405, sv_406, sv_407, sv_398] : List (Int32)).getD k 0) Tf ha_420) k_655 k_652 k_654 k_11 k_99 pl_X7_readTest ⟨Nat.le_of_ble_eq_true rfl, Nat.le_of_ble_eq_true rfl⟩ rfl rfl (va_recv hK hP (ci := 7) (q0 := 0) rfl rfl) hP hD hS [0, 1, 2, 3] [] rfl rfl rfl rfl rfl (by decide) rfl hl.1 rfl (Nat.le_of_ble_eq_true rfl) dX7_read_84 ⟨Nat.le_of_ble_eq_true rfl, Nat.le_of_ble_eq_true rfl⟩ (fun v_421 u_422 H locs hv_423 hP hD hS => ?_)
                  obtain ⟨sv_424, sv_425, sv_426, sv_427, sv_428, sv_429, sv_430⟩ := u_422
                  obtain ⟨rfl, he_431⟩ := hv_423
                  have he_431 : (0 ≤ ((Tv 0) : Int32).toInt ∧ ((Tv 0) : Int32).toInt ≤ 400 ∧ 0 ≤ (sv_427 : Int32).toInt ∧ (sv_427 : Int32).toInt ≤ 400 ∧ 0 ≤ (sv_428 : Int32).toInt ∧ (sv_428 : Int32).toInt ≤ 400) := he_431
                  refine W.eq (g2 := F0 m 87 ls []) rfl ?_
                  have hP : va_P D classes [((Va 0), .inr (7, [.ref (Va 1), .int sv_424, .int sv_425])), ((Va 1), .inl (tc 0, 400, .inl sv_426)), ((Ta 0), .inr (10, [.ref (Ta 1), .int (Tv 0), .int sv_427, .int sv_428, .int sv_429, .int sv_430])), ((Ta 1), .inl (tc 0, 400, .inl (Tf 1)))] H := hP
                  have hD : va_D A [((Va 0), .inr (7, [.ref (Va 1), .int sv_424, .int sv_425])), ((Va 1), .inl (tc 0, 400, .inl sv_426)), ((Ta 0), .inr (10, [.ref (Ta 1), .int (Tv 0), .int sv_427, .int sv_428, .int sv_429, .int sv_430])), ((Ta 1), .inl (tc 0, 400, .inl (Tf 1)))] := hD
                  refine lv_aload_n hx hb dX7_read_87 rfl (lv_at hl 1 rfl) ?_
                  refine lv_bipush (v := (-3)) hx hb dX7_read_88 (by decide) ?_
                  refine cV (a := (Va 0)) (As := [.int (-3)]) (rest := []) (wr := [((Ta 0), .inr (10, [.ref (Ta 1), .int (Tv 0), .int sv_427, .int sv_428, .int sv_429, .int sv_430])), ((Ta 1), .inl (tc 0, 400, .inl (Tf 1)))]) ⟨hx, hb, hml, hown, hts⟩ hK hX hA (ct_X7_put l D tc sk Va (fun k => ([sv_424, sv_425] : List (Int32)).getD k 0) (fun k => ([(fun _ => 0), sv_426] : List (Nat → Int32)).getD k (fun _ => 0)) (-3)) k_642 k_639 k_641 k_10 k_99 pl_X7_put ⟨Nat.le_of_ble_eq_true rfl, Nat.le_of_ble_eq_true rfl⟩ rfl rfl (va_recv hK hP (ci := 7) (q0 := 0) rfl rfl) hP hD hS [0, 1] [2, 3] rfl rfl rfl rfl rfl (by decide) rfl hl.1 rfl (Nat.le_of_ble_eq_true rfl) dX7_read_90 ⟨Nat.le_of_ble_eq_true rfl, Nat.le_of_ble_eq_true rfl⟩ (fun v_432 u_433 H locs hv_434 hP hD hS => ?_)
                  obtain ⟨sv_435, sv_436⟩ := u_433
                  obtain rfl : v_432 = none := hv_434
                  refine W.eq (g2 := F0 m 93 ls []) rfl ?_
                  have hP : va_P D classes [((Ta 0), .inr (10, [.ref (Ta 1), .int (Tv 0), .int sv_427, .int sv_428, .int sv_429, .int sv_430])), ((Ta 1), .inl (tc 0, 400, .inl (Tf 1))), ((Va 0), .inr (7, [.ref (Va 1), .int sv_435, .int sv_425])), ((Va 1), .inl (tc 0, 400, .inl sv_436))] H := hP
                  have hD : va_D A [((Ta 0), .inr (10, [.ref (Ta 1), .int (Tv 0), .int sv_427, .int sv_428, .int sv_429, .int sv_430])), ((Ta 1), .inl (tc 0, 400, .inl (Tf 1))), ((Va 0), .inr (7, [.ref (Va 1), .int sv_435, .int sv_425])), ((Va 1), .inl (tc 0, 400, .inl sv_436))] := hD
                  refine lv_goto (tgt := 102) hx hb dX7_read_93 (by decide) ?_
                  obtain ⟨x_437, ex_437⟩ : ∃ y : Int32, y = vy_17 + 1 := ⟨_, rfl⟩
                  refine lv_iinc (v := x_437) (lv' := [(2, .int x_437), (0, .ref (Va 0)), (1, .ref (Ta 0))]) hx hb dX7_read_102 hl (k := 0) rfl (by rw [ex_437]; rfl) (by decide) rfl (fun ls hl => ?_)
                  refine lv_goto (tgt := 16) hx hb dX7_read_105 (by decide) ?_
                  have hb_438 : 13 - (x_437 : Int32).toInt < 13 - (vy_17 : Int32).toInt ∧ 1 ≤ 13 - (vy_17 : Int32).toInt := by
                    have z_1 := Int32.le_iff_toInt_le.mp (Int32.not_lt.mp c_31)
                    have z_2 : ¬ (vy_17 : Int32).toInt = (0 : Int32).toInt := fun z => c_59 (Int32.toInt_inj.mp z)
                    have z_3 : ¬ (r_273 : Int32).toInt = (0 : Int32).toInt := fun z => c_275 (Int32.toInt_inj.mp z)
                    have z_4 : ¬ (r_308 : Int32).toInt = (0 : Int32).toInt := fun z => c_310 (Int32.toInt_inj.mp z)
                    have z_5 := congrArg Int32.toInt c_311
                    have z_6 : ¬ (r_408 : Int32).toInt = (0 : Int32).toInt := fun z => c_410 (Int32.toInt_inj.mp z)
                    have y_0 : (0 : Int32).toInt = 0 := by decide
                    have y_12 : (12 : Int32).toInt = 12 := by decide
                    have y_1 : (1 : Int32).toInt = 1 := by decide
                    have t_x_437 : x_437.toInt = (vy_17 : Int32).toInt + (1 : Int32).toInt := by rw [ex_437]; exact add_toInt (by omega) (by omega)
                    omega
                  have ha_439 : 0 ≤ (x_437 : Int32).toInt := by
                    have z_1 := Int32.le_iff_toInt_le.mp (Int32.not_lt.mp c_31)
                    have z_2 : ¬ (vy_17 : Int32).toInt = (0 : Int32).toInt := fun z => c_59 (Int32.toInt_inj.mp z)
                    have z_3 : ¬ (r_273 : Int32).toInt = (0 : Int32).toInt := fun z => c_275 (Int32.toInt_inj.mp z)
                    have z_4 : ¬ (r_308 : Int32).toInt = (0 : Int32).toInt := fun z => c_310 (Int32.toInt_inj.mp z)
                    have z_5 := congrArg Int32.toInt c_311
                    have z_6 : ¬ (r_408 : Int32).toInt = (0 : Int32).toInt := fun z => c_410 (Int32.toInt_inj.mp z)
                    have y_0 : (0 : Int32).toInt = 0 := by decide
                    have y_12 : (12 : Int32).toInt = 12 := by decide
                    have y_1 : (1 : Int32).toInt = 1 := by decide
                    have t_x_437 : x_437.toInt = (vy_17 : Int32).toInt + (1 : Int32).toInt := by rw [ex_437]; exact add_toInt (by omega) (by omega)
                    omega
                  have ha_440 : 0 ≤ ((Tv 0) : Int32).toInt ∧ ((Tv 0) : Int32).toInt ≤ 400 ∧ 0 ≤ (sv_427 : Int32).toInt ∧ (sv_427 : Int32).toInt ≤ 400 ∧ 0 ≤ (sv_428 : Int32).toInt ∧ (sv_428 : Int32).toInt ≤ 400 := by
                    have z_1 := Int32.le_iff_toInt_le.mp (Int32.not_lt.mp c_31)
                    have z_2 : ¬ (vy_17 : Int32).toInt = (0 : Int32).toInt := fun z => c_59 (Int32.toInt_inj.mp z)
                    have z_3 : ¬ (r_273 : Int32).toInt = (0 : Int32).toInt := fun z => c_275 (Int32.toInt_inj.mp z)
                    have z_4 : ¬ (r_308 : Int32).toInt = (0 : Int32).toInt := fun z => c_310 (Int32.toInt_inj.mp z)
                    have z_5 := congrArg Int32.toInt c_311
                    have z_6 : ¬ (r_408 : Int32).toInt = (0 : Int32).toInt := fun z => c_410 (Int32.toInt_inj.mp z)
                    have y_0 : (0 : Int32).toInt = 0 := by decide
                    have y_12 : (12 : Int32).toInt = 12 := by decide
                    omega
                  exact ih_26 x_437 sv_435 sv_425 sv_436 sv_427 sv_428 sv_429 sv_430 _ _ _ (by omega) ha_439 ha_440 (hP.sub [2, 3, 0, 1] rfl) (hD.sub [2, 3, 0, 1] rfl rfl) hS (lv_sub hl [0, 1, 2] rfl)
            · skip
              refine lv_aload_n hx hb dX7_read_44 rfl (lv_at hl 2 rfl) ?_
              refine lv_iconst (v := 0) hx hb dX7_read_45 (by decide) ?_
              have ha_441 : 0 ≤ ((Tv 0) : Int32).toInt ∧ ((Tv 0) : Int32).toInt ≤ 400 ∧ 0 ≤ (sv_270 : Int32).toInt ∧ (sv_270 : Int32).toInt ≤ 400 ∧ 0 ≤ (sv_271 : Int32).toInt ∧ (sv_271 : Int32).toInt ≤ 400 := by
                have z_1 := Int32.le_iff_toInt_le.mp (Int32.not_lt.mp c_31)
                have z_2 : ¬ (vy_17 : Int32).toInt = (0 : Int32).toInt := fun z => c_59 (Int32.toInt_inj.mp z)
                have z_3 : ¬ (r_273 : Int32).toInt = (0 : Int32).toInt := fun z => c_275 (Int32.toInt_inj.mp z)
                have z_4 := congrArg Int32.toInt c_310
                have y_0 : (0 : Int32).toInt = 0 := by decide
                have y_12 : (12 : Int32).toInt = 12 := by decide
                omega
              refine cV (a := (Ta 0)) (As := [.int 0]) (rest := []) (wr := [((Va 0), .inr (7, [.ref (Va 1), .int vy_18, .int vy_19])), ((Va 1), .inl (tc 0, 400, .inl vy_20))]) ⟨hx, hb, hml, hown, hts⟩ hK hX hA (ct_X10_fail l D tc sk Ta (fun k => ([(Tv 0), sv_270, sv_271, sv_272, vy_24] : List (Int32)).getD k 0) Tf 0 ha_441) k_557 k_619 k_555 k_556 k_96 pl_X10_fail ⟨Nat.le_of_ble_eq_true rfl, Nat.le_of_ble_eq_true rfl⟩ rfl rfl (va_recv hK hP (ci := 10) (q0 := 2) rfl rfl) hP hD hS [2, 3] [0, 1] rfl rfl rfl rfl rfl (by decide) rfl hl.1 rfl (Nat.le_of_ble_eq_true rfl) dX7_read_46 ⟨Nat.le_of_ble_eq_true rfl, Nat.le_of_ble_eq_true rfl⟩ (fun v_442 u_443 H locs hv_444 hP hD hS => ?_)
              obtain ⟨sv_445, sv_446⟩ := u_443
              obtain ⟨rfl, he_447⟩ := hv_444
              have he_447 : (0 ≤ ((Tv 0) : Int32).toInt ∧ ((Tv 0) : Int32).toInt ≤ 400 ∧ 0 ≤ (sv_270 : Int32).toInt ∧ (sv_270 : Int32).toInt ≤ 400 ∧ 0 ≤ (sv_271 : Int32).toInt ∧ (sv_271 : Int32).toInt ≤ 400) := he_447
              refine W.eq (g2 := F0 m 49 ls []) rfl ?_
              have hP : va_P D classes [((Va 0), .inr (7, [.ref (Va 1), .int vy_18, .int vy_19])), ((Va 1), .inl (tc 0, 400, .inl vy_20)), ((Ta 0), .inr (10, [.ref (Ta 1), .int (Tv 0), .int sv_270, .int sv_271, .int sv_445, .int sv_446])), ((Ta 1), .inl (tc 0, 400, .inl (Tf 1)))] H := hP
              have hD : va_D A [((Va 0), .inr (7, [.ref (Va 1), .int vy_18, .int vy_19])), ((Va 1), .inl (tc 0, 400, .inl vy_20)), ((Ta 0), .inr (10, [.ref (Ta 1), .int (Tv 0), .int sv_270, .int sv_271, .int sv_445, .int sv_446])), ((Ta 1), .inl (tc 0, 400, .inl (Tf 1)))] := hD
              refine lv_goto (tgt := 63) hx hb dX7_read_49 (by decide) ?_
              refine lv_aload_n hx hb dX7_read_63 rfl (lv_at hl 2 rfl) ?_
              have ha_448 : 0 ≤ ((Tv 0) : Int32).toInt ∧ ((Tv 0) : Int32).toInt ≤ 400 ∧ 0 ≤ (sv_270 : Int32).toInt ∧ (sv_270 : Int32).toInt ≤ 400 ∧ 0 ≤ (sv_271 : Int32).toInt ∧ (sv_271 : Int32).toInt ≤ 400 := by
                have z_1 := Int32.le_iff_toInt_le.mp (Int32.not_lt.mp c_31)
                have z_2 : ¬ (vy_17 : Int32).toInt = (0 : Int32).toInt := fun z => c_59 (Int32.toInt_inj.mp z)
                have z_3 : ¬ (r_273 : Int32).toInt = (0 : Int32).toInt := fun z => c_275 (Int32.toInt_inj.mp z)
                have z_4 := congrArg Int32.toInt c_310
                have y_0 : (0 : Int32).toInt = 0 := by decide
                have y_12 : (12 : Int32).toInt = 12 := by decide
                omega
              refine cV (a := (Ta 0)) (As := []) (rest := []) (wr := [((Va 0), .inr (7, [.ref (Va 1), .int vy_18, .int vy_19])), ((Va 1), .inl (tc 0, 400, .inl vy_20))]) ⟨hx, hb, hml, hown, hts⟩ hK hX hA (ct_X10_step l D tc sk Ta (fun k => ([(Tv 0), sv_270, sv_271, sv_445, sv_446] : List (Int32)).getD k 0) Tf ha_448) k_478 k_620 k_476 k_477 k_96 pl_X10_step ⟨Nat.le_of_ble_eq_true rfl, Nat.le_of_ble_eq_true rfl⟩ rfl rfl (va_recv hK hP (ci := 10) (q0 := 2) rfl rfl) hP hD hS [2, 3] [0, 1] rfl rfl rfl rfl rfl (by decide) rfl hl.1 rfl (Nat.le_of_ble_eq_true rfl) dX7_read_64 ⟨Nat.le_of_ble_eq_true rfl, Nat.le_of_ble_eq_true rfl⟩ (fun v_449 u_450 H locs hv_451 hP hD hS => ?_)
              obtain ⟨sv_452, sv_453, sv_454⟩ := u_450
              obtain ⟨rfl, he_455⟩ := hv_451
              have he_455 : (0 ≤ ((Tv 0) : Int32).toInt ∧ ((Tv 0) : Int32).toInt ≤ 400 ∧ 0 ≤ (sv_452 : Int32).toInt ∧ (sv_452 : Int32).toInt ≤ 400 ∧ 0 ≤ (sv_453 : Int32).toInt ∧ (sv_453 : Int32).toInt ≤ 400) := he_455
              refine W.eq (g2 := F0 m 67 ls []) rfl ?_
              have hP : va_P D classes [((Va 0), .inr (7, [.ref (Va 1), .int vy_18, .int vy_19])), ((Va 1), .inl (tc 0, 400, .inl vy_20)), ((Ta 0), .inr (10, [.ref (Ta 1), .int (Tv 0), .int sv_452, .int sv_453, .int sv_454, .int sv_446])), ((Ta 1), .inl (tc 0, 400, .inl (Tf 1)))] H := hP
              have hD : va_D A [((Va 0), .inr (7, [.ref (Va 1), .int vy_18, .int vy_19])), ((Va 1), .inl (tc 0, 400, .inl vy_20)), ((Ta 0), .inr (10, [.ref (Ta 1), .int (Tv 0), .int sv_452, .int sv_453, .int sv_454, .int sv_446])), ((Ta 1), .inl (tc 0, 400, .inl (Tf 1)))] := hD
              refine lv_aload_n hx hb dX7_read_67 rfl (lv_at hl 1 rfl) ?_
              refine lv_aload_n hx hb dX7_read_68 rfl (lv_at hl 2 rfl) ?_
              have ha_456 : 0 ≤ ((Tv 0) : Int32).toInt ∧ ((Tv 0) : Int32).toInt ≤ 400 ∧ 0 ≤ (sv_452 : Int32).toInt ∧ (sv_452 : Int32).toInt ≤ 400 ∧ 0 ≤ (sv_453 : Int32).toInt ∧ (sv_453 : Int32).toInt ≤ 400 := by
                have z_1 := Int32.le_iff_toInt_le.mp (Int32.not_lt.mp c_31)
                have z_2 : ¬ (vy_17 : Int32).toInt = (0 : Int32).toInt := fun z => c_59 (Int32.toInt_inj.mp z)
                have z_3 : ¬ (r_273 : Int32).toInt = (0 : Int32).toInt := fun z => c_275 (Int32.toInt_inj.mp z)
                have z_4 := congrArg Int32.toInt c_310
                have y_0 : (0 : Int32).toInt = 0 := by decide
                have y_12 : (12 : Int32).toInt = 12 := by decide
                omega
              refine cV (a := (Va 0)) (As := [.ref (Ta 0)]) (rest := []) (wr := []) ⟨hx, hb, hml, hown, hts⟩ hK hX hA (ct_X7_readSum l D tc sk Va (fun k => ([vy_18, vy_19] : List (Int32)).getD k 0) (fun k => ([(fun _ => 0), vy_20] : List (Nat → Int32)).getD k (fun _ => 0)) Ta (fun k => ([(Tv 0), sv_452, sv_453, sv_454, sv_446] : List (Int32)).getD k 0) Tf ha_456) k_624 k_621 k_623 k_7 k_99 pl_X7_readSum ⟨Nat.le_of_ble_eq_true rfl, Nat.le_of_ble_eq_true rfl⟩ rfl rfl (va_recv hK hP (ci := 7) (q0 := 0) rfl rfl) hP hD hS [0, 1, 2, 3] [] rfl rfl rfl rfl rfl (by decide) rfl hl.1 rfl (Nat.le_of_ble_eq_true rfl) dX7_read_69 ⟨Nat.le_of_ble_eq_true rfl, Nat.le_of_ble_eq_true rfl⟩ (fun v_457 u_458 H locs hv_459 hP hD hS => ?_)
              obtain ⟨sv_460, sv_461, sv_462, sv_463, sv_464, sv_465, sv_466⟩ := u_458
              obtain ⟨rfl, he_467⟩ := hv_459
              have he_467 : (0 ≤ ((Tv 0) : Int32).toInt ∧ ((Tv 0) : Int32).toInt ≤ 400 ∧ 0 ≤ (sv_463 : Int32).toInt ∧ (sv_463 : Int32).toInt ≤ 400 ∧ 0 ≤ (sv_464 : Int32).toInt ∧ (sv_464 : Int32).toInt ≤ 400) := he_467
              refine W.eq (g2 := F0 m 72 ls []) rfl ?_
              have hP : va_P D classes [((Va 0), .inr (7, [.ref (Va 1), .int sv_460, .int sv_461])), ((Va 1), .inl (tc 0, 400, .inl sv_462)), ((Ta 0), .inr (10, [.ref (Ta 1), .int (Tv 0), .int sv_463, .int sv_464, .int sv_465, .int sv_466])), ((Ta 1), .inl (tc 0, 400, .inl (Tf 1)))] H := hP
              have hD : va_D A [((Va 0), .inr (7, [.ref (Va 1), .int sv_460, .int sv_461])), ((Va 1), .inl (tc 0, 400, .inl sv_462)), ((Ta 0), .inr (10, [.ref (Ta 1), .int (Tv 0), .int sv_463, .int sv_464, .int sv_465, .int sv_466])), ((Ta 1), .inl (tc 0, 400, .inl (Tf 1)))] := hD
              refine lv_aload_n hx hb dX7_read_72 rfl (lv_at hl 2 rfl) ?_
              refine va_ldcS hx hb hown (hX.2.2.2.1 3 _ rfl) dX7_read_73 ?_
              have ha_468 : (3 : Nat) < 7 := by
                have z_1 := Int32.le_iff_toInt_le.mp (Int32.not_lt.mp c_31)
                have z_2 : ¬ (vy_17 : Int32).toInt = (0 : Int32).toInt := fun z => c_59 (Int32.toInt_inj.mp z)
                have z_3 : ¬ (r_273 : Int32).toInt = (0 : Int32).toInt := fun z => c_275 (Int32.toInt_inj.mp z)
                have z_4 := congrArg Int32.toInt c_310
                have y_0 : (0 : Int32).toInt = 0 := by decide
                have y_12 : (12 : Int32).toInt = 12 := by decide
                have y_3 : (3 : Int32).toInt = 3 := by decide
                omega
              have ha_469 : 0 ≤ ((Tv 0) : Int32).toInt ∧ ((Tv 0) : Int32).toInt ≤ 400 ∧ 0 ≤ (sv_463 : Int32).toInt ∧ (sv_463 : Int32).toInt ≤ 400 ∧ 0 ≤ (sv_464 : Int32).toInt ∧ (sv_464 : Int32).toInt ≤ 400 := by
                have z_1 := Int32.le_iff_toInt_le.mp (Int32.not_lt.mp c_31)
                have z_2 : ¬ (vy_17 : Int32).toInt = (0 : Int32).toInt := fun z => c_59 (Int32.toInt_inj.mp z)
                have z_3 : ¬ (r_273 : Int32).toInt = (0 : Int32).toInt := fun z => c_275 (Int32.toInt_inj.mp z)
                have z_4 := congrArg Int32.toInt c_310
                have y_0 : (0 : Int32).toInt = 0 := by decide
                have y_12 : (12 : Int32).toInt = 12 := by decide
                omega
              refine cV (a := (Ta 0)) (As := [.ref (sk.1 3)]) (rest := []) (wr := [((Va 0), .inr (7, [.ref (Va 1), .int sv_460, .int sv_461])), ((Va 1), .inl (tc 0, 400, .inl sv_462))]) ⟨hx, hb, hml, hown, hts⟩ hK hX hA (ct_X10_takesWord l D tc sk Ta (fun k => ([(Tv 0), sv_463, sv_464, sv_465, sv_466] : List (Int32)).getD k 0) Tf 3 ha_468 ha_469) k_650 k_647 k_648 k_649 k_96 pl_X10_takesWord ⟨Nat.le_of_ble_eq_true rfl, Nat.le_of_ble_eq_true rfl⟩ rfl rfl (va_recv hK hP (ci := 10) (q0 := 2) rfl rfl) hP hD hS [2, 3] [0, 1] rfl rfl rfl rfl rfl (by decide) rfl hl.1 rfl (Nat.le_of_ble_eq_true rfl) dX7_read_75 ⟨Nat.le_of_ble_eq_true rfl, Nat.le_of_ble_eq_true rfl⟩ (fun v_470 u_471 H locs hv_472 hP hD hS => ?_)
              obtain ⟨sv_473, sv_474, sv_475⟩ := u_471
              obtain ⟨r_476, rfl, he_477⟩ := hv_472
              have he_477 : ((r_476.toInt = 0 ∨ r_476.toInt = 1)) ∧ (0 ≤ ((Tv 0) : Int32).toInt ∧ ((Tv 0) : Int32).toInt ≤ 400 ∧ 0 ≤ (sv_473 : Int32).toInt ∧ (sv_473 : Int32).toInt ≤ 400 ∧ 0 ≤ (sv_474 : Int32).toInt ∧ (sv_474 : Int32).toInt ≤ 400) := he_477
              refine W.eq (g2 := F0 m 78 ls [.int r_476]) rfl ?_
              have hP : va_P D classes [((Va 0), .inr (7, [.ref (Va 1), .int sv_460, .int sv_461])), ((Va 1), .inl (tc 0, 400, .inl sv_462)), ((Ta 0), .inr (10, [.ref (Ta 1), .int (Tv 0), .int sv_473, .int sv_474, .int sv_475, .int sv_466])), ((Ta 1), .inl (tc 0, 400, .inl (Tf 1)))] H := hP
              have hD : va_D A [((Va 0), .inr (7, [.ref (Va 1), .int sv_460, .int sv_461])), ((Va 1), .inl (tc 0, 400, .inl sv_462)), ((Ta 0), .inr (10, [.ref (Ta 1), .int (Tv 0), .int sv_473, .int sv_474, .int sv_475, .int sv_466])), ((Ta 1), .inl (tc 0, 400, .inl (Tf 1)))] := hD
              refine lv_if_eq (tgt := 96) hx hb dX7_read_78 (by decide) (fun c_478 => ?_) (fun c_478 => ?_)
              · skip
                refine lv_aload_n hx hb dX7_read_96 rfl (lv_at hl 1 rfl) ?_
                refine lv_bipush (v := (-2)) hx hb dX7_read_97 (by decide) ?_
                refine cV (a := (Va 0)) (As := [.int (-2)]) (rest := []) (wr := [((Ta 0), .inr (10, [.ref (Ta 1), .int (Tv 0), .int sv_473, .int sv_474, .int sv_475, .int sv_466])), ((Ta 1), .inl (tc 0, 400, .inl (Tf 1)))]) ⟨hx, hb, hml, hown, hts⟩ hK hX hA (ct_X7_put l D tc sk Va (fun k => ([sv_460, sv_461] : List (Int32)).getD k 0) (fun k => ([(fun _ => 0), sv_462] : List (Nat → Int32)).getD k (fun _ => 0)) (-2)) k_642 k_639 k_641 k_10 k_99 pl_X7_put ⟨Nat.le_of_ble_eq_true rfl, Nat.le_of_ble_eq_true rfl⟩ rfl rfl (va_recv hK hP (ci := 7) (q0 := 0) rfl rfl) hP hD hS [0, 1] [2, 3] rfl rfl rfl rfl rfl (by decide) rfl hl.1 rfl (Nat.le_of_ble_eq_true rfl) dX7_read_99 ⟨Nat.le_of_ble_eq_true rfl, Nat.le_of_ble_eq_true rfl⟩ (fun v_479 u_480 H locs hv_481 hP hD hS => ?_)
                obtain ⟨sv_482, sv_483⟩ := u_480
                obtain rfl : v_479 = none := hv_481
                refine W.eq (g2 := F0 m 102 ls []) rfl ?_
                have hP : va_P D classes [((Ta 0), .inr (10, [.ref (Ta 1), .int (Tv 0), .int sv_473, .int sv_474, .int sv_475, .int sv_466])), ((Ta 1), .inl (tc 0, 400, .inl (Tf 1))), ((Va 0), .inr (7, [.ref (Va 1), .int sv_482, .int sv_461])), ((Va 1), .inl (tc 0, 400, .inl sv_483))] H := hP
                have hD : va_D A [((Ta 0), .inr (10, [.ref (Ta 1), .int (Tv 0), .int sv_473, .int sv_474, .int sv_475, .int sv_466])), ((Ta 1), .inl (tc 0, 400, .inl (Tf 1))), ((Va 0), .inr (7, [.ref (Va 1), .int sv_482, .int sv_461])), ((Va 1), .inl (tc 0, 400, .inl sv_483))] := hD
                obtain ⟨x_484, ex_484⟩ : ∃ y : Int32, y = vy_17 + 1 := ⟨_, rfl⟩
                refine lv_iinc (v := x_484) (lv' := [(2, .int x_484), (0, .ref (Va 0)), (1, .ref (Ta 0))]) hx hb dX7_read_102 hl (k := 0) rfl (by rw [ex_484]; rfl) (by decide) rfl (fun ls hl => ?_)
                refine lv_goto (tgt := 16) hx hb dX7_read_105 (by decide) ?_
                have hb_485 : 13 - (x_484 : Int32).toInt < 13 - (vy_17 : Int32).toInt ∧ 1 ≤ 13 - (vy_17 : Int32).toInt := by
                  have z_1 := Int32.le_iff_toInt_le.mp (Int32.not_lt.mp c_31)
                  have z_2 : ¬ (vy_17 : Int32).toInt = (0 : Int32).toInt := fun z => c_59 (Int32.toInt_inj.mp z)
                  have z_3 : ¬ (r_273 : Int32).toInt = (0 : Int32).toInt := fun z => c_275 (Int32.toInt_inj.mp z)
                  have z_4 := congrArg Int32.toInt c_310
                  have z_5 := congrArg Int32.toInt c_478
                  have y_0 : (0 : Int32).toInt = 0 := by decide
                  have y_12 : (12 : Int32).toInt = 12 := by decide
                  have y_1 : (1 : Int32).toInt = 1 := by decide
                  have t_x_484 : x_484.toInt = (vy_17 : Int32).toInt + (1 : Int32).toInt := by rw [ex_484]; exact add_toInt (by omega) (by omega)
                  omega
                have ha_486 : 0 ≤ (x_484 : Int32).toInt := by
                  have z_1 := Int32.le_iff_toInt_le.mp (Int32.not_lt.mp c_31)
                  have z_2 : ¬ (vy_17 : Int32).toInt = (0 : Int32).toInt := fun z => c_59 (Int32.toInt_inj.mp z)
                  have z_3 : ¬ (r_273 : Int32).toInt = (0 : Int32).toInt := fun z => c_275 (Int32.toInt_inj.mp z)
                  have z_4 := congrArg Int32.toInt c_310
                  have z_5 := congrArg Int32.toInt c_478
                  have y_0 : (0 : Int32).toInt = 0 := by decide
                  have y_12 : (12 : Int32).toInt = 12 := by decide
                  have y_1 : (1 : Int32).toInt = 1 := by decide
                  have t_x_484 : x_484.toInt = (vy_17 : Int32).toInt + (1 : Int32).toInt := by rw [ex_484]; exact add_toInt (by omega) (by omega)
                  omega
                have ha_487 : 0 ≤ ((Tv 0) : Int32).toInt ∧ ((Tv 0) : Int32).toInt ≤ 400 ∧ 0 ≤ (sv_473 : Int32).toInt ∧ (sv_473 : Int32).toInt ≤ 400 ∧ 0 ≤ (sv_474 : Int32).toInt ∧ (sv_474 : Int32).toInt ≤ 400 := by
                  have z_1 := Int32.le_iff_toInt_le.mp (Int32.not_lt.mp c_31)
                  have z_2 : ¬ (vy_17 : Int32).toInt = (0 : Int32).toInt := fun z => c_59 (Int32.toInt_inj.mp z)
                  have z_3 : ¬ (r_273 : Int32).toInt = (0 : Int32).toInt := fun z => c_275 (Int32.toInt_inj.mp z)
                  have z_4 := congrArg Int32.toInt c_310
                  have z_5 := congrArg Int32.toInt c_478
                  have y_0 : (0 : Int32).toInt = 0 := by decide
                  have y_12 : (12 : Int32).toInt = 12 := by decide
                  omega
                exact ih_26 x_484 sv_482 sv_461 sv_483 sv_473 sv_474 sv_475 sv_466 _ _ _ (by omega) ha_486 ha_487 (hP.sub [2, 3, 0, 1] rfl) (hD.sub [2, 3, 0, 1] rfl rfl) hS (lv_sub hl [0, 1, 2] rfl)
              · skip
                refine lv_aload_n hx hb dX7_read_81 rfl (lv_at hl 1 rfl) ?_
                refine lv_aload_n hx hb dX7_read_82 rfl (lv_at hl 2 rfl) ?_
                refine lv_iconst (v := 0) hx hb dX7_read_83 (by decide) ?_
                have ha_488 : 0 ≤ ((Tv 0) : Int32).toInt ∧ ((Tv 0) : Int32).toInt ≤ 400 ∧ 0 ≤ (sv_473 : Int32).toInt ∧ (sv_473 : Int32).toInt ≤ 400 ∧ 0 ≤ (sv_474 : Int32).toInt ∧ (sv_474 : Int32).toInt ≤ 400 := by
                  have z_1 := Int32.le_iff_toInt_le.mp (Int32.not_lt.mp c_31)
                  have z_2 : ¬ (vy_17 : Int32).toInt = (0 : Int32).toInt := fun z => c_59 (Int32.toInt_inj.mp z)
                  have z_3 : ¬ (r_273 : Int32).toInt = (0 : Int32).toInt := fun z => c_275 (Int32.toInt_inj.mp z)
                  have z_4 := congrArg Int32.toInt c_310
                  have z_5 : ¬ (r_476 : Int32).toInt = (0 : Int32).toInt := fun z => c_478 (Int32.toInt_inj.mp z)
                  have y_0 : (0 : Int32).toInt = 0 := by decide
                  have y_12 : (12 : Int32).toInt = 12 := by decide
                  omega
                refine cV (a := (Va 0)) (As := [.ref (Ta 0), .int 0]) (rest := []) (wr := []) ⟨hx, hb, hml, hown, hts⟩ hK hX hA (ct_X7_readTest_0 l D tc sk Va (fun k => ([sv_460, sv_461] : List (Int32)).getD k 0) (fun k => ([(fun _ => 0), sv_462] : List (Nat → Int32)).getD k (fun _ => 0)) Ta (fun k => ([(Tv 0), sv_473, sv_474, sv_475, sv_466] : List (Int32)).getD k 0) Tf ha_488) k_655 k_652 k_654 k_11 k_99 pl_X7_readTest ⟨Nat.le_of_ble_eq_true rfl, Nat.le_of_ble_eq_true rfl⟩ rfl rfl (va_recv hK hP (ci := 7) (q0 := 0) rfl rfl) hP hD hS [0, 1, 2, 3] [] rfl rfl rfl rfl rfl (by decide) rfl hl.1 rfl (Nat.le_of_ble_eq_true rfl) dX7_read_84 ⟨Nat.le_of_ble_eq_true rfl, Nat.le_of_ble_eq_true rfl⟩ (fun v_489 u_490 H locs hv_491 hP hD hS => ?_)
                obtain ⟨sv_492, sv_493, sv_494, sv_495, sv_496, sv_497, sv_498⟩ := u_490
                obtain ⟨rfl, he_499⟩ := hv_491
                have he_499 : (0 ≤ ((Tv 0) : Int32).toInt ∧ ((Tv 0) : Int32).toInt ≤ 400 ∧ 0 ≤ (sv_495 : Int32).toInt ∧ (sv_495 : Int32).toInt ≤ 400 ∧ 0 ≤ (sv_496 : Int32).toInt ∧ (sv_496 : Int32).toInt ≤ 400) := he_499
                refine W.eq (g2 := F0 m 87 ls []) rfl ?_
                have hP : va_P D classes [((Va 0), .inr (7, [.ref (Va 1), .int sv_492, .int sv_493])), ((Va 1), .inl (tc 0, 400, .inl sv_494)), ((Ta 0), .inr (10, [.ref (Ta 1), .int (Tv 0), .int sv_495, .int sv_496, .int sv_497, .int sv_498])), ((Ta 1), .inl (tc 0, 400, .inl (Tf 1)))] H := hP
                have hD : va_D A [((Va 0), .inr (7, [.ref (Va 1), .int sv_492, .int sv_493])), ((Va 1), .inl (tc 0, 400, .inl sv_494)), ((Ta 0), .inr (10, [.ref (Ta 1), .int (Tv 0), .int sv_495, .int sv_496, .int sv_497, .int sv_498])), ((Ta 1), .inl (tc 0, 400, .inl (Tf 1)))] := hD
                refine lv_aload_n hx hb dX7_read_87 rfl (lv_at hl 1 rfl) ?_
                refine lv_bipush (v := (-3)) hx hb dX7_read_88 (by decide) ?_
                refine cV (a := (Va 0)) (As := [.int (-3)]) (rest := []) (wr := [((Ta 0), .inr (10, [.ref (Ta 1), .int (Tv 0), .int sv_495, .int sv_496, .int sv_497, .int sv_498])), ((Ta 1), .inl (tc 0, 400, .inl (Tf 1)))]) ⟨hx, hb, hml, hown, hts⟩ hK hX hA (ct_X7_put l D tc sk Va (fun k => ([sv_492, sv_493] : List (Int32)).getD k 0) (fun k => ([(fun _ => 0), sv_494] : List (Nat → Int32)).getD k (fun _ => 0)) (-3)) k_642 k_639 k_641 k_10 k_99 pl_X7_put ⟨Nat.le_of_ble_eq_true rfl, Nat.le_of_ble_eq_true rfl⟩ rfl rfl (va_recv hK hP (ci := 7) (q0 := 0) rfl rfl) hP hD hS [0, 1] [2, 3] rfl rfl rfl rfl rfl (by decide) rfl hl.1 rfl (Nat.le_of_ble_eq_true rfl) dX7_read_90 ⟨Nat.le_of_ble_eq_true rfl, Nat.le_of_ble_eq_true rfl⟩ (fun v_500 u_501 H locs hv_502 hP hD hS => ?_)
                obtain ⟨sv_503, sv_504⟩ := u_501
                obtain rfl : v_500 = none := hv_502
                refine W.eq (g2 := F0 m 93 ls []) rfl ?_
                have hP : va_P D classes [((Ta 0), .inr (10, [.ref (Ta 1), .int (Tv 0), .int sv_495, .int sv_496, .int sv_497, .int sv_498])), ((Ta 1), .inl (tc 0, 400, .inl (Tf 1))), ((Va 0), .inr (7, [.ref (Va 1), .int sv_503, .int sv_493])), ((Va 1), .inl (tc 0, 400, .inl sv_504))] H := hP
                have hD : va_D A [((Ta 0), .inr (10, [.ref (Ta 1), .int (Tv 0), .int sv_495, .int sv_496, .int sv_497, .int sv_498])), ((Ta 1), .inl (tc 0, 400, .inl (Tf 1))), ((Va 0), .inr (7, [.ref (Va 1), .int sv_503, .int sv_493])), ((Va 1), .inl (tc 0, 400, .inl sv_504))] := hD
                refine lv_goto (tgt := 102) hx hb dX7_read_93 (by decide) ?_
                obtain ⟨x_505, ex_505⟩ : ∃ y : Int32, y = vy_17 + 1 := ⟨_, rfl⟩
                refine lv_iinc (v := x_505) (lv' := [(2, .int x_505), (0, .ref (Va 0)), (1, .ref (Ta 0))]) hx hb dX7_read_102 hl (k := 0) rfl (by rw [ex_505]; rfl) (by decide) rfl (fun ls hl => ?_)
                refine lv_goto (tgt := 16) hx hb dX7_read_105 (by decide) ?_
                have hb_506 : 13 - (x_505 : Int32).toInt < 13 - (vy_17 : Int32).toInt ∧ 1 ≤ 13 - (vy_17 : Int32).toInt := by
                  have z_1 := Int32.le_iff_toInt_le.mp (Int32.not_lt.mp c_31)
                  have z_2 : ¬ (vy_17 : Int32).toInt = (0 : Int32).toInt := fun z => c_59 (Int32.toInt_inj.mp z)
                  have z_3 : ¬ (r_273 : Int32).toInt = (0 : Int32).toInt := fun z => c_275 (Int32.toInt_inj.mp z)
                  have z_4 := congrArg Int32.toInt c_310
                  have z_5 : ¬ (r_476 : Int32).toInt = (0 : Int32).toInt := fun z => c_478 (Int32.toInt_inj.mp z)
                  have y_0 : (0 : Int32).toInt = 0 := by decide
                  have y_12 : (12 : Int32).toInt = 12 := by decide
                  have y_1 : (1 : Int32).toInt = 1 := by decide
                  have t_x_505 : x_505.toInt = (vy_17 : Int32).toInt + (1 : Int32).toInt := by rw [ex_505]; exact add_toInt (by omega) (by omega)
                  omega
                have ha_507 : 0 ≤ (x_505 : Int32).toInt := by
                  have z_1 := Int32.le_iff_toInt_le.mp (Int32.not_lt.mp c_31)
                  have z_2 : ¬ (vy_17 : Int32).toInt = (0 : Int32).toInt := fun z => c_59 (Int32.toInt_inj.mp z)
                  have z_3 : ¬ (r_273 : Int32).toInt = (0 : Int32).toInt := fun z => c_275 (Int32.toInt_inj.mp z)
                  have z_4 := congrArg Int32.toInt c_310
                  have z_5 : ¬ (r_476 : Int32).toInt = (0 : Int32).toInt := fun z => c_478 (Int32.toInt_inj.mp z)
                  have y_0 : (0 : Int32).toInt = 0 := by decide
                  have y_12 : (12 : Int32).toInt = 12 := by decide
                  have y_1 : (1 : Int32).toInt = 1 := by decide
                  have t_x_505 : x_505.toInt = (vy_17 : Int32).toInt + (1 : Int32).toInt := by rw [ex_505]; exact add_toInt (by omega) (by omega)
                  omega
                have ha_508 : 0 ≤ ((Tv 0) : Int32).toInt ∧ ((Tv 0) : Int32).toInt ≤ 400 ∧ 0 ≤ (sv_495 : Int32).toInt ∧ (sv_495 : Int32).toInt ≤ 400 ∧ 0 ≤ (sv_496 : Int32).toInt ∧ (sv_496 : Int32).toInt ≤ 400 := by
                  have z_1 := Int32.le_iff_toInt_le.mp (Int32.not_lt.mp c_31)
                  have z_2 : ¬ (vy_17 : Int32).toInt = (0 : Int32).toInt := fun z => c_59 (Int32.toInt_inj.mp z)
                  have z_3 : ¬ (r_273 : Int32).toInt = (0 : Int32).toInt := fun z => c_275 (Int32.toInt_inj.mp z)
                  have z_4 := congrArg Int32.toInt c_310
                  have z_5 : ¬ (r_476 : Int32).toInt = (0 : Int32).toInt := fun z => c_478 (Int32.toInt_inj.mp z)
                  have y_0 : (0 : Int32).toInt = 0 := by decide
                  have y_12 : (12 : Int32).toInt = 12 := by decide
                  omega
                exact ih_26 x_505 sv_503 sv_493 sv_504 sv_495 sv_496 sv_497 sv_498 _ _ _ (by omega) ha_507 ha_508 (hP.sub [2, 3, 0, 1] rfl) (hD.sub [2, 3, 0, 1] rfl rfl) hS (lv_sub hl [0, 1, 2] rfl)
  have ha_509 : 0 ≤ (0 : Int32).toInt := by
    have y_0 : (0 : Int32).toInt = 0 := by decide
    omega
  have ha_510 : 0 ≤ ((Tv 0) : Int32).toInt ∧ ((Tv 0) : Int32).toInt ≤ 400 ∧ 0 ≤ (sv_5 : Int32).toInt ∧ (sv_5 : Int32).toInt ≤ 400 ∧ 0 ≤ (sv_6 : Int32).toInt ∧ (sv_6 : Int32).toInt ≤ 400 := by
    omega
  exact loop_27 _ 0 0 0 (Vf 1) sv_5 sv_6 sv_7 0 _ _ _ (Nat.lt_succ_self _) ha_509 ha_510 hP hD hS hl
set_option maxHeartbeats 4000000 in
set_option maxRecDepth 100000 in
theorem ct_X5_keep_n (l : Launch) (D : va_G) (tc : Nat → ClassId) (sk : (Nat → Nat) × (Nat → Nat)) (Pa : Nat → Nat) (Pv : Nat → Int32) (Pq : Nat → Nat → Option Nat) (Aa : Nat → Nat) (Av : Nat → Int32) (Af : Nat → Nat → Int32) (h_nx : 0 ≤ ((Pv 0) : Int32).toInt ∧ ((Pv 0) : Int32).toInt < 20) (h_q : (Pq 1) (Pv 0).toNatClampNeg = none) : Ct l yX5_keep cX5_keep 3 none { frames := 2, cells := 9, slots := 70, locals := 61 } D tc sk [.ref (Pa 0), .ref (Aa 0)] [((Pa 0), .inr (5, [.ref (Pa 1), .int (Pv 0), .int (Pv 1)])), ((Pa 1), .inl (tc 5, 20, .inr (.inr (.inr (.inr (Pq 1)))))), ((Aa 0), .inr (9, [.int (Av 0), .int (Av 1), .int (Av 2), .int (Av 3), .int (Av 4), .int (Av 5), .ref (Aa 1), .ref (Aa 2), .ref (Aa 3), .ref (Aa 4), .ref (Aa 5), .ref (Aa 6), .ref (Aa 7), .ref (Aa 8)])), ((Aa 1), .inl (tc 0, 10, .inl (Af 1))), ((Aa 2), .inl (tc 0, 10, .inl (Af 2))), ((Aa 3), .inl (tc 0, 6, .inl (Af 3))), ((Aa 4), .inl (tc 0, 6, .inl (Af 4))), ((Aa 5), .inl (tc 0, 6, .inl (Af 5))), ((Aa 6), .inl (tc 0, 6, .inl (Af 6))), ((Aa 7), .inl (tc 0, 6, .inl (Af 7))), ((Aa 8), .inl (tc 0, 6, .inl (Af 8)))] (fun (v : Option Value) (u : (Bool) × (Nat) × (Nat) × (Nat) × (Nat) × (Nat) × (Nat) × (Nat) × (Nat) × (Nat) × (Int32) × (Int32) × (Nat → Int32) × (Nat → Int32) × (Nat → Int32) × (Nat → Int32) × (Nat → Int32) × (Nat → Int32) × (Nat → Int32) × (Nat → Int32)) => match u with | (true, na0x0, na0x1, na0x2, na0x3, na0x4, na0x5, na0x6, na0x7, na0x8, oo0x1, oo0x2, oo0x3, oo0x4, oo0x5, oo0x6, oo0x7, oo0x8, oo0x9, oo0x10) => v = none ∧ (0 ≤ (oo0x1 : Int32).toInt ∧ (oo0x1 : Int32).toInt < 20) | (false, na0x0, na0x1, na0x2, na0x3, na0x4, na0x5, na0x6, na0x7, na0x8, oo0x1, oo0x2, oo0x3, oo0x4, oo0x5, oo0x6, oo0x7, oo0x8, oo0x9, oo0x10) => v = none ∧ (0 ≤ ((Pv 0) : Int32).toInt ∧ ((Pv 0) : Int32).toInt < 20)) (fun (u : (Bool) × (Nat) × (Nat) × (Nat) × (Nat) × (Nat) × (Nat) × (Nat) × (Nat) × (Nat) × (Int32) × (Int32) × (Nat → Int32) × (Nat → Int32) × (Nat → Int32) × (Nat → Int32) × (Nat → Int32) × (Nat → Int32) × (Nat → Int32) × (Nat → Int32)) => match u with | (true, na0x0, na0x1, na0x2, na0x3, na0x4, na0x5, na0x6, na0x7, na0x8, oo0x1, oo0x2, oo0x3, oo0x4, oo0x5, oo0x6, oo0x7, oo0x8, oo0x9, oo0x10) => [((Pa 0), .inr (5, [.ref (Pa 1), .int oo0x1, .int oo0x2])), ((Pa 1), .inl (tc 5, 20, .inr (.inr (.inr (.inr (va_up (Pq 1) ((Pv 0) : Int32).toNatClampNeg (some na0x0))))))), ((Aa 0), .inr (9, [.int (Av 0), .int (Av 1), .int (Av 2), .int (Av 3), .int (Av 4), .int (Av 5), .ref (Aa 1), .ref (Aa 2), .ref (Aa 3), .ref (Aa 4), .ref (Aa 5), .ref (Aa 6), .ref (Aa 7), .ref (Aa 8)])), ((Aa 1), .inl (tc 0, 10, .inl (Af 1))), ((Aa 2), .inl (tc 0, 10, .inl (Af 2))), ((Aa 3), .inl (tc 0, 6, .inl (Af 3))), ((Aa 4), .inl (tc 0, 6, .inl (Af 4))), ((Aa 5), .inl (tc 0, 6, .inl (Af 5))), ((Aa 6), .inl (tc 0, 6, .inl (Af 6))), ((Aa 7), .inl (tc 0, 6, .inl (Af 7))), ((Aa 8), .inl (tc 0, 6, .inl (Af 8))), (na0x0, .inr (9, [.int (Av 0), .int (Av 1), .int (Av 2), .int (Av 3), .int (Av 4), .int (Av 5), .ref na0x1, .ref na0x2, .ref na0x3, .ref na0x4, .ref na0x5, .ref na0x6, .ref na0x7, .ref na0x8])), (na0x1, .inl (tc 0, 10, .inl oo0x3)), (na0x2, .inl (tc 0, 10, .inl oo0x4)), (na0x3, .inl (tc 0, 6, .inl oo0x5)), (na0x4, .inl (tc 0, 6, .inl oo0x6)), (na0x5, .inl (tc 0, 6, .inl oo0x7)), (na0x6, .inl (tc 0, 6, .inl oo0x8)), (na0x7, .inl (tc 0, 6, .inl oo0x9)), (na0x8, .inl (tc 0, 6, .inl oo0x10))] | (false, na0x0, na0x1, na0x2, na0x3, na0x4, na0x5, na0x6, na0x7, na0x8, oo0x1, oo0x2, oo0x3, oo0x4, oo0x5, oo0x6, oo0x7, oo0x8, oo0x9, oo0x10) => [((Pa 0), .inr (5, [.ref (Pa 1), .int (Pv 0), .int (Pv 1)])), ((Pa 1), .inl (tc 5, 20, .inr (.inr (.inr (.inr (Pq 1)))))), ((Aa 0), .inr (9, [.int (Av 0), .int (Av 1), .int (Av 2), .int (Av 3), .int (Av 4), .int (Av 5), .ref (Aa 1), .ref (Aa 2), .ref (Aa 3), .ref (Aa 4), .ref (Aa 5), .ref (Aa 6), .ref (Aa 7), .ref (Aa 8)])), ((Aa 1), .inl (tc 0, 10, .inl (Af 1))), ((Aa 2), .inl (tc 0, 10, .inl (Af 2))), ((Aa 3), .inl (tc 0, 6, .inl (Af 3))), ((Aa 4), .inl (tc 0, 6, .inl (Af 4))), ((Aa 5), .inl (tc 0, 6, .inl (Af 5))), ((Aa 6), .inl (tc 0, 6, .inl (Af 6))), ((Aa 7), .inl (tc 0, 6, .inl (Af 7))), ((Aa 8), .inl (tc 0, 6, .inl (Af 8)))]) 9 70 := by
  refine Ct.start (by decide) (Nat.le_of_ble_eq_true rfl) (fun p e s m below meth c A ls hx hb hr hlk hin hml hown hts hK hX hP hD hA hl hS => ?_)
  have hl : lv_has ls 3 [(0, .ref (Pa 0)), (1, .ref (Aa 0))] := hl
  refine lv_aload_n hx hb dX5_keep_0 rfl (lv_at hl 0 rfl) ?_
  refine gf_X5_17 hx hb hts hown hK hP 0 rfl rfl dX5_keep_1 ?_
  refine lv_if_lt (tgt := 16) hx hb dX5_keep_4 (by decide) (fun c_1 => ?_) (fun c_1 => ?_)
  · skip
    have ha_2 : 0 ≤ ((Pv 0) : Int32).toInt ∧ ((Pv 0) : Int32).toInt < 20 := by
      have z_1 := Int32.lt_iff_toInt_lt.mp c_1
      have y_0 : (0 : Int32).toInt = 0 := by decide
      omega
    exact retV hx hb hr hlk hP hD hS (false, 0, 0, 0, 0, 0, 0, 0, 0, 0, 0, 0, (fun _ => 0), (fun _ => 0), (fun _ => 0), (fun _ => 0), (fun _ => 0), (fun _ => 0), (fun _ => 0), (fun _ => 0)) ⟨rfl, ha_2⟩ [0, 1, 2, 3, 4, 5, 6, 7, 8, 9, 10] rfl rfl dX5_keep_16 (Nat.le_of_ble_eq_true rfl) (Nat.le_of_ble_eq_true rfl) rfl
  · skip
    refine lv_aload_n hx hb dX5_keep_7 rfl (lv_at hl 0 rfl) ?_
    refine gf_X5_17 hx hb hts hown hK hP 0 rfl rfl dX5_keep_8 ?_
    refine lv_bipush (v := 20) hx hb dX5_keep_11 (by decide) ?_
    refine lv_icmp_lt (tgt := 17) hx hb dX5_keep_13 (by decide) (fun c_3 => ?_) (fun c_3 => ?_)
    · skip
      refine lv_aload_n hx hb dX5_keep_17 rfl (lv_at hl 0 rfl) ?_
      refine gf_X5_13 hx hb hts hown hK hP 0 rfl rfl dX5_keep_18 ?_
      refine lv_aload_n hx hb dX5_keep_21 rfl (lv_at hl 0 rfl) ?_
      refine gf_X5_17 hx hb hts hown hK hP 0 rfl rfl dX5_keep_22 ?_
      have hi_4 : vp_in (Pv 0) 20 := by
        have z_1 := Int32.le_iff_toInt_le.mp (Int32.not_lt.mp c_1)
        have z_2 := Int32.lt_iff_toInt_lt.mp c_3
        have y_0 : (0 : Int32).toInt = 0 := by decide
        have y_20 : (20 : Int32).toInt = 20 := by decide
        refine vp_in_iff.mpr ⟨?_, ?_⟩ <;> omega
      refine va_aldq hx hb hK hP 1 5 rfl rfl hi_4 dX5_keep_25 ?_
      refine lv_val (v := .null) (by rw [h_q]; rfl) ?_
      refine lv_astore_nN (lv' := [(2, .null), (0, .ref (Pa 0)), (1, .ref (Aa 0))]) hx hb dX5_keep_26 rfl hl (by decide) rfl (fun ls hl => ?_)
      refine lv_aload_nN hx hb dX5_keep_27 rfl (lv_at hl 0 rfl) ?_
      refine lv_ifnonnullN hx hb dX5_keep_28 ?_
      refine va_new (ci := 9) (fs := [.int 0, .int 0, .int 0, .int 0, .int 0, .int 0, .null, .null, .null, .null, .null, .null, .null, .null]) (C := RX9) (T := TX9) (N := 14) hx hb hts iX9 tyX9 tyX9_ok hown (hts _ k_331) (hts _ k_164) (hts _ k_98) hK hP hD hS hA rfl dfX9 (Nat.le_of_ble_eq_true rfl) (Nat.le_of_ble_eq_true rfl) dX5_keep_31 (fun q_5 H hP hD hS => ?_)
      have hP : va_P D classes [((Pa 0), .inr (5, [.ref (Pa 1), .int (Pv 0), .int (Pv 1)])), ((Pa 1), .inl (tc 5, 20, .inr (.inr (.inr (.inr (Pq 1)))))), ((Aa 0), .inr (9, [.int (Av 0), .int (Av 1), .int (Av 2), .int (Av 3), .int (Av 4), .int (Av 5), .ref (Aa 1), .ref (Aa 2), .ref (Aa 3), .ref (Aa 4), .ref (Aa 5), .ref (Aa 6), .ref (Aa 7), .ref (Aa 8)])), ((Aa 1), .inl (tc 0, 10, .inl (Af 1))), ((Aa 2), .inl (tc 0, 10, .inl (Af 2))), ((Aa 3), .inl (tc 0, 6, .inl (Af 3))), ((Aa 4), .inl (tc 0, 6, .inl (Af 4))), ((Aa 5), .inl (tc 0, 6, .inl (Af 5))), ((Aa 6), .inl (tc 0, 6, .inl (Af 6))), ((Aa 7), .inl (tc 0, 6, .inl (Af 7))), ((Aa 8), .inl (tc 0, 6, .inl (Af 8))), (q_5, .inr (9, [.int 0, .int 0, .int 0, .int 0, .int 0, .int 0, .null, .null, .null, .null, .null, .null, .null, .null]))] H := hP
      have hD : va_D A [((Pa 0), .inr (5, [.ref (Pa 1), .int (Pv 0), .int (Pv 1)])), ((Pa 1), .inl (tc 5, 20, .inr (.inr (.inr (.inr (Pq 1)))))), ((Aa 0), .inr (9, [.int (Av 0), .int (Av 1), .int (Av 2), .int (Av 3), .int (Av 4), .int (Av 5), .ref (Aa 1), .ref (Aa 2), .ref (Aa 3), .ref (Aa 4), .ref (Aa 5), .ref (Aa 6), .ref (Aa 7), .ref (Aa 8)])), ((Aa 1), .inl (tc 0, 10, .inl (Af 1))), ((Aa 2), .inl (tc 0, 10, .inl (Af 2))), ((Aa 3), .inl (tc 0, 6, .inl (Af 3))), ((Aa 4), .inl (tc 0, 6, .inl (Af 4))), ((Aa 5), .inl (tc 0, 6, .inl (Af 5))), ((Aa 6), .inl (tc 0, 6, .inl (Af 6))), ((Aa 7), .inl (tc 0, 6, .inl (Af 7))), ((Aa 8), .inl (tc 0, 6, .inl (Af 8))), (q_5, .inr (9, [.int 0, .int 0, .int 0, .int 0, .int 0, .int 0, .null, .null, .null, .null, .null, .null, .null, .null]))] := hD
      refine lv_dup hx hb dX5_keep_34 rfl ?_
      refine cN (a := q_5) (As := []) (rest := [.ref q_5]) (wr := [((Pa 0), .inr (5, [.ref (Pa 1), .int (Pv 0), .int (Pv 1)])), ((Pa 1), .inl (tc 5, 20, .inr (.inr (.inr (.inr (Pq 1)))))), ((Aa 0), .inr (9, [.int (Av 0), .int (Av 1), .int (Av 2), .int (Av 3), .int (Av 4), .int (Av 5), .ref (Aa 1), .ref (Aa 2), .ref (Aa 3), .ref (Aa 4), .ref (Aa 5), .ref (Aa 6), .ref (Aa 7), .ref (Aa 8)])), ((Aa 1), .inl (tc 0, 10, .inl (Af 1))), ((Aa 2), .inl (tc 0, 10, .inl (Af 2))), ((Aa 3), .inl (tc 0, 6, .inl (Af 3))), ((Aa 4), .inl (tc 0, 6, .inl (Af 4))), ((Aa 5), .inl (tc 0, 6, .inl (Af 5))), ((Aa 6), .inl (tc 0, 6, .inl (Af 6))), ((Aa 7), .inl (tc 0, 6, .inl (Af 7))), ((Aa 8), .inl (tc 0, 6, .inl (Af 8)))]) ⟨hx, hb, hml, hown, hts⟩ hK hX hA (ct_X9_init l D tc sk q_5) k_167 (by decide) k_166 k_98 rfl pl_X9_init ⟨Nat.le_of_ble_eq_true rfl, Nat.le_of_ble_eq_true rfl⟩ rfl rfl  hP hD hS [11] [0, 1, 2, 3, 4, 5, 6, 7, 8, 9, 10] rfl rfl rfl rfl rfl (by decide) rfl hl.1 rfl (Nat.le_of_ble_eq_true rfl) dX5_keep_35 ⟨Nat.le_of_ble_eq_true rfl, Nat.le_of_ble_eq_true rfl⟩ (fun v_6 u_7 H locs hv_8 hP hD hS => ?_)
      obtain ⟨sv_9, sv_10, sv_11, sv_12, sv_13, sv_14, sv_15, sv_16⟩ := u_7
      obtain rfl : v_6 = none := hv_8
      refine W.eq (g2 := F0 m 38 ls [.ref q_5]) rfl ?_
      have hP : va_P D classes [((Pa 0), .inr (5, [.ref (Pa 1), .int (Pv 0), .int (Pv 1)])), ((Pa 1), .inl (tc 5, 20, .inr (.inr (.inr (.inr (Pq 1)))))), ((Aa 0), .inr (9, [.int (Av 0), .int (Av 1), .int (Av 2), .int (Av 3), .int (Av 4), .int (Av 5), .ref (Aa 1), .ref (Aa 2), .ref (Aa 3), .ref (Aa 4), .ref (Aa 5), .ref (Aa 6), .ref (Aa 7), .ref (Aa 8)])), ((Aa 1), .inl (tc 0, 10, .inl (Af 1))), ((Aa 2), .inl (tc 0, 10, .inl (Af 2))), ((Aa 3), .inl (tc 0, 6, .inl (Af 3))), ((Aa 4), .inl (tc 0, 6, .inl (Af 4))), ((Aa 5), .inl (tc 0, 6, .inl (Af 5))), ((Aa 6), .inl (tc 0, 6, .inl (Af 6))), ((Aa 7), .inl (tc 0, 6, .inl (Af 7))), ((Aa 8), .inl (tc 0, 6, .inl (Af 8))), (q_5, .inr (9, [.int 0, .int 0, .int 0, .int 0, .int 0, .int 0, .ref sv_9, .ref sv_10, .ref sv_11, .ref sv_12, .ref sv_13, .ref sv_14, .ref sv_15, .ref sv_16])), (sv_9, .inl (tc 0, 10, .inl (fun _ => 0))), (sv_10, .inl (tc 0, 10, .inl (fun _ => 0))), (sv_11, .inl (tc 0, 6, .inl (fun _ => 0))), (sv_12, .inl (tc 0, 6, .inl (fun _ => 0))), (sv_13, .inl (tc 0, 6, .inl (fun _ => 0))), (sv_14, .inl (tc 0, 6, .inl (fun _ => 0))), (sv_15, .inl (tc 0, 6, .inl (fun _ => 0))), (sv_16, .inl (tc 0, 6, .inl (fun _ => 0)))] H := hP
      have hD : va_D A [((Pa 0), .inr (5, [.ref (Pa 1), .int (Pv 0), .int (Pv 1)])), ((Pa 1), .inl (tc 5, 20, .inr (.inr (.inr (.inr (Pq 1)))))), ((Aa 0), .inr (9, [.int (Av 0), .int (Av 1), .int (Av 2), .int (Av 3), .int (Av 4), .int (Av 5), .ref (Aa 1), .ref (Aa 2), .ref (Aa 3), .ref (Aa 4), .ref (Aa 5), .ref (Aa 6), .ref (Aa 7), .ref (Aa 8)])), ((Aa 1), .inl (tc 0, 10, .inl (Af 1))), ((Aa 2), .inl (tc 0, 10, .inl (Af 2))), ((Aa 3), .inl (tc 0, 6, .inl (Af 3))), ((Aa 4), .inl (tc 0, 6, .inl (Af 4))), ((Aa 5), .inl (tc 0, 6, .inl (Af 5))), ((Aa 6), .inl (tc 0, 6, .inl (Af 6))), ((Aa 7), .inl (tc 0, 6, .inl (Af 7))), ((Aa 8), .inl (tc 0, 6, .inl (Af 8))), (q_5, .inr (9, [.int 0, .int 0, .int 0, .int 0, .int 0, .int 0, .ref sv_9, .ref sv_10, .ref sv_11, .ref sv_12, .ref sv_13, .ref sv_14, .ref sv_15, .ref sv_16])), (sv_9, .inl (tc 0, 10, .inl (fun _ => 0))), (sv_10, .inl (tc 0, 10, .inl (fun _ => 0))), (sv_11, .inl (tc 0, 6, .inl (fun _ => 0))), (sv_12, .inl (tc 0, 6, .inl (fun _ => 0))), (sv_13, .inl (tc 0, 6, .inl (fun _ => 0))), (sv_14, .inl (tc 0, 6, .inl (fun _ => 0))), (sv_15, .inl (tc 0, 6, .inl (fun _ => 0))), (sv_16, .inl (tc 0, 6, .inl (fun _ => 0)))] := hD
      refine lv_astore_n (lv' := [(2, .ref q_5), (0, .ref (Pa 0)), (1, .ref (Aa 0))]) hx hb dX5_keep_38 rfl hl (by decide) rfl (fun ls hl => ?_)
      refine lv_aload_n hx hb dX5_keep_39 rfl (lv_at hl 1 rfl) ?_
      refine gf_X5_13 hx hb hts hown hK hP 0 rfl rfl dX5_keep_40 ?_
      refine lv_aload_n hx hb dX5_keep_43 rfl (lv_at hl 1 rfl) ?_
      refine gf_X5_17 hx hb hts hown hK hP 0 rfl rfl dX5_keep_44 ?_
      refine lv_aload_n hx hb dX5_keep_47 rfl (lv_at hl 0 rfl) ?_
      have hi_17 : vp_in (Pv 0) 20 := by
        have z_1 := Int32.le_iff_toInt_le.mp (Int32.not_lt.mp c_1)
        have z_2 := Int32.lt_iff_toInt_lt.mp c_3
        have y_0 : (0 : Int32).toInt = 0 := by decide
        have y_20 : (20 : Int32).toInt = 20 := by decide
        refine vp_in_iff.mpr ⟨?_, ?_⟩ <;> omega
      refine st_ref hx hb hK hP hD hS 1 5 11 9 (r := (RX9, TX9, 14)) rfl rfl rfl rfl hi_17 dX5_keep_48 (fun g_18 H locs eg_18 hP hD hS => ?_)
      have hP : va_P D classes [((Pa 0), .inr (5, [.ref (Pa 1), .int (Pv 0), .int (Pv 1)])), ((Pa 1), .inl (tc 5, 20, .inr (.inr (.inr (.inr g_18))))), ((Aa 0), .inr (9, [.int (Av 0), .int (Av 1), .int (Av 2), .int (Av 3), .int (Av 4), .int (Av 5), .ref (Aa 1), .ref (Aa 2), .ref (Aa 3), .ref (Aa 4), .ref (Aa 5), .ref (Aa 6), .ref (Aa 7), .ref (Aa 8)])), ((Aa 1), .inl (tc 0, 10, .inl (Af 1))), ((Aa 2), .inl (tc 0, 10, .inl (Af 2))), ((Aa 3), .inl (tc 0, 6, .inl (Af 3))), ((Aa 4), .inl (tc 0, 6, .inl (Af 4))), ((Aa 5), .inl (tc 0, 6, .inl (Af 5))), ((Aa 6), .inl (tc 0, 6, .inl (Af 6))), ((Aa 7), .inl (tc 0, 6, .inl (Af 7))), ((Aa 8), .inl (tc 0, 6, .inl (Af 8))), (q_5, .inr (9, [.int 0, .int 0, .int 0, .int 0, .int 0, .int 0, .ref sv_9, .ref sv_10, .ref sv_11, .ref sv_12, .ref sv_13, .ref sv_14, .ref sv_15, .ref sv_16])), (sv_9, .inl (tc 0, 10, .inl (fun _ => 0))), (sv_10, .inl (tc 0, 10, .inl (fun _ => 0))), (sv_11, .inl (tc 0, 6, .inl (fun _ => 0))), (sv_12, .inl (tc 0, 6, .inl (fun _ => 0))), (sv_13, .inl (tc 0, 6, .inl (fun _ => 0))), (sv_14, .inl (tc 0, 6, .inl (fun _ => 0))), (sv_15, .inl (tc 0, 6, .inl (fun _ => 0))), (sv_16, .inl (tc 0, 6, .inl (fun _ => 0)))] H := hP
      have hD : va_D A [((Pa 0), .inr (5, [.ref (Pa 1), .int (Pv 0), .int (Pv 1)])), ((Pa 1), .inl (tc 5, 20, .inr (.inr (.inr (.inr g_18))))), ((Aa 0), .inr (9, [.int (Av 0), .int (Av 1), .int (Av 2), .int (Av 3), .int (Av 4), .int (Av 5), .ref (Aa 1), .ref (Aa 2), .ref (Aa 3), .ref (Aa 4), .ref (Aa 5), .ref (Aa 6), .ref (Aa 7), .ref (Aa 8)])), ((Aa 1), .inl (tc 0, 10, .inl (Af 1))), ((Aa 2), .inl (tc 0, 10, .inl (Af 2))), ((Aa 3), .inl (tc 0, 6, .inl (Af 3))), ((Aa 4), .inl (tc 0, 6, .inl (Af 4))), ((Aa 5), .inl (tc 0, 6, .inl (Af 5))), ((Aa 6), .inl (tc 0, 6, .inl (Af 6))), ((Aa 7), .inl (tc 0, 6, .inl (Af 7))), ((Aa 8), .inl (tc 0, 6, .inl (Af 8))), (q_5, .inr (9, [.int 0, .int 0, .int 0, .int 0, .int 0, .int 0, .ref sv_9, .ref sv_10, .ref sv_11, .ref sv_12, .ref sv_13, .ref sv_14, .ref sv_15, .ref sv_16])), (sv_9, .inl (tc 0, 10, .inl (fun _ => 0))), (sv_10, .inl (tc 0, 10, .inl (fun _ => 0))), (sv_11, .inl (tc 0, 6, .inl (fun _ => 0))), (sv_12, .inl (tc 0, 6, .inl (fun _ => 0))), (sv_13, .inl (tc 0, 6, .inl (fun _ => 0))), (sv_14, .inl (tc 0, 6, .inl (fun _ => 0))), (sv_15, .inl (tc 0, 6, .inl (fun _ => 0))), (sv_16, .inl (tc 0, 6, .inl (fun _ => 0)))] := hD
      subst eg_18
      have hP : va_P D classes [((Pa 0), .inr (5, [.ref (Pa 1), .int (Pv 0), .int (Pv 1)])), ((Pa 1), .inl (tc 5, 20, .inr (.inr (.inr (.inr (va_up (Pq 1) ((Pv 0) : Int32).toNatClampNeg (some q_5))))))), ((Aa 0), .inr (9, [.int (Av 0), .int (Av 1), .int (Av 2), .int (Av 3), .int (Av 4), .int (Av 5), .ref (Aa 1), .ref (Aa 2), .ref (Aa 3), .ref (Aa 4), .ref (Aa 5), .ref (Aa 6), .ref (Aa 7), .ref (Aa 8)])), ((Aa 1), .inl (tc 0, 10, .inl (Af 1))), ((Aa 2), .inl (tc 0, 10, .inl (Af 2))), ((Aa 3), .inl (tc 0, 6, .inl (Af 3))), ((Aa 4), .inl (tc 0, 6, .inl (Af 4))), ((Aa 5), .inl (tc 0, 6, .inl (Af 5))), ((Aa 6), .inl (tc 0, 6, .inl (Af 6))), ((Aa 7), .inl (tc 0, 6, .inl (Af 7))), ((Aa 8), .inl (tc 0, 6, .inl (Af 8))), (q_5, .inr (9, [.int 0, .int 0, .int 0, .int 0, .int 0, .int 0, .ref sv_9, .ref sv_10, .ref sv_11, .ref sv_12, .ref sv_13, .ref sv_14, .ref sv_15, .ref sv_16])), (sv_9, .inl (tc 0, 10, .inl (fun _ => 0))), (sv_10, .inl (tc 0, 10, .inl (fun _ => 0))), (sv_11, .inl (tc 0, 6, .inl (fun _ => 0))), (sv_12, .inl (tc 0, 6, .inl (fun _ => 0))), (sv_13, .inl (tc 0, 6, .inl (fun _ => 0))), (sv_14, .inl (tc 0, 6, .inl (fun _ => 0))), (sv_15, .inl (tc 0, 6, .inl (fun _ => 0))), (sv_16, .inl (tc 0, 6, .inl (fun _ => 0)))] H := hP
      have hD : va_D A [((Pa 0), .inr (5, [.ref (Pa 1), .int (Pv 0), .int (Pv 1)])), ((Pa 1), .inl (tc 5, 20, .inr (.inr (.inr (.inr (va_up (Pq 1) ((Pv 0) : Int32).toNatClampNeg (some q_5))))))), ((Aa 0), .inr (9, [.int (Av 0), .int (Av 1), .int (Av 2), .int (Av 3), .int (Av 4), .int (Av 5), .ref (Aa 1), .ref (Aa 2), .ref (Aa 3), .ref (Aa 4), .ref (Aa 5), .ref (Aa 6), .ref (Aa 7), .ref (Aa 8)])), ((Aa 1), .inl (tc 0, 10, .inl (Af 1))), ((Aa 2), .inl (tc 0, 10, .inl (Af 2))), ((Aa 3), .inl (tc 0, 6, .inl (Af 3))), ((Aa 4), .inl (tc 0, 6, .inl (Af 4))), ((Aa 5), .inl (tc 0, 6, .inl (Af 5))), ((Aa 6), .inl (tc 0, 6, .inl (Af 6))), ((Aa 7), .inl (tc 0, 6, .inl (Af 7))), ((Aa 8), .inl (tc 0, 6, .inl (Af 8))), (q_5, .inr (9, [.int 0, .int 0, .int 0, .int 0, .int 0, .int 0, .ref sv_9, .ref sv_10, .ref sv_11, .ref sv_12, .ref sv_13, .ref sv_14, .ref sv_15, .ref sv_16])), (sv_9, .inl (tc 0, 10, .inl (fun _ => 0))), (sv_10, .inl (tc 0, 10, .inl (fun _ => 0))), (sv_11, .inl (tc 0, 6, .inl (fun _ => 0))), (sv_12, .inl (tc 0, 6, .inl (fun _ => 0))), (sv_13, .inl (tc 0, 6, .inl (fun _ => 0))), (sv_14, .inl (tc 0, 6, .inl (fun _ => 0))), (sv_15, .inl (tc 0, 6, .inl (fun _ => 0))), (sv_16, .inl (tc 0, 6, .inl (fun _ => 0)))] := hD
      refine lv_aload_n hx hb dX5_keep_49 rfl (lv_at hl 0 rfl) ?_
      refine lv_aload_n hx hb dX5_keep_50 rfl (lv_at hl 2 rfl) ?_
      refine cV (a := q_5) (As := [.ref (Aa 0)]) (rest := []) (wr := [((Pa 0), .inr (5, [.ref (Pa 1), .int (Pv 0), .int (Pv 1)])), ((Pa 1), .inl (tc 5, 20, .inr (.inr (.inr (.inr (va_up (Pq 1) ((Pv 0) : Int32).toNatClampNeg (some q_5)))))))]) ⟨hx, hb, hml, hown, hts⟩ hK hX hA (ct_X9_copyFrom l D tc sk (fun k => ([q_5, sv_9, sv_10, sv_11, sv_12, sv_13, sv_14, sv_15, sv_16] : List (Nat)).getD k 0) (fun k => ([0, 0, 0, 0, 0, 0] : List (Int32)).getD k 0) (fun k => ([(fun _ => 0), (fun _ => 0), (fun _ => 0), (fun _ => 0), (fun _ => 0), (fun _ => 0), (fun _ => 0), (fun _ => 0), (fun _ => 0)] : List (Nat → Int32)).getD k (fun _ => 0)) Aa Av Af) k_599 k_730 k_597 k_598 k_98 pl_X9_copyFrom ⟨Nat.le_of_ble_eq_true rfl, Nat.le_of_ble_eq_true rfl⟩ rfl rfl (va_recv hK hP (ci := 9) (q0 := 11) rfl rfl) hP hD hS [11, 12, 13, 14, 15, 16, 17, 18, 19, 2, 3, 4, 5, 6, 7, 8, 9, 10] [0, 1] rfl rfl rfl rfl rfl (by decide) rfl hl.1 rfl (Nat.le_of_ble_eq_true rfl) dX5_keep_51 ⟨Nat.le_of_ble_eq_true rfl, Nat.le_of_ble_eq_true rfl⟩ (fun v_19 u_20 H locs hv_21 hP hD hS => ?_)
      obtain ⟨sv_22, sv_23, sv_24, sv_25, sv_26, sv_27, sv_28, sv_29⟩ := u_20
      obtain rfl : v_19 = none := hv_21
      refine W.eq (g2 := F0 m 54 ls []) rfl ?_
      have hP : va_P D classes [((Pa 0), .inr (5, [.ref (Pa 1), .int (Pv 0), .int (Pv 1)])), ((Pa 1), .inl (tc 5, 20, .inr (.inr (.inr (.inr (va_up (Pq 1) ((Pv 0) : Int32).toNatClampNeg (some q_5))))))), (q_5, .inr (9, [.int (Av 0), .int (Av 1), .int (Av 2), .int (Av 3), .int (Av 4), .int (Av 5), .ref sv_9, .ref sv_10, .ref sv_11, .ref sv_12, .ref sv_13, .ref sv_14, .ref sv_15, .ref sv_16])), (sv_9, .inl (tc 0, 10, .inl sv_22)), (sv_10, .inl (tc 0, 10, .inl sv_23)), (sv_11, .inl (tc 0, 6, .inl sv_24)), (sv_12, .inl (tc 0, 6, .inl sv_25)), (sv_13, .inl (tc 0, 6, .inl sv_26)), (sv_14, .inl (tc 0, 6, .inl sv_27)), (sv_15, .inl (tc 0, 6, .inl sv_28)), (sv_16, .inl (tc 0, 6, .inl sv_29)), ((Aa 0), .inr (9, [.int (Av 0), .int (Av 1), .int (Av 2), .int (Av 3), .int (Av 4), .int (Av 5), .ref (Aa 1), .ref (Aa 2), .ref (Aa 3), .ref (Aa 4), .ref (Aa 5), .ref (Aa 6), .ref (Aa 7), .ref (Aa 8)])), ((Aa 1), .inl (tc 0, 10, .inl (Af 1))), ((Aa 2), .inl (tc 0, 10, .inl (Af 2))), ((Aa 3), .inl (tc 0, 6, .inl (Af 3))), ((Aa 4), .inl (tc 0, 6, .inl (Af 4))), ((Aa 5), .inl (tc 0, 6, .inl (Af 5))), ((Aa 6), .inl (tc 0, 6, .inl (Af 6))), ((Aa 7), .inl (tc 0, 6, .inl (Af 7))), ((Aa 8), .inl (tc 0, 6, .inl (Af 8)))] H := hP
      have hD : va_D A [((Pa 0), .inr (5, [.ref (Pa 1), .int (Pv 0), .int (Pv 1)])), ((Pa 1), .inl (tc 5, 20, .inr (.inr (.inr (.inr (va_up (Pq 1) ((Pv 0) : Int32).toNatClampNeg (some q_5))))))), (q_5, .inr (9, [.int (Av 0), .int (Av 1), .int (Av 2), .int (Av 3), .int (Av 4), .int (Av 5), .ref sv_9, .ref sv_10, .ref sv_11, .ref sv_12, .ref sv_13, .ref sv_14, .ref sv_15, .ref sv_16])), (sv_9, .inl (tc 0, 10, .inl sv_22)), (sv_10, .inl (tc 0, 10, .inl sv_23)), (sv_11, .inl (tc 0, 6, .inl sv_24)), (sv_12, .inl (tc 0, 6, .inl sv_25)), (sv_13, .inl (tc 0, 6, .inl sv_26)), (sv_14, .inl (tc 0, 6, .inl sv_27)), (sv_15, .inl (tc 0, 6, .inl sv_28)), (sv_16, .inl (tc 0, 6, .inl sv_29)), ((Aa 0), .inr (9, [.int (Av 0), .int (Av 1), .int (Av 2), .int (Av 3), .int (Av 4), .int (Av 5), .ref (Aa 1), .ref (Aa 2), .ref (Aa 3), .ref (Aa 4), .ref (Aa 5), .ref (Aa 6), .ref (Aa 7), .ref (Aa 8)])), ((Aa 1), .inl (tc 0, 10, .inl (Af 1))), ((Aa 2), .inl (tc 0, 10, .inl (Af 2))), ((Aa 3), .inl (tc 0, 6, .inl (Af 3))), ((Aa 4), .inl (tc 0, 6, .inl (Af 4))), ((Aa 5), .inl (tc 0, 6, .inl (Af 5))), ((Aa 6), .inl (tc 0, 6, .inl (Af 6))), ((Aa 7), .inl (tc 0, 6, .inl (Af 7))), ((Aa 8), .inl (tc 0, 6, .inl (Af 8)))] := hD
      refine lv_aload_n hx hb dX5_keep_54 rfl (lv_at hl 1 rfl) ?_
      refine lv_aload_n hx hb dX5_keep_55 rfl (lv_at hl 1 rfl) ?_
      refine gf_X5_17 hx hb hts hown hK hP 0 rfl rfl dX5_keep_56 ?_
      refine lv_iconst (v := 1) hx hb dX5_keep_59 (by decide) ?_
      refine lv_iadd hx hb dX5_keep_60 ?_
      refine lv_topi (fun x_30 ex_30 => ?_)
      refine lv_bipush (v := 20) hx hb dX5_keep_61 (by decide) ?_
      refine lv_irem hx hb dX5_keep_63 (by decide) ?_
      refine lv_topi (fun x_31 ex_31 => ?_)
      refine pf_X5_17 hx hb hts hown hK hP hD hS 0 rfl (Nat.le_of_ble_eq_true rfl) rfl rfl dX5_keep_64 (fun H locs hP hD hS => ?_)
      have hP : va_P D classes [((Pa 0), .inr (5, [.ref (Pa 1), .int x_31, .int (Pv 1)])), ((Pa 1), .inl (tc 5, 20, .inr (.inr (.inr (.inr (va_up (Pq 1) ((Pv 0) : Int32).toNatClampNeg (some q_5))))))), (q_5, .inr (9, [.int (Av 0), .int (Av 1), .int (Av 2), .int (Av 3), .int (Av 4), .int (Av 5), .ref sv_9, .ref sv_10, .ref sv_11, .ref sv_12, .ref sv_13, .ref sv_14, .ref sv_15, .ref sv_16])), (sv_9, .inl (tc 0, 10, .inl sv_22)), (sv_10, .inl (tc 0, 10, .inl sv_23)), (sv_11, .inl (tc 0, 6, .inl sv_24)), (sv_12, .inl (tc 0, 6, .inl sv_25)), (sv_13, .inl (tc 0, 6, .inl sv_26)), (sv_14, .inl (tc 0, 6, .inl sv_27)), (sv_15, .inl (tc 0, 6, .inl sv_28)), (sv_16, .inl (tc 0, 6, .inl sv_29)), ((Aa 0), .inr (9, [.int (Av 0), .int (Av 1), .int (Av 2), .int (Av 3), .int (Av 4), .int (Av 5), .ref (Aa 1), .ref (Aa 2), .ref (Aa 3), .ref (Aa 4), .ref (Aa 5), .ref (Aa 6), .ref (Aa 7), .ref (Aa 8)])), ((Aa 1), .inl (tc 0, 10, .inl (Af 1))), ((Aa 2), .inl (tc 0, 10, .inl (Af 2))), ((Aa 3), .inl (tc 0, 6, .inl (Af 3))), ((Aa 4), .inl (tc 0, 6, .inl (Af 4))), ((Aa 5), .inl (tc 0, 6, .inl (Af 5))), ((Aa 6), .inl (tc 0, 6, .inl (Af 6))), ((Aa 7), .inl (tc 0, 6, .inl (Af 7))), ((Aa 8), .inl (tc 0, 6, .inl (Af 8)))] H := hP
      have hD : va_D A [((Pa 0), .inr (5, [.ref (Pa 1), .int x_31, .int (Pv 1)])), ((Pa 1), .inl (tc 5, 20, .inr (.inr (.inr (.inr (va_up (Pq 1) ((Pv 0) : Int32).toNatClampNeg (some q_5))))))), (q_5, .inr (9, [.int (Av 0), .int (Av 1), .int (Av 2), .int (Av 3), .int (Av 4), .int (Av 5), .ref sv_9, .ref sv_10, .ref sv_11, .ref sv_12, .ref sv_13, .ref sv_14, .ref sv_15, .ref sv_16])), (sv_9, .inl (tc 0, 10, .inl sv_22)), (sv_10, .inl (tc 0, 10, .inl sv_23)), (sv_11, .inl (tc 0, 6, .inl sv_24)), (sv_12, .inl (tc 0, 6, .inl sv_25)), (sv_13, .inl (tc 0, 6, .inl sv_26)), (sv_14, .inl (tc 0, 6, .inl sv_27)), (sv_15, .inl (tc 0, 6, .inl sv_28)), (sv_16, .inl (tc 0, 6, .inl sv_29)), ((Aa 0), .inr (9, [.int (Av 0), .int (Av 1), .int (Av 2), .int (Av 3), .int (Av 4), .int (Av 5), .ref (Aa 1), .ref (Aa 2), .ref (Aa 3), .ref (Aa 4), .ref (Aa 5), .ref (Aa 6), .ref (Aa 7), .ref (Aa 8)])), ((Aa 1), .inl (tc 0, 10, .inl (Af 1))), ((Aa 2), .inl (tc 0, 10, .inl (Af 2))), ((Aa 3), .inl (tc 0, 6, .inl (Af 3))), ((Aa 4), .inl (tc 0, 6, .inl (Af 4))), ((Aa 5), .inl (tc 0, 6, .inl (Af 5))), ((Aa 6), .inl (tc 0, 6, .inl (Af 6))), ((Aa 7), .inl (tc 0, 6, .inl (Af 7))), ((Aa 8), .inl (tc 0, 6, .inl (Af 8)))] := hD
      refine lv_aload_n hx hb dX5_keep_67 rfl (lv_at hl 1 rfl) ?_
      refine lv_bipush (v := 20) hx hb dX5_keep_68 (by decide) ?_
      refine lv_aload_n hx hb dX5_keep_70 rfl (lv_at hl 1 rfl) ?_
      refine gf_X5_21 hx hb hts hown hK hP 0 rfl rfl dX5_keep_71 ?_
      refine lv_iconst (v := 1) hx hb dX5_keep_74 (by decide) ?_
      refine lv_iadd hx hb dX5_keep_75 ?_
      refine lv_topi (fun x_32 ex_32 => ?_)
      refine va_mmin hx hb (hml.trans hl.1.symm) hown (hts _ k_731) (hts _ k_680) (hts _ k_114) (hts _ k_681) (Nat.le_of_ble_eq_true rfl) (Nat.le_of_ble_eq_true rfl) (Nat.le_of_ble_eq_true rfl) (Nat.le_of_ble_eq_true rfl) dX5_keep_76 ?_
      refine lv_topi (fun x_33 ex_33 => ?_)
      have mx_33 := imin_f ex_33
      rw [show (20 : Int32).toInt = 20 by decide] at mx_33
      refine pf_X5_21 hx hb hts hown hK hP hD hS 0 rfl (Nat.le_of_ble_eq_true rfl) rfl rfl dX5_keep_79 (fun H locs hP hD hS => ?_)
      have hP : va_P D classes [((Pa 0), .inr (5, [.ref (Pa 1), .int x_31, .int x_33])), ((Pa 1), .inl (tc 5, 20, .inr (.inr (.inr (.inr (va_up (Pq 1) ((Pv 0) : Int32).toNatClampNeg (some q_5))))))), (q_5, .inr (9, [.int (Av 0), .int (Av 1), .int (Av 2), .int (Av 3), .int (Av 4), .int (Av 5), .ref sv_9, .ref sv_10, .ref sv_11, .ref sv_12, .ref sv_13, .ref sv_14, .ref sv_15, .ref sv_16])), (sv_9, .inl (tc 0, 10, .inl sv_22)), (sv_10, .inl (tc 0, 10, .inl sv_23)), (sv_11, .inl (tc 0, 6, .inl sv_24)), (sv_12, .inl (tc 0, 6, .inl sv_25)), (sv_13, .inl (tc 0, 6, .inl sv_26)), (sv_14, .inl (tc 0, 6, .inl sv_27)), (sv_15, .inl (tc 0, 6, .inl sv_28)), (sv_16, .inl (tc 0, 6, .inl sv_29)), ((Aa 0), .inr (9, [.int (Av 0), .int (Av 1), .int (Av 2), .int (Av 3), .int (Av 4), .int (Av 5), .ref (Aa 1), .ref (Aa 2), .ref (Aa 3), .ref (Aa 4), .ref (Aa 5), .ref (Aa 6), .ref (Aa 7), .ref (Aa 8)])), ((Aa 1), .inl (tc 0, 10, .inl (Af 1))), ((Aa 2), .inl (tc 0, 10, .inl (Af 2))), ((Aa 3), .inl (tc 0, 6, .inl (Af 3))), ((Aa 4), .inl (tc 0, 6, .inl (Af 4))), ((Aa 5), .inl (tc 0, 6, .inl (Af 5))), ((Aa 6), .inl (tc 0, 6, .inl (Af 6))), ((Aa 7), .inl (tc 0, 6, .inl (Af 7))), ((Aa 8), .inl (tc 0, 6, .inl (Af 8)))] H := hP
      have hD : va_D A [((Pa 0), .inr (5, [.ref (Pa 1), .int x_31, .int x_33])), ((Pa 1), .inl (tc 5, 20, .inr (.inr (.inr (.inr (va_up (Pq 1) ((Pv 0) : Int32).toNatClampNeg (some q_5))))))), (q_5, .inr (9, [.int (Av 0), .int (Av 1), .int (Av 2), .int (Av 3), .int (Av 4), .int (Av 5), .ref sv_9, .ref sv_10, .ref sv_11, .ref sv_12, .ref sv_13, .ref sv_14, .ref sv_15, .ref sv_16])), (sv_9, .inl (tc 0, 10, .inl sv_22)), (sv_10, .inl (tc 0, 10, .inl sv_23)), (sv_11, .inl (tc 0, 6, .inl sv_24)), (sv_12, .inl (tc 0, 6, .inl sv_25)), (sv_13, .inl (tc 0, 6, .inl sv_26)), (sv_14, .inl (tc 0, 6, .inl sv_27)), (sv_15, .inl (tc 0, 6, .inl sv_28)), (sv_16, .inl (tc 0, 6, .inl sv_29)), ((Aa 0), .inr (9, [.int (Av 0), .int (Av 1), .int (Av 2), .int (Av 3), .int (Av 4), .int (Av 5), .ref (Aa 1), .ref (Aa 2), .ref (Aa 3), .ref (Aa 4), .ref (Aa 5), .ref (Aa 6), .ref (Aa 7), .ref (Aa 8)])), ((Aa 1), .inl (tc 0, 10, .inl (Af 1))), ((Aa 2), .inl (tc 0, 10, .inl (Af 2))), ((Aa 3), .inl (tc 0, 6, .inl (Af 3))), ((Aa 4), .inl (tc 0, 6, .inl (Af 4))), ((Aa 5), .inl (tc 0, 6, .inl (Af 5))), ((Aa 6), .inl (tc 0, 6, .inl (Af 6))), ((Aa 7), .inl (tc 0, 6, .inl (Af 7))), ((Aa 8), .inl (tc 0, 6, .inl (Af 8)))] := hD
      have ha_34 : 0 ≤ (x_31 : Int32).toInt ∧ (x_31 : Int32).toInt < 20 := by
        have z_1 := Int32.le_iff_toInt_le.mp (Int32.not_lt.mp c_1)
        have z_2 := Int32.lt_iff_toInt_lt.mp c_3
        have y_0 : (0 : Int32).toInt = 0 := by decide
        have y_20 : (20 : Int32).toInt = 20 := by decide
        have y_1 : (1 : Int32).toInt = 1 := by decide
        have t_x_30 : x_30.toInt = ((Pv 0) : Int32).toInt + (1 : Int32).toInt := by rw [ex_30]; exact add_toInt (by omega) (by omega)
        have t_x_31 := rem_bounds (x := x_30) (y := 20) (by omega)
        rw [← ex_31] at t_x_31
        omega
      exact retV hx hb hr hlk hP hD hS (true, q_5, sv_9, sv_10, sv_11, sv_12, sv_13, sv_14, sv_15, sv_16, x_31, x_33, sv_22, sv_23, sv_24, sv_25, sv_26, sv_27, sv_28, sv_29) ⟨rfl, ha_34⟩ [0, 1, 11, 12, 13, 14, 15, 16, 17, 18, 19, 2, 3, 4, 5, 6, 7, 8, 9, 10] rfl rfl dX5_keep_82 (Nat.le_of_ble_eq_true rfl) (Nat.le_of_ble_eq_true rfl) rfl
    · skip
      have ha_35 : 0 ≤ ((Pv 0) : Int32).toInt ∧ ((Pv 0) : Int32).toInt < 20 := by
        have z_1 := Int32.le_iff_toInt_le.mp (Int32.not_lt.mp c_1)
        have z_2 := Int32.le_iff_toInt_le.mp (Int32.not_lt.mp c_3)
        have y_0 : (0 : Int32).toInt = 0 := by decide
        have y_20 : (20 : Int32).toInt = 20 := by decide
        omega
      exact retV hx hb hr hlk hP hD hS (false, 0, 0, 0, 0, 0, 0, 0, 0, 0, 0, 0, (fun _ => 0), (fun _ => 0), (fun _ => 0), (fun _ => 0), (fun _ => 0), (fun _ => 0), (fun _ => 0), (fun _ => 0)) ⟨rfl, ha_35⟩ [0, 1, 2, 3, 4, 5, 6, 7, 8, 9, 10] rfl rfl dX5_keep_16 (Nat.le_of_ble_eq_true rfl) (Nat.le_of_ble_eq_true rfl) rfl
set_option maxHeartbeats 4000000 in
set_option maxRecDepth 100000 in
theorem ct_X5_keep_s (l : Launch) (D : va_G) (tc : Nat → ClassId) (sk : (Nat → Nat) × (Nat → Nat)) (Pa : Nat → Nat) (Pv : Nat → Int32) (Pq : Nat → Nat → Option Nat) (Aa : Nat → Nat) (Av : Nat → Int32) (Af : Nat → Nat → Int32) (Ea : Nat → Nat) (Ev : Nat → Int32) (Ef : Nat → Nat → Int32) (h_nx : 0 ≤ ((Pv 0) : Int32).toInt ∧ ((Pv 0) : Int32).toInt < 20) (h_q : (Pq 1) (Pv 0).toNatClampNeg = some (Ea 0)) : Ct l yX5_keep cX5_keep 3 none { frames := 2, cells := 0, slots := 0, locals := 61 } D tc sk [.ref (Pa 0), .ref (Aa 0)] [((Pa 0), .inr (5, [.ref (Pa 1), .int (Pv 0), .int (Pv 1)])), ((Pa 1), .inl (tc 5, 20, .inr (.inr (.inr (.inr (Pq 1)))))), ((Aa 0), .inr (9, [.int (Av 0), .int (Av 1), .int (Av 2), .int (Av 3), .int (Av 4), .int (Av 5), .ref (Aa 1), .ref (Aa 2), .ref (Aa 3), .ref (Aa 4), .ref (Aa 5), .ref (Aa 6), .ref (Aa 7), .ref (Aa 8)])), ((Aa 1), .inl (tc 0, 10, .inl (Af 1))), ((Aa 2), .inl (tc 0, 10, .inl (Af 2))), ((Aa 3), .inl (tc 0, 6, .inl (Af 3))), ((Aa 4), .inl (tc 0, 6, .inl (Af 4))), ((Aa 5), .inl (tc 0, 6, .inl (Af 5))), ((Aa 6), .inl (tc 0, 6, .inl (Af 6))), ((Aa 7), .inl (tc 0, 6, .inl (Af 7))), ((Aa 8), .inl (tc 0, 6, .inl (Af 8))), ((Ea 0), .inr (9, [.int (Ev 0), .int (Ev 1), .int (Ev 2), .int (Ev 3), .int (Ev 4), .int (Ev 5), .ref (Ea 1), .ref (Ea 2), .ref (Ea 3), .ref (Ea 4), .ref (Ea 5), .ref (Ea 6), .ref (Ea 7), .ref (Ea 8)])), ((Ea 1), .inl (tc 0, 10, .inl (Ef 1))), ((Ea 2), .inl (tc 0, 10, .inl (Ef 2))), ((Ea 3), .inl (tc 0, 6, .inl (Ef 3))), ((Ea 4), .inl (tc 0, 6, .inl (Ef 4))), ((Ea 5), .inl (tc 0, 6, .inl (Ef 5))), ((Ea 6), .inl (tc 0, 6, .inl (Ef 6))), ((Ea 7), .inl (tc 0, 6, .inl (Ef 7))), ((Ea 8), .inl (tc 0, 6, .inl (Ef 8)))] (fun (v : Option Value) (u : (Int32) × (Int32) × (Int32) × (Int32) × (Int32) × (Int32) × (Int32) × (Int32) × (Nat → Int32) × (Nat → Int32) × (Nat → Int32) × (Nat → Int32) × (Nat → Int32) × (Nat → Int32) × (Nat → Int32) × (Nat → Int32)) => match u with | (oo0x1, oo0x2, oo0x3, oo0x4, oo0x5, oo0x6, oo0x7, oo0x8, oo0x9, oo0x10, oo0x11, oo0x12, oo0x13, oo0x14, oo0x15, oo0x16) => v = none ∧ (0 ≤ (oo0x1 : Int32).toInt ∧ (oo0x1 : Int32).toInt < 20)) (fun (u : (Int32) × (Int32) × (Int32) × (Int32) × (Int32) × (Int32) × (Int32) × (Int32) × (Nat → Int32) × (Nat → Int32) × (Nat → Int32) × (Nat → Int32) × (Nat → Int32) × (Nat → Int32) × (Nat → Int32) × (Nat → Int32)) => match u with | (oo0x1, oo0x2, oo0x3, oo0x4, oo0x5, oo0x6, oo0x7, oo0x8, oo0x9, oo0x10, oo0x11, oo0x12, oo0x13, oo0x14, oo0x15, oo0x16) => [((Pa 0), .inr (5, [.ref (Pa 1), .int oo0x1, .int oo0x2])), ((Pa 1), .inl (tc 5, 20, .inr (.inr (.inr (.inr (Pq 1)))))), ((Aa 0), .inr (9, [.int (Av 0), .int (Av 1), .int (Av 2), .int (Av 3), .int (Av 4), .int (Av 5), .ref (Aa 1), .ref (Aa 2), .ref (Aa 3), .ref (Aa 4), .ref (Aa 5), .ref (Aa 6), .ref (Aa 7), .ref (Aa 8)])), ((Aa 1), .inl (tc 0, 10, .inl (Af 1))), ((Aa 2), .inl (tc 0, 10, .inl (Af 2))), ((Aa 3), .inl (tc 0, 6, .inl (Af 3))), ((Aa 4), .inl (tc 0, 6, .inl (Af 4))), ((Aa 5), .inl (tc 0, 6, .inl (Af 5))), ((Aa 6), .inl (tc 0, 6, .inl (Af 6))), ((Aa 7), .inl (tc 0, 6, .inl (Af 7))), ((Aa 8), .inl (tc 0, 6, .inl (Af 8))), ((Ea 0), .inr (9, [.int oo0x3, .int oo0x4, .int oo0x5, .int oo0x6, .int oo0x7, .int oo0x8, .ref (Ea 1), .ref (Ea 2), .ref (Ea 3), .ref (Ea 4), .ref (Ea 5), .ref (Ea 6), .ref (Ea 7), .ref (Ea 8)])), ((Ea 1), .inl (tc 0, 10, .inl oo0x9)), ((Ea 2), .inl (tc 0, 10, .inl oo0x10)), ((Ea 3), .inl (tc 0, 6, .inl oo0x11)), ((Ea 4), .inl (tc 0, 6, .inl oo0x12)), ((Ea 5), .inl (tc 0, 6, .inl oo0x13)), ((Ea 6), .inl (tc 0, 6, .inl oo0x14)), ((Ea 7), .inl (tc 0, 6, .inl oo0x15)), ((Ea 8), .inl (tc 0, 6, .inl oo0x16))]) 0 0 := by
  refine Ct.start (by decide) (Nat.le_of_ble_eq_true rfl) (fun p e s m below meth c A ls hx hb hr hlk hin hml hown hts hK hX hP hD hA hl hS => ?_)
  have hl : lv_has ls 3 [(0, .ref (Pa 0)), (1, .ref (Aa 0))] := hl
  refine lv_aload_n hx hb dX5_keep_0 rfl (lv_at hl 0 rfl) ?_
  refine gf_X5_17 hx hb hts hown hK hP 0 rfl rfl dX5_keep_1 ?_
  refine lv_if_lt (tgt := 16) hx hb dX5_keep_4 (by decide) (fun c_1 => ?_) (fun c_1 => ?_)
  · skip
    have ha_2 : 0 ≤ ((Pv 0) : Int32).toInt ∧ ((Pv 0) : Int32).toInt < 20 := by
      have z_1 := Int32.lt_iff_toInt_lt.mp c_1
      have y_0 : (0 : Int32).toInt = 0 := by decide
      omega
    exact retV hx hb hr hlk hP hD hS ((Pv 0), (Pv 1), (Ev 0), (Ev 1), (Ev 2), (Ev 3), (Ev 4), (Ev 5), (Ef 1), (Ef 2), (Ef 3), (Ef 4), (Ef 5), (Ef 6), (Ef 7), (Ef 8)) ⟨rfl, ha_2⟩ [0, 1, 2, 3, 4, 5, 6, 7, 8, 9, 10, 11, 12, 13, 14, 15, 16, 17, 18, 19] rfl rfl dX5_keep_16 (Nat.le_of_ble_eq_true rfl) (Nat.le_of_ble_eq_true rfl) rfl
  · skip
    refine lv_aload_n hx hb dX5_keep_7 rfl (lv_at hl 0 rfl) ?_
    refine gf_X5_17 hx hb hts hown hK hP 0 rfl rfl dX5_keep_8 ?_
    refine lv_bipush (v := 20) hx hb dX5_keep_11 (by decide) ?_
    refine lv_icmp_lt (tgt := 17) hx hb dX5_keep_13 (by decide) (fun c_3 => ?_) (fun c_3 => ?_)
    · skip
      refine lv_aload_n hx hb dX5_keep_17 rfl (lv_at hl 0 rfl) ?_
      refine gf_X5_13 hx hb hts hown hK hP 0 rfl rfl dX5_keep_18 ?_
      refine lv_aload_n hx hb dX5_keep_21 rfl (lv_at hl 0 rfl) ?_
      refine gf_X5_17 hx hb hts hown hK hP 0 rfl rfl dX5_keep_22 ?_
      have hi_4 : vp_in (Pv 0) 20 := by
        have z_1 := Int32.le_iff_toInt_le.mp (Int32.not_lt.mp c_1)
        have z_2 := Int32.lt_iff_toInt_lt.mp c_3
        have y_0 : (0 : Int32).toInt = 0 := by decide
        have y_20 : (20 : Int32).toInt = 20 := by decide
        refine vp_in_iff.mpr ⟨?_, ?_⟩ <;> omega
      refine va_aldq hx hb hK hP 1 5 rfl rfl hi_4 dX5_keep_25 ?_
      refine lv_val (v := .ref (Ea 0)) (by rw [h_q]; rfl) ?_
      refine lv_astore_n (lv' := [(2, .ref (Ea 0)), (0, .ref (Pa 0)), (1, .ref (Aa 0))]) hx hb dX5_keep_26 rfl hl (by decide) rfl (fun ls hl => ?_)
      refine lv_aload_n hx hb dX5_keep_27 rfl (lv_at hl 0 rfl) ?_
      refine lv_ifnonnull (tgt := 49) hx hb dX5_keep_28 (by decide) ?_
      refine lv_aload_n hx hb dX5_keep_49 rfl (lv_at hl 0 rfl) ?_
      refine lv_aload_n hx hb dX5_keep_50 rfl (lv_at hl 2 rfl) ?_
      refine cV (a := (Ea 0)) (As := [.ref (Aa 0)]) (rest := []) (wr := [((Pa 0), .inr (5, [.ref (Pa 1), .int (Pv 0), .int (Pv 1)])), ((Pa 1), .inl (tc 5, 20, .inr (.inr (.inr (.inr (Pq 1))))))]) ⟨hx, hb, hml, hown, hts⟩ hK hX hA (ct_X9_copyFrom l D tc sk Ea Ev Ef Aa Av Af) k_599 k_730 k_597 k_598 k_98 pl_X9_copyFrom ⟨Nat.le_of_ble_eq_true rfl, Nat.le_of_ble_eq_true rfl⟩ rfl rfl (va_recv hK hP (ci := 9) (q0 := 11) rfl rfl) hP hD hS [11, 12, 13, 14, 15, 16, 17, 18, 19, 2, 3, 4, 5, 6, 7, 8, 9, 10] [0, 1] rfl rfl rfl rfl rfl (by decide) rfl hl.1 rfl (Nat.le_of_ble_eq_true rfl) dX5_keep_51 ⟨Nat.le_of_ble_eq_true rfl, Nat.le_of_ble_eq_true rfl⟩ (fun v_5 u_6 H locs hv_7 hP hD hS => ?_)
      obtain ⟨sv_8, sv_9, sv_10, sv_11, sv_12, sv_13, sv_14, sv_15⟩ := u_6
      obtain rfl : v_5 = none := hv_7
      refine W.eq (g2 := F0 m 54 ls []) rfl ?_
      have hP : va_P D classes [((Pa 0), .inr (5, [.ref (Pa 1), .int (Pv 0), .int (Pv 1)])), ((Pa 1), .inl (tc 5, 20, .inr (.inr (.inr (.inr (Pq 1)))))), ((Ea 0), .inr (9, [.int (Av 0), .int (Av 1), .int (Av 2), .int (Av 3), .int (Av 4), .int (Av 5), .ref (Ea 1), .ref (Ea 2), .ref (Ea 3), .ref (Ea 4), .ref (Ea 5), .ref (Ea 6), .ref (Ea 7), .ref (Ea 8)])), ((Ea 1), .inl (tc 0, 10, .inl sv_8)), ((Ea 2), .inl (tc 0, 10, .inl sv_9)), ((Ea 3), .inl (tc 0, 6, .inl sv_10)), ((Ea 4), .inl (tc 0, 6, .inl sv_11)), ((Ea 5), .inl (tc 0, 6, .inl sv_12)), ((Ea 6), .inl (tc 0, 6, .inl sv_13)), ((Ea 7), .inl (tc 0, 6, .inl sv_14)), ((Ea 8), .inl (tc 0, 6, .inl sv_15)), ((Aa 0), .inr (9, [.int (Av 0), .int (Av 1), .int (Av 2), .int (Av 3), .int (Av 4), .int (Av 5), .ref (Aa 1), .ref (Aa 2), .ref (Aa 3), .ref (Aa 4), .ref (Aa 5), .ref (Aa 6), .ref (Aa 7), .ref (Aa 8)])), ((Aa 1), .inl (tc 0, 10, .inl (Af 1))), ((Aa 2), .inl (tc 0, 10, .inl (Af 2))), ((Aa 3), .inl (tc 0, 6, .inl (Af 3))), ((Aa 4), .inl (tc 0, 6, .inl (Af 4))), ((Aa 5), .inl (tc 0, 6, .inl (Af 5))), ((Aa 6), .inl (tc 0, 6, .inl (Af 6))), ((Aa 7), .inl (tc 0, 6, .inl (Af 7))), ((Aa 8), .inl (tc 0, 6, .inl (Af 8)))] H := hP
      have hD : va_D A [((Pa 0), .inr (5, [.ref (Pa 1), .int (Pv 0), .int (Pv 1)])), ((Pa 1), .inl (tc 5, 20, .inr (.inr (.inr (.inr (Pq 1)))))), ((Ea 0), .inr (9, [.int (Av 0), .int (Av 1), .int (Av 2), .int (Av 3), .int (Av 4), .int (Av 5), .ref (Ea 1), .ref (Ea 2), .ref (Ea 3), .ref (Ea 4), .ref (Ea 5), .ref (Ea 6), .ref (Ea 7), .ref (Ea 8)])), ((Ea 1), .inl (tc 0, 10, .inl sv_8)), ((Ea 2), .inl (tc 0, 10, .inl sv_9)), ((Ea 3), .inl (tc 0, 6, .inl sv_10)), ((Ea 4), .inl (tc 0, 6, .inl sv_11)), ((Ea 5), .inl (tc 0, 6, .inl sv_12)), ((Ea 6), .inl (tc 0, 6, .inl sv_13)), ((Ea 7), .inl (tc 0, 6, .inl sv_14)), ((Ea 8), .inl (tc 0, 6, .inl sv_15)), ((Aa 0), .inr (9, [.int (Av 0), .int (Av 1), .int (Av 2), .int (Av 3), .int (Av 4), .int (Av 5), .ref (Aa 1), .ref (Aa 2), .ref (Aa 3), .ref (Aa 4), .ref (Aa 5), .ref (Aa 6), .ref (Aa 7), .ref (Aa 8)])), ((Aa 1), .inl (tc 0, 10, .inl (Af 1))), ((Aa 2), .inl (tc 0, 10, .inl (Af 2))), ((Aa 3), .inl (tc 0, 6, .inl (Af 3))), ((Aa 4), .inl (tc 0, 6, .inl (Af 4))), ((Aa 5), .inl (tc 0, 6, .inl (Af 5))), ((Aa 6), .inl (tc 0, 6, .inl (Af 6))), ((Aa 7), .inl (tc 0, 6, .inl (Af 7))), ((Aa 8), .inl (tc 0, 6, .inl (Af 8)))] := hD
      refine lv_aload_n hx hb dX5_keep_54 rfl (lv_at hl 1 rfl) ?_
      refine lv_aload_n hx hb dX5_keep_55 rfl (lv_at hl 1 rfl) ?_
      refine gf_X5_17 hx hb hts hown hK hP 0 rfl rfl dX5_keep_56 ?_
      refine lv_iconst (v := 1) hx hb dX5_keep_59 (by decide) ?_
      refine lv_iadd hx hb dX5_keep_60 ?_
      refine lv_topi (fun x_16 ex_16 => ?_)
      refine lv_bipush (v := 20) hx hb dX5_keep_61 (by decide) ?_
      refine lv_irem hx hb dX5_keep_63 (by decide) ?_
      refine lv_topi (fun x_17 ex_17 => ?_)
      refine pf_X5_17 hx hb hts hown hK hP hD hS 0 rfl (Nat.le_of_ble_eq_true rfl) rfl rfl dX5_keep_64 (fun H locs hP hD hS => ?_)
      have hP : va_P D classes [((Pa 0), .inr (5, [.ref (Pa 1), .int x_17, .int (Pv 1)])), ((Pa 1), .inl (tc 5, 20, .inr (.inr (.inr (.inr (Pq 1)))))), ((Ea 0), .inr (9, [.int (Av 0), .int (Av 1), .int (Av 2), .int (Av 3), .int (Av 4), .int (Av 5), .ref (Ea 1), .ref (Ea 2), .ref (Ea 3), .ref (Ea 4), .ref (Ea 5), .ref (Ea 6), .ref (Ea 7), .ref (Ea 8)])), ((Ea 1), .inl (tc 0, 10, .inl sv_8)), ((Ea 2), .inl (tc 0, 10, .inl sv_9)), ((Ea 3), .inl (tc 0, 6, .inl sv_10)), ((Ea 4), .inl (tc 0, 6, .inl sv_11)), ((Ea 5), .inl (tc 0, 6, .inl sv_12)), ((Ea 6), .inl (tc 0, 6, .inl sv_13)), ((Ea 7), .inl (tc 0, 6, .inl sv_14)), ((Ea 8), .inl (tc 0, 6, .inl sv_15)), ((Aa 0), .inr (9, [.int (Av 0), .int (Av 1), .int (Av 2), .int (Av 3), .int (Av 4), .int (Av 5), .ref (Aa 1), .ref (Aa 2), .ref (Aa 3), .ref (Aa 4), .ref (Aa 5), .ref (Aa 6), .ref (Aa 7), .ref (Aa 8)])), ((Aa 1), .inl (tc 0, 10, .inl (Af 1))), ((Aa 2), .inl (tc 0, 10, .inl (Af 2))), ((Aa 3), .inl (tc 0, 6, .inl (Af 3))), ((Aa 4), .inl (tc 0, 6, .inl (Af 4))), ((Aa 5), .inl (tc 0, 6, .inl (Af 5))), ((Aa 6), .inl (tc 0, 6, .inl (Af 6))), ((Aa 7), .inl (tc 0, 6, .inl (Af 7))), ((Aa 8), .inl (tc 0, 6, .inl (Af 8)))] H := hP
      have hD : va_D A [((Pa 0), .inr (5, [.ref (Pa 1), .int x_17, .int (Pv 1)])), ((Pa 1), .inl (tc 5, 20, .inr (.inr (.inr (.inr (Pq 1)))))), ((Ea 0), .inr (9, [.int (Av 0), .int (Av 1), .int (Av 2), .int (Av 3), .int (Av 4), .int (Av 5), .ref (Ea 1), .ref (Ea 2), .ref (Ea 3), .ref (Ea 4), .ref (Ea 5), .ref (Ea 6), .ref (Ea 7), .ref (Ea 8)])), ((Ea 1), .inl (tc 0, 10, .inl sv_8)), ((Ea 2), .inl (tc 0, 10, .inl sv_9)), ((Ea 3), .inl (tc 0, 6, .inl sv_10)), ((Ea 4), .inl (tc 0, 6, .inl sv_11)), ((Ea 5), .inl (tc 0, 6, .inl sv_12)), ((Ea 6), .inl (tc 0, 6, .inl sv_13)), ((Ea 7), .inl (tc 0, 6, .inl sv_14)), ((Ea 8), .inl (tc 0, 6, .inl sv_15)), ((Aa 0), .inr (9, [.int (Av 0), .int (Av 1), .int (Av 2), .int (Av 3), .int (Av 4), .int (Av 5), .ref (Aa 1), .ref (Aa 2), .ref (Aa 3), .ref (Aa 4), .ref (Aa 5), .ref (Aa 6), .ref (Aa 7), .ref (Aa 8)])), ((Aa 1), .inl (tc 0, 10, .inl (Af 1))), ((Aa 2), .inl (tc 0, 10, .inl (Af 2))), ((Aa 3), .inl (tc 0, 6, .inl (Af 3))), ((Aa 4), .inl (tc 0, 6, .inl (Af 4))), ((Aa 5), .inl (tc 0, 6, .inl (Af 5))), ((Aa 6), .inl (tc 0, 6, .inl (Af 6))), ((Aa 7), .inl (tc 0, 6, .inl (Af 7))), ((Aa 8), .inl (tc 0, 6, .inl (Af 8)))] := hD
      refine lv_aload_n hx hb dX5_keep_67 rfl (lv_at hl 1 rfl) ?_
      refine lv_bipush (v := 20) hx hb dX5_keep_68 (by decide) ?_
      refine lv_aload_n hx hb dX5_keep_70 rfl (lv_at hl 1 rfl) ?_
      refine gf_X5_21 hx hb hts hown hK hP 0 rfl rfl dX5_keep_71 ?_
      refine lv_iconst (v := 1) hx hb dX5_keep_74 (by decide) ?_
      refine lv_iadd hx hb dX5_keep_75 ?_
      refine lv_topi (fun x_18 ex_18 => ?_)
      refine va_mmin hx hb (hml.trans hl.1.symm) hown (hts _ k_731) (hts _ k_680) (hts _ k_114) (hts _ k_681) (Nat.le_of_ble_eq_true rfl) (Nat.le_of_ble_eq_true rfl) (Nat.le_of_ble_eq_true rfl) (Nat.le_of_ble_eq_true rfl) dX5_keep_76 ?_
      refine lv_topi (fun x_19 ex_19 => ?_)
      have mx_19 := imin_f ex_19
      rw [show (20 : Int32).toInt = 20 by decide] at mx_19
      refine pf_X5_21 hx hb hts hown hK hP hD hS 0 rfl (Nat.le_of_ble_eq_true rfl) rfl rfl dX5_keep_79 (fun H locs hP hD hS => ?_)
      have hP : va_P D classes [((Pa 0), .inr (5, [.ref (Pa 1), .int x_17, .int x_19])), ((Pa 1), .inl (tc 5, 20, .inr (.inr (.inr (.inr (Pq 1)))))), ((Ea 0), .inr (9, [.int (Av 0), .int (Av 1), .int (Av 2), .int (Av 3), .int (Av 4), .int (Av 5), .ref (Ea 1), .ref (Ea 2), .ref (Ea 3), .ref (Ea 4), .ref (Ea 5), .ref (Ea 6), .ref (Ea 7), .ref (Ea 8)])), ((Ea 1), .inl (tc 0, 10, .inl sv_8)), ((Ea 2), .inl (tc 0, 10, .inl sv_9)), ((Ea 3), .inl (tc 0, 6, .inl sv_10)), ((Ea 4), .inl (tc 0, 6, .inl sv_11)), ((Ea 5), .inl (tc 0, 6, .inl sv_12)), ((Ea 6), .inl (tc 0, 6, .inl sv_13)), ((Ea 7), .inl (tc 0, 6, .inl sv_14)), ((Ea 8), .inl (tc 0, 6, .inl sv_15)), ((Aa 0), .inr (9, [.int (Av 0), .int (Av 1), .int (Av 2), .int (Av 3), .int (Av 4), .int (Av 5), .ref (Aa 1), .ref (Aa 2), .ref (Aa 3), .ref (Aa 4), .ref (Aa 5), .ref (Aa 6), .ref (Aa 7), .ref (Aa 8)])), ((Aa 1), .inl (tc 0, 10, .inl (Af 1))), ((Aa 2), .inl (tc 0, 10, .inl (Af 2))), ((Aa 3), .inl (tc 0, 6, .inl (Af 3))), ((Aa 4), .inl (tc 0, 6, .inl (Af 4))), ((Aa 5), .inl (tc 0, 6, .inl (Af 5))), ((Aa 6), .inl (tc 0, 6, .inl (Af 6))), ((Aa 7), .inl (tc 0, 6, .inl (Af 7))), ((Aa 8), .inl (tc 0, 6, .inl (Af 8)))] H := hP
      have hD : va_D A [((Pa 0), .inr (5, [.ref (Pa 1), .int x_17, .int x_19])), ((Pa 1), .inl (tc 5, 20, .inr (.inr (.inr (.inr (Pq 1)))))), ((Ea 0), .inr (9, [.int (Av 0), .int (Av 1), .int (Av 2), .int (Av 3), .int (Av 4), .int (Av 5), .ref (Ea 1), .ref (Ea 2), .ref (Ea 3), .ref (Ea 4), .ref (Ea 5), .ref (Ea 6), .ref (Ea 7), .ref (Ea 8)])), ((Ea 1), .inl (tc 0, 10, .inl sv_8)), ((Ea 2), .inl (tc 0, 10, .inl sv_9)), ((Ea 3), .inl (tc 0, 6, .inl sv_10)), ((Ea 4), .inl (tc 0, 6, .inl sv_11)), ((Ea 5), .inl (tc 0, 6, .inl sv_12)), ((Ea 6), .inl (tc 0, 6, .inl sv_13)), ((Ea 7), .inl (tc 0, 6, .inl sv_14)), ((Ea 8), .inl (tc 0, 6, .inl sv_15)), ((Aa 0), .inr (9, [.int (Av 0), .int (Av 1), .int (Av 2), .int (Av 3), .int (Av 4), .int (Av 5), .ref (Aa 1), .ref (Aa 2), .ref (Aa 3), .ref (Aa 4), .ref (Aa 5), .ref (Aa 6), .ref (Aa 7), .ref (Aa 8)])), ((Aa 1), .inl (tc 0, 10, .inl (Af 1))), ((Aa 2), .inl (tc 0, 10, .inl (Af 2))), ((Aa 3), .inl (tc 0, 6, .inl (Af 3))), ((Aa 4), .inl (tc 0, 6, .inl (Af 4))), ((Aa 5), .inl (tc 0, 6, .inl (Af 5))), ((Aa 6), .inl (tc 0, 6, .inl (Af 6))), ((Aa 7), .inl (tc 0, 6, .inl (Af 7))), ((Aa 8), .inl (tc 0, 6, .inl (Af 8)))] := hD
      have ha_20 : 0 ≤ (x_17 : Int32).toInt ∧ (x_17 : Int32).toInt < 20 := by
        have z_1 := Int32.le_iff_toInt_le.mp (Int32.not_lt.mp c_1)
        have z_2 := Int32.lt_iff_toInt_lt.mp c_3
        have y_0 : (0 : Int32).toInt = 0 := by decide
        have y_20 : (20 : Int32).toInt = 20 := by decide
        have y_1 : (1 : Int32).toInt = 1 := by decide
        have t_x_16 : x_16.toInt = ((Pv 0) : Int32).toInt + (1 : Int32).toInt := by rw [ex_16]; exact add_toInt (by omega) (by omega)
        have t_x_17 := rem_bounds (x := x_16) (y := 20) (by omega)
        rw [← ex_17] at t_x_17
        omega
      exact retV hx hb hr hlk hP hD hS (x_17, x_19, (Av 0), (Av 1), (Av 2), (Av 3), (Av 4), (Av 5), sv_8, sv_9, sv_10, sv_11, sv_12, sv_13, sv_14, sv_15) ⟨rfl, ha_20⟩ [0, 1, 11, 12, 13, 14, 15, 16, 17, 18, 19, 2, 3, 4, 5, 6, 7, 8, 9, 10] rfl rfl dX5_keep_82 (Nat.le_of_ble_eq_true rfl) (Nat.le_of_ble_eq_true rfl) rfl
    · skip
      have ha_21 : 0 ≤ ((Pv 0) : Int32).toInt ∧ ((Pv 0) : Int32).toInt < 20 := by
        have z_1 := Int32.le_iff_toInt_le.mp (Int32.not_lt.mp c_1)
        have z_2 := Int32.le_iff_toInt_le.mp (Int32.not_lt.mp c_3)
        have y_0 : (0 : Int32).toInt = 0 := by decide
        have y_20 : (20 : Int32).toInt = 20 := by decide
        omega
      exact retV hx hb hr hlk hP hD hS ((Pv 0), (Pv 1), (Ev 0), (Ev 1), (Ev 2), (Ev 3), (Ev 4), (Ev 5), (Ef 1), (Ef 2), (Ef 3), (Ef 4), (Ef 5), (Ef 6), (Ef 7), (Ef 8)) ⟨rfl, ha_21⟩ [0, 1, 2, 3, 4, 5, 6, 7, 8, 9, 10, 11, 12, 13, 14, 15, 16, 17, 18, 19] rfl rfl dX5_keep_16 (Nat.le_of_ble_eq_true rfl) (Nat.le_of_ble_eq_true rfl) rfl
set_option maxHeartbeats 4000000 in
set_option maxRecDepth 100000 in
theorem ct_X5_giveBack_n (l : Launch) (D : va_G) (tc : Nat → ClassId) (sk : (Nat → Nat) × (Nat → Nat)) (Pa : Nat → Nat) (Pv : Nat → Int32) (Pq : Nat → Nat → Option Nat) (Aa : Nat → Nat) (Av : Nat → Int32) (Af : Nat → Nat → Int32) (h_nx : 0 ≤ ((Pv 0) : Int32).toInt ∧ ((Pv 0) : Int32).toInt < 20) (h_q : ∀ j : Int32, j.toInt = ((Pv 0).toInt + 19) % 20 → (Pq 1) j.toNatClampNeg = none) : Ct l yX5_giveBack cX5_giveBack 4 (some .int) { frames := 0, cells := 0, slots := 0, locals := 0 } D tc sk [.ref (Pa 0), .ref (Aa 0)] [((Pa 0), .inr (5, [.ref (Pa 1), .int (Pv 0), .int (Pv 1)])), ((Pa 1), .inl (tc 5, 20, .inr (.inr (.inr (.inr (Pq 1)))))), ((Aa 0), .inr (9, [.int (Av 0), .int (Av 1), .int (Av 2), .int (Av 3), .int (Av 4), .int (Av 5), .ref (Aa 1), .ref (Aa 2), .ref (Aa 3), .ref (Aa 4), .ref (Aa 5), .ref (Aa 6), .ref (Aa 7), .ref (Aa 8)])), ((Aa 1), .inl (tc 0, 10, .inl (Af 1))), ((Aa 2), .inl (tc 0, 10, .inl (Af 2))), ((Aa 3), .inl (tc 0, 6, .inl (Af 3))), ((Aa 4), .inl (tc 0, 6, .inl (Af 4))), ((Aa 5), .inl (tc 0, 6, .inl (Af 5))), ((Aa 6), .inl (tc 0, 6, .inl (Af 6))), ((Aa 7), .inl (tc 0, 6, .inl (Af 7))), ((Aa 8), .inl (tc 0, 6, .inl (Af 8)))] (fun (v : Option Value) (_ : Unit) => ∃ r : Int32, v = some (.int r) ∧ (True) ∧ (0 ≤ ((Pv 0) : Int32).toInt ∧ ((Pv 0) : Int32).toInt < 20)) (fun (_ : Unit) => [((Pa 0), .inr (5, [.ref (Pa 1), .int (Pv 0), .int (Pv 1)])), ((Pa 1), .inl (tc 5, 20, .inr (.inr (.inr (.inr (Pq 1)))))), ((Aa 0), .inr (9, [.int (Av 0), .int (Av 1), .int (Av 2), .int (Av 3), .int (Av 4), .int (Av 5), .ref (Aa 1), .ref (Aa 2), .ref (Aa 3), .ref (Aa 4), .ref (Aa 5), .ref (Aa 6), .ref (Aa 7), .ref (Aa 8)])), ((Aa 1), .inl (tc 0, 10, .inl (Af 1))), ((Aa 2), .inl (tc 0, 10, .inl (Af 2))), ((Aa 3), .inl (tc 0, 6, .inl (Af 3))), ((Aa 4), .inl (tc 0, 6, .inl (Af 4))), ((Aa 5), .inl (tc 0, 6, .inl (Af 5))), ((Aa 6), .inl (tc 0, 6, .inl (Af 6))), ((Aa 7), .inl (tc 0, 6, .inl (Af 7))), ((Aa 8), .inl (tc 0, 6, .inl (Af 8)))]) 0 0 := by
  refine Ct.start (by decide) (Nat.le_of_ble_eq_true rfl) (fun p e s m below meth c A ls hx hb hr hlk hin hml hown hts hK hX hP hD hA hl hS => ?_)
  have hl : lv_has ls 4 [(0, .ref (Pa 0)), (1, .ref (Aa 0))] := hl
  refine lv_aload_n hx hb dX5_giveBack_0 rfl (lv_at hl 0 rfl) ?_
  refine gf_X5_17 hx hb hts hown hK hP 0 rfl rfl dX5_giveBack_1 ?_
  refine lv_bipush (v := 20) hx hb dX5_giveBack_4 (by decide) ?_
  refine lv_iadd hx hb dX5_giveBack_6 ?_
  refine lv_topi (fun x_1 ex_1 => ?_)
  refine lv_iconst (v := 1) hx hb dX5_giveBack_7 (by decide) ?_
  refine lv_isub hx hb dX5_giveBack_8 ?_
  refine lv_topi (fun x_2 ex_2 => ?_)
  refine lv_bipush (v := 20) hx hb dX5_giveBack_9 (by decide) ?_
  refine lv_irem hx hb dX5_giveBack_11 (by decide) ?_
  refine lv_topi (fun x_3 ex_3 => ?_)
  refine lv_istore_n (lv' := [(2, .int x_3), (0, .ref (Pa 0)), (1, .ref (Aa 0))]) hx hb dX5_giveBack_12 rfl hl (by decide) rfl (fun ls hl => ?_)
  refine lv_aload_n hx hb dX5_giveBack_13 rfl (lv_at hl 1 rfl) ?_
  refine gf_X5_21 hx hb hts hown hK hP 0 rfl rfl dX5_giveBack_14 ?_
  refine lv_if_le (tgt := 24) hx hb dX5_giveBack_17 (by decide) (fun c_4 => ?_) (fun c_4 => ?_)
  · skip
    refine lv_iconst (v := (-1)) hx hb dX5_giveBack_24 (by decide) ?_
    have ha_5 : 0 ≤ ((Pv 0) : Int32).toInt ∧ ((Pv 0) : Int32).toInt < 20 := by
      have z_1 := Int32.le_iff_toInt_le.mp c_4
      have y_0 : (0 : Int32).toInt = 0 := by decide
      omega
    exact retI (v := (-1)) hx hb hr hlk (rfl) hP hD hS () ⟨_, rfl, trivial, ha_5⟩ [0, 1, 2, 3, 4, 5, 6, 7, 8, 9, 10] rfl rfl dX5_giveBack_25 (Nat.le_of_ble_eq_true rfl) (Nat.le_of_ble_eq_true rfl) rfl
  · skip
    refine lv_iload_n hx hb dX5_giveBack_20 rfl (lv_at hl 0 rfl) ?_
    refine lv_if_ge (tgt := 26) hx hb dX5_giveBack_21 (by decide) (fun c_6 => ?_) (fun c_6 => ?_)
    · skip
      refine lv_aload_n hx hb dX5_giveBack_26 rfl (lv_at hl 1 rfl) ?_
      refine gf_X5_13 hx hb hts hown hK hP 0 rfl rfl dX5_giveBack_27 ?_
      refine lv_iload_n hx hb dX5_giveBack_30 rfl (lv_at hl 0 rfl) ?_
      have hi_7 : vp_in x_3 20 := by
        have z_1 := Int32.lt_iff_toInt_lt.mp (Int32.not_le.mp c_4)
        have z_2 := Int32.le_iff_toInt_le.mp c_6
        have y_0 : (0 : Int32).toInt = 0 := by decide
        have y_1 : (1 : Int32).toInt = 1 := by decide
        have y_20 : (20 : Int32).toInt = 20 := by decide
        have t_x_1 : x_1.toInt = ((Pv 0) : Int32).toInt + (20 : Int32).toInt := by rw [ex_1]; exact add_toInt (by omega) (by omega)
        have t_x_2 : x_2.toInt = (x_1 : Int32).toInt - (1 : Int32).toInt := by rw [ex_2]; exact sub_toInt (by omega) (by omega)
        have t_x_3 := rem_bounds (x := x_2) (y := 20) (by omega)
        rw [← ex_3] at t_x_3
        refine vp_in_iff.mpr ⟨?_, ?_⟩ <;> omega
      refine va_aldq hx hb hK hP 1 5 rfl rfl hi_7 dX5_giveBack_31 ?_
      have hi_8 : (x_3 : Int32).toInt = ((Pv 0).toInt + 19) % 20 := by
        have z_1 := Int32.lt_iff_toInt_lt.mp (Int32.not_le.mp c_4)
        have z_2 := Int32.le_iff_toInt_le.mp c_6
        have y_0 : (0 : Int32).toInt = 0 := by decide
        have y_1 : (1 : Int32).toInt = 1 := by decide
        have y_20 : (20 : Int32).toInt = 20 := by decide
        have t_x_1 : x_1.toInt = ((Pv 0) : Int32).toInt + (20 : Int32).toInt := by rw [ex_1]; exact add_toInt (by omega) (by omega)
        have t_x_2 : x_2.toInt = (x_1 : Int32).toInt - (1 : Int32).toInt := by rw [ex_2]; exact sub_toInt (by omega) (by omega)
        have t_x_3 := rem_bounds (x := x_2) (y := 20) (by omega)
        rw [← ex_3] at t_x_3
        have tz := rem_emod (x := x_2) (y := 20) (by omega)
        rw [← ex_3, show (20 : Int32).toInt = 20 by decide] at tz
        omega
      refine lv_val (v := .null) (by rw [h_q x_3 hi_8]; rfl) ?_
      refine lv_astore_nN (lv' := [(3, .null), (2, .int x_3), (0, .ref (Pa 0)), (1, .ref (Aa 0))]) hx hb dX5_giveBack_32 rfl hl (by decide) rfl (fun ls hl => ?_)
      refine lv_aload_nN hx hb dX5_giveBack_33 rfl (lv_at hl 0 rfl) ?_
      refine lv_ifnonnullN hx hb dX5_giveBack_34 ?_
      refine lv_iconst (v := (-1)) hx hb dX5_giveBack_37 (by decide) ?_
      have ha_9 : 0 ≤ ((Pv 0) : Int32).toInt ∧ ((Pv 0) : Int32).toInt < 20 := by
        have z_1 := Int32.lt_iff_toInt_lt.mp (Int32.not_le.mp c_4)
        have z_2 := Int32.le_iff_toInt_le.mp c_6
        have y_0 : (0 : Int32).toInt = 0 := by decide
        have y_1 : (1 : Int32).toInt = 1 := by decide
        have y_20 : (20 : Int32).toInt = 20 := by decide
        have t_x_1 : x_1.toInt = ((Pv 0) : Int32).toInt + (20 : Int32).toInt := by rw [ex_1]; exact add_toInt (by omega) (by omega)
        have t_x_2 : x_2.toInt = (x_1 : Int32).toInt - (1 : Int32).toInt := by rw [ex_2]; exact sub_toInt (by omega) (by omega)
        have t_x_3 := rem_bounds (x := x_2) (y := 20) (by omega)
        rw [← ex_3] at t_x_3
        omega
      exact retI (v := (-1)) hx hb hr hlk (rfl) hP hD hS () ⟨_, rfl, trivial, ha_9⟩ [0, 1, 2, 3, 4, 5, 6, 7, 8, 9, 10] rfl rfl dX5_giveBack_38 (Nat.le_of_ble_eq_true rfl) (Nat.le_of_ble_eq_true rfl) rfl
    · skip
      refine lv_iconst (v := (-1)) hx hb dX5_giveBack_24 (by decide) ?_
      have ha_10 : 0 ≤ ((Pv 0) : Int32).toInt ∧ ((Pv 0) : Int32).toInt < 20 := by
        have z_1 := Int32.lt_iff_toInt_lt.mp (Int32.not_le.mp c_4)
        have z_2 := Int32.lt_iff_toInt_lt.mp (Int32.not_le.mp c_6)
        have y_0 : (0 : Int32).toInt = 0 := by decide
        have y_1 : (1 : Int32).toInt = 1 := by decide
        have y_20 : (20 : Int32).toInt = 20 := by decide
        have t_x_1 : x_1.toInt = ((Pv 0) : Int32).toInt + (20 : Int32).toInt := by rw [ex_1]; exact add_toInt (by omega) (by omega)
        have t_x_2 : x_2.toInt = (x_1 : Int32).toInt - (1 : Int32).toInt := by rw [ex_2]; exact sub_toInt (by omega) (by omega)
        have t_x_3 := rem_bounds (x := x_2) (y := 20) (by omega)
        rw [← ex_3] at t_x_3
        omega
      exact retI (v := (-1)) hx hb hr hlk (rfl) hP hD hS () ⟨_, rfl, trivial, ha_10⟩ [0, 1, 2, 3, 4, 5, 6, 7, 8, 9, 10] rfl rfl dX5_giveBack_25 (Nat.le_of_ble_eq_true rfl) (Nat.le_of_ble_eq_true rfl) rfl
set_option maxHeartbeats 4000000 in
set_option maxRecDepth 100000 in
theorem ct_X5_giveBack_s (l : Launch) (D : va_G) (tc : Nat → ClassId) (sk : (Nat → Nat) × (Nat → Nat)) (Pa : Nat → Nat) (Pv : Nat → Int32) (Pq : Nat → Nat → Option Nat) (Aa : Nat → Nat) (Av : Nat → Int32) (Af : Nat → Nat → Int32) (Ea : Nat → Nat) (Ev : Nat → Int32) (Ef : Nat → Nat → Int32) (h_nx : 0 ≤ ((Pv 0) : Int32).toInt ∧ ((Pv 0) : Int32).toInt < 20) (h_q : ∀ j : Int32, j.toInt = ((Pv 0).toInt + 19) % 20 → (Pq 1) j.toNatClampNeg = some (Ea 0)) : Ct l yX5_giveBack cX5_giveBack 4 (some .int) { frames := 2, cells := 0, slots := 0, locals := 61 } D tc sk [.ref (Pa 0), .ref (Aa 0)] [((Pa 0), .inr (5, [.ref (Pa 1), .int (Pv 0), .int (Pv 1)])), ((Pa 1), .inl (tc 5, 20, .inr (.inr (.inr (.inr (Pq 1)))))), ((Aa 0), .inr (9, [.int (Av 0), .int (Av 1), .int (Av 2), .int (Av 3), .int (Av 4), .int (Av 5), .ref (Aa 1), .ref (Aa 2), .ref (Aa 3), .ref (Aa 4), .ref (Aa 5), .ref (Aa 6), .ref (Aa 7), .ref (Aa 8)])), ((Aa 1), .inl (tc 0, 10, .inl (Af 1))), ((Aa 2), .inl (tc 0, 10, .inl (Af 2))), ((Aa 3), .inl (tc 0, 6, .inl (Af 3))), ((Aa 4), .inl (tc 0, 6, .inl (Af 4))), ((Aa 5), .inl (tc 0, 6, .inl (Af 5))), ((Aa 6), .inl (tc 0, 6, .inl (Af 6))), ((Aa 7), .inl (tc 0, 6, .inl (Af 7))), ((Aa 8), .inl (tc 0, 6, .inl (Af 8))), ((Ea 0), .inr (9, [.int (Ev 0), .int (Ev 1), .int (Ev 2), .int (Ev 3), .int (Ev 4), .int (Ev 5), .ref (Ea 1), .ref (Ea 2), .ref (Ea 3), .ref (Ea 4), .ref (Ea 5), .ref (Ea 6), .ref (Ea 7), .ref (Ea 8)])), ((Ea 1), .inl (tc 0, 10, .inl (Ef 1))), ((Ea 2), .inl (tc 0, 10, .inl (Ef 2))), ((Ea 3), .inl (tc 0, 6, .inl (Ef 3))), ((Ea 4), .inl (tc 0, 6, .inl (Ef 4))), ((Ea 5), .inl (tc 0, 6, .inl (Ef 5))), ((Ea 6), .inl (tc 0, 6, .inl (Ef 6))), ((Ea 7), .inl (tc 0, 6, .inl (Ef 7))), ((Ea 8), .inl (tc 0, 6, .inl (Ef 8)))] (fun (v : Option Value) (u : (Int32) × (Int32) × (Int32) × (Int32) × (Int32) × (Int32) × (Int32) × (Int32) × (Nat → Int32) × (Nat → Int32) × (Nat → Int32) × (Nat → Int32) × (Nat → Int32) × (Nat → Int32) × (Nat → Int32) × (Nat → Int32)) => match u with | (oo0x1, oo0x2, oo0x3, oo0x4, oo0x5, oo0x6, oo0x7, oo0x8, oo0x9, oo0x10, oo0x11, oo0x12, oo0x13, oo0x14, oo0x15, oo0x16) => ∃ r : Int32, v = some (.int r) ∧ (True) ∧ (0 ≤ (oo0x1 : Int32).toInt ∧ (oo0x1 : Int32).toInt < 20)) (fun (u : (Int32) × (Int32) × (Int32) × (Int32) × (Int32) × (Int32) × (Int32) × (Int32) × (Nat → Int32) × (Nat → Int32) × (Nat → Int32) × (Nat → Int32) × (Nat → Int32) × (Nat → Int32) × (Nat → Int32) × (Nat → Int32)) => match u with | (oo0x1, oo0x2, oo0x3, oo0x4, oo0x5, oo0x6, oo0x7, oo0x8, oo0x9, oo0x10, oo0x11, oo0x12, oo0x13, oo0x14, oo0x15, oo0x16) => [((Pa 0), .inr (5, [.ref (Pa 1), .int oo0x1, .int oo0x2])), ((Pa 1), .inl (tc 5, 20, .inr (.inr (.inr (.inr (Pq 1)))))), ((Aa 0), .inr (9, [.int oo0x3, .int oo0x4, .int oo0x5, .int oo0x6, .int oo0x7, .int oo0x8, .ref (Aa 1), .ref (Aa 2), .ref (Aa 3), .ref (Aa 4), .ref (Aa 5), .ref (Aa 6), .ref (Aa 7), .ref (Aa 8)])), ((Aa 1), .inl (tc 0, 10, .inl oo0x9)), ((Aa 2), .inl (tc 0, 10, .inl oo0x10)), ((Aa 3), .inl (tc 0, 6, .inl oo0x11)), ((Aa 4), .inl (tc 0, 6, .inl oo0x12)), ((Aa 5), .inl (tc 0, 6, .inl oo0x13)), ((Aa 6), .inl (tc 0, 6, .inl oo0x14)), ((Aa 7), .inl (tc 0, 6, .inl oo0x15)), ((Aa 8), .inl (tc 0, 6, .inl oo0x16)), ((Ea 0), .inr (9, [.int (Ev 0), .int (Ev 1), .int (Ev 2), .int (Ev 3), .int (Ev 4), .int (Ev 5), .ref (Ea 1), .ref (Ea 2), .ref (Ea 3), .ref (Ea 4), .ref (Ea 5), .ref (Ea 6), .ref (Ea 7), .ref (Ea 8)])), ((Ea 1), .inl (tc 0, 10, .inl (Ef 1))), ((Ea 2), .inl (tc 0, 10, .inl (Ef 2))), ((Ea 3), .inl (tc 0, 6, .inl (Ef 3))), ((Ea 4), .inl (tc 0, 6, .inl (Ef 4))), ((Ea 5), .inl (tc 0, 6, .inl (Ef 5))), ((Ea 6), .inl (tc 0, 6, .inl (Ef 6))), ((Ea 7), .inl (tc 0, 6, .inl (Ef 7))), ((Ea 8), .inl (tc 0, 6, .inl (Ef 8)))]) 0 0 := by
  refine Ct.start (by decide) (Nat.le_of_ble_eq_true rfl) (fun p e s m below meth c A ls hx hb hr hlk hin hml hown hts hK hX hP hD hA hl hS => ?_)
  have hl : lv_has ls 4 [(0, .ref (Pa 0)), (1, .ref (Aa 0))] := hl
  refine lv_aload_n hx hb dX5_giveBack_0 rfl (lv_at hl 0 rfl) ?_
  refine gf_X5_17 hx hb hts hown hK hP 0 rfl rfl dX5_giveBack_1 ?_
  refine lv_bipush (v := 20) hx hb dX5_giveBack_4 (by decide) ?_
  refine lv_iadd hx hb dX5_giveBack_6 ?_
  refine lv_topi (fun x_1 ex_1 => ?_)
  refine lv_iconst (v := 1) hx hb dX5_giveBack_7 (by decide) ?_
  refine lv_isub hx hb dX5_giveBack_8 ?_
  refine lv_topi (fun x_2 ex_2 => ?_)
  refine lv_bipush (v := 20) hx hb dX5_giveBack_9 (by decide) ?_
  refine lv_irem hx hb dX5_giveBack_11 (by decide) ?_
  refine lv_topi (fun x_3 ex_3 => ?_)
  refine lv_istore_n (lv' := [(2, .int x_3), (0, .ref (Pa 0)), (1, .ref (Aa 0))]) hx hb dX5_giveBack_12 rfl hl (by decide) rfl (fun ls hl => ?_)
  refine lv_aload_n hx hb dX5_giveBack_13 rfl (lv_at hl 1 rfl) ?_
  refine gf_X5_21 hx hb hts hown hK hP 0 rfl rfl dX5_giveBack_14 ?_
  refine lv_if_le (tgt := 24) hx hb dX5_giveBack_17 (by decide) (fun c_4 => ?_) (fun c_4 => ?_)
  · skip
    refine lv_iconst (v := (-1)) hx hb dX5_giveBack_24 (by decide) ?_
    have ha_5 : 0 ≤ ((Pv 0) : Int32).toInt ∧ ((Pv 0) : Int32).toInt < 20 := by
      have z_1 := Int32.le_iff_toInt_le.mp c_4
      have y_0 : (0 : Int32).toInt = 0 := by decide
      omega
    exact retI (v := (-1)) hx hb hr hlk (rfl) hP hD hS ((Pv 0), (Pv 1), (Av 0), (Av 1), (Av 2), (Av 3), (Av 4), (Av 5), (Af 1), (Af 2), (Af 3), (Af 4), (Af 5), (Af 6), (Af 7), (Af 8)) ⟨_, rfl, trivial, ha_5⟩ [0, 1, 2, 3, 4, 5, 6, 7, 8, 9, 10, 11, 12, 13, 14, 15, 16, 17, 18, 19] rfl rfl dX5_giveBack_25 (Nat.le_of_ble_eq_true rfl) (Nat.le_of_ble_eq_true rfl) rfl
  · skip
    refine lv_iload_n hx hb dX5_giveBack_20 rfl (lv_at hl 0 rfl) ?_
    refine lv_if_ge (tgt := 26) hx hb dX5_giveBack_21 (by decide) (fun c_6 => ?_) (fun c_6 => ?_)
    · skip
      refine lv_aload_n hx hb dX5_giveBack_26 rfl (lv_at hl 1 rfl) ?_
      refine gf_X5_13 hx hb hts hown hK hP 0 rfl rfl dX5_giveBack_27 ?_
      refine lv_iload_n hx hb dX5_giveBack_30 rfl (lv_at hl 0 rfl) ?_
      have hi_7 : vp_in x_3 20 := by
        have z_1 := Int32.lt_iff_toInt_lt.mp (Int32.not_le.mp c_4)
        have z_2 := Int32.le_iff_toInt_le.mp c_6
        have y_0 : (0 : Int32).toInt = 0 := by decide
        have y_1 : (1 : Int32).toInt = 1 := by decide
        have y_20 : (20 : Int32).toInt = 20 := by decide
        have t_x_1 : x_1.toInt = ((Pv 0) : Int32).toInt + (20 : Int32).toInt := by rw [ex_1]; exact add_toInt (by omega) (by omega)
        have t_x_2 : x_2.toInt = (x_1 : Int32).toInt - (1 : Int32).toInt := by rw [ex_2]; exact sub_toInt (by omega) (by omega)
        have t_x_3 := rem_bounds (x := x_2) (y := 20) (by omega)
        rw [← ex_3] at t_x_3
        refine vp_in_iff.mpr ⟨?_, ?_⟩ <;> omega
      refine va_aldq hx hb hK hP 1 5 rfl rfl hi_7 dX5_giveBack_31 ?_
      have hi_8 : (x_3 : Int32).toInt = ((Pv 0).toInt + 19) % 20 := by
        have z_1 := Int32.lt_iff_toInt_lt.mp (Int32.not_le.mp c_4)
        have z_2 := Int32.le_iff_toInt_le.mp c_6
        have y_0 : (0 : Int32).toInt = 0 := by decide
        have y_1 : (1 : Int32).toInt = 1 := by decide
        have y_20 : (20 : Int32).toInt = 20 := by decide
        have t_x_1 : x_1.toInt = ((Pv 0) : Int32).toInt + (20 : Int32).toInt := by rw [ex_1]; exact add_toInt (by omega) (by omega)
        have t_x_2 : x_2.toInt = (x_1 : Int32).toInt - (1 : Int32).toInt := by rw [ex_2]; exact sub_toInt (by omega) (by omega)
        have t_x_3 := rem_bounds (x := x_2) (y := 20) (by omega)
        rw [← ex_3] at t_x_3
        have tz := rem_emod (x := x_2) (y := 20) (by omega)
        rw [← ex_3, show (20 : Int32).toInt = 20 by decide] at tz
        omega
      refine lv_val (v := .ref (Ea 0)) (by rw [h_q x_3 hi_8]; rfl) ?_
      refine lv_astore_n (lv' := [(3, .ref (Ea 0)), (2, .int x_3), (0, .ref (Pa 0)), (1, .ref (Aa 0))]) hx hb dX5_giveBack_32 rfl hl (by decide) rfl (fun ls hl => ?_)
      refine lv_aload_n hx hb dX5_giveBack_33 rfl (lv_at hl 0 rfl) ?_
      refine lv_ifnonnull (tgt := 39) hx hb dX5_giveBack_34 (by decide) ?_
      refine lv_aload_n hx hb dX5_giveBack_39 rfl (lv_at hl 3 rfl) ?_
      refine lv_aload_n hx hb dX5_giveBack_40 rfl (lv_at hl 0 rfl) ?_
      refine cV (a := (Aa 0)) (As := [.ref (Ea 0)]) (rest := []) (wr := [((Pa 0), .inr (5, [.ref (Pa 1), .int (Pv 0), .int (Pv 1)])), ((Pa 1), .inl (tc 5, 20, .inr (.inr (.inr (.inr (Pq 1))))))]) ⟨hx, hb, hml, hown, hts⟩ hK hX hA (ct_X9_copyFrom l D tc sk Aa Av Af Ea Ev Ef) k_599 k_730 k_597 k_598 k_98 pl_X9_copyFrom ⟨Nat.le_of_ble_eq_true rfl, Nat.le_of_ble_eq_true rfl⟩ rfl rfl (va_recv hK hP (ci := 9) (q0 := 2) rfl rfl) hP hD hS [2, 3, 4, 5, 6, 7, 8, 9, 10, 11, 12, 13, 14, 15, 16, 17, 18, 19] [0, 1] rfl rfl rfl rfl rfl (by decide) rfl hl.1 rfl (Nat.le_of_ble_eq_true rfl) dX5_giveBack_41 ⟨Nat.le_of_ble_eq_true rfl, Nat.le_of_ble_eq_true rfl⟩ (fun v_9 u_10 H locs hv_11 hP hD hS => ?_)
      obtain ⟨sv_12, sv_13, sv_14, sv_15, sv_16, sv_17, sv_18, sv_19⟩ := u_10
      obtain rfl : v_9 = none := hv_11
      refine W.eq (g2 := F0 m 44 ls []) rfl ?_
      have hP : va_P D classes [((Pa 0), .inr (5, [.ref (Pa 1), .int (Pv 0), .int (Pv 1)])), ((Pa 1), .inl (tc 5, 20, .inr (.inr (.inr (.inr (Pq 1)))))), ((Aa 0), .inr (9, [.int (Ev 0), .int (Ev 1), .int (Ev 2), .int (Ev 3), .int (Ev 4), .int (Ev 5), .ref (Aa 1), .ref (Aa 2), .ref (Aa 3), .ref (Aa 4), .ref (Aa 5), .ref (Aa 6), .ref (Aa 7), .ref (Aa 8)])), ((Aa 1), .inl (tc 0, 10, .inl sv_12)), ((Aa 2), .inl (tc 0, 10, .inl sv_13)), ((Aa 3), .inl (tc 0, 6, .inl sv_14)), ((Aa 4), .inl (tc 0, 6, .inl sv_15)), ((Aa 5), .inl (tc 0, 6, .inl sv_16)), ((Aa 6), .inl (tc 0, 6, .inl sv_17)), ((Aa 7), .inl (tc 0, 6, .inl sv_18)), ((Aa 8), .inl (tc 0, 6, .inl sv_19)), ((Ea 0), .inr (9, [.int (Ev 0), .int (Ev 1), .int (Ev 2), .int (Ev 3), .int (Ev 4), .int (Ev 5), .ref (Ea 1), .ref (Ea 2), .ref (Ea 3), .ref (Ea 4), .ref (Ea 5), .ref (Ea 6), .ref (Ea 7), .ref (Ea 8)])), ((Ea 1), .inl (tc 0, 10, .inl (Ef 1))), ((Ea 2), .inl (tc 0, 10, .inl (Ef 2))), ((Ea 3), .inl (tc 0, 6, .inl (Ef 3))), ((Ea 4), .inl (tc 0, 6, .inl (Ef 4))), ((Ea 5), .inl (tc 0, 6, .inl (Ef 5))), ((Ea 6), .inl (tc 0, 6, .inl (Ef 6))), ((Ea 7), .inl (tc 0, 6, .inl (Ef 7))), ((Ea 8), .inl (tc 0, 6, .inl (Ef 8)))] H := hP
      have hD : va_D A [((Pa 0), .inr (5, [.ref (Pa 1), .int (Pv 0), .int (Pv 1)])), ((Pa 1), .inl (tc 5, 20, .inr (.inr (.inr (.inr (Pq 1)))))), ((Aa 0), .inr (9, [.int (Ev 0), .int (Ev 1), .int (Ev 2), .int (Ev 3), .int (Ev 4), .int (Ev 5), .ref (Aa 1), .ref (Aa 2), .ref (Aa 3), .ref (Aa 4), .ref (Aa 5), .ref (Aa 6), .ref (Aa 7), .ref (Aa 8)])), ((Aa 1), .inl (tc 0, 10, .inl sv_12)), ((Aa 2), .inl (tc 0, 10, .inl sv_13)), ((Aa 3), .inl (tc 0, 6, .inl sv_14)), ((Aa 4), .inl (tc 0, 6, .inl sv_15)), ((Aa 5), .inl (tc 0, 6, .inl sv_16)), ((Aa 6), .inl (tc 0, 6, .inl sv_17)), ((Aa 7), .inl (tc 0, 6, .inl sv_18)), ((Aa 8), .inl (tc 0, 6, .inl sv_19)), ((Ea 0), .inr (9, [.int (Ev 0), .int (Ev 1), .int (Ev 2), .int (Ev 3), .int (Ev 4), .int (Ev 5), .ref (Ea 1), .ref (Ea 2), .ref (Ea 3), .ref (Ea 4), .ref (Ea 5), .ref (Ea 6), .ref (Ea 7), .ref (Ea 8)])), ((Ea 1), .inl (tc 0, 10, .inl (Ef 1))), ((Ea 2), .inl (tc 0, 10, .inl (Ef 2))), ((Ea 3), .inl (tc 0, 6, .inl (Ef 3))), ((Ea 4), .inl (tc 0, 6, .inl (Ef 4))), ((Ea 5), .inl (tc 0, 6, .inl (Ef 5))), ((Ea 6), .inl (tc 0, 6, .inl (Ef 6))), ((Ea 7), .inl (tc 0, 6, .inl (Ef 7))), ((Ea 8), .inl (tc 0, 6, .inl (Ef 8)))] := hD
      refine lv_aload_n hx hb dX5_giveBack_44 rfl (lv_at hl 2 rfl) ?_
      refine lv_iload_n hx hb dX5_giveBack_45 rfl (lv_at hl 1 rfl) ?_
      refine pf_X5_17 hx hb hts hown hK hP hD hS 0 rfl (Nat.le_of_ble_eq_true rfl) rfl rfl dX5_giveBack_46 (fun H locs hP hD hS => ?_)
      have hP : va_P D classes [((Pa 0), .inr (5, [.ref (Pa 1), .int x_3, .int (Pv 1)])), ((Pa 1), .inl (tc 5, 20, .inr (.inr (.inr (.inr (Pq 1)))))), ((Aa 0), .inr (9, [.int (Ev 0), .int (Ev 1), .int (Ev 2), .int (Ev 3), .int (Ev 4), .int (Ev 5), .ref (Aa 1), .ref (Aa 2), .ref (Aa 3), .ref (Aa 4), .ref (Aa 5), .ref (Aa 6), .ref (Aa 7), .ref (Aa 8)])), ((Aa 1), .inl (tc 0, 10, .inl sv_12)), ((Aa 2), .inl (tc 0, 10, .inl sv_13)), ((Aa 3), .inl (tc 0, 6, .inl sv_14)), ((Aa 4), .inl (tc 0, 6, .inl sv_15)), ((Aa 5), .inl (tc 0, 6, .inl sv_16)), ((Aa 6), .inl (tc 0, 6, .inl sv_17)), ((Aa 7), .inl (tc 0, 6, .inl sv_18)), ((Aa 8), .inl (tc 0, 6, .inl sv_19)), ((Ea 0), .inr (9, [.int (Ev 0), .int (Ev 1), .int (Ev 2), .int (Ev 3), .int (Ev 4), .int (Ev 5), .ref (Ea 1), .ref (Ea 2), .ref (Ea 3), .ref (Ea 4), .ref (Ea 5), .ref (Ea 6), .ref (Ea 7), .ref (Ea 8)])), ((Ea 1), .inl (tc 0, 10, .inl (Ef 1))), ((Ea 2), .inl (tc 0, 10, .inl (Ef 2))), ((Ea 3), .inl (tc 0, 6, .inl (Ef 3))), ((Ea 4), .inl (tc 0, 6, .inl (Ef 4))), ((Ea 5), .inl (tc 0, 6, .inl (Ef 5))), ((Ea 6), .inl (tc 0, 6, .inl (Ef 6))), ((Ea 7), .inl (tc 0, 6, .inl (Ef 7))), ((Ea 8), .inl (tc 0, 6, .inl (Ef 8)))] H := hP
      have hD : va_D A [((Pa 0), .inr (5, [.ref (Pa 1), .int x_3, .int (Pv 1)])), ((Pa 1), .inl (tc 5, 20, .inr (.inr (.inr (.inr (Pq 1)))))), ((Aa 0), .inr (9, [.int (Ev 0), .int (Ev 1), .int (Ev 2), .int (Ev 3), .int (Ev 4), .int (Ev 5), .ref (Aa 1), .ref (Aa 2), .ref (Aa 3), .ref (Aa 4), .ref (Aa 5), .ref (Aa 6), .ref (Aa 7), .ref (Aa 8)])), ((Aa 1), .inl (tc 0, 10, .inl sv_12)), ((Aa 2), .inl (tc 0, 10, .inl sv_13)), ((Aa 3), .inl (tc 0, 6, .inl sv_14)), ((Aa 4), .inl (tc 0, 6, .inl sv_15)), ((Aa 5), .inl (tc 0, 6, .inl sv_16)), ((Aa 6), .inl (tc 0, 6, .inl sv_17)), ((Aa 7), .inl (tc 0, 6, .inl sv_18)), ((Aa 8), .inl (tc 0, 6, .inl sv_19)), ((Ea 0), .inr (9, [.int (Ev 0), .int (Ev 1), .int (Ev 2), .int (Ev 3), .int (Ev 4), .int (Ev 5), .ref (Ea 1), .ref (Ea 2), .ref (Ea 3), .ref (Ea 4), .ref (Ea 5), .ref (Ea 6), .ref (Ea 7), .ref (Ea 8)])), ((Ea 1), .inl (tc 0, 10, .inl (Ef 1))), ((Ea 2), .inl (tc 0, 10, .inl (Ef 2))), ((Ea 3), .inl (tc 0, 6, .inl (Ef 3))), ((Ea 4), .inl (tc 0, 6, .inl (Ef 4))), ((Ea 5), .inl (tc 0, 6, .inl (Ef 5))), ((Ea 6), .inl (tc 0, 6, .inl (Ef 6))), ((Ea 7), .inl (tc 0, 6, .inl (Ef 7))), ((Ea 8), .inl (tc 0, 6, .inl (Ef 8)))] := hD
      refine lv_aload_n hx hb dX5_giveBack_49 rfl (lv_at hl 2 rfl) ?_
      refine lv_dup hx hb dX5_giveBack_50 rfl ?_
      refine gf_X5_21 hx hb hts hown hK hP 0 rfl rfl dX5_giveBack_51 ?_
      refine lv_iconst (v := 1) hx hb dX5_giveBack_54 (by decide) ?_
      refine lv_isub hx hb dX5_giveBack_55 ?_
      refine lv_topi (fun x_20 ex_20 => ?_)
      refine pf_X5_21 hx hb hts hown hK hP hD hS 0 rfl (Nat.le_of_ble_eq_true rfl) rfl rfl dX5_giveBack_56 (fun H locs hP hD hS => ?_)
      have hP : va_P D classes [((Pa 0), .inr (5, [.ref (Pa 1), .int x_3, .int x_20])), ((Pa 1), .inl (tc 5, 20, .inr (.inr (.inr (.inr (Pq 1)))))), ((Aa 0), .inr (9, [.int (Ev 0), .int (Ev 1), .int (Ev 2), .int (Ev 3), .int (Ev 4), .int (Ev 5), .ref (Aa 1), .ref (Aa 2), .ref (Aa 3), .ref (Aa 4), .ref (Aa 5), .ref (Aa 6), .ref (Aa 7), .ref (Aa 8)])), ((Aa 1), .inl (tc 0, 10, .inl sv_12)), ((Aa 2), .inl (tc 0, 10, .inl sv_13)), ((Aa 3), .inl (tc 0, 6, .inl sv_14)), ((Aa 4), .inl (tc 0, 6, .inl sv_15)), ((Aa 5), .inl (tc 0, 6, .inl sv_16)), ((Aa 6), .inl (tc 0, 6, .inl sv_17)), ((Aa 7), .inl (tc 0, 6, .inl sv_18)), ((Aa 8), .inl (tc 0, 6, .inl sv_19)), ((Ea 0), .inr (9, [.int (Ev 0), .int (Ev 1), .int (Ev 2), .int (Ev 3), .int (Ev 4), .int (Ev 5), .ref (Ea 1), .ref (Ea 2), .ref (Ea 3), .ref (Ea 4), .ref (Ea 5), .ref (Ea 6), .ref (Ea 7), .ref (Ea 8)])), ((Ea 1), .inl (tc 0, 10, .inl (Ef 1))), ((Ea 2), .inl (tc 0, 10, .inl (Ef 2))), ((Ea 3), .inl (tc 0, 6, .inl (Ef 3))), ((Ea 4), .inl (tc 0, 6, .inl (Ef 4))), ((Ea 5), .inl (tc 0, 6, .inl (Ef 5))), ((Ea 6), .inl (tc 0, 6, .inl (Ef 6))), ((Ea 7), .inl (tc 0, 6, .inl (Ef 7))), ((Ea 8), .inl (tc 0, 6, .inl (Ef 8)))] H := hP
      have hD : va_D A [((Pa 0), .inr (5, [.ref (Pa 1), .int x_3, .int x_20])), ((Pa 1), .inl (tc 5, 20, .inr (.inr (.inr (.inr (Pq 1)))))), ((Aa 0), .inr (9, [.int (Ev 0), .int (Ev 1), .int (Ev 2), .int (Ev 3), .int (Ev 4), .int (Ev 5), .ref (Aa 1), .ref (Aa 2), .ref (Aa 3), .ref (Aa 4), .ref (Aa 5), .ref (Aa 6), .ref (Aa 7), .ref (Aa 8)])), ((Aa 1), .inl (tc 0, 10, .inl sv_12)), ((Aa 2), .inl (tc 0, 10, .inl sv_13)), ((Aa 3), .inl (tc 0, 6, .inl sv_14)), ((Aa 4), .inl (tc 0, 6, .inl sv_15)), ((Aa 5), .inl (tc 0, 6, .inl sv_16)), ((Aa 6), .inl (tc 0, 6, .inl sv_17)), ((Aa 7), .inl (tc 0, 6, .inl sv_18)), ((Aa 8), .inl (tc 0, 6, .inl sv_19)), ((Ea 0), .inr (9, [.int (Ev 0), .int (Ev 1), .int (Ev 2), .int (Ev 3), .int (Ev 4), .int (Ev 5), .ref (Ea 1), .ref (Ea 2), .ref (Ea 3), .ref (Ea 4), .ref (Ea 5), .ref (Ea 6), .ref (Ea 7), .ref (Ea 8)])), ((Ea 1), .inl (tc 0, 10, .inl (Ef 1))), ((Ea 2), .inl (tc 0, 10, .inl (Ef 2))), ((Ea 3), .inl (tc 0, 6, .inl (Ef 3))), ((Ea 4), .inl (tc 0, 6, .inl (Ef 4))), ((Ea 5), .inl (tc 0, 6, .inl (Ef 5))), ((Ea 6), .inl (tc 0, 6, .inl (Ef 6))), ((Ea 7), .inl (tc 0, 6, .inl (Ef 7))), ((Ea 8), .inl (tc 0, 6, .inl (Ef 8)))] := hD
      refine lv_aload_n hx hb dX5_giveBack_59 rfl (lv_at hl 2 rfl) ?_
      refine gf_X5_21 hx hb hts hown hK hP 0 rfl rfl dX5_giveBack_60 ?_
      have ha_21 : 0 ≤ (x_3 : Int32).toInt ∧ (x_3 : Int32).toInt < 20 := by
        have z_1 := Int32.lt_iff_toInt_lt.mp (Int32.not_le.mp c_4)
        have z_2 := Int32.le_iff_toInt_le.mp c_6
        have y_0 : (0 : Int32).toInt = 0 := by decide
        have y_1 : (1 : Int32).toInt = 1 := by decide
        have y_20 : (20 : Int32).toInt = 20 := by decide
        have t_x_1 : x_1.toInt = ((Pv 0) : Int32).toInt + (20 : Int32).toInt := by rw [ex_1]; exact add_toInt (by omega) (by omega)
        have t_x_2 : x_2.toInt = (x_1 : Int32).toInt - (1 : Int32).toInt := by rw [ex_2]; exact sub_toInt (by omega) (by omega)
        have t_x_3 := rem_bounds (x := x_2) (y := 20) (by omega)
        rw [← ex_3] at t_x_3
        omega
      exact retI (v := x_20) hx hb hr hlk (rfl) hP hD hS (x_3, x_20, (Ev 0), (Ev 1), (Ev 2), (Ev 3), (Ev 4), (Ev 5), sv_12, sv_13, sv_14, sv_15, sv_16, sv_17, sv_18, sv_19) ⟨_, rfl, trivial, ha_21⟩ [0, 1, 2, 3, 4, 5, 6, 7, 8, 9, 10, 11, 12, 13, 14, 15, 16, 17, 18, 19] rfl rfl dX5_giveBack_63 (Nat.le_of_ble_eq_true rfl) (Nat.le_of_ble_eq_true rfl) rfl
    · skip
      refine lv_iconst (v := (-1)) hx hb dX5_giveBack_24 (by decide) ?_
      have ha_22 : 0 ≤ ((Pv 0) : Int32).toInt ∧ ((Pv 0) : Int32).toInt < 20 := by
        have z_1 := Int32.lt_iff_toInt_lt.mp (Int32.not_le.mp c_4)
        have z_2 := Int32.lt_iff_toInt_lt.mp (Int32.not_le.mp c_6)
        have y_0 : (0 : Int32).toInt = 0 := by decide
        have y_1 : (1 : Int32).toInt = 1 := by decide
        have y_20 : (20 : Int32).toInt = 20 := by decide
        have t_x_1 : x_1.toInt = ((Pv 0) : Int32).toInt + (20 : Int32).toInt := by rw [ex_1]; exact add_toInt (by omega) (by omega)
        have t_x_2 : x_2.toInt = (x_1 : Int32).toInt - (1 : Int32).toInt := by rw [ex_2]; exact sub_toInt (by omega) (by omega)
        have t_x_3 := rem_bounds (x := x_2) (y := 20) (by omega)
        rw [← ex_3] at t_x_3
        omega
      exact retI (v := (-1)) hx hb hr hlk (rfl) hP hD hS ((Pv 0), (Pv 1), (Av 0), (Av 1), (Av 2), (Av 3), (Av 4), (Av 5), (Af 1), (Af 2), (Af 3), (Af 4), (Af 5), (Af 6), (Af 7), (Af 8)) ⟨_, rfl, trivial, ha_22⟩ [0, 1, 2, 3, 4, 5, 6, 7, 8, 9, 10, 11, 12, 13, 14, 15, 16, 17, 18, 19] rfl rfl dX5_giveBack_25 (Nat.le_of_ble_eq_true rfl) (Nat.le_of_ble_eq_true rfl) rfl
