set_option maxRecDepth 16384
theorem SaidD.al {T : Nat → Option Int32} {f : Nat → Int32} {d : Int} (h : SaidD T f d) : 0 ≤ (f 3).toInt ∧ (f 3).toInt ≤ 6 ∧ 0 ≤ (f 125).toInt ∧ (f 125).toInt ≤ 10 ∧ 0 ≤ (f 10).toInt ∧ (f 10).toInt ≤ d := ⟨h.1.1.1.2.1, h.1.1.1.2.2.1, h.1.1.1.2.2.2.1, h.1.1.1.2.2.2.2, h.2.1, h.2.2⟩
theorem SaidB.al {T : Nat → Option Int32} {f : Nat → Int32} (h : SaidB T f) : 0 ≤ (f 3).toInt ∧ (f 3).toInt ≤ 6 ∧ 0 ≤ (f 125).toInt ∧ (f 125).toInt ≤ 10 := ⟨h.1.1.2.1, h.1.1.2.2.1, h.1.1.2.2.2.1, h.1.1.2.2.2.2⟩
theorem upd_tn {f g : Nat → Int32} {i j : Nat} {x : Int32} (e : g = upd f i x) (h : j ≠ i) : (g j).toInt = (f j).toInt := by rw [e, upd_ne h]
theorem dX12_ahead_0 : decode cX12_ahead 0 = .ok (.aload_n 0, 1) := by decide +kernel
theorem dX12_ahead_1 : decode cX12_ahead 1 = .ok (.invokevirtual 283, 3) := by decide +kernel
theorem dX12_ahead_4 : decode cX12_ahead 4 = .ok (.ifCond .eq 40, 3) := by decide +kernel
theorem dX12_ahead_7 : decode cX12_ahead 7 = .ok (.iload_n 2, 1) := by decide +kernel
theorem dX12_ahead_8 : decode cX12_ahead 8 = .ok (.i2l, 1) := by decide +kernel
theorem dX12_ahead_9 : decode cX12_ahead 9 = .ok (.lconst 0, 1) := by decide +kernel
theorem dX12_ahead_10 : decode cX12_ahead 10 = .ok (.ldc2_w 358, 3) := by decide +kernel
theorem dX12_ahead_13 : decode cX12_ahead 13 = .ok (.invokestatic 115, 3) := by decide +kernel
theorem dX12_ahead_16 : decode cX12_ahead 16 = .ok (.ifCond .eq 28, 3) := by decide +kernel
theorem dX12_ahead_19 : decode cX12_ahead 19 = .ok (.iload_n 3, 1) := by decide +kernel
theorem dX12_ahead_20 : decode cX12_ahead 20 = .ok (.i2l, 1) := by decide +kernel
theorem dX12_ahead_21 : decode cX12_ahead 21 = .ok (.lconst 0, 1) := by decide +kernel
theorem dX12_ahead_22 : decode cX12_ahead 22 = .ok (.ldc2_w 360, 3) := by decide +kernel
theorem dX12_ahead_25 : decode cX12_ahead 25 = .ok (.invokestatic 115, 3) := by decide +kernel
theorem dX12_ahead_28 : decode cX12_ahead 28 = .ok (.ifCond .eq 16, 3) := by decide +kernel
theorem dX12_ahead_31 : decode cX12_ahead 31 = .ok (.iload_n 3, 1) := by decide +kernel
theorem dX12_ahead_32 : decode cX12_ahead 32 = .ok (.iconst 2, 1) := by decide +kernel
theorem dX12_ahead_33 : decode cX12_ahead 33 = .ok (.if_icmp .ge 13, 3) := by decide +kernel
theorem dX12_ahead_36 : decode cX12_ahead 36 = .ok (.aload_n 0, 1) := by decide +kernel
theorem dX12_ahead_37 : decode cX12_ahead 37 = .ok (.iload_n 1, 1) := by decide +kernel
theorem dX12_ahead_38 : decode cX12_ahead 38 = .ok (.invokevirtual 298, 3) := by decide +kernel
theorem dX12_ahead_41 : decode cX12_ahead 41 = .ok (.ifCond .ne 5, 3) := by decide +kernel
theorem dX12_ahead_44 : decode cX12_ahead 44 = .ok (.iconst (-1), 1) := by decide +kernel
theorem dX12_ahead_45 : decode cX12_ahead 45 = .ok (.ireturn, 1) := by decide +kernel
theorem dX12_ahead_46 : decode cX12_ahead 46 = .ok (.aload_n 0, 1) := by decide +kernel
theorem dX12_ahead_47 : decode cX12_ahead 47 = .ok (.invokevirtual 362, 3) := by decide +kernel
theorem dX12_ahead_50 : decode cX12_ahead 50 = .ok (.aload_n 0, 1) := by decide +kernel
theorem dX12_ahead_51 : decode cX12_ahead 51 = .ok (.iload_n 2, 1) := by decide +kernel
theorem dX12_ahead_52 : decode cX12_ahead 52 = .ok (.invokevirtual 365, 3) := by decide +kernel
theorem dX12_ahead_55 : decode cX12_ahead 55 = .ok (.iload_n 3, 1) := by decide +kernel
theorem dX12_ahead_56 : decode cX12_ahead 56 = .ok (.ifCond .ne 11, 3) := by decide +kernel
theorem dX12_ahead_59 : decode cX12_ahead 59 = .ok (.aload_n 0, 1) := by decide +kernel
theorem dX12_ahead_60 : decode cX12_ahead 60 = .ok (.iload_n 1, 1) := by decide +kernel
theorem dX12_ahead_61 : decode cX12_ahead 61 = .ok (.invokevirtual 301, 3) := by decide +kernel
theorem dX12_ahead_64 : decode cX12_ahead 64 = .ok (.goto 23, 3) := by decide +kernel
theorem dX12_ahead_67 : decode cX12_ahead 67 = .ok (.iload_n 3, 1) := by decide +kernel
theorem dX12_ahead_68 : decode cX12_ahead 68 = .ok (.iconst 1, 1) := by decide +kernel
theorem dX12_ahead_69 : decode cX12_ahead 69 = .ok (.if_icmp .ne 11, 3) := by decide +kernel
theorem dX12_ahead_72 : decode cX12_ahead 72 = .ok (.aload_n 0, 1) := by decide +kernel
theorem dX12_ahead_73 : decode cX12_ahead 73 = .ok (.iload_n 1, 1) := by decide +kernel
theorem dX12_ahead_74 : decode cX12_ahead 74 = .ok (.invokevirtual 289, 3) := by decide +kernel
theorem dX12_ahead_77 : decode cX12_ahead 77 = .ok (.goto 10, 3) := by decide +kernel
theorem dX12_ahead_80 : decode cX12_ahead 80 = .ok (.aload_n 0, 1) := by decide +kernel
theorem dX12_ahead_81 : decode cX12_ahead 81 = .ok (.getfield 39, 3) := by decide +kernel
theorem dX12_ahead_84 : decode cX12_ahead 84 = .ok (.bipush 11, 2) := by decide +kernel
theorem dX12_ahead_86 : decode cX12_ahead 86 = .ok (.iaload, 1) := by decide +kernel
theorem dX12_ahead_87 : decode cX12_ahead 87 = .ok (.istore 4, 2) := by decide +kernel
theorem dX12_ahead_89 : decode cX12_ahead 89 = .ok (.aload_n 0, 1) := by decide +kernel
theorem dX12_ahead_90 : decode cX12_ahead 90 = .ok (.invokevirtual 368, 3) := by decide +kernel
theorem dX12_ahead_93 : decode cX12_ahead 93 = .ok (.iload 4, 2) := by decide +kernel
theorem dX12_ahead_95 : decode cX12_ahead 95 = .ok (.ireturn, 1) := by decide +kernel
theorem dX12_best_0 : decode cX12_best 0 = .ok (.aload_n 0, 1) := by decide +kernel
theorem dX12_best_1 : decode cX12_best 1 = .ok (.invokevirtual 283, 3) := by decide +kernel
theorem dX12_best_4 : decode cX12_best 4 = .ok (.ifCond .eq 25, 3) := by decide +kernel
theorem dX12_best_7 : decode cX12_best 7 = .ok (.iload_n 1, 1) := by decide +kernel
theorem dX12_best_8 : decode cX12_best 8 = .ok (.i2l, 1) := by decide +kernel
theorem dX12_best_9 : decode cX12_best 9 = .ok (.lconst 1, 1) := by decide +kernel
theorem dX12_best_10 : decode cX12_best 10 = .ok (.ldc2_w 358, 3) := by decide +kernel
theorem dX12_best_13 : decode cX12_best 13 = .ok (.invokestatic 115, 3) := by decide +kernel
theorem dX12_best_16 : decode cX12_best 16 = .ok (.ifCond .eq 13, 3) := by decide +kernel
theorem dX12_best_19 : decode cX12_best 19 = .ok (.iload_n 2, 1) := by decide +kernel
theorem dX12_best_20 : decode cX12_best 20 = .ok (.i2l, 1) := by decide +kernel
theorem dX12_best_21 : decode cX12_best 21 = .ok (.lconst 0, 1) := by decide +kernel
theorem dX12_best_22 : decode cX12_best 22 = .ok (.lconst 1, 1) := by decide +kernel
theorem dX12_best_23 : decode cX12_best 23 = .ok (.invokestatic 115, 3) := by decide +kernel
theorem dX12_best_26 : decode cX12_best 26 = .ok (.ifCond .ne 6, 3) := by decide +kernel
theorem dX12_best_29 : decode cX12_best 29 = .ok (.bipush (-2), 2) := by decide +kernel
theorem dX12_best_31 : decode cX12_best 31 = .ok (.ireturn, 1) := by decide +kernel
theorem dX12_best_32 : decode cX12_best 32 = .ok (.aload_n 0, 1) := by decide +kernel
theorem dX12_best_33 : decode cX12_best 33 = .ok (.invokevirtual 362, 3) := by decide +kernel
theorem dX12_best_36 : decode cX12_best 36 = .ok (.iconst (-1), 1) := by decide +kernel
theorem dX12_best_37 : decode cX12_best 37 = .ok (.istore_n 3, 1) := by decide +kernel
theorem dX12_best_38 : decode cX12_best 38 = .ok (.aload_n 0, 1) := by decide +kernel
theorem dX12_best_39 : decode cX12_best 39 = .ok (.iload_n 1, 1) := by decide +kernel
theorem dX12_best_40 : decode cX12_best 40 = .ok (.invokevirtual 383, 3) := by decide +kernel
theorem dX12_best_43 : decode cX12_best 43 = .ok (.istore 4, 2) := by decide +kernel
theorem dX12_best_45 : decode cX12_best 45 = .ok (.iconst 0, 1) := by decide +kernel
theorem dX12_best_46 : decode cX12_best 46 = .ok (.istore 5, 2) := by decide +kernel
theorem dX12_best_48 : decode cX12_best 48 = .ok (.iload 5, 2) := by decide +kernel
theorem dX12_best_50 : decode cX12_best 50 = .ok (.aload_n 0, 1) := by decide +kernel
theorem dX12_best_51 : decode cX12_best 51 = .ok (.getfield 39, 3) := by decide +kernel
theorem dX12_best_54 : decode cX12_best 54 = .ok (.iconst 2, 1) := by decide +kernel
theorem dX12_best_55 : decode cX12_best 55 = .ok (.iaload, 1) := by decide +kernel
theorem dX12_best_56 : decode cX12_best 56 = .ok (.if_icmp .ge 41, 3) := by decide +kernel
theorem dX12_best_59 : decode cX12_best 59 = .ok (.aload_n 0, 1) := by decide +kernel
theorem dX12_best_60 : decode cX12_best 60 = .ok (.iconst 1, 1) := by decide +kernel
theorem dX12_best_61 : decode cX12_best 61 = .ok (.iload 5, 2) := by decide +kernel
theorem dX12_best_63 : decode cX12_best 63 = .ok (.ishl, 1) := by decide +kernel
theorem dX12_best_64 : decode cX12_best 64 = .ok (.putfield 324, 3) := by decide +kernel
theorem dX12_best_67 : decode cX12_best 67 = .ok (.aload_n 0, 1) := by decide +kernel
theorem dX12_best_68 : decode cX12_best 68 = .ok (.iload_n 1, 1) := by decide +kernel
theorem dX12_best_69 : decode cX12_best 69 = .ok (.invokevirtual 383, 3) := by decide +kernel
theorem dX12_best_72 : decode cX12_best 72 = .ok (.istore 6, 2) := by decide +kernel
theorem dX12_best_74 : decode cX12_best 74 = .ok (.iload 6, 2) := by decide +kernel
theorem dX12_best_76 : decode cX12_best 76 = .ok (.iload 4, 2) := by decide +kernel
theorem dX12_best_78 : decode cX12_best 78 = .ok (.if_icmp .lt 6, 3) := by decide +kernel
theorem dX12_best_81 : decode cX12_best 81 = .ok (.goto 10, 3) := by decide +kernel
theorem dX12_best_84 : decode cX12_best 84 = .ok (.iload 5, 2) := by decide +kernel
theorem dX12_best_86 : decode cX12_best 86 = .ok (.istore_n 3, 1) := by decide +kernel
theorem dX12_best_87 : decode cX12_best 87 = .ok (.iload 6, 2) := by decide +kernel
theorem dX12_best_89 : decode cX12_best 89 = .ok (.istore 4, 2) := by decide +kernel
theorem dX12_best_91 : decode cX12_best 91 = .ok (.iinc 5 1, 3) := by decide +kernel
theorem dX12_best_94 : decode cX12_best 94 = .ok (.goto (-46), 3) := by decide +kernel
theorem dX12_best_97 : decode cX12_best 97 = .ok (.aload_n 0, 1) := by decide +kernel
theorem dX12_best_98 : decode cX12_best 98 = .ok (.iconst 0, 1) := by decide +kernel
theorem dX12_best_99 : decode cX12_best 99 = .ok (.putfield 324, 3) := by decide +kernel
theorem dX12_best_102 : decode cX12_best 102 = .ok (.iload_n 2, 1) := by decide +kernel
theorem dX12_best_103 : decode cX12_best 103 = .ok (.ifCond .ne 7, 3) := by decide +kernel
theorem dX12_best_106 : decode cX12_best 106 = .ok (.iload_n 3, 1) := by decide +kernel
theorem dX12_best_107 : decode cX12_best 107 = .ok (.goto 5, 3) := by decide +kernel
theorem dX12_best_110 : decode cX12_best 110 = .ok (.iload 4, 2) := by decide +kernel
theorem dX12_best_112 : decode cX12_best 112 = .ok (.ireturn, 1) := by decide +kernel
theorem dX12_buys_0 : decode cX12_buys 0 = .ok (.aload_n 0, 1) := by decide +kernel
theorem dX12_buys_1 : decode cX12_buys 1 = .ok (.iload_n 1, 1) := by decide +kernel
theorem dX12_buys_2 : decode cX12_buys 2 = .ok (.invokevirtual 298, 3) := by decide +kernel
theorem dX12_buys_5 : decode cX12_buys 5 = .ok (.ifCond .ne 5, 3) := by decide +kernel
theorem dX12_buys_8 : decode cX12_buys 8 = .ok (.iconst (-1), 1) := by decide +kernel
theorem dX12_buys_9 : decode cX12_buys 9 = .ok (.ireturn, 1) := by decide +kernel
theorem dX12_buys_10 : decode cX12_buys 10 = .ok (.aload_n 0, 1) := by decide +kernel
theorem dX12_buys_11 : decode cX12_buys 11 = .ok (.invokevirtual 362, 3) := by decide +kernel
theorem dX12_buys_14 : decode cX12_buys 14 = .ok (.aload_n 0, 1) := by decide +kernel
theorem dX12_buys_15 : decode cX12_buys 15 = .ok (.iload_n 1, 1) := by decide +kernel
theorem dX12_buys_16 : decode cX12_buys 16 = .ok (.sipush 200, 3) := by decide +kernel
theorem dX12_buys_19 : decode cX12_buys 19 = .ok (.invokevirtual 371, 3) := by decide +kernel
theorem dX12_buys_22 : decode cX12_buys 22 = .ok (.ireturn, 1) := by decide +kernel
theorem dX12_buysIn_0 : decode cX12_buysIn 0 = .ok (.bipush (-2), 2) := by decide +kernel
theorem dX12_buysIn_2 : decode cX12_buysIn 2 = .ok (.istore_n 3, 1) := by decide +kernel
theorem dX12_buysIn_3 : decode cX12_buysIn 3 = .ok (.iconst 0, 1) := by decide +kernel
theorem dX12_buysIn_4 : decode cX12_buysIn 4 = .ok (.istore 4, 2) := by decide +kernel
theorem dX12_buysIn_6 : decode cX12_buysIn 6 = .ok (.iload 4, 2) := by decide +kernel
theorem dX12_buysIn_8 : decode cX12_buysIn 8 = .ok (.iload_n 2, 1) := by decide +kernel
theorem dX12_buysIn_9 : decode cX12_buysIn 9 = .ok (.if_icmp .ge 34, 3) := by decide +kernel
theorem dX12_buysIn_12 : decode cX12_buysIn 12 = .ok (.iload_n 3, 1) := by decide +kernel
theorem dX12_buysIn_13 : decode cX12_buysIn 13 = .ok (.ifCond .ge 30, 3) := by decide +kernel
theorem dX12_buysIn_16 : decode cX12_buysIn 16 = .ok (.aload_n 0, 1) := by decide +kernel
theorem dX12_buysIn_17 : decode cX12_buysIn 17 = .ok (.invokevirtual 348, 3) := by decide +kernel
theorem dX12_buysIn_20 : decode cX12_buysIn 20 = .ok (.iload_n 1, 1) := by decide +kernel
theorem dX12_buysIn_21 : decode cX12_buysIn 21 = .ok (.invokestatic 327, 3) := by decide +kernel
theorem dX12_buysIn_24 : decode cX12_buysIn 24 = .ok (.ifCond .eq 13, 3) := by decide +kernel
theorem dX12_buysIn_27 : decode cX12_buysIn 27 = .ok (.aload_n 0, 1) := by decide +kernel
theorem dX12_buysIn_28 : decode cX12_buysIn 28 = .ok (.getfield 39, 3) := by decide +kernel
theorem dX12_buysIn_31 : decode cX12_buysIn 31 = .ok (.bipush 10, 2) := by decide +kernel
theorem dX12_buysIn_33 : decode cX12_buysIn 33 = .ok (.iaload, 1) := by decide +kernel
theorem dX12_buysIn_34 : decode cX12_buysIn 34 = .ok (.iconst 1, 1) := by decide +kernel
theorem dX12_buysIn_35 : decode cX12_buysIn 35 = .ok (.isub, 1) := by decide +kernel
theorem dX12_buysIn_36 : decode cX12_buysIn 36 = .ok (.istore_n 3, 1) := by decide +kernel
theorem dX12_buysIn_37 : decode cX12_buysIn 37 = .ok (.iinc 4 1, 3) := by decide +kernel
theorem dX12_buysIn_40 : decode cX12_buysIn 40 = .ok (.goto (-34), 3) := by decide +kernel
theorem dX12_buysIn_43 : decode cX12_buysIn 43 = .ok (.aload_n 0, 1) := by decide +kernel
theorem dX12_buysIn_44 : decode cX12_buysIn 44 = .ok (.invokevirtual 368, 3) := by decide +kernel
theorem dX12_buysIn_47 : decode cX12_buysIn 47 = .ok (.iload_n 3, 1) := by decide +kernel
theorem dX12_buysIn_48 : decode cX12_buysIn 48 = .ok (.ireturn, 1) := by decide +kernel
theorem dX12_common_0 : decode cX12_common 0 = .ok (.iload_n 0, 1) := by decide +kernel
theorem dX12_common_1 : decode cX12_common 1 = .ok (.istore_n 2, 1) := by decide +kernel
theorem dX12_common_2 : decode cX12_common 2 = .ok (.iload_n 1, 1) := by decide +kernel
theorem dX12_common_3 : decode cX12_common 3 = .ok (.istore_n 3, 1) := by decide +kernel
theorem dX12_common_4 : decode cX12_common 4 = .ok (.iload_n 3, 1) := by decide +kernel
theorem dX12_common_5 : decode cX12_common 5 = .ok (.ifCond .eq 16, 3) := by decide +kernel
theorem dX12_common_8 : decode cX12_common 8 = .ok (.iload_n 2, 1) := by decide +kernel
theorem dX12_common_9 : decode cX12_common 9 = .ok (.iload_n 3, 1) := by decide +kernel
theorem dX12_common_10 : decode cX12_common 10 = .ok (.irem, 1) := by decide +kernel
theorem dX12_common_11 : decode cX12_common 11 = .ok (.istore 4, 2) := by decide +kernel
theorem dX12_common_13 : decode cX12_common 13 = .ok (.iload_n 3, 1) := by decide +kernel
theorem dX12_common_14 : decode cX12_common 14 = .ok (.istore_n 2, 1) := by decide +kernel
theorem dX12_common_15 : decode cX12_common 15 = .ok (.iload 4, 2) := by decide +kernel
theorem dX12_common_17 : decode cX12_common 17 = .ok (.istore_n 3, 1) := by decide +kernel
theorem dX12_common_18 : decode cX12_common 18 = .ok (.goto (-14), 3) := by decide +kernel
theorem dX12_common_21 : decode cX12_common 21 = .ok (.iload_n 2, 1) := by decide +kernel
theorem dX12_common_22 : decode cX12_common 22 = .ok (.ireturn, 1) := by decide +kernel
theorem dX12_empty_0 : decode cX12_empty 0 = .ok (.aload_n 0, 1) := by decide +kernel
theorem dX12_empty_1 : decode cX12_empty 1 = .ok (.invokevirtual 283, 3) := by decide +kernel
theorem dX12_empty_4 : decode cX12_empty 4 = .ok (.ifCond .ne 5, 3) := by decide +kernel
theorem dX12_empty_7 : decode cX12_empty 7 = .ok (.iconst (-1), 1) := by decide +kernel
theorem dX12_empty_8 : decode cX12_empty 8 = .ok (.ireturn, 1) := by decide +kernel
theorem dX12_empty_9 : decode cX12_empty 9 = .ok (.bipush (-2), 2) := by decide +kernel
theorem dX12_empty_11 : decode cX12_empty 11 = .ok (.istore_n 1, 1) := by decide +kernel
theorem dX12_empty_12 : decode cX12_empty 12 = .ok (.aload_n 0, 1) := by decide +kernel
theorem dX12_empty_13 : decode cX12_empty 13 = .ok (.invokevirtual 362, 3) := by decide +kernel
theorem dX12_empty_16 : decode cX12_empty 16 = .ok (.iconst 0, 1) := by decide +kernel
theorem dX12_empty_17 : decode cX12_empty 17 = .ok (.istore_n 2, 1) := by decide +kernel
theorem dX12_empty_18 : decode cX12_empty 18 = .ok (.iload_n 2, 1) := by decide +kernel
theorem dX12_empty_19 : decode cX12_empty 19 = .ok (.sipush 200, 3) := by decide +kernel
theorem dX12_empty_22 : decode cX12_empty 22 = .ok (.if_icmp .ge 36, 3) := by decide +kernel
theorem dX12_empty_25 : decode cX12_empty 25 = .ok (.iload_n 1, 1) := by decide +kernel
theorem dX12_empty_26 : decode cX12_empty 26 = .ok (.ifCond .ge 32, 3) := by decide +kernel
theorem dX12_empty_29 : decode cX12_empty 29 = .ok (.aload_n 0, 1) := by decide +kernel
theorem dX12_empty_30 : decode cX12_empty 30 = .ok (.getfield 39, 3) := by decide +kernel
theorem dX12_empty_33 : decode cX12_empty 33 = .ok (.bipush 11, 2) := by decide +kernel
theorem dX12_empty_35 : decode cX12_empty 35 = .ok (.iaload, 1) := by decide +kernel
theorem dX12_empty_36 : decode cX12_empty 36 = .ok (.ifCond .ne 11, 3) := by decide +kernel
theorem dX12_empty_39 : decode cX12_empty 39 = .ok (.aload_n 0, 1) := by decide +kernel
theorem dX12_empty_40 : decode cX12_empty 40 = .ok (.getfield 39, 3) := by decide +kernel
theorem dX12_empty_43 : decode cX12_empty 43 = .ok (.bipush 10, 2) := by decide +kernel
theorem dX12_empty_45 : decode cX12_empty 45 = .ok (.iaload, 1) := by decide +kernel
theorem dX12_empty_46 : decode cX12_empty 46 = .ok (.istore_n 1, 1) := by decide +kernel
theorem dX12_empty_47 : decode cX12_empty 47 = .ok (.aload_n 0, 1) := by decide +kernel
theorem dX12_empty_48 : decode cX12_empty 48 = .ok (.invokevirtual 348, 3) := by decide +kernel
theorem dX12_empty_51 : decode cX12_empty 51 = .ok (.pop, 1) := by decide +kernel
theorem dX12_empty_52 : decode cX12_empty 52 = .ok (.iinc 2 1, 3) := by decide +kernel
theorem dX12_empty_55 : decode cX12_empty 55 = .ok (.goto (-37), 3) := by decide +kernel
theorem dX12_empty_58 : decode cX12_empty 58 = .ok (.aload_n 0, 1) := by decide +kernel
theorem dX12_empty_59 : decode cX12_empty 59 = .ok (.invokevirtual 368, 3) := by decide +kernel
theorem dX12_empty_62 : decode cX12_empty 62 = .ok (.iload_n 1, 1) := by decide +kernel
theorem dX12_empty_63 : decode cX12_empty 63 = .ok (.ireturn, 1) := by decide +kernel
theorem dX12_guard_0 : decode cX12_guard 0 = .ok (.aload_n 0, 1) := by decide +kernel
theorem dX12_guard_1 : decode cX12_guard 1 = .ok (.invokevirtual 283, 3) := by decide +kernel
theorem dX12_guard_4 : decode cX12_guard 4 = .ok (.ifCond .eq 25, 3) := by decide +kernel
theorem dX12_guard_7 : decode cX12_guard 7 = .ok (.iload_n 1, 1) := by decide +kernel
theorem dX12_guard_8 : decode cX12_guard 8 = .ok (.i2l, 1) := by decide +kernel
theorem dX12_guard_9 : decode cX12_guard 9 = .ok (.lconst 1, 1) := by decide +kernel
theorem dX12_guard_10 : decode cX12_guard 10 = .ok (.ldc2_w 381, 3) := by decide +kernel
theorem dX12_guard_13 : decode cX12_guard 13 = .ok (.invokestatic 115, 3) := by decide +kernel
theorem dX12_guard_16 : decode cX12_guard 16 = .ok (.ifCond .eq 13, 3) := by decide +kernel
theorem dX12_guard_19 : decode cX12_guard 19 = .ok (.iload_n 2, 1) := by decide +kernel
theorem dX12_guard_20 : decode cX12_guard 20 = .ok (.i2l, 1) := by decide +kernel
theorem dX12_guard_21 : decode cX12_guard 21 = .ok (.lconst 0, 1) := by decide +kernel
theorem dX12_guard_22 : decode cX12_guard 22 = .ok (.lconst 1, 1) := by decide +kernel
theorem dX12_guard_23 : decode cX12_guard 23 = .ok (.invokestatic 115, 3) := by decide +kernel
theorem dX12_guard_26 : decode cX12_guard 26 = .ok (.ifCond .ne 5, 3) := by decide +kernel
theorem dX12_guard_29 : decode cX12_guard 29 = .ok (.iconst (-1), 1) := by decide +kernel
theorem dX12_guard_30 : decode cX12_guard 30 = .ok (.ireturn, 1) := by decide +kernel
theorem dX12_guard_31 : decode cX12_guard 31 = .ok (.iconst (-1), 1) := by decide +kernel
theorem dX12_guard_32 : decode cX12_guard 32 = .ok (.istore_n 3, 1) := by decide +kernel
theorem dX12_guard_33 : decode cX12_guard 33 = .ok (.aload_n 0, 1) := by decide +kernel
theorem dX12_guard_34 : decode cX12_guard 34 = .ok (.invokevirtual 362, 3) := by decide +kernel
theorem dX12_guard_37 : decode cX12_guard 37 = .ok (.iconst 0, 1) := by decide +kernel
theorem dX12_guard_38 : decode cX12_guard 38 = .ok (.istore 4, 2) := by decide +kernel
theorem dX12_guard_40 : decode cX12_guard 40 = .ok (.iload 4, 2) := by decide +kernel
theorem dX12_guard_42 : decode cX12_guard 42 = .ok (.iconst 1, 1) := by decide +kernel
theorem dX12_guard_43 : decode cX12_guard 43 = .ok (.aload_n 0, 1) := by decide +kernel
theorem dX12_guard_44 : decode cX12_guard 44 = .ok (.getfield 39, 3) := by decide +kernel
theorem dX12_guard_47 : decode cX12_guard 47 = .ok (.iconst 2, 1) := by decide +kernel
theorem dX12_guard_48 : decode cX12_guard 48 = .ok (.iaload, 1) := by decide +kernel
theorem dX12_guard_49 : decode cX12_guard 49 = .ok (.ishl, 1) := by decide +kernel
theorem dX12_guard_50 : decode cX12_guard 50 = .ok (.if_icmp .ge 45, 3) := by decide +kernel
theorem dX12_guard_53 : decode cX12_guard 53 = .ok (.iload_n 3, 1) := by decide +kernel
theorem dX12_guard_54 : decode cX12_guard 54 = .ok (.ifCond .lt 18, 3) := by decide +kernel
theorem dX12_guard_57 : decode cX12_guard 57 = .ok (.iload 4, 2) := by decide +kernel
theorem dX12_guard_59 : decode cX12_guard 59 = .ok (.invokestatic 375, 3) := by decide +kernel
theorem dX12_guard_62 : decode cX12_guard 62 = .ok (.iload_n 3, 1) := by decide +kernel
theorem dX12_guard_63 : decode cX12_guard 63 = .ok (.invokestatic 375, 3) := by decide +kernel
theorem dX12_guard_66 : decode cX12_guard 66 = .ok (.if_icmp .lt 6, 3) := by decide +kernel
theorem dX12_guard_69 : decode cX12_guard 69 = .ok (.goto 20, 3) := by decide +kernel
theorem dX12_guard_72 : decode cX12_guard 72 = .ok (.aload_n 0, 1) := by decide +kernel
theorem dX12_guard_73 : decode cX12_guard 73 = .ok (.iload 4, 2) := by decide +kernel
theorem dX12_guard_75 : decode cX12_guard 75 = .ok (.putfield 324, 3) := by decide +kernel
theorem dX12_guard_78 : decode cX12_guard 78 = .ok (.aload_n 0, 1) := by decide +kernel
theorem dX12_guard_79 : decode cX12_guard 79 = .ok (.iload_n 1, 1) := by decide +kernel
theorem dX12_guard_80 : decode cX12_guard 80 = .ok (.invokevirtual 383, 3) := by decide +kernel
theorem dX12_guard_83 : decode cX12_guard 83 = .ok (.ifCond .ne 6, 3) := by decide +kernel
theorem dX12_guard_86 : decode cX12_guard 86 = .ok (.iload 4, 2) := by decide +kernel
theorem dX12_guard_88 : decode cX12_guard 88 = .ok (.istore_n 3, 1) := by decide +kernel
theorem dX12_guard_89 : decode cX12_guard 89 = .ok (.iinc 4 1, 3) := by decide +kernel
theorem dX12_guard_92 : decode cX12_guard 92 = .ok (.goto (-52), 3) := by decide +kernel
theorem dX12_guard_95 : decode cX12_guard 95 = .ok (.aload_n 0, 1) := by decide +kernel
theorem dX12_guard_96 : decode cX12_guard 96 = .ok (.iconst 0, 1) := by decide +kernel
theorem dX12_guard_97 : decode cX12_guard 97 = .ok (.putfield 324, 3) := by decide +kernel
theorem dX12_guard_100 : decode cX12_guard 100 = .ok (.iload_n 2, 1) := by decide +kernel
theorem dX12_guard_101 : decode cX12_guard 101 = .ok (.ifCond .ne 10, 3) := by decide +kernel
theorem dX12_guard_104 : decode cX12_guard 104 = .ok (.iload_n 3, 1) := by decide +kernel
theorem dX12_guard_105 : decode cX12_guard 105 = .ok (.invokestatic 375, 3) := by decide +kernel
theorem dX12_guard_108 : decode cX12_guard 108 = .ok (.goto 4, 3) := by decide +kernel
theorem dX12_guard_111 : decode cX12_guard 111 = .ok (.iload_n 3, 1) := by decide +kernel
theorem dX12_guard_112 : decode cX12_guard 112 = .ok (.ireturn, 1) := by decide +kernel
theorem dX12_least_0 : decode cX12_least 0 = .ok (.aload_n 0, 1) := by decide +kernel
theorem dX12_least_1 : decode cX12_least 1 = .ok (.iload_n 1, 1) := by decide +kernel
theorem dX12_least_2 : decode cX12_least 2 = .ok (.invokevirtual 298, 3) := by decide +kernel
theorem dX12_least_5 : decode cX12_least 5 = .ok (.ifCond .eq 15, 3) := by decide +kernel
theorem dX12_least_8 : decode cX12_least 8 = .ok (.iload_n 2, 1) := by decide +kernel
theorem dX12_least_9 : decode cX12_least 9 = .ok (.i2l, 1) := by decide +kernel
theorem dX12_least_10 : decode cX12_least 10 = .ok (.lconst 1, 1) := by decide +kernel
theorem dX12_least_11 : decode cX12_least 11 = .ok (.ldc2_w 386, 3) := by decide +kernel
theorem dX12_least_14 : decode cX12_least 14 = .ok (.invokestatic 115, 3) := by decide +kernel
theorem dX12_least_17 : decode cX12_least 17 = .ok (.ifCond .ne 5, 3) := by decide +kernel
theorem dX12_least_20 : decode cX12_least 20 = .ok (.iconst (-1), 1) := by decide +kernel
theorem dX12_least_21 : decode cX12_least 21 = .ok (.ireturn, 1) := by decide +kernel
theorem dX12_least_22 : decode cX12_least 22 = .ok (.bipush (-2), 2) := by decide +kernel
theorem dX12_least_24 : decode cX12_least 24 = .ok (.istore_n 3, 1) := by decide +kernel
theorem dX12_least_25 : decode cX12_least 25 = .ok (.aload_n 0, 1) := by decide +kernel
theorem dX12_least_26 : decode cX12_least 26 = .ok (.invokevirtual 362, 3) := by decide +kernel
theorem dX12_least_29 : decode cX12_least 29 = .ok (.iconst 0, 1) := by decide +kernel
theorem dX12_least_30 : decode cX12_least 30 = .ok (.istore 4, 2) := by decide +kernel
theorem dX12_least_32 : decode cX12_least 32 = .ok (.iload 4, 2) := by decide +kernel
theorem dX12_least_34 : decode cX12_least 34 = .ok (.bipush 20, 2) := by decide +kernel
theorem dX12_least_36 : decode cX12_least 36 = .ok (.if_icmp .gt 38, 3) := by decide +kernel
theorem dX12_least_39 : decode cX12_least 39 = .ok (.iload_n 3, 1) := by decide +kernel
theorem dX12_least_40 : decode cX12_least 40 = .ok (.ifCond .ge 34, 3) := by decide +kernel
theorem dX12_least_43 : decode cX12_least 43 = .ok (.aload_n 0, 1) := by decide +kernel
theorem dX12_least_44 : decode cX12_least 44 = .ok (.getfield 39, 3) := by decide +kernel
theorem dX12_least_47 : decode cX12_least 47 = .ok (.bipush 12, 2) := by decide +kernel
theorem dX12_least_49 : decode cX12_least 49 = .ok (.iconst 4, 1) := by decide +kernel
theorem dX12_least_50 : decode cX12_least 50 = .ok (.iload_n 1, 1) := by decide +kernel
theorem dX12_least_51 : decode cX12_least 51 = .ok (.imul, 1) := by decide +kernel
theorem dX12_least_52 : decode cX12_least 52 = .ok (.iadd, 1) := by decide +kernel
theorem dX12_least_53 : decode cX12_least 53 = .ok (.iload 4, 2) := by decide +kernel
theorem dX12_least_55 : decode cX12_least 55 = .ok (.iastore, 1) := by decide +kernel
theorem dX12_least_56 : decode cX12_least 56 = .ok (.aload_n 0, 1) := by decide +kernel
theorem dX12_least_57 : decode cX12_least 57 = .ok (.iload_n 1, 1) := by decide +kernel
theorem dX12_least_58 : decode cX12_least 58 = .ok (.iload_n 2, 1) := by decide +kernel
theorem dX12_least_59 : decode cX12_least 59 = .ok (.invokevirtual 371, 3) := by decide +kernel
theorem dX12_least_62 : decode cX12_least 62 = .ok (.ifCond .lt 6, 3) := by decide +kernel
theorem dX12_least_65 : decode cX12_least 65 = .ok (.iload 4, 2) := by decide +kernel
theorem dX12_least_67 : decode cX12_least 67 = .ok (.istore_n 3, 1) := by decide +kernel
theorem dX12_least_68 : decode cX12_least 68 = .ok (.iinc 4 1, 3) := by decide +kernel
theorem dX12_least_71 : decode cX12_least 71 = .ok (.goto (-39), 3) := by decide +kernel
theorem dX12_least_74 : decode cX12_least 74 = .ok (.iload_n 3, 1) := by decide +kernel
theorem dX12_least_75 : decode cX12_least 75 = .ok (.ireturn, 1) := by decide +kernel
theorem dX12_soldIn_0 : decode cX12_soldIn 0 = .ok (.aload_n 0, 1) := by decide +kernel
theorem dX12_soldIn_1 : decode cX12_soldIn 1 = .ok (.invokevirtual 317, 3) := by decide +kernel
theorem dX12_soldIn_4 : decode cX12_soldIn 4 = .ok (.istore_n 2, 1) := by decide +kernel
theorem dX12_soldIn_5 : decode cX12_soldIn 5 = .ok (.aload_n 0, 1) := by decide +kernel
theorem dX12_soldIn_6 : decode cX12_soldIn 6 = .ok (.iload_n 1, 1) := by decide +kernel
theorem dX12_soldIn_7 : decode cX12_soldIn 7 = .ok (.invokevirtual 365, 3) := by decide +kernel
theorem dX12_soldIn_10 : decode cX12_soldIn 10 = .ok (.aload_n 0, 1) := by decide +kernel
theorem dX12_soldIn_11 : decode cX12_soldIn 11 = .ok (.invokevirtual 317, 3) := by decide +kernel
theorem dX12_soldIn_14 : decode cX12_soldIn 14 = .ok (.iload_n 2, 1) := by decide +kernel
theorem dX12_soldIn_15 : decode cX12_soldIn 15 = .ok (.isub, 1) := by decide +kernel
theorem dX12_soldIn_16 : decode cX12_soldIn 16 = .ok (.istore_n 3, 1) := by decide +kernel
theorem dX12_soldIn_17 : decode cX12_soldIn 17 = .ok (.aload_n 0, 1) := by decide +kernel
theorem dX12_soldIn_18 : decode cX12_soldIn 18 = .ok (.invokevirtual 368, 3) := by decide +kernel
theorem dX12_soldIn_21 : decode cX12_soldIn 21 = .ok (.iload_n 3, 1) := by decide +kernel
theorem dX12_soldIn_22 : decode cX12_soldIn 22 = .ok (.ireturn, 1) := by decide +kernel
theorem dX12_soothe_0 : decode cX12_soothe 0 = .ok (.aload_n 0, 1) := by decide +kernel
theorem dX12_soothe_1 : decode cX12_soothe 1 = .ok (.invokevirtual 283, 3) := by decide +kernel
theorem dX12_soothe_4 : decode cX12_soothe 4 = .ok (.ifCond .eq 25, 3) := by decide +kernel
theorem dX12_soothe_7 : decode cX12_soothe 7 = .ok (.iload_n 1, 1) := by decide +kernel
theorem dX12_soothe_8 : decode cX12_soothe 8 = .ok (.i2l, 1) := by decide +kernel
theorem dX12_soothe_9 : decode cX12_soothe 9 = .ok (.lconst 1, 1) := by decide +kernel
theorem dX12_soothe_10 : decode cX12_soothe 10 = .ok (.ldc2_w 386, 3) := by decide +kernel
theorem dX12_soothe_13 : decode cX12_soothe 13 = .ok (.invokestatic 115, 3) := by decide +kernel
theorem dX12_soothe_16 : decode cX12_soothe 16 = .ok (.ifCond .eq 13, 3) := by decide +kernel
theorem dX12_soothe_19 : decode cX12_soothe 19 = .ok (.iload_n 2, 1) := by decide +kernel
theorem dX12_soothe_20 : decode cX12_soothe 20 = .ok (.i2l, 1) := by decide +kernel
theorem dX12_soothe_21 : decode cX12_soothe 21 = .ok (.lconst 0, 1) := by decide +kernel
theorem dX12_soothe_22 : decode cX12_soothe 22 = .ok (.lconst 1, 1) := by decide +kernel
theorem dX12_soothe_23 : decode cX12_soothe 23 = .ok (.invokestatic 115, 3) := by decide +kernel
theorem dX12_soothe_26 : decode cX12_soothe 26 = .ok (.ifCond .ne 6, 3) := by decide +kernel
theorem dX12_soothe_29 : decode cX12_soothe 29 = .ok (.bipush (-2), 2) := by decide +kernel
theorem dX12_soothe_31 : decode cX12_soothe 31 = .ok (.ireturn, 1) := by decide +kernel
theorem dX12_soothe_32 : decode cX12_soothe 32 = .ok (.aload_n 0, 1) := by decide +kernel
theorem dX12_soothe_33 : decode cX12_soothe 33 = .ok (.invokevirtual 362, 3) := by decide +kernel
theorem dX12_soothe_36 : decode cX12_soothe 36 = .ok (.iconst (-1), 1) := by decide +kernel
theorem dX12_soothe_37 : decode cX12_soothe 37 = .ok (.istore_n 3, 1) := by decide +kernel
theorem dX12_soothe_38 : decode cX12_soothe 38 = .ok (.aload_n 0, 1) := by decide +kernel
theorem dX12_soothe_39 : decode cX12_soothe 39 = .ok (.iload_n 1, 1) := by decide +kernel
theorem dX12_soothe_40 : decode cX12_soothe 40 = .ok (.invokevirtual 383, 3) := by decide +kernel
theorem dX12_soothe_43 : decode cX12_soothe 43 = .ok (.istore 4, 2) := by decide +kernel
theorem dX12_soothe_45 : decode cX12_soothe 45 = .ok (.iconst 0, 1) := by decide +kernel
theorem dX12_soothe_46 : decode cX12_soothe 46 = .ok (.istore 5, 2) := by decide +kernel
theorem dX12_soothe_48 : decode cX12_soothe 48 = .ok (.iload 5, 2) := by decide +kernel
theorem dX12_soothe_50 : decode cX12_soothe 50 = .ok (.aload_n 0, 1) := by decide +kernel
theorem dX12_soothe_51 : decode cX12_soothe 51 = .ok (.getfield 39, 3) := by decide +kernel
theorem dX12_soothe_54 : decode cX12_soothe 54 = .ok (.iconst 3, 1) := by decide +kernel
theorem dX12_soothe_55 : decode cX12_soothe 55 = .ok (.iaload, 1) := by decide +kernel
theorem dX12_soothe_56 : decode cX12_soothe 56 = .ok (.if_icmp .ge 46, 3) := by decide +kernel
theorem dX12_soothe_59 : decode cX12_soothe 59 = .ok (.aload_n 0, 1) := by decide +kernel
theorem dX12_soothe_60 : decode cX12_soothe 60 = .ok (.getfield 39, 3) := by decide +kernel
theorem dX12_soothe_63 : decode cX12_soothe 63 = .ok (.bipush 12, 2) := by decide +kernel
theorem dX12_soothe_65 : decode cX12_soothe 65 = .ok (.iconst 4, 1) := by decide +kernel
theorem dX12_soothe_66 : decode cX12_soothe 66 = .ok (.iload 5, 2) := by decide +kernel
theorem dX12_soothe_68 : decode cX12_soothe 68 = .ok (.imul, 1) := by decide +kernel
theorem dX12_soothe_69 : decode cX12_soothe 69 = .ok (.iadd, 1) := by decide +kernel
theorem dX12_soothe_70 : decode cX12_soothe 70 = .ok (.iconst 0, 1) := by decide +kernel
theorem dX12_soothe_71 : decode cX12_soothe 71 = .ok (.iastore, 1) := by decide +kernel
theorem dX12_soothe_72 : decode cX12_soothe 72 = .ok (.aload_n 0, 1) := by decide +kernel
theorem dX12_soothe_73 : decode cX12_soothe 73 = .ok (.iload_n 1, 1) := by decide +kernel
theorem dX12_soothe_74 : decode cX12_soothe 74 = .ok (.invokevirtual 383, 3) := by decide +kernel
theorem dX12_soothe_77 : decode cX12_soothe 77 = .ok (.istore 6, 2) := by decide +kernel
theorem dX12_soothe_79 : decode cX12_soothe 79 = .ok (.iload 6, 2) := by decide +kernel
theorem dX12_soothe_81 : decode cX12_soothe 81 = .ok (.iload 4, 2) := by decide +kernel
theorem dX12_soothe_83 : decode cX12_soothe 83 = .ok (.if_icmp .lt 6, 3) := by decide +kernel
theorem dX12_soothe_86 : decode cX12_soothe 86 = .ok (.goto 10, 3) := by decide +kernel
theorem dX12_soothe_89 : decode cX12_soothe 89 = .ok (.iload 5, 2) := by decide +kernel
theorem dX12_soothe_91 : decode cX12_soothe 91 = .ok (.istore_n 3, 1) := by decide +kernel
theorem dX12_soothe_92 : decode cX12_soothe 92 = .ok (.iload 6, 2) := by decide +kernel
theorem dX12_soothe_94 : decode cX12_soothe 94 = .ok (.istore 4, 2) := by decide +kernel
theorem dX12_soothe_96 : decode cX12_soothe 96 = .ok (.iinc 5 1, 3) := by decide +kernel
theorem dX12_soothe_99 : decode cX12_soothe 99 = .ok (.goto (-51), 3) := by decide +kernel
theorem dX12_soothe_102 : decode cX12_soothe 102 = .ok (.iload_n 2, 1) := by decide +kernel
theorem dX12_soothe_103 : decode cX12_soothe 103 = .ok (.ifCond .ne 7, 3) := by decide +kernel
theorem dX12_soothe_106 : decode cX12_soothe 106 = .ok (.iload_n 3, 1) := by decide +kernel
theorem dX12_soothe_107 : decode cX12_soothe 107 = .ok (.goto 5, 3) := by decide +kernel
theorem dX12_soothe_110 : decode cX12_soothe 110 = .ok (.iload 4, 2) := by decide +kernel
theorem dX12_soothe_112 : decode cX12_soothe 112 = .ok (.ireturn, 1) := by decide +kernel
theorem dX12_tells_0 : decode cX12_tells 0 = .ok (.aload_n 0, 1) := by decide +kernel
theorem dX12_tells_1 : decode cX12_tells 1 = .ok (.invokevirtual 283, 3) := by decide +kernel
theorem dX12_tells_4 : decode cX12_tells 4 = .ok (.ifCond .eq 25, 3) := by decide +kernel
theorem dX12_tells_7 : decode cX12_tells 7 = .ok (.iload_n 1, 1) := by decide +kernel
theorem dX12_tells_8 : decode cX12_tells 8 = .ok (.i2l, 1) := by decide +kernel
theorem dX12_tells_9 : decode cX12_tells 9 = .ok (.lconst 1, 1) := by decide +kernel
theorem dX12_tells_10 : decode cX12_tells 10 = .ok (.ldc2_w 358, 3) := by decide +kernel
theorem dX12_tells_13 : decode cX12_tells 13 = .ok (.invokestatic 115, 3) := by decide +kernel
theorem dX12_tells_16 : decode cX12_tells 16 = .ok (.ifCond .eq 13, 3) := by decide +kernel
theorem dX12_tells_19 : decode cX12_tells 19 = .ok (.iload_n 2, 1) := by decide +kernel
theorem dX12_tells_20 : decode cX12_tells 20 = .ok (.i2l, 1) := by decide +kernel
theorem dX12_tells_21 : decode cX12_tells 21 = .ok (.lconst 0, 1) := by decide +kernel
theorem dX12_tells_22 : decode cX12_tells 22 = .ok (.lconst 1, 1) := by decide +kernel
theorem dX12_tells_23 : decode cX12_tells 23 = .ok (.invokestatic 115, 3) := by decide +kernel
theorem dX12_tells_26 : decode cX12_tells 26 = .ok (.ifCond .ne 5, 3) := by decide +kernel
theorem dX12_tells_29 : decode cX12_tells 29 = .ok (.iconst (-1), 1) := by decide +kernel
theorem dX12_tells_30 : decode cX12_tells 30 = .ok (.ireturn, 1) := by decide +kernel
theorem dX12_tells_31 : decode cX12_tells 31 = .ok (.iconst 0, 1) := by decide +kernel
theorem dX12_tells_32 : decode cX12_tells 32 = .ok (.istore_n 3, 1) := by decide +kernel
theorem dX12_tells_33 : decode cX12_tells 33 = .ok (.iconst 0, 1) := by decide +kernel
theorem dX12_tells_34 : decode cX12_tells 34 = .ok (.istore 4, 2) := by decide +kernel
theorem dX12_tells_36 : decode cX12_tells 36 = .ok (.aload_n 0, 1) := by decide +kernel
theorem dX12_tells_37 : decode cX12_tells 37 = .ok (.invokevirtual 362, 3) := by decide +kernel
theorem dX12_tells_40 : decode cX12_tells 40 = .ok (.iconst 0, 1) := by decide +kernel
theorem dX12_tells_41 : decode cX12_tells 41 = .ok (.istore 5, 2) := by decide +kernel
theorem dX12_tells_43 : decode cX12_tells 43 = .ok (.iload 5, 2) := by decide +kernel
theorem dX12_tells_45 : decode cX12_tells 45 = .ok (.iload_n 1, 1) := by decide +kernel
theorem dX12_tells_46 : decode cX12_tells 46 = .ok (.if_icmp .ge 62, 3) := by decide +kernel
theorem dX12_tells_49 : decode cX12_tells 49 = .ok (.aload_n 0, 1) := by decide +kernel
theorem dX12_tells_50 : decode cX12_tells 50 = .ok (.getfield 39, 3) := by decide +kernel
theorem dX12_tells_53 : decode cX12_tells 53 = .ok (.bipush 36, 2) := by decide +kernel
theorem dX12_tells_55 : decode cX12_tells 55 = .ok (.aload_n 0, 1) := by decide +kernel
theorem dX12_tells_56 : decode cX12_tells 56 = .ok (.invokevirtual 314, 3) := by decide +kernel
theorem dX12_tells_59 : decode cX12_tells 59 = .ok (.iadd, 1) := by decide +kernel
theorem dX12_tells_60 : decode cX12_tells 60 = .ok (.iaload, 1) := by decide +kernel
theorem dX12_tells_61 : decode cX12_tells 61 = .ok (.iconst 5, 1) := by decide +kernel
theorem dX12_tells_62 : decode cX12_tells 62 = .ok (.if_icmp .lt 7, 3) := by decide +kernel
theorem dX12_tells_65 : decode cX12_tells 65 = .ok (.iconst 1, 1) := by decide +kernel
theorem dX12_tells_66 : decode cX12_tells 66 = .ok (.goto 4, 3) := by decide +kernel
theorem dX12_tells_69 : decode cX12_tells 69 = .ok (.iconst 0, 1) := by decide +kernel
theorem dX12_tells_70 : decode cX12_tells 70 = .ok (.istore 6, 2) := by decide +kernel
theorem dX12_tells_72 : decode cX12_tells 72 = .ok (.aload_n 0, 1) := by decide +kernel
theorem dX12_tells_73 : decode cX12_tells 73 = .ok (.invokevirtual 348, 3) := by decide +kernel
theorem dX12_tells_76 : decode cX12_tells 76 = .ok (.invokestatic 375, 3) := by decide +kernel
theorem dX12_tells_79 : decode cX12_tells 79 = .ok (.istore 7, 2) := by decide +kernel
theorem dX12_tells_81 : decode cX12_tells 81 = .ok (.iload 4, 2) := by decide +kernel
theorem dX12_tells_83 : decode cX12_tells 83 = .ok (.iload 7, 2) := by decide +kernel
theorem dX12_tells_85 : decode cX12_tells 85 = .ok (.iadd, 1) := by decide +kernel
theorem dX12_tells_86 : decode cX12_tells 86 = .ok (.istore 4, 2) := by decide +kernel
theorem dX12_tells_88 : decode cX12_tells 88 = .ok (.iload_n 3, 1) := by decide +kernel
theorem dX12_tells_89 : decode cX12_tells 89 = .ok (.iload 6, 2) := by decide +kernel
theorem dX12_tells_91 : decode cX12_tells 91 = .ok (.ifCond .eq 8, 3) := by decide +kernel
theorem dX12_tells_94 : decode cX12_tells 94 = .ok (.iload 7, 2) := by decide +kernel
theorem dX12_tells_96 : decode cX12_tells 96 = .ok (.goto 4, 3) := by decide +kernel
theorem dX12_tells_99 : decode cX12_tells 99 = .ok (.iconst 0, 1) := by decide +kernel
theorem dX12_tells_100 : decode cX12_tells 100 = .ok (.iadd, 1) := by decide +kernel
theorem dX12_tells_101 : decode cX12_tells 101 = .ok (.istore_n 3, 1) := by decide +kernel
theorem dX12_tells_102 : decode cX12_tells 102 = .ok (.iinc 5 1, 3) := by decide +kernel
theorem dX12_tells_105 : decode cX12_tells 105 = .ok (.goto (-62), 3) := by decide +kernel
theorem dX12_tells_108 : decode cX12_tells 108 = .ok (.aload_n 0, 1) := by decide +kernel
theorem dX12_tells_109 : decode cX12_tells 109 = .ok (.invokevirtual 368, 3) := by decide +kernel
theorem dX12_tells_112 : decode cX12_tells 112 = .ok (.iload 4, 2) := by decide +kernel
theorem dX12_tells_114 : decode cX12_tells 114 = .ok (.ifCond .ne 5, 3) := by decide +kernel
theorem dX12_tells_117 : decode cX12_tells 117 = .ok (.iload_n 2, 1) := by decide +kernel
theorem dX12_tells_118 : decode cX12_tells 118 = .ok (.ireturn, 1) := by decide +kernel
theorem dX12_tells_119 : decode cX12_tells 119 = .ok (.iload 4, 2) := by decide +kernel
theorem dX12_tells_121 : decode cX12_tells 121 = .ok (.iload_n 3, 1) := by decide +kernel
theorem dX12_tells_122 : decode cX12_tells 122 = .ok (.invokestatic 378, 3) := by decide +kernel
theorem dX12_tells_125 : decode cX12_tells 125 = .ok (.istore 5, 2) := by decide +kernel
theorem dX12_tells_127 : decode cX12_tells 127 = .ok (.iload_n 2, 1) := by decide +kernel
theorem dX12_tells_128 : decode cX12_tells 128 = .ok (.ifCond .ne 10, 3) := by decide +kernel
theorem dX12_tells_131 : decode cX12_tells 131 = .ok (.iload_n 3, 1) := by decide +kernel
theorem dX12_tells_132 : decode cX12_tells 132 = .ok (.iload 5, 2) := by decide +kernel
theorem dX12_tells_134 : decode cX12_tells 134 = .ok (.idiv, 1) := by decide +kernel
theorem dX12_tells_135 : decode cX12_tells 135 = .ok (.goto 8, 3) := by decide +kernel
theorem dX12_tells_138 : decode cX12_tells 138 = .ok (.iload 4, 2) := by decide +kernel
theorem dX12_tells_140 : decode cX12_tells 140 = .ok (.iload 5, 2) := by decide +kernel
theorem dX12_tells_142 : decode cX12_tells 142 = .ok (.idiv, 1) := by decide +kernel
theorem dX12_tells_143 : decode cX12_tells 143 = .ok (.ireturn, 1) := by decide +kernel
set_option maxHeartbeats 4000000 in
set_option maxRecDepth 100000 in
theorem ct_X12_in2 (l : Launch) (D : va_G) (tc : Nat → ClassId) (sk : (Nat → Nat) × (Nat → Nat)) (w1 : Int64) (w2 : Int64) (w3 : Int64)  : Ct l yX12_in cX12_in 6 (some .boolean) { frames := 0, cells := 0, slots := 0, locals := 0 } D tc sk [.long w1, .long w2, .long w3] [] (fun (v : Option Value) (_ : Unit) => ∃ r : Int32, v = some (.int r) ∧ (((r.toInt = 0 ∧ (w1.toInt < w2.toInt ∨ w3.toInt < w1.toInt)) ∨ (r.toInt = 1 ∧ w2.toInt ≤ w1.toInt ∧ w1.toInt ≤ w3.toInt)))) (fun (_ : Unit) => []) 0 0 := by
  refine Ct.start (by decide) (Nat.le_of_ble_eq_true rfl) (fun p e s m below meth c A ls hx hb hr hlk hin hml hown hts hK hX hP hD hA hl hS => ?_)
  have hl : lv_has ls 6 [(0, .long w1), (2, .long w2), (4, .long w3)] := hl
  refine lv_lload_n hx hb dX12_in_0 rfl (lv_at hl 0 rfl) ?_
  refine lv_lload_n hx hb dX12_in_1 rfl (lv_at hl 1 rfl) ?_
  refine W.lcmp hx hb dX12_in_2 ?_
  refine lv_topi (fun x_1 ex_1 => ?_)
  refine lv_if_lt (tgt := 17) hx hb dX12_in_3 (by decide) (fun c_2 => ?_) (fun c_2 => ?_)
  · skip
    have lz_3 : (w1 : Int64).toInt < (w2 : Int64).toInt := by have hc := c_2; rw [ex_1] at hc; exact Int64.lt_iff_toInt_lt.mp ((lg_cmp_lt _ _).mp hc)
    refine lv_iconst (v := 0) hx hb dX12_in_17 (by decide) ?_
    have hp_4 : (((0 : Int32).toInt = 0 ∧ (w1.toInt < w2.toInt ∨ w3.toInt < w1.toInt)) ∨ ((0 : Int32).toInt = 1 ∧ w2.toInt ≤ w1.toInt ∧ w1.toInt ≤ w3.toInt)) := by
      have z_1 := Int32.lt_iff_toInt_lt.mp c_2
      have y_0 : (0 : Int32).toInt = 0 := by decide
      omega
    exact retI (v := 0) hx hb hr hlk (rfl) hP hD hS () ⟨_, rfl, hp_4⟩ [] rfl rfl dX12_in_18 (Nat.le_of_ble_eq_true rfl) (Nat.le_of_ble_eq_true rfl) rfl
  · skip
    have lz_5 : (w2 : Int64).toInt ≤ (w1 : Int64).toInt := by have hc := c_2; rw [ex_1] at hc; exact Int64.le_iff_toInt_le.mp (Int64.not_lt.mp (fun z => hc ((lg_cmp_lt _ _).mpr z)))
    refine lv_lload_n hx hb dX12_in_6 rfl (lv_at hl 0 rfl) ?_
    refine lv_lload hx hb dX12_in_7 (lv_at hl 2 rfl) ?_
    refine W.lcmp hx hb dX12_in_9 ?_
    refine lv_topi (fun x_6 ex_6 => ?_)
    refine lv_if_gt (tgt := 17) hx hb dX12_in_10 (by decide) (fun c_7 => ?_) (fun c_7 => ?_)
    · skip
      have lz_8 : (w3 : Int64).toInt < (w1 : Int64).toInt := by have hc := c_7; rw [ex_6] at hc; exact Int64.lt_iff_toInt_lt.mp ((lg_cmp_gt _ _).mp hc)
      refine lv_iconst (v := 0) hx hb dX12_in_17 (by decide) ?_
      have hp_9 : (((0 : Int32).toInt = 0 ∧ (w1.toInt < w2.toInt ∨ w3.toInt < w1.toInt)) ∨ ((0 : Int32).toInt = 1 ∧ w2.toInt ≤ w1.toInt ∧ w1.toInt ≤ w3.toInt)) := by
        have z_1 := Int32.le_iff_toInt_le.mp (Int32.not_lt.mp c_2)
        have z_2 := Int32.lt_iff_toInt_lt.mp c_7
        have y_0 : (0 : Int32).toInt = 0 := by decide
        omega
      exact retI (v := 0) hx hb hr hlk (rfl) hP hD hS () ⟨_, rfl, hp_9⟩ [] rfl rfl dX12_in_18 (Nat.le_of_ble_eq_true rfl) (Nat.le_of_ble_eq_true rfl) rfl
    · skip
      have lz_10 : (w1 : Int64).toInt ≤ (w3 : Int64).toInt := by have hc := c_7; rw [ex_6] at hc; exact Int64.le_iff_toInt_le.mp (Int64.not_lt.mp (fun z => hc ((lg_cmp_gt _ _).mpr z)))
      refine lv_iconst (v := 1) hx hb dX12_in_13 (by decide) ?_
      refine lv_goto (tgt := 18) hx hb dX12_in_14 (by decide) ?_
      have hp_11 : (((1 : Int32).toInt = 0 ∧ (w1.toInt < w2.toInt ∨ w3.toInt < w1.toInt)) ∨ ((1 : Int32).toInt = 1 ∧ w2.toInt ≤ w1.toInt ∧ w1.toInt ≤ w3.toInt)) := by
        have z_1 := Int32.le_iff_toInt_le.mp (Int32.not_lt.mp c_2)
        have z_2 := Int32.le_iff_toInt_le.mp (Int32.not_lt.mp c_7)
        have y_0 : (0 : Int32).toInt = 0 := by decide
        have y_1 : (1 : Int32).toInt = 1 := by decide
        have yr : (1 : Int32).toInt = 1 := by decide
        omega
      exact retI (v := 1) hx hb hr hlk (rfl) hP hD hS () ⟨_, rfl, hp_11⟩ [] rfl rfl dX12_in_18 (Nat.le_of_ble_eq_true rfl) (Nat.le_of_ble_eq_true rfl) rfl
set_option maxHeartbeats 4000000 in
set_option maxRecDepth 100000 in
theorem ct_X12_ahead {T : Nat → Option Int32} (l : Launch) (D : va_G) (tc : Nat → ClassId) (sk : (Nat → Nat) × (Nat → Nat)) (Ma : Nat → Nat) (Mv : Nat → Int32) (Mf : Nat → Nat → Int32) (Mj : Nat → Int64) (Mg : Nat → Nat → Int64) (x1 : Int32) (x2 : Int32) (x3 : Int32) (h_said : SaidD T (Mf 10) 999) (h_rul : RulD (Mf 2) (Mf 4) (Mf 5) (Mv 1)) (h_frc : -1 ≤ (Mv 11).toInt ∧ (Mv 11).toInt < (Mv 1).toInt ∧ (Mv 1).toInt ≤ 6) : Ct l yX12_ahead cX12_ahead 5 (some .int) { frames := 6, cells := 0, slots := 0, locals := 143 } D tc sk [.ref (Ma 0), .int x1, .int x2, .int x3] [((Ma 0), .inr (12, [.ref (Ma 1), .int (Mv 0), .int (Mv 1), .ref (Ma 2), .ref (Ma 3), .ref (Ma 4), .ref (Ma 5), .ref (Ma 6), .int (Mv 2), .int (Mv 3), .int (Mv 4), .int (Mv 5), .int (Mv 6), .int (Mv 7), .int (Mv 8), .ref (Ma 7), .int (Mv 9), .ref (Ma 8), .int (Mv 10), .ref (Ma 9), .ref (Ma 10), .int (Mv 11), .int (Mv 12), .int (Mv 13), .ref (Ma 11), .int (Mv 14), .ref (Ma 12), .ref (Ma 13), .ref (Ma 14), .ref (Ma 15), .ref (Ma 16), .long (Mj 0), .ref (Ma 17), .ref (Ma 18), .ref (Ma 19), .ref (Ma 20)])), ((Ma 2), .inl (tc 0, 2400, .inl (Mf 2))), ((Ma 4), .inl (tc 0, 288, .inl (Mf 4))), ((Ma 5), .inl (tc 0, 6, .inl (Mf 5))), ((Ma 8), .inl (tc 1, 64, .inr (.inl (Mg 8)))), ((Ma 9), .inl (tc 1, 13, .inr (.inl (Mg 9)))), ((Ma 10), .inl (tc 0, 126, .inl (Mf 10))), ((Ma 12), .inl (tc 0, 46, .inl (Mf 12)))] (fun (v : Option Value) (u : (Int32) × (Nat → Int64) × (Nat → Int64) × (Nat → Int32) × (Nat → Int32)) => match u with | (oo0x1, oo0x2, oo0x3, oo0x4, oo0x5) => ∃ r : Int32, v = some (.int r) ∧ (True) ∧ (SaidD T oo0x4 999)) (fun (u : (Int32) × (Nat → Int64) × (Nat → Int64) × (Nat → Int32) × (Nat → Int32)) => match u with | (oo0x1, oo0x2, oo0x3, oo0x4, oo0x5) => [((Ma 0), .inr (12, [.ref (Ma 1), .int (Mv 0), .int (Mv 1), .ref (Ma 2), .ref (Ma 3), .ref (Ma 4), .ref (Ma 5), .ref (Ma 6), .int (Mv 2), .int (Mv 3), .int (Mv 4), .int (Mv 5), .int (Mv 6), .int (Mv 7), .int (Mv 8), .ref (Ma 7), .int (Mv 9), .ref (Ma 8), .int oo0x1, .ref (Ma 9), .ref (Ma 10), .int (Mv 11), .int (Mv 12), .int (Mv 13), .ref (Ma 11), .int (Mv 14), .ref (Ma 12), .ref (Ma 13), .ref (Ma 14), .ref (Ma 15), .ref (Ma 16), .long (Mj 0), .ref (Ma 17), .ref (Ma 18), .ref (Ma 19), .ref (Ma 20)])), ((Ma 2), .inl (tc 0, 2400, .inl (Mf 2))), ((Ma 4), .inl (tc 0, 288, .inl (Mf 4))), ((Ma 5), .inl (tc 0, 6, .inl (Mf 5))), ((Ma 8), .inl (tc 1, 64, .inr (.inl oo0x2))), ((Ma 9), .inl (tc 1, 13, .inr (.inl oo0x3))), ((Ma 10), .inl (tc 0, 126, .inl oo0x4)), ((Ma 12), .inl (tc 0, 46, .inl oo0x5))]) 0 0 := by
  refine Ct.start (by decide) (Nat.le_of_ble_eq_true rfl) (fun p e s m below meth c A ls hx hb hr hlk hin hml hown hts hK hX hP hD hA hl hS => ?_)
  have hl : lv_has ls 5 [(0, .ref (Ma 0)), (1, .int x1), (2, .int x2), (3, .int x3)] := hl
  have ar_h_said := SaidD.al h_said
  refine lv_aload_n hx hb dX12_ahead_0 rfl (lv_at hl 0 rfl) ?_
  refine cV (a := (Ma 0)) (As := []) (rest := []) (wr := [((Ma 2), .inl (tc 0, 2400, .inl (Mf 2))), ((Ma 4), .inl (tc 0, 288, .inl (Mf 4))), ((Ma 5), .inl (tc 0, 6, .inl (Mf 5))), ((Ma 8), .inl (tc 1, 64, .inr (.inl (Mg 8)))), ((Ma 9), .inl (tc 1, 13, .inr (.inl (Mg 9)))), ((Ma 12), .inl (tc 0, 46, .inl (Mf 12)))]) ⟨hx, hb, hml, hown, hts⟩ hK hX hA (cu_X12_isBook l D tc sk (Ma 0) (Ma 1) (Ma 2) (Ma 3) (Ma 4) (Ma 5) (Ma 6) (Ma 7) (Ma 8) (Ma 9) (Ma 10) (Ma 11) (Ma 12) (Ma 13) (Ma 14) (Ma 15) (Ma 16) (Ma 17) (Ma 18) (Ma 19) (Ma 20) (Mv 0) (Mv 1) (Mv 2) (Mv 3) (Mv 4) (Mv 5) (Mv 6) (Mv 7) (Mv 8) (Mv 9) (Mv 10) (Mv 11) (Mv 12) (Mv 13) (Mv 14) (Mf 10) (Mj 0) h_said.1) k_1407 k_1404 k_1406 k_65 k_106 pl_X12_isBook ⟨Nat.le_of_ble_eq_true rfl, Nat.le_of_ble_eq_true rfl⟩ rfl rfl (va_recv hK hP (ci := 12) (q0 := 0) rfl rfl) hP hD hS [0, 6] [1, 2, 3, 4, 5, 7] rfl rfl rfl rfl rfl (by decide) rfl hl.1 rfl (Nat.le_of_ble_eq_true rfl) dX12_ahead_1 ⟨Nat.le_of_ble_eq_true rfl, Nat.le_of_ble_eq_true rfl⟩ (fun v_1 u_2 H locs hv_3 hP₀ hD₀ hS₀ => ?_)
  obtain ⟨r_4, rfl, he_5⟩ := hv_3
  have he_5 : (r_4.toInt = 0 ∨ (r_4.toInt = 1 ∧ 1 ≤ ((Mf 10) 2).toInt ∧ ((Mf 10) 2).toInt ≤ 10)) := he_5
  refine W.eq (g2 := F0 m 4 ls [.int r_4]) rfl ?_
  replace hP : va_P D classes [((Ma 2), .inl (tc 0, 2400, .inl (Mf 2))), ((Ma 4), .inl (tc 0, 288, .inl (Mf 4))), ((Ma 5), .inl (tc 0, 6, .inl (Mf 5))), ((Ma 8), .inl (tc 1, 64, .inr (.inl (Mg 8)))), ((Ma 9), .inl (tc 1, 13, .inr (.inl (Mg 9)))), ((Ma 12), .inl (tc 0, 46, .inl (Mf 12))), ((Ma 0), .inr (12, [.ref (Ma 1), .int (Mv 0), .int (Mv 1), .ref (Ma 2), .ref (Ma 3), .ref (Ma 4), .ref (Ma 5), .ref (Ma 6), .int (Mv 2), .int (Mv 3), .int (Mv 4), .int (Mv 5), .int (Mv 6), .int (Mv 7), .int (Mv 8), .ref (Ma 7), .int (Mv 9), .ref (Ma 8), .int (Mv 10), .ref (Ma 9), .ref (Ma 10), .int (Mv 11), .int (Mv 12), .int (Mv 13), .ref (Ma 11), .int (Mv 14), .ref (Ma 12), .ref (Ma 13), .ref (Ma 14), .ref (Ma 15), .ref (Ma 16), .long (Mj 0), .ref (Ma 17), .ref (Ma 18), .ref (Ma 19), .ref (Ma 20)])), ((Ma 10), .inl (tc 0, 126, .inl (Mf 10)))] H := hP₀
  replace hD : va_D A [((Ma 2), .inl (tc 0, 2400, .inl (Mf 2))), ((Ma 4), .inl (tc 0, 288, .inl (Mf 4))), ((Ma 5), .inl (tc 0, 6, .inl (Mf 5))), ((Ma 8), .inl (tc 1, 64, .inr (.inl (Mg 8)))), ((Ma 9), .inl (tc 1, 13, .inr (.inl (Mg 9)))), ((Ma 12), .inl (tc 0, 46, .inl (Mf 12))), ((Ma 0), .inr (12, [.ref (Ma 1), .int (Mv 0), .int (Mv 1), .ref (Ma 2), .ref (Ma 3), .ref (Ma 4), .ref (Ma 5), .ref (Ma 6), .int (Mv 2), .int (Mv 3), .int (Mv 4), .int (Mv 5), .int (Mv 6), .int (Mv 7), .int (Mv 8), .ref (Ma 7), .int (Mv 9), .ref (Ma 8), .int (Mv 10), .ref (Ma 9), .ref (Ma 10), .int (Mv 11), .int (Mv 12), .int (Mv 13), .ref (Ma 11), .int (Mv 14), .ref (Ma 12), .ref (Ma 13), .ref (Ma 14), .ref (Ma 15), .ref (Ma 16), .long (Mj 0), .ref (Ma 17), .ref (Ma 18), .ref (Ma 19), .ref (Ma 20)])), ((Ma 10), .inl (tc 0, 126, .inl (Mf 10)))] := hD₀
  replace hS := hS₀
  clear hP₀ hD₀ hS₀
  refine lv_if_eq (tgt := 44) hx hb dX12_ahead_4 (by decide) (fun c_7 => ?_) (fun c_7 => ?_)
  · skip
    refine lv_iconst (v := (-1)) hx hb dX12_ahead_44 (by decide) ?_
    exact retI (v := (-1)) hx hb hr hlk (rfl) hP hD hS ((Mv 10), (Mg 8), (Mg 9), (Mf 10), (Mf 12)) ⟨_, rfl, trivial, h_said⟩ [6, 0, 1, 2, 3, 4, 7, 5] rfl rfl dX12_ahead_45 (Nat.le_of_ble_eq_true rfl) (Nat.le_of_ble_eq_true rfl) rfl
  · skip
    refine lv_iload_n hx hb dX12_ahead_7 rfl (lv_at hl 2 rfl) ?_
    refine lv_i2l (v := (x2).toInt64) hx hb dX12_ahead_8 rfl ?_
    refine lv_lconst (v := 0) hx hb dX12_ahead_9 (by decide) ?_
    refine lv_ldc2 hx hb hown (hts _ k_1500) dX12_ahead_10 ?_
    refine cS (As := [.long (x2).toInt64, .long 0, .long 100]) (rest := []) (wr := [((Ma 2), .inl (tc 0, 2400, .inl (Mf 2))), ((Ma 4), .inl (tc 0, 288, .inl (Mf 4))), ((Ma 5), .inl (tc 0, 6, .inl (Mf 5))), ((Ma 8), .inl (tc 1, 64, .inr (.inl (Mg 8)))), ((Ma 9), .inl (tc 1, 13, .inr (.inl (Mg 9)))), ((Ma 12), .inl (tc 0, 46, .inl (Mf 12))), ((Ma 0), .inr (12, [.ref (Ma 1), .int (Mv 0), .int (Mv 1), .ref (Ma 2), .ref (Ma 3), .ref (Ma 4), .ref (Ma 5), .ref (Ma 6), .int (Mv 2), .int (Mv 3), .int (Mv 4), .int (Mv 5), .int (Mv 6), .int (Mv 7), .int (Mv 8), .ref (Ma 7), .int (Mv 9), .ref (Ma 8), .int (Mv 10), .ref (Ma 9), .ref (Ma 10), .int (Mv 11), .int (Mv 12), .int (Mv 13), .ref (Ma 11), .int (Mv 14), .ref (Ma 12), .ref (Ma 13), .ref (Ma 14), .ref (Ma 15), .ref (Ma 16), .long (Mj 0), .ref (Ma 17), .ref (Ma 18), .ref (Ma 19), .ref (Ma 20)])), ((Ma 10), .inl (tc 0, 126, .inl (Mf 10)))]) ⟨hx, hb, hml, hown, hts⟩ hK hX hA (ct_X12_in l D tc sk ((x2).toInt64) 0 100) k_1259 k_1257 k_1258 k_106 pl_X12_in ⟨Nat.le_of_ble_eq_true rfl, Nat.le_of_ble_eq_true rfl⟩ rfl rfl  hP hD hS [] [0, 1, 2, 3, 4, 5, 6, 7] rfl rfl rfl rfl rfl (by decide) rfl hl.1 rfl (Nat.le_of_ble_eq_true rfl) dX12_ahead_13 ⟨Nat.le_of_ble_eq_true rfl, Nat.le_of_ble_eq_true rfl⟩ (fun v_8 u_9 H locs hv_10 hP₀ hD₀ hS₀ => ?_)
    obtain ⟨r_11, rfl, he_12⟩ := hv_10
    have he_12 : (r_11.toInt = 0 ∨ (r_11.toInt = 1 ∧ (0 : Int64).toInt ≤ (x2).toInt64.toInt ∧ (x2).toInt64.toInt ≤ (100 : Int64).toInt)) := he_12
    refine W.eq (g2 := F0 m 16 ls [.int r_11]) rfl ?_
    replace hP : va_P D classes [((Ma 2), .inl (tc 0, 2400, .inl (Mf 2))), ((Ma 4), .inl (tc 0, 288, .inl (Mf 4))), ((Ma 5), .inl (tc 0, 6, .inl (Mf 5))), ((Ma 8), .inl (tc 1, 64, .inr (.inl (Mg 8)))), ((Ma 9), .inl (tc 1, 13, .inr (.inl (Mg 9)))), ((Ma 12), .inl (tc 0, 46, .inl (Mf 12))), ((Ma 0), .inr (12, [.ref (Ma 1), .int (Mv 0), .int (Mv 1), .ref (Ma 2), .ref (Ma 3), .ref (Ma 4), .ref (Ma 5), .ref (Ma 6), .int (Mv 2), .int (Mv 3), .int (Mv 4), .int (Mv 5), .int (Mv 6), .int (Mv 7), .int (Mv 8), .ref (Ma 7), .int (Mv 9), .ref (Ma 8), .int (Mv 10), .ref (Ma 9), .ref (Ma 10), .int (Mv 11), .int (Mv 12), .int (Mv 13), .ref (Ma 11), .int (Mv 14), .ref (Ma 12), .ref (Ma 13), .ref (Ma 14), .ref (Ma 15), .ref (Ma 16), .long (Mj 0), .ref (Ma 17), .ref (Ma 18), .ref (Ma 19), .ref (Ma 20)])), ((Ma 10), .inl (tc 0, 126, .inl (Mf 10)))] H := hP₀
    replace hD : va_D A [((Ma 2), .inl (tc 0, 2400, .inl (Mf 2))), ((Ma 4), .inl (tc 0, 288, .inl (Mf 4))), ((Ma 5), .inl (tc 0, 6, .inl (Mf 5))), ((Ma 8), .inl (tc 1, 64, .inr (.inl (Mg 8)))), ((Ma 9), .inl (tc 1, 13, .inr (.inl (Mg 9)))), ((Ma 12), .inl (tc 0, 46, .inl (Mf 12))), ((Ma 0), .inr (12, [.ref (Ma 1), .int (Mv 0), .int (Mv 1), .ref (Ma 2), .ref (Ma 3), .ref (Ma 4), .ref (Ma 5), .ref (Ma 6), .int (Mv 2), .int (Mv 3), .int (Mv 4), .int (Mv 5), .int (Mv 6), .int (Mv 7), .int (Mv 8), .ref (Ma 7), .int (Mv 9), .ref (Ma 8), .int (Mv 10), .ref (Ma 9), .ref (Ma 10), .int (Mv 11), .int (Mv 12), .int (Mv 13), .ref (Ma 11), .int (Mv 14), .ref (Ma 12), .ref (Ma 13), .ref (Ma 14), .ref (Ma 15), .ref (Ma 16), .long (Mj 0), .ref (Ma 17), .ref (Ma 18), .ref (Ma 19), .ref (Ma 20)])), ((Ma 10), .inl (tc 0, 126, .inl (Mf 10)))] := hD₀
    replace hS := hS₀
    clear hP₀ hD₀ hS₀
    have yl_he_12_0 : (0 : Int64).toInt = 0 := by decide
    have yl_he_12_100 : (100 : Int64).toInt = 100 := by decide
    simp only [i32_64] at he_12
    refine lv_if_eq (tgt := 44) hx hb dX12_ahead_16 (by decide) (fun c_14 => ?_) (fun c_14 => ?_)
    · skip
      refine lv_iconst (v := (-1)) hx hb dX12_ahead_44 (by decide) ?_
      exact retI (v := (-1)) hx hb hr hlk (rfl) hP hD hS ((Mv 10), (Mg 8), (Mg 9), (Mf 10), (Mf 12)) ⟨_, rfl, trivial, h_said⟩ [6, 0, 1, 2, 3, 4, 7, 5] rfl rfl dX12_ahead_45 (Nat.le_of_ble_eq_true rfl) (Nat.le_of_ble_eq_true rfl) rfl
    · skip
      refine lv_iload_n hx hb dX12_ahead_19 rfl (lv_at hl 3 rfl) ?_
      refine lv_i2l (v := (x3).toInt64) hx hb dX12_ahead_20 rfl ?_
      refine lv_lconst (v := 0) hx hb dX12_ahead_21 (by decide) ?_
      refine lv_ldc2 hx hb hown (hts _ k_1501) dX12_ahead_22 ?_
      refine cS (As := [.long (x3).toInt64, .long 0, .long 2]) (rest := []) (wr := [((Ma 2), .inl (tc 0, 2400, .inl (Mf 2))), ((Ma 4), .inl (tc 0, 288, .inl (Mf 4))), ((Ma 5), .inl (tc 0, 6, .inl (Mf 5))), ((Ma 8), .inl (tc 1, 64, .inr (.inl (Mg 8)))), ((Ma 9), .inl (tc 1, 13, .inr (.inl (Mg 9)))), ((Ma 12), .inl (tc 0, 46, .inl (Mf 12))), ((Ma 0), .inr (12, [.ref (Ma 1), .int (Mv 0), .int (Mv 1), .ref (Ma 2), .ref (Ma 3), .ref (Ma 4), .ref (Ma 5), .ref (Ma 6), .int (Mv 2), .int (Mv 3), .int (Mv 4), .int (Mv 5), .int (Mv 6), .int (Mv 7), .int (Mv 8), .ref (Ma 7), .int (Mv 9), .ref (Ma 8), .int (Mv 10), .ref (Ma 9), .ref (Ma 10), .int (Mv 11), .int (Mv 12), .int (Mv 13), .ref (Ma 11), .int (Mv 14), .ref (Ma 12), .ref (Ma 13), .ref (Ma 14), .ref (Ma 15), .ref (Ma 16), .long (Mj 0), .ref (Ma 17), .ref (Ma 18), .ref (Ma 19), .ref (Ma 20)])), ((Ma 10), .inl (tc 0, 126, .inl (Mf 10)))]) ⟨hx, hb, hml, hown, hts⟩ hK hX hA (ct_X12_in l D tc sk ((x3).toInt64) 0 2) k_1259 k_1257 k_1258 k_106 pl_X12_in ⟨Nat.le_of_ble_eq_true rfl, Nat.le_of_ble_eq_true rfl⟩ rfl rfl  hP hD hS [] [0, 1, 2, 3, 4, 5, 6, 7] rfl rfl rfl rfl rfl (by decide) rfl hl.1 rfl (Nat.le_of_ble_eq_true rfl) dX12_ahead_25 ⟨Nat.le_of_ble_eq_true rfl, Nat.le_of_ble_eq_true rfl⟩ (fun v_15 u_16 H locs hv_17 hP₀ hD₀ hS₀ => ?_)
      obtain ⟨r_18, rfl, he_19⟩ := hv_17
      have he_19 : (r_18.toInt = 0 ∨ (r_18.toInt = 1 ∧ (0 : Int64).toInt ≤ (x3).toInt64.toInt ∧ (x3).toInt64.toInt ≤ (2 : Int64).toInt)) := he_19
      refine W.eq (g2 := F0 m 28 ls [.int r_18]) rfl ?_
      replace hP : va_P D classes [((Ma 2), .inl (tc 0, 2400, .inl (Mf 2))), ((Ma 4), .inl (tc 0, 288, .inl (Mf 4))), ((Ma 5), .inl (tc 0, 6, .inl (Mf 5))), ((Ma 8), .inl (tc 1, 64, .inr (.inl (Mg 8)))), ((Ma 9), .inl (tc 1, 13, .inr (.inl (Mg 9)))), ((Ma 12), .inl (tc 0, 46, .inl (Mf 12))), ((Ma 0), .inr (12, [.ref (Ma 1), .int (Mv 0), .int (Mv 1), .ref (Ma 2), .ref (Ma 3), .ref (Ma 4), .ref (Ma 5), .ref (Ma 6), .int (Mv 2), .int (Mv 3), .int (Mv 4), .int (Mv 5), .int (Mv 6), .int (Mv 7), .int (Mv 8), .ref (Ma 7), .int (Mv 9), .ref (Ma 8), .int (Mv 10), .ref (Ma 9), .ref (Ma 10), .int (Mv 11), .int (Mv 12), .int (Mv 13), .ref (Ma 11), .int (Mv 14), .ref (Ma 12), .ref (Ma 13), .ref (Ma 14), .ref (Ma 15), .ref (Ma 16), .long (Mj 0), .ref (Ma 17), .ref (Ma 18), .ref (Ma 19), .ref (Ma 20)])), ((Ma 10), .inl (tc 0, 126, .inl (Mf 10)))] H := hP₀
      replace hD : va_D A [((Ma 2), .inl (tc 0, 2400, .inl (Mf 2))), ((Ma 4), .inl (tc 0, 288, .inl (Mf 4))), ((Ma 5), .inl (tc 0, 6, .inl (Mf 5))), ((Ma 8), .inl (tc 1, 64, .inr (.inl (Mg 8)))), ((Ma 9), .inl (tc 1, 13, .inr (.inl (Mg 9)))), ((Ma 12), .inl (tc 0, 46, .inl (Mf 12))), ((Ma 0), .inr (12, [.ref (Ma 1), .int (Mv 0), .int (Mv 1), .ref (Ma 2), .ref (Ma 3), .ref (Ma 4), .ref (Ma 5), .ref (Ma 6), .int (Mv 2), .int (Mv 3), .int (Mv 4), .int (Mv 5), .int (Mv 6), .int (Mv 7), .int (Mv 8), .ref (Ma 7), .int (Mv 9), .ref (Ma 8), .int (Mv 10), .ref (Ma 9), .ref (Ma 10), .int (Mv 11), .int (Mv 12), .int (Mv 13), .ref (Ma 11), .int (Mv 14), .ref (Ma 12), .ref (Ma 13), .ref (Ma 14), .ref (Ma 15), .ref (Ma 16), .long (Mj 0), .ref (Ma 17), .ref (Ma 18), .ref (Ma 19), .ref (Ma 20)])), ((Ma 10), .inl (tc 0, 126, .inl (Mf 10)))] := hD₀
      replace hS := hS₀
      clear hP₀ hD₀ hS₀
      have yl_he_19_0 : (0 : Int64).toInt = 0 := by decide
      have yl_he_19_2 : (2 : Int64).toInt = 2 := by decide
      simp only [i32_64] at he_19
      refine lv_if_eq (tgt := 44) hx hb dX12_ahead_28 (by decide) (fun c_21 => ?_) (fun c_21 => ?_)
      · skip
        refine lv_iconst (v := (-1)) hx hb dX12_ahead_44 (by decide) ?_
        exact retI (v := (-1)) hx hb hr hlk (rfl) hP hD hS ((Mv 10), (Mg 8), (Mg 9), (Mf 10), (Mf 12)) ⟨_, rfl, trivial, h_said⟩ [6, 0, 1, 2, 3, 4, 7, 5] rfl rfl dX12_ahead_45 (Nat.le_of_ble_eq_true rfl) (Nat.le_of_ble_eq_true rfl) rfl
      · skip
        refine lv_iload_n hx hb dX12_ahead_31 rfl (lv_at hl 3 rfl) ?_
        refine lv_iconst (v := 2) hx hb dX12_ahead_32 (by decide) ?_
        refine lv_icmp_ge (tgt := 46) hx hb dX12_ahead_33 (by decide) (fun c_22 => ?_) (fun c_22 => ?_)
        · skip
          refine lv_aload_n hx hb dX12_ahead_46 rfl (lv_at hl 0 rfl) ?_
          refine cV (a := (Ma 0)) (As := []) (rest := []) (wr := [((Ma 2), .inl (tc 0, 2400, .inl (Mf 2))), ((Ma 4), .inl (tc 0, 288, .inl (Mf 4))), ((Ma 5), .inl (tc 0, 6, .inl (Mf 5))), ((Ma 8), .inl (tc 1, 64, .inr (.inl (Mg 8)))), ((Ma 9), .inl (tc 1, 13, .inr (.inl (Mg 9))))]) ⟨hx, hb, hml, hown, hts⟩ hK hX hA (cu_X12_keeps l D tc sk (Ma 0) (Ma 1) (Ma 2) (Ma 3) (Ma 4) (Ma 5) (Ma 6) (Ma 7) (Ma 8) (Ma 9) (Ma 10) (Ma 11) (Ma 12) (Ma 13) (Ma 14) (Ma 15) (Ma 16) (Ma 17) (Ma 18) (Ma 19) (Ma 20) (Mv 0) (Mv 1) (Mv 2) (Mv 3) (Mv 4) (Mv 5) (Mv 6) (Mv 7) (Mv 8) (Mv 9) (Mv 10) (Mv 11) (Mv 12) (Mv 13) (Mv 14) (Mf 10) (Mf 12) (Mj 0) h_said) k_1505 k_1502 k_1504 k_80 k_106 pl_X12_keeps ⟨Nat.le_of_ble_eq_true rfl, Nat.le_of_ble_eq_true rfl⟩ rfl rfl (va_recv hK hP (ci := 12) (q0 := 6) rfl rfl) hP hD hS [6, 7, 5] [0, 1, 2, 3, 4] rfl rfl rfl rfl rfl (by decide) rfl hl.1 rfl (Nat.le_of_ble_eq_true rfl) dX12_ahead_47 ⟨Nat.le_of_ble_eq_true rfl, Nat.le_of_ble_eq_true rfl⟩ (fun v_23 u_24 H locs hv_25 hP₀ hD₀ hS₀ => ?_)
          obtain ⟨sv_26, rfl⟩ : ∃ z, z = u_24 := ⟨_, rfl⟩
          obtain ⟨rfl, pf_27⟩ := hv_25
          have pf_27 : KeptD sv_26 := pf_27
          refine W.eq (g2 := F0 m 50 ls []) rfl ?_
          replace hP : va_P D classes [((Ma 2), .inl (tc 0, 2400, .inl (Mf 2))), ((Ma 4), .inl (tc 0, 288, .inl (Mf 4))), ((Ma 5), .inl (tc 0, 6, .inl (Mf 5))), ((Ma 8), .inl (tc 1, 64, .inr (.inl (Mg 8)))), ((Ma 9), .inl (tc 1, 13, .inr (.inl (Mg 9)))), ((Ma 0), .inr (12, [.ref (Ma 1), .int (Mv 0), .int (Mv 1), .ref (Ma 2), .ref (Ma 3), .ref (Ma 4), .ref (Ma 5), .ref (Ma 6), .int (Mv 2), .int (Mv 3), .int (Mv 4), .int (Mv 5), .int (Mv 6), .int (Mv 7), .int (Mv 8), .ref (Ma 7), .int (Mv 9), .ref (Ma 8), .int (Mv 10), .ref (Ma 9), .ref (Ma 10), .int (Mv 11), .int (Mv 12), .int (Mv 13), .ref (Ma 11), .int (Mv 14), .ref (Ma 12), .ref (Ma 13), .ref (Ma 14), .ref (Ma 15), .ref (Ma 16), .long (Mj 0), .ref (Ma 17), .ref (Ma 18), .ref (Ma 19), .ref (Ma 20)])), ((Ma 10), .inl (tc 0, 126, .inl (Mf 10))), ((Ma 12), .inl (tc 0, 46, .inl sv_26))] H := hP₀
          replace hD : va_D A [((Ma 2), .inl (tc 0, 2400, .inl (Mf 2))), ((Ma 4), .inl (tc 0, 288, .inl (Mf 4))), ((Ma 5), .inl (tc 0, 6, .inl (Mf 5))), ((Ma 8), .inl (tc 1, 64, .inr (.inl (Mg 8)))), ((Ma 9), .inl (tc 1, 13, .inr (.inl (Mg 9)))), ((Ma 0), .inr (12, [.ref (Ma 1), .int (Mv 0), .int (Mv 1), .ref (Ma 2), .ref (Ma 3), .ref (Ma 4), .ref (Ma 5), .ref (Ma 6), .int (Mv 2), .int (Mv 3), .int (Mv 4), .int (Mv 5), .int (Mv 6), .int (Mv 7), .int (Mv 8), .ref (Ma 7), .int (Mv 9), .ref (Ma 8), .int (Mv 10), .ref (Ma 9), .ref (Ma 10), .int (Mv 11), .int (Mv 12), .int (Mv 13), .ref (Ma 11), .int (Mv 14), .ref (Ma 12), .ref (Ma 13), .ref (Ma 14), .ref (Ma 15), .ref (Ma 16), .long (Mj 0), .ref (Ma 17), .ref (Ma 18), .ref (Ma 19), .ref (Ma 20)])), ((Ma 10), .inl (tc 0, 126, .inl (Mf 10))), ((Ma 12), .inl (tc 0, 46, .inl sv_26))] := hD₀
          replace hS := hS₀
          clear hP₀ hD₀ hS₀
          refine lv_aload_n hx hb dX12_ahead_50 rfl (lv_at hl 0 rfl) ?_
          refine lv_iload_n hx hb dX12_ahead_51 rfl (lv_at hl 2 rfl) ?_
          have ha_28 : (999 : Int) ≤ 1000 := by
            have z_1 : ¬ (r_4 : Int32).toInt = (0 : Int32).toInt := fun z => c_7 (Int32.toInt_inj.mp z)
            have z_2 : ¬ (r_11 : Int32).toInt = (0 : Int32).toInt := fun z => c_14 (Int32.toInt_inj.mp z)
            have z_3 : ¬ (r_18 : Int32).toInt = (0 : Int32).toInt := fun z => c_21 (Int32.toInt_inj.mp z)
            have z_4 := Int32.le_iff_toInt_le.mp c_22
            have y_0 : (0 : Int32).toInt = 0 := by decide
            have y_2 : (2 : Int32).toInt = 2 := by decide
            have y_999 : (999 : Int32).toInt = 999 := by decide
            omega
          have ha_29 : 0 ≤ x2.toInt ∧ x2.toInt ≤ 1000 := by
            have z_1 : ¬ (r_4 : Int32).toInt = (0 : Int32).toInt := fun z => c_7 (Int32.toInt_inj.mp z)
            have z_2 : ¬ (r_11 : Int32).toInt = (0 : Int32).toInt := fun z => c_14 (Int32.toInt_inj.mp z)
            have z_3 : ¬ (r_18 : Int32).toInt = (0 : Int32).toInt := fun z => c_21 (Int32.toInt_inj.mp z)
            have z_4 := Int32.le_iff_toInt_le.mp c_22
            have y_0 : (0 : Int32).toInt = 0 := by decide
            have y_2 : (2 : Int32).toInt = 2 := by decide
            refine ⟨?_, ?_⟩ <;> omega
          refine cV (a := (Ma 0)) (As := [.int x2]) (rest := []) (wr := [((Ma 12), .inl (tc 0, 46, .inl sv_26))]) ⟨hx, hb, hml, hown, hts⟩ hK hX hA (cu_X12_passesAll l D tc sk (Ma 0) (Ma 1) (Ma 2) (Ma 3) (Ma 4) (Ma 5) (Ma 6) (Ma 7) (Ma 8) (Ma 9) (Ma 10) (Ma 11) (Ma 12) (Ma 13) (Ma 14) (Ma 15) (Ma 16) (Ma 17) (Ma 18) (Ma 19) (Ma 20) (Mv 0) (Mv 1) (Mv 2) (Mv 3) (Mv 4) (Mv 5) (Mv 6) (Mv 7) (Mv 8) (Mv 9) (Mv 10) (Mv 11) (Mv 12) (Mv 13) (Mv 14) (Mf 2) (Mf 4) (Mf 5) (Mf 10) (Mj 0) (Mg 8) (Mg 9) x2 999 h_said ha_28 h_rul h_frc ha_29) k_1509 k_1506 k_1508 k_81 k_106 pl_X12_passesAll ⟨Nat.le_of_ble_eq_true rfl, Nat.le_of_ble_eq_true rfl⟩ rfl rfl (va_recv hK hP (ci := 12) (q0 := 5) rfl rfl) hP hD hS [5, 0, 1, 2, 3, 4, 6] [7] rfl rfl rfl rfl rfl (by decide) rfl hl.1 rfl (Nat.le_of_ble_eq_true rfl) dX12_ahead_52 ⟨Nat.le_of_ble_eq_true rfl, Nat.le_of_ble_eq_true rfl⟩ (fun v_30 u_31 H locs hv_32 hP₀ hD₀ hS₀ => ?_)
          obtain ⟨sv_33, sv_34, sv_35, sv_36⟩ := u_31
          obtain ⟨rfl, pf_37⟩ := hv_32
          have pf_37 : SaidD T sv_36 ((999 : Int) + x2.toInt) := pf_37
          have ar_pf_37 := SaidD.al pf_37
          refine W.eq (g2 := F0 m 55 ls []) rfl ?_
          replace hP : va_P D classes [((Ma 12), .inl (tc 0, 46, .inl sv_26)), ((Ma 0), .inr (12, [.ref (Ma 1), .int (Mv 0), .int (Mv 1), .ref (Ma 2), .ref (Ma 3), .ref (Ma 4), .ref (Ma 5), .ref (Ma 6), .int (Mv 2), .int (Mv 3), .int (Mv 4), .int (Mv 5), .int (Mv 6), .int (Mv 7), .int (Mv 8), .ref (Ma 7), .int (Mv 9), .ref (Ma 8), .int sv_33, .ref (Ma 9), .ref (Ma 10), .int (Mv 11), .int (Mv 12), .int (Mv 13), .ref (Ma 11), .int (Mv 14), .ref (Ma 12), .ref (Ma 13), .ref (Ma 14), .ref (Ma 15), .ref (Ma 16), .long (Mj 0), .ref (Ma 17), .ref (Ma 18), .ref (Ma 19), .ref (Ma 20)])), ((Ma 2), .inl (tc 0, 2400, .inl (Mf 2))), ((Ma 4), .inl (tc 0, 288, .inl (Mf 4))), ((Ma 5), .inl (tc 0, 6, .inl (Mf 5))), ((Ma 8), .inl (tc 1, 64, .inr (.inl sv_34))), ((Ma 9), .inl (tc 1, 13, .inr (.inl sv_35))), ((Ma 10), .inl (tc 0, 126, .inl sv_36))] H := hP₀
          replace hD : va_D A [((Ma 12), .inl (tc 0, 46, .inl sv_26)), ((Ma 0), .inr (12, [.ref (Ma 1), .int (Mv 0), .int (Mv 1), .ref (Ma 2), .ref (Ma 3), .ref (Ma 4), .ref (Ma 5), .ref (Ma 6), .int (Mv 2), .int (Mv 3), .int (Mv 4), .int (Mv 5), .int (Mv 6), .int (Mv 7), .int (Mv 8), .ref (Ma 7), .int (Mv 9), .ref (Ma 8), .int sv_33, .ref (Ma 9), .ref (Ma 10), .int (Mv 11), .int (Mv 12), .int (Mv 13), .ref (Ma 11), .int (Mv 14), .ref (Ma 12), .ref (Ma 13), .ref (Ma 14), .ref (Ma 15), .ref (Ma 16), .long (Mj 0), .ref (Ma 17), .ref (Ma 18), .ref (Ma 19), .ref (Ma 20)])), ((Ma 2), .inl (tc 0, 2400, .inl (Mf 2))), ((Ma 4), .inl (tc 0, 288, .inl (Mf 4))), ((Ma 5), .inl (tc 0, 6, .inl (Mf 5))), ((Ma 8), .inl (tc 1, 64, .inr (.inl sv_34))), ((Ma 9), .inl (tc 1, 13, .inr (.inl sv_35))), ((Ma 10), .inl (tc 0, 126, .inl sv_36))] := hD₀
          replace hS := hS₀
          clear hP₀ hD₀ hS₀
          refine lv_iload_n hx hb dX12_ahead_55 rfl (lv_at hl 3 rfl) ?_
          refine lv_if_ne (tgt := 67) hx hb dX12_ahead_56 (by decide) (fun c_38 => ?_) (fun c_38 => ?_)
          · skip
            refine lv_iload_n hx hb dX12_ahead_67 rfl (lv_at hl 3 rfl) ?_
            refine lv_iconst (v := 1) hx hb dX12_ahead_68 (by decide) ?_
            refine lv_icmp_ne (tgt := 80) hx hb dX12_ahead_69 (by decide) (fun c_39 => ?_) (fun c_39 => ?_)
            · skip
              refine lv_aload_n hx hb dX12_ahead_80 rfl (lv_at hl 0 rfl) ?_
              refine gf_X12_39 hx hb hts hown hK hP 1 rfl rfl dX12_ahead_81 ?_
              refine lv_bipush (v := 11) hx hb dX12_ahead_84 (by decide) ?_
              refine va_iald hx hb hK hP 7 0 rfl rfl (vin_dec (by decide +kernel)) dX12_ahead_86 ?_
              refine lv_topi (fun x_40 ex_40 => ?_)
              have lx_40 : x_40.toInt = (sv_36 11).toInt := congrArg Int32.toInt ex_40
              refine lv_istore (lv' := [(4, .int x_40), (0, .ref (Ma 0)), (1, .int x1), (2, .int x2), (3, .int x3)]) hx hb dX12_ahead_87 hl (by decide) rfl (fun ls hl₀ => ?_)
              replace hl := hl₀
              clear hl₀
              refine lv_aload_n hx hb dX12_ahead_89 rfl (lv_at hl 1 rfl) ?_
              refine cV (a := (Ma 0)) (As := []) (rest := []) (wr := [((Ma 2), .inl (tc 0, 2400, .inl (Mf 2))), ((Ma 4), .inl (tc 0, 288, .inl (Mf 4))), ((Ma 5), .inl (tc 0, 6, .inl (Mf 5))), ((Ma 8), .inl (tc 1, 64, .inr (.inl sv_34))), ((Ma 9), .inl (tc 1, 13, .inr (.inl sv_35)))]) ⟨hx, hb, hml, hown, hts⟩ hK hX hA (cu_X12_laysBack l D tc sk (Ma 0) (Ma 1) (Ma 2) (Ma 3) (Ma 4) (Ma 5) (Ma 6) (Ma 7) (Ma 8) (Ma 9) (Ma 10) (Ma 11) (Ma 12) (Ma 13) (Ma 14) (Ma 15) (Ma 16) (Ma 17) (Ma 18) (Ma 19) (Ma 20) (Mv 0) (Mv 1) (Mv 2) (Mv 3) (Mv 4) (Mv 5) (Mv 6) (Mv 7) (Mv 8) (Mv 9) sv_33 (Mv 11) (Mv 12) (Mv 13) (Mv 14) sv_36 sv_26 (Mj 0) pf_37.1 pf_27) k_1513 k_1510 k_1512 k_82 k_106 pl_X12_laysBack ⟨Nat.le_of_ble_eq_true rfl, Nat.le_of_ble_eq_true rfl⟩ rfl rfl (va_recv hK hP (ci := 12) (q0 := 1) rfl rfl) hP hD hS [1, 7, 0] [2, 3, 4, 5, 6] rfl rfl rfl rfl rfl (by decide) rfl hl.1 rfl (Nat.le_of_ble_eq_true rfl) dX12_ahead_90 ⟨Nat.le_of_ble_eq_true rfl, Nat.le_of_ble_eq_true rfl⟩ (fun v_41 u_42 H locs hv_43 hP₀ hD₀ hS₀ => ?_)
              obtain ⟨sv_44, rfl⟩ : ∃ z, z = u_42 := ⟨_, rfl⟩
              obtain ⟨rfl, pf_45⟩ := hv_43
              have pf_45 : SaidD T sv_44 999 := pf_45
              have ar_pf_45 := SaidD.al pf_45
              refine W.eq (g2 := F0 m 93 ls []) rfl ?_
              replace hP : va_P D classes [((Ma 2), .inl (tc 0, 2400, .inl (Mf 2))), ((Ma 4), .inl (tc 0, 288, .inl (Mf 4))), ((Ma 5), .inl (tc 0, 6, .inl (Mf 5))), ((Ma 8), .inl (tc 1, 64, .inr (.inl sv_34))), ((Ma 9), .inl (tc 1, 13, .inr (.inl sv_35))), ((Ma 0), .inr (12, [.ref (Ma 1), .int (Mv 0), .int (Mv 1), .ref (Ma 2), .ref (Ma 3), .ref (Ma 4), .ref (Ma 5), .ref (Ma 6), .int (Mv 2), .int (Mv 3), .int (Mv 4), .int (Mv 5), .int (Mv 6), .int (Mv 7), .int (Mv 8), .ref (Ma 7), .int (Mv 9), .ref (Ma 8), .int sv_33, .ref (Ma 9), .ref (Ma 10), .int (Mv 11), .int (Mv 12), .int (Mv 13), .ref (Ma 11), .int (Mv 14), .ref (Ma 12), .ref (Ma 13), .ref (Ma 14), .ref (Ma 15), .ref (Ma 16), .long (Mj 0), .ref (Ma 17), .ref (Ma 18), .ref (Ma 19), .ref (Ma 20)])), ((Ma 10), .inl (tc 0, 126, .inl sv_44)), ((Ma 12), .inl (tc 0, 46, .inl sv_26))] H := hP₀
              replace hD : va_D A [((Ma 2), .inl (tc 0, 2400, .inl (Mf 2))), ((Ma 4), .inl (tc 0, 288, .inl (Mf 4))), ((Ma 5), .inl (tc 0, 6, .inl (Mf 5))), ((Ma 8), .inl (tc 1, 64, .inr (.inl sv_34))), ((Ma 9), .inl (tc 1, 13, .inr (.inl sv_35))), ((Ma 0), .inr (12, [.ref (Ma 1), .int (Mv 0), .int (Mv 1), .ref (Ma 2), .ref (Ma 3), .ref (Ma 4), .ref (Ma 5), .ref (Ma 6), .int (Mv 2), .int (Mv 3), .int (Mv 4), .int (Mv 5), .int (Mv 6), .int (Mv 7), .int (Mv 8), .ref (Ma 7), .int (Mv 9), .ref (Ma 8), .int sv_33, .ref (Ma 9), .ref (Ma 10), .int (Mv 11), .int (Mv 12), .int (Mv 13), .ref (Ma 11), .int (Mv 14), .ref (Ma 12), .ref (Ma 13), .ref (Ma 14), .ref (Ma 15), .ref (Ma 16), .long (Mj 0), .ref (Ma 17), .ref (Ma 18), .ref (Ma 19), .ref (Ma 20)])), ((Ma 10), .inl (tc 0, 126, .inl sv_44)), ((Ma 12), .inl (tc 0, 46, .inl sv_26))] := hD₀
              replace hS := hS₀
              clear hP₀ hD₀ hS₀
              refine lv_iload hx hb dX12_ahead_93 (lv_at hl 0 rfl) ?_
              exact retI (v := x_40) hx hb hr hlk (rfl) hP hD hS (sv_33, sv_34, sv_35, sv_44, sv_26) ⟨_, rfl, trivial, pf_45⟩ [5, 0, 1, 2, 3, 4, 6, 7] rfl rfl dX12_ahead_95 (Nat.le_of_ble_eq_true rfl) (Nat.le_of_ble_eq_true rfl) rfl
            · skip
              refine lv_aload_n hx hb dX12_ahead_72 rfl (lv_at hl 0 rfl) ?_
              refine lv_iload_n hx hb dX12_ahead_73 rfl (lv_at hl 1 rfl) ?_
              have ha_46 : 0 ≤ x1.toInt ∧ x1.toInt < 6 := by
                have z_1 : ¬ (r_4 : Int32).toInt = (0 : Int32).toInt := fun z => c_7 (Int32.toInt_inj.mp z)
                have z_2 : ¬ (r_11 : Int32).toInt = (0 : Int32).toInt := fun z => c_14 (Int32.toInt_inj.mp z)
                have z_3 : ¬ (r_18 : Int32).toInt = (0 : Int32).toInt := fun z => c_21 (Int32.toInt_inj.mp z)
                have z_4 := Int32.le_iff_toInt_le.mp c_22
                have z_5 : ¬ (x3 : Int32).toInt = (0 : Int32).toInt := fun z => c_38 (Int32.toInt_inj.mp z)
                have z_6 := congrArg Int32.toInt c_39
                have y_0 : (0 : Int32).toInt = 0 := by decide
                have y_1 : (1 : Int32).toInt = 1 := by decide
                have y_2 : (2 : Int32).toInt = 2 := by decide
                refine ⟨?_, ?_⟩ <;> omega
              refine cV (a := (Ma 0)) (As := [.int x1]) (rest := []) (wr := [((Ma 12), .inl (tc 0, 46, .inl sv_26)), ((Ma 2), .inl (tc 0, 2400, .inl (Mf 2))), ((Ma 4), .inl (tc 0, 288, .inl (Mf 4))), ((Ma 5), .inl (tc 0, 6, .inl (Mf 5))), ((Ma 8), .inl (tc 1, 64, .inr (.inl sv_34))), ((Ma 9), .inl (tc 1, 13, .inr (.inl sv_35)))]) ⟨hx, hb, hml, hown, hts⟩ hK hX hA (cu_X12_boughtBy l D tc sk (Ma 0) (Ma 1) (Ma 2) (Ma 3) (Ma 4) (Ma 5) (Ma 6) (Ma 7) (Ma 8) (Ma 9) (Ma 10) (Ma 11) (Ma 12) (Ma 13) (Ma 14) (Ma 15) (Ma 16) (Ma 17) (Ma 18) (Ma 19) (Ma 20) (Mv 0) (Mv 1) (Mv 2) (Mv 3) (Mv 4) (Mv 5) (Mv 6) (Mv 7) (Mv 8) (Mv 9) sv_33 (Mv 11) (Mv 12) (Mv 13) (Mv 14) sv_36 (Mj 0) x1 ha_46) k_1383 k_1380 k_1382 k_60 k_106 pl_X12_boughtBy ⟨Nat.le_of_ble_eq_true rfl, Nat.le_of_ble_eq_true rfl⟩ rfl rfl (va_recv hK hP (ci := 12) (q0 := 1) rfl rfl) hP hD hS [1, 7] [0, 2, 3, 4, 5, 6] rfl rfl rfl rfl rfl (by decide) rfl hl.1 rfl (Nat.le_of_ble_eq_true rfl) dX12_ahead_74 ⟨Nat.le_of_ble_eq_true rfl, Nat.le_of_ble_eq_true rfl⟩ (fun v_47 u_48 H locs hv_49 hP₀ hD₀ hS₀ => ?_)
              obtain ⟨r_50, rfl, he_51⟩ := hv_49
              refine W.eq (g2 := F0 m 77 ls [.int r_50]) rfl ?_
              replace hP : va_P D classes [((Ma 12), .inl (tc 0, 46, .inl sv_26)), ((Ma 2), .inl (tc 0, 2400, .inl (Mf 2))), ((Ma 4), .inl (tc 0, 288, .inl (Mf 4))), ((Ma 5), .inl (tc 0, 6, .inl (Mf 5))), ((Ma 8), .inl (tc 1, 64, .inr (.inl sv_34))), ((Ma 9), .inl (tc 1, 13, .inr (.inl sv_35))), ((Ma 0), .inr (12, [.ref (Ma 1), .int (Mv 0), .int (Mv 1), .ref (Ma 2), .ref (Ma 3), .ref (Ma 4), .ref (Ma 5), .ref (Ma 6), .int (Mv 2), .int (Mv 3), .int (Mv 4), .int (Mv 5), .int (Mv 6), .int (Mv 7), .int (Mv 8), .ref (Ma 7), .int (Mv 9), .ref (Ma 8), .int sv_33, .ref (Ma 9), .ref (Ma 10), .int (Mv 11), .int (Mv 12), .int (Mv 13), .ref (Ma 11), .int (Mv 14), .ref (Ma 12), .ref (Ma 13), .ref (Ma 14), .ref (Ma 15), .ref (Ma 16), .long (Mj 0), .ref (Ma 17), .ref (Ma 18), .ref (Ma 19), .ref (Ma 20)])), ((Ma 10), .inl (tc 0, 126, .inl sv_36))] H := hP₀
              replace hD : va_D A [((Ma 12), .inl (tc 0, 46, .inl sv_26)), ((Ma 2), .inl (tc 0, 2400, .inl (Mf 2))), ((Ma 4), .inl (tc 0, 288, .inl (Mf 4))), ((Ma 5), .inl (tc 0, 6, .inl (Mf 5))), ((Ma 8), .inl (tc 1, 64, .inr (.inl sv_34))), ((Ma 9), .inl (tc 1, 13, .inr (.inl sv_35))), ((Ma 0), .inr (12, [.ref (Ma 1), .int (Mv 0), .int (Mv 1), .ref (Ma 2), .ref (Ma 3), .ref (Ma 4), .ref (Ma 5), .ref (Ma 6), .int (Mv 2), .int (Mv 3), .int (Mv 4), .int (Mv 5), .int (Mv 6), .int (Mv 7), .int (Mv 8), .ref (Ma 7), .int (Mv 9), .ref (Ma 8), .int sv_33, .ref (Ma 9), .ref (Ma 10), .int (Mv 11), .int (Mv 12), .int (Mv 13), .ref (Ma 11), .int (Mv 14), .ref (Ma 12), .ref (Ma 13), .ref (Ma 14), .ref (Ma 15), .ref (Ma 16), .long (Mj 0), .ref (Ma 17), .ref (Ma 18), .ref (Ma 19), .ref (Ma 20)])), ((Ma 10), .inl (tc 0, 126, .inl sv_36))] := hD₀
              replace hS := hS₀
              clear hP₀ hD₀ hS₀
              refine lv_goto (tgt := 87) hx hb dX12_ahead_77 (by decide) ?_
              refine lv_istore (lv' := [(4, .int r_50), (0, .ref (Ma 0)), (1, .int x1), (2, .int x2), (3, .int x3)]) hx hb dX12_ahead_87 hl (by decide) rfl (fun ls hl₀ => ?_)
              replace hl := hl₀
              clear hl₀
              refine lv_aload_n hx hb dX12_ahead_89 rfl (lv_at hl 1 rfl) ?_
              refine cV (a := (Ma 0)) (As := []) (rest := []) (wr := [((Ma 2), .inl (tc 0, 2400, .inl (Mf 2))), ((Ma 4), .inl (tc 0, 288, .inl (Mf 4))), ((Ma 5), .inl (tc 0, 6, .inl (Mf 5))), ((Ma 8), .inl (tc 1, 64, .inr (.inl sv_34))), ((Ma 9), .inl (tc 1, 13, .inr (.inl sv_35)))]) ⟨hx, hb, hml, hown, hts⟩ hK hX hA (cu_X12_laysBack l D tc sk (Ma 0) (Ma 1) (Ma 2) (Ma 3) (Ma 4) (Ma 5) (Ma 6) (Ma 7) (Ma 8) (Ma 9) (Ma 10) (Ma 11) (Ma 12) (Ma 13) (Ma 14) (Ma 15) (Ma 16) (Ma 17) (Ma 18) (Ma 19) (Ma 20) (Mv 0) (Mv 1) (Mv 2) (Mv 3) (Mv 4) (Mv 5) (Mv 6) (Mv 7) (Mv 8) (Mv 9) sv_33 (Mv 11) (Mv 12) (Mv 13) (Mv 14) sv_36 sv_26 (Mj 0) pf_37.1 pf_27) k_1513 k_1510 k_1512 k_82 k_106 pl_X12_laysBack ⟨Nat.le_of_ble_eq_true rfl, Nat.le_of_ble_eq_true rfl⟩ rfl rfl (va_recv hK hP (ci := 12) (q0 := 6) rfl rfl) hP hD hS [6, 7, 0] [1, 2, 3, 4, 5] rfl rfl rfl rfl rfl (by decide) rfl hl.1 rfl (Nat.le_of_ble_eq_true rfl) dX12_ahead_90 ⟨Nat.le_of_ble_eq_true rfl, Nat.le_of_ble_eq_true rfl⟩ (fun v_53 u_54 H locs hv_55 hP₀ hD₀ hS₀ => ?_)
              obtain ⟨sv_56, rfl⟩ : ∃ z, z = u_54 := ⟨_, rfl⟩
              obtain ⟨rfl, pf_57⟩ := hv_55
              have pf_57 : SaidD T sv_56 999 := pf_57
              have ar_pf_57 := SaidD.al pf_57
              refine W.eq (g2 := F0 m 93 ls []) rfl ?_
              replace hP : va_P D classes [((Ma 2), .inl (tc 0, 2400, .inl (Mf 2))), ((Ma 4), .inl (tc 0, 288, .inl (Mf 4))), ((Ma 5), .inl (tc 0, 6, .inl (Mf 5))), ((Ma 8), .inl (tc 1, 64, .inr (.inl sv_34))), ((Ma 9), .inl (tc 1, 13, .inr (.inl sv_35))), ((Ma 0), .inr (12, [.ref (Ma 1), .int (Mv 0), .int (Mv 1), .ref (Ma 2), .ref (Ma 3), .ref (Ma 4), .ref (Ma 5), .ref (Ma 6), .int (Mv 2), .int (Mv 3), .int (Mv 4), .int (Mv 5), .int (Mv 6), .int (Mv 7), .int (Mv 8), .ref (Ma 7), .int (Mv 9), .ref (Ma 8), .int sv_33, .ref (Ma 9), .ref (Ma 10), .int (Mv 11), .int (Mv 12), .int (Mv 13), .ref (Ma 11), .int (Mv 14), .ref (Ma 12), .ref (Ma 13), .ref (Ma 14), .ref (Ma 15), .ref (Ma 16), .long (Mj 0), .ref (Ma 17), .ref (Ma 18), .ref (Ma 19), .ref (Ma 20)])), ((Ma 10), .inl (tc 0, 126, .inl sv_56)), ((Ma 12), .inl (tc 0, 46, .inl sv_26))] H := hP₀
              replace hD : va_D A [((Ma 2), .inl (tc 0, 2400, .inl (Mf 2))), ((Ma 4), .inl (tc 0, 288, .inl (Mf 4))), ((Ma 5), .inl (tc 0, 6, .inl (Mf 5))), ((Ma 8), .inl (tc 1, 64, .inr (.inl sv_34))), ((Ma 9), .inl (tc 1, 13, .inr (.inl sv_35))), ((Ma 0), .inr (12, [.ref (Ma 1), .int (Mv 0), .int (Mv 1), .ref (Ma 2), .ref (Ma 3), .ref (Ma 4), .ref (Ma 5), .ref (Ma 6), .int (Mv 2), .int (Mv 3), .int (Mv 4), .int (Mv 5), .int (Mv 6), .int (Mv 7), .int (Mv 8), .ref (Ma 7), .int (Mv 9), .ref (Ma 8), .int sv_33, .ref (Ma 9), .ref (Ma 10), .int (Mv 11), .int (Mv 12), .int (Mv 13), .ref (Ma 11), .int (Mv 14), .ref (Ma 12), .ref (Ma 13), .ref (Ma 14), .ref (Ma 15), .ref (Ma 16), .long (Mj 0), .ref (Ma 17), .ref (Ma 18), .ref (Ma 19), .ref (Ma 20)])), ((Ma 10), .inl (tc 0, 126, .inl sv_56)), ((Ma 12), .inl (tc 0, 46, .inl sv_26))] := hD₀
              replace hS := hS₀
              clear hP₀ hD₀ hS₀
              refine lv_iload hx hb dX12_ahead_93 (lv_at hl 0 rfl) ?_
              exact retI (v := r_50) hx hb hr hlk (rfl) hP hD hS (sv_33, sv_34, sv_35, sv_56, sv_26) ⟨_, rfl, trivial, pf_57⟩ [5, 0, 1, 2, 3, 4, 6, 7] rfl rfl dX12_ahead_95 (Nat.le_of_ble_eq_true rfl) (Nat.le_of_ble_eq_true rfl) rfl
          · skip
            refine lv_aload_n hx hb dX12_ahead_59 rfl (lv_at hl 0 rfl) ?_
            refine lv_iload_n hx hb dX12_ahead_60 rfl (lv_at hl 1 rfl) ?_
            have ha_58 : 0 ≤ x1.toInt ∧ x1.toInt < 6 := by
              have z_1 : ¬ (r_4 : Int32).toInt = (0 : Int32).toInt := fun z => c_7 (Int32.toInt_inj.mp z)
              have z_2 : ¬ (r_11 : Int32).toInt = (0 : Int32).toInt := fun z => c_14 (Int32.toInt_inj.mp z)
              have z_3 : ¬ (r_18 : Int32).toInt = (0 : Int32).toInt := fun z => c_21 (Int32.toInt_inj.mp z)
              have z_4 := Int32.le_iff_toInt_le.mp c_22
              have z_5 := congrArg Int32.toInt c_38
              have y_0 : (0 : Int32).toInt = 0 := by decide
              have y_2 : (2 : Int32).toInt = 2 := by decide
              refine ⟨?_, ?_⟩ <;> omega
            refine cV (a := (Ma 0)) (As := [.int x1]) (rest := []) (wr := [((Ma 12), .inl (tc 0, 46, .inl sv_26)), ((Ma 2), .inl (tc 0, 2400, .inl (Mf 2))), ((Ma 4), .inl (tc 0, 288, .inl (Mf 4))), ((Ma 5), .inl (tc 0, 6, .inl (Mf 5))), ((Ma 8), .inl (tc 1, 64, .inr (.inl sv_34))), ((Ma 9), .inl (tc 1, 13, .inr (.inl sv_35)))]) ⟨hx, hb, hml, hown, hts⟩ hK hX hA (cu_X12_temperOf l D tc sk (Ma 0) (Ma 1) (Ma 2) (Ma 3) (Ma 4) (Ma 5) (Ma 6) (Ma 7) (Ma 8) (Ma 9) (Ma 10) (Ma 11) (Ma 12) (Ma 13) (Ma 14) (Ma 15) (Ma 16) (Ma 17) (Ma 18) (Ma 19) (Ma 20) (Mv 0) (Mv 1) (Mv 2) (Mv 3) (Mv 4) (Mv 5) (Mv 6) (Mv 7) (Mv 8) (Mv 9) sv_33 (Mv 11) (Mv 12) (Mv 13) (Mv 14) sv_36 (Mj 0) x1 ha_58) k_1379 k_1376 k_1378 k_59 k_106 pl_X12_temperOf ⟨Nat.le_of_ble_eq_true rfl, Nat.le_of_ble_eq_true rfl⟩ rfl rfl (va_recv hK hP (ci := 12) (q0 := 1) rfl rfl) hP hD hS [1, 7] [0, 2, 3, 4, 5, 6] rfl rfl rfl rfl rfl (by decide) rfl hl.1 rfl (Nat.le_of_ble_eq_true rfl) dX12_ahead_61 ⟨Nat.le_of_ble_eq_true rfl, Nat.le_of_ble_eq_true rfl⟩ (fun v_59 u_60 H locs hv_61 hP₀ hD₀ hS₀ => ?_)
            obtain ⟨r_62, rfl, he_63⟩ := hv_61
            refine W.eq (g2 := F0 m 64 ls [.int r_62]) rfl ?_
            replace hP : va_P D classes [((Ma 12), .inl (tc 0, 46, .inl sv_26)), ((Ma 2), .inl (tc 0, 2400, .inl (Mf 2))), ((Ma 4), .inl (tc 0, 288, .inl (Mf 4))), ((Ma 5), .inl (tc 0, 6, .inl (Mf 5))), ((Ma 8), .inl (tc 1, 64, .inr (.inl sv_34))), ((Ma 9), .inl (tc 1, 13, .inr (.inl sv_35))), ((Ma 0), .inr (12, [.ref (Ma 1), .int (Mv 0), .int (Mv 1), .ref (Ma 2), .ref (Ma 3), .ref (Ma 4), .ref (Ma 5), .ref (Ma 6), .int (Mv 2), .int (Mv 3), .int (Mv 4), .int (Mv 5), .int (Mv 6), .int (Mv 7), .int (Mv 8), .ref (Ma 7), .int (Mv 9), .ref (Ma 8), .int sv_33, .ref (Ma 9), .ref (Ma 10), .int (Mv 11), .int (Mv 12), .int (Mv 13), .ref (Ma 11), .int (Mv 14), .ref (Ma 12), .ref (Ma 13), .ref (Ma 14), .ref (Ma 15), .ref (Ma 16), .long (Mj 0), .ref (Ma 17), .ref (Ma 18), .ref (Ma 19), .ref (Ma 20)])), ((Ma 10), .inl (tc 0, 126, .inl sv_36))] H := hP₀
            replace hD : va_D A [((Ma 12), .inl (tc 0, 46, .inl sv_26)), ((Ma 2), .inl (tc 0, 2400, .inl (Mf 2))), ((Ma 4), .inl (tc 0, 288, .inl (Mf 4))), ((Ma 5), .inl (tc 0, 6, .inl (Mf 5))), ((Ma 8), .inl (tc 1, 64, .inr (.inl sv_34))), ((Ma 9), .inl (tc 1, 13, .inr (.inl sv_35))), ((Ma 0), .inr (12, [.ref (Ma 1), .int (Mv 0), .int (Mv 1), .ref (Ma 2), .ref (Ma 3), .ref (Ma 4), .ref (Ma 5), .ref (Ma 6), .int (Mv 2), .int (Mv 3), .int (Mv 4), .int (Mv 5), .int (Mv 6), .int (Mv 7), .int (Mv 8), .ref (Ma 7), .int (Mv 9), .ref (Ma 8), .int sv_33, .ref (Ma 9), .ref (Ma 10), .int (Mv 11), .int (Mv 12), .int (Mv 13), .ref (Ma 11), .int (Mv 14), .ref (Ma 12), .ref (Ma 13), .ref (Ma 14), .ref (Ma 15), .ref (Ma 16), .long (Mj 0), .ref (Ma 17), .ref (Ma 18), .ref (Ma 19), .ref (Ma 20)])), ((Ma 10), .inl (tc 0, 126, .inl sv_36))] := hD₀
            replace hS := hS₀
            clear hP₀ hD₀ hS₀
            refine lv_goto (tgt := 87) hx hb dX12_ahead_64 (by decide) ?_
            refine lv_istore (lv' := [(4, .int r_62), (0, .ref (Ma 0)), (1, .int x1), (2, .int x2), (3, .int x3)]) hx hb dX12_ahead_87 hl (by decide) rfl (fun ls hl₀ => ?_)
            replace hl := hl₀
            clear hl₀
            refine lv_aload_n hx hb dX12_ahead_89 rfl (lv_at hl 1 rfl) ?_
            refine cV (a := (Ma 0)) (As := []) (rest := []) (wr := [((Ma 2), .inl (tc 0, 2400, .inl (Mf 2))), ((Ma 4), .inl (tc 0, 288, .inl (Mf 4))), ((Ma 5), .inl (tc 0, 6, .inl (Mf 5))), ((Ma 8), .inl (tc 1, 64, .inr (.inl sv_34))), ((Ma 9), .inl (tc 1, 13, .inr (.inl sv_35)))]) ⟨hx, hb, hml, hown, hts⟩ hK hX hA (cu_X12_laysBack l D tc sk (Ma 0) (Ma 1) (Ma 2) (Ma 3) (Ma 4) (Ma 5) (Ma 6) (Ma 7) (Ma 8) (Ma 9) (Ma 10) (Ma 11) (Ma 12) (Ma 13) (Ma 14) (Ma 15) (Ma 16) (Ma 17) (Ma 18) (Ma 19) (Ma 20) (Mv 0) (Mv 1) (Mv 2) (Mv 3) (Mv 4) (Mv 5) (Mv 6) (Mv 7) (Mv 8) (Mv 9) sv_33 (Mv 11) (Mv 12) (Mv 13) (Mv 14) sv_36 sv_26 (Mj 0) pf_37.1 pf_27) k_1513 k_1510 k_1512 k_82 k_106 pl_X12_laysBack ⟨Nat.le_of_ble_eq_true rfl, Nat.le_of_ble_eq_true rfl⟩ rfl rfl (va_recv hK hP (ci := 12) (q0 := 6) rfl rfl) hP hD hS [6, 7, 0] [1, 2, 3, 4, 5] rfl rfl rfl rfl rfl (by decide) rfl hl.1 rfl (Nat.le_of_ble_eq_true rfl) dX12_ahead_90 ⟨Nat.le_of_ble_eq_true rfl, Nat.le_of_ble_eq_true rfl⟩ (fun v_65 u_66 H locs hv_67 hP₀ hD₀ hS₀ => ?_)
            obtain ⟨sv_68, rfl⟩ : ∃ z, z = u_66 := ⟨_, rfl⟩
            obtain ⟨rfl, pf_69⟩ := hv_67
            have pf_69 : SaidD T sv_68 999 := pf_69
            have ar_pf_69 := SaidD.al pf_69
            refine W.eq (g2 := F0 m 93 ls []) rfl ?_
            replace hP : va_P D classes [((Ma 2), .inl (tc 0, 2400, .inl (Mf 2))), ((Ma 4), .inl (tc 0, 288, .inl (Mf 4))), ((Ma 5), .inl (tc 0, 6, .inl (Mf 5))), ((Ma 8), .inl (tc 1, 64, .inr (.inl sv_34))), ((Ma 9), .inl (tc 1, 13, .inr (.inl sv_35))), ((Ma 0), .inr (12, [.ref (Ma 1), .int (Mv 0), .int (Mv 1), .ref (Ma 2), .ref (Ma 3), .ref (Ma 4), .ref (Ma 5), .ref (Ma 6), .int (Mv 2), .int (Mv 3), .int (Mv 4), .int (Mv 5), .int (Mv 6), .int (Mv 7), .int (Mv 8), .ref (Ma 7), .int (Mv 9), .ref (Ma 8), .int sv_33, .ref (Ma 9), .ref (Ma 10), .int (Mv 11), .int (Mv 12), .int (Mv 13), .ref (Ma 11), .int (Mv 14), .ref (Ma 12), .ref (Ma 13), .ref (Ma 14), .ref (Ma 15), .ref (Ma 16), .long (Mj 0), .ref (Ma 17), .ref (Ma 18), .ref (Ma 19), .ref (Ma 20)])), ((Ma 10), .inl (tc 0, 126, .inl sv_68)), ((Ma 12), .inl (tc 0, 46, .inl sv_26))] H := hP₀
            replace hD : va_D A [((Ma 2), .inl (tc 0, 2400, .inl (Mf 2))), ((Ma 4), .inl (tc 0, 288, .inl (Mf 4))), ((Ma 5), .inl (tc 0, 6, .inl (Mf 5))), ((Ma 8), .inl (tc 1, 64, .inr (.inl sv_34))), ((Ma 9), .inl (tc 1, 13, .inr (.inl sv_35))), ((Ma 0), .inr (12, [.ref (Ma 1), .int (Mv 0), .int (Mv 1), .ref (Ma 2), .ref (Ma 3), .ref (Ma 4), .ref (Ma 5), .ref (Ma 6), .int (Mv 2), .int (Mv 3), .int (Mv 4), .int (Mv 5), .int (Mv 6), .int (Mv 7), .int (Mv 8), .ref (Ma 7), .int (Mv 9), .ref (Ma 8), .int sv_33, .ref (Ma 9), .ref (Ma 10), .int (Mv 11), .int (Mv 12), .int (Mv 13), .ref (Ma 11), .int (Mv 14), .ref (Ma 12), .ref (Ma 13), .ref (Ma 14), .ref (Ma 15), .ref (Ma 16), .long (Mj 0), .ref (Ma 17), .ref (Ma 18), .ref (Ma 19), .ref (Ma 20)])), ((Ma 10), .inl (tc 0, 126, .inl sv_68)), ((Ma 12), .inl (tc 0, 46, .inl sv_26))] := hD₀
            replace hS := hS₀
            clear hP₀ hD₀ hS₀
            refine lv_iload hx hb dX12_ahead_93 (lv_at hl 0 rfl) ?_
            exact retI (v := r_62) hx hb hr hlk (rfl) hP hD hS (sv_33, sv_34, sv_35, sv_68, sv_26) ⟨_, rfl, trivial, pf_69⟩ [5, 0, 1, 2, 3, 4, 6, 7] rfl rfl dX12_ahead_95 (Nat.le_of_ble_eq_true rfl) (Nat.le_of_ble_eq_true rfl) rfl
        · skip
          refine lv_aload_n hx hb dX12_ahead_36 rfl (lv_at hl 0 rfl) ?_
          refine lv_iload_n hx hb dX12_ahead_37 rfl (lv_at hl 1 rfl) ?_
          refine cV (a := (Ma 0)) (As := [.int x1]) (rest := []) (wr := [((Ma 2), .inl (tc 0, 2400, .inl (Mf 2))), ((Ma 4), .inl (tc 0, 288, .inl (Mf 4))), ((Ma 5), .inl (tc 0, 6, .inl (Mf 5))), ((Ma 8), .inl (tc 1, 64, .inr (.inl (Mg 8)))), ((Ma 9), .inl (tc 1, 13, .inr (.inl (Mg 9)))), ((Ma 12), .inl (tc 0, 46, .inl (Mf 12)))]) ⟨hx, hb, hml, hown, hts⟩ hK hX hA (cu_X12_isBuyer l D tc sk (Ma 0) (Ma 1) (Ma 2) (Ma 3) (Ma 4) (Ma 5) (Ma 6) (Ma 7) (Ma 8) (Ma 9) (Ma 10) (Ma 11) (Ma 12) (Ma 13) (Ma 14) (Ma 15) (Ma 16) (Ma 17) (Ma 18) (Ma 19) (Ma 20) (Mv 0) (Mv 1) (Mv 2) (Mv 3) (Mv 4) (Mv 5) (Mv 6) (Mv 7) (Mv 8) (Mv 9) (Mv 10) (Mv 11) (Mv 12) (Mv 13) (Mv 14) (Mf 10) (Mj 0) x1 h_said.1) k_1375 k_1372 k_1374 k_58 k_106 pl_X12_isBuyer ⟨Nat.le_of_ble_eq_true rfl, Nat.le_of_ble_eq_true rfl⟩ rfl rfl (va_recv hK hP (ci := 12) (q0 := 6) rfl rfl) hP hD hS [6, 7] [0, 1, 2, 3, 4, 5] rfl rfl rfl rfl rfl (by decide) rfl hl.1 rfl (Nat.le_of_ble_eq_true rfl) dX12_ahead_38 ⟨Nat.le_of_ble_eq_true rfl, Nat.le_of_ble_eq_true rfl⟩ (fun v_70 u_71 H locs hv_72 hP₀ hD₀ hS₀ => ?_)
          obtain ⟨r_73, rfl, he_74⟩ := hv_72
          have he_74 : (r_73.toInt = 0 ∨ (r_73.toInt = 1 ∧ 0 ≤ x1.toInt ∧ x1.toInt < ((Mf 10) 3).toInt)) := he_74
          refine W.eq (g2 := F0 m 41 ls [.int r_73]) rfl ?_
          replace hP : va_P D classes [((Ma 2), .inl (tc 0, 2400, .inl (Mf 2))), ((Ma 4), .inl (tc 0, 288, .inl (Mf 4))), ((Ma 5), .inl (tc 0, 6, .inl (Mf 5))), ((Ma 8), .inl (tc 1, 64, .inr (.inl (Mg 8)))), ((Ma 9), .inl (tc 1, 13, .inr (.inl (Mg 9)))), ((Ma 12), .inl (tc 0, 46, .inl (Mf 12))), ((Ma 0), .inr (12, [.ref (Ma 1), .int (Mv 0), .int (Mv 1), .ref (Ma 2), .ref (Ma 3), .ref (Ma 4), .ref (Ma 5), .ref (Ma 6), .int (Mv 2), .int (Mv 3), .int (Mv 4), .int (Mv 5), .int (Mv 6), .int (Mv 7), .int (Mv 8), .ref (Ma 7), .int (Mv 9), .ref (Ma 8), .int (Mv 10), .ref (Ma 9), .ref (Ma 10), .int (Mv 11), .int (Mv 12), .int (Mv 13), .ref (Ma 11), .int (Mv 14), .ref (Ma 12), .ref (Ma 13), .ref (Ma 14), .ref (Ma 15), .ref (Ma 16), .long (Mj 0), .ref (Ma 17), .ref (Ma 18), .ref (Ma 19), .ref (Ma 20)])), ((Ma 10), .inl (tc 0, 126, .inl (Mf 10)))] H := hP₀
          replace hD : va_D A [((Ma 2), .inl (tc 0, 2400, .inl (Mf 2))), ((Ma 4), .inl (tc 0, 288, .inl (Mf 4))), ((Ma 5), .inl (tc 0, 6, .inl (Mf 5))), ((Ma 8), .inl (tc 1, 64, .inr (.inl (Mg 8)))), ((Ma 9), .inl (tc 1, 13, .inr (.inl (Mg 9)))), ((Ma 12), .inl (tc 0, 46, .inl (Mf 12))), ((Ma 0), .inr (12, [.ref (Ma 1), .int (Mv 0), .int (Mv 1), .ref (Ma 2), .ref (Ma 3), .ref (Ma 4), .ref (Ma 5), .ref (Ma 6), .int (Mv 2), .int (Mv 3), .int (Mv 4), .int (Mv 5), .int (Mv 6), .int (Mv 7), .int (Mv 8), .ref (Ma 7), .int (Mv 9), .ref (Ma 8), .int (Mv 10), .ref (Ma 9), .ref (Ma 10), .int (Mv 11), .int (Mv 12), .int (Mv 13), .ref (Ma 11), .int (Mv 14), .ref (Ma 12), .ref (Ma 13), .ref (Ma 14), .ref (Ma 15), .ref (Ma 16), .long (Mj 0), .ref (Ma 17), .ref (Ma 18), .ref (Ma 19), .ref (Ma 20)])), ((Ma 10), .inl (tc 0, 126, .inl (Mf 10)))] := hD₀
          replace hS := hS₀
          clear hP₀ hD₀ hS₀
          refine lv_if_ne (tgt := 46) hx hb dX12_ahead_41 (by decide) (fun c_76 => ?_) (fun c_76 => ?_)
          · skip
            refine lv_aload_n hx hb dX12_ahead_46 rfl (lv_at hl 0 rfl) ?_
            refine cV (a := (Ma 0)) (As := []) (rest := []) (wr := [((Ma 2), .inl (tc 0, 2400, .inl (Mf 2))), ((Ma 4), .inl (tc 0, 288, .inl (Mf 4))), ((Ma 5), .inl (tc 0, 6, .inl (Mf 5))), ((Ma 8), .inl (tc 1, 64, .inr (.inl (Mg 8)))), ((Ma 9), .inl (tc 1, 13, .inr (.inl (Mg 9))))]) ⟨hx, hb, hml, hown, hts⟩ hK hX hA (cu_X12_keeps l D tc sk (Ma 0) (Ma 1) (Ma 2) (Ma 3) (Ma 4) (Ma 5) (Ma 6) (Ma 7) (Ma 8) (Ma 9) (Ma 10) (Ma 11) (Ma 12) (Ma 13) (Ma 14) (Ma 15) (Ma 16) (Ma 17) (Ma 18) (Ma 19) (Ma 20) (Mv 0) (Mv 1) (Mv 2) (Mv 3) (Mv 4) (Mv 5) (Mv 6) (Mv 7) (Mv 8) (Mv 9) (Mv 10) (Mv 11) (Mv 12) (Mv 13) (Mv 14) (Mf 10) (Mf 12) (Mj 0) h_said) k_1505 k_1502 k_1504 k_80 k_106 pl_X12_keeps ⟨Nat.le_of_ble_eq_true rfl, Nat.le_of_ble_eq_true rfl⟩ rfl rfl (va_recv hK hP (ci := 12) (q0 := 6) rfl rfl) hP hD hS [6, 7, 5] [0, 1, 2, 3, 4] rfl rfl rfl rfl rfl (by decide) rfl hl.1 rfl (Nat.le_of_ble_eq_true rfl) dX12_ahead_47 ⟨Nat.le_of_ble_eq_true rfl, Nat.le_of_ble_eq_true rfl⟩ (fun v_77 u_78 H locs hv_79 hP₀ hD₀ hS₀ => ?_)
            obtain ⟨sv_80, rfl⟩ : ∃ z, z = u_78 := ⟨_, rfl⟩
            obtain ⟨rfl, pf_81⟩ := hv_79
            have pf_81 : KeptD sv_80 := pf_81
            refine W.eq (g2 := F0 m 50 ls []) rfl ?_
            replace hP : va_P D classes [((Ma 2), .inl (tc 0, 2400, .inl (Mf 2))), ((Ma 4), .inl (tc 0, 288, .inl (Mf 4))), ((Ma 5), .inl (tc 0, 6, .inl (Mf 5))), ((Ma 8), .inl (tc 1, 64, .inr (.inl (Mg 8)))), ((Ma 9), .inl (tc 1, 13, .inr (.inl (Mg 9)))), ((Ma 0), .inr (12, [.ref (Ma 1), .int (Mv 0), .int (Mv 1), .ref (Ma 2), .ref (Ma 3), .ref (Ma 4), .ref (Ma 5), .ref (Ma 6), .int (Mv 2), .int (Mv 3), .int (Mv 4), .int (Mv 5), .int (Mv 6), .int (Mv 7), .int (Mv 8), .ref (Ma 7), .int (Mv 9), .ref (Ma 8), .int (Mv 10), .ref (Ma 9), .ref (Ma 10), .int (Mv 11), .int (Mv 12), .int (Mv 13), .ref (Ma 11), .int (Mv 14), .ref (Ma 12), .ref (Ma 13), .ref (Ma 14), .ref (Ma 15), .ref (Ma 16), .long (Mj 0), .ref (Ma 17), .ref (Ma 18), .ref (Ma 19), .ref (Ma 20)])), ((Ma 10), .inl (tc 0, 126, .inl (Mf 10))), ((Ma 12), .inl (tc 0, 46, .inl sv_80))] H := hP₀
            replace hD : va_D A [((Ma 2), .inl (tc 0, 2400, .inl (Mf 2))), ((Ma 4), .inl (tc 0, 288, .inl (Mf 4))), ((Ma 5), .inl (tc 0, 6, .inl (Mf 5))), ((Ma 8), .inl (tc 1, 64, .inr (.inl (Mg 8)))), ((Ma 9), .inl (tc 1, 13, .inr (.inl (Mg 9)))), ((Ma 0), .inr (12, [.ref (Ma 1), .int (Mv 0), .int (Mv 1), .ref (Ma 2), .ref (Ma 3), .ref (Ma 4), .ref (Ma 5), .ref (Ma 6), .int (Mv 2), .int (Mv 3), .int (Mv 4), .int (Mv 5), .int (Mv 6), .int (Mv 7), .int (Mv 8), .ref (Ma 7), .int (Mv 9), .ref (Ma 8), .int (Mv 10), .ref (Ma 9), .ref (Ma 10), .int (Mv 11), .int (Mv 12), .int (Mv 13), .ref (Ma 11), .int (Mv 14), .ref (Ma 12), .ref (Ma 13), .ref (Ma 14), .ref (Ma 15), .ref (Ma 16), .long (Mj 0), .ref (Ma 17), .ref (Ma 18), .ref (Ma 19), .ref (Ma 20)])), ((Ma 10), .inl (tc 0, 126, .inl (Mf 10))), ((Ma 12), .inl (tc 0, 46, .inl sv_80))] := hD₀
            replace hS := hS₀
            clear hP₀ hD₀ hS₀
            refine lv_aload_n hx hb dX12_ahead_50 rfl (lv_at hl 0 rfl) ?_
            refine lv_iload_n hx hb dX12_ahead_51 rfl (lv_at hl 2 rfl) ?_
            have ha_82 : (999 : Int) ≤ 1000 := by
              have z_1 : ¬ (r_4 : Int32).toInt = (0 : Int32).toInt := fun z => c_7 (Int32.toInt_inj.mp z)
              have z_2 : ¬ (r_11 : Int32).toInt = (0 : Int32).toInt := fun z => c_14 (Int32.toInt_inj.mp z)
              have z_3 : ¬ (r_18 : Int32).toInt = (0 : Int32).toInt := fun z => c_21 (Int32.toInt_inj.mp z)
              have z_4 := Int32.lt_iff_toInt_lt.mp (Int32.not_le.mp c_22)
              have z_5 : ¬ (r_73 : Int32).toInt = (0 : Int32).toInt := fun z => c_76 (Int32.toInt_inj.mp z)
              have y_0 : (0 : Int32).toInt = 0 := by decide
              have y_2 : (2 : Int32).toInt = 2 := by decide
              have y_999 : (999 : Int32).toInt = 999 := by decide
              omega
            have ha_83 : 0 ≤ x2.toInt ∧ x2.toInt ≤ 1000 := by
              have z_1 : ¬ (r_4 : Int32).toInt = (0 : Int32).toInt := fun z => c_7 (Int32.toInt_inj.mp z)
              have z_2 : ¬ (r_11 : Int32).toInt = (0 : Int32).toInt := fun z => c_14 (Int32.toInt_inj.mp z)
              have z_3 : ¬ (r_18 : Int32).toInt = (0 : Int32).toInt := fun z => c_21 (Int32.toInt_inj.mp z)
              have z_4 := Int32.lt_iff_toInt_lt.mp (Int32.not_le.mp c_22)
              have z_5 : ¬ (r_73 : Int32).toInt = (0 : Int32).toInt := fun z => c_76 (Int32.toInt_inj.mp z)
              have y_0 : (0 : Int32).toInt = 0 := by decide
              have y_2 : (2 : Int32).toInt = 2 := by decide
              refine ⟨?_, ?_⟩ <;> omega
            refine cV (a := (Ma 0)) (As := [.int x2]) (rest := []) (wr := [((Ma 12), .inl (tc 0, 46, .inl sv_80))]) ⟨hx, hb, hml, hown, hts⟩ hK hX hA (cu_X12_passesAll l D tc sk (Ma 0) (Ma 1) (Ma 2) (Ma 3) (Ma 4) (Ma 5) (Ma 6) (Ma 7) (Ma 8) (Ma 9) (Ma 10) (Ma 11) (Ma 12) (Ma 13) (Ma 14) (Ma 15) (Ma 16) (Ma 17) (Ma 18) (Ma 19) (Ma 20) (Mv 0) (Mv 1) (Mv 2) (Mv 3) (Mv 4) (Mv 5) (Mv 6) (Mv 7) (Mv 8) (Mv 9) (Mv 10) (Mv 11) (Mv 12) (Mv 13) (Mv 14) (Mf 2) (Mf 4) (Mf 5) (Mf 10) (Mj 0) (Mg 8) (Mg 9) x2 999 h_said ha_82 h_rul h_frc ha_83) k_1509 k_1506 k_1508 k_81 k_106 pl_X12_passesAll ⟨Nat.le_of_ble_eq_true rfl, Nat.le_of_ble_eq_true rfl⟩ rfl rfl (va_recv hK hP (ci := 12) (q0 := 5) rfl rfl) hP hD hS [5, 0, 1, 2, 3, 4, 6] [7] rfl rfl rfl rfl rfl (by decide) rfl hl.1 rfl (Nat.le_of_ble_eq_true rfl) dX12_ahead_52 ⟨Nat.le_of_ble_eq_true rfl, Nat.le_of_ble_eq_true rfl⟩ (fun v_84 u_85 H locs hv_86 hP₀ hD₀ hS₀ => ?_)
            obtain ⟨sv_87, sv_88, sv_89, sv_90⟩ := u_85
            obtain ⟨rfl, pf_91⟩ := hv_86
            have pf_91 : SaidD T sv_90 ((999 : Int) + x2.toInt) := pf_91
            have ar_pf_91 := SaidD.al pf_91
            refine W.eq (g2 := F0 m 55 ls []) rfl ?_
            replace hP : va_P D classes [((Ma 12), .inl (tc 0, 46, .inl sv_80)), ((Ma 0), .inr (12, [.ref (Ma 1), .int (Mv 0), .int (Mv 1), .ref (Ma 2), .ref (Ma 3), .ref (Ma 4), .ref (Ma 5), .ref (Ma 6), .int (Mv 2), .int (Mv 3), .int (Mv 4), .int (Mv 5), .int (Mv 6), .int (Mv 7), .int (Mv 8), .ref (Ma 7), .int (Mv 9), .ref (Ma 8), .int sv_87, .ref (Ma 9), .ref (Ma 10), .int (Mv 11), .int (Mv 12), .int (Mv 13), .ref (Ma 11), .int (Mv 14), .ref (Ma 12), .ref (Ma 13), .ref (Ma 14), .ref (Ma 15), .ref (Ma 16), .long (Mj 0), .ref (Ma 17), .ref (Ma 18), .ref (Ma 19), .ref (Ma 20)])), ((Ma 2), .inl (tc 0, 2400, .inl (Mf 2))), ((Ma 4), .inl (tc 0, 288, .inl (Mf 4))), ((Ma 5), .inl (tc 0, 6, .inl (Mf 5))), ((Ma 8), .inl (tc 1, 64, .inr (.inl sv_88))), ((Ma 9), .inl (tc 1, 13, .inr (.inl sv_89))), ((Ma 10), .inl (tc 0, 126, .inl sv_90))] H := hP₀
            replace hD : va_D A [((Ma 12), .inl (tc 0, 46, .inl sv_80)), ((Ma 0), .inr (12, [.ref (Ma 1), .int (Mv 0), .int (Mv 1), .ref (Ma 2), .ref (Ma 3), .ref (Ma 4), .ref (Ma 5), .ref (Ma 6), .int (Mv 2), .int (Mv 3), .int (Mv 4), .int (Mv 5), .int (Mv 6), .int (Mv 7), .int (Mv 8), .ref (Ma 7), .int (Mv 9), .ref (Ma 8), .int sv_87, .ref (Ma 9), .ref (Ma 10), .int (Mv 11), .int (Mv 12), .int (Mv 13), .ref (Ma 11), .int (Mv 14), .ref (Ma 12), .ref (Ma 13), .ref (Ma 14), .ref (Ma 15), .ref (Ma 16), .long (Mj 0), .ref (Ma 17), .ref (Ma 18), .ref (Ma 19), .ref (Ma 20)])), ((Ma 2), .inl (tc 0, 2400, .inl (Mf 2))), ((Ma 4), .inl (tc 0, 288, .inl (Mf 4))), ((Ma 5), .inl (tc 0, 6, .inl (Mf 5))), ((Ma 8), .inl (tc 1, 64, .inr (.inl sv_88))), ((Ma 9), .inl (tc 1, 13, .inr (.inl sv_89))), ((Ma 10), .inl (tc 0, 126, .inl sv_90))] := hD₀
            replace hS := hS₀
            clear hP₀ hD₀ hS₀
            refine lv_iload_n hx hb dX12_ahead_55 rfl (lv_at hl 3 rfl) ?_
            refine lv_if_ne (tgt := 67) hx hb dX12_ahead_56 (by decide) (fun c_92 => ?_) (fun c_92 => ?_)
            · skip
              refine lv_iload_n hx hb dX12_ahead_67 rfl (lv_at hl 3 rfl) ?_
              refine lv_iconst (v := 1) hx hb dX12_ahead_68 (by decide) ?_
              refine lv_icmp_ne (tgt := 80) hx hb dX12_ahead_69 (by decide) (fun c_93 => ?_) (fun c_93 => ?_)
              · skip
                refine lv_aload_n hx hb dX12_ahead_80 rfl (lv_at hl 0 rfl) ?_
                refine gf_X12_39 hx hb hts hown hK hP 1 rfl rfl dX12_ahead_81 ?_
                refine lv_bipush (v := 11) hx hb dX12_ahead_84 (by decide) ?_
                refine va_iald hx hb hK hP 7 0 rfl rfl (vin_dec (by decide +kernel)) dX12_ahead_86 ?_
                refine lv_topi (fun x_94 ex_94 => ?_)
                have lx_94 : x_94.toInt = (sv_90 11).toInt := congrArg Int32.toInt ex_94
                refine lv_istore (lv' := [(4, .int x_94), (0, .ref (Ma 0)), (1, .int x1), (2, .int x2), (3, .int x3)]) hx hb dX12_ahead_87 hl (by decide) rfl (fun ls hl₀ => ?_)
                replace hl := hl₀
                clear hl₀
                refine lv_aload_n hx hb dX12_ahead_89 rfl (lv_at hl 1 rfl) ?_
                refine cV (a := (Ma 0)) (As := []) (rest := []) (wr := [((Ma 2), .inl (tc 0, 2400, .inl (Mf 2))), ((Ma 4), .inl (tc 0, 288, .inl (Mf 4))), ((Ma 5), .inl (tc 0, 6, .inl (Mf 5))), ((Ma 8), .inl (tc 1, 64, .inr (.inl sv_88))), ((Ma 9), .inl (tc 1, 13, .inr (.inl sv_89)))]) ⟨hx, hb, hml, hown, hts⟩ hK hX hA (cu_X12_laysBack l D tc sk (Ma 0) (Ma 1) (Ma 2) (Ma 3) (Ma 4) (Ma 5) (Ma 6) (Ma 7) (Ma 8) (Ma 9) (Ma 10) (Ma 11) (Ma 12) (Ma 13) (Ma 14) (Ma 15) (Ma 16) (Ma 17) (Ma 18) (Ma 19) (Ma 20) (Mv 0) (Mv 1) (Mv 2) (Mv 3) (Mv 4) (Mv 5) (Mv 6) (Mv 7) (Mv 8) (Mv 9) sv_87 (Mv 11) (Mv 12) (Mv 13) (Mv 14) sv_90 sv_80 (Mj 0) pf_91.1 pf_81) k_1513 k_1510 k_1512 k_82 k_106 pl_X12_laysBack ⟨Nat.le_of_ble_eq_true rfl, Nat.le_of_ble_eq_true rfl⟩ rfl rfl (va_recv hK hP (ci := 12) (q0 := 1) rfl rfl) hP hD hS [1, 7, 0] [2, 3, 4, 5, 6] rfl rfl rfl rfl rfl (by decide) rfl hl.1 rfl (Nat.le_of_ble_eq_true rfl) dX12_ahead_90 ⟨Nat.le_of_ble_eq_true rfl, Nat.le_of_ble_eq_true rfl⟩ (fun v_95 u_96 H locs hv_97 hP₀ hD₀ hS₀ => ?_)
                obtain ⟨sv_98, rfl⟩ : ∃ z, z = u_96 := ⟨_, rfl⟩
                obtain ⟨rfl, pf_99⟩ := hv_97
                have pf_99 : SaidD T sv_98 999 := pf_99
                have ar_pf_99 := SaidD.al pf_99
                refine W.eq (g2 := F0 m 93 ls []) rfl ?_
                replace hP : va_P D classes [((Ma 2), .inl (tc 0, 2400, .inl (Mf 2))), ((Ma 4), .inl (tc 0, 288, .inl (Mf 4))), ((Ma 5), .inl (tc 0, 6, .inl (Mf 5))), ((Ma 8), .inl (tc 1, 64, .inr (.inl sv_88))), ((Ma 9), .inl (tc 1, 13, .inr (.inl sv_89))), ((Ma 0), .inr (12, [.ref (Ma 1), .int (Mv 0), .int (Mv 1), .ref (Ma 2), .ref (Ma 3), .ref (Ma 4), .ref (Ma 5), .ref (Ma 6), .int (Mv 2), .int (Mv 3), .int (Mv 4), .int (Mv 5), .int (Mv 6), .int (Mv 7), .int (Mv 8), .ref (Ma 7), .int (Mv 9), .ref (Ma 8), .int sv_87, .ref (Ma 9), .ref (Ma 10), .int (Mv 11), .int (Mv 12), .int (Mv 13), .ref (Ma 11), .int (Mv 14), .ref (Ma 12), .ref (Ma 13), .ref (Ma 14), .ref (Ma 15), .ref (Ma 16), .long (Mj 0), .ref (Ma 17), .ref (Ma 18), .ref (Ma 19), .ref (Ma 20)])), ((Ma 10), .inl (tc 0, 126, .inl sv_98)), ((Ma 12), .inl (tc 0, 46, .inl sv_80))] H := hP₀
                replace hD : va_D A [((Ma 2), .inl (tc 0, 2400, .inl (Mf 2))), ((Ma 4), .inl (tc 0, 288, .inl (Mf 4))), ((Ma 5), .inl (tc 0, 6, .inl (Mf 5))), ((Ma 8), .inl (tc 1, 64, .inr (.inl sv_88))), ((Ma 9), .inl (tc 1, 13, .inr (.inl sv_89))), ((Ma 0), .inr (12, [.ref (Ma 1), .int (Mv 0), .int (Mv 1), .ref (Ma 2), .ref (Ma 3), .ref (Ma 4), .ref (Ma 5), .ref (Ma 6), .int (Mv 2), .int (Mv 3), .int (Mv 4), .int (Mv 5), .int (Mv 6), .int (Mv 7), .int (Mv 8), .ref (Ma 7), .int (Mv 9), .ref (Ma 8), .int sv_87, .ref (Ma 9), .ref (Ma 10), .int (Mv 11), .int (Mv 12), .int (Mv 13), .ref (Ma 11), .int (Mv 14), .ref (Ma 12), .ref (Ma 13), .ref (Ma 14), .ref (Ma 15), .ref (Ma 16), .long (Mj 0), .ref (Ma 17), .ref (Ma 18), .ref (Ma 19), .ref (Ma 20)])), ((Ma 10), .inl (tc 0, 126, .inl sv_98)), ((Ma 12), .inl (tc 0, 46, .inl sv_80))] := hD₀
                replace hS := hS₀
                clear hP₀ hD₀ hS₀
                refine lv_iload hx hb dX12_ahead_93 (lv_at hl 0 rfl) ?_
                exact retI (v := x_94) hx hb hr hlk (rfl) hP hD hS (sv_87, sv_88, sv_89, sv_98, sv_80) ⟨_, rfl, trivial, pf_99⟩ [5, 0, 1, 2, 3, 4, 6, 7] rfl rfl dX12_ahead_95 (Nat.le_of_ble_eq_true rfl) (Nat.le_of_ble_eq_true rfl) rfl
              · skip
                refine lv_aload_n hx hb dX12_ahead_72 rfl (lv_at hl 0 rfl) ?_
                refine lv_iload_n hx hb dX12_ahead_73 rfl (lv_at hl 1 rfl) ?_
                have ha_100 : 0 ≤ x1.toInt ∧ x1.toInt < 6 := by
                  have z_1 : ¬ (r_4 : Int32).toInt = (0 : Int32).toInt := fun z => c_7 (Int32.toInt_inj.mp z)
                  have z_2 : ¬ (r_11 : Int32).toInt = (0 : Int32).toInt := fun z => c_14 (Int32.toInt_inj.mp z)
                  have z_3 : ¬ (r_18 : Int32).toInt = (0 : Int32).toInt := fun z => c_21 (Int32.toInt_inj.mp z)
                  have z_4 := Int32.lt_iff_toInt_lt.mp (Int32.not_le.mp c_22)
                  have z_5 : ¬ (r_73 : Int32).toInt = (0 : Int32).toInt := fun z => c_76 (Int32.toInt_inj.mp z)
                  have z_6 : ¬ (x3 : Int32).toInt = (0 : Int32).toInt := fun z => c_92 (Int32.toInt_inj.mp z)
                  have z_7 := congrArg Int32.toInt c_93
                  have y_0 : (0 : Int32).toInt = 0 := by decide
                  have y_1 : (1 : Int32).toInt = 1 := by decide
                  have y_2 : (2 : Int32).toInt = 2 := by decide
                  refine ⟨?_, ?_⟩ <;> omega
                refine cV (a := (Ma 0)) (As := [.int x1]) (rest := []) (wr := [((Ma 12), .inl (tc 0, 46, .inl sv_80)), ((Ma 2), .inl (tc 0, 2400, .inl (Mf 2))), ((Ma 4), .inl (tc 0, 288, .inl (Mf 4))), ((Ma 5), .inl (tc 0, 6, .inl (Mf 5))), ((Ma 8), .inl (tc 1, 64, .inr (.inl sv_88))), ((Ma 9), .inl (tc 1, 13, .inr (.inl sv_89)))]) ⟨hx, hb, hml, hown, hts⟩ hK hX hA (cu_X12_boughtBy l D tc sk (Ma 0) (Ma 1) (Ma 2) (Ma 3) (Ma 4) (Ma 5) (Ma 6) (Ma 7) (Ma 8) (Ma 9) (Ma 10) (Ma 11) (Ma 12) (Ma 13) (Ma 14) (Ma 15) (Ma 16) (Ma 17) (Ma 18) (Ma 19) (Ma 20) (Mv 0) (Mv 1) (Mv 2) (Mv 3) (Mv 4) (Mv 5) (Mv 6) (Mv 7) (Mv 8) (Mv 9) sv_87 (Mv 11) (Mv 12) (Mv 13) (Mv 14) sv_90 (Mj 0) x1 ha_100) k_1383 k_1380 k_1382 k_60 k_106 pl_X12_boughtBy ⟨Nat.le_of_ble_eq_true rfl, Nat.le_of_ble_eq_true rfl⟩ rfl rfl (va_recv hK hP (ci := 12) (q0 := 1) rfl rfl) hP hD hS [1, 7] [0, 2, 3, 4, 5, 6] rfl rfl rfl rfl rfl (by decide) rfl hl.1 rfl (Nat.le_of_ble_eq_true rfl) dX12_ahead_74 ⟨Nat.le_of_ble_eq_true rfl, Nat.le_of_ble_eq_true rfl⟩ (fun v_101 u_102 H locs hv_103 hP₀ hD₀ hS₀ => ?_)
                obtain ⟨r_104, rfl, he_105⟩ := hv_103
                refine W.eq (g2 := F0 m 77 ls [.int r_104]) rfl ?_
                replace hP : va_P D classes [((Ma 12), .inl (tc 0, 46, .inl sv_80)), ((Ma 2), .inl (tc 0, 2400, .inl (Mf 2))), ((Ma 4), .inl (tc 0, 288, .inl (Mf 4))), ((Ma 5), .inl (tc 0, 6, .inl (Mf 5))), ((Ma 8), .inl (tc 1, 64, .inr (.inl sv_88))), ((Ma 9), .inl (tc 1, 13, .inr (.inl sv_89))), ((Ma 0), .inr (12, [.ref (Ma 1), .int (Mv 0), .int (Mv 1), .ref (Ma 2), .ref (Ma 3), .ref (Ma 4), .ref (Ma 5), .ref (Ma 6), .int (Mv 2), .int (Mv 3), .int (Mv 4), .int (Mv 5), .int (Mv 6), .int (Mv 7), .int (Mv 8), .ref (Ma 7), .int (Mv 9), .ref (Ma 8), .int sv_87, .ref (Ma 9), .ref (Ma 10), .int (Mv 11), .int (Mv 12), .int (Mv 13), .ref (Ma 11), .int (Mv 14), .ref (Ma 12), .ref (Ma 13), .ref (Ma 14), .ref (Ma 15), .ref (Ma 16), .long (Mj 0), .ref (Ma 17), .ref (Ma 18), .ref (Ma 19), .ref (Ma 20)])), ((Ma 10), .inl (tc 0, 126, .inl sv_90))] H := hP₀
                replace hD : va_D A [((Ma 12), .inl (tc 0, 46, .inl sv_80)), ((Ma 2), .inl (tc 0, 2400, .inl (Mf 2))), ((Ma 4), .inl (tc 0, 288, .inl (Mf 4))), ((Ma 5), .inl (tc 0, 6, .inl (Mf 5))), ((Ma 8), .inl (tc 1, 64, .inr (.inl sv_88))), ((Ma 9), .inl (tc 1, 13, .inr (.inl sv_89))), ((Ma 0), .inr (12, [.ref (Ma 1), .int (Mv 0), .int (Mv 1), .ref (Ma 2), .ref (Ma 3), .ref (Ma 4), .ref (Ma 5), .ref (Ma 6), .int (Mv 2), .int (Mv 3), .int (Mv 4), .int (Mv 5), .int (Mv 6), .int (Mv 7), .int (Mv 8), .ref (Ma 7), .int (Mv 9), .ref (Ma 8), .int sv_87, .ref (Ma 9), .ref (Ma 10), .int (Mv 11), .int (Mv 12), .int (Mv 13), .ref (Ma 11), .int (Mv 14), .ref (Ma 12), .ref (Ma 13), .ref (Ma 14), .ref (Ma 15), .ref (Ma 16), .long (Mj 0), .ref (Ma 17), .ref (Ma 18), .ref (Ma 19), .ref (Ma 20)])), ((Ma 10), .inl (tc 0, 126, .inl sv_90))] := hD₀
                replace hS := hS₀
                clear hP₀ hD₀ hS₀
                refine lv_goto (tgt := 87) hx hb dX12_ahead_77 (by decide) ?_
                refine lv_istore (lv' := [(4, .int r_104), (0, .ref (Ma 0)), (1, .int x1), (2, .int x2), (3, .int x3)]) hx hb dX12_ahead_87 hl (by decide) rfl (fun ls hl₀ => ?_)
                replace hl := hl₀
                clear hl₀
                refine lv_aload_n hx hb dX12_ahead_89 rfl (lv_at hl 1 rfl) ?_
                refine cV (a := (Ma 0)) (As := []) (rest := []) (wr := [((Ma 2), .inl (tc 0, 2400, .inl (Mf 2))), ((Ma 4), .inl (tc 0, 288, .inl (Mf 4))), ((Ma 5), .inl (tc 0, 6, .inl (Mf 5))), ((Ma 8), .inl (tc 1, 64, .inr (.inl sv_88))), ((Ma 9), .inl (tc 1, 13, .inr (.inl sv_89)))]) ⟨hx, hb, hml, hown, hts⟩ hK hX hA (cu_X12_laysBack l D tc sk (Ma 0) (Ma 1) (Ma 2) (Ma 3) (Ma 4) (Ma 5) (Ma 6) (Ma 7) (Ma 8) (Ma 9) (Ma 10) (Ma 11) (Ma 12) (Ma 13) (Ma 14) (Ma 15) (Ma 16) (Ma 17) (Ma 18) (Ma 19) (Ma 20) (Mv 0) (Mv 1) (Mv 2) (Mv 3) (Mv 4) (Mv 5) (Mv 6) (Mv 7) (Mv 8) (Mv 9) sv_87 (Mv 11) (Mv 12) (Mv 13) (Mv 14) sv_90 sv_80 (Mj 0) pf_91.1 pf_81) k_1513 k_1510 k_1512 k_82 k_106 pl_X12_laysBack ⟨Nat.le_of_ble_eq_true rfl, Nat.le_of_ble_eq_true rfl⟩ rfl rfl (va_recv hK hP (ci := 12) (q0 := 6) rfl rfl) hP hD hS [6, 7, 0] [1, 2, 3, 4, 5] rfl rfl rfl rfl rfl (by decide) rfl hl.1 rfl (Nat.le_of_ble_eq_true rfl) dX12_ahead_90 ⟨Nat.le_of_ble_eq_true rfl, Nat.le_of_ble_eq_true rfl⟩ (fun v_107 u_108 H locs hv_109 hP₀ hD₀ hS₀ => ?_)
                obtain ⟨sv_110, rfl⟩ : ∃ z, z = u_108 := ⟨_, rfl⟩
                obtain ⟨rfl, pf_111⟩ := hv_109
                have pf_111 : SaidD T sv_110 999 := pf_111
                have ar_pf_111 := SaidD.al pf_111
                refine W.eq (g2 := F0 m 93 ls []) rfl ?_
                replace hP : va_P D classes [((Ma 2), .inl (tc 0, 2400, .inl (Mf 2))), ((Ma 4), .inl (tc 0, 288, .inl (Mf 4))), ((Ma 5), .inl (tc 0, 6, .inl (Mf 5))), ((Ma 8), .inl (tc 1, 64, .inr (.inl sv_88))), ((Ma 9), .inl (tc 1, 13, .inr (.inl sv_89))), ((Ma 0), .inr (12, [.ref (Ma 1), .int (Mv 0), .int (Mv 1), .ref (Ma 2), .ref (Ma 3), .ref (Ma 4), .ref (Ma 5), .ref (Ma 6), .int (Mv 2), .int (Mv 3), .int (Mv 4), .int (Mv 5), .int (Mv 6), .int (Mv 7), .int (Mv 8), .ref (Ma 7), .int (Mv 9), .ref (Ma 8), .int sv_87, .ref (Ma 9), .ref (Ma 10), .int (Mv 11), .int (Mv 12), .int (Mv 13), .ref (Ma 11), .int (Mv 14), .ref (Ma 12), .ref (Ma 13), .ref (Ma 14), .ref (Ma 15), .ref (Ma 16), .long (Mj 0), .ref (Ma 17), .ref (Ma 18), .ref (Ma 19), .ref (Ma 20)])), ((Ma 10), .inl (tc 0, 126, .inl sv_110)), ((Ma 12), .inl (tc 0, 46, .inl sv_80))] H := hP₀
                replace hD : va_D A [((Ma 2), .inl (tc 0, 2400, .inl (Mf 2))), ((Ma 4), .inl (tc 0, 288, .inl (Mf 4))), ((Ma 5), .inl (tc 0, 6, .inl (Mf 5))), ((Ma 8), .inl (tc 1, 64, .inr (.inl sv_88))), ((Ma 9), .inl (tc 1, 13, .inr (.inl sv_89))), ((Ma 0), .inr (12, [.ref (Ma 1), .int (Mv 0), .int (Mv 1), .ref (Ma 2), .ref (Ma 3), .ref (Ma 4), .ref (Ma 5), .ref (Ma 6), .int (Mv 2), .int (Mv 3), .int (Mv 4), .int (Mv 5), .int (Mv 6), .int (Mv 7), .int (Mv 8), .ref (Ma 7), .int (Mv 9), .ref (Ma 8), .int sv_87, .ref (Ma 9), .ref (Ma 10), .int (Mv 11), .int (Mv 12), .int (Mv 13), .ref (Ma 11), .int (Mv 14), .ref (Ma 12), .ref (Ma 13), .ref (Ma 14), .ref (Ma 15), .ref (Ma 16), .long (Mj 0), .ref (Ma 17), .ref (Ma 18), .ref (Ma 19), .ref (Ma 20)])), ((Ma 10), .inl (tc 0, 126, .inl sv_110)), ((Ma 12), .inl (tc 0, 46, .inl sv_80))] := hD₀
                replace hS := hS₀
                clear hP₀ hD₀ hS₀
                refine lv_iload hx hb dX12_ahead_93 (lv_at hl 0 rfl) ?_
                exact retI (v := r_104) hx hb hr hlk (rfl) hP hD hS (sv_87, sv_88, sv_89, sv_110, sv_80) ⟨_, rfl, trivial, pf_111⟩ [5, 0, 1, 2, 3, 4, 6, 7] rfl rfl dX12_ahead_95 (Nat.le_of_ble_eq_true rfl) (Nat.le_of_ble_eq_true rfl) rfl
            · skip
              refine lv_aload_n hx hb dX12_ahead_59 rfl (lv_at hl 0 rfl) ?_
              refine lv_iload_n hx hb dX12_ahead_60 rfl (lv_at hl 1 rfl) ?_
              have ha_112 : 0 ≤ x1.toInt ∧ x1.toInt < 6 := by
                have z_1 : ¬ (r_4 : Int32).toInt = (0 : Int32).toInt := fun z => c_7 (Int32.toInt_inj.mp z)
                have z_2 : ¬ (r_11 : Int32).toInt = (0 : Int32).toInt := fun z => c_14 (Int32.toInt_inj.mp z)
                have z_3 : ¬ (r_18 : Int32).toInt = (0 : Int32).toInt := fun z => c_21 (Int32.toInt_inj.mp z)
                have z_4 := Int32.lt_iff_toInt_lt.mp (Int32.not_le.mp c_22)
                have z_5 : ¬ (r_73 : Int32).toInt = (0 : Int32).toInt := fun z => c_76 (Int32.toInt_inj.mp z)
                have z_6 := congrArg Int32.toInt c_92
                have y_0 : (0 : Int32).toInt = 0 := by decide
                have y_2 : (2 : Int32).toInt = 2 := by decide
                refine ⟨?_, ?_⟩ <;> omega
              refine cV (a := (Ma 0)) (As := [.int x1]) (rest := []) (wr := [((Ma 12), .inl (tc 0, 46, .inl sv_80)), ((Ma 2), .inl (tc 0, 2400, .inl (Mf 2))), ((Ma 4), .inl (tc 0, 288, .inl (Mf 4))), ((Ma 5), .inl (tc 0, 6, .inl (Mf 5))), ((Ma 8), .inl (tc 1, 64, .inr (.inl sv_88))), ((Ma 9), .inl (tc 1, 13, .inr (.inl sv_89)))]) ⟨hx, hb, hml, hown, hts⟩ hK hX hA (cu_X12_temperOf l D tc sk (Ma 0) (Ma 1) (Ma 2) (Ma 3) (Ma 4) (Ma 5) (Ma 6) (Ma 7) (Ma 8) (Ma 9) (Ma 10) (Ma 11) (Ma 12) (Ma 13) (Ma 14) (Ma 15) (Ma 16) (Ma 17) (Ma 18) (Ma 19) (Ma 20) (Mv 0) (Mv 1) (Mv 2) (Mv 3) (Mv 4) (Mv 5) (Mv 6) (Mv 7) (Mv 8) (Mv 9) sv_87 (Mv 11) (Mv 12) (Mv 13) (Mv 14) sv_90 (Mj 0) x1 ha_112) k_1379 k_1376 k_1378 k_59 k_106 pl_X12_temperOf ⟨Nat.le_of_ble_eq_true rfl, Nat.le_of_ble_eq_true rfl⟩ rfl rfl (va_recv hK hP (ci := 12) (q0 := 1) rfl rfl) hP hD hS [1, 7] [0, 2, 3, 4, 5, 6] rfl rfl rfl rfl rfl (by decide) rfl hl.1 rfl (Nat.le_of_ble_eq_true rfl) dX12_ahead_61 ⟨Nat.le_of_ble_eq_true rfl, Nat.le_of_ble_eq_true rfl⟩ (fun v_113 u_114 H locs hv_115 hP₀ hD₀ hS₀ => ?_)
              obtain ⟨r_116, rfl, he_117⟩ := hv_115
              refine W.eq (g2 := F0 m 64 ls [.int r_116]) rfl ?_
              replace hP : va_P D classes [((Ma 12), .inl (tc 0, 46, .inl sv_80)), ((Ma 2), .inl (tc 0, 2400, .inl (Mf 2))), ((Ma 4), .inl (tc 0, 288, .inl (Mf 4))), ((Ma 5), .inl (tc 0, 6, .inl (Mf 5))), ((Ma 8), .inl (tc 1, 64, .inr (.inl sv_88))), ((Ma 9), .inl (tc 1, 13, .inr (.inl sv_89))), ((Ma 0), .inr (12, [.ref (Ma 1), .int (Mv 0), .int (Mv 1), .ref (Ma 2), .ref (Ma 3), .ref (Ma 4), .ref (Ma 5), .ref (Ma 6), .int (Mv 2), .int (Mv 3), .int (Mv 4), .int (Mv 5), .int (Mv 6), .int (Mv 7), .int (Mv 8), .ref (Ma 7), .int (Mv 9), .ref (Ma 8), .int sv_87, .ref (Ma 9), .ref (Ma 10), .int (Mv 11), .int (Mv 12), .int (Mv 13), .ref (Ma 11), .int (Mv 14), .ref (Ma 12), .ref (Ma 13), .ref (Ma 14), .ref (Ma 15), .ref (Ma 16), .long (Mj 0), .ref (Ma 17), .ref (Ma 18), .ref (Ma 19), .ref (Ma 20)])), ((Ma 10), .inl (tc 0, 126, .inl sv_90))] H := hP₀
              replace hD : va_D A [((Ma 12), .inl (tc 0, 46, .inl sv_80)), ((Ma 2), .inl (tc 0, 2400, .inl (Mf 2))), ((Ma 4), .inl (tc 0, 288, .inl (Mf 4))), ((Ma 5), .inl (tc 0, 6, .inl (Mf 5))), ((Ma 8), .inl (tc 1, 64, .inr (.inl sv_88))), ((Ma 9), .inl (tc 1, 13, .inr (.inl sv_89))), ((Ma 0), .inr (12, [.ref (Ma 1), .int (Mv 0), .int (Mv 1), .ref (Ma 2), .ref (Ma 3), .ref (Ma 4), .ref (Ma 5), .ref (Ma 6), .int (Mv 2), .int (Mv 3), .int (Mv 4), .int (Mv 5), .int (Mv 6), .int (Mv 7), .int (Mv 8), .ref (Ma 7), .int (Mv 9), .ref (Ma 8), .int sv_87, .ref (Ma 9), .ref (Ma 10), .int (Mv 11), .int (Mv 12), .int (Mv 13), .ref (Ma 11), .int (Mv 14), .ref (Ma 12), .ref (Ma 13), .ref (Ma 14), .ref (Ma 15), .ref (Ma 16), .long (Mj 0), .ref (Ma 17), .ref (Ma 18), .ref (Ma 19), .ref (Ma 20)])), ((Ma 10), .inl (tc 0, 126, .inl sv_90))] := hD₀
              replace hS := hS₀
              clear hP₀ hD₀ hS₀
              refine lv_goto (tgt := 87) hx hb dX12_ahead_64 (by decide) ?_
              refine lv_istore (lv' := [(4, .int r_116), (0, .ref (Ma 0)), (1, .int x1), (2, .int x2), (3, .int x3)]) hx hb dX12_ahead_87 hl (by decide) rfl (fun ls hl₀ => ?_)
              replace hl := hl₀
              clear hl₀
              refine lv_aload_n hx hb dX12_ahead_89 rfl (lv_at hl 1 rfl) ?_
              refine cV (a := (Ma 0)) (As := []) (rest := []) (wr := [((Ma 2), .inl (tc 0, 2400, .inl (Mf 2))), ((Ma 4), .inl (tc 0, 288, .inl (Mf 4))), ((Ma 5), .inl (tc 0, 6, .inl (Mf 5))), ((Ma 8), .inl (tc 1, 64, .inr (.inl sv_88))), ((Ma 9), .inl (tc 1, 13, .inr (.inl sv_89)))]) ⟨hx, hb, hml, hown, hts⟩ hK hX hA (cu_X12_laysBack l D tc sk (Ma 0) (Ma 1) (Ma 2) (Ma 3) (Ma 4) (Ma 5) (Ma 6) (Ma 7) (Ma 8) (Ma 9) (Ma 10) (Ma 11) (Ma 12) (Ma 13) (Ma 14) (Ma 15) (Ma 16) (Ma 17) (Ma 18) (Ma 19) (Ma 20) (Mv 0) (Mv 1) (Mv 2) (Mv 3) (Mv 4) (Mv 5) (Mv 6) (Mv 7) (Mv 8) (Mv 9) sv_87 (Mv 11) (Mv 12) (Mv 13) (Mv 14) sv_90 sv_80 (Mj 0) pf_91.1 pf_81) k_1513 k_1510 k_1512 k_82 k_106 pl_X12_laysBack ⟨Nat.le_of_ble_eq_true rfl, Nat.le_of_ble_eq_true rfl⟩ rfl rfl (va_recv hK hP (ci := 12) (q0 := 6) rfl rfl) hP hD hS [6, 7, 0] [1, 2, 3, 4, 5] rfl rfl rfl rfl rfl (by decide) rfl hl.1 rfl (Nat.le_of_ble_eq_true rfl) dX12_ahead_90 ⟨Nat.le_of_ble_eq_true rfl, Nat.le_of_ble_eq_true rfl⟩ (fun v_119 u_120 H locs hv_121 hP₀ hD₀ hS₀ => ?_)
              obtain ⟨sv_122, rfl⟩ : ∃ z, z = u_120 := ⟨_, rfl⟩
              obtain ⟨rfl, pf_123⟩ := hv_121
              have pf_123 : SaidD T sv_122 999 := pf_123
              have ar_pf_123 := SaidD.al pf_123
              refine W.eq (g2 := F0 m 93 ls []) rfl ?_
              replace hP : va_P D classes [((Ma 2), .inl (tc 0, 2400, .inl (Mf 2))), ((Ma 4), .inl (tc 0, 288, .inl (Mf 4))), ((Ma 5), .inl (tc 0, 6, .inl (Mf 5))), ((Ma 8), .inl (tc 1, 64, .inr (.inl sv_88))), ((Ma 9), .inl (tc 1, 13, .inr (.inl sv_89))), ((Ma 0), .inr (12, [.ref (Ma 1), .int (Mv 0), .int (Mv 1), .ref (Ma 2), .ref (Ma 3), .ref (Ma 4), .ref (Ma 5), .ref (Ma 6), .int (Mv 2), .int (Mv 3), .int (Mv 4), .int (Mv 5), .int (Mv 6), .int (Mv 7), .int (Mv 8), .ref (Ma 7), .int (Mv 9), .ref (Ma 8), .int sv_87, .ref (Ma 9), .ref (Ma 10), .int (Mv 11), .int (Mv 12), .int (Mv 13), .ref (Ma 11), .int (Mv 14), .ref (Ma 12), .ref (Ma 13), .ref (Ma 14), .ref (Ma 15), .ref (Ma 16), .long (Mj 0), .ref (Ma 17), .ref (Ma 18), .ref (Ma 19), .ref (Ma 20)])), ((Ma 10), .inl (tc 0, 126, .inl sv_122)), ((Ma 12), .inl (tc 0, 46, .inl sv_80))] H := hP₀
              replace hD : va_D A [((Ma 2), .inl (tc 0, 2400, .inl (Mf 2))), ((Ma 4), .inl (tc 0, 288, .inl (Mf 4))), ((Ma 5), .inl (tc 0, 6, .inl (Mf 5))), ((Ma 8), .inl (tc 1, 64, .inr (.inl sv_88))), ((Ma 9), .inl (tc 1, 13, .inr (.inl sv_89))), ((Ma 0), .inr (12, [.ref (Ma 1), .int (Mv 0), .int (Mv 1), .ref (Ma 2), .ref (Ma 3), .ref (Ma 4), .ref (Ma 5), .ref (Ma 6), .int (Mv 2), .int (Mv 3), .int (Mv 4), .int (Mv 5), .int (Mv 6), .int (Mv 7), .int (Mv 8), .ref (Ma 7), .int (Mv 9), .ref (Ma 8), .int sv_87, .ref (Ma 9), .ref (Ma 10), .int (Mv 11), .int (Mv 12), .int (Mv 13), .ref (Ma 11), .int (Mv 14), .ref (Ma 12), .ref (Ma 13), .ref (Ma 14), .ref (Ma 15), .ref (Ma 16), .long (Mj 0), .ref (Ma 17), .ref (Ma 18), .ref (Ma 19), .ref (Ma 20)])), ((Ma 10), .inl (tc 0, 126, .inl sv_122)), ((Ma 12), .inl (tc 0, 46, .inl sv_80))] := hD₀
              replace hS := hS₀
              clear hP₀ hD₀ hS₀
              refine lv_iload hx hb dX12_ahead_93 (lv_at hl 0 rfl) ?_
              exact retI (v := r_116) hx hb hr hlk (rfl) hP hD hS (sv_87, sv_88, sv_89, sv_122, sv_80) ⟨_, rfl, trivial, pf_123⟩ [5, 0, 1, 2, 3, 4, 6, 7] rfl rfl dX12_ahead_95 (Nat.le_of_ble_eq_true rfl) (Nat.le_of_ble_eq_true rfl) rfl
          · skip
            refine lv_iconst (v := (-1)) hx hb dX12_ahead_44 (by decide) ?_
            exact retI (v := (-1)) hx hb hr hlk (rfl) hP hD hS ((Mv 10), (Mg 8), (Mg 9), (Mf 10), (Mf 12)) ⟨_, rfl, trivial, h_said⟩ [6, 0, 1, 2, 3, 4, 7, 5] rfl rfl dX12_ahead_45 (Nat.le_of_ble_eq_true rfl) (Nat.le_of_ble_eq_true rfl) rfl
set_option maxHeartbeats 4000000 in
set_option maxRecDepth 100000 in
theorem ct_X12_buysIn {T : Nat → Option Int32} (l : Launch) (D : va_G) (tc : Nat → ClassId) (sk : (Nat → Nat) × (Nat → Nat)) (Ma : Nat → Nat) (Mv : Nat → Int32) (Mf : Nat → Nat → Int32) (Mj : Nat → Int64) (Mg : Nat → Nat → Int64) (x1 : Int32) (x2 : Int32) (h_said : SaidD T (Mf 10) 999) (h_kept : KeptD (Mf 12)) (h_rul : RulD (Mf 2) (Mf 4) (Mf 5) (Mv 1)) (h_frc : -1 ≤ (Mv 11).toInt ∧ (Mv 11).toInt < (Mv 1).toInt ∧ (Mv 1).toInt ≤ 6) (h_n : 0 ≤ x2.toInt ∧ x2.toInt ≤ 1000) : Ct l yX12_buysIn cX12_buysIn 5 (some .int) { frames := 5, cells := 0, slots := 0, locals := 121 } D tc sk [.ref (Ma 0), .int x1, .int x2] [((Ma 0), .inr (12, [.ref (Ma 1), .int (Mv 0), .int (Mv 1), .ref (Ma 2), .ref (Ma 3), .ref (Ma 4), .ref (Ma 5), .ref (Ma 6), .int (Mv 2), .int (Mv 3), .int (Mv 4), .int (Mv 5), .int (Mv 6), .int (Mv 7), .int (Mv 8), .ref (Ma 7), .int (Mv 9), .ref (Ma 8), .int (Mv 10), .ref (Ma 9), .ref (Ma 10), .int (Mv 11), .int (Mv 12), .int (Mv 13), .ref (Ma 11), .int (Mv 14), .ref (Ma 12), .ref (Ma 13), .ref (Ma 14), .ref (Ma 15), .ref (Ma 16), .long (Mj 0), .ref (Ma 17), .ref (Ma 18), .ref (Ma 19), .ref (Ma 20)])), ((Ma 2), .inl (tc 0, 2400, .inl (Mf 2))), ((Ma 4), .inl (tc 0, 288, .inl (Mf 4))), ((Ma 5), .inl (tc 0, 6, .inl (Mf 5))), ((Ma 8), .inl (tc 1, 64, .inr (.inl (Mg 8)))), ((Ma 9), .inl (tc 1, 13, .inr (.inl (Mg 9)))), ((Ma 10), .inl (tc 0, 126, .inl (Mf 10))), ((Ma 12), .inl (tc 0, 46, .inl (Mf 12)))] (fun (v : Option Value) (u : (Int32) × (Nat → Int64) × (Nat → Int64) × (Nat → Int32)) => match u with | (oo0x1, oo0x2, oo0x3, oo0x4) => ∃ r : Int32, v = some (.int r) ∧ (True) ∧ (SaidD T oo0x4 999)) (fun (u : (Int32) × (Nat → Int64) × (Nat → Int64) × (Nat → Int32)) => match u with | (oo0x1, oo0x2, oo0x3, oo0x4) => [((Ma 0), .inr (12, [.ref (Ma 1), .int (Mv 0), .int (Mv 1), .ref (Ma 2), .ref (Ma 3), .ref (Ma 4), .ref (Ma 5), .ref (Ma 6), .int (Mv 2), .int (Mv 3), .int (Mv 4), .int (Mv 5), .int (Mv 6), .int (Mv 7), .int (Mv 8), .ref (Ma 7), .int (Mv 9), .ref (Ma 8), .int oo0x1, .ref (Ma 9), .ref (Ma 10), .int (Mv 11), .int (Mv 12), .int (Mv 13), .ref (Ma 11), .int (Mv 14), .ref (Ma 12), .ref (Ma 13), .ref (Ma 14), .ref (Ma 15), .ref (Ma 16), .long (Mj 0), .ref (Ma 17), .ref (Ma 18), .ref (Ma 19), .ref (Ma 20)])), ((Ma 2), .inl (tc 0, 2400, .inl (Mf 2))), ((Ma 4), .inl (tc 0, 288, .inl (Mf 4))), ((Ma 5), .inl (tc 0, 6, .inl (Mf 5))), ((Ma 8), .inl (tc 1, 64, .inr (.inl oo0x2))), ((Ma 9), .inl (tc 1, 13, .inr (.inl oo0x3))), ((Ma 10), .inl (tc 0, 126, .inl oo0x4)), ((Ma 12), .inl (tc 0, 46, .inl (Mf 12)))]) 0 0 := by
  refine Ct.start (by decide) (Nat.le_of_ble_eq_true rfl) (fun p e s m below meth c A ls hx hb hr hlk hin hml hown hts hK hX hP hD hA hl hS => ?_)
  have hl : lv_has ls 5 [(0, .ref (Ma 0)), (1, .int x1), (2, .int x2)] := hl
  have ar_h_said := SaidD.al h_said
  refine lv_bipush (v := (-2)) hx hb dX12_buysIn_0 (by decide) ?_
  refine lv_istore_n (lv' := [(3, .int (-2)), (0, .ref (Ma 0)), (1, .int x1), (2, .int x2)]) hx hb dX12_buysIn_2 rfl hl (by decide) rfl (fun ls hl₀ => ?_)
  replace hl := hl₀
  clear hl₀
  refine lv_iconst (v := 0) hx hb dX12_buysIn_3 (by decide) ?_
  refine lv_istore (lv' := [(4, .int 0), (3, .int (-2)), (0, .ref (Ma 0)), (1, .int x1), (2, .int x2)]) hx hb dX12_buysIn_4 hl (by decide) rfl (fun ls hl₀ => ?_)
  replace hl := hl₀
  clear hl₀
  have loop_15 : ∀ (n_13 : Nat) (vy_7 : Int32) (vy_8 : Int32) (vy_9 : Nat → Int64) (vy_10 : Nat → Int64) (vy_11 : Nat → Int32) (vy_12 : Int32) (H : Heap) (locs : List Loc) (ls : Array Slot), (x2.toInt - (vy_7 : Int32).toInt).toNat < n_13 → (0 ≤ (vy_7 : Int32).toInt ∧ (vy_7 : Int32).toInt ≤ x2.toInt) → (SaidD T vy_11 (999 + (vy_7 : Int32).toInt)) → va_P D classes [((Ma 0), .inr (12, [.ref (Ma 1), .int (Mv 0), .int (Mv 1), .ref (Ma 2), .ref (Ma 3), .ref (Ma 4), .ref (Ma 5), .ref (Ma 6), .int (Mv 2), .int (Mv 3), .int (Mv 4), .int (Mv 5), .int (Mv 6), .int (Mv 7), .int (Mv 8), .ref (Ma 7), .int (Mv 9), .ref (Ma 8), .int vy_8, .ref (Ma 9), .ref (Ma 10), .int (Mv 11), .int (Mv 12), .int (Mv 13), .ref (Ma 11), .int (Mv 14), .ref (Ma 12), .ref (Ma 13), .ref (Ma 14), .ref (Ma 15), .ref (Ma 16), .long (Mj 0), .ref (Ma 17), .ref (Ma 18), .ref (Ma 19), .ref (Ma 20)])), ((Ma 2), .inl (tc 0, 2400, .inl (Mf 2))), ((Ma 4), .inl (tc 0, 288, .inl (Mf 4))), ((Ma 5), .inl (tc 0, 6, .inl (Mf 5))), ((Ma 8), .inl (tc 1, 64, .inr (.inl vy_9))), ((Ma 9), .inl (tc 1, 13, .inr (.inl vy_10))), ((Ma 10), .inl (tc 0, 126, .inl vy_11)), ((Ma 12), .inl (tc 0, 46, .inl (Mf 12)))] H → va_D A [((Ma 0), .inr (12, [.ref (Ma 1), .int (Mv 0), .int (Mv 1), .ref (Ma 2), .ref (Ma 3), .ref (Ma 4), .ref (Ma 5), .ref (Ma 6), .int (Mv 2), .int (Mv 3), .int (Mv 4), .int (Mv 5), .int (Mv 6), .int (Mv 7), .int (Mv 8), .ref (Ma 7), .int (Mv 9), .ref (Ma 8), .int vy_8, .ref (Ma 9), .ref (Ma 10), .int (Mv 11), .int (Mv 12), .int (Mv 13), .ref (Ma 11), .int (Mv 14), .ref (Ma 12), .ref (Ma 13), .ref (Ma 14), .ref (Ma 15), .ref (Ma 16), .long (Mj 0), .ref (Ma 17), .ref (Ma 18), .ref (Ma 19), .ref (Ma 20)])), ((Ma 2), .inl (tc 0, 2400, .inl (Mf 2))), ((Ma 4), .inl (tc 0, 288, .inl (Mf 4))), ((Ma 5), .inl (tc 0, 6, .inl (Mf 5))), ((Ma 8), .inl (tc 1, 64, .inr (.inl vy_9))), ((Ma 9), .inl (tc 1, 13, .inr (.inl vy_10))), ((Ma 10), .inl (tc 0, 126, .inl vy_11)), ((Ma 12), .inl (tc 0, 46, .inl (Mf 12)))] → va_S A s.heap H locs → lv_has ls 5 [(4, .int vy_7), (3, .int vy_12), (0, .ref (Ma 0)), (1, .int x1), (2, .int x2)] → W p l e ({ frames := 5, cells := 0, slots := 0, locals := 121 }) s m ([.ref (Ma 0), .int x1, .int x2].toArray) below meth c H locs 0 0 (MQ below (QW (fun (v : Option Value) (u : (Int32) × (Nat → Int64) × (Nat → Int64) × (Nat → Int32)) => match u with | (oo0x1, oo0x2, oo0x3, oo0x4) => ∃ r : Int32, v = some (.int r) ∧ (True) ∧ (SaidD T oo0x4 999)) (BW D (fun (u : (Int32) × (Nat → Int64) × (Nat → Int64) × (Nat → Int32)) => match u with | (oo0x1, oo0x2, oo0x3, oo0x4) => [((Ma 0), .inr (12, [.ref (Ma 1), .int (Mv 0), .int (Mv 1), .ref (Ma 2), .ref (Ma 3), .ref (Ma 4), .ref (Ma 5), .ref (Ma 6), .int (Mv 2), .int (Mv 3), .int (Mv 4), .int (Mv 5), .int (Mv 6), .int (Mv 7), .int (Mv 8), .ref (Ma 7), .int (Mv 9), .ref (Ma 8), .int oo0x1, .ref (Ma 9), .ref (Ma 10), .int (Mv 11), .int (Mv 12), .int (Mv 13), .ref (Ma 11), .int (Mv 14), .ref (Ma 12), .ref (Ma 13), .ref (Ma 14), .ref (Ma 15), .ref (Ma 16), .long (Mj 0), .ref (Ma 17), .ref (Ma 18), .ref (Ma 19), .ref (Ma 20)])), ((Ma 2), .inl (tc 0, 2400, .inl (Mf 2))), ((Ma 4), .inl (tc 0, 288, .inl (Mf 4))), ((Ma 5), .inl (tc 0, 6, .inl (Mf 5))), ((Ma 8), .inl (tc 1, 64, .inr (.inl oo0x2))), ((Ma 9), .inl (tc 1, 13, .inr (.inl oo0x3))), ((Ma 10), .inl (tc 0, 126, .inl oo0x4)), ((Ma 12), .inl (tc 0, 46, .inl (Mf 12)))]) A) A) ([.ref (Ma 0), .int x1, .int x2].toArray) s 0 0 A) (F0 m 6 ls []) := by
    clear hP hD hS hl
    intro n_13
    induction n_13 with
    | zero =>
      intro vy_7 vy_8 vy_9 vy_10 vy_11 vy_12 H locs ls h1
      exact absurd h1 (Nat.not_lt_zero _)
    | succ n_13 ih_14 =>
      intro vy_7 vy_8 vy_9 vy_10 vy_11 vy_12 H locs ls hn_18 pf_16 pf_17 hP hD hS hl
      have ar_pf_17 := SaidD.al pf_17
      refine lv_iload hx hb dX12_buysIn_6 (lv_at hl 0 rfl) ?_
      refine lv_iload_n hx hb dX12_buysIn_8 rfl (lv_at hl 4 rfl) ?_
      refine lv_icmp_ge (tgt := 43) hx hb dX12_buysIn_9 (by decide) (fun c_19 => ?_) (fun c_19 => ?_)
      · skip
        refine lv_aload_n hx hb dX12_buysIn_43 rfl (lv_at hl 2 rfl) ?_
        refine cV (a := (Ma 0)) (As := []) (rest := []) (wr := [((Ma 2), .inl (tc 0, 2400, .inl (Mf 2))), ((Ma 4), .inl (tc 0, 288, .inl (Mf 4))), ((Ma 5), .inl (tc 0, 6, .inl (Mf 5))), ((Ma 8), .inl (tc 1, 64, .inr (.inl vy_9))), ((Ma 9), .inl (tc 1, 13, .inr (.inl vy_10)))]) ⟨hx, hb, hml, hown, hts⟩ hK hX hA (cu_X12_laysBack l D tc sk (Ma 0) (Ma 1) (Ma 2) (Ma 3) (Ma 4) (Ma 5) (Ma 6) (Ma 7) (Ma 8) (Ma 9) (Ma 10) (Ma 11) (Ma 12) (Ma 13) (Ma 14) (Ma 15) (Ma 16) (Ma 17) (Ma 18) (Ma 19) (Ma 20) (Mv 0) (Mv 1) (Mv 2) (Mv 3) (Mv 4) (Mv 5) (Mv 6) (Mv 7) (Mv 8) (Mv 9) vy_8 (Mv 11) (Mv 12) (Mv 13) (Mv 14) vy_11 (Mf 12) (Mj 0) pf_17.1 h_kept) k_1513 k_1510 k_1512 k_82 k_106 pl_X12_laysBack ⟨Nat.le_of_ble_eq_true rfl, Nat.le_of_ble_eq_true rfl⟩ rfl rfl (va_recv hK hP (ci := 12) (q0 := 0) rfl rfl) hP hD hS [0, 6, 7] [1, 2, 3, 4, 5] rfl rfl rfl rfl rfl (by decide) rfl hl.1 rfl (Nat.le_of_ble_eq_true rfl) dX12_buysIn_44 ⟨Nat.le_of_ble_eq_true rfl, Nat.le_of_ble_eq_true rfl⟩ (fun v_20 u_21 H locs hv_22 hP₀ hD₀ hS₀ => ?_)
        obtain ⟨sv_23, rfl⟩ : ∃ z, z = u_21 := ⟨_, rfl⟩
        obtain ⟨rfl, pf_24⟩ := hv_22
        have pf_24 : SaidD T sv_23 999 := pf_24
        have ar_pf_24 := SaidD.al pf_24
        refine W.eq (g2 := F0 m 47 ls []) rfl ?_
        replace hP : va_P D classes [((Ma 2), .inl (tc 0, 2400, .inl (Mf 2))), ((Ma 4), .inl (tc 0, 288, .inl (Mf 4))), ((Ma 5), .inl (tc 0, 6, .inl (Mf 5))), ((Ma 8), .inl (tc 1, 64, .inr (.inl vy_9))), ((Ma 9), .inl (tc 1, 13, .inr (.inl vy_10))), ((Ma 0), .inr (12, [.ref (Ma 1), .int (Mv 0), .int (Mv 1), .ref (Ma 2), .ref (Ma 3), .ref (Ma 4), .ref (Ma 5), .ref (Ma 6), .int (Mv 2), .int (Mv 3), .int (Mv 4), .int (Mv 5), .int (Mv 6), .int (Mv 7), .int (Mv 8), .ref (Ma 7), .int (Mv 9), .ref (Ma 8), .int vy_8, .ref (Ma 9), .ref (Ma 10), .int (Mv 11), .int (Mv 12), .int (Mv 13), .ref (Ma 11), .int (Mv 14), .ref (Ma 12), .ref (Ma 13), .ref (Ma 14), .ref (Ma 15), .ref (Ma 16), .long (Mj 0), .ref (Ma 17), .ref (Ma 18), .ref (Ma 19), .ref (Ma 20)])), ((Ma 10), .inl (tc 0, 126, .inl sv_23)), ((Ma 12), .inl (tc 0, 46, .inl (Mf 12)))] H := hP₀
        replace hD : va_D A [((Ma 2), .inl (tc 0, 2400, .inl (Mf 2))), ((Ma 4), .inl (tc 0, 288, .inl (Mf 4))), ((Ma 5), .inl (tc 0, 6, .inl (Mf 5))), ((Ma 8), .inl (tc 1, 64, .inr (.inl vy_9))), ((Ma 9), .inl (tc 1, 13, .inr (.inl vy_10))), ((Ma 0), .inr (12, [.ref (Ma 1), .int (Mv 0), .int (Mv 1), .ref (Ma 2), .ref (Ma 3), .ref (Ma 4), .ref (Ma 5), .ref (Ma 6), .int (Mv 2), .int (Mv 3), .int (Mv 4), .int (Mv 5), .int (Mv 6), .int (Mv 7), .int (Mv 8), .ref (Ma 7), .int (Mv 9), .ref (Ma 8), .int vy_8, .ref (Ma 9), .ref (Ma 10), .int (Mv 11), .int (Mv 12), .int (Mv 13), .ref (Ma 11), .int (Mv 14), .ref (Ma 12), .ref (Ma 13), .ref (Ma 14), .ref (Ma 15), .ref (Ma 16), .long (Mj 0), .ref (Ma 17), .ref (Ma 18), .ref (Ma 19), .ref (Ma 20)])), ((Ma 10), .inl (tc 0, 126, .inl sv_23)), ((Ma 12), .inl (tc 0, 46, .inl (Mf 12)))] := hD₀
        replace hS := hS₀
        clear hP₀ hD₀ hS₀
        refine lv_iload_n hx hb dX12_buysIn_47 rfl (lv_at hl 1 rfl) ?_
        exact retI (v := vy_12) hx hb hr hlk (rfl) hP hD hS (vy_8, vy_9, vy_10, sv_23) ⟨_, rfl, trivial, pf_24⟩ [5, 0, 1, 2, 3, 4, 6, 7] rfl rfl dX12_buysIn_48 (Nat.le_of_ble_eq_true rfl) (Nat.le_of_ble_eq_true rfl) rfl
      · skip
        refine lv_iload_n hx hb dX12_buysIn_12 rfl (lv_at hl 1 rfl) ?_
        refine lv_if_ge (tgt := 43) hx hb dX12_buysIn_13 (by decide) (fun c_25 => ?_) (fun c_25 => ?_)
        · skip
          refine lv_aload_n hx hb dX12_buysIn_43 rfl (lv_at hl 2 rfl) ?_
          refine cV (a := (Ma 0)) (As := []) (rest := []) (wr := [((Ma 2), .inl (tc 0, 2400, .inl (Mf 2))), ((Ma 4), .inl (tc 0, 288, .inl (Mf 4))), ((Ma 5), .inl (tc 0, 6, .inl (Mf 5))), ((Ma 8), .inl (tc 1, 64, .inr (.inl vy_9))), ((Ma 9), .inl (tc 1, 13, .inr (.inl vy_10)))]) ⟨hx, hb, hml, hown, hts⟩ hK hX hA (cu_X12_laysBack l D tc sk (Ma 0) (Ma 1) (Ma 2) (Ma 3) (Ma 4) (Ma 5) (Ma 6) (Ma 7) (Ma 8) (Ma 9) (Ma 10) (Ma 11) (Ma 12) (Ma 13) (Ma 14) (Ma 15) (Ma 16) (Ma 17) (Ma 18) (Ma 19) (Ma 20) (Mv 0) (Mv 1) (Mv 2) (Mv 3) (Mv 4) (Mv 5) (Mv 6) (Mv 7) (Mv 8) (Mv 9) vy_8 (Mv 11) (Mv 12) (Mv 13) (Mv 14) vy_11 (Mf 12) (Mj 0) pf_17.1 h_kept) k_1513 k_1510 k_1512 k_82 k_106 pl_X12_laysBack ⟨Nat.le_of_ble_eq_true rfl, Nat.le_of_ble_eq_true rfl⟩ rfl rfl (va_recv hK hP (ci := 12) (q0 := 0) rfl rfl) hP hD hS [0, 6, 7] [1, 2, 3, 4, 5] rfl rfl rfl rfl rfl (by decide) rfl hl.1 rfl (Nat.le_of_ble_eq_true rfl) dX12_buysIn_44 ⟨Nat.le_of_ble_eq_true rfl, Nat.le_of_ble_eq_true rfl⟩ (fun v_26 u_27 H locs hv_28 hP₀ hD₀ hS₀ => ?_)
          obtain ⟨sv_29, rfl⟩ : ∃ z, z = u_27 := ⟨_, rfl⟩
          obtain ⟨rfl, pf_30⟩ := hv_28
          have pf_30 : SaidD T sv_29 999 := pf_30
          have ar_pf_30 := SaidD.al pf_30
          refine W.eq (g2 := F0 m 47 ls []) rfl ?_
          replace hP : va_P D classes [((Ma 2), .inl (tc 0, 2400, .inl (Mf 2))), ((Ma 4), .inl (tc 0, 288, .inl (Mf 4))), ((Ma 5), .inl (tc 0, 6, .inl (Mf 5))), ((Ma 8), .inl (tc 1, 64, .inr (.inl vy_9))), ((Ma 9), .inl (tc 1, 13, .inr (.inl vy_10))), ((Ma 0), .inr (12, [.ref (Ma 1), .int (Mv 0), .int (Mv 1), .ref (Ma 2), .ref (Ma 3), .ref (Ma 4), .ref (Ma 5), .ref (Ma 6), .int (Mv 2), .int (Mv 3), .int (Mv 4), .int (Mv 5), .int (Mv 6), .int (Mv 7), .int (Mv 8), .ref (Ma 7), .int (Mv 9), .ref (Ma 8), .int vy_8, .ref (Ma 9), .ref (Ma 10), .int (Mv 11), .int (Mv 12), .int (Mv 13), .ref (Ma 11), .int (Mv 14), .ref (Ma 12), .ref (Ma 13), .ref (Ma 14), .ref (Ma 15), .ref (Ma 16), .long (Mj 0), .ref (Ma 17), .ref (Ma 18), .ref (Ma 19), .ref (Ma 20)])), ((Ma 10), .inl (tc 0, 126, .inl sv_29)), ((Ma 12), .inl (tc 0, 46, .inl (Mf 12)))] H := hP₀
          replace hD : va_D A [((Ma 2), .inl (tc 0, 2400, .inl (Mf 2))), ((Ma 4), .inl (tc 0, 288, .inl (Mf 4))), ((Ma 5), .inl (tc 0, 6, .inl (Mf 5))), ((Ma 8), .inl (tc 1, 64, .inr (.inl vy_9))), ((Ma 9), .inl (tc 1, 13, .inr (.inl vy_10))), ((Ma 0), .inr (12, [.ref (Ma 1), .int (Mv 0), .int (Mv 1), .ref (Ma 2), .ref (Ma 3), .ref (Ma 4), .ref (Ma 5), .ref (Ma 6), .int (Mv 2), .int (Mv 3), .int (Mv 4), .int (Mv 5), .int (Mv 6), .int (Mv 7), .int (Mv 8), .ref (Ma 7), .int (Mv 9), .ref (Ma 8), .int vy_8, .ref (Ma 9), .ref (Ma 10), .int (Mv 11), .int (Mv 12), .int (Mv 13), .ref (Ma 11), .int (Mv 14), .ref (Ma 12), .ref (Ma 13), .ref (Ma 14), .ref (Ma 15), .ref (Ma 16), .long (Mj 0), .ref (Ma 17), .ref (Ma 18), .ref (Ma 19), .ref (Ma 20)])), ((Ma 10), .inl (tc 0, 126, .inl sv_29)), ((Ma 12), .inl (tc 0, 46, .inl (Mf 12)))] := hD₀
          replace hS := hS₀
          clear hP₀ hD₀ hS₀
          refine lv_iload_n hx hb dX12_buysIn_47 rfl (lv_at hl 1 rfl) ?_
          exact retI (v := vy_12) hx hb hr hlk (rfl) hP hD hS (vy_8, vy_9, vy_10, sv_29) ⟨_, rfl, trivial, pf_30⟩ [5, 0, 1, 2, 3, 4, 6, 7] rfl rfl dX12_buysIn_48 (Nat.le_of_ble_eq_true rfl) (Nat.le_of_ble_eq_true rfl) rfl
        · skip
          refine lv_aload_n hx hb dX12_buysIn_16 rfl (lv_at hl 2 rfl) ?_
          have ha_31 : (999 + (vy_7 : Int32).toInt) ≤ 1000000 := by
            have z_1 := Int32.lt_iff_toInt_lt.mp (Int32.not_le.mp c_19)
            have z_2 := Int32.lt_iff_toInt_lt.mp (Int32.not_le.mp c_25)
            have y_0 : (0 : Int32).toInt = 0 := by decide
            omega
          refine cV (a := (Ma 0)) (As := []) (rest := []) (wr := [((Ma 12), .inl (tc 0, 46, .inl (Mf 12)))]) ⟨hx, hb, hml, hown, hts⟩ hK hX hA (cu_X12_passes l D tc sk (Ma 0) (Ma 1) (Ma 2) (Ma 3) (Ma 4) (Ma 5) (Ma 6) (Ma 7) (Ma 8) (Ma 9) (Ma 10) (Ma 11) (Ma 12) (Ma 13) (Ma 14) (Ma 15) (Ma 16) (Ma 17) (Ma 18) (Ma 19) (Ma 20) (Mv 0) (Mv 1) (Mv 2) (Mv 3) (Mv 4) (Mv 5) (Mv 6) (Mv 7) (Mv 8) (Mv 9) vy_8 (Mv 11) (Mv 12) (Mv 13) (Mv 14) (Mf 2) (Mf 4) (Mf 5) vy_11 (Mj 0) vy_9 vy_10 (999 + (vy_7 : Int32).toInt) pf_17 ha_31 h_rul h_frc) k_1423 k_1420 k_1422 k_67 k_106 pl_X12_passes ⟨Nat.le_of_ble_eq_true rfl, Nat.le_of_ble_eq_true rfl⟩ rfl rfl (va_recv hK hP (ci := 12) (q0 := 0) rfl rfl) hP hD hS [0, 1, 2, 3, 4, 5, 6] [7] rfl rfl rfl rfl rfl (by decide) rfl hl.1 rfl (Nat.le_of_ble_eq_true rfl) dX12_buysIn_17 ⟨Nat.le_of_ble_eq_true rfl, Nat.le_of_ble_eq_true rfl⟩ (fun v_32 u_33 H locs hv_34 hP₀ hD₀ hS₀ => ?_)
          obtain ⟨sv_35, sv_36, sv_37, sv_38⟩ := u_33
          obtain ⟨r_40, rfl, he_41, pf_39⟩ := hv_34
          have pf_39 : SaidD T sv_38 ((999 + (vy_7 : Int32).toInt) + 1) := pf_39
          have ar_pf_39 := SaidD.al pf_39
          refine W.eq (g2 := F0 m 20 ls [.int r_40]) rfl ?_
          replace hP : va_P D classes [((Ma 12), .inl (tc 0, 46, .inl (Mf 12))), ((Ma 0), .inr (12, [.ref (Ma 1), .int (Mv 0), .int (Mv 1), .ref (Ma 2), .ref (Ma 3), .ref (Ma 4), .ref (Ma 5), .ref (Ma 6), .int (Mv 2), .int (Mv 3), .int (Mv 4), .int (Mv 5), .int (Mv 6), .int (Mv 7), .int (Mv 8), .ref (Ma 7), .int (Mv 9), .ref (Ma 8), .int sv_35, .ref (Ma 9), .ref (Ma 10), .int (Mv 11), .int (Mv 12), .int (Mv 13), .ref (Ma 11), .int (Mv 14), .ref (Ma 12), .ref (Ma 13), .ref (Ma 14), .ref (Ma 15), .ref (Ma 16), .long (Mj 0), .ref (Ma 17), .ref (Ma 18), .ref (Ma 19), .ref (Ma 20)])), ((Ma 2), .inl (tc 0, 2400, .inl (Mf 2))), ((Ma 4), .inl (tc 0, 288, .inl (Mf 4))), ((Ma 5), .inl (tc 0, 6, .inl (Mf 5))), ((Ma 8), .inl (tc 1, 64, .inr (.inl sv_36))), ((Ma 9), .inl (tc 1, 13, .inr (.inl sv_37))), ((Ma 10), .inl (tc 0, 126, .inl sv_38))] H := hP₀
          replace hD : va_D A [((Ma 12), .inl (tc 0, 46, .inl (Mf 12))), ((Ma 0), .inr (12, [.ref (Ma 1), .int (Mv 0), .int (Mv 1), .ref (Ma 2), .ref (Ma 3), .ref (Ma 4), .ref (Ma 5), .ref (Ma 6), .int (Mv 2), .int (Mv 3), .int (Mv 4), .int (Mv 5), .int (Mv 6), .int (Mv 7), .int (Mv 8), .ref (Ma 7), .int (Mv 9), .ref (Ma 8), .int sv_35, .ref (Ma 9), .ref (Ma 10), .int (Mv 11), .int (Mv 12), .int (Mv 13), .ref (Ma 11), .int (Mv 14), .ref (Ma 12), .ref (Ma 13), .ref (Ma 14), .ref (Ma 15), .ref (Ma 16), .long (Mj 0), .ref (Ma 17), .ref (Ma 18), .ref (Ma 19), .ref (Ma 20)])), ((Ma 2), .inl (tc 0, 2400, .inl (Mf 2))), ((Ma 4), .inl (tc 0, 288, .inl (Mf 4))), ((Ma 5), .inl (tc 0, 6, .inl (Mf 5))), ((Ma 8), .inl (tc 1, 64, .inr (.inl sv_36))), ((Ma 9), .inl (tc 1, 13, .inr (.inl sv_37))), ((Ma 10), .inl (tc 0, 126, .inl sv_38))] := hD₀
          replace hS := hS₀
          clear hP₀ hD₀ hS₀
          refine lv_iload_n hx hb dX12_buysIn_20 rfl (lv_at hl 3 rfl) ?_
          refine cS (As := [.int r_40, .int x1]) (rest := []) (wr := [((Ma 12), .inl (tc 0, 46, .inl (Mf 12))), ((Ma 0), .inr (12, [.ref (Ma 1), .int (Mv 0), .int (Mv 1), .ref (Ma 2), .ref (Ma 3), .ref (Ma 4), .ref (Ma 5), .ref (Ma 6), .int (Mv 2), .int (Mv 3), .int (Mv 4), .int (Mv 5), .int (Mv 6), .int (Mv 7), .int (Mv 8), .ref (Ma 7), .int (Mv 9), .ref (Ma 8), .int sv_35, .ref (Ma 9), .ref (Ma 10), .int (Mv 11), .int (Mv 12), .int (Mv 13), .ref (Ma 11), .int (Mv 14), .ref (Ma 12), .ref (Ma 13), .ref (Ma 14), .ref (Ma 15), .ref (Ma 16), .long (Mj 0), .ref (Ma 17), .ref (Ma 18), .ref (Ma 19), .ref (Ma 20)])), ((Ma 2), .inl (tc 0, 2400, .inl (Mf 2))), ((Ma 4), .inl (tc 0, 288, .inl (Mf 4))), ((Ma 5), .inl (tc 0, 6, .inl (Mf 5))), ((Ma 8), .inl (tc 1, 64, .inr (.inl sv_36))), ((Ma 9), .inl (tc 1, 13, .inr (.inl sv_37))), ((Ma 10), .inl (tc 0, 126, .inl sv_38))]) ⟨hx, hb, hml, hown, hts⟩ hK hX hA (ct_X12_isOf l D tc sk r_40 x1) k_1469 k_1467 k_1468 k_106 pl_X12_isOf ⟨Nat.le_of_ble_eq_true rfl, Nat.le_of_ble_eq_true rfl⟩ rfl rfl  hP hD hS [] [0, 1, 2, 3, 4, 5, 6, 7] rfl rfl rfl rfl rfl (by decide) rfl hl.1 rfl (Nat.le_of_ble_eq_true rfl) dX12_buysIn_21 ⟨Nat.le_of_ble_eq_true rfl, Nat.le_of_ble_eq_true rfl⟩ (fun v_43 u_44 H locs hv_45 hP₀ hD₀ hS₀ => ?_)
          obtain ⟨r_46, rfl, he_47⟩ := hv_45
          have he_47 : (r_46.toInt = 0 ∨ r_46.toInt = 1) := he_47
          refine W.eq (g2 := F0 m 24 ls [.int r_46]) rfl ?_
          replace hP : va_P D classes [((Ma 12), .inl (tc 0, 46, .inl (Mf 12))), ((Ma 0), .inr (12, [.ref (Ma 1), .int (Mv 0), .int (Mv 1), .ref (Ma 2), .ref (Ma 3), .ref (Ma 4), .ref (Ma 5), .ref (Ma 6), .int (Mv 2), .int (Mv 3), .int (Mv 4), .int (Mv 5), .int (Mv 6), .int (Mv 7), .int (Mv 8), .ref (Ma 7), .int (Mv 9), .ref (Ma 8), .int sv_35, .ref (Ma 9), .ref (Ma 10), .int (Mv 11), .int (Mv 12), .int (Mv 13), .ref (Ma 11), .int (Mv 14), .ref (Ma 12), .ref (Ma 13), .ref (Ma 14), .ref (Ma 15), .ref (Ma 16), .long (Mj 0), .ref (Ma 17), .ref (Ma 18), .ref (Ma 19), .ref (Ma 20)])), ((Ma 2), .inl (tc 0, 2400, .inl (Mf 2))), ((Ma 4), .inl (tc 0, 288, .inl (Mf 4))), ((Ma 5), .inl (tc 0, 6, .inl (Mf 5))), ((Ma 8), .inl (tc 1, 64, .inr (.inl sv_36))), ((Ma 9), .inl (tc 1, 13, .inr (.inl sv_37))), ((Ma 10), .inl (tc 0, 126, .inl sv_38))] H := hP₀
          replace hD : va_D A [((Ma 12), .inl (tc 0, 46, .inl (Mf 12))), ((Ma 0), .inr (12, [.ref (Ma 1), .int (Mv 0), .int (Mv 1), .ref (Ma 2), .ref (Ma 3), .ref (Ma 4), .ref (Ma 5), .ref (Ma 6), .int (Mv 2), .int (Mv 3), .int (Mv 4), .int (Mv 5), .int (Mv 6), .int (Mv 7), .int (Mv 8), .ref (Ma 7), .int (Mv 9), .ref (Ma 8), .int sv_35, .ref (Ma 9), .ref (Ma 10), .int (Mv 11), .int (Mv 12), .int (Mv 13), .ref (Ma 11), .int (Mv 14), .ref (Ma 12), .ref (Ma 13), .ref (Ma 14), .ref (Ma 15), .ref (Ma 16), .long (Mj 0), .ref (Ma 17), .ref (Ma 18), .ref (Ma 19), .ref (Ma 20)])), ((Ma 2), .inl (tc 0, 2400, .inl (Mf 2))), ((Ma 4), .inl (tc 0, 288, .inl (Mf 4))), ((Ma 5), .inl (tc 0, 6, .inl (Mf 5))), ((Ma 8), .inl (tc 1, 64, .inr (.inl sv_36))), ((Ma 9), .inl (tc 1, 13, .inr (.inl sv_37))), ((Ma 10), .inl (tc 0, 126, .inl sv_38))] := hD₀
          replace hS := hS₀
          clear hP₀ hD₀ hS₀
          refine lv_if_eq (tgt := 37) hx hb dX12_buysIn_24 (by decide) (fun c_49 => ?_) (fun c_49 => ?_)
          · skip
            obtain ⟨x_50, ex_50⟩ : ∃ y : Int32, y = vy_7 + 1 := ⟨_, rfl⟩
            refine lv_iinc (v := x_50) (lv' := [(4, .int x_50), (3, .int vy_12), (0, .ref (Ma 0)), (1, .int x1), (2, .int x2)]) hx hb dX12_buysIn_37 hl (k := 0) rfl (by rw [ex_50]; rfl) (by decide) rfl (fun ls hl₀ => ?_)
            replace hl := hl₀
            clear hl₀
            refine lv_goto (tgt := 6) hx hb dX12_buysIn_40 (by decide) ?_
            have hb_51 : x2.toInt - (x_50 : Int32).toInt < x2.toInt - (vy_7 : Int32).toInt ∧ 1 ≤ x2.toInt - (vy_7 : Int32).toInt := by
              have z_1 := Int32.lt_iff_toInt_lt.mp (Int32.not_le.mp c_19)
              have z_2 := Int32.lt_iff_toInt_lt.mp (Int32.not_le.mp c_25)
              have z_3 := congrArg Int32.toInt c_49
              have y_0 : (0 : Int32).toInt = 0 := by decide
              have y_1 : (1 : Int32).toInt = 1 := by decide
              have t_x_50 : x_50.toInt = (vy_7 : Int32).toInt + (1 : Int32).toInt := by rw [ex_50]; exact add_toInt (by omega) (by omega)
              refine ⟨?_, ?_⟩ <;> omega
            have ha_52 : 0 ≤ (x_50 : Int32).toInt ∧ (x_50 : Int32).toInt ≤ x2.toInt := by
              have z_1 := Int32.lt_iff_toInt_lt.mp (Int32.not_le.mp c_19)
              have z_2 := Int32.lt_iff_toInt_lt.mp (Int32.not_le.mp c_25)
              have z_3 := congrArg Int32.toInt c_49
              have y_0 : (0 : Int32).toInt = 0 := by decide
              have y_1 : (1 : Int32).toInt = 1 := by decide
              have t_x_50 : x_50.toInt = (vy_7 : Int32).toInt + (1 : Int32).toInt := by rw [ex_50]; exact add_toInt (by omega) (by omega)
              refine ⟨?_, ?_⟩ <;> omega
            have ha_53 : ((999 + (vy_7 : Int32).toInt) + 1) ≤ (999 + (x_50 : Int32).toInt) := by
              have z_1 := Int32.lt_iff_toInt_lt.mp (Int32.not_le.mp c_19)
              have z_2 := Int32.lt_iff_toInt_lt.mp (Int32.not_le.mp c_25)
              have z_3 := congrArg Int32.toInt c_49
              have y_0 : (0 : Int32).toInt = 0 := by decide
              have y_1 : (1 : Int32).toInt = 1 := by decide
              have t_x_50 : x_50.toInt = (vy_7 : Int32).toInt + (1 : Int32).toInt := by rw [ex_50]; exact add_toInt (by omega) (by omega)
              omega
            exact ih_14 x_50 sv_35 sv_36 sv_37 sv_38 vy_12 _ _ _ (by omega) ha_52 (SaidD.mono pf_39 ha_53) (hP.sub [1, 2, 3, 4, 5, 6, 7, 0] rfl) (hD.sub [1, 2, 3, 4, 5, 6, 7, 0] rfl rfl) hS (lv_sub hl [0, 1, 2, 3, 4] rfl)
          · skip
            refine lv_aload_n hx hb dX12_buysIn_27 rfl (lv_at hl 2 rfl) ?_
            refine gf_X12_39 hx hb hts hown hK hP 1 rfl rfl dX12_buysIn_28 ?_
            refine lv_bipush (v := 10) hx hb dX12_buysIn_31 (by decide) ?_
            refine va_iald hx hb hK hP 7 0 rfl rfl (vin_dec (by decide +kernel)) dX12_buysIn_33 ?_
            refine lv_topi (fun x_54 ex_54 => ?_)
            have lx_54 : x_54.toInt = (sv_38 10).toInt := congrArg Int32.toInt ex_54
            refine lv_iconst (v := 1) hx hb dX12_buysIn_34 (by decide) ?_
            refine lv_isub hx hb dX12_buysIn_35 ?_
            refine lv_topi (fun x_55 ex_55 => ?_)
            refine lv_istore_n (lv' := [(3, .int x_55), (4, .int vy_7), (0, .ref (Ma 0)), (1, .int x1), (2, .int x2)]) hx hb dX12_buysIn_36 rfl hl (by decide) rfl (fun ls hl₀ => ?_)
            replace hl := hl₀
            clear hl₀
            obtain ⟨x_56, ex_56⟩ : ∃ y : Int32, y = vy_7 + 1 := ⟨_, rfl⟩
            refine lv_iinc (v := x_56) (lv' := [(4, .int x_56), (3, .int x_55), (0, .ref (Ma 0)), (1, .int x1), (2, .int x2)]) hx hb dX12_buysIn_37 hl (k := 1) rfl (by rw [ex_56]; rfl) (by decide) rfl (fun ls hl₀ => ?_)
            replace hl := hl₀
            clear hl₀
            refine lv_goto (tgt := 6) hx hb dX12_buysIn_40 (by decide) ?_
            have hb_57 : x2.toInt - (x_56 : Int32).toInt < x2.toInt - (vy_7 : Int32).toInt ∧ 1 ≤ x2.toInt - (vy_7 : Int32).toInt := by
              have z_1 := Int32.lt_iff_toInt_lt.mp (Int32.not_le.mp c_19)
              have z_2 := Int32.lt_iff_toInt_lt.mp (Int32.not_le.mp c_25)
              have z_3 : ¬ (r_46 : Int32).toInt = (0 : Int32).toInt := fun z => c_49 (Int32.toInt_inj.mp z)
              have y_0 : (0 : Int32).toInt = 0 := by decide
              have y_1 : (1 : Int32).toInt = 1 := by decide
              have t_x_56 : x_56.toInt = (vy_7 : Int32).toInt + (1 : Int32).toInt := by rw [ex_56]; exact add_toInt (by omega) (by omega)
              refine ⟨?_, ?_⟩ <;> omega
            have ha_58 : 0 ≤ (x_56 : Int32).toInt ∧ (x_56 : Int32).toInt ≤ x2.toInt := by
              have z_1 := Int32.lt_iff_toInt_lt.mp (Int32.not_le.mp c_19)
              have z_2 := Int32.lt_iff_toInt_lt.mp (Int32.not_le.mp c_25)
              have z_3 : ¬ (r_46 : Int32).toInt = (0 : Int32).toInt := fun z => c_49 (Int32.toInt_inj.mp z)
              have y_0 : (0 : Int32).toInt = 0 := by decide
              have y_1 : (1 : Int32).toInt = 1 := by decide
              have t_x_56 : x_56.toInt = (vy_7 : Int32).toInt + (1 : Int32).toInt := by rw [ex_56]; exact add_toInt (by omega) (by omega)
              refine ⟨?_, ?_⟩ <;> omega
            have ha_59 : ((999 + (vy_7 : Int32).toInt) + 1) ≤ (999 + (x_56 : Int32).toInt) := by
              have z_1 := Int32.lt_iff_toInt_lt.mp (Int32.not_le.mp c_19)
              have z_2 := Int32.lt_iff_toInt_lt.mp (Int32.not_le.mp c_25)
              have z_3 : ¬ (r_46 : Int32).toInt = (0 : Int32).toInt := fun z => c_49 (Int32.toInt_inj.mp z)
              have y_0 : (0 : Int32).toInt = 0 := by decide
              have y_1 : (1 : Int32).toInt = 1 := by decide
              have t_x_56 : x_56.toInt = (vy_7 : Int32).toInt + (1 : Int32).toInt := by rw [ex_56]; exact add_toInt (by omega) (by omega)
              omega
            exact ih_14 x_56 sv_35 sv_36 sv_37 sv_38 x_55 _ _ _ (by omega) ha_58 (SaidD.mono pf_39 ha_59) (hP.sub [1, 2, 3, 4, 5, 6, 7, 0] rfl) (hD.sub [1, 2, 3, 4, 5, 6, 7, 0] rfl rfl) hS (lv_sub hl [0, 1, 2, 3, 4] rfl)
  have ha_60 : 0 ≤ (0 : Int32).toInt ∧ (0 : Int32).toInt ≤ x2.toInt := by
    have y_0 : (0 : Int32).toInt = 0 := by decide
    refine ⟨?_, ?_⟩ <;> omega
  have ha_61 : 999 ≤ (999 + (0 : Int32).toInt) := by
    have y_0 : (0 : Int32).toInt = 0 := by decide
    omega
  exact loop_15 _ 0 (Mv 10) (Mg 8) (Mg 9) (Mf 10) (-2) _ _ _ (Nat.lt_succ_self _) ha_60 (SaidD.mono h_said ha_61) hP hD hS hl
set_option maxRecDepth 100000 in
theorem cu_X12_buysIn {T : Nat → Option Int32} (l : Launch) (D : va_G) (tc : Nat → ClassId) (sk : (Nat → Nat) × (Nat → Nat)) (Ma_0 : Nat) (Ma_1 : Nat) (Ma_2 : Nat) (Ma_3 : Nat) (Ma_4 : Nat) (Ma_5 : Nat) (Ma_6 : Nat) (Ma_7 : Nat) (Ma_8 : Nat) (Ma_9 : Nat) (Ma_10 : Nat) (Ma_11 : Nat) (Ma_12 : Nat) (Ma_13 : Nat) (Ma_14 : Nat) (Ma_15 : Nat) (Ma_16 : Nat) (Ma_17 : Nat) (Ma_18 : Nat) (Ma_19 : Nat) (Ma_20 : Nat) (Mv_0 : Int32) (Mv_1 : Int32) (Mv_2 : Int32) (Mv_3 : Int32) (Mv_4 : Int32) (Mv_5 : Int32) (Mv_6 : Int32) (Mv_7 : Int32) (Mv_8 : Int32) (Mv_9 : Int32) (Mv_10 : Int32) (Mv_11 : Int32) (Mv_12 : Int32) (Mv_13 : Int32) (Mv_14 : Int32) (Mf_2 : Nat → Int32) (Mf_4 : Nat → Int32) (Mf_5 : Nat → Int32) (Mf_10 : Nat → Int32) (Mf_12 : Nat → Int32) (Mj_0 : Int64) (Mg_8 : Nat → Int64) (Mg_9 : Nat → Int64) (x1 : Int32) (x2 : Int32) (h_said : SaidD T Mf_10 999) (h_kept : KeptD Mf_12) (h_rul : RulD Mf_2 Mf_4 Mf_5 Mv_1) (h_frc : -1 ≤ Mv_11.toInt ∧ Mv_11.toInt < Mv_1.toInt ∧ Mv_1.toInt ≤ 6) (h_n : 0 ≤ x2.toInt ∧ x2.toInt ≤ 1000) : Ct l yX12_buysIn cX12_buysIn 5 (some .int) { frames := 5, cells := 0, slots := 0, locals := 121 } D tc sk [.ref Ma_0, .int x1, .int x2] [(Ma_0, .inr (12, [.ref Ma_1, .int Mv_0, .int Mv_1, .ref Ma_2, .ref Ma_3, .ref Ma_4, .ref Ma_5, .ref Ma_6, .int Mv_2, .int Mv_3, .int Mv_4, .int Mv_5, .int Mv_6, .int Mv_7, .int Mv_8, .ref Ma_7, .int Mv_9, .ref Ma_8, .int Mv_10, .ref Ma_9, .ref Ma_10, .int Mv_11, .int Mv_12, .int Mv_13, .ref Ma_11, .int Mv_14, .ref Ma_12, .ref Ma_13, .ref Ma_14, .ref Ma_15, .ref Ma_16, .long Mj_0, .ref Ma_17, .ref Ma_18, .ref Ma_19, .ref Ma_20])), (Ma_2, .inl (tc 0, 2400, .inl Mf_2)), (Ma_4, .inl (tc 0, 288, .inl Mf_4)), (Ma_5, .inl (tc 0, 6, .inl Mf_5)), (Ma_8, .inl (tc 1, 64, .inr (.inl Mg_8))), (Ma_9, .inl (tc 1, 13, .inr (.inl Mg_9))), (Ma_10, .inl (tc 0, 126, .inl Mf_10)), (Ma_12, .inl (tc 0, 46, .inl Mf_12))] (fun (v : Option Value) (u : (Int32) × (Nat → Int64) × (Nat → Int64) × (Nat → Int32)) => match u with | (oo0x1, oo0x2, oo0x3, oo0x4) => ∃ r : Int32, v = some (.int r) ∧ (True) ∧ (SaidD T oo0x4 999)) (fun (u : (Int32) × (Nat → Int64) × (Nat → Int64) × (Nat → Int32)) => match u with | (oo0x1, oo0x2, oo0x3, oo0x4) => [(Ma_0, .inr (12, [.ref Ma_1, .int Mv_0, .int Mv_1, .ref Ma_2, .ref Ma_3, .ref Ma_4, .ref Ma_5, .ref Ma_6, .int Mv_2, .int Mv_3, .int Mv_4, .int Mv_5, .int Mv_6, .int Mv_7, .int Mv_8, .ref Ma_7, .int Mv_9, .ref Ma_8, .int oo0x1, .ref Ma_9, .ref Ma_10, .int Mv_11, .int Mv_12, .int Mv_13, .ref Ma_11, .int Mv_14, .ref Ma_12, .ref Ma_13, .ref Ma_14, .ref Ma_15, .ref Ma_16, .long Mj_0, .ref Ma_17, .ref Ma_18, .ref Ma_19, .ref Ma_20])), (Ma_2, .inl (tc 0, 2400, .inl Mf_2)), (Ma_4, .inl (tc 0, 288, .inl Mf_4)), (Ma_5, .inl (tc 0, 6, .inl Mf_5)), (Ma_8, .inl (tc 1, 64, .inr (.inl oo0x2))), (Ma_9, .inl (tc 1, 13, .inr (.inl oo0x3))), (Ma_10, .inl (tc 0, 126, .inl oo0x4)), (Ma_12, .inl (tc 0, 46, .inl Mf_12))]) 0 0 :=
  ct_X12_buysIn l D tc sk (fun k => ([Ma_0, Ma_1, Ma_2, Ma_3, Ma_4, Ma_5, Ma_6, Ma_7, Ma_8, Ma_9, Ma_10, Ma_11, Ma_12, Ma_13, Ma_14, Ma_15, Ma_16, Ma_17, Ma_18, Ma_19, Ma_20] : List (Nat)).getD k 0) (fun k => ([Mv_0, Mv_1, Mv_2, Mv_3, Mv_4, Mv_5, Mv_6, Mv_7, Mv_8, Mv_9, Mv_10, Mv_11, Mv_12, Mv_13, Mv_14] : List (Int32)).getD k 0) (fun k => ([(fun _ => 0), (fun _ => 0), Mf_2, (fun _ => 0), Mf_4, Mf_5, (fun _ => 0), (fun _ => 0), (fun _ => 0), (fun _ => 0), Mf_10, (fun _ => 0), Mf_12] : List (Nat → Int32)).getD k (fun _ => 0)) (fun k => ([Mj_0] : List (Int64)).getD k 0) (fun k => ([(fun _ => 0), (fun _ => 0), (fun _ => 0), (fun _ => 0), (fun _ => 0), (fun _ => 0), (fun _ => 0), (fun _ => 0), Mg_8, Mg_9] : List (Nat → Int64)).getD k (fun _ => 0)) x1 x2 h_said h_kept h_rul h_frc h_n
set_option maxHeartbeats 4000000 in
set_option maxRecDepth 100000 in
theorem ct_X12_buys {T : Nat → Option Int32} (l : Launch) (D : va_G) (tc : Nat → ClassId) (sk : (Nat → Nat) × (Nat → Nat)) (Ma : Nat → Nat) (Mv : Nat → Int32) (Mf : Nat → Nat → Int32) (Mj : Nat → Int64) (Mg : Nat → Nat → Int64) (x1 : Int32) (h_said : SaidD T (Mf 10) 999) (h_rul : RulD (Mf 2) (Mf 4) (Mf 5) (Mv 1)) (h_frc : -1 ≤ (Mv 11).toInt ∧ (Mv 11).toInt < (Mv 1).toInt ∧ (Mv 1).toInt ≤ 6) : Ct l yX12_buys cX12_buys 2 (some .int) { frames := 6, cells := 0, slots := 0, locals := 145 } D tc sk [.ref (Ma 0), .int x1] [((Ma 0), .inr (12, [.ref (Ma 1), .int (Mv 0), .int (Mv 1), .ref (Ma 2), .ref (Ma 3), .ref (Ma 4), .ref (Ma 5), .ref (Ma 6), .int (Mv 2), .int (Mv 3), .int (Mv 4), .int (Mv 5), .int (Mv 6), .int (Mv 7), .int (Mv 8), .ref (Ma 7), .int (Mv 9), .ref (Ma 8), .int (Mv 10), .ref (Ma 9), .ref (Ma 10), .int (Mv 11), .int (Mv 12), .int (Mv 13), .ref (Ma 11), .int (Mv 14), .ref (Ma 12), .ref (Ma 13), .ref (Ma 14), .ref (Ma 15), .ref (Ma 16), .long (Mj 0), .ref (Ma 17), .ref (Ma 18), .ref (Ma 19), .ref (Ma 20)])), ((Ma 2), .inl (tc 0, 2400, .inl (Mf 2))), ((Ma 4), .inl (tc 0, 288, .inl (Mf 4))), ((Ma 5), .inl (tc 0, 6, .inl (Mf 5))), ((Ma 8), .inl (tc 1, 64, .inr (.inl (Mg 8)))), ((Ma 9), .inl (tc 1, 13, .inr (.inl (Mg 9)))), ((Ma 10), .inl (tc 0, 126, .inl (Mf 10))), ((Ma 12), .inl (tc 0, 46, .inl (Mf 12)))] (fun (v : Option Value) (u : (Int32) × (Nat → Int64) × (Nat → Int64) × (Nat → Int32) × (Nat → Int32)) => match u with | (oo0x1, oo0x2, oo0x3, oo0x4, oo0x5) => ∃ r : Int32, v = some (.int r) ∧ (True) ∧ (SaidD T oo0x4 999)) (fun (u : (Int32) × (Nat → Int64) × (Nat → Int64) × (Nat → Int32) × (Nat → Int32)) => match u with | (oo0x1, oo0x2, oo0x3, oo0x4, oo0x5) => [((Ma 0), .inr (12, [.ref (Ma 1), .int (Mv 0), .int (Mv 1), .ref (Ma 2), .ref (Ma 3), .ref (Ma 4), .ref (Ma 5), .ref (Ma 6), .int (Mv 2), .int (Mv 3), .int (Mv 4), .int (Mv 5), .int (Mv 6), .int (Mv 7), .int (Mv 8), .ref (Ma 7), .int (Mv 9), .ref (Ma 8), .int oo0x1, .ref (Ma 9), .ref (Ma 10), .int (Mv 11), .int (Mv 12), .int (Mv 13), .ref (Ma 11), .int (Mv 14), .ref (Ma 12), .ref (Ma 13), .ref (Ma 14), .ref (Ma 15), .ref (Ma 16), .long (Mj 0), .ref (Ma 17), .ref (Ma 18), .ref (Ma 19), .ref (Ma 20)])), ((Ma 2), .inl (tc 0, 2400, .inl (Mf 2))), ((Ma 4), .inl (tc 0, 288, .inl (Mf 4))), ((Ma 5), .inl (tc 0, 6, .inl (Mf 5))), ((Ma 8), .inl (tc 1, 64, .inr (.inl oo0x2))), ((Ma 9), .inl (tc 1, 13, .inr (.inl oo0x3))), ((Ma 10), .inl (tc 0, 126, .inl oo0x4)), ((Ma 12), .inl (tc 0, 46, .inl oo0x5))]) 0 0 := by
  refine Ct.start (by decide) (Nat.le_of_ble_eq_true rfl) (fun p e s m below meth c A ls hx hb hr hlk hin hml hown hts hK hX hP hD hA hl hS => ?_)
  have hl : lv_has ls 2 [(0, .ref (Ma 0)), (1, .int x1)] := hl
  have ar_h_said := SaidD.al h_said
  refine lv_aload_n hx hb dX12_buys_0 rfl (lv_at hl 0 rfl) ?_
  refine lv_iload_n hx hb dX12_buys_1 rfl (lv_at hl 1 rfl) ?_
  refine cV (a := (Ma 0)) (As := [.int x1]) (rest := []) (wr := [((Ma 2), .inl (tc 0, 2400, .inl (Mf 2))), ((Ma 4), .inl (tc 0, 288, .inl (Mf 4))), ((Ma 5), .inl (tc 0, 6, .inl (Mf 5))), ((Ma 8), .inl (tc 1, 64, .inr (.inl (Mg 8)))), ((Ma 9), .inl (tc 1, 13, .inr (.inl (Mg 9)))), ((Ma 12), .inl (tc 0, 46, .inl (Mf 12)))]) ⟨hx, hb, hml, hown, hts⟩ hK hX hA (cu_X12_isBuyer l D tc sk (Ma 0) (Ma 1) (Ma 2) (Ma 3) (Ma 4) (Ma 5) (Ma 6) (Ma 7) (Ma 8) (Ma 9) (Ma 10) (Ma 11) (Ma 12) (Ma 13) (Ma 14) (Ma 15) (Ma 16) (Ma 17) (Ma 18) (Ma 19) (Ma 20) (Mv 0) (Mv 1) (Mv 2) (Mv 3) (Mv 4) (Mv 5) (Mv 6) (Mv 7) (Mv 8) (Mv 9) (Mv 10) (Mv 11) (Mv 12) (Mv 13) (Mv 14) (Mf 10) (Mj 0) x1 h_said.1) k_1375 k_1372 k_1374 k_58 k_106 pl_X12_isBuyer ⟨Nat.le_of_ble_eq_true rfl, Nat.le_of_ble_eq_true rfl⟩ rfl rfl (va_recv hK hP (ci := 12) (q0 := 0) rfl rfl) hP hD hS [0, 6] [1, 2, 3, 4, 5, 7] rfl rfl rfl rfl rfl (by decide) rfl hl.1 rfl (Nat.le_of_ble_eq_true rfl) dX12_buys_2 ⟨Nat.le_of_ble_eq_true rfl, Nat.le_of_ble_eq_true rfl⟩ (fun v_1 u_2 H locs hv_3 hP₀ hD₀ hS₀ => ?_)
  obtain ⟨r_4, rfl, he_5⟩ := hv_3
  have he_5 : (r_4.toInt = 0 ∨ (r_4.toInt = 1 ∧ 0 ≤ x1.toInt ∧ x1.toInt < ((Mf 10) 3).toInt)) := he_5
  refine W.eq (g2 := F0 m 5 ls [.int r_4]) rfl ?_
  replace hP : va_P D classes [((Ma 2), .inl (tc 0, 2400, .inl (Mf 2))), ((Ma 4), .inl (tc 0, 288, .inl (Mf 4))), ((Ma 5), .inl (tc 0, 6, .inl (Mf 5))), ((Ma 8), .inl (tc 1, 64, .inr (.inl (Mg 8)))), ((Ma 9), .inl (tc 1, 13, .inr (.inl (Mg 9)))), ((Ma 12), .inl (tc 0, 46, .inl (Mf 12))), ((Ma 0), .inr (12, [.ref (Ma 1), .int (Mv 0), .int (Mv 1), .ref (Ma 2), .ref (Ma 3), .ref (Ma 4), .ref (Ma 5), .ref (Ma 6), .int (Mv 2), .int (Mv 3), .int (Mv 4), .int (Mv 5), .int (Mv 6), .int (Mv 7), .int (Mv 8), .ref (Ma 7), .int (Mv 9), .ref (Ma 8), .int (Mv 10), .ref (Ma 9), .ref (Ma 10), .int (Mv 11), .int (Mv 12), .int (Mv 13), .ref (Ma 11), .int (Mv 14), .ref (Ma 12), .ref (Ma 13), .ref (Ma 14), .ref (Ma 15), .ref (Ma 16), .long (Mj 0), .ref (Ma 17), .ref (Ma 18), .ref (Ma 19), .ref (Ma 20)])), ((Ma 10), .inl (tc 0, 126, .inl (Mf 10)))] H := hP₀
  replace hD : va_D A [((Ma 2), .inl (tc 0, 2400, .inl (Mf 2))), ((Ma 4), .inl (tc 0, 288, .inl (Mf 4))), ((Ma 5), .inl (tc 0, 6, .inl (Mf 5))), ((Ma 8), .inl (tc 1, 64, .inr (.inl (Mg 8)))), ((Ma 9), .inl (tc 1, 13, .inr (.inl (Mg 9)))), ((Ma 12), .inl (tc 0, 46, .inl (Mf 12))), ((Ma 0), .inr (12, [.ref (Ma 1), .int (Mv 0), .int (Mv 1), .ref (Ma 2), .ref (Ma 3), .ref (Ma 4), .ref (Ma 5), .ref (Ma 6), .int (Mv 2), .int (Mv 3), .int (Mv 4), .int (Mv 5), .int (Mv 6), .int (Mv 7), .int (Mv 8), .ref (Ma 7), .int (Mv 9), .ref (Ma 8), .int (Mv 10), .ref (Ma 9), .ref (Ma 10), .int (Mv 11), .int (Mv 12), .int (Mv 13), .ref (Ma 11), .int (Mv 14), .ref (Ma 12), .ref (Ma 13), .ref (Ma 14), .ref (Ma 15), .ref (Ma 16), .long (Mj 0), .ref (Ma 17), .ref (Ma 18), .ref (Ma 19), .ref (Ma 20)])), ((Ma 10), .inl (tc 0, 126, .inl (Mf 10)))] := hD₀
  replace hS := hS₀
  clear hP₀ hD₀ hS₀
  refine lv_if_ne (tgt := 10) hx hb dX12_buys_5 (by decide) (fun c_7 => ?_) (fun c_7 => ?_)
  · skip
    refine lv_aload_n hx hb dX12_buys_10 rfl (lv_at hl 0 rfl) ?_
    refine cV (a := (Ma 0)) (As := []) (rest := []) (wr := [((Ma 2), .inl (tc 0, 2400, .inl (Mf 2))), ((Ma 4), .inl (tc 0, 288, .inl (Mf 4))), ((Ma 5), .inl (tc 0, 6, .inl (Mf 5))), ((Ma 8), .inl (tc 1, 64, .inr (.inl (Mg 8)))), ((Ma 9), .inl (tc 1, 13, .inr (.inl (Mg 9))))]) ⟨hx, hb, hml, hown, hts⟩ hK hX hA (cu_X12_keeps l D tc sk (Ma 0) (Ma 1) (Ma 2) (Ma 3) (Ma 4) (Ma 5) (Ma 6) (Ma 7) (Ma 8) (Ma 9) (Ma 10) (Ma 11) (Ma 12) (Ma 13) (Ma 14) (Ma 15) (Ma 16) (Ma 17) (Ma 18) (Ma 19) (Ma 20) (Mv 0) (Mv 1) (Mv 2) (Mv 3) (Mv 4) (Mv 5) (Mv 6) (Mv 7) (Mv 8) (Mv 9) (Mv 10) (Mv 11) (Mv 12) (Mv 13) (Mv 14) (Mf 10) (Mf 12) (Mj 0) h_said) k_1505 k_1502 k_1504 k_80 k_106 pl_X12_keeps ⟨Nat.le_of_ble_eq_true rfl, Nat.le_of_ble_eq_true rfl⟩ rfl rfl (va_recv hK hP (ci := 12) (q0 := 6) rfl rfl) hP hD hS [6, 7, 5] [0, 1, 2, 3, 4] rfl rfl rfl rfl rfl (by decide) rfl hl.1 rfl (Nat.le_of_ble_eq_true rfl) dX12_buys_11 ⟨Nat.le_of_ble_eq_true rfl, Nat.le_of_ble_eq_true rfl⟩ (fun v_8 u_9 H locs hv_10 hP₀ hD₀ hS₀ => ?_)
    obtain ⟨sv_11, rfl⟩ : ∃ z, z = u_9 := ⟨_, rfl⟩
    obtain ⟨rfl, pf_12⟩ := hv_10
    have pf_12 : KeptD sv_11 := pf_12
    refine W.eq (g2 := F0 m 14 ls []) rfl ?_
    replace hP : va_P D classes [((Ma 2), .inl (tc 0, 2400, .inl (Mf 2))), ((Ma 4), .inl (tc 0, 288, .inl (Mf 4))), ((Ma 5), .inl (tc 0, 6, .inl (Mf 5))), ((Ma 8), .inl (tc 1, 64, .inr (.inl (Mg 8)))), ((Ma 9), .inl (tc 1, 13, .inr (.inl (Mg 9)))), ((Ma 0), .inr (12, [.ref (Ma 1), .int (Mv 0), .int (Mv 1), .ref (Ma 2), .ref (Ma 3), .ref (Ma 4), .ref (Ma 5), .ref (Ma 6), .int (Mv 2), .int (Mv 3), .int (Mv 4), .int (Mv 5), .int (Mv 6), .int (Mv 7), .int (Mv 8), .ref (Ma 7), .int (Mv 9), .ref (Ma 8), .int (Mv 10), .ref (Ma 9), .ref (Ma 10), .int (Mv 11), .int (Mv 12), .int (Mv 13), .ref (Ma 11), .int (Mv 14), .ref (Ma 12), .ref (Ma 13), .ref (Ma 14), .ref (Ma 15), .ref (Ma 16), .long (Mj 0), .ref (Ma 17), .ref (Ma 18), .ref (Ma 19), .ref (Ma 20)])), ((Ma 10), .inl (tc 0, 126, .inl (Mf 10))), ((Ma 12), .inl (tc 0, 46, .inl sv_11))] H := hP₀
    replace hD : va_D A [((Ma 2), .inl (tc 0, 2400, .inl (Mf 2))), ((Ma 4), .inl (tc 0, 288, .inl (Mf 4))), ((Ma 5), .inl (tc 0, 6, .inl (Mf 5))), ((Ma 8), .inl (tc 1, 64, .inr (.inl (Mg 8)))), ((Ma 9), .inl (tc 1, 13, .inr (.inl (Mg 9)))), ((Ma 0), .inr (12, [.ref (Ma 1), .int (Mv 0), .int (Mv 1), .ref (Ma 2), .ref (Ma 3), .ref (Ma 4), .ref (Ma 5), .ref (Ma 6), .int (Mv 2), .int (Mv 3), .int (Mv 4), .int (Mv 5), .int (Mv 6), .int (Mv 7), .int (Mv 8), .ref (Ma 7), .int (Mv 9), .ref (Ma 8), .int (Mv 10), .ref (Ma 9), .ref (Ma 10), .int (Mv 11), .int (Mv 12), .int (Mv 13), .ref (Ma 11), .int (Mv 14), .ref (Ma 12), .ref (Ma 13), .ref (Ma 14), .ref (Ma 15), .ref (Ma 16), .long (Mj 0), .ref (Ma 17), .ref (Ma 18), .ref (Ma 19), .ref (Ma 20)])), ((Ma 10), .inl (tc 0, 126, .inl (Mf 10))), ((Ma 12), .inl (tc 0, 46, .inl sv_11))] := hD₀
    replace hS := hS₀
    clear hP₀ hD₀ hS₀
    refine lv_aload_n hx hb dX12_buys_14 rfl (lv_at hl 0 rfl) ?_
    refine lv_iload_n hx hb dX12_buys_15 rfl (lv_at hl 1 rfl) ?_
    refine lv_sipush (v := 200) hx hb dX12_buys_16 (by decide) ?_
    have ha_13 : 0 ≤ (200 : Int32).toInt ∧ (200 : Int32).toInt ≤ 1000 := by
      have z_1 : ¬ (r_4 : Int32).toInt = (0 : Int32).toInt := fun z => c_7 (Int32.toInt_inj.mp z)
      have y_0 : (0 : Int32).toInt = 0 := by decide
      have y_200 : (200 : Int32).toInt = 200 := by decide
      refine ⟨?_, ?_⟩ <;> omega
    refine cV (a := (Ma 0)) (As := [.int x1, .int 200]) (rest := []) (wr := []) ⟨hx, hb, hml, hown, hts⟩ hK hX hA (cu_X12_buysIn l D tc sk (Ma 0) (Ma 1) (Ma 2) (Ma 3) (Ma 4) (Ma 5) (Ma 6) (Ma 7) (Ma 8) (Ma 9) (Ma 10) (Ma 11) (Ma 12) (Ma 13) (Ma 14) (Ma 15) (Ma 16) (Ma 17) (Ma 18) (Ma 19) (Ma 20) (Mv 0) (Mv 1) (Mv 2) (Mv 3) (Mv 4) (Mv 5) (Mv 6) (Mv 7) (Mv 8) (Mv 9) (Mv 10) (Mv 11) (Mv 12) (Mv 13) (Mv 14) (Mf 2) (Mf 4) (Mf 5) (Mf 10) sv_11 (Mj 0) (Mg 8) (Mg 9) x1 200 h_said pf_12 h_rul h_frc ha_13) k_1521 k_1518 k_1520 k_83 k_106 pl_X12_buysIn ⟨Nat.le_of_ble_eq_true rfl, Nat.le_of_ble_eq_true rfl⟩ rfl rfl (va_recv hK hP (ci := 12) (q0 := 5) rfl rfl) hP hD hS [5, 0, 1, 2, 3, 4, 6, 7] [] rfl rfl rfl rfl rfl (by decide) rfl hl.1 rfl (Nat.le_of_ble_eq_true rfl) dX12_buys_19 ⟨Nat.le_of_ble_eq_true rfl, Nat.le_of_ble_eq_true rfl⟩ (fun v_14 u_15 H locs hv_16 hP₀ hD₀ hS₀ => ?_)
    obtain ⟨sv_17, sv_18, sv_19, sv_20⟩ := u_15
    obtain ⟨r_22, rfl, he_23, pf_21⟩ := hv_16
    have pf_21 : SaidD T sv_20 999 := pf_21
    have ar_pf_21 := SaidD.al pf_21
    refine W.eq (g2 := F0 m 22 ls [.int r_22]) rfl ?_
    replace hP : va_P D classes [((Ma 0), .inr (12, [.ref (Ma 1), .int (Mv 0), .int (Mv 1), .ref (Ma 2), .ref (Ma 3), .ref (Ma 4), .ref (Ma 5), .ref (Ma 6), .int (Mv 2), .int (Mv 3), .int (Mv 4), .int (Mv 5), .int (Mv 6), .int (Mv 7), .int (Mv 8), .ref (Ma 7), .int (Mv 9), .ref (Ma 8), .int sv_17, .ref (Ma 9), .ref (Ma 10), .int (Mv 11), .int (Mv 12), .int (Mv 13), .ref (Ma 11), .int (Mv 14), .ref (Ma 12), .ref (Ma 13), .ref (Ma 14), .ref (Ma 15), .ref (Ma 16), .long (Mj 0), .ref (Ma 17), .ref (Ma 18), .ref (Ma 19), .ref (Ma 20)])), ((Ma 2), .inl (tc 0, 2400, .inl (Mf 2))), ((Ma 4), .inl (tc 0, 288, .inl (Mf 4))), ((Ma 5), .inl (tc 0, 6, .inl (Mf 5))), ((Ma 8), .inl (tc 1, 64, .inr (.inl sv_18))), ((Ma 9), .inl (tc 1, 13, .inr (.inl sv_19))), ((Ma 10), .inl (tc 0, 126, .inl sv_20)), ((Ma 12), .inl (tc 0, 46, .inl sv_11))] H := hP₀
    replace hD : va_D A [((Ma 0), .inr (12, [.ref (Ma 1), .int (Mv 0), .int (Mv 1), .ref (Ma 2), .ref (Ma 3), .ref (Ma 4), .ref (Ma 5), .ref (Ma 6), .int (Mv 2), .int (Mv 3), .int (Mv 4), .int (Mv 5), .int (Mv 6), .int (Mv 7), .int (Mv 8), .ref (Ma 7), .int (Mv 9), .ref (Ma 8), .int sv_17, .ref (Ma 9), .ref (Ma 10), .int (Mv 11), .int (Mv 12), .int (Mv 13), .ref (Ma 11), .int (Mv 14), .ref (Ma 12), .ref (Ma 13), .ref (Ma 14), .ref (Ma 15), .ref (Ma 16), .long (Mj 0), .ref (Ma 17), .ref (Ma 18), .ref (Ma 19), .ref (Ma 20)])), ((Ma 2), .inl (tc 0, 2400, .inl (Mf 2))), ((Ma 4), .inl (tc 0, 288, .inl (Mf 4))), ((Ma 5), .inl (tc 0, 6, .inl (Mf 5))), ((Ma 8), .inl (tc 1, 64, .inr (.inl sv_18))), ((Ma 9), .inl (tc 1, 13, .inr (.inl sv_19))), ((Ma 10), .inl (tc 0, 126, .inl sv_20)), ((Ma 12), .inl (tc 0, 46, .inl sv_11))] := hD₀
    replace hS := hS₀
    clear hP₀ hD₀ hS₀
    exact retI (v := r_22) hx hb hr hlk (rfl) hP hD hS (sv_17, sv_18, sv_19, sv_20, sv_11) ⟨_, rfl, trivial, pf_21⟩ [0, 1, 2, 3, 4, 5, 6, 7] rfl rfl dX12_buys_22 (Nat.le_of_ble_eq_true rfl) (Nat.le_of_ble_eq_true rfl) rfl
  · skip
    refine lv_iconst (v := (-1)) hx hb dX12_buys_8 (by decide) ?_
    exact retI (v := (-1)) hx hb hr hlk (rfl) hP hD hS ((Mv 10), (Mg 8), (Mg 9), (Mf 10), (Mf 12)) ⟨_, rfl, trivial, h_said⟩ [6, 0, 1, 2, 3, 4, 7, 5] rfl rfl dX12_buys_9 (Nat.le_of_ble_eq_true rfl) (Nat.le_of_ble_eq_true rfl) rfl
set_option maxHeartbeats 4000000 in
set_option maxRecDepth 100000 in
theorem ct_X12_empty {T : Nat → Option Int32} (l : Launch) (D : va_G) (tc : Nat → ClassId) (sk : (Nat → Nat) × (Nat → Nat)) (Ma : Nat → Nat) (Mv : Nat → Int32) (Mf : Nat → Nat → Int32) (Mj : Nat → Int64) (Mg : Nat → Nat → Int64) (h_said : SaidD T (Mf 10) 999) (h_rul : RulD (Mf 2) (Mf 4) (Mf 5) (Mv 1)) (h_frc : -1 ≤ (Mv 11).toInt ∧ (Mv 11).toInt < (Mv 1).toInt ∧ (Mv 1).toInt ≤ 6) : Ct l yX12_empty cX12_empty 3 (some .int) { frames := 5, cells := 0, slots := 0, locals := 121 } D tc sk [.ref (Ma 0)] [((Ma 0), .inr (12, [.ref (Ma 1), .int (Mv 0), .int (Mv 1), .ref (Ma 2), .ref (Ma 3), .ref (Ma 4), .ref (Ma 5), .ref (Ma 6), .int (Mv 2), .int (Mv 3), .int (Mv 4), .int (Mv 5), .int (Mv 6), .int (Mv 7), .int (Mv 8), .ref (Ma 7), .int (Mv 9), .ref (Ma 8), .int (Mv 10), .ref (Ma 9), .ref (Ma 10), .int (Mv 11), .int (Mv 12), .int (Mv 13), .ref (Ma 11), .int (Mv 14), .ref (Ma 12), .ref (Ma 13), .ref (Ma 14), .ref (Ma 15), .ref (Ma 16), .long (Mj 0), .ref (Ma 17), .ref (Ma 18), .ref (Ma 19), .ref (Ma 20)])), ((Ma 2), .inl (tc 0, 2400, .inl (Mf 2))), ((Ma 4), .inl (tc 0, 288, .inl (Mf 4))), ((Ma 5), .inl (tc 0, 6, .inl (Mf 5))), ((Ma 8), .inl (tc 1, 64, .inr (.inl (Mg 8)))), ((Ma 9), .inl (tc 1, 13, .inr (.inl (Mg 9)))), ((Ma 10), .inl (tc 0, 126, .inl (Mf 10))), ((Ma 12), .inl (tc 0, 46, .inl (Mf 12)))] (fun (v : Option Value) (u : (Int32) × (Nat → Int64) × (Nat → Int64) × (Nat → Int32) × (Nat → Int32)) => match u with | (oo0x1, oo0x2, oo0x3, oo0x4, oo0x5) => ∃ r : Int32, v = some (.int r) ∧ (True) ∧ (SaidD T oo0x4 999)) (fun (u : (Int32) × (Nat → Int64) × (Nat → Int64) × (Nat → Int32) × (Nat → Int32)) => match u with | (oo0x1, oo0x2, oo0x3, oo0x4, oo0x5) => [((Ma 0), .inr (12, [.ref (Ma 1), .int (Mv 0), .int (Mv 1), .ref (Ma 2), .ref (Ma 3), .ref (Ma 4), .ref (Ma 5), .ref (Ma 6), .int (Mv 2), .int (Mv 3), .int (Mv 4), .int (Mv 5), .int (Mv 6), .int (Mv 7), .int (Mv 8), .ref (Ma 7), .int (Mv 9), .ref (Ma 8), .int oo0x1, .ref (Ma 9), .ref (Ma 10), .int (Mv 11), .int (Mv 12), .int (Mv 13), .ref (Ma 11), .int (Mv 14), .ref (Ma 12), .ref (Ma 13), .ref (Ma 14), .ref (Ma 15), .ref (Ma 16), .long (Mj 0), .ref (Ma 17), .ref (Ma 18), .ref (Ma 19), .ref (Ma 20)])), ((Ma 2), .inl (tc 0, 2400, .inl (Mf 2))), ((Ma 4), .inl (tc 0, 288, .inl (Mf 4))), ((Ma 5), .inl (tc 0, 6, .inl (Mf 5))), ((Ma 8), .inl (tc 1, 64, .inr (.inl oo0x2))), ((Ma 9), .inl (tc 1, 13, .inr (.inl oo0x3))), ((Ma 10), .inl (tc 0, 126, .inl oo0x4)), ((Ma 12), .inl (tc 0, 46, .inl oo0x5))]) 0 0 := by
  refine Ct.start (by decide) (Nat.le_of_ble_eq_true rfl) (fun p e s m below meth c A ls hx hb hr hlk hin hml hown hts hK hX hP hD hA hl hS => ?_)
  have hl : lv_has ls 3 [(0, .ref (Ma 0))] := hl
  have ar_h_said := SaidD.al h_said
  refine lv_aload_n hx hb dX12_empty_0 rfl (lv_at hl 0 rfl) ?_
  refine cV (a := (Ma 0)) (As := []) (rest := []) (wr := [((Ma 2), .inl (tc 0, 2400, .inl (Mf 2))), ((Ma 4), .inl (tc 0, 288, .inl (Mf 4))), ((Ma 5), .inl (tc 0, 6, .inl (Mf 5))), ((Ma 8), .inl (tc 1, 64, .inr (.inl (Mg 8)))), ((Ma 9), .inl (tc 1, 13, .inr (.inl (Mg 9)))), ((Ma 12), .inl (tc 0, 46, .inl (Mf 12)))]) ⟨hx, hb, hml, hown, hts⟩ hK hX hA (cu_X12_isBook l D tc sk (Ma 0) (Ma 1) (Ma 2) (Ma 3) (Ma 4) (Ma 5) (Ma 6) (Ma 7) (Ma 8) (Ma 9) (Ma 10) (Ma 11) (Ma 12) (Ma 13) (Ma 14) (Ma 15) (Ma 16) (Ma 17) (Ma 18) (Ma 19) (Ma 20) (Mv 0) (Mv 1) (Mv 2) (Mv 3) (Mv 4) (Mv 5) (Mv 6) (Mv 7) (Mv 8) (Mv 9) (Mv 10) (Mv 11) (Mv 12) (Mv 13) (Mv 14) (Mf 10) (Mj 0) h_said.1) k_1407 k_1404 k_1406 k_65 k_106 pl_X12_isBook ⟨Nat.le_of_ble_eq_true rfl, Nat.le_of_ble_eq_true rfl⟩ rfl rfl (va_recv hK hP (ci := 12) (q0 := 0) rfl rfl) hP hD hS [0, 6] [1, 2, 3, 4, 5, 7] rfl rfl rfl rfl rfl (by decide) rfl hl.1 rfl (Nat.le_of_ble_eq_true rfl) dX12_empty_1 ⟨Nat.le_of_ble_eq_true rfl, Nat.le_of_ble_eq_true rfl⟩ (fun v_1 u_2 H locs hv_3 hP₀ hD₀ hS₀ => ?_)
  obtain ⟨r_4, rfl, he_5⟩ := hv_3
  have he_5 : (r_4.toInt = 0 ∨ (r_4.toInt = 1 ∧ 1 ≤ ((Mf 10) 2).toInt ∧ ((Mf 10) 2).toInt ≤ 10)) := he_5
  refine W.eq (g2 := F0 m 4 ls [.int r_4]) rfl ?_
  replace hP : va_P D classes [((Ma 2), .inl (tc 0, 2400, .inl (Mf 2))), ((Ma 4), .inl (tc 0, 288, .inl (Mf 4))), ((Ma 5), .inl (tc 0, 6, .inl (Mf 5))), ((Ma 8), .inl (tc 1, 64, .inr (.inl (Mg 8)))), ((Ma 9), .inl (tc 1, 13, .inr (.inl (Mg 9)))), ((Ma 12), .inl (tc 0, 46, .inl (Mf 12))), ((Ma 0), .inr (12, [.ref (Ma 1), .int (Mv 0), .int (Mv 1), .ref (Ma 2), .ref (Ma 3), .ref (Ma 4), .ref (Ma 5), .ref (Ma 6), .int (Mv 2), .int (Mv 3), .int (Mv 4), .int (Mv 5), .int (Mv 6), .int (Mv 7), .int (Mv 8), .ref (Ma 7), .int (Mv 9), .ref (Ma 8), .int (Mv 10), .ref (Ma 9), .ref (Ma 10), .int (Mv 11), .int (Mv 12), .int (Mv 13), .ref (Ma 11), .int (Mv 14), .ref (Ma 12), .ref (Ma 13), .ref (Ma 14), .ref (Ma 15), .ref (Ma 16), .long (Mj 0), .ref (Ma 17), .ref (Ma 18), .ref (Ma 19), .ref (Ma 20)])), ((Ma 10), .inl (tc 0, 126, .inl (Mf 10)))] H := hP₀
  replace hD : va_D A [((Ma 2), .inl (tc 0, 2400, .inl (Mf 2))), ((Ma 4), .inl (tc 0, 288, .inl (Mf 4))), ((Ma 5), .inl (tc 0, 6, .inl (Mf 5))), ((Ma 8), .inl (tc 1, 64, .inr (.inl (Mg 8)))), ((Ma 9), .inl (tc 1, 13, .inr (.inl (Mg 9)))), ((Ma 12), .inl (tc 0, 46, .inl (Mf 12))), ((Ma 0), .inr (12, [.ref (Ma 1), .int (Mv 0), .int (Mv 1), .ref (Ma 2), .ref (Ma 3), .ref (Ma 4), .ref (Ma 5), .ref (Ma 6), .int (Mv 2), .int (Mv 3), .int (Mv 4), .int (Mv 5), .int (Mv 6), .int (Mv 7), .int (Mv 8), .ref (Ma 7), .int (Mv 9), .ref (Ma 8), .int (Mv 10), .ref (Ma 9), .ref (Ma 10), .int (Mv 11), .int (Mv 12), .int (Mv 13), .ref (Ma 11), .int (Mv 14), .ref (Ma 12), .ref (Ma 13), .ref (Ma 14), .ref (Ma 15), .ref (Ma 16), .long (Mj 0), .ref (Ma 17), .ref (Ma 18), .ref (Ma 19), .ref (Ma 20)])), ((Ma 10), .inl (tc 0, 126, .inl (Mf 10)))] := hD₀
  replace hS := hS₀
  clear hP₀ hD₀ hS₀
  refine lv_if_ne (tgt := 9) hx hb dX12_empty_4 (by decide) (fun c_7 => ?_) (fun c_7 => ?_)
  · skip
    refine lv_bipush (v := (-2)) hx hb dX12_empty_9 (by decide) ?_
    refine lv_istore_n (lv' := [(1, .int (-2)), (0, .ref (Ma 0))]) hx hb dX12_empty_11 rfl hl (by decide) rfl (fun ls hl₀ => ?_)
    replace hl := hl₀
    clear hl₀
    refine lv_aload_n hx hb dX12_empty_12 rfl (lv_at hl 1 rfl) ?_
    refine cV (a := (Ma 0)) (As := []) (rest := []) (wr := [((Ma 2), .inl (tc 0, 2400, .inl (Mf 2))), ((Ma 4), .inl (tc 0, 288, .inl (Mf 4))), ((Ma 5), .inl (tc 0, 6, .inl (Mf 5))), ((Ma 8), .inl (tc 1, 64, .inr (.inl (Mg 8)))), ((Ma 9), .inl (tc 1, 13, .inr (.inl (Mg 9))))]) ⟨hx, hb, hml, hown, hts⟩ hK hX hA (cu_X12_keeps l D tc sk (Ma 0) (Ma 1) (Ma 2) (Ma 3) (Ma 4) (Ma 5) (Ma 6) (Ma 7) (Ma 8) (Ma 9) (Ma 10) (Ma 11) (Ma 12) (Ma 13) (Ma 14) (Ma 15) (Ma 16) (Ma 17) (Ma 18) (Ma 19) (Ma 20) (Mv 0) (Mv 1) (Mv 2) (Mv 3) (Mv 4) (Mv 5) (Mv 6) (Mv 7) (Mv 8) (Mv 9) (Mv 10) (Mv 11) (Mv 12) (Mv 13) (Mv 14) (Mf 10) (Mf 12) (Mj 0) h_said) k_1505 k_1502 k_1504 k_80 k_106 pl_X12_keeps ⟨Nat.le_of_ble_eq_true rfl, Nat.le_of_ble_eq_true rfl⟩ rfl rfl (va_recv hK hP (ci := 12) (q0 := 6) rfl rfl) hP hD hS [6, 7, 5] [0, 1, 2, 3, 4] rfl rfl rfl rfl rfl (by decide) rfl hl.1 rfl (Nat.le_of_ble_eq_true rfl) dX12_empty_13 ⟨Nat.le_of_ble_eq_true rfl, Nat.le_of_ble_eq_true rfl⟩ (fun v_8 u_9 H locs hv_10 hP₀ hD₀ hS₀ => ?_)
    obtain ⟨sv_11, rfl⟩ : ∃ z, z = u_9 := ⟨_, rfl⟩
    obtain ⟨rfl, pf_12⟩ := hv_10
    have pf_12 : KeptD sv_11 := pf_12
    refine W.eq (g2 := F0 m 16 ls []) rfl ?_
    replace hP : va_P D classes [((Ma 2), .inl (tc 0, 2400, .inl (Mf 2))), ((Ma 4), .inl (tc 0, 288, .inl (Mf 4))), ((Ma 5), .inl (tc 0, 6, .inl (Mf 5))), ((Ma 8), .inl (tc 1, 64, .inr (.inl (Mg 8)))), ((Ma 9), .inl (tc 1, 13, .inr (.inl (Mg 9)))), ((Ma 0), .inr (12, [.ref (Ma 1), .int (Mv 0), .int (Mv 1), .ref (Ma 2), .ref (Ma 3), .ref (Ma 4), .ref (Ma 5), .ref (Ma 6), .int (Mv 2), .int (Mv 3), .int (Mv 4), .int (Mv 5), .int (Mv 6), .int (Mv 7), .int (Mv 8), .ref (Ma 7), .int (Mv 9), .ref (Ma 8), .int (Mv 10), .ref (Ma 9), .ref (Ma 10), .int (Mv 11), .int (Mv 12), .int (Mv 13), .ref (Ma 11), .int (Mv 14), .ref (Ma 12), .ref (Ma 13), .ref (Ma 14), .ref (Ma 15), .ref (Ma 16), .long (Mj 0), .ref (Ma 17), .ref (Ma 18), .ref (Ma 19), .ref (Ma 20)])), ((Ma 10), .inl (tc 0, 126, .inl (Mf 10))), ((Ma 12), .inl (tc 0, 46, .inl sv_11))] H := hP₀
    replace hD : va_D A [((Ma 2), .inl (tc 0, 2400, .inl (Mf 2))), ((Ma 4), .inl (tc 0, 288, .inl (Mf 4))), ((Ma 5), .inl (tc 0, 6, .inl (Mf 5))), ((Ma 8), .inl (tc 1, 64, .inr (.inl (Mg 8)))), ((Ma 9), .inl (tc 1, 13, .inr (.inl (Mg 9)))), ((Ma 0), .inr (12, [.ref (Ma 1), .int (Mv 0), .int (Mv 1), .ref (Ma 2), .ref (Ma 3), .ref (Ma 4), .ref (Ma 5), .ref (Ma 6), .int (Mv 2), .int (Mv 3), .int (Mv 4), .int (Mv 5), .int (Mv 6), .int (Mv 7), .int (Mv 8), .ref (Ma 7), .int (Mv 9), .ref (Ma 8), .int (Mv 10), .ref (Ma 9), .ref (Ma 10), .int (Mv 11), .int (Mv 12), .int (Mv 13), .ref (Ma 11), .int (Mv 14), .ref (Ma 12), .ref (Ma 13), .ref (Ma 14), .ref (Ma 15), .ref (Ma 16), .long (Mj 0), .ref (Ma 17), .ref (Ma 18), .ref (Ma 19), .ref (Ma 20)])), ((Ma 10), .inl (tc 0, 126, .inl (Mf 10))), ((Ma 12), .inl (tc 0, 46, .inl sv_11))] := hD₀
    replace hS := hS₀
    clear hP₀ hD₀ hS₀
    refine lv_iconst (v := 0) hx hb dX12_empty_16 (by decide) ?_
    refine lv_istore_n (lv' := [(2, .int 0), (1, .int (-2)), (0, .ref (Ma 0))]) hx hb dX12_empty_17 rfl hl (by decide) rfl (fun ls hl₀ => ?_)
    replace hl := hl₀
    clear hl₀
    have loop_27 : ∀ (n_25 : Nat) (vy_19 : Int32) (vy_20 : Nat → Int64) (vy_21 : Nat → Int64) (vy_22 : Int32) (vy_23 : Nat → Int32) (vy_24 : Int32) (H : Heap) (locs : List Loc) (ls : Array Slot), (200 - (vy_19 : Int32).toInt).toNat < n_25 → (0 ≤ (vy_19 : Int32).toInt ∧ (vy_19 : Int32).toInt ≤ 200) → (SaidD T vy_23 (999 + (vy_19 : Int32).toInt)) → va_P D classes [((Ma 2), .inl (tc 0, 2400, .inl (Mf 2))), ((Ma 4), .inl (tc 0, 288, .inl (Mf 4))), ((Ma 5), .inl (tc 0, 6, .inl (Mf 5))), ((Ma 8), .inl (tc 1, 64, .inr (.inl vy_20))), ((Ma 9), .inl (tc 1, 13, .inr (.inl vy_21))), ((Ma 0), .inr (12, [.ref (Ma 1), .int (Mv 0), .int (Mv 1), .ref (Ma 2), .ref (Ma 3), .ref (Ma 4), .ref (Ma 5), .ref (Ma 6), .int (Mv 2), .int (Mv 3), .int (Mv 4), .int (Mv 5), .int (Mv 6), .int (Mv 7), .int (Mv 8), .ref (Ma 7), .int (Mv 9), .ref (Ma 8), .int vy_22, .ref (Ma 9), .ref (Ma 10), .int (Mv 11), .int (Mv 12), .int (Mv 13), .ref (Ma 11), .int (Mv 14), .ref (Ma 12), .ref (Ma 13), .ref (Ma 14), .ref (Ma 15), .ref (Ma 16), .long (Mj 0), .ref (Ma 17), .ref (Ma 18), .ref (Ma 19), .ref (Ma 20)])), ((Ma 10), .inl (tc 0, 126, .inl vy_23)), ((Ma 12), .inl (tc 0, 46, .inl sv_11))] H → va_D A [((Ma 2), .inl (tc 0, 2400, .inl (Mf 2))), ((Ma 4), .inl (tc 0, 288, .inl (Mf 4))), ((Ma 5), .inl (tc 0, 6, .inl (Mf 5))), ((Ma 8), .inl (tc 1, 64, .inr (.inl vy_20))), ((Ma 9), .inl (tc 1, 13, .inr (.inl vy_21))), ((Ma 0), .inr (12, [.ref (Ma 1), .int (Mv 0), .int (Mv 1), .ref (Ma 2), .ref (Ma 3), .ref (Ma 4), .ref (Ma 5), .ref (Ma 6), .int (Mv 2), .int (Mv 3), .int (Mv 4), .int (Mv 5), .int (Mv 6), .int (Mv 7), .int (Mv 8), .ref (Ma 7), .int (Mv 9), .ref (Ma 8), .int vy_22, .ref (Ma 9), .ref (Ma 10), .int (Mv 11), .int (Mv 12), .int (Mv 13), .ref (Ma 11), .int (Mv 14), .ref (Ma 12), .ref (Ma 13), .ref (Ma 14), .ref (Ma 15), .ref (Ma 16), .long (Mj 0), .ref (Ma 17), .ref (Ma 18), .ref (Ma 19), .ref (Ma 20)])), ((Ma 10), .inl (tc 0, 126, .inl vy_23)), ((Ma 12), .inl (tc 0, 46, .inl sv_11))] → va_S A s.heap H locs → lv_has ls 3 [(2, .int vy_19), (1, .int vy_24), (0, .ref (Ma 0))] → W p l e ({ frames := 5, cells := 0, slots := 0, locals := 121 }) s m ([.ref (Ma 0)].toArray) below meth c H locs 0 0 (MQ below (QW (fun (v : Option Value) (u : (Int32) × (Nat → Int64) × (Nat → Int64) × (Nat → Int32) × (Nat → Int32)) => match u with | (oo0x1, oo0x2, oo0x3, oo0x4, oo0x5) => ∃ r : Int32, v = some (.int r) ∧ (True) ∧ (SaidD T oo0x4 999)) (BW D (fun (u : (Int32) × (Nat → Int64) × (Nat → Int64) × (Nat → Int32) × (Nat → Int32)) => match u with | (oo0x1, oo0x2, oo0x3, oo0x4, oo0x5) => [((Ma 0), .inr (12, [.ref (Ma 1), .int (Mv 0), .int (Mv 1), .ref (Ma 2), .ref (Ma 3), .ref (Ma 4), .ref (Ma 5), .ref (Ma 6), .int (Mv 2), .int (Mv 3), .int (Mv 4), .int (Mv 5), .int (Mv 6), .int (Mv 7), .int (Mv 8), .ref (Ma 7), .int (Mv 9), .ref (Ma 8), .int oo0x1, .ref (Ma 9), .ref (Ma 10), .int (Mv 11), .int (Mv 12), .int (Mv 13), .ref (Ma 11), .int (Mv 14), .ref (Ma 12), .ref (Ma 13), .ref (Ma 14), .ref (Ma 15), .ref (Ma 16), .long (Mj 0), .ref (Ma 17), .ref (Ma 18), .ref (Ma 19), .ref (Ma 20)])), ((Ma 2), .inl (tc 0, 2400, .inl (Mf 2))), ((Ma 4), .inl (tc 0, 288, .inl (Mf 4))), ((Ma 5), .inl (tc 0, 6, .inl (Mf 5))), ((Ma 8), .inl (tc 1, 64, .inr (.inl oo0x2))), ((Ma 9), .inl (tc 1, 13, .inr (.inl oo0x3))), ((Ma 10), .inl (tc 0, 126, .inl oo0x4)), ((Ma 12), .inl (tc 0, 46, .inl oo0x5))]) A) A) ([.ref (Ma 0)].toArray) s 0 0 A) (F0 m 18 ls []) := by
      clear hP hD hS hl
      intro n_25
      induction n_25 with
      | zero =>
        intro vy_19 vy_20 vy_21 vy_22 vy_23 vy_24 H locs ls h1
        exact absurd h1 (Nat.not_lt_zero _)
      | succ n_25 ih_26 =>
        intro vy_19 vy_20 vy_21 vy_22 vy_23 vy_24 H locs ls hn_30 pf_28 pf_29 hP hD hS hl
        have ar_pf_29 := SaidD.al pf_29
        refine lv_iload_n hx hb dX12_empty_18 rfl (lv_at hl 0 rfl) ?_
        refine lv_sipush (v := 200) hx hb dX12_empty_19 (by decide) ?_
        refine lv_icmp_ge (tgt := 58) hx hb dX12_empty_22 (by decide) (fun c_31 => ?_) (fun c_31 => ?_)
        · skip
          refine lv_aload_n hx hb dX12_empty_58 rfl (lv_at hl 2 rfl) ?_
          refine cV (a := (Ma 0)) (As := []) (rest := []) (wr := [((Ma 2), .inl (tc 0, 2400, .inl (Mf 2))), ((Ma 4), .inl (tc 0, 288, .inl (Mf 4))), ((Ma 5), .inl (tc 0, 6, .inl (Mf 5))), ((Ma 8), .inl (tc 1, 64, .inr (.inl vy_20))), ((Ma 9), .inl (tc 1, 13, .inr (.inl vy_21)))]) ⟨hx, hb, hml, hown, hts⟩ hK hX hA (cu_X12_laysBack l D tc sk (Ma 0) (Ma 1) (Ma 2) (Ma 3) (Ma 4) (Ma 5) (Ma 6) (Ma 7) (Ma 8) (Ma 9) (Ma 10) (Ma 11) (Ma 12) (Ma 13) (Ma 14) (Ma 15) (Ma 16) (Ma 17) (Ma 18) (Ma 19) (Ma 20) (Mv 0) (Mv 1) (Mv 2) (Mv 3) (Mv 4) (Mv 5) (Mv 6) (Mv 7) (Mv 8) (Mv 9) vy_22 (Mv 11) (Mv 12) (Mv 13) (Mv 14) vy_23 sv_11 (Mj 0) pf_29.1 pf_12) k_1513 k_1510 k_1512 k_82 k_106 pl_X12_laysBack ⟨Nat.le_of_ble_eq_true rfl, Nat.le_of_ble_eq_true rfl⟩ rfl rfl (va_recv hK hP (ci := 12) (q0 := 5) rfl rfl) hP hD hS [5, 6, 7] [0, 1, 2, 3, 4] rfl rfl rfl rfl rfl (by decide) rfl hl.1 rfl (Nat.le_of_ble_eq_true rfl) dX12_empty_59 ⟨Nat.le_of_ble_eq_true rfl, Nat.le_of_ble_eq_true rfl⟩ (fun v_32 u_33 H locs hv_34 hP₀ hD₀ hS₀ => ?_)
          obtain ⟨sv_35, rfl⟩ : ∃ z, z = u_33 := ⟨_, rfl⟩
          obtain ⟨rfl, pf_36⟩ := hv_34
          have pf_36 : SaidD T sv_35 999 := pf_36
          have ar_pf_36 := SaidD.al pf_36
          refine W.eq (g2 := F0 m 62 ls []) rfl ?_
          replace hP : va_P D classes [((Ma 2), .inl (tc 0, 2400, .inl (Mf 2))), ((Ma 4), .inl (tc 0, 288, .inl (Mf 4))), ((Ma 5), .inl (tc 0, 6, .inl (Mf 5))), ((Ma 8), .inl (tc 1, 64, .inr (.inl vy_20))), ((Ma 9), .inl (tc 1, 13, .inr (.inl vy_21))), ((Ma 0), .inr (12, [.ref (Ma 1), .int (Mv 0), .int (Mv 1), .ref (Ma 2), .ref (Ma 3), .ref (Ma 4), .ref (Ma 5), .ref (Ma 6), .int (Mv 2), .int (Mv 3), .int (Mv 4), .int (Mv 5), .int (Mv 6), .int (Mv 7), .int (Mv 8), .ref (Ma 7), .int (Mv 9), .ref (Ma 8), .int vy_22, .ref (Ma 9), .ref (Ma 10), .int (Mv 11), .int (Mv 12), .int (Mv 13), .ref (Ma 11), .int (Mv 14), .ref (Ma 12), .ref (Ma 13), .ref (Ma 14), .ref (Ma 15), .ref (Ma 16), .long (Mj 0), .ref (Ma 17), .ref (Ma 18), .ref (Ma 19), .ref (Ma 20)])), ((Ma 10), .inl (tc 0, 126, .inl sv_35)), ((Ma 12), .inl (tc 0, 46, .inl sv_11))] H := hP₀
          replace hD : va_D A [((Ma 2), .inl (tc 0, 2400, .inl (Mf 2))), ((Ma 4), .inl (tc 0, 288, .inl (Mf 4))), ((Ma 5), .inl (tc 0, 6, .inl (Mf 5))), ((Ma 8), .inl (tc 1, 64, .inr (.inl vy_20))), ((Ma 9), .inl (tc 1, 13, .inr (.inl vy_21))), ((Ma 0), .inr (12, [.ref (Ma 1), .int (Mv 0), .int (Mv 1), .ref (Ma 2), .ref (Ma 3), .ref (Ma 4), .ref (Ma 5), .ref (Ma 6), .int (Mv 2), .int (Mv 3), .int (Mv 4), .int (Mv 5), .int (Mv 6), .int (Mv 7), .int (Mv 8), .ref (Ma 7), .int (Mv 9), .ref (Ma 8), .int vy_22, .ref (Ma 9), .ref (Ma 10), .int (Mv 11), .int (Mv 12), .int (Mv 13), .ref (Ma 11), .int (Mv 14), .ref (Ma 12), .ref (Ma 13), .ref (Ma 14), .ref (Ma 15), .ref (Ma 16), .long (Mj 0), .ref (Ma 17), .ref (Ma 18), .ref (Ma 19), .ref (Ma 20)])), ((Ma 10), .inl (tc 0, 126, .inl sv_35)), ((Ma 12), .inl (tc 0, 46, .inl sv_11))] := hD₀
          replace hS := hS₀
          clear hP₀ hD₀ hS₀
          refine lv_iload_n hx hb dX12_empty_62 rfl (lv_at hl 1 rfl) ?_
          exact retI (v := vy_24) hx hb hr hlk (rfl) hP hD hS (vy_22, vy_20, vy_21, sv_35, sv_11) ⟨_, rfl, trivial, pf_36⟩ [5, 0, 1, 2, 3, 4, 6, 7] rfl rfl dX12_empty_63 (Nat.le_of_ble_eq_true rfl) (Nat.le_of_ble_eq_true rfl) rfl
        · skip
          refine lv_iload_n hx hb dX12_empty_25 rfl (lv_at hl 1 rfl) ?_
          refine lv_if_ge (tgt := 58) hx hb dX12_empty_26 (by decide) (fun c_37 => ?_) (fun c_37 => ?_)
          · skip
            refine lv_aload_n hx hb dX12_empty_58 rfl (lv_at hl 2 rfl) ?_
            refine cV (a := (Ma 0)) (As := []) (rest := []) (wr := [((Ma 2), .inl (tc 0, 2400, .inl (Mf 2))), ((Ma 4), .inl (tc 0, 288, .inl (Mf 4))), ((Ma 5), .inl (tc 0, 6, .inl (Mf 5))), ((Ma 8), .inl (tc 1, 64, .inr (.inl vy_20))), ((Ma 9), .inl (tc 1, 13, .inr (.inl vy_21)))]) ⟨hx, hb, hml, hown, hts⟩ hK hX hA (cu_X12_laysBack l D tc sk (Ma 0) (Ma 1) (Ma 2) (Ma 3) (Ma 4) (Ma 5) (Ma 6) (Ma 7) (Ma 8) (Ma 9) (Ma 10) (Ma 11) (Ma 12) (Ma 13) (Ma 14) (Ma 15) (Ma 16) (Ma 17) (Ma 18) (Ma 19) (Ma 20) (Mv 0) (Mv 1) (Mv 2) (Mv 3) (Mv 4) (Mv 5) (Mv 6) (Mv 7) (Mv 8) (Mv 9) vy_22 (Mv 11) (Mv 12) (Mv 13) (Mv 14) vy_23 sv_11 (Mj 0) pf_29.1 pf_12) k_1513 k_1510 k_1512 k_82 k_106 pl_X12_laysBack ⟨Nat.le_of_ble_eq_true rfl, Nat.le_of_ble_eq_true rfl⟩ rfl rfl (va_recv hK hP (ci := 12) (q0 := 5) rfl rfl) hP hD hS [5, 6, 7] [0, 1, 2, 3, 4] rfl rfl rfl rfl rfl (by decide) rfl hl.1 rfl (Nat.le_of_ble_eq_true rfl) dX12_empty_59 ⟨Nat.le_of_ble_eq_true rfl, Nat.le_of_ble_eq_true rfl⟩ (fun v_38 u_39 H locs hv_40 hP₀ hD₀ hS₀ => ?_)
            obtain ⟨sv_41, rfl⟩ : ∃ z, z = u_39 := ⟨_, rfl⟩
            obtain ⟨rfl, pf_42⟩ := hv_40
            have pf_42 : SaidD T sv_41 999 := pf_42
            have ar_pf_42 := SaidD.al pf_42
            refine W.eq (g2 := F0 m 62 ls []) rfl ?_
            replace hP : va_P D classes [((Ma 2), .inl (tc 0, 2400, .inl (Mf 2))), ((Ma 4), .inl (tc 0, 288, .inl (Mf 4))), ((Ma 5), .inl (tc 0, 6, .inl (Mf 5))), ((Ma 8), .inl (tc 1, 64, .inr (.inl vy_20))), ((Ma 9), .inl (tc 1, 13, .inr (.inl vy_21))), ((Ma 0), .inr (12, [.ref (Ma 1), .int (Mv 0), .int (Mv 1), .ref (Ma 2), .ref (Ma 3), .ref (Ma 4), .ref (Ma 5), .ref (Ma 6), .int (Mv 2), .int (Mv 3), .int (Mv 4), .int (Mv 5), .int (Mv 6), .int (Mv 7), .int (Mv 8), .ref (Ma 7), .int (Mv 9), .ref (Ma 8), .int vy_22, .ref (Ma 9), .ref (Ma 10), .int (Mv 11), .int (Mv 12), .int (Mv 13), .ref (Ma 11), .int (Mv 14), .ref (Ma 12), .ref (Ma 13), .ref (Ma 14), .ref (Ma 15), .ref (Ma 16), .long (Mj 0), .ref (Ma 17), .ref (Ma 18), .ref (Ma 19), .ref (Ma 20)])), ((Ma 10), .inl (tc 0, 126, .inl sv_41)), ((Ma 12), .inl (tc 0, 46, .inl sv_11))] H := hP₀
            replace hD : va_D A [((Ma 2), .inl (tc 0, 2400, .inl (Mf 2))), ((Ma 4), .inl (tc 0, 288, .inl (Mf 4))), ((Ma 5), .inl (tc 0, 6, .inl (Mf 5))), ((Ma 8), .inl (tc 1, 64, .inr (.inl vy_20))), ((Ma 9), .inl (tc 1, 13, .inr (.inl vy_21))), ((Ma 0), .inr (12, [.ref (Ma 1), .int (Mv 0), .int (Mv 1), .ref (Ma 2), .ref (Ma 3), .ref (Ma 4), .ref (Ma 5), .ref (Ma 6), .int (Mv 2), .int (Mv 3), .int (Mv 4), .int (Mv 5), .int (Mv 6), .int (Mv 7), .int (Mv 8), .ref (Ma 7), .int (Mv 9), .ref (Ma 8), .int vy_22, .ref (Ma 9), .ref (Ma 10), .int (Mv 11), .int (Mv 12), .int (Mv 13), .ref (Ma 11), .int (Mv 14), .ref (Ma 12), .ref (Ma 13), .ref (Ma 14), .ref (Ma 15), .ref (Ma 16), .long (Mj 0), .ref (Ma 17), .ref (Ma 18), .ref (Ma 19), .ref (Ma 20)])), ((Ma 10), .inl (tc 0, 126, .inl sv_41)), ((Ma 12), .inl (tc 0, 46, .inl sv_11))] := hD₀
            replace hS := hS₀
            clear hP₀ hD₀ hS₀
            refine lv_iload_n hx hb dX12_empty_62 rfl (lv_at hl 1 rfl) ?_
            exact retI (v := vy_24) hx hb hr hlk (rfl) hP hD hS (vy_22, vy_20, vy_21, sv_41, sv_11) ⟨_, rfl, trivial, pf_42⟩ [5, 0, 1, 2, 3, 4, 6, 7] rfl rfl dX12_empty_63 (Nat.le_of_ble_eq_true rfl) (Nat.le_of_ble_eq_true rfl) rfl
          · skip
            refine lv_aload_n hx hb dX12_empty_29 rfl (lv_at hl 2 rfl) ?_
            refine gf_X12_39 hx hb hts hown hK hP 5 rfl rfl dX12_empty_30 ?_
            refine lv_bipush (v := 11) hx hb dX12_empty_33 (by decide) ?_
            refine va_iald hx hb hK hP 6 0 rfl rfl (vin_dec (by decide +kernel)) dX12_empty_35 ?_
            refine lv_topi (fun x_43 ex_43 => ?_)
            have lx_43 : x_43.toInt = (vy_23 11).toInt := congrArg Int32.toInt ex_43
            refine lv_if_ne (tgt := 47) hx hb dX12_empty_36 (by decide) (fun c_44 => ?_) (fun c_44 => ?_)
            · skip
              refine lv_aload_n hx hb dX12_empty_47 rfl (lv_at hl 2 rfl) ?_
              have ha_45 : (999 + (vy_19 : Int32).toInt) ≤ 1000000 := by
                have z_1 : ¬ (r_4 : Int32).toInt = (0 : Int32).toInt := fun z => c_7 (Int32.toInt_inj.mp z)
                have z_2 := Int32.lt_iff_toInt_lt.mp (Int32.not_le.mp c_31)
                have z_3 := Int32.lt_iff_toInt_lt.mp (Int32.not_le.mp c_37)
                have z_4 : ¬ (x_43 : Int32).toInt = (0 : Int32).toInt := fun z => c_44 (Int32.toInt_inj.mp z)
                have y_0 : (0 : Int32).toInt = 0 := by decide
                have y_200 : (200 : Int32).toInt = 200 := by decide
                omega
              refine cV (a := (Ma 0)) (As := []) (rest := []) (wr := [((Ma 12), .inl (tc 0, 46, .inl sv_11))]) ⟨hx, hb, hml, hown, hts⟩ hK hX hA (cu_X12_passes l D tc sk (Ma 0) (Ma 1) (Ma 2) (Ma 3) (Ma 4) (Ma 5) (Ma 6) (Ma 7) (Ma 8) (Ma 9) (Ma 10) (Ma 11) (Ma 12) (Ma 13) (Ma 14) (Ma 15) (Ma 16) (Ma 17) (Ma 18) (Ma 19) (Ma 20) (Mv 0) (Mv 1) (Mv 2) (Mv 3) (Mv 4) (Mv 5) (Mv 6) (Mv 7) (Mv 8) (Mv 9) vy_22 (Mv 11) (Mv 12) (Mv 13) (Mv 14) (Mf 2) (Mf 4) (Mf 5) vy_23 (Mj 0) vy_20 vy_21 (999 + (vy_19 : Int32).toInt) pf_29 ha_45 h_rul h_frc) k_1423 k_1420 k_1422 k_67 k_106 pl_X12_passes ⟨Nat.le_of_ble_eq_true rfl, Nat.le_of_ble_eq_true rfl⟩ rfl rfl (va_recv hK hP (ci := 12) (q0 := 5) rfl rfl) hP hD hS [5, 0, 1, 2, 3, 4, 6] [7] rfl rfl rfl rfl rfl (by decide) rfl hl.1 rfl (Nat.le_of_ble_eq_true rfl) dX12_empty_48 ⟨Nat.le_of_ble_eq_true rfl, Nat.le_of_ble_eq_true rfl⟩ (fun v_46 u_47 H locs hv_48 hP₀ hD₀ hS₀ => ?_)
              obtain ⟨sv_49, sv_50, sv_51, sv_52⟩ := u_47
              obtain ⟨r_54, rfl, he_55, pf_53⟩ := hv_48
              have pf_53 : SaidD T sv_52 ((999 + (vy_19 : Int32).toInt) + 1) := pf_53
              have ar_pf_53 := SaidD.al pf_53
              refine W.eq (g2 := F0 m 51 ls [.int r_54]) rfl ?_
              replace hP : va_P D classes [((Ma 12), .inl (tc 0, 46, .inl sv_11)), ((Ma 0), .inr (12, [.ref (Ma 1), .int (Mv 0), .int (Mv 1), .ref (Ma 2), .ref (Ma 3), .ref (Ma 4), .ref (Ma 5), .ref (Ma 6), .int (Mv 2), .int (Mv 3), .int (Mv 4), .int (Mv 5), .int (Mv 6), .int (Mv 7), .int (Mv 8), .ref (Ma 7), .int (Mv 9), .ref (Ma 8), .int sv_49, .ref (Ma 9), .ref (Ma 10), .int (Mv 11), .int (Mv 12), .int (Mv 13), .ref (Ma 11), .int (Mv 14), .ref (Ma 12), .ref (Ma 13), .ref (Ma 14), .ref (Ma 15), .ref (Ma 16), .long (Mj 0), .ref (Ma 17), .ref (Ma 18), .ref (Ma 19), .ref (Ma 20)])), ((Ma 2), .inl (tc 0, 2400, .inl (Mf 2))), ((Ma 4), .inl (tc 0, 288, .inl (Mf 4))), ((Ma 5), .inl (tc 0, 6, .inl (Mf 5))), ((Ma 8), .inl (tc 1, 64, .inr (.inl sv_50))), ((Ma 9), .inl (tc 1, 13, .inr (.inl sv_51))), ((Ma 10), .inl (tc 0, 126, .inl sv_52))] H := hP₀
              replace hD : va_D A [((Ma 12), .inl (tc 0, 46, .inl sv_11)), ((Ma 0), .inr (12, [.ref (Ma 1), .int (Mv 0), .int (Mv 1), .ref (Ma 2), .ref (Ma 3), .ref (Ma 4), .ref (Ma 5), .ref (Ma 6), .int (Mv 2), .int (Mv 3), .int (Mv 4), .int (Mv 5), .int (Mv 6), .int (Mv 7), .int (Mv 8), .ref (Ma 7), .int (Mv 9), .ref (Ma 8), .int sv_49, .ref (Ma 9), .ref (Ma 10), .int (Mv 11), .int (Mv 12), .int (Mv 13), .ref (Ma 11), .int (Mv 14), .ref (Ma 12), .ref (Ma 13), .ref (Ma 14), .ref (Ma 15), .ref (Ma 16), .long (Mj 0), .ref (Ma 17), .ref (Ma 18), .ref (Ma 19), .ref (Ma 20)])), ((Ma 2), .inl (tc 0, 2400, .inl (Mf 2))), ((Ma 4), .inl (tc 0, 288, .inl (Mf 4))), ((Ma 5), .inl (tc 0, 6, .inl (Mf 5))), ((Ma 8), .inl (tc 1, 64, .inr (.inl sv_50))), ((Ma 9), .inl (tc 1, 13, .inr (.inl sv_51))), ((Ma 10), .inl (tc 0, 126, .inl sv_52))] := hD₀
              replace hS := hS₀
              clear hP₀ hD₀ hS₀
              refine lv_pop hx hb dX12_empty_51 rfl ?_
              obtain ⟨x_57, ex_57⟩ : ∃ y : Int32, y = vy_19 + 1 := ⟨_, rfl⟩
              refine lv_iinc (v := x_57) (lv' := [(2, .int x_57), (1, .int vy_24), (0, .ref (Ma 0))]) hx hb dX12_empty_52 hl (k := 0) rfl (by rw [ex_57]; rfl) (by decide) rfl (fun ls hl₀ => ?_)
              replace hl := hl₀
              clear hl₀
              refine lv_goto (tgt := 18) hx hb dX12_empty_55 (by decide) ?_
              have hb_58 : 200 - (x_57 : Int32).toInt < 200 - (vy_19 : Int32).toInt ∧ 1 ≤ 200 - (vy_19 : Int32).toInt := by
                have z_1 : ¬ (r_4 : Int32).toInt = (0 : Int32).toInt := fun z => c_7 (Int32.toInt_inj.mp z)
                have z_2 := Int32.lt_iff_toInt_lt.mp (Int32.not_le.mp c_31)
                have z_3 := Int32.lt_iff_toInt_lt.mp (Int32.not_le.mp c_37)
                have z_4 : ¬ (x_43 : Int32).toInt = (0 : Int32).toInt := fun z => c_44 (Int32.toInt_inj.mp z)
                have y_0 : (0 : Int32).toInt = 0 := by decide
                have y_200 : (200 : Int32).toInt = 200 := by decide
                have y_1 : (1 : Int32).toInt = 1 := by decide
                have t_x_57 : x_57.toInt = (vy_19 : Int32).toInt + (1 : Int32).toInt := by rw [ex_57]; exact add_toInt (by omega) (by omega)
                refine ⟨?_, ?_⟩ <;> omega
              have ha_59 : 0 ≤ (x_57 : Int32).toInt ∧ (x_57 : Int32).toInt ≤ 200 := by
                have z_1 : ¬ (r_4 : Int32).toInt = (0 : Int32).toInt := fun z => c_7 (Int32.toInt_inj.mp z)
                have z_2 := Int32.lt_iff_toInt_lt.mp (Int32.not_le.mp c_31)
                have z_3 := Int32.lt_iff_toInt_lt.mp (Int32.not_le.mp c_37)
                have z_4 : ¬ (x_43 : Int32).toInt = (0 : Int32).toInt := fun z => c_44 (Int32.toInt_inj.mp z)
                have y_0 : (0 : Int32).toInt = 0 := by decide
                have y_200 : (200 : Int32).toInt = 200 := by decide
                have y_1 : (1 : Int32).toInt = 1 := by decide
                have t_x_57 : x_57.toInt = (vy_19 : Int32).toInt + (1 : Int32).toInt := by rw [ex_57]; exact add_toInt (by omega) (by omega)
                refine ⟨?_, ?_⟩ <;> omega
              have ha_60 : ((999 + (vy_19 : Int32).toInt) + 1) ≤ (999 + (x_57 : Int32).toInt) := by
                have z_1 : ¬ (r_4 : Int32).toInt = (0 : Int32).toInt := fun z => c_7 (Int32.toInt_inj.mp z)
                have z_2 := Int32.lt_iff_toInt_lt.mp (Int32.not_le.mp c_31)
                have z_3 := Int32.lt_iff_toInt_lt.mp (Int32.not_le.mp c_37)
                have z_4 : ¬ (x_43 : Int32).toInt = (0 : Int32).toInt := fun z => c_44 (Int32.toInt_inj.mp z)
                have y_0 : (0 : Int32).toInt = 0 := by decide
                have y_200 : (200 : Int32).toInt = 200 := by decide
                have y_1 : (1 : Int32).toInt = 1 := by decide
                have t_x_57 : x_57.toInt = (vy_19 : Int32).toInt + (1 : Int32).toInt := by rw [ex_57]; exact add_toInt (by omega) (by omega)
                omega
              exact ih_26 x_57 sv_50 sv_51 sv_49 sv_52 vy_24 _ _ _ (by omega) ha_59 (SaidD.mono pf_53 ha_60) (hP.sub [2, 3, 4, 5, 6, 1, 7, 0] rfl) (hD.sub [2, 3, 4, 5, 6, 1, 7, 0] rfl rfl) hS (lv_sub hl [0, 1, 2] rfl)
            · skip
              refine lv_aload_n hx hb dX12_empty_39 rfl (lv_at hl 2 rfl) ?_
              refine gf_X12_39 hx hb hts hown hK hP 5 rfl rfl dX12_empty_40 ?_
              refine lv_bipush (v := 10) hx hb dX12_empty_43 (by decide) ?_
              refine va_iald hx hb hK hP 6 0 rfl rfl (vin_dec (by decide +kernel)) dX12_empty_45 ?_
              refine lv_topi (fun x_61 ex_61 => ?_)
              have lx_61 : x_61.toInt = (vy_23 10).toInt := congrArg Int32.toInt ex_61
              refine lv_istore_n (lv' := [(1, .int x_61), (2, .int vy_19), (0, .ref (Ma 0))]) hx hb dX12_empty_46 rfl hl (by decide) rfl (fun ls hl₀ => ?_)
              replace hl := hl₀
              clear hl₀
              refine lv_aload_n hx hb dX12_empty_47 rfl (lv_at hl 2 rfl) ?_
              have ha_62 : (999 + (vy_19 : Int32).toInt) ≤ 1000000 := by
                have z_1 : ¬ (r_4 : Int32).toInt = (0 : Int32).toInt := fun z => c_7 (Int32.toInt_inj.mp z)
                have z_2 := Int32.lt_iff_toInt_lt.mp (Int32.not_le.mp c_31)
                have z_3 := Int32.lt_iff_toInt_lt.mp (Int32.not_le.mp c_37)
                have z_4 := congrArg Int32.toInt c_44
                have y_0 : (0 : Int32).toInt = 0 := by decide
                have y_200 : (200 : Int32).toInt = 200 := by decide
                omega
              refine cV (a := (Ma 0)) (As := []) (rest := []) (wr := [((Ma 12), .inl (tc 0, 46, .inl sv_11))]) ⟨hx, hb, hml, hown, hts⟩ hK hX hA (cu_X12_passes l D tc sk (Ma 0) (Ma 1) (Ma 2) (Ma 3) (Ma 4) (Ma 5) (Ma 6) (Ma 7) (Ma 8) (Ma 9) (Ma 10) (Ma 11) (Ma 12) (Ma 13) (Ma 14) (Ma 15) (Ma 16) (Ma 17) (Ma 18) (Ma 19) (Ma 20) (Mv 0) (Mv 1) (Mv 2) (Mv 3) (Mv 4) (Mv 5) (Mv 6) (Mv 7) (Mv 8) (Mv 9) vy_22 (Mv 11) (Mv 12) (Mv 13) (Mv 14) (Mf 2) (Mf 4) (Mf 5) vy_23 (Mj 0) vy_20 vy_21 (999 + (vy_19 : Int32).toInt) pf_29 ha_62 h_rul h_frc) k_1423 k_1420 k_1422 k_67 k_106 pl_X12_passes ⟨Nat.le_of_ble_eq_true rfl, Nat.le_of_ble_eq_true rfl⟩ rfl rfl (va_recv hK hP (ci := 12) (q0 := 5) rfl rfl) hP hD hS [5, 0, 1, 2, 3, 4, 6] [7] rfl rfl rfl rfl rfl (by decide) rfl hl.1 rfl (Nat.le_of_ble_eq_true rfl) dX12_empty_48 ⟨Nat.le_of_ble_eq_true rfl, Nat.le_of_ble_eq_true rfl⟩ (fun v_63 u_64 H locs hv_65 hP₀ hD₀ hS₀ => ?_)
              obtain ⟨sv_66, sv_67, sv_68, sv_69⟩ := u_64
              obtain ⟨r_71, rfl, he_72, pf_70⟩ := hv_65
              have pf_70 : SaidD T sv_69 ((999 + (vy_19 : Int32).toInt) + 1) := pf_70
              have ar_pf_70 := SaidD.al pf_70
              refine W.eq (g2 := F0 m 51 ls [.int r_71]) rfl ?_
              replace hP : va_P D classes [((Ma 12), .inl (tc 0, 46, .inl sv_11)), ((Ma 0), .inr (12, [.ref (Ma 1), .int (Mv 0), .int (Mv 1), .ref (Ma 2), .ref (Ma 3), .ref (Ma 4), .ref (Ma 5), .ref (Ma 6), .int (Mv 2), .int (Mv 3), .int (Mv 4), .int (Mv 5), .int (Mv 6), .int (Mv 7), .int (Mv 8), .ref (Ma 7), .int (Mv 9), .ref (Ma 8), .int sv_66, .ref (Ma 9), .ref (Ma 10), .int (Mv 11), .int (Mv 12), .int (Mv 13), .ref (Ma 11), .int (Mv 14), .ref (Ma 12), .ref (Ma 13), .ref (Ma 14), .ref (Ma 15), .ref (Ma 16), .long (Mj 0), .ref (Ma 17), .ref (Ma 18), .ref (Ma 19), .ref (Ma 20)])), ((Ma 2), .inl (tc 0, 2400, .inl (Mf 2))), ((Ma 4), .inl (tc 0, 288, .inl (Mf 4))), ((Ma 5), .inl (tc 0, 6, .inl (Mf 5))), ((Ma 8), .inl (tc 1, 64, .inr (.inl sv_67))), ((Ma 9), .inl (tc 1, 13, .inr (.inl sv_68))), ((Ma 10), .inl (tc 0, 126, .inl sv_69))] H := hP₀
              replace hD : va_D A [((Ma 12), .inl (tc 0, 46, .inl sv_11)), ((Ma 0), .inr (12, [.ref (Ma 1), .int (Mv 0), .int (Mv 1), .ref (Ma 2), .ref (Ma 3), .ref (Ma 4), .ref (Ma 5), .ref (Ma 6), .int (Mv 2), .int (Mv 3), .int (Mv 4), .int (Mv 5), .int (Mv 6), .int (Mv 7), .int (Mv 8), .ref (Ma 7), .int (Mv 9), .ref (Ma 8), .int sv_66, .ref (Ma 9), .ref (Ma 10), .int (Mv 11), .int (Mv 12), .int (Mv 13), .ref (Ma 11), .int (Mv 14), .ref (Ma 12), .ref (Ma 13), .ref (Ma 14), .ref (Ma 15), .ref (Ma 16), .long (Mj 0), .ref (Ma 17), .ref (Ma 18), .ref (Ma 19), .ref (Ma 20)])), ((Ma 2), .inl (tc 0, 2400, .inl (Mf 2))), ((Ma 4), .inl (tc 0, 288, .inl (Mf 4))), ((Ma 5), .inl (tc 0, 6, .inl (Mf 5))), ((Ma 8), .inl (tc 1, 64, .inr (.inl sv_67))), ((Ma 9), .inl (tc 1, 13, .inr (.inl sv_68))), ((Ma 10), .inl (tc 0, 126, .inl sv_69))] := hD₀
              replace hS := hS₀
              clear hP₀ hD₀ hS₀
              refine lv_pop hx hb dX12_empty_51 rfl ?_
              obtain ⟨x_74, ex_74⟩ : ∃ y : Int32, y = vy_19 + 1 := ⟨_, rfl⟩
              refine lv_iinc (v := x_74) (lv' := [(2, .int x_74), (1, .int x_61), (0, .ref (Ma 0))]) hx hb dX12_empty_52 hl (k := 1) rfl (by rw [ex_74]; rfl) (by decide) rfl (fun ls hl₀ => ?_)
              replace hl := hl₀
              clear hl₀
              refine lv_goto (tgt := 18) hx hb dX12_empty_55 (by decide) ?_
              have hb_75 : 200 - (x_74 : Int32).toInt < 200 - (vy_19 : Int32).toInt ∧ 1 ≤ 200 - (vy_19 : Int32).toInt := by
                have z_1 : ¬ (r_4 : Int32).toInt = (0 : Int32).toInt := fun z => c_7 (Int32.toInt_inj.mp z)
                have z_2 := Int32.lt_iff_toInt_lt.mp (Int32.not_le.mp c_31)
                have z_3 := Int32.lt_iff_toInt_lt.mp (Int32.not_le.mp c_37)
                have z_4 := congrArg Int32.toInt c_44
                have y_0 : (0 : Int32).toInt = 0 := by decide
                have y_200 : (200 : Int32).toInt = 200 := by decide
                have y_1 : (1 : Int32).toInt = 1 := by decide
                have t_x_74 : x_74.toInt = (vy_19 : Int32).toInt + (1 : Int32).toInt := by rw [ex_74]; exact add_toInt (by omega) (by omega)
                refine ⟨?_, ?_⟩ <;> omega
              have ha_76 : 0 ≤ (x_74 : Int32).toInt ∧ (x_74 : Int32).toInt ≤ 200 := by
                have z_1 : ¬ (r_4 : Int32).toInt = (0 : Int32).toInt := fun z => c_7 (Int32.toInt_inj.mp z)
                have z_2 := Int32.lt_iff_toInt_lt.mp (Int32.not_le.mp c_31)
                have z_3 := Int32.lt_iff_toInt_lt.mp (Int32.not_le.mp c_37)
                have z_4 := congrArg Int32.toInt c_44
                have y_0 : (0 : Int32).toInt = 0 := by decide
                have y_200 : (200 : Int32).toInt = 200 := by decide
                have y_1 : (1 : Int32).toInt = 1 := by decide
                have t_x_74 : x_74.toInt = (vy_19 : Int32).toInt + (1 : Int32).toInt := by rw [ex_74]; exact add_toInt (by omega) (by omega)
                refine ⟨?_, ?_⟩ <;> omega
              have ha_77 : ((999 + (vy_19 : Int32).toInt) + 1) ≤ (999 + (x_74 : Int32).toInt) := by
                have z_1 : ¬ (r_4 : Int32).toInt = (0 : Int32).toInt := fun z => c_7 (Int32.toInt_inj.mp z)
                have z_2 := Int32.lt_iff_toInt_lt.mp (Int32.not_le.mp c_31)
                have z_3 := Int32.lt_iff_toInt_lt.mp (Int32.not_le.mp c_37)
                have z_4 := congrArg Int32.toInt c_44
                have y_0 : (0 : Int32).toInt = 0 := by decide
                have y_200 : (200 : Int32).toInt = 200 := by decide
                have y_1 : (1 : Int32).toInt = 1 := by decide
                have t_x_74 : x_74.toInt = (vy_19 : Int32).toInt + (1 : Int32).toInt := by rw [ex_74]; exact add_toInt (by omega) (by omega)
                omega
              exact ih_26 x_74 sv_67 sv_68 sv_66 sv_69 x_61 _ _ _ (by omega) ha_76 (SaidD.mono pf_70 ha_77) (hP.sub [2, 3, 4, 5, 6, 1, 7, 0] rfl) (hD.sub [2, 3, 4, 5, 6, 1, 7, 0] rfl rfl) hS (lv_sub hl [0, 1, 2] rfl)
    have ha_78 : 0 ≤ (0 : Int32).toInt ∧ (0 : Int32).toInt ≤ 200 := by
      have z_1 : ¬ (r_4 : Int32).toInt = (0 : Int32).toInt := fun z => c_7 (Int32.toInt_inj.mp z)
      have y_0 : (0 : Int32).toInt = 0 := by decide
      refine ⟨?_, ?_⟩ <;> omega
    have ha_79 : 999 ≤ (999 + (0 : Int32).toInt) := by
      have z_1 : ¬ (r_4 : Int32).toInt = (0 : Int32).toInt := fun z => c_7 (Int32.toInt_inj.mp z)
      have y_0 : (0 : Int32).toInt = 0 := by decide
      omega
    exact loop_27 _ 0 (Mg 8) (Mg 9) (Mv 10) (Mf 10) (-2) _ _ _ (Nat.lt_succ_self _) ha_78 (SaidD.mono h_said ha_79) hP hD hS hl
  · skip
    refine lv_iconst (v := (-1)) hx hb dX12_empty_7 (by decide) ?_
    exact retI (v := (-1)) hx hb hr hlk (rfl) hP hD hS ((Mv 10), (Mg 8), (Mg 9), (Mf 10), (Mf 12)) ⟨_, rfl, trivial, h_said⟩ [6, 0, 1, 2, 3, 4, 7, 5] rfl rfl dX12_empty_8 (Nat.le_of_ble_eq_true rfl) (Nat.le_of_ble_eq_true rfl) rfl
set_option maxHeartbeats 4000000 in
set_option maxRecDepth 100000 in
theorem ct_X12_common (l : Launch) (D : va_G) (tc : Nat → ClassId) (sk : (Nat → Nat) × (Nat → Nat)) (x1 : Int32) (x2 : Int32) (h_a : ¬ x1.toInt = 0) : Ct l yX12_common cX12_common 5 (some .int) { frames := 0, cells := 0, slots := 0, locals := 0 } D tc sk [.int x1, .int x2] [] (fun (v : Option Value) (_ : Unit) => ∃ r : Int32, v = some (.int r) ∧ ((¬ r.toInt = 0))) (fun (_ : Unit) => []) 0 0 := by
  refine Ct.start (by decide) (Nat.le_of_ble_eq_true rfl) (fun p e s m below meth c A ls hx hb hr hlk hin hml hown hts hK hX hP hD hA hl hS => ?_)
  have hl : lv_has ls 5 [(0, .int x1), (1, .int x2)] := hl
  refine lv_iload_n hx hb dX12_common_0 rfl (lv_at hl 0 rfl) ?_
  refine lv_istore_n (lv' := [(2, .int x1), (0, .int x1), (1, .int x2)]) hx hb dX12_common_1 rfl hl (by decide) rfl (fun ls hl₀ => ?_)
  replace hl := hl₀
  clear hl₀
  refine lv_iload_n hx hb dX12_common_2 rfl (lv_at hl 2 rfl) ?_
  refine lv_istore_n (lv' := [(3, .int x2), (2, .int x1), (0, .int x1), (1, .int x2)]) hx hb dX12_common_3 rfl hl (by decide) rfl (fun ls hl₀ => ?_)
  replace hl := hl₀
  clear hl₀
  have loop_7 : ∀ (n_5 : Nat) (vy_3 : Int32) (vy_4 : Int32) (H : Heap) (locs : List Loc) (ls : Array Slot), ((((vy_3 : Int32).toInt.natAbs : Nat) : Int)).toNat < n_5 → (¬ (vy_4 : Int32).toInt = 0) → va_P D classes [] H → va_D A [] → va_S A s.heap H locs → lv_has ls 5 [(3, .int vy_3), (2, .int vy_4), (0, .int x1), (1, .int x2)] → W p l e ({ frames := 0, cells := 0, slots := 0, locals := 0 }) s m ([.int x1, .int x2].toArray) below meth c H locs 0 0 (MQ below (QW (fun (v : Option Value) (_ : Unit) => ∃ r : Int32, v = some (.int r) ∧ ((¬ r.toInt = 0))) (BW D (fun (_ : Unit) => []) A) A) ([.int x1, .int x2].toArray) s 0 0 A) (F0 m 4 ls []) := by
    clear hP hD hS hl
    intro n_5
    induction n_5 with
    | zero =>
      intro vy_3 vy_4 H locs ls h1
      exact absurd h1 (Nat.not_lt_zero _)
    | succ n_5 ih_6 =>
      intro vy_3 vy_4 H locs ls hn_9 pf_8 hP hD hS hl
      refine lv_iload_n hx hb dX12_common_4 rfl (lv_at hl 0 rfl) ?_
      refine lv_if_eq (tgt := 21) hx hb dX12_common_5 (by decide) (fun c_10 => ?_) (fun c_10 => ?_)
      · skip
        refine lv_iload_n hx hb dX12_common_21 rfl (lv_at hl 1 rfl) ?_
        have hp_11 : (¬ (vy_4 : Int32).toInt = 0) := by
          have z_1 := congrArg Int32.toInt c_10
          have y_0 : (0 : Int32).toInt = 0 := by decide
          omega
        exact retI (v := vy_4) hx hb hr hlk (rfl) hP hD hS () ⟨_, rfl, hp_11⟩ [] rfl rfl dX12_common_22 (Nat.le_of_ble_eq_true rfl) (Nat.le_of_ble_eq_true rfl) rfl
      · skip
        refine lv_iload_n hx hb dX12_common_8 rfl (lv_at hl 1 rfl) ?_
        refine lv_iload_n hx hb dX12_common_9 rfl (lv_at hl 0 rfl) ?_
        have hz_12 : ¬ vy_3 = 0 := by
          intro z
          have zz : (vy_3 : Int32).toInt = 0 := by rw [z]; decide
          have z_1 : ¬ (vy_3 : Int32).toInt = (0 : Int32).toInt := fun z => c_10 (Int32.toInt_inj.mp z)
          have y_0 : (0 : Int32).toInt = 0 := by decide
          omega
        refine lv_irem hx hb dX12_common_10 hz_12 ?_
        refine lv_topi (fun x_13 ex_13 => ?_)
        refine lv_istore (lv' := [(4, .int x_13), (3, .int vy_3), (2, .int vy_4), (0, .int x1), (1, .int x2)]) hx hb dX12_common_11 hl (by decide) rfl (fun ls hl₀ => ?_)
        replace hl := hl₀
        clear hl₀
        refine lv_iload_n hx hb dX12_common_13 rfl (lv_at hl 1 rfl) ?_
        refine lv_istore_n (lv' := [(2, .int vy_3), (4, .int x_13), (3, .int vy_3), (0, .int x1), (1, .int x2)]) hx hb dX12_common_14 rfl hl (by decide) rfl (fun ls hl₀ => ?_)
        replace hl := hl₀
        clear hl₀
        refine lv_iload hx hb dX12_common_15 (lv_at hl 1 rfl) ?_
        refine lv_istore_n (lv' := [(3, .int x_13), (2, .int vy_3), (4, .int x_13), (0, .int x1), (1, .int x2)]) hx hb dX12_common_17 rfl hl (by decide) rfl (fun ls hl₀ => ?_)
        replace hl := hl₀
        clear hl₀
        refine lv_goto (tgt := 4) hx hb dX12_common_18 (by decide) ?_
        have hb_14 : (((x_13 : Int32).toInt.natAbs : Nat) : Int) < (((vy_3 : Int32).toInt.natAbs : Nat) : Int) ∧ 1 ≤ (((vy_3 : Int32).toInt.natAbs : Nat) : Int) := by
          have z_1 : ¬ (vy_3 : Int32).toInt = (0 : Int32).toInt := fun z => c_10 (Int32.toInt_inj.mp z)
          have y_0 : (0 : Int32).toInt = 0 := by decide
          have hdec := rem_abs (x := vy_4) (y := vy_3) (by
            have z_1 : ¬ (vy_3 : Int32).toInt = (0 : Int32).toInt := fun z => c_10 (Int32.toInt_inj.mp z)
            have y_0 : (0 : Int32).toInt = 0 := by decide
            omega)
          rw [← ex_13] at hdec
          refine ⟨?_, ?_⟩ <;> omega
        have ha_15 : ¬ (vy_3 : Int32).toInt = 0 := by
          have z_1 : ¬ (vy_3 : Int32).toInt = (0 : Int32).toInt := fun z => c_10 (Int32.toInt_inj.mp z)
          have y_0 : (0 : Int32).toInt = 0 := by decide
          omega
        exact ih_6 x_13 vy_3 _ _ _ (by omega) ha_15 (hP.sub [] rfl) (hD.sub [] rfl rfl) hS (lv_sub hl [0, 1, 3, 4] rfl)
  have ha_16 : ¬ (x1 : Int32).toInt = 0 := by
    omega
  exact loop_7 _ x2 x1 _ _ _ (Nat.lt_succ_self _) ha_16 hP hD hS hl
set_option maxHeartbeats 4000000 in
set_option maxRecDepth 100000 in
theorem ct_X12_tells {T : Nat → Option Int32} (l : Launch) (D : va_G) (tc : Nat → ClassId) (sk : (Nat → Nat) × (Nat → Nat)) (Ma : Nat → Nat) (Mv : Nat → Int32) (Mf : Nat → Nat → Int32) (Mj : Nat → Int64) (Mg : Nat → Nat → Int64) (x1 : Int32) (x2 : Int32) (h_said : SaidD T (Mf 10) 999) (h_rul : RulD (Mf 2) (Mf 4) (Mf 5) (Mv 1)) (h_frc : -1 ≤ (Mv 11).toInt ∧ (Mv 11).toInt < (Mv 1).toInt ∧ (Mv 1).toInt ≤ 6) : Ct l yX12_tells cX12_tells 8 (some .int) { frames := 5, cells := 0, slots := 0, locals := 121 } D tc sk [.ref (Ma 0), .int x1, .int x2] [((Ma 0), .inr (12, [.ref (Ma 1), .int (Mv 0), .int (Mv 1), .ref (Ma 2), .ref (Ma 3), .ref (Ma 4), .ref (Ma 5), .ref (Ma 6), .int (Mv 2), .int (Mv 3), .int (Mv 4), .int (Mv 5), .int (Mv 6), .int (Mv 7), .int (Mv 8), .ref (Ma 7), .int (Mv 9), .ref (Ma 8), .int (Mv 10), .ref (Ma 9), .ref (Ma 10), .int (Mv 11), .int (Mv 12), .int (Mv 13), .ref (Ma 11), .int (Mv 14), .ref (Ma 12), .ref (Ma 13), .ref (Ma 14), .ref (Ma 15), .ref (Ma 16), .long (Mj 0), .ref (Ma 17), .ref (Ma 18), .ref (Ma 19), .ref (Ma 20)])), ((Ma 2), .inl (tc 0, 2400, .inl (Mf 2))), ((Ma 4), .inl (tc 0, 288, .inl (Mf 4))), ((Ma 5), .inl (tc 0, 6, .inl (Mf 5))), ((Ma 8), .inl (tc 1, 64, .inr (.inl (Mg 8)))), ((Ma 9), .inl (tc 1, 13, .inr (.inl (Mg 9)))), ((Ma 10), .inl (tc 0, 126, .inl (Mf 10))), ((Ma 12), .inl (tc 0, 46, .inl (Mf 12)))] (fun (v : Option Value) (u : (Int32) × (Nat → Int64) × (Nat → Int64) × (Nat → Int32) × (Nat → Int32)) => match u with | (oo0x1, oo0x2, oo0x3, oo0x4, oo0x5) => ∃ r : Int32, v = some (.int r) ∧ (True) ∧ (SaidD T oo0x4 999)) (fun (u : (Int32) × (Nat → Int64) × (Nat → Int64) × (Nat → Int32) × (Nat → Int32)) => match u with | (oo0x1, oo0x2, oo0x3, oo0x4, oo0x5) => [((Ma 0), .inr (12, [.ref (Ma 1), .int (Mv 0), .int (Mv 1), .ref (Ma 2), .ref (Ma 3), .ref (Ma 4), .ref (Ma 5), .ref (Ma 6), .int (Mv 2), .int (Mv 3), .int (Mv 4), .int (Mv 5), .int (Mv 6), .int (Mv 7), .int (Mv 8), .ref (Ma 7), .int (Mv 9), .ref (Ma 8), .int oo0x1, .ref (Ma 9), .ref (Ma 10), .int (Mv 11), .int (Mv 12), .int (Mv 13), .ref (Ma 11), .int (Mv 14), .ref (Ma 12), .ref (Ma 13), .ref (Ma 14), .ref (Ma 15), .ref (Ma 16), .long (Mj 0), .ref (Ma 17), .ref (Ma 18), .ref (Ma 19), .ref (Ma 20)])), ((Ma 2), .inl (tc 0, 2400, .inl (Mf 2))), ((Ma 4), .inl (tc 0, 288, .inl (Mf 4))), ((Ma 5), .inl (tc 0, 6, .inl (Mf 5))), ((Ma 8), .inl (tc 1, 64, .inr (.inl oo0x2))), ((Ma 9), .inl (tc 1, 13, .inr (.inl oo0x3))), ((Ma 10), .inl (tc 0, 126, .inl oo0x4)), ((Ma 12), .inl (tc 0, 46, .inl oo0x5))]) 0 0 := by
  refine Ct.start (by decide) (Nat.le_of_ble_eq_true rfl) (fun p e s m below meth c A ls hx hb hr hlk hin hml hown hts hK hX hP hD hA hl hS => ?_)
  have hl : lv_has ls 8 [(0, .ref (Ma 0)), (1, .int x1), (2, .int x2)] := hl
  have ar_h_said := SaidD.al h_said
  refine lv_aload_n hx hb dX12_tells_0 rfl (lv_at hl 0 rfl) ?_
  refine cV (a := (Ma 0)) (As := []) (rest := []) (wr := [((Ma 2), .inl (tc 0, 2400, .inl (Mf 2))), ((Ma 4), .inl (tc 0, 288, .inl (Mf 4))), ((Ma 5), .inl (tc 0, 6, .inl (Mf 5))), ((Ma 8), .inl (tc 1, 64, .inr (.inl (Mg 8)))), ((Ma 9), .inl (tc 1, 13, .inr (.inl (Mg 9)))), ((Ma 12), .inl (tc 0, 46, .inl (Mf 12)))]) ⟨hx, hb, hml, hown, hts⟩ hK hX hA (cu_X12_isBook l D tc sk (Ma 0) (Ma 1) (Ma 2) (Ma 3) (Ma 4) (Ma 5) (Ma 6) (Ma 7) (Ma 8) (Ma 9) (Ma 10) (Ma 11) (Ma 12) (Ma 13) (Ma 14) (Ma 15) (Ma 16) (Ma 17) (Ma 18) (Ma 19) (Ma 20) (Mv 0) (Mv 1) (Mv 2) (Mv 3) (Mv 4) (Mv 5) (Mv 6) (Mv 7) (Mv 8) (Mv 9) (Mv 10) (Mv 11) (Mv 12) (Mv 13) (Mv 14) (Mf 10) (Mj 0) h_said.1) k_1407 k_1404 k_1406 k_65 k_106 pl_X12_isBook ⟨Nat.le_of_ble_eq_true rfl, Nat.le_of_ble_eq_true rfl⟩ rfl rfl (va_recv hK hP (ci := 12) (q0 := 0) rfl rfl) hP hD hS [0, 6] [1, 2, 3, 4, 5, 7] rfl rfl rfl rfl rfl (by decide) rfl hl.1 rfl (Nat.le_of_ble_eq_true rfl) dX12_tells_1 ⟨Nat.le_of_ble_eq_true rfl, Nat.le_of_ble_eq_true rfl⟩ (fun v_1 u_2 H locs hv_3 hP₀ hD₀ hS₀ => ?_)
  obtain ⟨r_4, rfl, he_5⟩ := hv_3
  have he_5 : (r_4.toInt = 0 ∨ (r_4.toInt = 1 ∧ 1 ≤ ((Mf 10) 2).toInt ∧ ((Mf 10) 2).toInt ≤ 10)) := he_5
  refine W.eq (g2 := F0 m 4 ls [.int r_4]) rfl ?_
  replace hP : va_P D classes [((Ma 2), .inl (tc 0, 2400, .inl (Mf 2))), ((Ma 4), .inl (tc 0, 288, .inl (Mf 4))), ((Ma 5), .inl (tc 0, 6, .inl (Mf 5))), ((Ma 8), .inl (tc 1, 64, .inr (.inl (Mg 8)))), ((Ma 9), .inl (tc 1, 13, .inr (.inl (Mg 9)))), ((Ma 12), .inl (tc 0, 46, .inl (Mf 12))), ((Ma 0), .inr (12, [.ref (Ma 1), .int (Mv 0), .int (Mv 1), .ref (Ma 2), .ref (Ma 3), .ref (Ma 4), .ref (Ma 5), .ref (Ma 6), .int (Mv 2), .int (Mv 3), .int (Mv 4), .int (Mv 5), .int (Mv 6), .int (Mv 7), .int (Mv 8), .ref (Ma 7), .int (Mv 9), .ref (Ma 8), .int (Mv 10), .ref (Ma 9), .ref (Ma 10), .int (Mv 11), .int (Mv 12), .int (Mv 13), .ref (Ma 11), .int (Mv 14), .ref (Ma 12), .ref (Ma 13), .ref (Ma 14), .ref (Ma 15), .ref (Ma 16), .long (Mj 0), .ref (Ma 17), .ref (Ma 18), .ref (Ma 19), .ref (Ma 20)])), ((Ma 10), .inl (tc 0, 126, .inl (Mf 10)))] H := hP₀
  replace hD : va_D A [((Ma 2), .inl (tc 0, 2400, .inl (Mf 2))), ((Ma 4), .inl (tc 0, 288, .inl (Mf 4))), ((Ma 5), .inl (tc 0, 6, .inl (Mf 5))), ((Ma 8), .inl (tc 1, 64, .inr (.inl (Mg 8)))), ((Ma 9), .inl (tc 1, 13, .inr (.inl (Mg 9)))), ((Ma 12), .inl (tc 0, 46, .inl (Mf 12))), ((Ma 0), .inr (12, [.ref (Ma 1), .int (Mv 0), .int (Mv 1), .ref (Ma 2), .ref (Ma 3), .ref (Ma 4), .ref (Ma 5), .ref (Ma 6), .int (Mv 2), .int (Mv 3), .int (Mv 4), .int (Mv 5), .int (Mv 6), .int (Mv 7), .int (Mv 8), .ref (Ma 7), .int (Mv 9), .ref (Ma 8), .int (Mv 10), .ref (Ma 9), .ref (Ma 10), .int (Mv 11), .int (Mv 12), .int (Mv 13), .ref (Ma 11), .int (Mv 14), .ref (Ma 12), .ref (Ma 13), .ref (Ma 14), .ref (Ma 15), .ref (Ma 16), .long (Mj 0), .ref (Ma 17), .ref (Ma 18), .ref (Ma 19), .ref (Ma 20)])), ((Ma 10), .inl (tc 0, 126, .inl (Mf 10)))] := hD₀
  replace hS := hS₀
  clear hP₀ hD₀ hS₀
  refine lv_if_eq (tgt := 29) hx hb dX12_tells_4 (by decide) (fun c_7 => ?_) (fun c_7 => ?_)
  · skip
    refine lv_iconst (v := (-1)) hx hb dX12_tells_29 (by decide) ?_
    exact retI (v := (-1)) hx hb hr hlk (rfl) hP hD hS ((Mv 10), (Mg 8), (Mg 9), (Mf 10), (Mf 12)) ⟨_, rfl, trivial, h_said⟩ [6, 0, 1, 2, 3, 4, 7, 5] rfl rfl dX12_tells_30 (Nat.le_of_ble_eq_true rfl) (Nat.le_of_ble_eq_true rfl) rfl
  · skip
    refine lv_iload_n hx hb dX12_tells_7 rfl (lv_at hl 1 rfl) ?_
    refine lv_i2l (v := (x1).toInt64) hx hb dX12_tells_8 rfl ?_
    refine lv_lconst (v := 1) hx hb dX12_tells_9 (by decide) ?_
    refine lv_ldc2 hx hb hown (hts _ k_1500) dX12_tells_10 ?_
    refine cS (As := [.long (x1).toInt64, .long 1, .long 100]) (rest := []) (wr := [((Ma 2), .inl (tc 0, 2400, .inl (Mf 2))), ((Ma 4), .inl (tc 0, 288, .inl (Mf 4))), ((Ma 5), .inl (tc 0, 6, .inl (Mf 5))), ((Ma 8), .inl (tc 1, 64, .inr (.inl (Mg 8)))), ((Ma 9), .inl (tc 1, 13, .inr (.inl (Mg 9)))), ((Ma 12), .inl (tc 0, 46, .inl (Mf 12))), ((Ma 0), .inr (12, [.ref (Ma 1), .int (Mv 0), .int (Mv 1), .ref (Ma 2), .ref (Ma 3), .ref (Ma 4), .ref (Ma 5), .ref (Ma 6), .int (Mv 2), .int (Mv 3), .int (Mv 4), .int (Mv 5), .int (Mv 6), .int (Mv 7), .int (Mv 8), .ref (Ma 7), .int (Mv 9), .ref (Ma 8), .int (Mv 10), .ref (Ma 9), .ref (Ma 10), .int (Mv 11), .int (Mv 12), .int (Mv 13), .ref (Ma 11), .int (Mv 14), .ref (Ma 12), .ref (Ma 13), .ref (Ma 14), .ref (Ma 15), .ref (Ma 16), .long (Mj 0), .ref (Ma 17), .ref (Ma 18), .ref (Ma 19), .ref (Ma 20)])), ((Ma 10), .inl (tc 0, 126, .inl (Mf 10)))]) ⟨hx, hb, hml, hown, hts⟩ hK hX hA (ct_X12_in l D tc sk ((x1).toInt64) 1 100) k_1259 k_1257 k_1258 k_106 pl_X12_in ⟨Nat.le_of_ble_eq_true rfl, Nat.le_of_ble_eq_true rfl⟩ rfl rfl  hP hD hS [] [0, 1, 2, 3, 4, 5, 6, 7] rfl rfl rfl rfl rfl (by decide) rfl hl.1 rfl (Nat.le_of_ble_eq_true rfl) dX12_tells_13 ⟨Nat.le_of_ble_eq_true rfl, Nat.le_of_ble_eq_true rfl⟩ (fun v_8 u_9 H locs hv_10 hP₀ hD₀ hS₀ => ?_)
    obtain ⟨r_11, rfl, he_12⟩ := hv_10
    have he_12 : (r_11.toInt = 0 ∨ (r_11.toInt = 1 ∧ (1 : Int64).toInt ≤ (x1).toInt64.toInt ∧ (x1).toInt64.toInt ≤ (100 : Int64).toInt)) := he_12
    refine W.eq (g2 := F0 m 16 ls [.int r_11]) rfl ?_
    replace hP : va_P D classes [((Ma 2), .inl (tc 0, 2400, .inl (Mf 2))), ((Ma 4), .inl (tc 0, 288, .inl (Mf 4))), ((Ma 5), .inl (tc 0, 6, .inl (Mf 5))), ((Ma 8), .inl (tc 1, 64, .inr (.inl (Mg 8)))), ((Ma 9), .inl (tc 1, 13, .inr (.inl (Mg 9)))), ((Ma 12), .inl (tc 0, 46, .inl (Mf 12))), ((Ma 0), .inr (12, [.ref (Ma 1), .int (Mv 0), .int (Mv 1), .ref (Ma 2), .ref (Ma 3), .ref (Ma 4), .ref (Ma 5), .ref (Ma 6), .int (Mv 2), .int (Mv 3), .int (Mv 4), .int (Mv 5), .int (Mv 6), .int (Mv 7), .int (Mv 8), .ref (Ma 7), .int (Mv 9), .ref (Ma 8), .int (Mv 10), .ref (Ma 9), .ref (Ma 10), .int (Mv 11), .int (Mv 12), .int (Mv 13), .ref (Ma 11), .int (Mv 14), .ref (Ma 12), .ref (Ma 13), .ref (Ma 14), .ref (Ma 15), .ref (Ma 16), .long (Mj 0), .ref (Ma 17), .ref (Ma 18), .ref (Ma 19), .ref (Ma 20)])), ((Ma 10), .inl (tc 0, 126, .inl (Mf 10)))] H := hP₀
    replace hD : va_D A [((Ma 2), .inl (tc 0, 2400, .inl (Mf 2))), ((Ma 4), .inl (tc 0, 288, .inl (Mf 4))), ((Ma 5), .inl (tc 0, 6, .inl (Mf 5))), ((Ma 8), .inl (tc 1, 64, .inr (.inl (Mg 8)))), ((Ma 9), .inl (tc 1, 13, .inr (.inl (Mg 9)))), ((Ma 12), .inl (tc 0, 46, .inl (Mf 12))), ((Ma 0), .inr (12, [.ref (Ma 1), .int (Mv 0), .int (Mv 1), .ref (Ma 2), .ref (Ma 3), .ref (Ma 4), .ref (Ma 5), .ref (Ma 6), .int (Mv 2), .int (Mv 3), .int (Mv 4), .int (Mv 5), .int (Mv 6), .int (Mv 7), .int (Mv 8), .ref (Ma 7), .int (Mv 9), .ref (Ma 8), .int (Mv 10), .ref (Ma 9), .ref (Ma 10), .int (Mv 11), .int (Mv 12), .int (Mv 13), .ref (Ma 11), .int (Mv 14), .ref (Ma 12), .ref (Ma 13), .ref (Ma 14), .ref (Ma 15), .ref (Ma 16), .long (Mj 0), .ref (Ma 17), .ref (Ma 18), .ref (Ma 19), .ref (Ma 20)])), ((Ma 10), .inl (tc 0, 126, .inl (Mf 10)))] := hD₀
    replace hS := hS₀
    clear hP₀ hD₀ hS₀
    have yl_he_12_1 : (1 : Int64).toInt = 1 := by decide
    have yl_he_12_100 : (100 : Int64).toInt = 100 := by decide
    simp only [i32_64] at he_12
    refine lv_if_eq (tgt := 29) hx hb dX12_tells_16 (by decide) (fun c_14 => ?_) (fun c_14 => ?_)
    · skip
      refine lv_iconst (v := (-1)) hx hb dX12_tells_29 (by decide) ?_
      exact retI (v := (-1)) hx hb hr hlk (rfl) hP hD hS ((Mv 10), (Mg 8), (Mg 9), (Mf 10), (Mf 12)) ⟨_, rfl, trivial, h_said⟩ [6, 0, 1, 2, 3, 4, 7, 5] rfl rfl dX12_tells_30 (Nat.le_of_ble_eq_true rfl) (Nat.le_of_ble_eq_true rfl) rfl
    · skip
      refine lv_iload_n hx hb dX12_tells_19 rfl (lv_at hl 2 rfl) ?_
      refine lv_i2l (v := (x2).toInt64) hx hb dX12_tells_20 rfl ?_
      refine lv_lconst (v := 0) hx hb dX12_tells_21 (by decide) ?_
      refine lv_lconst (v := 1) hx hb dX12_tells_22 (by decide) ?_
      refine cS (As := [.long (x2).toInt64, .long 0, .long 1]) (rest := []) (wr := [((Ma 2), .inl (tc 0, 2400, .inl (Mf 2))), ((Ma 4), .inl (tc 0, 288, .inl (Mf 4))), ((Ma 5), .inl (tc 0, 6, .inl (Mf 5))), ((Ma 8), .inl (tc 1, 64, .inr (.inl (Mg 8)))), ((Ma 9), .inl (tc 1, 13, .inr (.inl (Mg 9)))), ((Ma 12), .inl (tc 0, 46, .inl (Mf 12))), ((Ma 0), .inr (12, [.ref (Ma 1), .int (Mv 0), .int (Mv 1), .ref (Ma 2), .ref (Ma 3), .ref (Ma 4), .ref (Ma 5), .ref (Ma 6), .int (Mv 2), .int (Mv 3), .int (Mv 4), .int (Mv 5), .int (Mv 6), .int (Mv 7), .int (Mv 8), .ref (Ma 7), .int (Mv 9), .ref (Ma 8), .int (Mv 10), .ref (Ma 9), .ref (Ma 10), .int (Mv 11), .int (Mv 12), .int (Mv 13), .ref (Ma 11), .int (Mv 14), .ref (Ma 12), .ref (Ma 13), .ref (Ma 14), .ref (Ma 15), .ref (Ma 16), .long (Mj 0), .ref (Ma 17), .ref (Ma 18), .ref (Ma 19), .ref (Ma 20)])), ((Ma 10), .inl (tc 0, 126, .inl (Mf 10)))]) ⟨hx, hb, hml, hown, hts⟩ hK hX hA (ct_X12_in l D tc sk ((x2).toInt64) 0 1) k_1259 k_1257 k_1258 k_106 pl_X12_in ⟨Nat.le_of_ble_eq_true rfl, Nat.le_of_ble_eq_true rfl⟩ rfl rfl  hP hD hS [] [0, 1, 2, 3, 4, 5, 6, 7] rfl rfl rfl rfl rfl (by decide) rfl hl.1 rfl (Nat.le_of_ble_eq_true rfl) dX12_tells_23 ⟨Nat.le_of_ble_eq_true rfl, Nat.le_of_ble_eq_true rfl⟩ (fun v_15 u_16 H locs hv_17 hP₀ hD₀ hS₀ => ?_)
      obtain ⟨r_18, rfl, he_19⟩ := hv_17
      have he_19 : (r_18.toInt = 0 ∨ (r_18.toInt = 1 ∧ (0 : Int64).toInt ≤ (x2).toInt64.toInt ∧ (x2).toInt64.toInt ≤ (1 : Int64).toInt)) := he_19
      refine W.eq (g2 := F0 m 26 ls [.int r_18]) rfl ?_
      replace hP : va_P D classes [((Ma 2), .inl (tc 0, 2400, .inl (Mf 2))), ((Ma 4), .inl (tc 0, 288, .inl (Mf 4))), ((Ma 5), .inl (tc 0, 6, .inl (Mf 5))), ((Ma 8), .inl (tc 1, 64, .inr (.inl (Mg 8)))), ((Ma 9), .inl (tc 1, 13, .inr (.inl (Mg 9)))), ((Ma 12), .inl (tc 0, 46, .inl (Mf 12))), ((Ma 0), .inr (12, [.ref (Ma 1), .int (Mv 0), .int (Mv 1), .ref (Ma 2), .ref (Ma 3), .ref (Ma 4), .ref (Ma 5), .ref (Ma 6), .int (Mv 2), .int (Mv 3), .int (Mv 4), .int (Mv 5), .int (Mv 6), .int (Mv 7), .int (Mv 8), .ref (Ma 7), .int (Mv 9), .ref (Ma 8), .int (Mv 10), .ref (Ma 9), .ref (Ma 10), .int (Mv 11), .int (Mv 12), .int (Mv 13), .ref (Ma 11), .int (Mv 14), .ref (Ma 12), .ref (Ma 13), .ref (Ma 14), .ref (Ma 15), .ref (Ma 16), .long (Mj 0), .ref (Ma 17), .ref (Ma 18), .ref (Ma 19), .ref (Ma 20)])), ((Ma 10), .inl (tc 0, 126, .inl (Mf 10)))] H := hP₀
      replace hD : va_D A [((Ma 2), .inl (tc 0, 2400, .inl (Mf 2))), ((Ma 4), .inl (tc 0, 288, .inl (Mf 4))), ((Ma 5), .inl (tc 0, 6, .inl (Mf 5))), ((Ma 8), .inl (tc 1, 64, .inr (.inl (Mg 8)))), ((Ma 9), .inl (tc 1, 13, .inr (.inl (Mg 9)))), ((Ma 12), .inl (tc 0, 46, .inl (Mf 12))), ((Ma 0), .inr (12, [.ref (Ma 1), .int (Mv 0), .int (Mv 1), .ref (Ma 2), .ref (Ma 3), .ref (Ma 4), .ref (Ma 5), .ref (Ma 6), .int (Mv 2), .int (Mv 3), .int (Mv 4), .int (Mv 5), .int (Mv 6), .int (Mv 7), .int (Mv 8), .ref (Ma 7), .int (Mv 9), .ref (Ma 8), .int (Mv 10), .ref (Ma 9), .ref (Ma 10), .int (Mv 11), .int (Mv 12), .int (Mv 13), .ref (Ma 11), .int (Mv 14), .ref (Ma 12), .ref (Ma 13), .ref (Ma 14), .ref (Ma 15), .ref (Ma 16), .long (Mj 0), .ref (Ma 17), .ref (Ma 18), .ref (Ma 19), .ref (Ma 20)])), ((Ma 10), .inl (tc 0, 126, .inl (Mf 10)))] := hD₀
      replace hS := hS₀
      clear hP₀ hD₀ hS₀
      have yl_he_19_0 : (0 : Int64).toInt = 0 := by decide
      have yl_he_19_1 : (1 : Int64).toInt = 1 := by decide
      simp only [i32_64] at he_19
      refine lv_if_ne (tgt := 31) hx hb dX12_tells_26 (by decide) (fun c_21 => ?_) (fun c_21 => ?_)
      · skip
        refine lv_iconst (v := 0) hx hb dX12_tells_31 (by decide) ?_
        refine lv_istore_n (lv' := [(3, .int 0), (0, .ref (Ma 0)), (1, .int x1), (2, .int x2)]) hx hb dX12_tells_32 rfl hl (by decide) rfl (fun ls hl₀ => ?_)
        replace hl := hl₀
        clear hl₀
        refine lv_iconst (v := 0) hx hb dX12_tells_33 (by decide) ?_
        refine lv_istore (lv' := [(4, .int 0), (3, .int 0), (0, .ref (Ma 0)), (1, .int x1), (2, .int x2)]) hx hb dX12_tells_34 hl (by decide) rfl (fun ls hl₀ => ?_)
        replace hl := hl₀
        clear hl₀
        refine lv_aload_n hx hb dX12_tells_36 rfl (lv_at hl 2 rfl) ?_
        refine cV (a := (Ma 0)) (As := []) (rest := []) (wr := [((Ma 2), .inl (tc 0, 2400, .inl (Mf 2))), ((Ma 4), .inl (tc 0, 288, .inl (Mf 4))), ((Ma 5), .inl (tc 0, 6, .inl (Mf 5))), ((Ma 8), .inl (tc 1, 64, .inr (.inl (Mg 8)))), ((Ma 9), .inl (tc 1, 13, .inr (.inl (Mg 9))))]) ⟨hx, hb, hml, hown, hts⟩ hK hX hA (cu_X12_keeps l D tc sk (Ma 0) (Ma 1) (Ma 2) (Ma 3) (Ma 4) (Ma 5) (Ma 6) (Ma 7) (Ma 8) (Ma 9) (Ma 10) (Ma 11) (Ma 12) (Ma 13) (Ma 14) (Ma 15) (Ma 16) (Ma 17) (Ma 18) (Ma 19) (Ma 20) (Mv 0) (Mv 1) (Mv 2) (Mv 3) (Mv 4) (Mv 5) (Mv 6) (Mv 7) (Mv 8) (Mv 9) (Mv 10) (Mv 11) (Mv 12) (Mv 13) (Mv 14) (Mf 10) (Mf 12) (Mj 0) h_said) k_1505 k_1502 k_1504 k_80 k_106 pl_X12_keeps ⟨Nat.le_of_ble_eq_true rfl, Nat.le_of_ble_eq_true rfl⟩ rfl rfl (va_recv hK hP (ci := 12) (q0 := 6) rfl rfl) hP hD hS [6, 7, 5] [0, 1, 2, 3, 4] rfl rfl rfl rfl rfl (by decide) rfl hl.1 rfl (Nat.le_of_ble_eq_true rfl) dX12_tells_37 ⟨Nat.le_of_ble_eq_true rfl, Nat.le_of_ble_eq_true rfl⟩ (fun v_22 u_23 H locs hv_24 hP₀ hD₀ hS₀ => ?_)
        obtain ⟨sv_25, rfl⟩ : ∃ z, z = u_23 := ⟨_, rfl⟩
        obtain ⟨rfl, pf_26⟩ := hv_24
        have pf_26 : KeptD sv_25 := pf_26
        refine W.eq (g2 := F0 m 40 ls []) rfl ?_
        replace hP : va_P D classes [((Ma 2), .inl (tc 0, 2400, .inl (Mf 2))), ((Ma 4), .inl (tc 0, 288, .inl (Mf 4))), ((Ma 5), .inl (tc 0, 6, .inl (Mf 5))), ((Ma 8), .inl (tc 1, 64, .inr (.inl (Mg 8)))), ((Ma 9), .inl (tc 1, 13, .inr (.inl (Mg 9)))), ((Ma 0), .inr (12, [.ref (Ma 1), .int (Mv 0), .int (Mv 1), .ref (Ma 2), .ref (Ma 3), .ref (Ma 4), .ref (Ma 5), .ref (Ma 6), .int (Mv 2), .int (Mv 3), .int (Mv 4), .int (Mv 5), .int (Mv 6), .int (Mv 7), .int (Mv 8), .ref (Ma 7), .int (Mv 9), .ref (Ma 8), .int (Mv 10), .ref (Ma 9), .ref (Ma 10), .int (Mv 11), .int (Mv 12), .int (Mv 13), .ref (Ma 11), .int (Mv 14), .ref (Ma 12), .ref (Ma 13), .ref (Ma 14), .ref (Ma 15), .ref (Ma 16), .long (Mj 0), .ref (Ma 17), .ref (Ma 18), .ref (Ma 19), .ref (Ma 20)])), ((Ma 10), .inl (tc 0, 126, .inl (Mf 10))), ((Ma 12), .inl (tc 0, 46, .inl sv_25))] H := hP₀
        replace hD : va_D A [((Ma 2), .inl (tc 0, 2400, .inl (Mf 2))), ((Ma 4), .inl (tc 0, 288, .inl (Mf 4))), ((Ma 5), .inl (tc 0, 6, .inl (Mf 5))), ((Ma 8), .inl (tc 1, 64, .inr (.inl (Mg 8)))), ((Ma 9), .inl (tc 1, 13, .inr (.inl (Mg 9)))), ((Ma 0), .inr (12, [.ref (Ma 1), .int (Mv 0), .int (Mv 1), .ref (Ma 2), .ref (Ma 3), .ref (Ma 4), .ref (Ma 5), .ref (Ma 6), .int (Mv 2), .int (Mv 3), .int (Mv 4), .int (Mv 5), .int (Mv 6), .int (Mv 7), .int (Mv 8), .ref (Ma 7), .int (Mv 9), .ref (Ma 8), .int (Mv 10), .ref (Ma 9), .ref (Ma 10), .int (Mv 11), .int (Mv 12), .int (Mv 13), .ref (Ma 11), .int (Mv 14), .ref (Ma 12), .ref (Ma 13), .ref (Ma 14), .ref (Ma 15), .ref (Ma 16), .long (Mj 0), .ref (Ma 17), .ref (Ma 18), .ref (Ma 19), .ref (Ma 20)])), ((Ma 10), .inl (tc 0, 126, .inl (Mf 10))), ((Ma 12), .inl (tc 0, 46, .inl sv_25))] := hD₀
        replace hS := hS₀
        clear hP₀ hD₀ hS₀
        refine lv_iconst (v := 0) hx hb dX12_tells_40 (by decide) ?_
        refine lv_istore (lv' := [(5, .int 0), (4, .int 0), (3, .int 0), (0, .ref (Ma 0)), (1, .int x1), (2, .int x2)]) hx hb dX12_tells_41 hl (by decide) rfl (fun ls hl₀ => ?_)
        replace hl := hl₀
        clear hl₀
        have loop_43 : ∀ (n_41 : Nat) (vy_34 : Int32) (vy_35 : Int32) (vy_36 : Nat → Int64) (vy_37 : Nat → Int64) (vy_38 : Int32) (vy_39 : Nat → Int32) (vy_40 : Int32) (H : Heap) (locs : List Loc) (ls : Array Slot), (x1.toInt - (vy_34 : Int32).toInt).toNat < n_41 → (0 ≤ (vy_34 : Int32).toInt ∧ (vy_34 : Int32).toInt ≤ x1.toInt) → (SaidD T vy_39 (999 + (vy_34 : Int32).toInt)) → va_P D classes [((Ma 2), .inl (tc 0, 2400, .inl (Mf 2))), ((Ma 4), .inl (tc 0, 288, .inl (Mf 4))), ((Ma 5), .inl (tc 0, 6, .inl (Mf 5))), ((Ma 8), .inl (tc 1, 64, .inr (.inl vy_36))), ((Ma 9), .inl (tc 1, 13, .inr (.inl vy_37))), ((Ma 0), .inr (12, [.ref (Ma 1), .int (Mv 0), .int (Mv 1), .ref (Ma 2), .ref (Ma 3), .ref (Ma 4), .ref (Ma 5), .ref (Ma 6), .int (Mv 2), .int (Mv 3), .int (Mv 4), .int (Mv 5), .int (Mv 6), .int (Mv 7), .int (Mv 8), .ref (Ma 7), .int (Mv 9), .ref (Ma 8), .int vy_38, .ref (Ma 9), .ref (Ma 10), .int (Mv 11), .int (Mv 12), .int (Mv 13), .ref (Ma 11), .int (Mv 14), .ref (Ma 12), .ref (Ma 13), .ref (Ma 14), .ref (Ma 15), .ref (Ma 16), .long (Mj 0), .ref (Ma 17), .ref (Ma 18), .ref (Ma 19), .ref (Ma 20)])), ((Ma 10), .inl (tc 0, 126, .inl vy_39)), ((Ma 12), .inl (tc 0, 46, .inl sv_25))] H → va_D A [((Ma 2), .inl (tc 0, 2400, .inl (Mf 2))), ((Ma 4), .inl (tc 0, 288, .inl (Mf 4))), ((Ma 5), .inl (tc 0, 6, .inl (Mf 5))), ((Ma 8), .inl (tc 1, 64, .inr (.inl vy_36))), ((Ma 9), .inl (tc 1, 13, .inr (.inl vy_37))), ((Ma 0), .inr (12, [.ref (Ma 1), .int (Mv 0), .int (Mv 1), .ref (Ma 2), .ref (Ma 3), .ref (Ma 4), .ref (Ma 5), .ref (Ma 6), .int (Mv 2), .int (Mv 3), .int (Mv 4), .int (Mv 5), .int (Mv 6), .int (Mv 7), .int (Mv 8), .ref (Ma 7), .int (Mv 9), .ref (Ma 8), .int vy_38, .ref (Ma 9), .ref (Ma 10), .int (Mv 11), .int (Mv 12), .int (Mv 13), .ref (Ma 11), .int (Mv 14), .ref (Ma 12), .ref (Ma 13), .ref (Ma 14), .ref (Ma 15), .ref (Ma 16), .long (Mj 0), .ref (Ma 17), .ref (Ma 18), .ref (Ma 19), .ref (Ma 20)])), ((Ma 10), .inl (tc 0, 126, .inl vy_39)), ((Ma 12), .inl (tc 0, 46, .inl sv_25))] → va_S A s.heap H locs → lv_has ls 8 [(5, .int vy_34), (4, .int vy_35), (3, .int vy_40), (0, .ref (Ma 0)), (1, .int x1), (2, .int x2)] → W p l e ({ frames := 5, cells := 0, slots := 0, locals := 121 }) s m ([.ref (Ma 0), .int x1, .int x2].toArray) below meth c H locs 0 0 (MQ below (QW (fun (v : Option Value) (u : (Int32) × (Nat → Int64) × (Nat → Int64) × (Nat → Int32) × (Nat → Int32)) => match u with | (oo0x1, oo0x2, oo0x3, oo0x4, oo0x5) => ∃ r : Int32, v = some (.int r) ∧ (True) ∧ (SaidD T oo0x4 999)) (BW D (fun (u : (Int32) × (Nat → Int64) × (Nat → Int64) × (Nat → Int32) × (Nat → Int32)) => match u with | (oo0x1, oo0x2, oo0x3, oo0x4, oo0x5) => [((Ma 0), .inr (12, [.ref (Ma 1), .int (Mv 0), .int (Mv 1), .ref (Ma 2), .ref (Ma 3), .ref (Ma 4), .ref (Ma 5), .ref (Ma 6), .int (Mv 2), .int (Mv 3), .int (Mv 4), .int (Mv 5), .int (Mv 6), .int (Mv 7), .int (Mv 8), .ref (Ma 7), .int (Mv 9), .ref (Ma 8), .int oo0x1, .ref (Ma 9), .ref (Ma 10), .int (Mv 11), .int (Mv 12), .int (Mv 13), .ref (Ma 11), .int (Mv 14), .ref (Ma 12), .ref (Ma 13), .ref (Ma 14), .ref (Ma 15), .ref (Ma 16), .long (Mj 0), .ref (Ma 17), .ref (Ma 18), .ref (Ma 19), .ref (Ma 20)])), ((Ma 2), .inl (tc 0, 2400, .inl (Mf 2))), ((Ma 4), .inl (tc 0, 288, .inl (Mf 4))), ((Ma 5), .inl (tc 0, 6, .inl (Mf 5))), ((Ma 8), .inl (tc 1, 64, .inr (.inl oo0x2))), ((Ma 9), .inl (tc 1, 13, .inr (.inl oo0x3))), ((Ma 10), .inl (tc 0, 126, .inl oo0x4)), ((Ma 12), .inl (tc 0, 46, .inl oo0x5))]) A) A) ([.ref (Ma 0), .int x1, .int x2].toArray) s 0 0 A) (F0 m 43 ls []) := by
          clear hP hD hS hl
          intro n_41
          induction n_41 with
          | zero =>
            intro vy_34 vy_35 vy_36 vy_37 vy_38 vy_39 vy_40 H locs ls h1
            exact absurd h1 (Nat.not_lt_zero _)
          | succ n_41 ih_42 =>
            intro vy_34 vy_35 vy_36 vy_37 vy_38 vy_39 vy_40 H locs ls hn_46 pf_44 pf_45 hP hD hS hl
            have ar_pf_45 := SaidD.al pf_45
            refine lv_iload hx hb dX12_tells_43 (lv_at hl 0 rfl) ?_
            refine lv_iload_n hx hb dX12_tells_45 rfl (lv_at hl 4 rfl) ?_
            refine lv_icmp_ge (tgt := 108) hx hb dX12_tells_46 (by decide) (fun c_47 => ?_) (fun c_47 => ?_)
            · skip
              refine lv_aload_n hx hb dX12_tells_108 rfl (lv_at hl 3 rfl) ?_
              refine cV (a := (Ma 0)) (As := []) (rest := []) (wr := [((Ma 2), .inl (tc 0, 2400, .inl (Mf 2))), ((Ma 4), .inl (tc 0, 288, .inl (Mf 4))), ((Ma 5), .inl (tc 0, 6, .inl (Mf 5))), ((Ma 8), .inl (tc 1, 64, .inr (.inl vy_36))), ((Ma 9), .inl (tc 1, 13, .inr (.inl vy_37)))]) ⟨hx, hb, hml, hown, hts⟩ hK hX hA (cu_X12_laysBack l D tc sk (Ma 0) (Ma 1) (Ma 2) (Ma 3) (Ma 4) (Ma 5) (Ma 6) (Ma 7) (Ma 8) (Ma 9) (Ma 10) (Ma 11) (Ma 12) (Ma 13) (Ma 14) (Ma 15) (Ma 16) (Ma 17) (Ma 18) (Ma 19) (Ma 20) (Mv 0) (Mv 1) (Mv 2) (Mv 3) (Mv 4) (Mv 5) (Mv 6) (Mv 7) (Mv 8) (Mv 9) vy_38 (Mv 11) (Mv 12) (Mv 13) (Mv 14) vy_39 sv_25 (Mj 0) pf_45.1 pf_26) k_1513 k_1510 k_1512 k_82 k_106 pl_X12_laysBack ⟨Nat.le_of_ble_eq_true rfl, Nat.le_of_ble_eq_true rfl⟩ rfl rfl (va_recv hK hP (ci := 12) (q0 := 5) rfl rfl) hP hD hS [5, 6, 7] [0, 1, 2, 3, 4] rfl rfl rfl rfl rfl (by decide) rfl hl.1 rfl (Nat.le_of_ble_eq_true rfl) dX12_tells_109 ⟨Nat.le_of_ble_eq_true rfl, Nat.le_of_ble_eq_true rfl⟩ (fun v_48 u_49 H locs hv_50 hP₀ hD₀ hS₀ => ?_)
              obtain ⟨sv_51, rfl⟩ : ∃ z, z = u_49 := ⟨_, rfl⟩
              obtain ⟨rfl, pf_52⟩ := hv_50
              have pf_52 : SaidD T sv_51 999 := pf_52
              have ar_pf_52 := SaidD.al pf_52
              refine W.eq (g2 := F0 m 112 ls []) rfl ?_
              replace hP : va_P D classes [((Ma 2), .inl (tc 0, 2400, .inl (Mf 2))), ((Ma 4), .inl (tc 0, 288, .inl (Mf 4))), ((Ma 5), .inl (tc 0, 6, .inl (Mf 5))), ((Ma 8), .inl (tc 1, 64, .inr (.inl vy_36))), ((Ma 9), .inl (tc 1, 13, .inr (.inl vy_37))), ((Ma 0), .inr (12, [.ref (Ma 1), .int (Mv 0), .int (Mv 1), .ref (Ma 2), .ref (Ma 3), .ref (Ma 4), .ref (Ma 5), .ref (Ma 6), .int (Mv 2), .int (Mv 3), .int (Mv 4), .int (Mv 5), .int (Mv 6), .int (Mv 7), .int (Mv 8), .ref (Ma 7), .int (Mv 9), .ref (Ma 8), .int vy_38, .ref (Ma 9), .ref (Ma 10), .int (Mv 11), .int (Mv 12), .int (Mv 13), .ref (Ma 11), .int (Mv 14), .ref (Ma 12), .ref (Ma 13), .ref (Ma 14), .ref (Ma 15), .ref (Ma 16), .long (Mj 0), .ref (Ma 17), .ref (Ma 18), .ref (Ma 19), .ref (Ma 20)])), ((Ma 10), .inl (tc 0, 126, .inl sv_51)), ((Ma 12), .inl (tc 0, 46, .inl sv_25))] H := hP₀
              replace hD : va_D A [((Ma 2), .inl (tc 0, 2400, .inl (Mf 2))), ((Ma 4), .inl (tc 0, 288, .inl (Mf 4))), ((Ma 5), .inl (tc 0, 6, .inl (Mf 5))), ((Ma 8), .inl (tc 1, 64, .inr (.inl vy_36))), ((Ma 9), .inl (tc 1, 13, .inr (.inl vy_37))), ((Ma 0), .inr (12, [.ref (Ma 1), .int (Mv 0), .int (Mv 1), .ref (Ma 2), .ref (Ma 3), .ref (Ma 4), .ref (Ma 5), .ref (Ma 6), .int (Mv 2), .int (Mv 3), .int (Mv 4), .int (Mv 5), .int (Mv 6), .int (Mv 7), .int (Mv 8), .ref (Ma 7), .int (Mv 9), .ref (Ma 8), .int vy_38, .ref (Ma 9), .ref (Ma 10), .int (Mv 11), .int (Mv 12), .int (Mv 13), .ref (Ma 11), .int (Mv 14), .ref (Ma 12), .ref (Ma 13), .ref (Ma 14), .ref (Ma 15), .ref (Ma 16), .long (Mj 0), .ref (Ma 17), .ref (Ma 18), .ref (Ma 19), .ref (Ma 20)])), ((Ma 10), .inl (tc 0, 126, .inl sv_51)), ((Ma 12), .inl (tc 0, 46, .inl sv_25))] := hD₀
              replace hS := hS₀
              clear hP₀ hD₀ hS₀
              refine lv_iload hx hb dX12_tells_112 (lv_at hl 1 rfl) ?_
              refine lv_if_ne (tgt := 119) hx hb dX12_tells_114 (by decide) (fun c_53 => ?_) (fun c_53 => ?_)
              · skip
                refine lv_iload hx hb dX12_tells_119 (lv_at hl 1 rfl) ?_
                refine lv_iload_n hx hb dX12_tells_121 rfl (lv_at hl 2 rfl) ?_
                have ha_54 : ¬ vy_35.toInt = 0 := by
                  have z_1 : ¬ (r_4 : Int32).toInt = (0 : Int32).toInt := fun z => c_7 (Int32.toInt_inj.mp z)
                  have z_2 : ¬ (r_11 : Int32).toInt = (0 : Int32).toInt := fun z => c_14 (Int32.toInt_inj.mp z)
                  have z_3 : ¬ (r_18 : Int32).toInt = (0 : Int32).toInt := fun z => c_21 (Int32.toInt_inj.mp z)
                  have z_4 := Int32.le_iff_toInt_le.mp c_47
                  have z_5 : ¬ (vy_35 : Int32).toInt = (0 : Int32).toInt := fun z => c_53 (Int32.toInt_inj.mp z)
                  have y_0 : (0 : Int32).toInt = 0 := by decide
                  omega
                refine cS (As := [.int vy_35, .int vy_40]) (rest := []) (wr := [((Ma 2), .inl (tc 0, 2400, .inl (Mf 2))), ((Ma 4), .inl (tc 0, 288, .inl (Mf 4))), ((Ma 5), .inl (tc 0, 6, .inl (Mf 5))), ((Ma 8), .inl (tc 1, 64, .inr (.inl vy_36))), ((Ma 9), .inl (tc 1, 13, .inr (.inl vy_37))), ((Ma 0), .inr (12, [.ref (Ma 1), .int (Mv 0), .int (Mv 1), .ref (Ma 2), .ref (Ma 3), .ref (Ma 4), .ref (Ma 5), .ref (Ma 6), .int (Mv 2), .int (Mv 3), .int (Mv 4), .int (Mv 5), .int (Mv 6), .int (Mv 7), .int (Mv 8), .ref (Ma 7), .int (Mv 9), .ref (Ma 8), .int vy_38, .ref (Ma 9), .ref (Ma 10), .int (Mv 11), .int (Mv 12), .int (Mv 13), .ref (Ma 11), .int (Mv 14), .ref (Ma 12), .ref (Ma 13), .ref (Ma 14), .ref (Ma 15), .ref (Ma 16), .long (Mj 0), .ref (Ma 17), .ref (Ma 18), .ref (Ma 19), .ref (Ma 20)])), ((Ma 10), .inl (tc 0, 126, .inl sv_51)), ((Ma 12), .inl (tc 0, 46, .inl sv_25))]) ⟨hx, hb, hml, hown, hts⟩ hK hX hA (ct_X12_common l D tc sk vy_35 vy_40 ha_54) k_1535 k_1533 k_1534 k_106 pl_X12_common ⟨Nat.le_of_ble_eq_true rfl, Nat.le_of_ble_eq_true rfl⟩ rfl rfl  hP hD hS [] [0, 1, 2, 3, 4, 5, 6, 7] rfl rfl rfl rfl rfl (by decide) rfl hl.1 rfl (Nat.le_of_ble_eq_true rfl) dX12_tells_122 ⟨Nat.le_of_ble_eq_true rfl, Nat.le_of_ble_eq_true rfl⟩ (fun v_55 u_56 H locs hv_57 hP₀ hD₀ hS₀ => ?_)
                obtain ⟨r_58, rfl, he_59⟩ := hv_57
                have he_59 : (¬ r_58.toInt = 0) := he_59
                refine W.eq (g2 := F0 m 125 ls [.int r_58]) rfl ?_
                replace hP : va_P D classes [((Ma 2), .inl (tc 0, 2400, .inl (Mf 2))), ((Ma 4), .inl (tc 0, 288, .inl (Mf 4))), ((Ma 5), .inl (tc 0, 6, .inl (Mf 5))), ((Ma 8), .inl (tc 1, 64, .inr (.inl vy_36))), ((Ma 9), .inl (tc 1, 13, .inr (.inl vy_37))), ((Ma 0), .inr (12, [.ref (Ma 1), .int (Mv 0), .int (Mv 1), .ref (Ma 2), .ref (Ma 3), .ref (Ma 4), .ref (Ma 5), .ref (Ma 6), .int (Mv 2), .int (Mv 3), .int (Mv 4), .int (Mv 5), .int (Mv 6), .int (Mv 7), .int (Mv 8), .ref (Ma 7), .int (Mv 9), .ref (Ma 8), .int vy_38, .ref (Ma 9), .ref (Ma 10), .int (Mv 11), .int (Mv 12), .int (Mv 13), .ref (Ma 11), .int (Mv 14), .ref (Ma 12), .ref (Ma 13), .ref (Ma 14), .ref (Ma 15), .ref (Ma 16), .long (Mj 0), .ref (Ma 17), .ref (Ma 18), .ref (Ma 19), .ref (Ma 20)])), ((Ma 10), .inl (tc 0, 126, .inl sv_51)), ((Ma 12), .inl (tc 0, 46, .inl sv_25))] H := hP₀
                replace hD : va_D A [((Ma 2), .inl (tc 0, 2400, .inl (Mf 2))), ((Ma 4), .inl (tc 0, 288, .inl (Mf 4))), ((Ma 5), .inl (tc 0, 6, .inl (Mf 5))), ((Ma 8), .inl (tc 1, 64, .inr (.inl vy_36))), ((Ma 9), .inl (tc 1, 13, .inr (.inl vy_37))), ((Ma 0), .inr (12, [.ref (Ma 1), .int (Mv 0), .int (Mv 1), .ref (Ma 2), .ref (Ma 3), .ref (Ma 4), .ref (Ma 5), .ref (Ma 6), .int (Mv 2), .int (Mv 3), .int (Mv 4), .int (Mv 5), .int (Mv 6), .int (Mv 7), .int (Mv 8), .ref (Ma 7), .int (Mv 9), .ref (Ma 8), .int vy_38, .ref (Ma 9), .ref (Ma 10), .int (Mv 11), .int (Mv 12), .int (Mv 13), .ref (Ma 11), .int (Mv 14), .ref (Ma 12), .ref (Ma 13), .ref (Ma 14), .ref (Ma 15), .ref (Ma 16), .long (Mj 0), .ref (Ma 17), .ref (Ma 18), .ref (Ma 19), .ref (Ma 20)])), ((Ma 10), .inl (tc 0, 126, .inl sv_51)), ((Ma 12), .inl (tc 0, 46, .inl sv_25))] := hD₀
                replace hS := hS₀
                clear hP₀ hD₀ hS₀
                refine lv_istore (lv' := [(5, .int r_58), (4, .int vy_35), (3, .int vy_40), (0, .ref (Ma 0)), (1, .int x1), (2, .int x2)]) hx hb dX12_tells_125 hl (by decide) rfl (fun ls hl₀ => ?_)
                replace hl := hl₀
                clear hl₀
                refine lv_iload_n hx hb dX12_tells_127 rfl (lv_at hl 5 rfl) ?_
                refine lv_if_ne (tgt := 138) hx hb dX12_tells_128 (by decide) (fun c_61 => ?_) (fun c_61 => ?_)
                · skip
                  refine lv_iload hx hb dX12_tells_138 (lv_at hl 1 rfl) ?_
                  refine lv_iload hx hb dX12_tells_140 (lv_at hl 0 rfl) ?_
                  have hz_62 : ¬ r_58 = 0 := by
                    intro z
                    have zz : (r_58 : Int32).toInt = 0 := by rw [z]; decide
                    have z_1 : ¬ (r_4 : Int32).toInt = (0 : Int32).toInt := fun z => c_7 (Int32.toInt_inj.mp z)
                    have z_2 : ¬ (r_11 : Int32).toInt = (0 : Int32).toInt := fun z => c_14 (Int32.toInt_inj.mp z)
                    have z_3 : ¬ (r_18 : Int32).toInt = (0 : Int32).toInt := fun z => c_21 (Int32.toInt_inj.mp z)
                    have z_4 := Int32.le_iff_toInt_le.mp c_47
                    have z_5 : ¬ (vy_35 : Int32).toInt = (0 : Int32).toInt := fun z => c_53 (Int32.toInt_inj.mp z)
                    have z_6 : ¬ (x2 : Int32).toInt = (0 : Int32).toInt := fun z => c_61 (Int32.toInt_inj.mp z)
                    have y_0 : (0 : Int32).toInt = 0 := by decide
                    omega
                  refine lv_idiv hx hb dX12_tells_142 hz_62 ?_
                  refine lv_topi (fun x_63 ex_63 => ?_)
                  exact retI (v := x_63) hx hb hr hlk (rfl) hP hD hS (vy_38, vy_36, vy_37, sv_51, sv_25) ⟨_, rfl, trivial, pf_52⟩ [5, 0, 1, 2, 3, 4, 6, 7] rfl rfl dX12_tells_143 (Nat.le_of_ble_eq_true rfl) (Nat.le_of_ble_eq_true rfl) rfl
                · skip
                  refine lv_iload_n hx hb dX12_tells_131 rfl (lv_at hl 2 rfl) ?_
                  refine lv_iload hx hb dX12_tells_132 (lv_at hl 0 rfl) ?_
                  have hz_64 : ¬ r_58 = 0 := by
                    intro z
                    have zz : (r_58 : Int32).toInt = 0 := by rw [z]; decide
                    have z_1 : ¬ (r_4 : Int32).toInt = (0 : Int32).toInt := fun z => c_7 (Int32.toInt_inj.mp z)
                    have z_2 : ¬ (r_11 : Int32).toInt = (0 : Int32).toInt := fun z => c_14 (Int32.toInt_inj.mp z)
                    have z_3 : ¬ (r_18 : Int32).toInt = (0 : Int32).toInt := fun z => c_21 (Int32.toInt_inj.mp z)
                    have z_4 := Int32.le_iff_toInt_le.mp c_47
                    have z_5 : ¬ (vy_35 : Int32).toInt = (0 : Int32).toInt := fun z => c_53 (Int32.toInt_inj.mp z)
                    have z_6 := congrArg Int32.toInt c_61
                    have y_0 : (0 : Int32).toInt = 0 := by decide
                    omega
                  refine lv_idiv hx hb dX12_tells_134 hz_64 ?_
                  refine lv_topi (fun x_65 ex_65 => ?_)
                  refine lv_goto (tgt := 143) hx hb dX12_tells_135 (by decide) ?_
                  exact retI (v := x_65) hx hb hr hlk (rfl) hP hD hS (vy_38, vy_36, vy_37, sv_51, sv_25) ⟨_, rfl, trivial, pf_52⟩ [5, 0, 1, 2, 3, 4, 6, 7] rfl rfl dX12_tells_143 (Nat.le_of_ble_eq_true rfl) (Nat.le_of_ble_eq_true rfl) rfl
              · skip
                refine lv_iload_n hx hb dX12_tells_117 rfl (lv_at hl 5 rfl) ?_
                exact retI (v := x2) hx hb hr hlk (rfl) hP hD hS (vy_38, vy_36, vy_37, sv_51, sv_25) ⟨_, rfl, trivial, pf_52⟩ [5, 0, 1, 2, 3, 4, 6, 7] rfl rfl dX12_tells_118 (Nat.le_of_ble_eq_true rfl) (Nat.le_of_ble_eq_true rfl) rfl
            · skip
              refine lv_aload_n hx hb dX12_tells_49 rfl (lv_at hl 3 rfl) ?_
              refine gf_X12_39 hx hb hts hown hK hP 5 rfl rfl dX12_tells_50 ?_
              refine lv_bipush (v := 36) hx hb dX12_tells_53 (by decide) ?_
              refine lv_aload_n hx hb dX12_tells_55 rfl (lv_at hl 3 rfl) ?_
              refine cV (a := (Ma 0)) (As := []) (rest := [.int 36, .ref (Ma 10)]) (wr := [((Ma 2), .inl (tc 0, 2400, .inl (Mf 2))), ((Ma 4), .inl (tc 0, 288, .inl (Mf 4))), ((Ma 5), .inl (tc 0, 6, .inl (Mf 5))), ((Ma 8), .inl (tc 1, 64, .inr (.inl vy_36))), ((Ma 9), .inl (tc 1, 13, .inr (.inl vy_37))), ((Ma 12), .inl (tc 0, 46, .inl sv_25))]) ⟨hx, hb, hml, hown, hts⟩ hK hX hA (cu_X12_clock l D tc sk (Ma 0) (Ma 1) (Ma 2) (Ma 3) (Ma 4) (Ma 5) (Ma 6) (Ma 7) (Ma 8) (Ma 9) (Ma 10) (Ma 11) (Ma 12) (Ma 13) (Ma 14) (Ma 15) (Ma 16) (Ma 17) (Ma 18) (Ma 19) (Ma 20) (Mv 0) (Mv 1) (Mv 2) (Mv 3) (Mv 4) (Mv 5) (Mv 6) (Mv 7) (Mv 8) (Mv 9) vy_38 (Mv 11) (Mv 12) (Mv 13) (Mv 14) vy_39 (Mj 0) (999 + (vy_34 : Int32).toInt) pf_45) k_1435 k_1432 k_1434 k_70 k_106 pl_X12_clock ⟨Nat.le_of_ble_eq_true rfl, Nat.le_of_ble_eq_true rfl⟩ rfl rfl (va_recv hK hP (ci := 12) (q0 := 5) rfl rfl) hP hD hS [5, 6] [0, 1, 2, 3, 4, 7] rfl rfl rfl rfl rfl (by decide) rfl hl.1 rfl (Nat.le_of_ble_eq_true rfl) dX12_tells_56 ⟨Nat.le_of_ble_eq_true rfl, Nat.le_of_ble_eq_true rfl⟩ (fun v_66 u_67 H locs hv_68 hP₀ hD₀ hS₀ => ?_)
              obtain ⟨r_69, rfl, he_70⟩ := hv_68
              have he_70 : (0 ≤ r_69.toInt ∧ r_69.toInt < 10) := he_70
              refine W.eq (g2 := F0 m 59 ls [.int r_69, .int 36, .ref (Ma 10)]) rfl ?_
              replace hP : va_P D classes [((Ma 2), .inl (tc 0, 2400, .inl (Mf 2))), ((Ma 4), .inl (tc 0, 288, .inl (Mf 4))), ((Ma 5), .inl (tc 0, 6, .inl (Mf 5))), ((Ma 8), .inl (tc 1, 64, .inr (.inl vy_36))), ((Ma 9), .inl (tc 1, 13, .inr (.inl vy_37))), ((Ma 12), .inl (tc 0, 46, .inl sv_25)), ((Ma 0), .inr (12, [.ref (Ma 1), .int (Mv 0), .int (Mv 1), .ref (Ma 2), .ref (Ma 3), .ref (Ma 4), .ref (Ma 5), .ref (Ma 6), .int (Mv 2), .int (Mv 3), .int (Mv 4), .int (Mv 5), .int (Mv 6), .int (Mv 7), .int (Mv 8), .ref (Ma 7), .int (Mv 9), .ref (Ma 8), .int vy_38, .ref (Ma 9), .ref (Ma 10), .int (Mv 11), .int (Mv 12), .int (Mv 13), .ref (Ma 11), .int (Mv 14), .ref (Ma 12), .ref (Ma 13), .ref (Ma 14), .ref (Ma 15), .ref (Ma 16), .long (Mj 0), .ref (Ma 17), .ref (Ma 18), .ref (Ma 19), .ref (Ma 20)])), ((Ma 10), .inl (tc 0, 126, .inl vy_39))] H := hP₀
              replace hD : va_D A [((Ma 2), .inl (tc 0, 2400, .inl (Mf 2))), ((Ma 4), .inl (tc 0, 288, .inl (Mf 4))), ((Ma 5), .inl (tc 0, 6, .inl (Mf 5))), ((Ma 8), .inl (tc 1, 64, .inr (.inl vy_36))), ((Ma 9), .inl (tc 1, 13, .inr (.inl vy_37))), ((Ma 12), .inl (tc 0, 46, .inl sv_25)), ((Ma 0), .inr (12, [.ref (Ma 1), .int (Mv 0), .int (Mv 1), .ref (Ma 2), .ref (Ma 3), .ref (Ma 4), .ref (Ma 5), .ref (Ma 6), .int (Mv 2), .int (Mv 3), .int (Mv 4), .int (Mv 5), .int (Mv 6), .int (Mv 7), .int (Mv 8), .ref (Ma 7), .int (Mv 9), .ref (Ma 8), .int vy_38, .ref (Ma 9), .ref (Ma 10), .int (Mv 11), .int (Mv 12), .int (Mv 13), .ref (Ma 11), .int (Mv 14), .ref (Ma 12), .ref (Ma 13), .ref (Ma 14), .ref (Ma 15), .ref (Ma 16), .long (Mj 0), .ref (Ma 17), .ref (Ma 18), .ref (Ma 19), .ref (Ma 20)])), ((Ma 10), .inl (tc 0, 126, .inl vy_39))] := hD₀
              replace hS := hS₀
              clear hP₀ hD₀ hS₀
              refine lv_iadd hx hb dX12_tells_59 ?_
              refine lv_topi (fun x_72 ex_72 => ?_)
              have hi_73 : vp_in x_72 126 := by
                have z_1 : ¬ (r_4 : Int32).toInt = (0 : Int32).toInt := fun z => c_7 (Int32.toInt_inj.mp z)
                have z_2 : ¬ (r_11 : Int32).toInt = (0 : Int32).toInt := fun z => c_14 (Int32.toInt_inj.mp z)
                have z_3 : ¬ (r_18 : Int32).toInt = (0 : Int32).toInt := fun z => c_21 (Int32.toInt_inj.mp z)
                have z_4 := Int32.lt_iff_toInt_lt.mp (Int32.not_le.mp c_47)
                have y_0 : (0 : Int32).toInt = 0 := by decide
                have y_36 : (36 : Int32).toInt = 36 := by decide
                have t_x_72 : x_72.toInt = (36 : Int32).toInt + (r_69 : Int32).toInt := by rw [ex_72]; exact add_toInt (by omega) (by omega)
                refine vp_in_iff.mpr ⟨?_, ?_⟩ <;> omega
              refine va_iald hx hb hK hP 7 0 rfl rfl hi_73 dX12_tells_60 ?_
              refine lv_topi (fun x_74 ex_74 => ?_)
              refine lv_iconst (v := 5) hx hb dX12_tells_61 (by decide) ?_
              refine lv_icmp_lt (tgt := 69) hx hb dX12_tells_62 (by decide) (fun c_75 => ?_) (fun c_75 => ?_)
              · skip
                refine lv_iconst (v := 0) hx hb dX12_tells_69 (by decide) ?_
                refine lv_istore (lv' := [(6, .int 0), (5, .int vy_34), (4, .int vy_35), (3, .int vy_40), (0, .ref (Ma 0)), (1, .int x1), (2, .int x2)]) hx hb dX12_tells_70 hl (by decide) rfl (fun ls hl₀ => ?_)
                replace hl := hl₀
                clear hl₀
                refine lv_aload_n hx hb dX12_tells_72 rfl (lv_at hl 4 rfl) ?_
                have ha_76 : (999 + (vy_34 : Int32).toInt) ≤ 1000000 := by
                  have z_1 : ¬ (r_4 : Int32).toInt = (0 : Int32).toInt := fun z => c_7 (Int32.toInt_inj.mp z)
                  have z_2 : ¬ (r_11 : Int32).toInt = (0 : Int32).toInt := fun z => c_14 (Int32.toInt_inj.mp z)
                  have z_3 : ¬ (r_18 : Int32).toInt = (0 : Int32).toInt := fun z => c_21 (Int32.toInt_inj.mp z)
                  have z_4 := Int32.lt_iff_toInt_lt.mp (Int32.not_le.mp c_47)
                  have z_5 := Int32.lt_iff_toInt_lt.mp c_75
                  have y_0 : (0 : Int32).toInt = 0 := by decide
                  have y_5 : (5 : Int32).toInt = 5 := by decide
                  omega
                refine cV (a := (Ma 0)) (As := []) (rest := []) (wr := [((Ma 12), .inl (tc 0, 46, .inl sv_25))]) ⟨hx, hb, hml, hown, hts⟩ hK hX hA (cu_X12_passes l D tc sk (Ma 0) (Ma 1) (Ma 2) (Ma 3) (Ma 4) (Ma 5) (Ma 6) (Ma 7) (Ma 8) (Ma 9) (Ma 10) (Ma 11) (Ma 12) (Ma 13) (Ma 14) (Ma 15) (Ma 16) (Ma 17) (Ma 18) (Ma 19) (Ma 20) (Mv 0) (Mv 1) (Mv 2) (Mv 3) (Mv 4) (Mv 5) (Mv 6) (Mv 7) (Mv 8) (Mv 9) vy_38 (Mv 11) (Mv 12) (Mv 13) (Mv 14) (Mf 2) (Mf 4) (Mf 5) vy_39 (Mj 0) vy_36 vy_37 (999 + (vy_34 : Int32).toInt) pf_45 ha_76 h_rul h_frc) k_1423 k_1420 k_1422 k_67 k_106 pl_X12_passes ⟨Nat.le_of_ble_eq_true rfl, Nat.le_of_ble_eq_true rfl⟩ rfl rfl (va_recv hK hP (ci := 12) (q0 := 6) rfl rfl) hP hD hS [6, 0, 1, 2, 3, 4, 7] [5] rfl rfl rfl rfl rfl (by decide) rfl hl.1 rfl (Nat.le_of_ble_eq_true rfl) dX12_tells_73 ⟨Nat.le_of_ble_eq_true rfl, Nat.le_of_ble_eq_true rfl⟩ (fun v_77 u_78 H locs hv_79 hP₀ hD₀ hS₀ => ?_)
                obtain ⟨sv_80, sv_81, sv_82, sv_83⟩ := u_78
                obtain ⟨r_85, rfl, he_86, pf_84⟩ := hv_79
                have pf_84 : SaidD T sv_83 ((999 + (vy_34 : Int32).toInt) + 1) := pf_84
                have ar_pf_84 := SaidD.al pf_84
                refine W.eq (g2 := F0 m 76 ls [.int r_85]) rfl ?_
                replace hP : va_P D classes [((Ma 12), .inl (tc 0, 46, .inl sv_25)), ((Ma 0), .inr (12, [.ref (Ma 1), .int (Mv 0), .int (Mv 1), .ref (Ma 2), .ref (Ma 3), .ref (Ma 4), .ref (Ma 5), .ref (Ma 6), .int (Mv 2), .int (Mv 3), .int (Mv 4), .int (Mv 5), .int (Mv 6), .int (Mv 7), .int (Mv 8), .ref (Ma 7), .int (Mv 9), .ref (Ma 8), .int sv_80, .ref (Ma 9), .ref (Ma 10), .int (Mv 11), .int (Mv 12), .int (Mv 13), .ref (Ma 11), .int (Mv 14), .ref (Ma 12), .ref (Ma 13), .ref (Ma 14), .ref (Ma 15), .ref (Ma 16), .long (Mj 0), .ref (Ma 17), .ref (Ma 18), .ref (Ma 19), .ref (Ma 20)])), ((Ma 2), .inl (tc 0, 2400, .inl (Mf 2))), ((Ma 4), .inl (tc 0, 288, .inl (Mf 4))), ((Ma 5), .inl (tc 0, 6, .inl (Mf 5))), ((Ma 8), .inl (tc 1, 64, .inr (.inl sv_81))), ((Ma 9), .inl (tc 1, 13, .inr (.inl sv_82))), ((Ma 10), .inl (tc 0, 126, .inl sv_83))] H := hP₀
                replace hD : va_D A [((Ma 12), .inl (tc 0, 46, .inl sv_25)), ((Ma 0), .inr (12, [.ref (Ma 1), .int (Mv 0), .int (Mv 1), .ref (Ma 2), .ref (Ma 3), .ref (Ma 4), .ref (Ma 5), .ref (Ma 6), .int (Mv 2), .int (Mv 3), .int (Mv 4), .int (Mv 5), .int (Mv 6), .int (Mv 7), .int (Mv 8), .ref (Ma 7), .int (Mv 9), .ref (Ma 8), .int sv_80, .ref (Ma 9), .ref (Ma 10), .int (Mv 11), .int (Mv 12), .int (Mv 13), .ref (Ma 11), .int (Mv 14), .ref (Ma 12), .ref (Ma 13), .ref (Ma 14), .ref (Ma 15), .ref (Ma 16), .long (Mj 0), .ref (Ma 17), .ref (Ma 18), .ref (Ma 19), .ref (Ma 20)])), ((Ma 2), .inl (tc 0, 2400, .inl (Mf 2))), ((Ma 4), .inl (tc 0, 288, .inl (Mf 4))), ((Ma 5), .inl (tc 0, 6, .inl (Mf 5))), ((Ma 8), .inl (tc 1, 64, .inr (.inl sv_81))), ((Ma 9), .inl (tc 1, 13, .inr (.inl sv_82))), ((Ma 10), .inl (tc 0, 126, .inl sv_83))] := hD₀
                replace hS := hS₀
                clear hP₀ hD₀ hS₀
                refine cS (As := [.int r_85]) (rest := []) (wr := [((Ma 12), .inl (tc 0, 46, .inl sv_25)), ((Ma 0), .inr (12, [.ref (Ma 1), .int (Mv 0), .int (Mv 1), .ref (Ma 2), .ref (Ma 3), .ref (Ma 4), .ref (Ma 5), .ref (Ma 6), .int (Mv 2), .int (Mv 3), .int (Mv 4), .int (Mv 5), .int (Mv 6), .int (Mv 7), .int (Mv 8), .ref (Ma 7), .int (Mv 9), .ref (Ma 8), .int sv_80, .ref (Ma 9), .ref (Ma 10), .int (Mv 11), .int (Mv 12), .int (Mv 13), .ref (Ma 11), .int (Mv 14), .ref (Ma 12), .ref (Ma 13), .ref (Ma 14), .ref (Ma 15), .ref (Ma 16), .long (Mj 0), .ref (Ma 17), .ref (Ma 18), .ref (Ma 19), .ref (Ma 20)])), ((Ma 2), .inl (tc 0, 2400, .inl (Mf 2))), ((Ma 4), .inl (tc 0, 288, .inl (Mf 4))), ((Ma 5), .inl (tc 0, 6, .inl (Mf 5))), ((Ma 8), .inl (tc 1, 64, .inr (.inl sv_81))), ((Ma 9), .inl (tc 1, 13, .inr (.inl sv_82))), ((Ma 10), .inl (tc 0, 126, .inl sv_83))]) ⟨hx, hb, hml, hown, hts⟩ hK hX hA (ct_X12_bits l D tc sk r_85) k_1532 k_1530 k_1531 k_106 pl_X12_bits ⟨Nat.le_of_ble_eq_true rfl, Nat.le_of_ble_eq_true rfl⟩ rfl rfl  hP hD hS [] [0, 1, 2, 3, 4, 5, 6, 7] rfl rfl rfl rfl rfl (by decide) rfl hl.1 rfl (Nat.le_of_ble_eq_true rfl) dX12_tells_76 ⟨Nat.le_of_ble_eq_true rfl, Nat.le_of_ble_eq_true rfl⟩ (fun v_88 u_89 H locs hv_90 hP₀ hD₀ hS₀ => ?_)
                obtain ⟨r_91, rfl, he_92⟩ := hv_90
                refine W.eq (g2 := F0 m 79 ls [.int r_91]) rfl ?_
                replace hP : va_P D classes [((Ma 12), .inl (tc 0, 46, .inl sv_25)), ((Ma 0), .inr (12, [.ref (Ma 1), .int (Mv 0), .int (Mv 1), .ref (Ma 2), .ref (Ma 3), .ref (Ma 4), .ref (Ma 5), .ref (Ma 6), .int (Mv 2), .int (Mv 3), .int (Mv 4), .int (Mv 5), .int (Mv 6), .int (Mv 7), .int (Mv 8), .ref (Ma 7), .int (Mv 9), .ref (Ma 8), .int sv_80, .ref (Ma 9), .ref (Ma 10), .int (Mv 11), .int (Mv 12), .int (Mv 13), .ref (Ma 11), .int (Mv 14), .ref (Ma 12), .ref (Ma 13), .ref (Ma 14), .ref (Ma 15), .ref (Ma 16), .long (Mj 0), .ref (Ma 17), .ref (Ma 18), .ref (Ma 19), .ref (Ma 20)])), ((Ma 2), .inl (tc 0, 2400, .inl (Mf 2))), ((Ma 4), .inl (tc 0, 288, .inl (Mf 4))), ((Ma 5), .inl (tc 0, 6, .inl (Mf 5))), ((Ma 8), .inl (tc 1, 64, .inr (.inl sv_81))), ((Ma 9), .inl (tc 1, 13, .inr (.inl sv_82))), ((Ma 10), .inl (tc 0, 126, .inl sv_83))] H := hP₀
                replace hD : va_D A [((Ma 12), .inl (tc 0, 46, .inl sv_25)), ((Ma 0), .inr (12, [.ref (Ma 1), .int (Mv 0), .int (Mv 1), .ref (Ma 2), .ref (Ma 3), .ref (Ma 4), .ref (Ma 5), .ref (Ma 6), .int (Mv 2), .int (Mv 3), .int (Mv 4), .int (Mv 5), .int (Mv 6), .int (Mv 7), .int (Mv 8), .ref (Ma 7), .int (Mv 9), .ref (Ma 8), .int sv_80, .ref (Ma 9), .ref (Ma 10), .int (Mv 11), .int (Mv 12), .int (Mv 13), .ref (Ma 11), .int (Mv 14), .ref (Ma 12), .ref (Ma 13), .ref (Ma 14), .ref (Ma 15), .ref (Ma 16), .long (Mj 0), .ref (Ma 17), .ref (Ma 18), .ref (Ma 19), .ref (Ma 20)])), ((Ma 2), .inl (tc 0, 2400, .inl (Mf 2))), ((Ma 4), .inl (tc 0, 288, .inl (Mf 4))), ((Ma 5), .inl (tc 0, 6, .inl (Mf 5))), ((Ma 8), .inl (tc 1, 64, .inr (.inl sv_81))), ((Ma 9), .inl (tc 1, 13, .inr (.inl sv_82))), ((Ma 10), .inl (tc 0, 126, .inl sv_83))] := hD₀
                replace hS := hS₀
                clear hP₀ hD₀ hS₀
                refine lv_istore (lv' := [(7, .int r_91), (6, .int 0), (5, .int vy_34), (4, .int vy_35), (3, .int vy_40), (0, .ref (Ma 0)), (1, .int x1), (2, .int x2)]) hx hb dX12_tells_79 hl (by decide) rfl (fun ls hl₀ => ?_)
                replace hl := hl₀
                clear hl₀
                refine lv_iload hx hb dX12_tells_81 (lv_at hl 3 rfl) ?_
                refine lv_iload hx hb dX12_tells_83 (lv_at hl 0 rfl) ?_
                refine lv_iadd hx hb dX12_tells_85 ?_
                refine lv_topi (fun x_94 ex_94 => ?_)
                refine lv_istore (lv' := [(4, .int x_94), (7, .int r_91), (6, .int 0), (5, .int vy_34), (3, .int vy_40), (0, .ref (Ma 0)), (1, .int x1), (2, .int x2)]) hx hb dX12_tells_86 hl (by decide) rfl (fun ls hl₀ => ?_)
                replace hl := hl₀
                clear hl₀
                refine lv_iload_n hx hb dX12_tells_88 rfl (lv_at hl 4 rfl) ?_
                refine lv_iload hx hb dX12_tells_89 (lv_at hl 2 rfl) ?_
                refine lv_if_eq (tgt := 99) hx hb dX12_tells_91 (by decide) (fun c_95 => ?_) (fun c_95 => absurd c_95 (by decide))
                refine lv_iconst (v := 0) hx hb dX12_tells_99 (by decide) ?_
                refine lv_iadd hx hb dX12_tells_100 ?_
                refine lv_topi (fun x_96 ex_96 => ?_)
                refine lv_istore_n (lv' := [(3, .int x_96), (4, .int x_94), (7, .int r_91), (6, .int 0), (5, .int vy_34), (0, .ref (Ma 0)), (1, .int x1), (2, .int x2)]) hx hb dX12_tells_101 rfl hl (by decide) rfl (fun ls hl₀ => ?_)
                replace hl := hl₀
                clear hl₀
                obtain ⟨x_97, ex_97⟩ : ∃ y : Int32, y = vy_34 + 1 := ⟨_, rfl⟩
                refine lv_iinc (v := x_97) (lv' := [(5, .int x_97), (3, .int x_96), (4, .int x_94), (7, .int r_91), (6, .int 0), (0, .ref (Ma 0)), (1, .int x1), (2, .int x2)]) hx hb dX12_tells_102 hl (k := 4) rfl (by rw [ex_97]; rfl) (by decide) rfl (fun ls hl₀ => ?_)
                replace hl := hl₀
                clear hl₀
                refine lv_goto (tgt := 43) hx hb dX12_tells_105 (by decide) ?_
                have hb_98 : x1.toInt - (x_97 : Int32).toInt < x1.toInt - (vy_34 : Int32).toInt ∧ 1 ≤ x1.toInt - (vy_34 : Int32).toInt := by
                  have z_1 : ¬ (r_4 : Int32).toInt = (0 : Int32).toInt := fun z => c_7 (Int32.toInt_inj.mp z)
                  have z_2 : ¬ (r_11 : Int32).toInt = (0 : Int32).toInt := fun z => c_14 (Int32.toInt_inj.mp z)
                  have z_3 : ¬ (r_18 : Int32).toInt = (0 : Int32).toInt := fun z => c_21 (Int32.toInt_inj.mp z)
                  have z_4 := Int32.lt_iff_toInt_lt.mp (Int32.not_le.mp c_47)
                  have z_5 := Int32.lt_iff_toInt_lt.mp c_75
                  have y_0 : (0 : Int32).toInt = 0 := by decide
                  have y_5 : (5 : Int32).toInt = 5 := by decide
                  have y_1 : (1 : Int32).toInt = 1 := by decide
                  have t_x_97 : x_97.toInt = (vy_34 : Int32).toInt + (1 : Int32).toInt := by rw [ex_97]; exact add_toInt (by omega) (by omega)
                  refine ⟨?_, ?_⟩ <;> omega
                have ha_99 : 0 ≤ (x_97 : Int32).toInt ∧ (x_97 : Int32).toInt ≤ x1.toInt := by
                  have z_1 : ¬ (r_4 : Int32).toInt = (0 : Int32).toInt := fun z => c_7 (Int32.toInt_inj.mp z)
                  have z_2 : ¬ (r_11 : Int32).toInt = (0 : Int32).toInt := fun z => c_14 (Int32.toInt_inj.mp z)
                  have z_3 : ¬ (r_18 : Int32).toInt = (0 : Int32).toInt := fun z => c_21 (Int32.toInt_inj.mp z)
                  have z_4 := Int32.lt_iff_toInt_lt.mp (Int32.not_le.mp c_47)
                  have z_5 := Int32.lt_iff_toInt_lt.mp c_75
                  have y_0 : (0 : Int32).toInt = 0 := by decide
                  have y_5 : (5 : Int32).toInt = 5 := by decide
                  have y_1 : (1 : Int32).toInt = 1 := by decide
                  have t_x_97 : x_97.toInt = (vy_34 : Int32).toInt + (1 : Int32).toInt := by rw [ex_97]; exact add_toInt (by omega) (by omega)
                  refine ⟨?_, ?_⟩ <;> omega
                have ha_100 : ((999 + (vy_34 : Int32).toInt) + 1) ≤ (999 + (x_97 : Int32).toInt) := by
                  have z_1 : ¬ (r_4 : Int32).toInt = (0 : Int32).toInt := fun z => c_7 (Int32.toInt_inj.mp z)
                  have z_2 : ¬ (r_11 : Int32).toInt = (0 : Int32).toInt := fun z => c_14 (Int32.toInt_inj.mp z)
                  have z_3 : ¬ (r_18 : Int32).toInt = (0 : Int32).toInt := fun z => c_21 (Int32.toInt_inj.mp z)
                  have z_4 := Int32.lt_iff_toInt_lt.mp (Int32.not_le.mp c_47)
                  have z_5 := Int32.lt_iff_toInt_lt.mp c_75
                  have y_0 : (0 : Int32).toInt = 0 := by decide
                  have y_5 : (5 : Int32).toInt = 5 := by decide
                  have y_1 : (1 : Int32).toInt = 1 := by decide
                  have t_x_97 : x_97.toInt = (vy_34 : Int32).toInt + (1 : Int32).toInt := by rw [ex_97]; exact add_toInt (by omega) (by omega)
                  omega
                exact ih_42 x_97 x_94 sv_81 sv_82 sv_80 sv_83 x_96 _ _ _ (by omega) ha_99 (SaidD.mono pf_84 ha_100) (hP.sub [2, 3, 4, 5, 6, 1, 7, 0] rfl) (hD.sub [2, 3, 4, 5, 6, 1, 7, 0] rfl rfl) hS (lv_sub hl [0, 2, 1, 5, 6, 7] rfl)
              · skip
                refine lv_iconst (v := 1) hx hb dX12_tells_65 (by decide) ?_
                refine lv_goto (tgt := 70) hx hb dX12_tells_66 (by decide) ?_
                refine lv_istore (lv' := [(6, .int 1), (5, .int vy_34), (4, .int vy_35), (3, .int vy_40), (0, .ref (Ma 0)), (1, .int x1), (2, .int x2)]) hx hb dX12_tells_70 hl (by decide) rfl (fun ls hl₀ => ?_)
                replace hl := hl₀
                clear hl₀
                refine lv_aload_n hx hb dX12_tells_72 rfl (lv_at hl 4 rfl) ?_
                have ha_101 : (999 + (vy_34 : Int32).toInt) ≤ 1000000 := by
                  have z_1 : ¬ (r_4 : Int32).toInt = (0 : Int32).toInt := fun z => c_7 (Int32.toInt_inj.mp z)
                  have z_2 : ¬ (r_11 : Int32).toInt = (0 : Int32).toInt := fun z => c_14 (Int32.toInt_inj.mp z)
                  have z_3 : ¬ (r_18 : Int32).toInt = (0 : Int32).toInt := fun z => c_21 (Int32.toInt_inj.mp z)
                  have z_4 := Int32.lt_iff_toInt_lt.mp (Int32.not_le.mp c_47)
                  have z_5 := Int32.le_iff_toInt_le.mp (Int32.not_lt.mp c_75)
                  have y_0 : (0 : Int32).toInt = 0 := by decide
                  have y_5 : (5 : Int32).toInt = 5 := by decide
                  omega
                refine cV (a := (Ma 0)) (As := []) (rest := []) (wr := [((Ma 12), .inl (tc 0, 46, .inl sv_25))]) ⟨hx, hb, hml, hown, hts⟩ hK hX hA (cu_X12_passes l D tc sk (Ma 0) (Ma 1) (Ma 2) (Ma 3) (Ma 4) (Ma 5) (Ma 6) (Ma 7) (Ma 8) (Ma 9) (Ma 10) (Ma 11) (Ma 12) (Ma 13) (Ma 14) (Ma 15) (Ma 16) (Ma 17) (Ma 18) (Ma 19) (Ma 20) (Mv 0) (Mv 1) (Mv 2) (Mv 3) (Mv 4) (Mv 5) (Mv 6) (Mv 7) (Mv 8) (Mv 9) vy_38 (Mv 11) (Mv 12) (Mv 13) (Mv 14) (Mf 2) (Mf 4) (Mf 5) vy_39 (Mj 0) vy_36 vy_37 (999 + (vy_34 : Int32).toInt) pf_45 ha_101 h_rul h_frc) k_1423 k_1420 k_1422 k_67 k_106 pl_X12_passes ⟨Nat.le_of_ble_eq_true rfl, Nat.le_of_ble_eq_true rfl⟩ rfl rfl (va_recv hK hP (ci := 12) (q0 := 6) rfl rfl) hP hD hS [6, 0, 1, 2, 3, 4, 7] [5] rfl rfl rfl rfl rfl (by decide) rfl hl.1 rfl (Nat.le_of_ble_eq_true rfl) dX12_tells_73 ⟨Nat.le_of_ble_eq_true rfl, Nat.le_of_ble_eq_true rfl⟩ (fun v_102 u_103 H locs hv_104 hP₀ hD₀ hS₀ => ?_)
                obtain ⟨sv_105, sv_106, sv_107, sv_108⟩ := u_103
                obtain ⟨r_110, rfl, he_111, pf_109⟩ := hv_104
                have pf_109 : SaidD T sv_108 ((999 + (vy_34 : Int32).toInt) + 1) := pf_109
                have ar_pf_109 := SaidD.al pf_109
                refine W.eq (g2 := F0 m 76 ls [.int r_110]) rfl ?_
                replace hP : va_P D classes [((Ma 12), .inl (tc 0, 46, .inl sv_25)), ((Ma 0), .inr (12, [.ref (Ma 1), .int (Mv 0), .int (Mv 1), .ref (Ma 2), .ref (Ma 3), .ref (Ma 4), .ref (Ma 5), .ref (Ma 6), .int (Mv 2), .int (Mv 3), .int (Mv 4), .int (Mv 5), .int (Mv 6), .int (Mv 7), .int (Mv 8), .ref (Ma 7), .int (Mv 9), .ref (Ma 8), .int sv_105, .ref (Ma 9), .ref (Ma 10), .int (Mv 11), .int (Mv 12), .int (Mv 13), .ref (Ma 11), .int (Mv 14), .ref (Ma 12), .ref (Ma 13), .ref (Ma 14), .ref (Ma 15), .ref (Ma 16), .long (Mj 0), .ref (Ma 17), .ref (Ma 18), .ref (Ma 19), .ref (Ma 20)])), ((Ma 2), .inl (tc 0, 2400, .inl (Mf 2))), ((Ma 4), .inl (tc 0, 288, .inl (Mf 4))), ((Ma 5), .inl (tc 0, 6, .inl (Mf 5))), ((Ma 8), .inl (tc 1, 64, .inr (.inl sv_106))), ((Ma 9), .inl (tc 1, 13, .inr (.inl sv_107))), ((Ma 10), .inl (tc 0, 126, .inl sv_108))] H := hP₀
                replace hD : va_D A [((Ma 12), .inl (tc 0, 46, .inl sv_25)), ((Ma 0), .inr (12, [.ref (Ma 1), .int (Mv 0), .int (Mv 1), .ref (Ma 2), .ref (Ma 3), .ref (Ma 4), .ref (Ma 5), .ref (Ma 6), .int (Mv 2), .int (Mv 3), .int (Mv 4), .int (Mv 5), .int (Mv 6), .int (Mv 7), .int (Mv 8), .ref (Ma 7), .int (Mv 9), .ref (Ma 8), .int sv_105, .ref (Ma 9), .ref (Ma 10), .int (Mv 11), .int (Mv 12), .int (Mv 13), .ref (Ma 11), .int (Mv 14), .ref (Ma 12), .ref (Ma 13), .ref (Ma 14), .ref (Ma 15), .ref (Ma 16), .long (Mj 0), .ref (Ma 17), .ref (Ma 18), .ref (Ma 19), .ref (Ma 20)])), ((Ma 2), .inl (tc 0, 2400, .inl (Mf 2))), ((Ma 4), .inl (tc 0, 288, .inl (Mf 4))), ((Ma 5), .inl (tc 0, 6, .inl (Mf 5))), ((Ma 8), .inl (tc 1, 64, .inr (.inl sv_106))), ((Ma 9), .inl (tc 1, 13, .inr (.inl sv_107))), ((Ma 10), .inl (tc 0, 126, .inl sv_108))] := hD₀
                replace hS := hS₀
                clear hP₀ hD₀ hS₀
                refine cS (As := [.int r_110]) (rest := []) (wr := [((Ma 12), .inl (tc 0, 46, .inl sv_25)), ((Ma 0), .inr (12, [.ref (Ma 1), .int (Mv 0), .int (Mv 1), .ref (Ma 2), .ref (Ma 3), .ref (Ma 4), .ref (Ma 5), .ref (Ma 6), .int (Mv 2), .int (Mv 3), .int (Mv 4), .int (Mv 5), .int (Mv 6), .int (Mv 7), .int (Mv 8), .ref (Ma 7), .int (Mv 9), .ref (Ma 8), .int sv_105, .ref (Ma 9), .ref (Ma 10), .int (Mv 11), .int (Mv 12), .int (Mv 13), .ref (Ma 11), .int (Mv 14), .ref (Ma 12), .ref (Ma 13), .ref (Ma 14), .ref (Ma 15), .ref (Ma 16), .long (Mj 0), .ref (Ma 17), .ref (Ma 18), .ref (Ma 19), .ref (Ma 20)])), ((Ma 2), .inl (tc 0, 2400, .inl (Mf 2))), ((Ma 4), .inl (tc 0, 288, .inl (Mf 4))), ((Ma 5), .inl (tc 0, 6, .inl (Mf 5))), ((Ma 8), .inl (tc 1, 64, .inr (.inl sv_106))), ((Ma 9), .inl (tc 1, 13, .inr (.inl sv_107))), ((Ma 10), .inl (tc 0, 126, .inl sv_108))]) ⟨hx, hb, hml, hown, hts⟩ hK hX hA (ct_X12_bits l D tc sk r_110) k_1532 k_1530 k_1531 k_106 pl_X12_bits ⟨Nat.le_of_ble_eq_true rfl, Nat.le_of_ble_eq_true rfl⟩ rfl rfl  hP hD hS [] [0, 1, 2, 3, 4, 5, 6, 7] rfl rfl rfl rfl rfl (by decide) rfl hl.1 rfl (Nat.le_of_ble_eq_true rfl) dX12_tells_76 ⟨Nat.le_of_ble_eq_true rfl, Nat.le_of_ble_eq_true rfl⟩ (fun v_113 u_114 H locs hv_115 hP₀ hD₀ hS₀ => ?_)
                obtain ⟨r_116, rfl, he_117⟩ := hv_115
                refine W.eq (g2 := F0 m 79 ls [.int r_116]) rfl ?_
                replace hP : va_P D classes [((Ma 12), .inl (tc 0, 46, .inl sv_25)), ((Ma 0), .inr (12, [.ref (Ma 1), .int (Mv 0), .int (Mv 1), .ref (Ma 2), .ref (Ma 3), .ref (Ma 4), .ref (Ma 5), .ref (Ma 6), .int (Mv 2), .int (Mv 3), .int (Mv 4), .int (Mv 5), .int (Mv 6), .int (Mv 7), .int (Mv 8), .ref (Ma 7), .int (Mv 9), .ref (Ma 8), .int sv_105, .ref (Ma 9), .ref (Ma 10), .int (Mv 11), .int (Mv 12), .int (Mv 13), .ref (Ma 11), .int (Mv 14), .ref (Ma 12), .ref (Ma 13), .ref (Ma 14), .ref (Ma 15), .ref (Ma 16), .long (Mj 0), .ref (Ma 17), .ref (Ma 18), .ref (Ma 19), .ref (Ma 20)])), ((Ma 2), .inl (tc 0, 2400, .inl (Mf 2))), ((Ma 4), .inl (tc 0, 288, .inl (Mf 4))), ((Ma 5), .inl (tc 0, 6, .inl (Mf 5))), ((Ma 8), .inl (tc 1, 64, .inr (.inl sv_106))), ((Ma 9), .inl (tc 1, 13, .inr (.inl sv_107))), ((Ma 10), .inl (tc 0, 126, .inl sv_108))] H := hP₀
                replace hD : va_D A [((Ma 12), .inl (tc 0, 46, .inl sv_25)), ((Ma 0), .inr (12, [.ref (Ma 1), .int (Mv 0), .int (Mv 1), .ref (Ma 2), .ref (Ma 3), .ref (Ma 4), .ref (Ma 5), .ref (Ma 6), .int (Mv 2), .int (Mv 3), .int (Mv 4), .int (Mv 5), .int (Mv 6), .int (Mv 7), .int (Mv 8), .ref (Ma 7), .int (Mv 9), .ref (Ma 8), .int sv_105, .ref (Ma 9), .ref (Ma 10), .int (Mv 11), .int (Mv 12), .int (Mv 13), .ref (Ma 11), .int (Mv 14), .ref (Ma 12), .ref (Ma 13), .ref (Ma 14), .ref (Ma 15), .ref (Ma 16), .long (Mj 0), .ref (Ma 17), .ref (Ma 18), .ref (Ma 19), .ref (Ma 20)])), ((Ma 2), .inl (tc 0, 2400, .inl (Mf 2))), ((Ma 4), .inl (tc 0, 288, .inl (Mf 4))), ((Ma 5), .inl (tc 0, 6, .inl (Mf 5))), ((Ma 8), .inl (tc 1, 64, .inr (.inl sv_106))), ((Ma 9), .inl (tc 1, 13, .inr (.inl sv_107))), ((Ma 10), .inl (tc 0, 126, .inl sv_108))] := hD₀
                replace hS := hS₀
                clear hP₀ hD₀ hS₀
                refine lv_istore (lv' := [(7, .int r_116), (6, .int 1), (5, .int vy_34), (4, .int vy_35), (3, .int vy_40), (0, .ref (Ma 0)), (1, .int x1), (2, .int x2)]) hx hb dX12_tells_79 hl (by decide) rfl (fun ls hl₀ => ?_)
                replace hl := hl₀
                clear hl₀
                refine lv_iload hx hb dX12_tells_81 (lv_at hl 3 rfl) ?_
                refine lv_iload hx hb dX12_tells_83 (lv_at hl 0 rfl) ?_
                refine lv_iadd hx hb dX12_tells_85 ?_
                refine lv_topi (fun x_119 ex_119 => ?_)
                refine lv_istore (lv' := [(4, .int x_119), (7, .int r_116), (6, .int 1), (5, .int vy_34), (3, .int vy_40), (0, .ref (Ma 0)), (1, .int x1), (2, .int x2)]) hx hb dX12_tells_86 hl (by decide) rfl (fun ls hl₀ => ?_)
                replace hl := hl₀
                clear hl₀
                refine lv_iload_n hx hb dX12_tells_88 rfl (lv_at hl 4 rfl) ?_
                refine lv_iload hx hb dX12_tells_89 (lv_at hl 2 rfl) ?_
                refine lv_if_eq (tgt := 99) hx hb dX12_tells_91 (by decide) (fun c_120 => absurd c_120 (by decide)) (fun c_120 => ?_)
                refine lv_iload hx hb dX12_tells_94 (lv_at hl 1 rfl) ?_
                refine lv_goto (tgt := 100) hx hb dX12_tells_96 (by decide) ?_
                refine lv_iadd hx hb dX12_tells_100 ?_
                refine lv_topi (fun x_121 ex_121 => ?_)
                refine lv_istore_n (lv' := [(3, .int x_121), (4, .int x_119), (7, .int r_116), (6, .int 1), (5, .int vy_34), (0, .ref (Ma 0)), (1, .int x1), (2, .int x2)]) hx hb dX12_tells_101 rfl hl (by decide) rfl (fun ls hl₀ => ?_)
                replace hl := hl₀
                clear hl₀
                obtain ⟨x_122, ex_122⟩ : ∃ y : Int32, y = vy_34 + 1 := ⟨_, rfl⟩
                refine lv_iinc (v := x_122) (lv' := [(5, .int x_122), (3, .int x_121), (4, .int x_119), (7, .int r_116), (6, .int 1), (0, .ref (Ma 0)), (1, .int x1), (2, .int x2)]) hx hb dX12_tells_102 hl (k := 4) rfl (by rw [ex_122]; rfl) (by decide) rfl (fun ls hl₀ => ?_)
                replace hl := hl₀
                clear hl₀
                refine lv_goto (tgt := 43) hx hb dX12_tells_105 (by decide) ?_
                have hb_123 : x1.toInt - (x_122 : Int32).toInt < x1.toInt - (vy_34 : Int32).toInt ∧ 1 ≤ x1.toInt - (vy_34 : Int32).toInt := by
                  have z_1 : ¬ (r_4 : Int32).toInt = (0 : Int32).toInt := fun z => c_7 (Int32.toInt_inj.mp z)
                  have z_2 : ¬ (r_11 : Int32).toInt = (0 : Int32).toInt := fun z => c_14 (Int32.toInt_inj.mp z)
                  have z_3 : ¬ (r_18 : Int32).toInt = (0 : Int32).toInt := fun z => c_21 (Int32.toInt_inj.mp z)
                  have z_4 := Int32.lt_iff_toInt_lt.mp (Int32.not_le.mp c_47)
                  have z_5 := Int32.le_iff_toInt_le.mp (Int32.not_lt.mp c_75)
                  have y_0 : (0 : Int32).toInt = 0 := by decide
                  have y_5 : (5 : Int32).toInt = 5 := by decide
                  have y_1 : (1 : Int32).toInt = 1 := by decide
                  have t_x_122 : x_122.toInt = (vy_34 : Int32).toInt + (1 : Int32).toInt := by rw [ex_122]; exact add_toInt (by omega) (by omega)
                  refine ⟨?_, ?_⟩ <;> omega
                have ha_124 : 0 ≤ (x_122 : Int32).toInt ∧ (x_122 : Int32).toInt ≤ x1.toInt := by
                  have z_1 : ¬ (r_4 : Int32).toInt = (0 : Int32).toInt := fun z => c_7 (Int32.toInt_inj.mp z)
                  have z_2 : ¬ (r_11 : Int32).toInt = (0 : Int32).toInt := fun z => c_14 (Int32.toInt_inj.mp z)
                  have z_3 : ¬ (r_18 : Int32).toInt = (0 : Int32).toInt := fun z => c_21 (Int32.toInt_inj.mp z)
                  have z_4 := Int32.lt_iff_toInt_lt.mp (Int32.not_le.mp c_47)
                  have z_5 := Int32.le_iff_toInt_le.mp (Int32.not_lt.mp c_75)
                  have y_0 : (0 : Int32).toInt = 0 := by decide
                  have y_5 : (5 : Int32).toInt = 5 := by decide
                  have y_1 : (1 : Int32).toInt = 1 := by decide
                  have t_x_122 : x_122.toInt = (vy_34 : Int32).toInt + (1 : Int32).toInt := by rw [ex_122]; exact add_toInt (by omega) (by omega)
                  refine ⟨?_, ?_⟩ <;> omega
                have ha_125 : ((999 + (vy_34 : Int32).toInt) + 1) ≤ (999 + (x_122 : Int32).toInt) := by
                  have z_1 : ¬ (r_4 : Int32).toInt = (0 : Int32).toInt := fun z => c_7 (Int32.toInt_inj.mp z)
                  have z_2 : ¬ (r_11 : Int32).toInt = (0 : Int32).toInt := fun z => c_14 (Int32.toInt_inj.mp z)
                  have z_3 : ¬ (r_18 : Int32).toInt = (0 : Int32).toInt := fun z => c_21 (Int32.toInt_inj.mp z)
                  have z_4 := Int32.lt_iff_toInt_lt.mp (Int32.not_le.mp c_47)
                  have z_5 := Int32.le_iff_toInt_le.mp (Int32.not_lt.mp c_75)
                  have y_0 : (0 : Int32).toInt = 0 := by decide
                  have y_5 : (5 : Int32).toInt = 5 := by decide
                  have y_1 : (1 : Int32).toInt = 1 := by decide
                  have t_x_122 : x_122.toInt = (vy_34 : Int32).toInt + (1 : Int32).toInt := by rw [ex_122]; exact add_toInt (by omega) (by omega)
                  omega
                exact ih_42 x_122 x_119 sv_106 sv_107 sv_105 sv_108 x_121 _ _ _ (by omega) ha_124 (SaidD.mono pf_109 ha_125) (hP.sub [2, 3, 4, 5, 6, 1, 7, 0] rfl) (hD.sub [2, 3, 4, 5, 6, 1, 7, 0] rfl rfl) hS (lv_sub hl [0, 2, 1, 5, 6, 7] rfl)
        have ha_126 : 0 ≤ (0 : Int32).toInt ∧ (0 : Int32).toInt ≤ x1.toInt := by
          have z_1 : ¬ (r_4 : Int32).toInt = (0 : Int32).toInt := fun z => c_7 (Int32.toInt_inj.mp z)
          have z_2 : ¬ (r_11 : Int32).toInt = (0 : Int32).toInt := fun z => c_14 (Int32.toInt_inj.mp z)
          have z_3 : ¬ (r_18 : Int32).toInt = (0 : Int32).toInt := fun z => c_21 (Int32.toInt_inj.mp z)
          have y_0 : (0 : Int32).toInt = 0 := by decide
          refine ⟨?_, ?_⟩ <;> omega
        have ha_127 : 999 ≤ (999 + (0 : Int32).toInt) := by
          have z_1 : ¬ (r_4 : Int32).toInt = (0 : Int32).toInt := fun z => c_7 (Int32.toInt_inj.mp z)
          have z_2 : ¬ (r_11 : Int32).toInt = (0 : Int32).toInt := fun z => c_14 (Int32.toInt_inj.mp z)
          have z_3 : ¬ (r_18 : Int32).toInt = (0 : Int32).toInt := fun z => c_21 (Int32.toInt_inj.mp z)
          have y_0 : (0 : Int32).toInt = 0 := by decide
          omega
        exact loop_43 _ 0 0 (Mg 8) (Mg 9) (Mv 10) (Mf 10) 0 _ _ _ (Nat.lt_succ_self _) ha_126 (SaidD.mono h_said ha_127) hP hD hS hl
      · skip
        refine lv_iconst (v := (-1)) hx hb dX12_tells_29 (by decide) ?_
        exact retI (v := (-1)) hx hb hr hlk (rfl) hP hD hS ((Mv 10), (Mg 8), (Mg 9), (Mf 10), (Mf 12)) ⟨_, rfl, trivial, h_said⟩ [6, 0, 1, 2, 3, 4, 7, 5] rfl rfl dX12_tells_30 (Nat.le_of_ble_eq_true rfl) (Nat.le_of_ble_eq_true rfl) rfl
set_option maxHeartbeats 4000000 in
set_option maxRecDepth 100000 in
theorem ct_X12_soldIn {T : Nat → Option Int32} (l : Launch) (D : va_G) (tc : Nat → ClassId) (sk : (Nat → Nat) × (Nat → Nat)) (Ma : Nat → Nat) (Mv : Nat → Int32) (Mf : Nat → Nat → Int32) (Mj : Nat → Int64) (Mg : Nat → Nat → Int64) (x1 : Int32) (h_said : SaidD T (Mf 10) 999) (h_kept : KeptD (Mf 12)) (h_rul : RulD (Mf 2) (Mf 4) (Mf 5) (Mv 1)) (h_frc : -1 ≤ (Mv 11).toInt ∧ (Mv 11).toInt < (Mv 1).toInt ∧ (Mv 1).toInt ≤ 6) (h_n : 0 ≤ x1.toInt ∧ x1.toInt ≤ 1000) : Ct l yX12_soldIn cX12_soldIn 4 (some .int) { frames := 6, cells := 0, slots := 0, locals := 143 } D tc sk [.ref (Ma 0), .int x1] [((Ma 0), .inr (12, [.ref (Ma 1), .int (Mv 0), .int (Mv 1), .ref (Ma 2), .ref (Ma 3), .ref (Ma 4), .ref (Ma 5), .ref (Ma 6), .int (Mv 2), .int (Mv 3), .int (Mv 4), .int (Mv 5), .int (Mv 6), .int (Mv 7), .int (Mv 8), .ref (Ma 7), .int (Mv 9), .ref (Ma 8), .int (Mv 10), .ref (Ma 9), .ref (Ma 10), .int (Mv 11), .int (Mv 12), .int (Mv 13), .ref (Ma 11), .int (Mv 14), .ref (Ma 12), .ref (Ma 13), .ref (Ma 14), .ref (Ma 15), .ref (Ma 16), .long (Mj 0), .ref (Ma 17), .ref (Ma 18), .ref (Ma 19), .ref (Ma 20)])), ((Ma 2), .inl (tc 0, 2400, .inl (Mf 2))), ((Ma 4), .inl (tc 0, 288, .inl (Mf 4))), ((Ma 5), .inl (tc 0, 6, .inl (Mf 5))), ((Ma 8), .inl (tc 1, 64, .inr (.inl (Mg 8)))), ((Ma 9), .inl (tc 1, 13, .inr (.inl (Mg 9)))), ((Ma 10), .inl (tc 0, 126, .inl (Mf 10))), ((Ma 12), .inl (tc 0, 46, .inl (Mf 12)))] (fun (v : Option Value) (u : (Int32) × (Nat → Int64) × (Nat → Int64) × (Nat → Int32)) => match u with | (oo0x1, oo0x2, oo0x3, oo0x4) => ∃ r : Int32, v = some (.int r) ∧ (True) ∧ (SaidD T oo0x4 999)) (fun (u : (Int32) × (Nat → Int64) × (Nat → Int64) × (Nat → Int32)) => match u with | (oo0x1, oo0x2, oo0x3, oo0x4) => [((Ma 0), .inr (12, [.ref (Ma 1), .int (Mv 0), .int (Mv 1), .ref (Ma 2), .ref (Ma 3), .ref (Ma 4), .ref (Ma 5), .ref (Ma 6), .int (Mv 2), .int (Mv 3), .int (Mv 4), .int (Mv 5), .int (Mv 6), .int (Mv 7), .int (Mv 8), .ref (Ma 7), .int (Mv 9), .ref (Ma 8), .int oo0x1, .ref (Ma 9), .ref (Ma 10), .int (Mv 11), .int (Mv 12), .int (Mv 13), .ref (Ma 11), .int (Mv 14), .ref (Ma 12), .ref (Ma 13), .ref (Ma 14), .ref (Ma 15), .ref (Ma 16), .long (Mj 0), .ref (Ma 17), .ref (Ma 18), .ref (Ma 19), .ref (Ma 20)])), ((Ma 2), .inl (tc 0, 2400, .inl (Mf 2))), ((Ma 4), .inl (tc 0, 288, .inl (Mf 4))), ((Ma 5), .inl (tc 0, 6, .inl (Mf 5))), ((Ma 8), .inl (tc 1, 64, .inr (.inl oo0x2))), ((Ma 9), .inl (tc 1, 13, .inr (.inl oo0x3))), ((Ma 10), .inl (tc 0, 126, .inl oo0x4)), ((Ma 12), .inl (tc 0, 46, .inl (Mf 12)))]) 0 0 := by
  refine Ct.start (by decide) (Nat.le_of_ble_eq_true rfl) (fun p e s m below meth c A ls hx hb hr hlk hin hml hown hts hK hX hP hD hA hl hS => ?_)
  have hl : lv_has ls 4 [(0, .ref (Ma 0)), (1, .int x1)] := hl
  have ar_h_said := SaidD.al h_said
  refine lv_aload_n hx hb dX12_soldIn_0 rfl (lv_at hl 0 rfl) ?_
  refine cV (a := (Ma 0)) (As := []) (rest := []) (wr := [((Ma 2), .inl (tc 0, 2400, .inl (Mf 2))), ((Ma 4), .inl (tc 0, 288, .inl (Mf 4))), ((Ma 5), .inl (tc 0, 6, .inl (Mf 5))), ((Ma 8), .inl (tc 1, 64, .inr (.inl (Mg 8)))), ((Ma 9), .inl (tc 1, 13, .inr (.inl (Mg 9)))), ((Ma 12), .inl (tc 0, 46, .inl (Mf 12)))]) ⟨hx, hb, hml, hown, hts⟩ hK hX hA (cu_X12_soldAll l D tc sk (Ma 0) (Ma 1) (Ma 2) (Ma 3) (Ma 4) (Ma 5) (Ma 6) (Ma 7) (Ma 8) (Ma 9) (Ma 10) (Ma 11) (Ma 12) (Ma 13) (Ma 14) (Ma 15) (Ma 16) (Ma 17) (Ma 18) (Ma 19) (Ma 20) (Mv 0) (Mv 1) (Mv 2) (Mv 3) (Mv 4) (Mv 5) (Mv 6) (Mv 7) (Mv 8) (Mv 9) (Mv 10) (Mv 11) (Mv 12) (Mv 13) (Mv 14) (Mf 10) (Mj 0) h_said.1) k_1439 k_1436 k_1438 k_71 k_106 pl_X12_soldAll ⟨Nat.le_of_ble_eq_true rfl, Nat.le_of_ble_eq_true rfl⟩ rfl rfl (va_recv hK hP (ci := 12) (q0 := 0) rfl rfl) hP hD hS [0, 6] [1, 2, 3, 4, 5, 7] rfl rfl rfl rfl rfl (by decide) rfl hl.1 rfl (Nat.le_of_ble_eq_true rfl) dX12_soldIn_1 ⟨Nat.le_of_ble_eq_true rfl, Nat.le_of_ble_eq_true rfl⟩ (fun v_1 u_2 H locs hv_3 hP₀ hD₀ hS₀ => ?_)
  obtain ⟨r_4, rfl, he_5⟩ := hv_3
  refine W.eq (g2 := F0 m 4 ls [.int r_4]) rfl ?_
  replace hP : va_P D classes [((Ma 2), .inl (tc 0, 2400, .inl (Mf 2))), ((Ma 4), .inl (tc 0, 288, .inl (Mf 4))), ((Ma 5), .inl (tc 0, 6, .inl (Mf 5))), ((Ma 8), .inl (tc 1, 64, .inr (.inl (Mg 8)))), ((Ma 9), .inl (tc 1, 13, .inr (.inl (Mg 9)))), ((Ma 12), .inl (tc 0, 46, .inl (Mf 12))), ((Ma 0), .inr (12, [.ref (Ma 1), .int (Mv 0), .int (Mv 1), .ref (Ma 2), .ref (Ma 3), .ref (Ma 4), .ref (Ma 5), .ref (Ma 6), .int (Mv 2), .int (Mv 3), .int (Mv 4), .int (Mv 5), .int (Mv 6), .int (Mv 7), .int (Mv 8), .ref (Ma 7), .int (Mv 9), .ref (Ma 8), .int (Mv 10), .ref (Ma 9), .ref (Ma 10), .int (Mv 11), .int (Mv 12), .int (Mv 13), .ref (Ma 11), .int (Mv 14), .ref (Ma 12), .ref (Ma 13), .ref (Ma 14), .ref (Ma 15), .ref (Ma 16), .long (Mj 0), .ref (Ma 17), .ref (Ma 18), .ref (Ma 19), .ref (Ma 20)])), ((Ma 10), .inl (tc 0, 126, .inl (Mf 10)))] H := hP₀
  replace hD : va_D A [((Ma 2), .inl (tc 0, 2400, .inl (Mf 2))), ((Ma 4), .inl (tc 0, 288, .inl (Mf 4))), ((Ma 5), .inl (tc 0, 6, .inl (Mf 5))), ((Ma 8), .inl (tc 1, 64, .inr (.inl (Mg 8)))), ((Ma 9), .inl (tc 1, 13, .inr (.inl (Mg 9)))), ((Ma 12), .inl (tc 0, 46, .inl (Mf 12))), ((Ma 0), .inr (12, [.ref (Ma 1), .int (Mv 0), .int (Mv 1), .ref (Ma 2), .ref (Ma 3), .ref (Ma 4), .ref (Ma 5), .ref (Ma 6), .int (Mv 2), .int (Mv 3), .int (Mv 4), .int (Mv 5), .int (Mv 6), .int (Mv 7), .int (Mv 8), .ref (Ma 7), .int (Mv 9), .ref (Ma 8), .int (Mv 10), .ref (Ma 9), .ref (Ma 10), .int (Mv 11), .int (Mv 12), .int (Mv 13), .ref (Ma 11), .int (Mv 14), .ref (Ma 12), .ref (Ma 13), .ref (Ma 14), .ref (Ma 15), .ref (Ma 16), .long (Mj 0), .ref (Ma 17), .ref (Ma 18), .ref (Ma 19), .ref (Ma 20)])), ((Ma 10), .inl (tc 0, 126, .inl (Mf 10)))] := hD₀
  replace hS := hS₀
  clear hP₀ hD₀ hS₀
  refine lv_istore_n (lv' := [(2, .int r_4), (0, .ref (Ma 0)), (1, .int x1)]) hx hb dX12_soldIn_4 rfl hl (by decide) rfl (fun ls hl₀ => ?_)
  replace hl := hl₀
  clear hl₀
  refine lv_aload_n hx hb dX12_soldIn_5 rfl (lv_at hl 1 rfl) ?_
  refine lv_iload_n hx hb dX12_soldIn_6 rfl (lv_at hl 2 rfl) ?_
  have ha_7 : (999 : Int) ≤ 1000 := by
    have y_999 : (999 : Int32).toInt = 999 := by decide
    omega
  refine cV (a := (Ma 0)) (As := [.int x1]) (rest := []) (wr := [((Ma 12), .inl (tc 0, 46, .inl (Mf 12)))]) ⟨hx, hb, hml, hown, hts⟩ hK hX hA (cu_X12_passesAll l D tc sk (Ma 0) (Ma 1) (Ma 2) (Ma 3) (Ma 4) (Ma 5) (Ma 6) (Ma 7) (Ma 8) (Ma 9) (Ma 10) (Ma 11) (Ma 12) (Ma 13) (Ma 14) (Ma 15) (Ma 16) (Ma 17) (Ma 18) (Ma 19) (Ma 20) (Mv 0) (Mv 1) (Mv 2) (Mv 3) (Mv 4) (Mv 5) (Mv 6) (Mv 7) (Mv 8) (Mv 9) (Mv 10) (Mv 11) (Mv 12) (Mv 13) (Mv 14) (Mf 2) (Mf 4) (Mf 5) (Mf 10) (Mj 0) (Mg 8) (Mg 9) x1 999 h_said ha_7 h_rul h_frc h_n) k_1509 k_1506 k_1508 k_81 k_106 pl_X12_passesAll ⟨Nat.le_of_ble_eq_true rfl, Nat.le_of_ble_eq_true rfl⟩ rfl rfl (va_recv hK hP (ci := 12) (q0 := 6) rfl rfl) hP hD hS [6, 0, 1, 2, 3, 4, 7] [5] rfl rfl rfl rfl rfl (by decide) rfl hl.1 rfl (Nat.le_of_ble_eq_true rfl) dX12_soldIn_7 ⟨Nat.le_of_ble_eq_true rfl, Nat.le_of_ble_eq_true rfl⟩ (fun v_8 u_9 H locs hv_10 hP₀ hD₀ hS₀ => ?_)
  obtain ⟨sv_11, sv_12, sv_13, sv_14⟩ := u_9
  obtain ⟨rfl, pf_15⟩ := hv_10
  have pf_15 : SaidD T sv_14 ((999 : Int) + x1.toInt) := pf_15
  have ar_pf_15 := SaidD.al pf_15
  refine W.eq (g2 := F0 m 10 ls []) rfl ?_
  replace hP : va_P D classes [((Ma 12), .inl (tc 0, 46, .inl (Mf 12))), ((Ma 0), .inr (12, [.ref (Ma 1), .int (Mv 0), .int (Mv 1), .ref (Ma 2), .ref (Ma 3), .ref (Ma 4), .ref (Ma 5), .ref (Ma 6), .int (Mv 2), .int (Mv 3), .int (Mv 4), .int (Mv 5), .int (Mv 6), .int (Mv 7), .int (Mv 8), .ref (Ma 7), .int (Mv 9), .ref (Ma 8), .int sv_11, .ref (Ma 9), .ref (Ma 10), .int (Mv 11), .int (Mv 12), .int (Mv 13), .ref (Ma 11), .int (Mv 14), .ref (Ma 12), .ref (Ma 13), .ref (Ma 14), .ref (Ma 15), .ref (Ma 16), .long (Mj 0), .ref (Ma 17), .ref (Ma 18), .ref (Ma 19), .ref (Ma 20)])), ((Ma 2), .inl (tc 0, 2400, .inl (Mf 2))), ((Ma 4), .inl (tc 0, 288, .inl (Mf 4))), ((Ma 5), .inl (tc 0, 6, .inl (Mf 5))), ((Ma 8), .inl (tc 1, 64, .inr (.inl sv_12))), ((Ma 9), .inl (tc 1, 13, .inr (.inl sv_13))), ((Ma 10), .inl (tc 0, 126, .inl sv_14))] H := hP₀
  replace hD : va_D A [((Ma 12), .inl (tc 0, 46, .inl (Mf 12))), ((Ma 0), .inr (12, [.ref (Ma 1), .int (Mv 0), .int (Mv 1), .ref (Ma 2), .ref (Ma 3), .ref (Ma 4), .ref (Ma 5), .ref (Ma 6), .int (Mv 2), .int (Mv 3), .int (Mv 4), .int (Mv 5), .int (Mv 6), .int (Mv 7), .int (Mv 8), .ref (Ma 7), .int (Mv 9), .ref (Ma 8), .int sv_11, .ref (Ma 9), .ref (Ma 10), .int (Mv 11), .int (Mv 12), .int (Mv 13), .ref (Ma 11), .int (Mv 14), .ref (Ma 12), .ref (Ma 13), .ref (Ma 14), .ref (Ma 15), .ref (Ma 16), .long (Mj 0), .ref (Ma 17), .ref (Ma 18), .ref (Ma 19), .ref (Ma 20)])), ((Ma 2), .inl (tc 0, 2400, .inl (Mf 2))), ((Ma 4), .inl (tc 0, 288, .inl (Mf 4))), ((Ma 5), .inl (tc 0, 6, .inl (Mf 5))), ((Ma 8), .inl (tc 1, 64, .inr (.inl sv_12))), ((Ma 9), .inl (tc 1, 13, .inr (.inl sv_13))), ((Ma 10), .inl (tc 0, 126, .inl sv_14))] := hD₀
  replace hS := hS₀
  clear hP₀ hD₀ hS₀
  refine lv_aload_n hx hb dX12_soldIn_10 rfl (lv_at hl 1 rfl) ?_
  refine cV (a := (Ma 0)) (As := []) (rest := []) (wr := [((Ma 12), .inl (tc 0, 46, .inl (Mf 12))), ((Ma 2), .inl (tc 0, 2400, .inl (Mf 2))), ((Ma 4), .inl (tc 0, 288, .inl (Mf 4))), ((Ma 5), .inl (tc 0, 6, .inl (Mf 5))), ((Ma 8), .inl (tc 1, 64, .inr (.inl sv_12))), ((Ma 9), .inl (tc 1, 13, .inr (.inl sv_13)))]) ⟨hx, hb, hml, hown, hts⟩ hK hX hA (cu_X12_soldAll l D tc sk (Ma 0) (Ma 1) (Ma 2) (Ma 3) (Ma 4) (Ma 5) (Ma 6) (Ma 7) (Ma 8) (Ma 9) (Ma 10) (Ma 11) (Ma 12) (Ma 13) (Ma 14) (Ma 15) (Ma 16) (Ma 17) (Ma 18) (Ma 19) (Ma 20) (Mv 0) (Mv 1) (Mv 2) (Mv 3) (Mv 4) (Mv 5) (Mv 6) (Mv 7) (Mv 8) (Mv 9) sv_11 (Mv 11) (Mv 12) (Mv 13) (Mv 14) sv_14 (Mj 0) pf_15.1) k_1439 k_1436 k_1438 k_71 k_106 pl_X12_soldAll ⟨Nat.le_of_ble_eq_true rfl, Nat.le_of_ble_eq_true rfl⟩ rfl rfl (va_recv hK hP (ci := 12) (q0 := 1) rfl rfl) hP hD hS [1, 7] [0, 2, 3, 4, 5, 6] rfl rfl rfl rfl rfl (by decide) rfl hl.1 rfl (Nat.le_of_ble_eq_true rfl) dX12_soldIn_11 ⟨Nat.le_of_ble_eq_true rfl, Nat.le_of_ble_eq_true rfl⟩ (fun v_16 u_17 H locs hv_18 hP₀ hD₀ hS₀ => ?_)
  obtain ⟨r_19, rfl, he_20⟩ := hv_18
  refine W.eq (g2 := F0 m 14 ls [.int r_19]) rfl ?_
  replace hP : va_P D classes [((Ma 12), .inl (tc 0, 46, .inl (Mf 12))), ((Ma 2), .inl (tc 0, 2400, .inl (Mf 2))), ((Ma 4), .inl (tc 0, 288, .inl (Mf 4))), ((Ma 5), .inl (tc 0, 6, .inl (Mf 5))), ((Ma 8), .inl (tc 1, 64, .inr (.inl sv_12))), ((Ma 9), .inl (tc 1, 13, .inr (.inl sv_13))), ((Ma 0), .inr (12, [.ref (Ma 1), .int (Mv 0), .int (Mv 1), .ref (Ma 2), .ref (Ma 3), .ref (Ma 4), .ref (Ma 5), .ref (Ma 6), .int (Mv 2), .int (Mv 3), .int (Mv 4), .int (Mv 5), .int (Mv 6), .int (Mv 7), .int (Mv 8), .ref (Ma 7), .int (Mv 9), .ref (Ma 8), .int sv_11, .ref (Ma 9), .ref (Ma 10), .int (Mv 11), .int (Mv 12), .int (Mv 13), .ref (Ma 11), .int (Mv 14), .ref (Ma 12), .ref (Ma 13), .ref (Ma 14), .ref (Ma 15), .ref (Ma 16), .long (Mj 0), .ref (Ma 17), .ref (Ma 18), .ref (Ma 19), .ref (Ma 20)])), ((Ma 10), .inl (tc 0, 126, .inl sv_14))] H := hP₀
  replace hD : va_D A [((Ma 12), .inl (tc 0, 46, .inl (Mf 12))), ((Ma 2), .inl (tc 0, 2400, .inl (Mf 2))), ((Ma 4), .inl (tc 0, 288, .inl (Mf 4))), ((Ma 5), .inl (tc 0, 6, .inl (Mf 5))), ((Ma 8), .inl (tc 1, 64, .inr (.inl sv_12))), ((Ma 9), .inl (tc 1, 13, .inr (.inl sv_13))), ((Ma 0), .inr (12, [.ref (Ma 1), .int (Mv 0), .int (Mv 1), .ref (Ma 2), .ref (Ma 3), .ref (Ma 4), .ref (Ma 5), .ref (Ma 6), .int (Mv 2), .int (Mv 3), .int (Mv 4), .int (Mv 5), .int (Mv 6), .int (Mv 7), .int (Mv 8), .ref (Ma 7), .int (Mv 9), .ref (Ma 8), .int sv_11, .ref (Ma 9), .ref (Ma 10), .int (Mv 11), .int (Mv 12), .int (Mv 13), .ref (Ma 11), .int (Mv 14), .ref (Ma 12), .ref (Ma 13), .ref (Ma 14), .ref (Ma 15), .ref (Ma 16), .long (Mj 0), .ref (Ma 17), .ref (Ma 18), .ref (Ma 19), .ref (Ma 20)])), ((Ma 10), .inl (tc 0, 126, .inl sv_14))] := hD₀
  replace hS := hS₀
  clear hP₀ hD₀ hS₀
  refine lv_iload_n hx hb dX12_soldIn_14 rfl (lv_at hl 0 rfl) ?_
  refine lv_isub hx hb dX12_soldIn_15 ?_
  refine lv_topi (fun x_22 ex_22 => ?_)
  refine lv_istore_n (lv' := [(3, .int x_22), (2, .int r_4), (0, .ref (Ma 0)), (1, .int x1)]) hx hb dX12_soldIn_16 rfl hl (by decide) rfl (fun ls hl₀ => ?_)
  replace hl := hl₀
  clear hl₀
  refine lv_aload_n hx hb dX12_soldIn_17 rfl (lv_at hl 2 rfl) ?_
  refine cV (a := (Ma 0)) (As := []) (rest := []) (wr := [((Ma 2), .inl (tc 0, 2400, .inl (Mf 2))), ((Ma 4), .inl (tc 0, 288, .inl (Mf 4))), ((Ma 5), .inl (tc 0, 6, .inl (Mf 5))), ((Ma 8), .inl (tc 1, 64, .inr (.inl sv_12))), ((Ma 9), .inl (tc 1, 13, .inr (.inl sv_13)))]) ⟨hx, hb, hml, hown, hts⟩ hK hX hA (cu_X12_laysBack l D tc sk (Ma 0) (Ma 1) (Ma 2) (Ma 3) (Ma 4) (Ma 5) (Ma 6) (Ma 7) (Ma 8) (Ma 9) (Ma 10) (Ma 11) (Ma 12) (Ma 13) (Ma 14) (Ma 15) (Ma 16) (Ma 17) (Ma 18) (Ma 19) (Ma 20) (Mv 0) (Mv 1) (Mv 2) (Mv 3) (Mv 4) (Mv 5) (Mv 6) (Mv 7) (Mv 8) (Mv 9) sv_11 (Mv 11) (Mv 12) (Mv 13) (Mv 14) sv_14 (Mf 12) (Mj 0) pf_15.1 h_kept) k_1513 k_1510 k_1512 k_82 k_106 pl_X12_laysBack ⟨Nat.le_of_ble_eq_true rfl, Nat.le_of_ble_eq_true rfl⟩ rfl rfl (va_recv hK hP (ci := 12) (q0 := 6) rfl rfl) hP hD hS [6, 7, 0] [1, 2, 3, 4, 5] rfl rfl rfl rfl rfl (by decide) rfl hl.1 rfl (Nat.le_of_ble_eq_true rfl) dX12_soldIn_18 ⟨Nat.le_of_ble_eq_true rfl, Nat.le_of_ble_eq_true rfl⟩ (fun v_23 u_24 H locs hv_25 hP₀ hD₀ hS₀ => ?_)
  obtain ⟨sv_26, rfl⟩ : ∃ z, z = u_24 := ⟨_, rfl⟩
  obtain ⟨rfl, pf_27⟩ := hv_25
  have pf_27 : SaidD T sv_26 999 := pf_27
  have ar_pf_27 := SaidD.al pf_27
  refine W.eq (g2 := F0 m 21 ls []) rfl ?_
  replace hP : va_P D classes [((Ma 2), .inl (tc 0, 2400, .inl (Mf 2))), ((Ma 4), .inl (tc 0, 288, .inl (Mf 4))), ((Ma 5), .inl (tc 0, 6, .inl (Mf 5))), ((Ma 8), .inl (tc 1, 64, .inr (.inl sv_12))), ((Ma 9), .inl (tc 1, 13, .inr (.inl sv_13))), ((Ma 0), .inr (12, [.ref (Ma 1), .int (Mv 0), .int (Mv 1), .ref (Ma 2), .ref (Ma 3), .ref (Ma 4), .ref (Ma 5), .ref (Ma 6), .int (Mv 2), .int (Mv 3), .int (Mv 4), .int (Mv 5), .int (Mv 6), .int (Mv 7), .int (Mv 8), .ref (Ma 7), .int (Mv 9), .ref (Ma 8), .int sv_11, .ref (Ma 9), .ref (Ma 10), .int (Mv 11), .int (Mv 12), .int (Mv 13), .ref (Ma 11), .int (Mv 14), .ref (Ma 12), .ref (Ma 13), .ref (Ma 14), .ref (Ma 15), .ref (Ma 16), .long (Mj 0), .ref (Ma 17), .ref (Ma 18), .ref (Ma 19), .ref (Ma 20)])), ((Ma 10), .inl (tc 0, 126, .inl sv_26)), ((Ma 12), .inl (tc 0, 46, .inl (Mf 12)))] H := hP₀
  replace hD : va_D A [((Ma 2), .inl (tc 0, 2400, .inl (Mf 2))), ((Ma 4), .inl (tc 0, 288, .inl (Mf 4))), ((Ma 5), .inl (tc 0, 6, .inl (Mf 5))), ((Ma 8), .inl (tc 1, 64, .inr (.inl sv_12))), ((Ma 9), .inl (tc 1, 13, .inr (.inl sv_13))), ((Ma 0), .inr (12, [.ref (Ma 1), .int (Mv 0), .int (Mv 1), .ref (Ma 2), .ref (Ma 3), .ref (Ma 4), .ref (Ma 5), .ref (Ma 6), .int (Mv 2), .int (Mv 3), .int (Mv 4), .int (Mv 5), .int (Mv 6), .int (Mv 7), .int (Mv 8), .ref (Ma 7), .int (Mv 9), .ref (Ma 8), .int sv_11, .ref (Ma 9), .ref (Ma 10), .int (Mv 11), .int (Mv 12), .int (Mv 13), .ref (Ma 11), .int (Mv 14), .ref (Ma 12), .ref (Ma 13), .ref (Ma 14), .ref (Ma 15), .ref (Ma 16), .long (Mj 0), .ref (Ma 17), .ref (Ma 18), .ref (Ma 19), .ref (Ma 20)])), ((Ma 10), .inl (tc 0, 126, .inl sv_26)), ((Ma 12), .inl (tc 0, 46, .inl (Mf 12)))] := hD₀
  replace hS := hS₀
  clear hP₀ hD₀ hS₀
  refine lv_iload_n hx hb dX12_soldIn_21 rfl (lv_at hl 0 rfl) ?_
  exact retI (v := x_22) hx hb hr hlk (rfl) hP hD hS (sv_11, sv_12, sv_13, sv_26) ⟨_, rfl, trivial, pf_27⟩ [5, 0, 1, 2, 3, 4, 6, 7] rfl rfl dX12_soldIn_22 (Nat.le_of_ble_eq_true rfl) (Nat.le_of_ble_eq_true rfl) rfl
set_option maxRecDepth 100000 in
theorem cu_X12_soldIn {T : Nat → Option Int32} (l : Launch) (D : va_G) (tc : Nat → ClassId) (sk : (Nat → Nat) × (Nat → Nat)) (Ma_0 : Nat) (Ma_1 : Nat) (Ma_2 : Nat) (Ma_3 : Nat) (Ma_4 : Nat) (Ma_5 : Nat) (Ma_6 : Nat) (Ma_7 : Nat) (Ma_8 : Nat) (Ma_9 : Nat) (Ma_10 : Nat) (Ma_11 : Nat) (Ma_12 : Nat) (Ma_13 : Nat) (Ma_14 : Nat) (Ma_15 : Nat) (Ma_16 : Nat) (Ma_17 : Nat) (Ma_18 : Nat) (Ma_19 : Nat) (Ma_20 : Nat) (Mv_0 : Int32) (Mv_1 : Int32) (Mv_2 : Int32) (Mv_3 : Int32) (Mv_4 : Int32) (Mv_5 : Int32) (Mv_6 : Int32) (Mv_7 : Int32) (Mv_8 : Int32) (Mv_9 : Int32) (Mv_10 : Int32) (Mv_11 : Int32) (Mv_12 : Int32) (Mv_13 : Int32) (Mv_14 : Int32) (Mf_2 : Nat → Int32) (Mf_4 : Nat → Int32) (Mf_5 : Nat → Int32) (Mf_10 : Nat → Int32) (Mf_12 : Nat → Int32) (Mj_0 : Int64) (Mg_8 : Nat → Int64) (Mg_9 : Nat → Int64) (x1 : Int32) (h_said : SaidD T Mf_10 999) (h_kept : KeptD Mf_12) (h_rul : RulD Mf_2 Mf_4 Mf_5 Mv_1) (h_frc : -1 ≤ Mv_11.toInt ∧ Mv_11.toInt < Mv_1.toInt ∧ Mv_1.toInt ≤ 6) (h_n : 0 ≤ x1.toInt ∧ x1.toInt ≤ 1000) : Ct l yX12_soldIn cX12_soldIn 4 (some .int) { frames := 6, cells := 0, slots := 0, locals := 143 } D tc sk [.ref Ma_0, .int x1] [(Ma_0, .inr (12, [.ref Ma_1, .int Mv_0, .int Mv_1, .ref Ma_2, .ref Ma_3, .ref Ma_4, .ref Ma_5, .ref Ma_6, .int Mv_2, .int Mv_3, .int Mv_4, .int Mv_5, .int Mv_6, .int Mv_7, .int Mv_8, .ref Ma_7, .int Mv_9, .ref Ma_8, .int Mv_10, .ref Ma_9, .ref Ma_10, .int Mv_11, .int Mv_12, .int Mv_13, .ref Ma_11, .int Mv_14, .ref Ma_12, .ref Ma_13, .ref Ma_14, .ref Ma_15, .ref Ma_16, .long Mj_0, .ref Ma_17, .ref Ma_18, .ref Ma_19, .ref Ma_20])), (Ma_2, .inl (tc 0, 2400, .inl Mf_2)), (Ma_4, .inl (tc 0, 288, .inl Mf_4)), (Ma_5, .inl (tc 0, 6, .inl Mf_5)), (Ma_8, .inl (tc 1, 64, .inr (.inl Mg_8))), (Ma_9, .inl (tc 1, 13, .inr (.inl Mg_9))), (Ma_10, .inl (tc 0, 126, .inl Mf_10)), (Ma_12, .inl (tc 0, 46, .inl Mf_12))] (fun (v : Option Value) (u : (Int32) × (Nat → Int64) × (Nat → Int64) × (Nat → Int32)) => match u with | (oo0x1, oo0x2, oo0x3, oo0x4) => ∃ r : Int32, v = some (.int r) ∧ (True) ∧ (SaidD T oo0x4 999)) (fun (u : (Int32) × (Nat → Int64) × (Nat → Int64) × (Nat → Int32)) => match u with | (oo0x1, oo0x2, oo0x3, oo0x4) => [(Ma_0, .inr (12, [.ref Ma_1, .int Mv_0, .int Mv_1, .ref Ma_2, .ref Ma_3, .ref Ma_4, .ref Ma_5, .ref Ma_6, .int Mv_2, .int Mv_3, .int Mv_4, .int Mv_5, .int Mv_6, .int Mv_7, .int Mv_8, .ref Ma_7, .int Mv_9, .ref Ma_8, .int oo0x1, .ref Ma_9, .ref Ma_10, .int Mv_11, .int Mv_12, .int Mv_13, .ref Ma_11, .int Mv_14, .ref Ma_12, .ref Ma_13, .ref Ma_14, .ref Ma_15, .ref Ma_16, .long Mj_0, .ref Ma_17, .ref Ma_18, .ref Ma_19, .ref Ma_20])), (Ma_2, .inl (tc 0, 2400, .inl Mf_2)), (Ma_4, .inl (tc 0, 288, .inl Mf_4)), (Ma_5, .inl (tc 0, 6, .inl Mf_5)), (Ma_8, .inl (tc 1, 64, .inr (.inl oo0x2))), (Ma_9, .inl (tc 1, 13, .inr (.inl oo0x3))), (Ma_10, .inl (tc 0, 126, .inl oo0x4)), (Ma_12, .inl (tc 0, 46, .inl Mf_12))]) 0 0 :=
  ct_X12_soldIn l D tc sk (fun k => ([Ma_0, Ma_1, Ma_2, Ma_3, Ma_4, Ma_5, Ma_6, Ma_7, Ma_8, Ma_9, Ma_10, Ma_11, Ma_12, Ma_13, Ma_14, Ma_15, Ma_16, Ma_17, Ma_18, Ma_19, Ma_20] : List (Nat)).getD k 0) (fun k => ([Mv_0, Mv_1, Mv_2, Mv_3, Mv_4, Mv_5, Mv_6, Mv_7, Mv_8, Mv_9, Mv_10, Mv_11, Mv_12, Mv_13, Mv_14] : List (Int32)).getD k 0) (fun k => ([(fun _ => 0), (fun _ => 0), Mf_2, (fun _ => 0), Mf_4, Mf_5, (fun _ => 0), (fun _ => 0), (fun _ => 0), (fun _ => 0), Mf_10, (fun _ => 0), Mf_12] : List (Nat → Int32)).getD k (fun _ => 0)) (fun k => ([Mj_0] : List (Int64)).getD k 0) (fun k => ([(fun _ => 0), (fun _ => 0), (fun _ => 0), (fun _ => 0), (fun _ => 0), (fun _ => 0), (fun _ => 0), (fun _ => 0), Mg_8, Mg_9] : List (Nat → Int64)).getD k (fun _ => 0)) x1 h_said h_kept h_rul h_frc h_n
set_option maxHeartbeats 4000000 in
set_option maxRecDepth 100000 in
theorem ct_X12_least {T : Nat → Option Int32} (l : Launch) (D : va_G) (tc : Nat → ClassId) (sk : (Nat → Nat) × (Nat → Nat)) (Ma : Nat → Nat) (Mv : Nat → Int32) (Mf : Nat → Nat → Int32) (Mj : Nat → Int64) (Mg : Nat → Nat → Int64) (x1 : Int32) (x2 : Int32) (h_said : SaidD T (Mf 10) 999) (h_rul : RulD (Mf 2) (Mf 4) (Mf 5) (Mv 1)) (h_frc : -1 ≤ (Mv 11).toInt ∧ (Mv 11).toInt < (Mv 1).toInt ∧ (Mv 1).toInt ≤ 6) : Ct l yX12_least cX12_least 5 (some .int) { frames := 6, cells := 0, slots := 0, locals := 145 } D tc sk [.ref (Ma 0), .int x1, .int x2] [((Ma 0), .inr (12, [.ref (Ma 1), .int (Mv 0), .int (Mv 1), .ref (Ma 2), .ref (Ma 3), .ref (Ma 4), .ref (Ma 5), .ref (Ma 6), .int (Mv 2), .int (Mv 3), .int (Mv 4), .int (Mv 5), .int (Mv 6), .int (Mv 7), .int (Mv 8), .ref (Ma 7), .int (Mv 9), .ref (Ma 8), .int (Mv 10), .ref (Ma 9), .ref (Ma 10), .int (Mv 11), .int (Mv 12), .int (Mv 13), .ref (Ma 11), .int (Mv 14), .ref (Ma 12), .ref (Ma 13), .ref (Ma 14), .ref (Ma 15), .ref (Ma 16), .long (Mj 0), .ref (Ma 17), .ref (Ma 18), .ref (Ma 19), .ref (Ma 20)])), ((Ma 2), .inl (tc 0, 2400, .inl (Mf 2))), ((Ma 4), .inl (tc 0, 288, .inl (Mf 4))), ((Ma 5), .inl (tc 0, 6, .inl (Mf 5))), ((Ma 8), .inl (tc 1, 64, .inr (.inl (Mg 8)))), ((Ma 9), .inl (tc 1, 13, .inr (.inl (Mg 9)))), ((Ma 10), .inl (tc 0, 126, .inl (Mf 10))), ((Ma 12), .inl (tc 0, 46, .inl (Mf 12)))] (fun (v : Option Value) (u : (Int32) × (Nat → Int64) × (Nat → Int64) × (Nat → Int32) × (Nat → Int32)) => match u with | (oo0x1, oo0x2, oo0x3, oo0x4, oo0x5) => ∃ r : Int32, v = some (.int r) ∧ (True) ∧ (SaidD T oo0x4 999)) (fun (u : (Int32) × (Nat → Int64) × (Nat → Int64) × (Nat → Int32) × (Nat → Int32)) => match u with | (oo0x1, oo0x2, oo0x3, oo0x4, oo0x5) => [((Ma 0), .inr (12, [.ref (Ma 1), .int (Mv 0), .int (Mv 1), .ref (Ma 2), .ref (Ma 3), .ref (Ma 4), .ref (Ma 5), .ref (Ma 6), .int (Mv 2), .int (Mv 3), .int (Mv 4), .int (Mv 5), .int (Mv 6), .int (Mv 7), .int (Mv 8), .ref (Ma 7), .int (Mv 9), .ref (Ma 8), .int oo0x1, .ref (Ma 9), .ref (Ma 10), .int (Mv 11), .int (Mv 12), .int (Mv 13), .ref (Ma 11), .int (Mv 14), .ref (Ma 12), .ref (Ma 13), .ref (Ma 14), .ref (Ma 15), .ref (Ma 16), .long (Mj 0), .ref (Ma 17), .ref (Ma 18), .ref (Ma 19), .ref (Ma 20)])), ((Ma 2), .inl (tc 0, 2400, .inl (Mf 2))), ((Ma 4), .inl (tc 0, 288, .inl (Mf 4))), ((Ma 5), .inl (tc 0, 6, .inl (Mf 5))), ((Ma 8), .inl (tc 1, 64, .inr (.inl oo0x2))), ((Ma 9), .inl (tc 1, 13, .inr (.inl oo0x3))), ((Ma 10), .inl (tc 0, 126, .inl oo0x4)), ((Ma 12), .inl (tc 0, 46, .inl oo0x5))]) 0 0 := by
  refine Ct.start (by decide) (Nat.le_of_ble_eq_true rfl) (fun p e s m below meth c A ls hx hb hr hlk hin hml hown hts hK hX hP hD hA hl hS => ?_)
  have hl : lv_has ls 5 [(0, .ref (Ma 0)), (1, .int x1), (2, .int x2)] := hl
  have ar_h_said := SaidD.al h_said
  refine lv_aload_n hx hb dX12_least_0 rfl (lv_at hl 0 rfl) ?_
  refine lv_iload_n hx hb dX12_least_1 rfl (lv_at hl 1 rfl) ?_
  refine cV (a := (Ma 0)) (As := [.int x1]) (rest := []) (wr := [((Ma 2), .inl (tc 0, 2400, .inl (Mf 2))), ((Ma 4), .inl (tc 0, 288, .inl (Mf 4))), ((Ma 5), .inl (tc 0, 6, .inl (Mf 5))), ((Ma 8), .inl (tc 1, 64, .inr (.inl (Mg 8)))), ((Ma 9), .inl (tc 1, 13, .inr (.inl (Mg 9)))), ((Ma 12), .inl (tc 0, 46, .inl (Mf 12)))]) ⟨hx, hb, hml, hown, hts⟩ hK hX hA (cu_X12_isBuyer l D tc sk (Ma 0) (Ma 1) (Ma 2) (Ma 3) (Ma 4) (Ma 5) (Ma 6) (Ma 7) (Ma 8) (Ma 9) (Ma 10) (Ma 11) (Ma 12) (Ma 13) (Ma 14) (Ma 15) (Ma 16) (Ma 17) (Ma 18) (Ma 19) (Ma 20) (Mv 0) (Mv 1) (Mv 2) (Mv 3) (Mv 4) (Mv 5) (Mv 6) (Mv 7) (Mv 8) (Mv 9) (Mv 10) (Mv 11) (Mv 12) (Mv 13) (Mv 14) (Mf 10) (Mj 0) x1 h_said.1) k_1375 k_1372 k_1374 k_58 k_106 pl_X12_isBuyer ⟨Nat.le_of_ble_eq_true rfl, Nat.le_of_ble_eq_true rfl⟩ rfl rfl (va_recv hK hP (ci := 12) (q0 := 0) rfl rfl) hP hD hS [0, 6] [1, 2, 3, 4, 5, 7] rfl rfl rfl rfl rfl (by decide) rfl hl.1 rfl (Nat.le_of_ble_eq_true rfl) dX12_least_2 ⟨Nat.le_of_ble_eq_true rfl, Nat.le_of_ble_eq_true rfl⟩ (fun v_1 u_2 H locs hv_3 hP₀ hD₀ hS₀ => ?_)
  obtain ⟨r_4, rfl, he_5⟩ := hv_3
  have he_5 : (r_4.toInt = 0 ∨ (r_4.toInt = 1 ∧ 0 ≤ x1.toInt ∧ x1.toInt < ((Mf 10) 3).toInt)) := he_5
  refine W.eq (g2 := F0 m 5 ls [.int r_4]) rfl ?_
  replace hP : va_P D classes [((Ma 2), .inl (tc 0, 2400, .inl (Mf 2))), ((Ma 4), .inl (tc 0, 288, .inl (Mf 4))), ((Ma 5), .inl (tc 0, 6, .inl (Mf 5))), ((Ma 8), .inl (tc 1, 64, .inr (.inl (Mg 8)))), ((Ma 9), .inl (tc 1, 13, .inr (.inl (Mg 9)))), ((Ma 12), .inl (tc 0, 46, .inl (Mf 12))), ((Ma 0), .inr (12, [.ref (Ma 1), .int (Mv 0), .int (Mv 1), .ref (Ma 2), .ref (Ma 3), .ref (Ma 4), .ref (Ma 5), .ref (Ma 6), .int (Mv 2), .int (Mv 3), .int (Mv 4), .int (Mv 5), .int (Mv 6), .int (Mv 7), .int (Mv 8), .ref (Ma 7), .int (Mv 9), .ref (Ma 8), .int (Mv 10), .ref (Ma 9), .ref (Ma 10), .int (Mv 11), .int (Mv 12), .int (Mv 13), .ref (Ma 11), .int (Mv 14), .ref (Ma 12), .ref (Ma 13), .ref (Ma 14), .ref (Ma 15), .ref (Ma 16), .long (Mj 0), .ref (Ma 17), .ref (Ma 18), .ref (Ma 19), .ref (Ma 20)])), ((Ma 10), .inl (tc 0, 126, .inl (Mf 10)))] H := hP₀
  replace hD : va_D A [((Ma 2), .inl (tc 0, 2400, .inl (Mf 2))), ((Ma 4), .inl (tc 0, 288, .inl (Mf 4))), ((Ma 5), .inl (tc 0, 6, .inl (Mf 5))), ((Ma 8), .inl (tc 1, 64, .inr (.inl (Mg 8)))), ((Ma 9), .inl (tc 1, 13, .inr (.inl (Mg 9)))), ((Ma 12), .inl (tc 0, 46, .inl (Mf 12))), ((Ma 0), .inr (12, [.ref (Ma 1), .int (Mv 0), .int (Mv 1), .ref (Ma 2), .ref (Ma 3), .ref (Ma 4), .ref (Ma 5), .ref (Ma 6), .int (Mv 2), .int (Mv 3), .int (Mv 4), .int (Mv 5), .int (Mv 6), .int (Mv 7), .int (Mv 8), .ref (Ma 7), .int (Mv 9), .ref (Ma 8), .int (Mv 10), .ref (Ma 9), .ref (Ma 10), .int (Mv 11), .int (Mv 12), .int (Mv 13), .ref (Ma 11), .int (Mv 14), .ref (Ma 12), .ref (Ma 13), .ref (Ma 14), .ref (Ma 15), .ref (Ma 16), .long (Mj 0), .ref (Ma 17), .ref (Ma 18), .ref (Ma 19), .ref (Ma 20)])), ((Ma 10), .inl (tc 0, 126, .inl (Mf 10)))] := hD₀
  replace hS := hS₀
  clear hP₀ hD₀ hS₀
  refine lv_if_eq (tgt := 20) hx hb dX12_least_5 (by decide) (fun c_7 => ?_) (fun c_7 => ?_)
  · skip
    refine lv_iconst (v := (-1)) hx hb dX12_least_20 (by decide) ?_
    exact retI (v := (-1)) hx hb hr hlk (rfl) hP hD hS ((Mv 10), (Mg 8), (Mg 9), (Mf 10), (Mf 12)) ⟨_, rfl, trivial, h_said⟩ [6, 0, 1, 2, 3, 4, 7, 5] rfl rfl dX12_least_21 (Nat.le_of_ble_eq_true rfl) (Nat.le_of_ble_eq_true rfl) rfl
  · skip
    refine lv_iload_n hx hb dX12_least_8 rfl (lv_at hl 2 rfl) ?_
    refine lv_i2l (v := (x2).toInt64) hx hb dX12_least_9 rfl ?_
    refine lv_lconst (v := 1) hx hb dX12_least_10 (by decide) ?_
    refine lv_ldc2 hx hb hown (hts _ k_1553) dX12_least_11 ?_
    refine cS (As := [.long (x2).toInt64, .long 1, .long 60]) (rest := []) (wr := [((Ma 2), .inl (tc 0, 2400, .inl (Mf 2))), ((Ma 4), .inl (tc 0, 288, .inl (Mf 4))), ((Ma 5), .inl (tc 0, 6, .inl (Mf 5))), ((Ma 8), .inl (tc 1, 64, .inr (.inl (Mg 8)))), ((Ma 9), .inl (tc 1, 13, .inr (.inl (Mg 9)))), ((Ma 12), .inl (tc 0, 46, .inl (Mf 12))), ((Ma 0), .inr (12, [.ref (Ma 1), .int (Mv 0), .int (Mv 1), .ref (Ma 2), .ref (Ma 3), .ref (Ma 4), .ref (Ma 5), .ref (Ma 6), .int (Mv 2), .int (Mv 3), .int (Mv 4), .int (Mv 5), .int (Mv 6), .int (Mv 7), .int (Mv 8), .ref (Ma 7), .int (Mv 9), .ref (Ma 8), .int (Mv 10), .ref (Ma 9), .ref (Ma 10), .int (Mv 11), .int (Mv 12), .int (Mv 13), .ref (Ma 11), .int (Mv 14), .ref (Ma 12), .ref (Ma 13), .ref (Ma 14), .ref (Ma 15), .ref (Ma 16), .long (Mj 0), .ref (Ma 17), .ref (Ma 18), .ref (Ma 19), .ref (Ma 20)])), ((Ma 10), .inl (tc 0, 126, .inl (Mf 10)))]) ⟨hx, hb, hml, hown, hts⟩ hK hX hA (ct_X12_in l D tc sk ((x2).toInt64) 1 60) k_1259 k_1257 k_1258 k_106 pl_X12_in ⟨Nat.le_of_ble_eq_true rfl, Nat.le_of_ble_eq_true rfl⟩ rfl rfl  hP hD hS [] [0, 1, 2, 3, 4, 5, 6, 7] rfl rfl rfl rfl rfl (by decide) rfl hl.1 rfl (Nat.le_of_ble_eq_true rfl) dX12_least_14 ⟨Nat.le_of_ble_eq_true rfl, Nat.le_of_ble_eq_true rfl⟩ (fun v_8 u_9 H locs hv_10 hP₀ hD₀ hS₀ => ?_)
    obtain ⟨r_11, rfl, he_12⟩ := hv_10
    have he_12 : (r_11.toInt = 0 ∨ (r_11.toInt = 1 ∧ (1 : Int64).toInt ≤ (x2).toInt64.toInt ∧ (x2).toInt64.toInt ≤ (60 : Int64).toInt)) := he_12
    refine W.eq (g2 := F0 m 17 ls [.int r_11]) rfl ?_
    replace hP : va_P D classes [((Ma 2), .inl (tc 0, 2400, .inl (Mf 2))), ((Ma 4), .inl (tc 0, 288, .inl (Mf 4))), ((Ma 5), .inl (tc 0, 6, .inl (Mf 5))), ((Ma 8), .inl (tc 1, 64, .inr (.inl (Mg 8)))), ((Ma 9), .inl (tc 1, 13, .inr (.inl (Mg 9)))), ((Ma 12), .inl (tc 0, 46, .inl (Mf 12))), ((Ma 0), .inr (12, [.ref (Ma 1), .int (Mv 0), .int (Mv 1), .ref (Ma 2), .ref (Ma 3), .ref (Ma 4), .ref (Ma 5), .ref (Ma 6), .int (Mv 2), .int (Mv 3), .int (Mv 4), .int (Mv 5), .int (Mv 6), .int (Mv 7), .int (Mv 8), .ref (Ma 7), .int (Mv 9), .ref (Ma 8), .int (Mv 10), .ref (Ma 9), .ref (Ma 10), .int (Mv 11), .int (Mv 12), .int (Mv 13), .ref (Ma 11), .int (Mv 14), .ref (Ma 12), .ref (Ma 13), .ref (Ma 14), .ref (Ma 15), .ref (Ma 16), .long (Mj 0), .ref (Ma 17), .ref (Ma 18), .ref (Ma 19), .ref (Ma 20)])), ((Ma 10), .inl (tc 0, 126, .inl (Mf 10)))] H := hP₀
    replace hD : va_D A [((Ma 2), .inl (tc 0, 2400, .inl (Mf 2))), ((Ma 4), .inl (tc 0, 288, .inl (Mf 4))), ((Ma 5), .inl (tc 0, 6, .inl (Mf 5))), ((Ma 8), .inl (tc 1, 64, .inr (.inl (Mg 8)))), ((Ma 9), .inl (tc 1, 13, .inr (.inl (Mg 9)))), ((Ma 12), .inl (tc 0, 46, .inl (Mf 12))), ((Ma 0), .inr (12, [.ref (Ma 1), .int (Mv 0), .int (Mv 1), .ref (Ma 2), .ref (Ma 3), .ref (Ma 4), .ref (Ma 5), .ref (Ma 6), .int (Mv 2), .int (Mv 3), .int (Mv 4), .int (Mv 5), .int (Mv 6), .int (Mv 7), .int (Mv 8), .ref (Ma 7), .int (Mv 9), .ref (Ma 8), .int (Mv 10), .ref (Ma 9), .ref (Ma 10), .int (Mv 11), .int (Mv 12), .int (Mv 13), .ref (Ma 11), .int (Mv 14), .ref (Ma 12), .ref (Ma 13), .ref (Ma 14), .ref (Ma 15), .ref (Ma 16), .long (Mj 0), .ref (Ma 17), .ref (Ma 18), .ref (Ma 19), .ref (Ma 20)])), ((Ma 10), .inl (tc 0, 126, .inl (Mf 10)))] := hD₀
    replace hS := hS₀
    clear hP₀ hD₀ hS₀
    have yl_he_12_1 : (1 : Int64).toInt = 1 := by decide
    have yl_he_12_60 : (60 : Int64).toInt = 60 := by decide
    simp only [i32_64] at he_12
    refine lv_if_ne (tgt := 22) hx hb dX12_least_17 (by decide) (fun c_14 => ?_) (fun c_14 => ?_)
    · skip
      refine lv_bipush (v := (-2)) hx hb dX12_least_22 (by decide) ?_
      refine lv_istore_n (lv' := [(3, .int (-2)), (0, .ref (Ma 0)), (1, .int x1), (2, .int x2)]) hx hb dX12_least_24 rfl hl (by decide) rfl (fun ls hl₀ => ?_)
      replace hl := hl₀
      clear hl₀
      refine lv_aload_n hx hb dX12_least_25 rfl (lv_at hl 1 rfl) ?_
      refine cV (a := (Ma 0)) (As := []) (rest := []) (wr := [((Ma 2), .inl (tc 0, 2400, .inl (Mf 2))), ((Ma 4), .inl (tc 0, 288, .inl (Mf 4))), ((Ma 5), .inl (tc 0, 6, .inl (Mf 5))), ((Ma 8), .inl (tc 1, 64, .inr (.inl (Mg 8)))), ((Ma 9), .inl (tc 1, 13, .inr (.inl (Mg 9))))]) ⟨hx, hb, hml, hown, hts⟩ hK hX hA (cu_X12_keeps l D tc sk (Ma 0) (Ma 1) (Ma 2) (Ma 3) (Ma 4) (Ma 5) (Ma 6) (Ma 7) (Ma 8) (Ma 9) (Ma 10) (Ma 11) (Ma 12) (Ma 13) (Ma 14) (Ma 15) (Ma 16) (Ma 17) (Ma 18) (Ma 19) (Ma 20) (Mv 0) (Mv 1) (Mv 2) (Mv 3) (Mv 4) (Mv 5) (Mv 6) (Mv 7) (Mv 8) (Mv 9) (Mv 10) (Mv 11) (Mv 12) (Mv 13) (Mv 14) (Mf 10) (Mf 12) (Mj 0) h_said) k_1505 k_1502 k_1504 k_80 k_106 pl_X12_keeps ⟨Nat.le_of_ble_eq_true rfl, Nat.le_of_ble_eq_true rfl⟩ rfl rfl (va_recv hK hP (ci := 12) (q0 := 6) rfl rfl) hP hD hS [6, 7, 5] [0, 1, 2, 3, 4] rfl rfl rfl rfl rfl (by decide) rfl hl.1 rfl (Nat.le_of_ble_eq_true rfl) dX12_least_26 ⟨Nat.le_of_ble_eq_true rfl, Nat.le_of_ble_eq_true rfl⟩ (fun v_15 u_16 H locs hv_17 hP₀ hD₀ hS₀ => ?_)
      obtain ⟨sv_18, rfl⟩ : ∃ z, z = u_16 := ⟨_, rfl⟩
      obtain ⟨rfl, pf_19⟩ := hv_17
      have pf_19 : KeptD sv_18 := pf_19
      refine W.eq (g2 := F0 m 29 ls []) rfl ?_
      replace hP : va_P D classes [((Ma 2), .inl (tc 0, 2400, .inl (Mf 2))), ((Ma 4), .inl (tc 0, 288, .inl (Mf 4))), ((Ma 5), .inl (tc 0, 6, .inl (Mf 5))), ((Ma 8), .inl (tc 1, 64, .inr (.inl (Mg 8)))), ((Ma 9), .inl (tc 1, 13, .inr (.inl (Mg 9)))), ((Ma 0), .inr (12, [.ref (Ma 1), .int (Mv 0), .int (Mv 1), .ref (Ma 2), .ref (Ma 3), .ref (Ma 4), .ref (Ma 5), .ref (Ma 6), .int (Mv 2), .int (Mv 3), .int (Mv 4), .int (Mv 5), .int (Mv 6), .int (Mv 7), .int (Mv 8), .ref (Ma 7), .int (Mv 9), .ref (Ma 8), .int (Mv 10), .ref (Ma 9), .ref (Ma 10), .int (Mv 11), .int (Mv 12), .int (Mv 13), .ref (Ma 11), .int (Mv 14), .ref (Ma 12), .ref (Ma 13), .ref (Ma 14), .ref (Ma 15), .ref (Ma 16), .long (Mj 0), .ref (Ma 17), .ref (Ma 18), .ref (Ma 19), .ref (Ma 20)])), ((Ma 10), .inl (tc 0, 126, .inl (Mf 10))), ((Ma 12), .inl (tc 0, 46, .inl sv_18))] H := hP₀
      replace hD : va_D A [((Ma 2), .inl (tc 0, 2400, .inl (Mf 2))), ((Ma 4), .inl (tc 0, 288, .inl (Mf 4))), ((Ma 5), .inl (tc 0, 6, .inl (Mf 5))), ((Ma 8), .inl (tc 1, 64, .inr (.inl (Mg 8)))), ((Ma 9), .inl (tc 1, 13, .inr (.inl (Mg 9)))), ((Ma 0), .inr (12, [.ref (Ma 1), .int (Mv 0), .int (Mv 1), .ref (Ma 2), .ref (Ma 3), .ref (Ma 4), .ref (Ma 5), .ref (Ma 6), .int (Mv 2), .int (Mv 3), .int (Mv 4), .int (Mv 5), .int (Mv 6), .int (Mv 7), .int (Mv 8), .ref (Ma 7), .int (Mv 9), .ref (Ma 8), .int (Mv 10), .ref (Ma 9), .ref (Ma 10), .int (Mv 11), .int (Mv 12), .int (Mv 13), .ref (Ma 11), .int (Mv 14), .ref (Ma 12), .ref (Ma 13), .ref (Ma 14), .ref (Ma 15), .ref (Ma 16), .long (Mj 0), .ref (Ma 17), .ref (Ma 18), .ref (Ma 19), .ref (Ma 20)])), ((Ma 10), .inl (tc 0, 126, .inl (Mf 10))), ((Ma 12), .inl (tc 0, 46, .inl sv_18))] := hD₀
      replace hS := hS₀
      clear hP₀ hD₀ hS₀
      refine lv_iconst (v := 0) hx hb dX12_least_29 (by decide) ?_
      refine lv_istore (lv' := [(4, .int 0), (3, .int (-2)), (0, .ref (Ma 0)), (1, .int x1), (2, .int x2)]) hx hb dX12_least_30 hl (by decide) rfl (fun ls hl₀ => ?_)
      replace hl := hl₀
      clear hl₀
      have loop_34 : ∀ (n_32 : Nat) (vy_26 : Int32) (vy_27 : Nat → Int64) (vy_28 : Nat → Int64) (vy_29 : Int32) (vy_30 : Nat → Int32) (vy_31 : Int32) (H : Heap) (locs : List Loc) (ls : Array Slot), (21 - (vy_26 : Int32).toInt).toNat < n_32 → (0 ≤ (vy_26 : Int32).toInt) → (SaidD T vy_30 999) → va_P D classes [((Ma 2), .inl (tc 0, 2400, .inl (Mf 2))), ((Ma 4), .inl (tc 0, 288, .inl (Mf 4))), ((Ma 5), .inl (tc 0, 6, .inl (Mf 5))), ((Ma 8), .inl (tc 1, 64, .inr (.inl vy_27))), ((Ma 9), .inl (tc 1, 13, .inr (.inl vy_28))), ((Ma 0), .inr (12, [.ref (Ma 1), .int (Mv 0), .int (Mv 1), .ref (Ma 2), .ref (Ma 3), .ref (Ma 4), .ref (Ma 5), .ref (Ma 6), .int (Mv 2), .int (Mv 3), .int (Mv 4), .int (Mv 5), .int (Mv 6), .int (Mv 7), .int (Mv 8), .ref (Ma 7), .int (Mv 9), .ref (Ma 8), .int vy_29, .ref (Ma 9), .ref (Ma 10), .int (Mv 11), .int (Mv 12), .int (Mv 13), .ref (Ma 11), .int (Mv 14), .ref (Ma 12), .ref (Ma 13), .ref (Ma 14), .ref (Ma 15), .ref (Ma 16), .long (Mj 0), .ref (Ma 17), .ref (Ma 18), .ref (Ma 19), .ref (Ma 20)])), ((Ma 10), .inl (tc 0, 126, .inl vy_30)), ((Ma 12), .inl (tc 0, 46, .inl sv_18))] H → va_D A [((Ma 2), .inl (tc 0, 2400, .inl (Mf 2))), ((Ma 4), .inl (tc 0, 288, .inl (Mf 4))), ((Ma 5), .inl (tc 0, 6, .inl (Mf 5))), ((Ma 8), .inl (tc 1, 64, .inr (.inl vy_27))), ((Ma 9), .inl (tc 1, 13, .inr (.inl vy_28))), ((Ma 0), .inr (12, [.ref (Ma 1), .int (Mv 0), .int (Mv 1), .ref (Ma 2), .ref (Ma 3), .ref (Ma 4), .ref (Ma 5), .ref (Ma 6), .int (Mv 2), .int (Mv 3), .int (Mv 4), .int (Mv 5), .int (Mv 6), .int (Mv 7), .int (Mv 8), .ref (Ma 7), .int (Mv 9), .ref (Ma 8), .int vy_29, .ref (Ma 9), .ref (Ma 10), .int (Mv 11), .int (Mv 12), .int (Mv 13), .ref (Ma 11), .int (Mv 14), .ref (Ma 12), .ref (Ma 13), .ref (Ma 14), .ref (Ma 15), .ref (Ma 16), .long (Mj 0), .ref (Ma 17), .ref (Ma 18), .ref (Ma 19), .ref (Ma 20)])), ((Ma 10), .inl (tc 0, 126, .inl vy_30)), ((Ma 12), .inl (tc 0, 46, .inl sv_18))] → va_S A s.heap H locs → lv_has ls 5 [(4, .int vy_26), (3, .int vy_31), (0, .ref (Ma 0)), (1, .int x1), (2, .int x2)] → W p l e ({ frames := 6, cells := 0, slots := 0, locals := 145 }) s m ([.ref (Ma 0), .int x1, .int x2].toArray) below meth c H locs 0 0 (MQ below (QW (fun (v : Option Value) (u : (Int32) × (Nat → Int64) × (Nat → Int64) × (Nat → Int32) × (Nat → Int32)) => match u with | (oo0x1, oo0x2, oo0x3, oo0x4, oo0x5) => ∃ r : Int32, v = some (.int r) ∧ (True) ∧ (SaidD T oo0x4 999)) (BW D (fun (u : (Int32) × (Nat → Int64) × (Nat → Int64) × (Nat → Int32) × (Nat → Int32)) => match u with | (oo0x1, oo0x2, oo0x3, oo0x4, oo0x5) => [((Ma 0), .inr (12, [.ref (Ma 1), .int (Mv 0), .int (Mv 1), .ref (Ma 2), .ref (Ma 3), .ref (Ma 4), .ref (Ma 5), .ref (Ma 6), .int (Mv 2), .int (Mv 3), .int (Mv 4), .int (Mv 5), .int (Mv 6), .int (Mv 7), .int (Mv 8), .ref (Ma 7), .int (Mv 9), .ref (Ma 8), .int oo0x1, .ref (Ma 9), .ref (Ma 10), .int (Mv 11), .int (Mv 12), .int (Mv 13), .ref (Ma 11), .int (Mv 14), .ref (Ma 12), .ref (Ma 13), .ref (Ma 14), .ref (Ma 15), .ref (Ma 16), .long (Mj 0), .ref (Ma 17), .ref (Ma 18), .ref (Ma 19), .ref (Ma 20)])), ((Ma 2), .inl (tc 0, 2400, .inl (Mf 2))), ((Ma 4), .inl (tc 0, 288, .inl (Mf 4))), ((Ma 5), .inl (tc 0, 6, .inl (Mf 5))), ((Ma 8), .inl (tc 1, 64, .inr (.inl oo0x2))), ((Ma 9), .inl (tc 1, 13, .inr (.inl oo0x3))), ((Ma 10), .inl (tc 0, 126, .inl oo0x4)), ((Ma 12), .inl (tc 0, 46, .inl oo0x5))]) A) A) ([.ref (Ma 0), .int x1, .int x2].toArray) s 0 0 A) (F0 m 32 ls []) := by
        clear hP hD hS hl
        intro n_32
        induction n_32 with
        | zero =>
          intro vy_26 vy_27 vy_28 vy_29 vy_30 vy_31 H locs ls h1
          exact absurd h1 (Nat.not_lt_zero _)
        | succ n_32 ih_33 =>
          intro vy_26 vy_27 vy_28 vy_29 vy_30 vy_31 H locs ls hn_37 pf_35 pf_36 hP hD hS hl
          have ar_pf_36 := SaidD.al pf_36
          refine lv_iload hx hb dX12_least_32 (lv_at hl 0 rfl) ?_
          refine lv_bipush (v := 20) hx hb dX12_least_34 (by decide) ?_
          refine lv_icmp_gt (tgt := 74) hx hb dX12_least_36 (by decide) (fun c_38 => ?_) (fun c_38 => ?_)
          · skip
            refine lv_iload_n hx hb dX12_least_74 rfl (lv_at hl 1 rfl) ?_
            exact retI (v := vy_31) hx hb hr hlk (rfl) hP hD hS (vy_29, vy_27, vy_28, vy_30, sv_18) ⟨_, rfl, trivial, pf_36⟩ [5, 0, 1, 2, 3, 4, 6, 7] rfl rfl dX12_least_75 (Nat.le_of_ble_eq_true rfl) (Nat.le_of_ble_eq_true rfl) rfl
          · skip
            refine lv_iload_n hx hb dX12_least_39 rfl (lv_at hl 1 rfl) ?_
            refine lv_if_ge (tgt := 74) hx hb dX12_least_40 (by decide) (fun c_39 => ?_) (fun c_39 => ?_)
            · skip
              refine lv_iload_n hx hb dX12_least_74 rfl (lv_at hl 1 rfl) ?_
              exact retI (v := vy_31) hx hb hr hlk (rfl) hP hD hS (vy_29, vy_27, vy_28, vy_30, sv_18) ⟨_, rfl, trivial, pf_36⟩ [5, 0, 1, 2, 3, 4, 6, 7] rfl rfl dX12_least_75 (Nat.le_of_ble_eq_true rfl) (Nat.le_of_ble_eq_true rfl) rfl
            · skip
              refine lv_aload_n hx hb dX12_least_43 rfl (lv_at hl 2 rfl) ?_
              refine gf_X12_39 hx hb hts hown hK hP 5 rfl rfl dX12_least_44 ?_
              refine lv_bipush (v := 12) hx hb dX12_least_47 (by decide) ?_
              refine lv_iconst (v := 4) hx hb dX12_least_49 (by decide) ?_
              refine lv_iload_n hx hb dX12_least_50 rfl (lv_at hl 3 rfl) ?_
              refine lv_imul hx hb dX12_least_51 ?_
              refine lv_topi (fun x_40 ex_40 => ?_)
              refine lv_iadd hx hb dX12_least_52 ?_
              refine lv_topi (fun x_41 ex_41 => ?_)
              refine lv_iload hx hb dX12_least_53 (lv_at hl 0 rfl) ?_
              have hi_42 : vp_in x_41 126 := by
                have z_1 : ¬ (r_4 : Int32).toInt = (0 : Int32).toInt := fun z => c_7 (Int32.toInt_inj.mp z)
                have z_2 : ¬ (r_11 : Int32).toInt = (0 : Int32).toInt := fun z => c_14 (Int32.toInt_inj.mp z)
                have z_3 := Int32.le_iff_toInt_le.mp (Int32.not_lt.mp c_38)
                have z_4 := Int32.lt_iff_toInt_lt.mp (Int32.not_le.mp c_39)
                have y_0 : (0 : Int32).toInt = 0 := by decide
                have y_20 : (20 : Int32).toInt = 20 := by decide
                have y_4 : (4 : Int32).toInt = 4 := by decide
                have y_12 : (12 : Int32).toInt = 12 := by decide
                have t_x_40 : x_40.toInt = (4 : Int32).toInt * (x1 : Int32).toInt := by rw [ex_40]; exact mul_toInt (by first | omega | (rw [y_4]; omega)) (by first | omega | (rw [y_4]; omega))
                rw [y_4] at t_x_40
                have t_x_41 : x_41.toInt = (12 : Int32).toInt + (x_40 : Int32).toInt := by rw [ex_41]; exact add_toInt (by omega) (by omega)
                refine vp_in_iff.mpr ⟨?_, ?_⟩ <;> omega
              refine st_int hx hb hK hP hD hS 6 0 rfl rfl hi_42 dX12_least_55 (fun g_43 H locs eg_43 hP₀ hD₀ hS₀ => ?_)
              replace hP : va_P D classes [((Ma 2), .inl (tc 0, 2400, .inl (Mf 2))), ((Ma 4), .inl (tc 0, 288, .inl (Mf 4))), ((Ma 5), .inl (tc 0, 6, .inl (Mf 5))), ((Ma 8), .inl (tc 1, 64, .inr (.inl vy_27))), ((Ma 9), .inl (tc 1, 13, .inr (.inl vy_28))), ((Ma 0), .inr (12, [.ref (Ma 1), .int (Mv 0), .int (Mv 1), .ref (Ma 2), .ref (Ma 3), .ref (Ma 4), .ref (Ma 5), .ref (Ma 6), .int (Mv 2), .int (Mv 3), .int (Mv 4), .int (Mv 5), .int (Mv 6), .int (Mv 7), .int (Mv 8), .ref (Ma 7), .int (Mv 9), .ref (Ma 8), .int vy_29, .ref (Ma 9), .ref (Ma 10), .int (Mv 11), .int (Mv 12), .int (Mv 13), .ref (Ma 11), .int (Mv 14), .ref (Ma 12), .ref (Ma 13), .ref (Ma 14), .ref (Ma 15), .ref (Ma 16), .long (Mj 0), .ref (Ma 17), .ref (Ma 18), .ref (Ma 19), .ref (Ma 20)])), ((Ma 10), .inl (tc 0, 126, .inl g_43)), ((Ma 12), .inl (tc 0, 46, .inl sv_18))] H := hP₀
              replace hD : va_D A [((Ma 2), .inl (tc 0, 2400, .inl (Mf 2))), ((Ma 4), .inl (tc 0, 288, .inl (Mf 4))), ((Ma 5), .inl (tc 0, 6, .inl (Mf 5))), ((Ma 8), .inl (tc 1, 64, .inr (.inl vy_27))), ((Ma 9), .inl (tc 1, 13, .inr (.inl vy_28))), ((Ma 0), .inr (12, [.ref (Ma 1), .int (Mv 0), .int (Mv 1), .ref (Ma 2), .ref (Ma 3), .ref (Ma 4), .ref (Ma 5), .ref (Ma 6), .int (Mv 2), .int (Mv 3), .int (Mv 4), .int (Mv 5), .int (Mv 6), .int (Mv 7), .int (Mv 8), .ref (Ma 7), .int (Mv 9), .ref (Ma 8), .int vy_29, .ref (Ma 9), .ref (Ma 10), .int (Mv 11), .int (Mv 12), .int (Mv 13), .ref (Ma 11), .int (Mv 14), .ref (Ma 12), .ref (Ma 13), .ref (Ma 14), .ref (Ma 15), .ref (Ma 16), .long (Mj 0), .ref (Ma 17), .ref (Ma 18), .ref (Ma 19), .ref (Ma 20)])), ((Ma 10), .inl (tc 0, 126, .inl g_43)), ((Ma 12), .inl (tc 0, 46, .inl sv_18))] := hD₀
              replace hS := hS₀
              clear hP₀ hD₀ hS₀
              have hx_45 : 11 ≤ (x_41 : Int32).toNatClampNeg ∧ (x_41 : Int32).toNatClampNeg < 56 := by
                have z_1 : ¬ (r_4 : Int32).toInt = (0 : Int32).toInt := fun z => c_7 (Int32.toInt_inj.mp z)
                have z_2 : ¬ (r_11 : Int32).toInt = (0 : Int32).toInt := fun z => c_14 (Int32.toInt_inj.mp z)
                have z_3 := Int32.le_iff_toInt_le.mp (Int32.not_lt.mp c_38)
                have z_4 := Int32.lt_iff_toInt_lt.mp (Int32.not_le.mp c_39)
                have y_0 : (0 : Int32).toInt = 0 := by decide
                have y_20 : (20 : Int32).toInt = 20 := by decide
                have y_4 : (4 : Int32).toInt = 4 := by decide
                have y_12 : (12 : Int32).toInt = 12 := by decide
                have t_x_40 : x_40.toInt = (4 : Int32).toInt * (x1 : Int32).toInt := by rw [ex_40]; exact mul_toInt (by first | omega | (rw [y_4]; omega)) (by first | omega | (rw [y_4]; omega))
                rw [y_4] at t_x_40
                have t_x_41 : x_41.toInt = (12 : Int32).toInt + (x_40 : Int32).toInt := by rw [ex_41]; exact add_toInt (by omega) (by omega)
                have hcl : (x_41 : Int32).toNatClampNeg = (x_41 : Int32).toInt.toNat := rfl
                omega
              have pf_44 : SaidD T g_43 999 := SaidD.keep pf_36 eg_43 hx_45
              have ar_pf_44 := SaidD.al pf_44
              refine lv_aload_n hx hb dX12_least_56 rfl (lv_at hl 2 rfl) ?_
              refine lv_iload_n hx hb dX12_least_57 rfl (lv_at hl 3 rfl) ?_
              refine lv_iload_n hx hb dX12_least_58 rfl (lv_at hl 4 rfl) ?_
              have ha_46 : 0 ≤ x2.toInt ∧ x2.toInt ≤ 1000 := by
                have z_1 : ¬ (r_4 : Int32).toInt = (0 : Int32).toInt := fun z => c_7 (Int32.toInt_inj.mp z)
                have z_2 : ¬ (r_11 : Int32).toInt = (0 : Int32).toInt := fun z => c_14 (Int32.toInt_inj.mp z)
                have z_3 := Int32.le_iff_toInt_le.mp (Int32.not_lt.mp c_38)
                have z_4 := Int32.lt_iff_toInt_lt.mp (Int32.not_le.mp c_39)
                have y_0 : (0 : Int32).toInt = 0 := by decide
                have y_20 : (20 : Int32).toInt = 20 := by decide
                refine ⟨?_, ?_⟩ <;> omega
              refine cV (a := (Ma 0)) (As := [.int x1, .int x2]) (rest := []) (wr := []) ⟨hx, hb, hml, hown, hts⟩ hK hX hA (cu_X12_buysIn l D tc sk (Ma 0) (Ma 1) (Ma 2) (Ma 3) (Ma 4) (Ma 5) (Ma 6) (Ma 7) (Ma 8) (Ma 9) (Ma 10) (Ma 11) (Ma 12) (Ma 13) (Ma 14) (Ma 15) (Ma 16) (Ma 17) (Ma 18) (Ma 19) (Ma 20) (Mv 0) (Mv 1) (Mv 2) (Mv 3) (Mv 4) (Mv 5) (Mv 6) (Mv 7) (Mv 8) (Mv 9) vy_29 (Mv 11) (Mv 12) (Mv 13) (Mv 14) (Mf 2) (Mf 4) (Mf 5) g_43 sv_18 (Mj 0) vy_27 vy_28 x1 x2 pf_44 pf_19 h_rul h_frc ha_46) k_1521 k_1518 k_1520 k_83 k_106 pl_X12_buysIn ⟨Nat.le_of_ble_eq_true rfl, Nat.le_of_ble_eq_true rfl⟩ rfl rfl (va_recv hK hP (ci := 12) (q0 := 5) rfl rfl) hP hD hS [5, 0, 1, 2, 3, 4, 6, 7] [] rfl rfl rfl rfl rfl (by decide) rfl hl.1 rfl (Nat.le_of_ble_eq_true rfl) dX12_least_59 ⟨Nat.le_of_ble_eq_true rfl, Nat.le_of_ble_eq_true rfl⟩ (fun v_47 u_48 H locs hv_49 hP₀ hD₀ hS₀ => ?_)
              obtain ⟨sv_50, sv_51, sv_52, sv_53⟩ := u_48
              obtain ⟨r_55, rfl, he_56, pf_54⟩ := hv_49
              have pf_54 : SaidD T sv_53 999 := pf_54
              have ar_pf_54 := SaidD.al pf_54
              refine W.eq (g2 := F0 m 62 ls [.int r_55]) rfl ?_
              replace hP : va_P D classes [((Ma 0), .inr (12, [.ref (Ma 1), .int (Mv 0), .int (Mv 1), .ref (Ma 2), .ref (Ma 3), .ref (Ma 4), .ref (Ma 5), .ref (Ma 6), .int (Mv 2), .int (Mv 3), .int (Mv 4), .int (Mv 5), .int (Mv 6), .int (Mv 7), .int (Mv 8), .ref (Ma 7), .int (Mv 9), .ref (Ma 8), .int sv_50, .ref (Ma 9), .ref (Ma 10), .int (Mv 11), .int (Mv 12), .int (Mv 13), .ref (Ma 11), .int (Mv 14), .ref (Ma 12), .ref (Ma 13), .ref (Ma 14), .ref (Ma 15), .ref (Ma 16), .long (Mj 0), .ref (Ma 17), .ref (Ma 18), .ref (Ma 19), .ref (Ma 20)])), ((Ma 2), .inl (tc 0, 2400, .inl (Mf 2))), ((Ma 4), .inl (tc 0, 288, .inl (Mf 4))), ((Ma 5), .inl (tc 0, 6, .inl (Mf 5))), ((Ma 8), .inl (tc 1, 64, .inr (.inl sv_51))), ((Ma 9), .inl (tc 1, 13, .inr (.inl sv_52))), ((Ma 10), .inl (tc 0, 126, .inl sv_53)), ((Ma 12), .inl (tc 0, 46, .inl sv_18))] H := hP₀
              replace hD : va_D A [((Ma 0), .inr (12, [.ref (Ma 1), .int (Mv 0), .int (Mv 1), .ref (Ma 2), .ref (Ma 3), .ref (Ma 4), .ref (Ma 5), .ref (Ma 6), .int (Mv 2), .int (Mv 3), .int (Mv 4), .int (Mv 5), .int (Mv 6), .int (Mv 7), .int (Mv 8), .ref (Ma 7), .int (Mv 9), .ref (Ma 8), .int sv_50, .ref (Ma 9), .ref (Ma 10), .int (Mv 11), .int (Mv 12), .int (Mv 13), .ref (Ma 11), .int (Mv 14), .ref (Ma 12), .ref (Ma 13), .ref (Ma 14), .ref (Ma 15), .ref (Ma 16), .long (Mj 0), .ref (Ma 17), .ref (Ma 18), .ref (Ma 19), .ref (Ma 20)])), ((Ma 2), .inl (tc 0, 2400, .inl (Mf 2))), ((Ma 4), .inl (tc 0, 288, .inl (Mf 4))), ((Ma 5), .inl (tc 0, 6, .inl (Mf 5))), ((Ma 8), .inl (tc 1, 64, .inr (.inl sv_51))), ((Ma 9), .inl (tc 1, 13, .inr (.inl sv_52))), ((Ma 10), .inl (tc 0, 126, .inl sv_53)), ((Ma 12), .inl (tc 0, 46, .inl sv_18))] := hD₀
              replace hS := hS₀
              clear hP₀ hD₀ hS₀
              refine lv_if_lt (tgt := 68) hx hb dX12_least_62 (by decide) (fun c_58 => ?_) (fun c_58 => ?_)
              · skip
                obtain ⟨x_59, ex_59⟩ : ∃ y : Int32, y = vy_26 + 1 := ⟨_, rfl⟩
                refine lv_iinc (v := x_59) (lv' := [(4, .int x_59), (3, .int vy_31), (0, .ref (Ma 0)), (1, .int x1), (2, .int x2)]) hx hb dX12_least_68 hl (k := 0) rfl (by rw [ex_59]; rfl) (by decide) rfl (fun ls hl₀ => ?_)
                replace hl := hl₀
                clear hl₀
                refine lv_goto (tgt := 32) hx hb dX12_least_71 (by decide) ?_
                have hb_60 : 21 - (x_59 : Int32).toInt < 21 - (vy_26 : Int32).toInt ∧ 1 ≤ 21 - (vy_26 : Int32).toInt := by
                  have z_1 : ¬ (r_4 : Int32).toInt = (0 : Int32).toInt := fun z => c_7 (Int32.toInt_inj.mp z)
                  have z_2 : ¬ (r_11 : Int32).toInt = (0 : Int32).toInt := fun z => c_14 (Int32.toInt_inj.mp z)
                  have z_3 := Int32.le_iff_toInt_le.mp (Int32.not_lt.mp c_38)
                  have z_4 := Int32.lt_iff_toInt_lt.mp (Int32.not_le.mp c_39)
                  have z_5 := Int32.lt_iff_toInt_lt.mp c_58
                  have y_0 : (0 : Int32).toInt = 0 := by decide
                  have y_20 : (20 : Int32).toInt = 20 := by decide
                  have y_1 : (1 : Int32).toInt = 1 := by decide
                  have t_x_59 : x_59.toInt = (vy_26 : Int32).toInt + (1 : Int32).toInt := by rw [ex_59]; exact add_toInt (by omega) (by omega)
                  refine ⟨?_, ?_⟩ <;> omega
                have ha_61 : 0 ≤ (x_59 : Int32).toInt := by
                  have z_1 : ¬ (r_4 : Int32).toInt = (0 : Int32).toInt := fun z => c_7 (Int32.toInt_inj.mp z)
                  have z_2 : ¬ (r_11 : Int32).toInt = (0 : Int32).toInt := fun z => c_14 (Int32.toInt_inj.mp z)
                  have z_3 := Int32.le_iff_toInt_le.mp (Int32.not_lt.mp c_38)
                  have z_4 := Int32.lt_iff_toInt_lt.mp (Int32.not_le.mp c_39)
                  have z_5 := Int32.lt_iff_toInt_lt.mp c_58
                  have y_0 : (0 : Int32).toInt = 0 := by decide
                  have y_20 : (20 : Int32).toInt = 20 := by decide
                  have y_1 : (1 : Int32).toInt = 1 := by decide
                  have t_x_59 : x_59.toInt = (vy_26 : Int32).toInt + (1 : Int32).toInt := by rw [ex_59]; exact add_toInt (by omega) (by omega)
                  omega
                exact ih_33 x_59 sv_51 sv_52 sv_50 sv_53 vy_31 _ _ _ (by omega) ha_61 pf_54 (hP.sub [1, 2, 3, 4, 5, 0, 6, 7] rfl) (hD.sub [1, 2, 3, 4, 5, 0, 6, 7] rfl rfl) hS (lv_sub hl [0, 1, 2, 3, 4] rfl)
              · skip
                refine lv_iload hx hb dX12_least_65 (lv_at hl 0 rfl) ?_
                refine lv_istore_n (lv' := [(3, .int vy_26), (4, .int vy_26), (0, .ref (Ma 0)), (1, .int x1), (2, .int x2)]) hx hb dX12_least_67 rfl hl (by decide) rfl (fun ls hl₀ => ?_)
                replace hl := hl₀
                clear hl₀
                obtain ⟨x_62, ex_62⟩ : ∃ y : Int32, y = vy_26 + 1 := ⟨_, rfl⟩
                refine lv_iinc (v := x_62) (lv' := [(4, .int x_62), (3, .int vy_26), (0, .ref (Ma 0)), (1, .int x1), (2, .int x2)]) hx hb dX12_least_68 hl (k := 1) rfl (by rw [ex_62]; rfl) (by decide) rfl (fun ls hl₀ => ?_)
                replace hl := hl₀
                clear hl₀
                refine lv_goto (tgt := 32) hx hb dX12_least_71 (by decide) ?_
                have hb_63 : 21 - (x_62 : Int32).toInt < 21 - (vy_26 : Int32).toInt ∧ 1 ≤ 21 - (vy_26 : Int32).toInt := by
                  have z_1 : ¬ (r_4 : Int32).toInt = (0 : Int32).toInt := fun z => c_7 (Int32.toInt_inj.mp z)
                  have z_2 : ¬ (r_11 : Int32).toInt = (0 : Int32).toInt := fun z => c_14 (Int32.toInt_inj.mp z)
                  have z_3 := Int32.le_iff_toInt_le.mp (Int32.not_lt.mp c_38)
                  have z_4 := Int32.lt_iff_toInt_lt.mp (Int32.not_le.mp c_39)
                  have z_5 := Int32.le_iff_toInt_le.mp (Int32.not_lt.mp c_58)
                  have y_0 : (0 : Int32).toInt = 0 := by decide
                  have y_20 : (20 : Int32).toInt = 20 := by decide
                  have y_1 : (1 : Int32).toInt = 1 := by decide
                  have t_x_62 : x_62.toInt = (vy_26 : Int32).toInt + (1 : Int32).toInt := by rw [ex_62]; exact add_toInt (by omega) (by omega)
                  refine ⟨?_, ?_⟩ <;> omega
                have ha_64 : 0 ≤ (x_62 : Int32).toInt := by
                  have z_1 : ¬ (r_4 : Int32).toInt = (0 : Int32).toInt := fun z => c_7 (Int32.toInt_inj.mp z)
                  have z_2 : ¬ (r_11 : Int32).toInt = (0 : Int32).toInt := fun z => c_14 (Int32.toInt_inj.mp z)
                  have z_3 := Int32.le_iff_toInt_le.mp (Int32.not_lt.mp c_38)
                  have z_4 := Int32.lt_iff_toInt_lt.mp (Int32.not_le.mp c_39)
                  have z_5 := Int32.le_iff_toInt_le.mp (Int32.not_lt.mp c_58)
                  have y_0 : (0 : Int32).toInt = 0 := by decide
                  have y_20 : (20 : Int32).toInt = 20 := by decide
                  have y_1 : (1 : Int32).toInt = 1 := by decide
                  have t_x_62 : x_62.toInt = (vy_26 : Int32).toInt + (1 : Int32).toInt := by rw [ex_62]; exact add_toInt (by omega) (by omega)
                  omega
                exact ih_33 x_62 sv_51 sv_52 sv_50 sv_53 vy_26 _ _ _ (by omega) ha_64 pf_54 (hP.sub [1, 2, 3, 4, 5, 0, 6, 7] rfl) (hD.sub [1, 2, 3, 4, 5, 0, 6, 7] rfl rfl) hS (lv_sub hl [0, 1, 2, 3, 4] rfl)
      have ha_65 : 0 ≤ (0 : Int32).toInt := by
        have z_1 : ¬ (r_4 : Int32).toInt = (0 : Int32).toInt := fun z => c_7 (Int32.toInt_inj.mp z)
        have z_2 : ¬ (r_11 : Int32).toInt = (0 : Int32).toInt := fun z => c_14 (Int32.toInt_inj.mp z)
        have y_0 : (0 : Int32).toInt = 0 := by decide
        omega
      exact loop_34 _ 0 (Mg 8) (Mg 9) (Mv 10) (Mf 10) (-2) _ _ _ (Nat.lt_succ_self _) ha_65 h_said hP hD hS hl
    · skip
      refine lv_iconst (v := (-1)) hx hb dX12_least_20 (by decide) ?_
      exact retI (v := (-1)) hx hb hr hlk (rfl) hP hD hS ((Mv 10), (Mg 8), (Mg 9), (Mf 10), (Mf 12)) ⟨_, rfl, trivial, h_said⟩ [6, 0, 1, 2, 3, 4, 7, 5] rfl rfl dX12_least_21 (Nat.le_of_ble_eq_true rfl) (Nat.le_of_ble_eq_true rfl) rfl
set_option maxHeartbeats 4000000 in
set_option maxRecDepth 100000 in
theorem ct_X12_soothe {T : Nat → Option Int32} (l : Launch) (D : va_G) (tc : Nat → ClassId) (sk : (Nat → Nat) × (Nat → Nat)) (Ma : Nat → Nat) (Mv : Nat → Int32) (Mf : Nat → Nat → Int32) (Mj : Nat → Int64) (Mg : Nat → Nat → Int64) (x1 : Int32) (x2 : Int32) (h_said : SaidD T (Mf 10) 999) (h_rul : RulD (Mf 2) (Mf 4) (Mf 5) (Mv 1)) (h_frc : -1 ≤ (Mv 11).toInt ∧ (Mv 11).toInt < (Mv 1).toInt ∧ (Mv 1).toInt ≤ 6) : Ct l yX12_soothe cX12_soothe 7 (some .int) { frames := 7, cells := 0, slots := 0, locals := 166 } D tc sk [.ref (Ma 0), .int x1, .int x2] [((Ma 0), .inr (12, [.ref (Ma 1), .int (Mv 0), .int (Mv 1), .ref (Ma 2), .ref (Ma 3), .ref (Ma 4), .ref (Ma 5), .ref (Ma 6), .int (Mv 2), .int (Mv 3), .int (Mv 4), .int (Mv 5), .int (Mv 6), .int (Mv 7), .int (Mv 8), .ref (Ma 7), .int (Mv 9), .ref (Ma 8), .int (Mv 10), .ref (Ma 9), .ref (Ma 10), .int (Mv 11), .int (Mv 12), .int (Mv 13), .ref (Ma 11), .int (Mv 14), .ref (Ma 12), .ref (Ma 13), .ref (Ma 14), .ref (Ma 15), .ref (Ma 16), .long (Mj 0), .ref (Ma 17), .ref (Ma 18), .ref (Ma 19), .ref (Ma 20)])), ((Ma 2), .inl (tc 0, 2400, .inl (Mf 2))), ((Ma 4), .inl (tc 0, 288, .inl (Mf 4))), ((Ma 5), .inl (tc 0, 6, .inl (Mf 5))), ((Ma 8), .inl (tc 1, 64, .inr (.inl (Mg 8)))), ((Ma 9), .inl (tc 1, 13, .inr (.inl (Mg 9)))), ((Ma 10), .inl (tc 0, 126, .inl (Mf 10))), ((Ma 12), .inl (tc 0, 46, .inl (Mf 12)))] (fun (v : Option Value) (u : (Int32) × (Nat → Int64) × (Nat → Int64) × (Nat → Int32) × (Nat → Int32)) => match u with | (oo0x1, oo0x2, oo0x3, oo0x4, oo0x5) => ∃ r : Int32, v = some (.int r) ∧ (True) ∧ (SaidD T oo0x4 999)) (fun (u : (Int32) × (Nat → Int64) × (Nat → Int64) × (Nat → Int32) × (Nat → Int32)) => match u with | (oo0x1, oo0x2, oo0x3, oo0x4, oo0x5) => [((Ma 0), .inr (12, [.ref (Ma 1), .int (Mv 0), .int (Mv 1), .ref (Ma 2), .ref (Ma 3), .ref (Ma 4), .ref (Ma 5), .ref (Ma 6), .int (Mv 2), .int (Mv 3), .int (Mv 4), .int (Mv 5), .int (Mv 6), .int (Mv 7), .int (Mv 8), .ref (Ma 7), .int (Mv 9), .ref (Ma 8), .int oo0x1, .ref (Ma 9), .ref (Ma 10), .int (Mv 11), .int (Mv 12), .int (Mv 13), .ref (Ma 11), .int (Mv 14), .ref (Ma 12), .ref (Ma 13), .ref (Ma 14), .ref (Ma 15), .ref (Ma 16), .long (Mj 0), .ref (Ma 17), .ref (Ma 18), .ref (Ma 19), .ref (Ma 20)])), ((Ma 2), .inl (tc 0, 2400, .inl (Mf 2))), ((Ma 4), .inl (tc 0, 288, .inl (Mf 4))), ((Ma 5), .inl (tc 0, 6, .inl (Mf 5))), ((Ma 8), .inl (tc 1, 64, .inr (.inl oo0x2))), ((Ma 9), .inl (tc 1, 13, .inr (.inl oo0x3))), ((Ma 10), .inl (tc 0, 126, .inl oo0x4)), ((Ma 12), .inl (tc 0, 46, .inl oo0x5))]) 0 0 := by
  refine Ct.start (by decide) (Nat.le_of_ble_eq_true rfl) (fun p e s m below meth c A ls hx hb hr hlk hin hml hown hts hK hX hP hD hA hl hS => ?_)
  have hl : lv_has ls 7 [(0, .ref (Ma 0)), (1, .int x1), (2, .int x2)] := hl
  have ar_h_said := SaidD.al h_said
  refine lv_aload_n hx hb dX12_soothe_0 rfl (lv_at hl 0 rfl) ?_
  refine cV (a := (Ma 0)) (As := []) (rest := []) (wr := [((Ma 2), .inl (tc 0, 2400, .inl (Mf 2))), ((Ma 4), .inl (tc 0, 288, .inl (Mf 4))), ((Ma 5), .inl (tc 0, 6, .inl (Mf 5))), ((Ma 8), .inl (tc 1, 64, .inr (.inl (Mg 8)))), ((Ma 9), .inl (tc 1, 13, .inr (.inl (Mg 9)))), ((Ma 12), .inl (tc 0, 46, .inl (Mf 12)))]) ⟨hx, hb, hml, hown, hts⟩ hK hX hA (cu_X12_isBook l D tc sk (Ma 0) (Ma 1) (Ma 2) (Ma 3) (Ma 4) (Ma 5) (Ma 6) (Ma 7) (Ma 8) (Ma 9) (Ma 10) (Ma 11) (Ma 12) (Ma 13) (Ma 14) (Ma 15) (Ma 16) (Ma 17) (Ma 18) (Ma 19) (Ma 20) (Mv 0) (Mv 1) (Mv 2) (Mv 3) (Mv 4) (Mv 5) (Mv 6) (Mv 7) (Mv 8) (Mv 9) (Mv 10) (Mv 11) (Mv 12) (Mv 13) (Mv 14) (Mf 10) (Mj 0) h_said.1) k_1407 k_1404 k_1406 k_65 k_106 pl_X12_isBook ⟨Nat.le_of_ble_eq_true rfl, Nat.le_of_ble_eq_true rfl⟩ rfl rfl (va_recv hK hP (ci := 12) (q0 := 0) rfl rfl) hP hD hS [0, 6] [1, 2, 3, 4, 5, 7] rfl rfl rfl rfl rfl (by decide) rfl hl.1 rfl (Nat.le_of_ble_eq_true rfl) dX12_soothe_1 ⟨Nat.le_of_ble_eq_true rfl, Nat.le_of_ble_eq_true rfl⟩ (fun v_1 u_2 H locs hv_3 hP₀ hD₀ hS₀ => ?_)
  obtain ⟨r_4, rfl, he_5⟩ := hv_3
  have he_5 : (r_4.toInt = 0 ∨ (r_4.toInt = 1 ∧ 1 ≤ ((Mf 10) 2).toInt ∧ ((Mf 10) 2).toInt ≤ 10)) := he_5
  refine W.eq (g2 := F0 m 4 ls [.int r_4]) rfl ?_
  replace hP : va_P D classes [((Ma 2), .inl (tc 0, 2400, .inl (Mf 2))), ((Ma 4), .inl (tc 0, 288, .inl (Mf 4))), ((Ma 5), .inl (tc 0, 6, .inl (Mf 5))), ((Ma 8), .inl (tc 1, 64, .inr (.inl (Mg 8)))), ((Ma 9), .inl (tc 1, 13, .inr (.inl (Mg 9)))), ((Ma 12), .inl (tc 0, 46, .inl (Mf 12))), ((Ma 0), .inr (12, [.ref (Ma 1), .int (Mv 0), .int (Mv 1), .ref (Ma 2), .ref (Ma 3), .ref (Ma 4), .ref (Ma 5), .ref (Ma 6), .int (Mv 2), .int (Mv 3), .int (Mv 4), .int (Mv 5), .int (Mv 6), .int (Mv 7), .int (Mv 8), .ref (Ma 7), .int (Mv 9), .ref (Ma 8), .int (Mv 10), .ref (Ma 9), .ref (Ma 10), .int (Mv 11), .int (Mv 12), .int (Mv 13), .ref (Ma 11), .int (Mv 14), .ref (Ma 12), .ref (Ma 13), .ref (Ma 14), .ref (Ma 15), .ref (Ma 16), .long (Mj 0), .ref (Ma 17), .ref (Ma 18), .ref (Ma 19), .ref (Ma 20)])), ((Ma 10), .inl (tc 0, 126, .inl (Mf 10)))] H := hP₀
  replace hD : va_D A [((Ma 2), .inl (tc 0, 2400, .inl (Mf 2))), ((Ma 4), .inl (tc 0, 288, .inl (Mf 4))), ((Ma 5), .inl (tc 0, 6, .inl (Mf 5))), ((Ma 8), .inl (tc 1, 64, .inr (.inl (Mg 8)))), ((Ma 9), .inl (tc 1, 13, .inr (.inl (Mg 9)))), ((Ma 12), .inl (tc 0, 46, .inl (Mf 12))), ((Ma 0), .inr (12, [.ref (Ma 1), .int (Mv 0), .int (Mv 1), .ref (Ma 2), .ref (Ma 3), .ref (Ma 4), .ref (Ma 5), .ref (Ma 6), .int (Mv 2), .int (Mv 3), .int (Mv 4), .int (Mv 5), .int (Mv 6), .int (Mv 7), .int (Mv 8), .ref (Ma 7), .int (Mv 9), .ref (Ma 8), .int (Mv 10), .ref (Ma 9), .ref (Ma 10), .int (Mv 11), .int (Mv 12), .int (Mv 13), .ref (Ma 11), .int (Mv 14), .ref (Ma 12), .ref (Ma 13), .ref (Ma 14), .ref (Ma 15), .ref (Ma 16), .long (Mj 0), .ref (Ma 17), .ref (Ma 18), .ref (Ma 19), .ref (Ma 20)])), ((Ma 10), .inl (tc 0, 126, .inl (Mf 10)))] := hD₀
  replace hS := hS₀
  clear hP₀ hD₀ hS₀
  refine lv_if_eq (tgt := 29) hx hb dX12_soothe_4 (by decide) (fun c_7 => ?_) (fun c_7 => ?_)
  · skip
    refine lv_bipush (v := (-2)) hx hb dX12_soothe_29 (by decide) ?_
    exact retI (v := (-2)) hx hb hr hlk (rfl) hP hD hS ((Mv 10), (Mg 8), (Mg 9), (Mf 10), (Mf 12)) ⟨_, rfl, trivial, h_said⟩ [6, 0, 1, 2, 3, 4, 7, 5] rfl rfl dX12_soothe_31 (Nat.le_of_ble_eq_true rfl) (Nat.le_of_ble_eq_true rfl) rfl
  · skip
    refine lv_iload_n hx hb dX12_soothe_7 rfl (lv_at hl 1 rfl) ?_
    refine lv_i2l (v := (x1).toInt64) hx hb dX12_soothe_8 rfl ?_
    refine lv_lconst (v := 1) hx hb dX12_soothe_9 (by decide) ?_
    refine lv_ldc2 hx hb hown (hts _ k_1553) dX12_soothe_10 ?_
    refine cS (As := [.long (x1).toInt64, .long 1, .long 60]) (rest := []) (wr := [((Ma 2), .inl (tc 0, 2400, .inl (Mf 2))), ((Ma 4), .inl (tc 0, 288, .inl (Mf 4))), ((Ma 5), .inl (tc 0, 6, .inl (Mf 5))), ((Ma 8), .inl (tc 1, 64, .inr (.inl (Mg 8)))), ((Ma 9), .inl (tc 1, 13, .inr (.inl (Mg 9)))), ((Ma 12), .inl (tc 0, 46, .inl (Mf 12))), ((Ma 0), .inr (12, [.ref (Ma 1), .int (Mv 0), .int (Mv 1), .ref (Ma 2), .ref (Ma 3), .ref (Ma 4), .ref (Ma 5), .ref (Ma 6), .int (Mv 2), .int (Mv 3), .int (Mv 4), .int (Mv 5), .int (Mv 6), .int (Mv 7), .int (Mv 8), .ref (Ma 7), .int (Mv 9), .ref (Ma 8), .int (Mv 10), .ref (Ma 9), .ref (Ma 10), .int (Mv 11), .int (Mv 12), .int (Mv 13), .ref (Ma 11), .int (Mv 14), .ref (Ma 12), .ref (Ma 13), .ref (Ma 14), .ref (Ma 15), .ref (Ma 16), .long (Mj 0), .ref (Ma 17), .ref (Ma 18), .ref (Ma 19), .ref (Ma 20)])), ((Ma 10), .inl (tc 0, 126, .inl (Mf 10)))]) ⟨hx, hb, hml, hown, hts⟩ hK hX hA (ct_X12_in l D tc sk ((x1).toInt64) 1 60) k_1259 k_1257 k_1258 k_106 pl_X12_in ⟨Nat.le_of_ble_eq_true rfl, Nat.le_of_ble_eq_true rfl⟩ rfl rfl  hP hD hS [] [0, 1, 2, 3, 4, 5, 6, 7] rfl rfl rfl rfl rfl (by decide) rfl hl.1 rfl (Nat.le_of_ble_eq_true rfl) dX12_soothe_13 ⟨Nat.le_of_ble_eq_true rfl, Nat.le_of_ble_eq_true rfl⟩ (fun v_8 u_9 H locs hv_10 hP₀ hD₀ hS₀ => ?_)
    obtain ⟨r_11, rfl, he_12⟩ := hv_10
    have he_12 : (r_11.toInt = 0 ∨ (r_11.toInt = 1 ∧ (1 : Int64).toInt ≤ (x1).toInt64.toInt ∧ (x1).toInt64.toInt ≤ (60 : Int64).toInt)) := he_12
    refine W.eq (g2 := F0 m 16 ls [.int r_11]) rfl ?_
    replace hP : va_P D classes [((Ma 2), .inl (tc 0, 2400, .inl (Mf 2))), ((Ma 4), .inl (tc 0, 288, .inl (Mf 4))), ((Ma 5), .inl (tc 0, 6, .inl (Mf 5))), ((Ma 8), .inl (tc 1, 64, .inr (.inl (Mg 8)))), ((Ma 9), .inl (tc 1, 13, .inr (.inl (Mg 9)))), ((Ma 12), .inl (tc 0, 46, .inl (Mf 12))), ((Ma 0), .inr (12, [.ref (Ma 1), .int (Mv 0), .int (Mv 1), .ref (Ma 2), .ref (Ma 3), .ref (Ma 4), .ref (Ma 5), .ref (Ma 6), .int (Mv 2), .int (Mv 3), .int (Mv 4), .int (Mv 5), .int (Mv 6), .int (Mv 7), .int (Mv 8), .ref (Ma 7), .int (Mv 9), .ref (Ma 8), .int (Mv 10), .ref (Ma 9), .ref (Ma 10), .int (Mv 11), .int (Mv 12), .int (Mv 13), .ref (Ma 11), .int (Mv 14), .ref (Ma 12), .ref (Ma 13), .ref (Ma 14), .ref (Ma 15), .ref (Ma 16), .long (Mj 0), .ref (Ma 17), .ref (Ma 18), .ref (Ma 19), .ref (Ma 20)])), ((Ma 10), .inl (tc 0, 126, .inl (Mf 10)))] H := hP₀
    replace hD : va_D A [((Ma 2), .inl (tc 0, 2400, .inl (Mf 2))), ((Ma 4), .inl (tc 0, 288, .inl (Mf 4))), ((Ma 5), .inl (tc 0, 6, .inl (Mf 5))), ((Ma 8), .inl (tc 1, 64, .inr (.inl (Mg 8)))), ((Ma 9), .inl (tc 1, 13, .inr (.inl (Mg 9)))), ((Ma 12), .inl (tc 0, 46, .inl (Mf 12))), ((Ma 0), .inr (12, [.ref (Ma 1), .int (Mv 0), .int (Mv 1), .ref (Ma 2), .ref (Ma 3), .ref (Ma 4), .ref (Ma 5), .ref (Ma 6), .int (Mv 2), .int (Mv 3), .int (Mv 4), .int (Mv 5), .int (Mv 6), .int (Mv 7), .int (Mv 8), .ref (Ma 7), .int (Mv 9), .ref (Ma 8), .int (Mv 10), .ref (Ma 9), .ref (Ma 10), .int (Mv 11), .int (Mv 12), .int (Mv 13), .ref (Ma 11), .int (Mv 14), .ref (Ma 12), .ref (Ma 13), .ref (Ma 14), .ref (Ma 15), .ref (Ma 16), .long (Mj 0), .ref (Ma 17), .ref (Ma 18), .ref (Ma 19), .ref (Ma 20)])), ((Ma 10), .inl (tc 0, 126, .inl (Mf 10)))] := hD₀
    replace hS := hS₀
    clear hP₀ hD₀ hS₀
    have yl_he_12_1 : (1 : Int64).toInt = 1 := by decide
    have yl_he_12_60 : (60 : Int64).toInt = 60 := by decide
    simp only [i32_64] at he_12
    refine lv_if_eq (tgt := 29) hx hb dX12_soothe_16 (by decide) (fun c_14 => ?_) (fun c_14 => ?_)
    · skip
      refine lv_bipush (v := (-2)) hx hb dX12_soothe_29 (by decide) ?_
      exact retI (v := (-2)) hx hb hr hlk (rfl) hP hD hS ((Mv 10), (Mg 8), (Mg 9), (Mf 10), (Mf 12)) ⟨_, rfl, trivial, h_said⟩ [6, 0, 1, 2, 3, 4, 7, 5] rfl rfl dX12_soothe_31 (Nat.le_of_ble_eq_true rfl) (Nat.le_of_ble_eq_true rfl) rfl
    · skip
      refine lv_iload_n hx hb dX12_soothe_19 rfl (lv_at hl 2 rfl) ?_
      refine lv_i2l (v := (x2).toInt64) hx hb dX12_soothe_20 rfl ?_
      refine lv_lconst (v := 0) hx hb dX12_soothe_21 (by decide) ?_
      refine lv_lconst (v := 1) hx hb dX12_soothe_22 (by decide) ?_
      refine cS (As := [.long (x2).toInt64, .long 0, .long 1]) (rest := []) (wr := [((Ma 2), .inl (tc 0, 2400, .inl (Mf 2))), ((Ma 4), .inl (tc 0, 288, .inl (Mf 4))), ((Ma 5), .inl (tc 0, 6, .inl (Mf 5))), ((Ma 8), .inl (tc 1, 64, .inr (.inl (Mg 8)))), ((Ma 9), .inl (tc 1, 13, .inr (.inl (Mg 9)))), ((Ma 12), .inl (tc 0, 46, .inl (Mf 12))), ((Ma 0), .inr (12, [.ref (Ma 1), .int (Mv 0), .int (Mv 1), .ref (Ma 2), .ref (Ma 3), .ref (Ma 4), .ref (Ma 5), .ref (Ma 6), .int (Mv 2), .int (Mv 3), .int (Mv 4), .int (Mv 5), .int (Mv 6), .int (Mv 7), .int (Mv 8), .ref (Ma 7), .int (Mv 9), .ref (Ma 8), .int (Mv 10), .ref (Ma 9), .ref (Ma 10), .int (Mv 11), .int (Mv 12), .int (Mv 13), .ref (Ma 11), .int (Mv 14), .ref (Ma 12), .ref (Ma 13), .ref (Ma 14), .ref (Ma 15), .ref (Ma 16), .long (Mj 0), .ref (Ma 17), .ref (Ma 18), .ref (Ma 19), .ref (Ma 20)])), ((Ma 10), .inl (tc 0, 126, .inl (Mf 10)))]) ⟨hx, hb, hml, hown, hts⟩ hK hX hA (ct_X12_in l D tc sk ((x2).toInt64) 0 1) k_1259 k_1257 k_1258 k_106 pl_X12_in ⟨Nat.le_of_ble_eq_true rfl, Nat.le_of_ble_eq_true rfl⟩ rfl rfl  hP hD hS [] [0, 1, 2, 3, 4, 5, 6, 7] rfl rfl rfl rfl rfl (by decide) rfl hl.1 rfl (Nat.le_of_ble_eq_true rfl) dX12_soothe_23 ⟨Nat.le_of_ble_eq_true rfl, Nat.le_of_ble_eq_true rfl⟩ (fun v_15 u_16 H locs hv_17 hP₀ hD₀ hS₀ => ?_)
      obtain ⟨r_18, rfl, he_19⟩ := hv_17
      have he_19 : (r_18.toInt = 0 ∨ (r_18.toInt = 1 ∧ (0 : Int64).toInt ≤ (x2).toInt64.toInt ∧ (x2).toInt64.toInt ≤ (1 : Int64).toInt)) := he_19
      refine W.eq (g2 := F0 m 26 ls [.int r_18]) rfl ?_
      replace hP : va_P D classes [((Ma 2), .inl (tc 0, 2400, .inl (Mf 2))), ((Ma 4), .inl (tc 0, 288, .inl (Mf 4))), ((Ma 5), .inl (tc 0, 6, .inl (Mf 5))), ((Ma 8), .inl (tc 1, 64, .inr (.inl (Mg 8)))), ((Ma 9), .inl (tc 1, 13, .inr (.inl (Mg 9)))), ((Ma 12), .inl (tc 0, 46, .inl (Mf 12))), ((Ma 0), .inr (12, [.ref (Ma 1), .int (Mv 0), .int (Mv 1), .ref (Ma 2), .ref (Ma 3), .ref (Ma 4), .ref (Ma 5), .ref (Ma 6), .int (Mv 2), .int (Mv 3), .int (Mv 4), .int (Mv 5), .int (Mv 6), .int (Mv 7), .int (Mv 8), .ref (Ma 7), .int (Mv 9), .ref (Ma 8), .int (Mv 10), .ref (Ma 9), .ref (Ma 10), .int (Mv 11), .int (Mv 12), .int (Mv 13), .ref (Ma 11), .int (Mv 14), .ref (Ma 12), .ref (Ma 13), .ref (Ma 14), .ref (Ma 15), .ref (Ma 16), .long (Mj 0), .ref (Ma 17), .ref (Ma 18), .ref (Ma 19), .ref (Ma 20)])), ((Ma 10), .inl (tc 0, 126, .inl (Mf 10)))] H := hP₀
      replace hD : va_D A [((Ma 2), .inl (tc 0, 2400, .inl (Mf 2))), ((Ma 4), .inl (tc 0, 288, .inl (Mf 4))), ((Ma 5), .inl (tc 0, 6, .inl (Mf 5))), ((Ma 8), .inl (tc 1, 64, .inr (.inl (Mg 8)))), ((Ma 9), .inl (tc 1, 13, .inr (.inl (Mg 9)))), ((Ma 12), .inl (tc 0, 46, .inl (Mf 12))), ((Ma 0), .inr (12, [.ref (Ma 1), .int (Mv 0), .int (Mv 1), .ref (Ma 2), .ref (Ma 3), .ref (Ma 4), .ref (Ma 5), .ref (Ma 6), .int (Mv 2), .int (Mv 3), .int (Mv 4), .int (Mv 5), .int (Mv 6), .int (Mv 7), .int (Mv 8), .ref (Ma 7), .int (Mv 9), .ref (Ma 8), .int (Mv 10), .ref (Ma 9), .ref (Ma 10), .int (Mv 11), .int (Mv 12), .int (Mv 13), .ref (Ma 11), .int (Mv 14), .ref (Ma 12), .ref (Ma 13), .ref (Ma 14), .ref (Ma 15), .ref (Ma 16), .long (Mj 0), .ref (Ma 17), .ref (Ma 18), .ref (Ma 19), .ref (Ma 20)])), ((Ma 10), .inl (tc 0, 126, .inl (Mf 10)))] := hD₀
      replace hS := hS₀
      clear hP₀ hD₀ hS₀
      have yl_he_19_0 : (0 : Int64).toInt = 0 := by decide
      have yl_he_19_1 : (1 : Int64).toInt = 1 := by decide
      simp only [i32_64] at he_19
      refine lv_if_ne (tgt := 32) hx hb dX12_soothe_26 (by decide) (fun c_21 => ?_) (fun c_21 => ?_)
      · skip
        refine lv_aload_n hx hb dX12_soothe_32 rfl (lv_at hl 0 rfl) ?_
        refine cV (a := (Ma 0)) (As := []) (rest := []) (wr := [((Ma 2), .inl (tc 0, 2400, .inl (Mf 2))), ((Ma 4), .inl (tc 0, 288, .inl (Mf 4))), ((Ma 5), .inl (tc 0, 6, .inl (Mf 5))), ((Ma 8), .inl (tc 1, 64, .inr (.inl (Mg 8)))), ((Ma 9), .inl (tc 1, 13, .inr (.inl (Mg 9))))]) ⟨hx, hb, hml, hown, hts⟩ hK hX hA (cu_X12_keeps l D tc sk (Ma 0) (Ma 1) (Ma 2) (Ma 3) (Ma 4) (Ma 5) (Ma 6) (Ma 7) (Ma 8) (Ma 9) (Ma 10) (Ma 11) (Ma 12) (Ma 13) (Ma 14) (Ma 15) (Ma 16) (Ma 17) (Ma 18) (Ma 19) (Ma 20) (Mv 0) (Mv 1) (Mv 2) (Mv 3) (Mv 4) (Mv 5) (Mv 6) (Mv 7) (Mv 8) (Mv 9) (Mv 10) (Mv 11) (Mv 12) (Mv 13) (Mv 14) (Mf 10) (Mf 12) (Mj 0) h_said) k_1505 k_1502 k_1504 k_80 k_106 pl_X12_keeps ⟨Nat.le_of_ble_eq_true rfl, Nat.le_of_ble_eq_true rfl⟩ rfl rfl (va_recv hK hP (ci := 12) (q0 := 6) rfl rfl) hP hD hS [6, 7, 5] [0, 1, 2, 3, 4] rfl rfl rfl rfl rfl (by decide) rfl hl.1 rfl (Nat.le_of_ble_eq_true rfl) dX12_soothe_33 ⟨Nat.le_of_ble_eq_true rfl, Nat.le_of_ble_eq_true rfl⟩ (fun v_22 u_23 H locs hv_24 hP₀ hD₀ hS₀ => ?_)
        obtain ⟨sv_25, rfl⟩ : ∃ z, z = u_23 := ⟨_, rfl⟩
        obtain ⟨rfl, pf_26⟩ := hv_24
        have pf_26 : KeptD sv_25 := pf_26
        refine W.eq (g2 := F0 m 36 ls []) rfl ?_
        replace hP : va_P D classes [((Ma 2), .inl (tc 0, 2400, .inl (Mf 2))), ((Ma 4), .inl (tc 0, 288, .inl (Mf 4))), ((Ma 5), .inl (tc 0, 6, .inl (Mf 5))), ((Ma 8), .inl (tc 1, 64, .inr (.inl (Mg 8)))), ((Ma 9), .inl (tc 1, 13, .inr (.inl (Mg 9)))), ((Ma 0), .inr (12, [.ref (Ma 1), .int (Mv 0), .int (Mv 1), .ref (Ma 2), .ref (Ma 3), .ref (Ma 4), .ref (Ma 5), .ref (Ma 6), .int (Mv 2), .int (Mv 3), .int (Mv 4), .int (Mv 5), .int (Mv 6), .int (Mv 7), .int (Mv 8), .ref (Ma 7), .int (Mv 9), .ref (Ma 8), .int (Mv 10), .ref (Ma 9), .ref (Ma 10), .int (Mv 11), .int (Mv 12), .int (Mv 13), .ref (Ma 11), .int (Mv 14), .ref (Ma 12), .ref (Ma 13), .ref (Ma 14), .ref (Ma 15), .ref (Ma 16), .long (Mj 0), .ref (Ma 17), .ref (Ma 18), .ref (Ma 19), .ref (Ma 20)])), ((Ma 10), .inl (tc 0, 126, .inl (Mf 10))), ((Ma 12), .inl (tc 0, 46, .inl sv_25))] H := hP₀
        replace hD : va_D A [((Ma 2), .inl (tc 0, 2400, .inl (Mf 2))), ((Ma 4), .inl (tc 0, 288, .inl (Mf 4))), ((Ma 5), .inl (tc 0, 6, .inl (Mf 5))), ((Ma 8), .inl (tc 1, 64, .inr (.inl (Mg 8)))), ((Ma 9), .inl (tc 1, 13, .inr (.inl (Mg 9)))), ((Ma 0), .inr (12, [.ref (Ma 1), .int (Mv 0), .int (Mv 1), .ref (Ma 2), .ref (Ma 3), .ref (Ma 4), .ref (Ma 5), .ref (Ma 6), .int (Mv 2), .int (Mv 3), .int (Mv 4), .int (Mv 5), .int (Mv 6), .int (Mv 7), .int (Mv 8), .ref (Ma 7), .int (Mv 9), .ref (Ma 8), .int (Mv 10), .ref (Ma 9), .ref (Ma 10), .int (Mv 11), .int (Mv 12), .int (Mv 13), .ref (Ma 11), .int (Mv 14), .ref (Ma 12), .ref (Ma 13), .ref (Ma 14), .ref (Ma 15), .ref (Ma 16), .long (Mj 0), .ref (Ma 17), .ref (Ma 18), .ref (Ma 19), .ref (Ma 20)])), ((Ma 10), .inl (tc 0, 126, .inl (Mf 10))), ((Ma 12), .inl (tc 0, 46, .inl sv_25))] := hD₀
        replace hS := hS₀
        clear hP₀ hD₀ hS₀
        refine lv_iconst (v := (-1)) hx hb dX12_soothe_36 (by decide) ?_
        refine lv_istore_n (lv' := [(3, .int (-1)), (0, .ref (Ma 0)), (1, .int x1), (2, .int x2)]) hx hb dX12_soothe_37 rfl hl (by decide) rfl (fun ls hl₀ => ?_)
        replace hl := hl₀
        clear hl₀
        refine lv_aload_n hx hb dX12_soothe_38 rfl (lv_at hl 1 rfl) ?_
        refine lv_iload_n hx hb dX12_soothe_39 rfl (lv_at hl 2 rfl) ?_
        have ha_27 : 0 ≤ x1.toInt ∧ x1.toInt ≤ 1000 := by
          have z_1 : ¬ (r_4 : Int32).toInt = (0 : Int32).toInt := fun z => c_7 (Int32.toInt_inj.mp z)
          have z_2 : ¬ (r_11 : Int32).toInt = (0 : Int32).toInt := fun z => c_14 (Int32.toInt_inj.mp z)
          have z_3 : ¬ (r_18 : Int32).toInt = (0 : Int32).toInt := fun z => c_21 (Int32.toInt_inj.mp z)
          have y_0 : (0 : Int32).toInt = 0 := by decide
          refine ⟨?_, ?_⟩ <;> omega
        refine cV (a := (Ma 0)) (As := [.int x1]) (rest := []) (wr := []) ⟨hx, hb, hml, hown, hts⟩ hK hX hA (cu_X12_soldIn l D tc sk (Ma 0) (Ma 1) (Ma 2) (Ma 3) (Ma 4) (Ma 5) (Ma 6) (Ma 7) (Ma 8) (Ma 9) (Ma 10) (Ma 11) (Ma 12) (Ma 13) (Ma 14) (Ma 15) (Ma 16) (Ma 17) (Ma 18) (Ma 19) (Ma 20) (Mv 0) (Mv 1) (Mv 2) (Mv 3) (Mv 4) (Mv 5) (Mv 6) (Mv 7) (Mv 8) (Mv 9) (Mv 10) (Mv 11) (Mv 12) (Mv 13) (Mv 14) (Mf 2) (Mf 4) (Mf 5) (Mf 10) sv_25 (Mj 0) (Mg 8) (Mg 9) x1 h_said pf_26 h_rul h_frc ha_27) k_1544 k_1541 k_1543 k_84 k_106 pl_X12_soldIn ⟨Nat.le_of_ble_eq_true rfl, Nat.le_of_ble_eq_true rfl⟩ rfl rfl (va_recv hK hP (ci := 12) (q0 := 5) rfl rfl) hP hD hS [5, 0, 1, 2, 3, 4, 6, 7] [] rfl rfl rfl rfl rfl (by decide) rfl hl.1 rfl (Nat.le_of_ble_eq_true rfl) dX12_soothe_40 ⟨Nat.le_of_ble_eq_true rfl, Nat.le_of_ble_eq_true rfl⟩ (fun v_28 u_29 H locs hv_30 hP₀ hD₀ hS₀ => ?_)
        obtain ⟨sv_31, sv_32, sv_33, sv_34⟩ := u_29
        obtain ⟨r_36, rfl, he_37, pf_35⟩ := hv_30
        have pf_35 : SaidD T sv_34 999 := pf_35
        have ar_pf_35 := SaidD.al pf_35
        refine W.eq (g2 := F0 m 43 ls [.int r_36]) rfl ?_
        replace hP : va_P D classes [((Ma 0), .inr (12, [.ref (Ma 1), .int (Mv 0), .int (Mv 1), .ref (Ma 2), .ref (Ma 3), .ref (Ma 4), .ref (Ma 5), .ref (Ma 6), .int (Mv 2), .int (Mv 3), .int (Mv 4), .int (Mv 5), .int (Mv 6), .int (Mv 7), .int (Mv 8), .ref (Ma 7), .int (Mv 9), .ref (Ma 8), .int sv_31, .ref (Ma 9), .ref (Ma 10), .int (Mv 11), .int (Mv 12), .int (Mv 13), .ref (Ma 11), .int (Mv 14), .ref (Ma 12), .ref (Ma 13), .ref (Ma 14), .ref (Ma 15), .ref (Ma 16), .long (Mj 0), .ref (Ma 17), .ref (Ma 18), .ref (Ma 19), .ref (Ma 20)])), ((Ma 2), .inl (tc 0, 2400, .inl (Mf 2))), ((Ma 4), .inl (tc 0, 288, .inl (Mf 4))), ((Ma 5), .inl (tc 0, 6, .inl (Mf 5))), ((Ma 8), .inl (tc 1, 64, .inr (.inl sv_32))), ((Ma 9), .inl (tc 1, 13, .inr (.inl sv_33))), ((Ma 10), .inl (tc 0, 126, .inl sv_34)), ((Ma 12), .inl (tc 0, 46, .inl sv_25))] H := hP₀
        replace hD : va_D A [((Ma 0), .inr (12, [.ref (Ma 1), .int (Mv 0), .int (Mv 1), .ref (Ma 2), .ref (Ma 3), .ref (Ma 4), .ref (Ma 5), .ref (Ma 6), .int (Mv 2), .int (Mv 3), .int (Mv 4), .int (Mv 5), .int (Mv 6), .int (Mv 7), .int (Mv 8), .ref (Ma 7), .int (Mv 9), .ref (Ma 8), .int sv_31, .ref (Ma 9), .ref (Ma 10), .int (Mv 11), .int (Mv 12), .int (Mv 13), .ref (Ma 11), .int (Mv 14), .ref (Ma 12), .ref (Ma 13), .ref (Ma 14), .ref (Ma 15), .ref (Ma 16), .long (Mj 0), .ref (Ma 17), .ref (Ma 18), .ref (Ma 19), .ref (Ma 20)])), ((Ma 2), .inl (tc 0, 2400, .inl (Mf 2))), ((Ma 4), .inl (tc 0, 288, .inl (Mf 4))), ((Ma 5), .inl (tc 0, 6, .inl (Mf 5))), ((Ma 8), .inl (tc 1, 64, .inr (.inl sv_32))), ((Ma 9), .inl (tc 1, 13, .inr (.inl sv_33))), ((Ma 10), .inl (tc 0, 126, .inl sv_34)), ((Ma 12), .inl (tc 0, 46, .inl sv_25))] := hD₀
        replace hS := hS₀
        clear hP₀ hD₀ hS₀
        refine lv_istore (lv' := [(4, .int r_36), (3, .int (-1)), (0, .ref (Ma 0)), (1, .int x1), (2, .int x2)]) hx hb dX12_soothe_43 hl (by decide) rfl (fun ls hl₀ => ?_)
        replace hl := hl₀
        clear hl₀
        refine lv_iconst (v := 0) hx hb dX12_soothe_45 (by decide) ?_
        refine lv_istore (lv' := [(5, .int 0), (4, .int r_36), (3, .int (-1)), (0, .ref (Ma 0)), (1, .int x1), (2, .int x2)]) hx hb dX12_soothe_46 hl (by decide) rfl (fun ls hl₀ => ?_)
        replace hl := hl₀
        clear hl₀
        have loop_55 : ∀ (n_53 : Nat) (vy_46 : Int32) (vy_47 : Int32) (vy_48 : Int32) (vy_49 : Int32) (vy_50 : Nat → Int64) (vy_51 : Nat → Int64) (vy_52 : Nat → Int32) (H : Heap) (locs : List Loc) (ls : Array Slot), (6 - (vy_46 : Int32).toInt).toNat < n_53 → (0 ≤ (vy_46 : Int32).toInt) → (SaidD T vy_52 999) → va_P D classes [((Ma 0), .inr (12, [.ref (Ma 1), .int (Mv 0), .int (Mv 1), .ref (Ma 2), .ref (Ma 3), .ref (Ma 4), .ref (Ma 5), .ref (Ma 6), .int (Mv 2), .int (Mv 3), .int (Mv 4), .int (Mv 5), .int (Mv 6), .int (Mv 7), .int (Mv 8), .ref (Ma 7), .int (Mv 9), .ref (Ma 8), .int vy_49, .ref (Ma 9), .ref (Ma 10), .int (Mv 11), .int (Mv 12), .int (Mv 13), .ref (Ma 11), .int (Mv 14), .ref (Ma 12), .ref (Ma 13), .ref (Ma 14), .ref (Ma 15), .ref (Ma 16), .long (Mj 0), .ref (Ma 17), .ref (Ma 18), .ref (Ma 19), .ref (Ma 20)])), ((Ma 2), .inl (tc 0, 2400, .inl (Mf 2))), ((Ma 4), .inl (tc 0, 288, .inl (Mf 4))), ((Ma 5), .inl (tc 0, 6, .inl (Mf 5))), ((Ma 8), .inl (tc 1, 64, .inr (.inl vy_50))), ((Ma 9), .inl (tc 1, 13, .inr (.inl vy_51))), ((Ma 10), .inl (tc 0, 126, .inl vy_52)), ((Ma 12), .inl (tc 0, 46, .inl sv_25))] H → va_D A [((Ma 0), .inr (12, [.ref (Ma 1), .int (Mv 0), .int (Mv 1), .ref (Ma 2), .ref (Ma 3), .ref (Ma 4), .ref (Ma 5), .ref (Ma 6), .int (Mv 2), .int (Mv 3), .int (Mv 4), .int (Mv 5), .int (Mv 6), .int (Mv 7), .int (Mv 8), .ref (Ma 7), .int (Mv 9), .ref (Ma 8), .int vy_49, .ref (Ma 9), .ref (Ma 10), .int (Mv 11), .int (Mv 12), .int (Mv 13), .ref (Ma 11), .int (Mv 14), .ref (Ma 12), .ref (Ma 13), .ref (Ma 14), .ref (Ma 15), .ref (Ma 16), .long (Mj 0), .ref (Ma 17), .ref (Ma 18), .ref (Ma 19), .ref (Ma 20)])), ((Ma 2), .inl (tc 0, 2400, .inl (Mf 2))), ((Ma 4), .inl (tc 0, 288, .inl (Mf 4))), ((Ma 5), .inl (tc 0, 6, .inl (Mf 5))), ((Ma 8), .inl (tc 1, 64, .inr (.inl vy_50))), ((Ma 9), .inl (tc 1, 13, .inr (.inl vy_51))), ((Ma 10), .inl (tc 0, 126, .inl vy_52)), ((Ma 12), .inl (tc 0, 46, .inl sv_25))] → va_S A s.heap H locs → lv_has ls 7 [(5, .int vy_46), (4, .int vy_47), (3, .int vy_48), (0, .ref (Ma 0)), (1, .int x1), (2, .int x2)] → W p l e ({ frames := 7, cells := 0, slots := 0, locals := 166 }) s m ([.ref (Ma 0), .int x1, .int x2].toArray) below meth c H locs 0 0 (MQ below (QW (fun (v : Option Value) (u : (Int32) × (Nat → Int64) × (Nat → Int64) × (Nat → Int32) × (Nat → Int32)) => match u with | (oo0x1, oo0x2, oo0x3, oo0x4, oo0x5) => ∃ r : Int32, v = some (.int r) ∧ (True) ∧ (SaidD T oo0x4 999)) (BW D (fun (u : (Int32) × (Nat → Int64) × (Nat → Int64) × (Nat → Int32) × (Nat → Int32)) => match u with | (oo0x1, oo0x2, oo0x3, oo0x4, oo0x5) => [((Ma 0), .inr (12, [.ref (Ma 1), .int (Mv 0), .int (Mv 1), .ref (Ma 2), .ref (Ma 3), .ref (Ma 4), .ref (Ma 5), .ref (Ma 6), .int (Mv 2), .int (Mv 3), .int (Mv 4), .int (Mv 5), .int (Mv 6), .int (Mv 7), .int (Mv 8), .ref (Ma 7), .int (Mv 9), .ref (Ma 8), .int oo0x1, .ref (Ma 9), .ref (Ma 10), .int (Mv 11), .int (Mv 12), .int (Mv 13), .ref (Ma 11), .int (Mv 14), .ref (Ma 12), .ref (Ma 13), .ref (Ma 14), .ref (Ma 15), .ref (Ma 16), .long (Mj 0), .ref (Ma 17), .ref (Ma 18), .ref (Ma 19), .ref (Ma 20)])), ((Ma 2), .inl (tc 0, 2400, .inl (Mf 2))), ((Ma 4), .inl (tc 0, 288, .inl (Mf 4))), ((Ma 5), .inl (tc 0, 6, .inl (Mf 5))), ((Ma 8), .inl (tc 1, 64, .inr (.inl oo0x2))), ((Ma 9), .inl (tc 1, 13, .inr (.inl oo0x3))), ((Ma 10), .inl (tc 0, 126, .inl oo0x4)), ((Ma 12), .inl (tc 0, 46, .inl oo0x5))]) A) A) ([.ref (Ma 0), .int x1, .int x2].toArray) s 0 0 A) (F0 m 48 ls []) := by
          clear hP hD hS hl
          intro n_53
          induction n_53 with
          | zero =>
            intro vy_46 vy_47 vy_48 vy_49 vy_50 vy_51 vy_52 H locs ls h1
            exact absurd h1 (Nat.not_lt_zero _)
          | succ n_53 ih_54 =>
            intro vy_46 vy_47 vy_48 vy_49 vy_50 vy_51 vy_52 H locs ls hn_58 pf_56 pf_57 hP hD hS hl
            have ar_pf_57 := SaidD.al pf_57
            refine lv_iload hx hb dX12_soothe_48 (lv_at hl 0 rfl) ?_
            refine lv_aload_n hx hb dX12_soothe_50 rfl (lv_at hl 3 rfl) ?_
            refine gf_X12_39 hx hb hts hown hK hP 0 rfl rfl dX12_soothe_51 ?_
            refine lv_iconst (v := 3) hx hb dX12_soothe_54 (by decide) ?_
            refine va_iald hx hb hK hP 6 0 rfl rfl (vin_dec (by decide +kernel)) dX12_soothe_55 ?_
            refine lv_topi (fun x_59 ex_59 => ?_)
            have lx_59 : x_59.toInt = (vy_52 3).toInt := congrArg Int32.toInt ex_59
            refine lv_icmp_ge (tgt := 102) hx hb dX12_soothe_56 (by decide) (fun c_60 => ?_) (fun c_60 => ?_)
            · skip
              refine lv_iload_n hx hb dX12_soothe_102 rfl (lv_at hl 5 rfl) ?_
              refine lv_if_ne (tgt := 110) hx hb dX12_soothe_103 (by decide) (fun c_61 => ?_) (fun c_61 => ?_)
              · skip
                refine lv_iload hx hb dX12_soothe_110 (lv_at hl 1 rfl) ?_
                exact retI (v := vy_47) hx hb hr hlk (rfl) hP hD hS (vy_49, vy_50, vy_51, vy_52, sv_25) ⟨_, rfl, trivial, pf_57⟩ [0, 1, 2, 3, 4, 5, 6, 7] rfl rfl dX12_soothe_112 (Nat.le_of_ble_eq_true rfl) (Nat.le_of_ble_eq_true rfl) rfl
              · skip
                refine lv_iload_n hx hb dX12_soothe_106 rfl (lv_at hl 2 rfl) ?_
                refine lv_goto (tgt := 112) hx hb dX12_soothe_107 (by decide) ?_
                exact retI (v := vy_48) hx hb hr hlk (rfl) hP hD hS (vy_49, vy_50, vy_51, vy_52, sv_25) ⟨_, rfl, trivial, pf_57⟩ [0, 1, 2, 3, 4, 5, 6, 7] rfl rfl dX12_soothe_112 (Nat.le_of_ble_eq_true rfl) (Nat.le_of_ble_eq_true rfl) rfl
            · skip
              refine lv_aload_n hx hb dX12_soothe_59 rfl (lv_at hl 3 rfl) ?_
              refine gf_X12_39 hx hb hts hown hK hP 0 rfl rfl dX12_soothe_60 ?_
              refine lv_bipush (v := 12) hx hb dX12_soothe_63 (by decide) ?_
              refine lv_iconst (v := 4) hx hb dX12_soothe_65 (by decide) ?_
              refine lv_iload hx hb dX12_soothe_66 (lv_at hl 0 rfl) ?_
              refine lv_imul hx hb dX12_soothe_68 ?_
              refine lv_topi (fun x_62 ex_62 => ?_)
              refine lv_iadd hx hb dX12_soothe_69 ?_
              refine lv_topi (fun x_63 ex_63 => ?_)
              refine lv_iconst (v := 0) hx hb dX12_soothe_70 (by decide) ?_
              have hi_64 : vp_in x_63 126 := by
                have z_1 : ¬ (r_4 : Int32).toInt = (0 : Int32).toInt := fun z => c_7 (Int32.toInt_inj.mp z)
                have z_2 : ¬ (r_11 : Int32).toInt = (0 : Int32).toInt := fun z => c_14 (Int32.toInt_inj.mp z)
                have z_3 : ¬ (r_18 : Int32).toInt = (0 : Int32).toInt := fun z => c_21 (Int32.toInt_inj.mp z)
                have z_4 := Int32.lt_iff_toInt_lt.mp (Int32.not_le.mp c_60)
                have y_0 : (0 : Int32).toInt = 0 := by decide
                have y_4 : (4 : Int32).toInt = 4 := by decide
                have y_12 : (12 : Int32).toInt = 12 := by decide
                have t_x_62 : x_62.toInt = (4 : Int32).toInt * (vy_46 : Int32).toInt := by rw [ex_62]; exact mul_toInt (by first | omega | (rw [y_4]; omega)) (by first | omega | (rw [y_4]; omega))
                rw [y_4] at t_x_62
                have t_x_63 : x_63.toInt = (12 : Int32).toInt + (x_62 : Int32).toInt := by rw [ex_63]; exact add_toInt (by omega) (by omega)
                refine vp_in_iff.mpr ⟨?_, ?_⟩ <;> omega
              refine st_int hx hb hK hP hD hS 6 0 rfl rfl hi_64 dX12_soothe_71 (fun g_65 H locs eg_65 hP₀ hD₀ hS₀ => ?_)
              replace hP : va_P D classes [((Ma 0), .inr (12, [.ref (Ma 1), .int (Mv 0), .int (Mv 1), .ref (Ma 2), .ref (Ma 3), .ref (Ma 4), .ref (Ma 5), .ref (Ma 6), .int (Mv 2), .int (Mv 3), .int (Mv 4), .int (Mv 5), .int (Mv 6), .int (Mv 7), .int (Mv 8), .ref (Ma 7), .int (Mv 9), .ref (Ma 8), .int vy_49, .ref (Ma 9), .ref (Ma 10), .int (Mv 11), .int (Mv 12), .int (Mv 13), .ref (Ma 11), .int (Mv 14), .ref (Ma 12), .ref (Ma 13), .ref (Ma 14), .ref (Ma 15), .ref (Ma 16), .long (Mj 0), .ref (Ma 17), .ref (Ma 18), .ref (Ma 19), .ref (Ma 20)])), ((Ma 2), .inl (tc 0, 2400, .inl (Mf 2))), ((Ma 4), .inl (tc 0, 288, .inl (Mf 4))), ((Ma 5), .inl (tc 0, 6, .inl (Mf 5))), ((Ma 8), .inl (tc 1, 64, .inr (.inl vy_50))), ((Ma 9), .inl (tc 1, 13, .inr (.inl vy_51))), ((Ma 10), .inl (tc 0, 126, .inl g_65)), ((Ma 12), .inl (tc 0, 46, .inl sv_25))] H := hP₀
              replace hD : va_D A [((Ma 0), .inr (12, [.ref (Ma 1), .int (Mv 0), .int (Mv 1), .ref (Ma 2), .ref (Ma 3), .ref (Ma 4), .ref (Ma 5), .ref (Ma 6), .int (Mv 2), .int (Mv 3), .int (Mv 4), .int (Mv 5), .int (Mv 6), .int (Mv 7), .int (Mv 8), .ref (Ma 7), .int (Mv 9), .ref (Ma 8), .int vy_49, .ref (Ma 9), .ref (Ma 10), .int (Mv 11), .int (Mv 12), .int (Mv 13), .ref (Ma 11), .int (Mv 14), .ref (Ma 12), .ref (Ma 13), .ref (Ma 14), .ref (Ma 15), .ref (Ma 16), .long (Mj 0), .ref (Ma 17), .ref (Ma 18), .ref (Ma 19), .ref (Ma 20)])), ((Ma 2), .inl (tc 0, 2400, .inl (Mf 2))), ((Ma 4), .inl (tc 0, 288, .inl (Mf 4))), ((Ma 5), .inl (tc 0, 6, .inl (Mf 5))), ((Ma 8), .inl (tc 1, 64, .inr (.inl vy_50))), ((Ma 9), .inl (tc 1, 13, .inr (.inl vy_51))), ((Ma 10), .inl (tc 0, 126, .inl g_65)), ((Ma 12), .inl (tc 0, 46, .inl sv_25))] := hD₀
              replace hS := hS₀
              clear hP₀ hD₀ hS₀
              have hx_67 : 11 ≤ (x_63 : Int32).toNatClampNeg ∧ (x_63 : Int32).toNatClampNeg < 56 := by
                have z_1 : ¬ (r_4 : Int32).toInt = (0 : Int32).toInt := fun z => c_7 (Int32.toInt_inj.mp z)
                have z_2 : ¬ (r_11 : Int32).toInt = (0 : Int32).toInt := fun z => c_14 (Int32.toInt_inj.mp z)
                have z_3 : ¬ (r_18 : Int32).toInt = (0 : Int32).toInt := fun z => c_21 (Int32.toInt_inj.mp z)
                have z_4 := Int32.lt_iff_toInt_lt.mp (Int32.not_le.mp c_60)
                have y_0 : (0 : Int32).toInt = 0 := by decide
                have y_4 : (4 : Int32).toInt = 4 := by decide
                have y_12 : (12 : Int32).toInt = 12 := by decide
                have t_x_62 : x_62.toInt = (4 : Int32).toInt * (vy_46 : Int32).toInt := by rw [ex_62]; exact mul_toInt (by first | omega | (rw [y_4]; omega)) (by first | omega | (rw [y_4]; omega))
                rw [y_4] at t_x_62
                have t_x_63 : x_63.toInt = (12 : Int32).toInt + (x_62 : Int32).toInt := by rw [ex_63]; exact add_toInt (by omega) (by omega)
                have hcl : (x_63 : Int32).toNatClampNeg = (x_63 : Int32).toInt.toNat := rfl
                omega
              have pf_66 : SaidD T g_65 999 := SaidD.keep pf_57 eg_65 hx_67
              have ar_pf_66 := SaidD.al pf_66
              refine lv_aload_n hx hb dX12_soothe_72 rfl (lv_at hl 3 rfl) ?_
              refine lv_iload_n hx hb dX12_soothe_73 rfl (lv_at hl 4 rfl) ?_
              have ha_68 : 0 ≤ x1.toInt ∧ x1.toInt ≤ 1000 := by
                have z_1 : ¬ (r_4 : Int32).toInt = (0 : Int32).toInt := fun z => c_7 (Int32.toInt_inj.mp z)
                have z_2 : ¬ (r_11 : Int32).toInt = (0 : Int32).toInt := fun z => c_14 (Int32.toInt_inj.mp z)
                have z_3 : ¬ (r_18 : Int32).toInt = (0 : Int32).toInt := fun z => c_21 (Int32.toInt_inj.mp z)
                have z_4 := Int32.lt_iff_toInt_lt.mp (Int32.not_le.mp c_60)
                have y_0 : (0 : Int32).toInt = 0 := by decide
                refine ⟨?_, ?_⟩ <;> omega
              refine cV (a := (Ma 0)) (As := [.int x1]) (rest := []) (wr := []) ⟨hx, hb, hml, hown, hts⟩ hK hX hA (cu_X12_soldIn l D tc sk (Ma 0) (Ma 1) (Ma 2) (Ma 3) (Ma 4) (Ma 5) (Ma 6) (Ma 7) (Ma 8) (Ma 9) (Ma 10) (Ma 11) (Ma 12) (Ma 13) (Ma 14) (Ma 15) (Ma 16) (Ma 17) (Ma 18) (Ma 19) (Ma 20) (Mv 0) (Mv 1) (Mv 2) (Mv 3) (Mv 4) (Mv 5) (Mv 6) (Mv 7) (Mv 8) (Mv 9) vy_49 (Mv 11) (Mv 12) (Mv 13) (Mv 14) (Mf 2) (Mf 4) (Mf 5) g_65 sv_25 (Mj 0) vy_50 vy_51 x1 pf_66 pf_26 h_rul h_frc ha_68) k_1544 k_1541 k_1543 k_84 k_106 pl_X12_soldIn ⟨Nat.le_of_ble_eq_true rfl, Nat.le_of_ble_eq_true rfl⟩ rfl rfl (va_recv hK hP (ci := 12) (q0 := 0) rfl rfl) hP hD hS [0, 1, 2, 3, 4, 5, 6, 7] [] rfl rfl rfl rfl rfl (by decide) rfl hl.1 rfl (Nat.le_of_ble_eq_true rfl) dX12_soothe_74 ⟨Nat.le_of_ble_eq_true rfl, Nat.le_of_ble_eq_true rfl⟩ (fun v_69 u_70 H locs hv_71 hP₀ hD₀ hS₀ => ?_)
              obtain ⟨sv_72, sv_73, sv_74, sv_75⟩ := u_70
              obtain ⟨r_77, rfl, he_78, pf_76⟩ := hv_71
              have pf_76 : SaidD T sv_75 999 := pf_76
              have ar_pf_76 := SaidD.al pf_76
              refine W.eq (g2 := F0 m 77 ls [.int r_77]) rfl ?_
              replace hP : va_P D classes [((Ma 0), .inr (12, [.ref (Ma 1), .int (Mv 0), .int (Mv 1), .ref (Ma 2), .ref (Ma 3), .ref (Ma 4), .ref (Ma 5), .ref (Ma 6), .int (Mv 2), .int (Mv 3), .int (Mv 4), .int (Mv 5), .int (Mv 6), .int (Mv 7), .int (Mv 8), .ref (Ma 7), .int (Mv 9), .ref (Ma 8), .int sv_72, .ref (Ma 9), .ref (Ma 10), .int (Mv 11), .int (Mv 12), .int (Mv 13), .ref (Ma 11), .int (Mv 14), .ref (Ma 12), .ref (Ma 13), .ref (Ma 14), .ref (Ma 15), .ref (Ma 16), .long (Mj 0), .ref (Ma 17), .ref (Ma 18), .ref (Ma 19), .ref (Ma 20)])), ((Ma 2), .inl (tc 0, 2400, .inl (Mf 2))), ((Ma 4), .inl (tc 0, 288, .inl (Mf 4))), ((Ma 5), .inl (tc 0, 6, .inl (Mf 5))), ((Ma 8), .inl (tc 1, 64, .inr (.inl sv_73))), ((Ma 9), .inl (tc 1, 13, .inr (.inl sv_74))), ((Ma 10), .inl (tc 0, 126, .inl sv_75)), ((Ma 12), .inl (tc 0, 46, .inl sv_25))] H := hP₀
              replace hD : va_D A [((Ma 0), .inr (12, [.ref (Ma 1), .int (Mv 0), .int (Mv 1), .ref (Ma 2), .ref (Ma 3), .ref (Ma 4), .ref (Ma 5), .ref (Ma 6), .int (Mv 2), .int (Mv 3), .int (Mv 4), .int (Mv 5), .int (Mv 6), .int (Mv 7), .int (Mv 8), .ref (Ma 7), .int (Mv 9), .ref (Ma 8), .int sv_72, .ref (Ma 9), .ref (Ma 10), .int (Mv 11), .int (Mv 12), .int (Mv 13), .ref (Ma 11), .int (Mv 14), .ref (Ma 12), .ref (Ma 13), .ref (Ma 14), .ref (Ma 15), .ref (Ma 16), .long (Mj 0), .ref (Ma 17), .ref (Ma 18), .ref (Ma 19), .ref (Ma 20)])), ((Ma 2), .inl (tc 0, 2400, .inl (Mf 2))), ((Ma 4), .inl (tc 0, 288, .inl (Mf 4))), ((Ma 5), .inl (tc 0, 6, .inl (Mf 5))), ((Ma 8), .inl (tc 1, 64, .inr (.inl sv_73))), ((Ma 9), .inl (tc 1, 13, .inr (.inl sv_74))), ((Ma 10), .inl (tc 0, 126, .inl sv_75)), ((Ma 12), .inl (tc 0, 46, .inl sv_25))] := hD₀
              replace hS := hS₀
              clear hP₀ hD₀ hS₀
              refine lv_istore (lv' := [(6, .int r_77), (5, .int vy_46), (4, .int vy_47), (3, .int vy_48), (0, .ref (Ma 0)), (1, .int x1), (2, .int x2)]) hx hb dX12_soothe_77 hl (by decide) rfl (fun ls hl₀ => ?_)
              replace hl := hl₀
              clear hl₀
              refine lv_iload hx hb dX12_soothe_79 (lv_at hl 0 rfl) ?_
              refine lv_iload hx hb dX12_soothe_81 (lv_at hl 2 rfl) ?_
              refine lv_icmp_lt (tgt := 89) hx hb dX12_soothe_83 (by decide) (fun c_80 => ?_) (fun c_80 => ?_)
              · skip
                refine lv_iload hx hb dX12_soothe_89 (lv_at hl 1 rfl) ?_
                refine lv_istore_n (lv' := [(3, .int vy_46), (6, .int r_77), (5, .int vy_46), (4, .int vy_47), (0, .ref (Ma 0)), (1, .int x1), (2, .int x2)]) hx hb dX12_soothe_91 rfl hl (by decide) rfl (fun ls hl₀ => ?_)
                replace hl := hl₀
                clear hl₀
                refine lv_iload hx hb dX12_soothe_92 (lv_at hl 1 rfl) ?_
                refine lv_istore (lv' := [(4, .int r_77), (3, .int vy_46), (6, .int r_77), (5, .int vy_46), (0, .ref (Ma 0)), (1, .int x1), (2, .int x2)]) hx hb dX12_soothe_94 hl (by decide) rfl (fun ls hl₀ => ?_)
                replace hl := hl₀
                clear hl₀
                obtain ⟨x_81, ex_81⟩ : ∃ y : Int32, y = vy_46 + 1 := ⟨_, rfl⟩
                refine lv_iinc (v := x_81) (lv' := [(5, .int x_81), (4, .int r_77), (3, .int vy_46), (6, .int r_77), (0, .ref (Ma 0)), (1, .int x1), (2, .int x2)]) hx hb dX12_soothe_96 hl (k := 3) rfl (by rw [ex_81]; rfl) (by decide) rfl (fun ls hl₀ => ?_)
                replace hl := hl₀
                clear hl₀
                refine lv_goto (tgt := 48) hx hb dX12_soothe_99 (by decide) ?_
                have hb_82 : 6 - (x_81 : Int32).toInt < 6 - (vy_46 : Int32).toInt ∧ 1 ≤ 6 - (vy_46 : Int32).toInt := by
                  have z_1 : ¬ (r_4 : Int32).toInt = (0 : Int32).toInt := fun z => c_7 (Int32.toInt_inj.mp z)
                  have z_2 : ¬ (r_11 : Int32).toInt = (0 : Int32).toInt := fun z => c_14 (Int32.toInt_inj.mp z)
                  have z_3 : ¬ (r_18 : Int32).toInt = (0 : Int32).toInt := fun z => c_21 (Int32.toInt_inj.mp z)
                  have z_4 := Int32.lt_iff_toInt_lt.mp (Int32.not_le.mp c_60)
                  have z_5 := Int32.lt_iff_toInt_lt.mp c_80
                  have y_0 : (0 : Int32).toInt = 0 := by decide
                  have y_1 : (1 : Int32).toInt = 1 := by decide
                  have t_x_81 : x_81.toInt = (vy_46 : Int32).toInt + (1 : Int32).toInt := by rw [ex_81]; exact add_toInt (by omega) (by omega)
                  refine ⟨?_, ?_⟩ <;> omega
                have ha_83 : 0 ≤ (x_81 : Int32).toInt := by
                  have z_1 : ¬ (r_4 : Int32).toInt = (0 : Int32).toInt := fun z => c_7 (Int32.toInt_inj.mp z)
                  have z_2 : ¬ (r_11 : Int32).toInt = (0 : Int32).toInt := fun z => c_14 (Int32.toInt_inj.mp z)
                  have z_3 : ¬ (r_18 : Int32).toInt = (0 : Int32).toInt := fun z => c_21 (Int32.toInt_inj.mp z)
                  have z_4 := Int32.lt_iff_toInt_lt.mp (Int32.not_le.mp c_60)
                  have z_5 := Int32.lt_iff_toInt_lt.mp c_80
                  have y_0 : (0 : Int32).toInt = 0 := by decide
                  have y_1 : (1 : Int32).toInt = 1 := by decide
                  have t_x_81 : x_81.toInt = (vy_46 : Int32).toInt + (1 : Int32).toInt := by rw [ex_81]; exact add_toInt (by omega) (by omega)
                  omega
                exact ih_54 x_81 r_77 vy_46 sv_72 sv_73 sv_74 sv_75 _ _ _ (by omega) ha_83 pf_76 (hP.sub [0, 1, 2, 3, 4, 5, 6, 7] rfl) (hD.sub [0, 1, 2, 3, 4, 5, 6, 7] rfl rfl) hS (lv_sub hl [0, 1, 2, 4, 5, 6] rfl)
              · skip
                refine lv_goto (tgt := 96) hx hb dX12_soothe_86 (by decide) ?_
                obtain ⟨x_84, ex_84⟩ : ∃ y : Int32, y = vy_46 + 1 := ⟨_, rfl⟩
                refine lv_iinc (v := x_84) (lv' := [(5, .int x_84), (6, .int r_77), (4, .int vy_47), (3, .int vy_48), (0, .ref (Ma 0)), (1, .int x1), (2, .int x2)]) hx hb dX12_soothe_96 hl (k := 1) rfl (by rw [ex_84]; rfl) (by decide) rfl (fun ls hl₀ => ?_)
                replace hl := hl₀
                clear hl₀
                refine lv_goto (tgt := 48) hx hb dX12_soothe_99 (by decide) ?_
                have hb_85 : 6 - (x_84 : Int32).toInt < 6 - (vy_46 : Int32).toInt ∧ 1 ≤ 6 - (vy_46 : Int32).toInt := by
                  have z_1 : ¬ (r_4 : Int32).toInt = (0 : Int32).toInt := fun z => c_7 (Int32.toInt_inj.mp z)
                  have z_2 : ¬ (r_11 : Int32).toInt = (0 : Int32).toInt := fun z => c_14 (Int32.toInt_inj.mp z)
                  have z_3 : ¬ (r_18 : Int32).toInt = (0 : Int32).toInt := fun z => c_21 (Int32.toInt_inj.mp z)
                  have z_4 := Int32.lt_iff_toInt_lt.mp (Int32.not_le.mp c_60)
                  have z_5 := Int32.le_iff_toInt_le.mp (Int32.not_lt.mp c_80)
                  have y_0 : (0 : Int32).toInt = 0 := by decide
                  have y_1 : (1 : Int32).toInt = 1 := by decide
                  have t_x_84 : x_84.toInt = (vy_46 : Int32).toInt + (1 : Int32).toInt := by rw [ex_84]; exact add_toInt (by omega) (by omega)
                  refine ⟨?_, ?_⟩ <;> omega
                have ha_86 : 0 ≤ (x_84 : Int32).toInt := by
                  have z_1 : ¬ (r_4 : Int32).toInt = (0 : Int32).toInt := fun z => c_7 (Int32.toInt_inj.mp z)
                  have z_2 : ¬ (r_11 : Int32).toInt = (0 : Int32).toInt := fun z => c_14 (Int32.toInt_inj.mp z)
                  have z_3 : ¬ (r_18 : Int32).toInt = (0 : Int32).toInt := fun z => c_21 (Int32.toInt_inj.mp z)
                  have z_4 := Int32.lt_iff_toInt_lt.mp (Int32.not_le.mp c_60)
                  have z_5 := Int32.le_iff_toInt_le.mp (Int32.not_lt.mp c_80)
                  have y_0 : (0 : Int32).toInt = 0 := by decide
                  have y_1 : (1 : Int32).toInt = 1 := by decide
                  have t_x_84 : x_84.toInt = (vy_46 : Int32).toInt + (1 : Int32).toInt := by rw [ex_84]; exact add_toInt (by omega) (by omega)
                  omega
                exact ih_54 x_84 vy_47 vy_48 sv_72 sv_73 sv_74 sv_75 _ _ _ (by omega) ha_86 pf_76 (hP.sub [0, 1, 2, 3, 4, 5, 6, 7] rfl) (hD.sub [0, 1, 2, 3, 4, 5, 6, 7] rfl rfl) hS (lv_sub hl [0, 2, 3, 4, 5, 6] rfl)
        have ha_87 : 0 ≤ (0 : Int32).toInt := by
          have z_1 : ¬ (r_4 : Int32).toInt = (0 : Int32).toInt := fun z => c_7 (Int32.toInt_inj.mp z)
          have z_2 : ¬ (r_11 : Int32).toInt = (0 : Int32).toInt := fun z => c_14 (Int32.toInt_inj.mp z)
          have z_3 : ¬ (r_18 : Int32).toInt = (0 : Int32).toInt := fun z => c_21 (Int32.toInt_inj.mp z)
          have y_0 : (0 : Int32).toInt = 0 := by decide
          omega
        exact loop_55 _ 0 r_36 (-1) sv_31 sv_32 sv_33 sv_34 _ _ _ (Nat.lt_succ_self _) ha_87 pf_35 hP hD hS hl
      · skip
        refine lv_bipush (v := (-2)) hx hb dX12_soothe_29 (by decide) ?_
        exact retI (v := (-2)) hx hb hr hlk (rfl) hP hD hS ((Mv 10), (Mg 8), (Mg 9), (Mf 10), (Mf 12)) ⟨_, rfl, trivial, h_said⟩ [6, 0, 1, 2, 3, 4, 7, 5] rfl rfl dX12_soothe_31 (Nat.le_of_ble_eq_true rfl) (Nat.le_of_ble_eq_true rfl) rfl
