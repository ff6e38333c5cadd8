set_option maxRecDepth 16384
theorem sx_0 {sk : (Nat → Nat) × (Nat → Nat)} {A : Nat → Prop} {U : State} {H : Heap} (h : Sx sk A U H) : vk_R RX0 41 "book sky buyer watch " (sk.1 0) U := h.2.2.2.1 0 (RX0, 41, "book sky buyer watch ") rfl
theorem sx_1 {sk : (Nat → Nat) × (Nat → Nat)} {A : Nat → Prop} {U : State} {H : Heap} (h : Sx sk A U H) : vk_R RX7 31 "buy" (sk.1 1) U := h.2.2.2.1 1 (RX7, 31, "buy") rfl
theorem sx_2 {sk : (Nat → Nat) × (Nat → Nat)} {A : Nat → Prop} {U : State} {H : Heap} (h : Sx sk A U H) : vk_R RX7 111 "buyer temper grains waits still next shelf bought met since sold clock day " (sk.1 2) U := h.2.2.2.1 2 (RX7, 111, "buyer temper grains waits still next shelf bought met since sold clock day ") rfl
theorem sx_3 {sk : (Nat → Nat) × (Nat → Nat)} {A : Nat → Prop} {U : State} {H : Heap} (h : Sx sk A U H) : vk_R RX7 48 "if" (sk.1 3) U := h.2.2.2.1 3 (RX7, 48, "if") rfl
theorem sx_4 {sk : (Nat → Nat) × (Nat → Nat)} {A : Nat → Prop} {U : State} {H : Heap} (h : Sx sk A U H) : vk_R RX7 84 "not" (sk.1 4) U := h.2.2.2.1 4 (RX7, 84, "not") rfl
theorem sx_5 {sk : (Nat → Nat) × (Nat → Nat)} {A : Nat → Prop} {U : State} {H : Heap} (h : Sx sk A U H) : vk_R RX7 80 "and" (sk.1 5) U := h.2.2.2.1 5 (RX7, 80, "and") rfl
theorem sx_6 {sk : (Nat → Nat) × (Nat → Nat)} {A : Nat → Prop} {U : State} {H : Heap} (h : Sx sk A U H) : vk_R RX7 82 "or" (sk.1 6) U := h.2.2.2.1 6 (RX7, 82, "or") rfl
theorem dX7_arithmetic_0 : decode cX7_arithmetic 0 = .ok (.aload_n 0, 1) := by decide +kernel
theorem dX7_arithmetic_1 : decode cX7_arithmetic 1 = .ok (.getfield 86, 3) := by decide +kernel
theorem dX7_arithmetic_4 : decode cX7_arithmetic 4 = .ok (.tableswitch 75 37 47 #[72, 75, 75, 75, 75, 66, 60, 75, 63, 75, 69], 60) := by decide +kernel
theorem dX7_arithmetic_64 : decode cX7_arithmetic 64 = .ok (.bipush (-12), 2) := by decide +kernel
theorem dX7_arithmetic_66 : decode cX7_arithmetic 66 = .ok (.ireturn, 1) := by decide +kernel
theorem dX7_arithmetic_67 : decode cX7_arithmetic 67 = .ok (.bipush (-13), 2) := by decide +kernel
theorem dX7_arithmetic_69 : decode cX7_arithmetic 69 = .ok (.ireturn, 1) := by decide +kernel
theorem dX7_arithmetic_70 : decode cX7_arithmetic 70 = .ok (.bipush (-14), 2) := by decide +kernel
theorem dX7_arithmetic_72 : decode cX7_arithmetic 72 = .ok (.ireturn, 1) := by decide +kernel
theorem dX7_arithmetic_73 : decode cX7_arithmetic 73 = .ok (.bipush (-15), 2) := by decide +kernel
theorem dX7_arithmetic_75 : decode cX7_arithmetic 75 = .ok (.ireturn, 1) := by decide +kernel
theorem dX7_arithmetic_76 : decode cX7_arithmetic 76 = .ok (.bipush (-16), 2) := by decide +kernel
theorem dX7_arithmetic_78 : decode cX7_arithmetic 78 = .ok (.ireturn, 1) := by decide +kernel
theorem dX7_arithmetic_79 : decode cX7_arithmetic 79 = .ok (.iconst (-1), 1) := by decide +kernel
theorem dX7_arithmetic_80 : decode cX7_arithmetic 80 = .ok (.ireturn, 1) := by decide +kernel
theorem dX7_comparison_0 : decode cX7_comparison 0 = .ok (.aload_n 0, 1) := by decide +kernel
theorem dX7_comparison_1 : decode cX7_comparison 1 = .ok (.getfield 118, 3) := by decide +kernel
theorem dX7_comparison_4 : decode cX7_comparison 4 = .ok (.aload_n 0, 1) := by decide +kernel
theorem dX7_comparison_5 : decode cX7_comparison 5 = .ok (.getfield 121, 3) := by decide +kernel
theorem dX7_comparison_8 : decode cX7_comparison 8 = .ok (.isub, 1) := by decide +kernel
theorem dX7_comparison_9 : decode cX7_comparison 9 = .ok (.iconst 2, 1) := by decide +kernel
theorem dX7_comparison_10 : decode cX7_comparison 10 = .ok (.if_icmp .ne 7, 3) := by decide +kernel
theorem dX7_comparison_13 : decode cX7_comparison 13 = .ok (.iconst 1, 1) := by decide +kernel
theorem dX7_comparison_14 : decode cX7_comparison 14 = .ok (.goto 4, 3) := by decide +kernel
theorem dX7_comparison_17 : decode cX7_comparison 17 = .ok (.iconst 0, 1) := by decide +kernel
theorem dX7_comparison_18 : decode cX7_comparison 18 = .ok (.istore_n 1, 1) := by decide +kernel
theorem dX7_comparison_19 : decode cX7_comparison 19 = .ok (.aload_n 0, 1) := by decide +kernel
theorem dX7_comparison_20 : decode cX7_comparison 20 = .ok (.getfield 86, 3) := by decide +kernel
theorem dX7_comparison_23 : decode cX7_comparison 23 = .ok (.tableswitch 52 60 62 #[25, 37, 40], 25) := by decide +kernel
theorem dX7_comparison_48 : decode cX7_comparison 48 = .ok (.iload_n 1, 1) := by decide +kernel
theorem dX7_comparison_49 : decode cX7_comparison 49 = .ok (.ifCond .eq 8, 3) := by decide +kernel
theorem dX7_comparison_52 : decode cX7_comparison 52 = .ok (.bipush (-8), 2) := by decide +kernel
theorem dX7_comparison_54 : decode cX7_comparison 54 = .ok (.goto 5, 3) := by decide +kernel
theorem dX7_comparison_57 : decode cX7_comparison 57 = .ok (.bipush (-7), 2) := by decide +kernel
theorem dX7_comparison_59 : decode cX7_comparison 59 = .ok (.ireturn, 1) := by decide +kernel
theorem dX7_comparison_60 : decode cX7_comparison 60 = .ok (.bipush (-9), 2) := by decide +kernel
theorem dX7_comparison_62 : decode cX7_comparison 62 = .ok (.ireturn, 1) := by decide +kernel
theorem dX7_comparison_63 : decode cX7_comparison 63 = .ok (.iload_n 1, 1) := by decide +kernel
theorem dX7_comparison_64 : decode cX7_comparison 64 = .ok (.ifCond .eq 8, 3) := by decide +kernel
theorem dX7_comparison_67 : decode cX7_comparison 67 = .ok (.bipush (-10), 2) := by decide +kernel
theorem dX7_comparison_69 : decode cX7_comparison 69 = .ok (.goto 5, 3) := by decide +kernel
theorem dX7_comparison_72 : decode cX7_comparison 72 = .ok (.bipush (-11), 2) := by decide +kernel
theorem dX7_comparison_74 : decode cX7_comparison 74 = .ok (.ireturn, 1) := by decide +kernel
theorem dX7_comparison_75 : decode cX7_comparison 75 = .ok (.iconst (-1), 1) := by decide +kernel
theorem dX7_comparison_76 : decode cX7_comparison 76 = .ok (.ireturn, 1) := by decide +kernel
theorem dX7_countOne_0 : decode cX7_countOne 0 = .ok (.aload_n 0, 1) := by decide +kernel
theorem dX7_countOne_1 : decode cX7_countOne 1 = .ok (.getfield 19, 3) := by decide +kernel
theorem dX7_countOne_4 : decode cX7_countOne 4 = .ok (.bipush 60, 2) := by decide +kernel
theorem dX7_countOne_6 : decode cX7_countOne 6 = .ok (.if_icmp .lt 8, 3) := by decide +kernel
theorem dX7_countOne_9 : decode cX7_countOne 9 = .ok (.aload_n 1, 1) := by decide +kernel
theorem dX7_countOne_10 : decode cX7_countOne 10 = .ok (.iconst 3, 1) := by decide +kernel
theorem dX7_countOne_11 : decode cX7_countOne 11 = .ok (.invokevirtual 37, 3) := by decide +kernel
theorem dX7_countOne_14 : decode cX7_countOne 14 = .ok (.aload_n 0, 1) := by decide +kernel
theorem dX7_countOne_15 : decode cX7_countOne 15 = .ok (.dup, 1) := by decide +kernel
theorem dX7_countOne_16 : decode cX7_countOne 16 = .ok (.getfield 19, 3) := by decide +kernel
theorem dX7_countOne_19 : decode cX7_countOne 19 = .ok (.iconst 1, 1) := by decide +kernel
theorem dX7_countOne_20 : decode cX7_countOne 20 = .ok (.iadd, 1) := by decide +kernel
theorem dX7_countOne_21 : decode cX7_countOne 21 = .ok (.putfield 19, 3) := by decide +kernel
theorem dX7_countOne_24 : decode cX7_countOne 24 = .ok (.return_, 1) := by decide +kernel
theorem dX7_put_0 : decode cX7_put 0 = .ok (.aload_n 0, 1) := by decide +kernel
theorem dX7_put_1 : decode cX7_put 1 = .ok (.getfield 15, 3) := by decide +kernel
theorem dX7_put_4 : decode cX7_put 4 = .ok (.ifCond .lt 35, 3) := by decide +kernel
theorem dX7_put_7 : decode cX7_put 7 = .ok (.aload_n 0, 1) := by decide +kernel
theorem dX7_put_8 : decode cX7_put 8 = .ok (.getfield 15, 3) := by decide +kernel
theorem dX7_put_11 : decode cX7_put 11 = .ok (.aload_n 0, 1) := by decide +kernel
theorem dX7_put_12 : decode cX7_put 12 = .ok (.getfield 9, 3) := by decide +kernel
theorem dX7_put_15 : decode cX7_put 15 = .ok (.arraylength, 1) := by decide +kernel
theorem dX7_put_16 : decode cX7_put 16 = .ok (.if_icmp .ge 23, 3) := by decide +kernel
theorem dX7_put_19 : decode cX7_put 19 = .ok (.aload_n 0, 1) := by decide +kernel
theorem dX7_put_20 : decode cX7_put 20 = .ok (.getfield 9, 3) := by decide +kernel
theorem dX7_put_23 : decode cX7_put 23 = .ok (.aload_n 0, 1) := by decide +kernel
theorem dX7_put_24 : decode cX7_put 24 = .ok (.getfield 15, 3) := by decide +kernel
theorem dX7_put_27 : decode cX7_put 27 = .ok (.iload_n 1, 1) := by decide +kernel
theorem dX7_put_28 : decode cX7_put 28 = .ok (.iastore, 1) := by decide +kernel
theorem dX7_put_29 : decode cX7_put 29 = .ok (.aload_n 0, 1) := by decide +kernel
theorem dX7_put_30 : decode cX7_put 30 = .ok (.dup, 1) := by decide +kernel
theorem dX7_put_31 : decode cX7_put 31 = .ok (.getfield 15, 3) := by decide +kernel
theorem dX7_put_34 : decode cX7_put 34 = .ok (.iconst 1, 1) := by decide +kernel
theorem dX7_put_35 : decode cX7_put 35 = .ok (.iadd, 1) := by decide +kernel
theorem dX7_put_36 : decode cX7_put 36 = .ok (.putfield 15, 3) := by decide +kernel
theorem dX7_put_39 : decode cX7_put 39 = .ok (.return_, 1) := by decide +kernel
theorem dX7_readSum_0 : decode cX7_readSum 0 = .ok (.aload_n 0, 1) := by decide +kernel
theorem dX7_readSum_1 : decode cX7_readSum 1 = .ok (.aload_n 1, 1) := by decide +kernel
theorem dX7_readSum_2 : decode cX7_readSum 2 = .ok (.invokevirtual 96, 3) := by decide +kernel
theorem dX7_readSum_5 : decode cX7_readSum 5 = .ok (.iconst (-1), 1) := by decide +kernel
theorem dX7_readSum_6 : decode cX7_readSum 6 = .ok (.istore_n 2, 1) := by decide +kernel
theorem dX7_readSum_7 : decode cX7_readSum 7 = .ok (.iconst 0, 1) := by decide +kernel
theorem dX7_readSum_8 : decode cX7_readSum 8 = .ok (.istore_n 3, 1) := by decide +kernel
theorem dX7_readSum_9 : decode cX7_readSum 9 = .ok (.iload_n 3, 1) := by decide +kernel
theorem dX7_readSum_10 : decode cX7_readSum 10 = .ok (.sipush 400, 3) := by decide +kernel
theorem dX7_readSum_13 : decode cX7_readSum 13 = .ok (.if_icmp .ge 73, 3) := by decide +kernel
theorem dX7_readSum_16 : decode cX7_readSum 16 = .ok (.aload_n 1, 1) := by decide +kernel
theorem dX7_readSum_17 : decode cX7_readSum 17 = .ok (.invokestatic 99, 3) := by decide +kernel
theorem dX7_readSum_20 : decode cX7_readSum 20 = .ok (.iconst (-1), 1) := by decide +kernel
theorem dX7_readSum_21 : decode cX7_readSum 21 = .ok (.if_icmp .eq 65, 3) := by decide +kernel
theorem dX7_readSum_24 : decode cX7_readSum 24 = .ok (.aload_n 1, 1) := by decide +kernel
theorem dX7_readSum_25 : decode cX7_readSum 25 = .ok (.invokestatic 99, 3) := by decide +kernel
theorem dX7_readSum_28 : decode cX7_readSum 28 = .ok (.istore 4, 2) := by decide +kernel
theorem dX7_readSum_30 : decode cX7_readSum 30 = .ok (.aload_n 1, 1) := by decide +kernel
theorem dX7_readSum_31 : decode cX7_readSum 31 = .ok (.invokevirtual 41, 3) := by decide +kernel
theorem dX7_readSum_34 : decode cX7_readSum 34 = .ok (.iload 4, 2) := by decide +kernel
theorem dX7_readSum_36 : decode cX7_readSum 36 = .ok (.bipush (-12), 2) := by decide +kernel
theorem dX7_readSum_38 : decode cX7_readSum 38 = .ok (.if_icmp .eq 10, 3) := by decide +kernel
theorem dX7_readSum_41 : decode cX7_readSum 41 = .ok (.iload 4, 2) := by decide +kernel
theorem dX7_readSum_43 : decode cX7_readSum 43 = .ok (.bipush (-13), 2) := by decide +kernel
theorem dX7_readSum_45 : decode cX7_readSum 45 = .ok (.if_icmp .ne 24, 3) := by decide +kernel
theorem dX7_readSum_48 : decode cX7_readSum 48 = .ok (.iload_n 2, 1) := by decide +kernel
theorem dX7_readSum_49 : decode cX7_readSum 49 = .ok (.iconst (-1), 1) := by decide +kernel
theorem dX7_readSum_50 : decode cX7_readSum 50 = .ok (.if_icmp .eq 8, 3) := by decide +kernel
theorem dX7_readSum_53 : decode cX7_readSum 53 = .ok (.aload_n 0, 1) := by decide +kernel
theorem dX7_readSum_54 : decode cX7_readSum 54 = .ok (.iload_n 2, 1) := by decide +kernel
theorem dX7_readSum_55 : decode cX7_readSum 55 = .ok (.invokevirtual 59, 3) := by decide +kernel
theorem dX7_readSum_58 : decode cX7_readSum 58 = .ok (.iload 4, 2) := by decide +kernel
theorem dX7_readSum_60 : decode cX7_readSum 60 = .ok (.istore_n 2, 1) := by decide +kernel
theorem dX7_readSum_61 : decode cX7_readSum 61 = .ok (.aload_n 0, 1) := by decide +kernel
theorem dX7_readSum_62 : decode cX7_readSum 62 = .ok (.aload_n 1, 1) := by decide +kernel
theorem dX7_readSum_63 : decode cX7_readSum 63 = .ok (.invokevirtual 96, 3) := by decide +kernel
theorem dX7_readSum_66 : decode cX7_readSum 66 = .ok (.goto 14, 3) := by decide +kernel
theorem dX7_readSum_69 : decode cX7_readSum 69 = .ok (.aload_n 0, 1) := by decide +kernel
theorem dX7_readSum_70 : decode cX7_readSum 70 = .ok (.aload_n 1, 1) := by decide +kernel
theorem dX7_readSum_71 : decode cX7_readSum 71 = .ok (.invokevirtual 96, 3) := by decide +kernel
theorem dX7_readSum_74 : decode cX7_readSum 74 = .ok (.aload_n 0, 1) := by decide +kernel
theorem dX7_readSum_75 : decode cX7_readSum 75 = .ok (.iload 4, 2) := by decide +kernel
theorem dX7_readSum_77 : decode cX7_readSum 77 = .ok (.invokevirtual 59, 3) := by decide +kernel
theorem dX7_readSum_80 : decode cX7_readSum 80 = .ok (.iinc 3 1, 3) := by decide +kernel
theorem dX7_readSum_83 : decode cX7_readSum 83 = .ok (.goto (-74), 3) := by decide +kernel
theorem dX7_readSum_86 : decode cX7_readSum 86 = .ok (.iload_n 2, 1) := by decide +kernel
theorem dX7_readSum_87 : decode cX7_readSum 87 = .ok (.iconst (-1), 1) := by decide +kernel
theorem dX7_readSum_88 : decode cX7_readSum 88 = .ok (.if_icmp .eq 8, 3) := by decide +kernel
theorem dX7_readSum_91 : decode cX7_readSum 91 = .ok (.aload_n 0, 1) := by decide +kernel
theorem dX7_readSum_92 : decode cX7_readSum 92 = .ok (.iload_n 2, 1) := by decide +kernel
theorem dX7_readSum_93 : decode cX7_readSum 93 = .ok (.invokevirtual 59, 3) := by decide +kernel
theorem dX7_readSum_96 : decode cX7_readSum 96 = .ok (.return_, 1) := by decide +kernel
theorem dX7_readValue_0 : decode cX7_readValue 0 = .ok (.iconst 0, 1) := by decide +kernel
theorem dX7_readValue_1 : decode cX7_readValue 1 = .ok (.istore_n 2, 1) := by decide +kernel
theorem dX7_readValue_2 : decode cX7_readValue 2 = .ok (.aload_n 1, 1) := by decide +kernel
theorem dX7_readValue_3 : decode cX7_readValue 3 = .ok (.getfield 86, 3) := by decide +kernel
theorem dX7_readValue_6 : decode cX7_readValue 6 = .ok (.invokestatic 102, 3) := by decide +kernel
theorem dX7_readValue_9 : decode cX7_readValue 9 = .ok (.ifCond .eq 14, 3) := by decide +kernel
theorem dX7_readValue_12 : decode cX7_readValue 12 = .ok (.aload_n 1, 1) := by decide +kernel
theorem dX7_readValue_13 : decode cX7_readValue 13 = .ok (.iconst 0, 1) := by decide +kernel
theorem dX7_readValue_14 : decode cX7_readValue 14 = .ok (.ldc 106, 2) := by decide +kernel
theorem dX7_readValue_16 : decode cX7_readValue 16 = .ok (.invokevirtual 107, 3) := by decide +kernel
theorem dX7_readValue_19 : decode cX7_readValue 19 = .ok (.istore_n 2, 1) := by decide +kernel
theorem dX7_readValue_20 : decode cX7_readValue 20 = .ok (.goto 28, 3) := by decide +kernel
theorem dX7_readValue_23 : decode cX7_readValue 23 = .ok (.aload_n 1, 1) := by decide +kernel
theorem dX7_readValue_24 : decode cX7_readValue 24 = .ok (.ldc 111, 2) := by decide +kernel
theorem dX7_readValue_26 : decode cX7_readValue 26 = .ok (.invokevirtual 113, 3) := by decide +kernel
theorem dX7_readValue_29 : decode cX7_readValue 29 = .ok (.istore_n 3, 1) := by decide +kernel
theorem dX7_readValue_30 : decode cX7_readValue 30 = .ok (.iload_n 3, 1) := by decide +kernel
theorem dX7_readValue_31 : decode cX7_readValue 31 = .ok (.iconst (-1), 1) := by decide +kernel
theorem dX7_readValue_32 : decode cX7_readValue 32 = .ok (.if_icmp .ne 11, 3) := by decide +kernel
theorem dX7_readValue_35 : decode cX7_readValue 35 = .ok (.aload_n 1, 1) := by decide +kernel
theorem dX7_readValue_36 : decode cX7_readValue 36 = .ok (.iconst 0, 1) := by decide +kernel
theorem dX7_readValue_37 : decode cX7_readValue 37 = .ok (.invokevirtual 37, 3) := by decide +kernel
theorem dX7_readValue_40 : decode cX7_readValue 40 = .ok (.goto 8, 3) := by decide +kernel
theorem dX7_readValue_43 : decode cX7_readValue 43 = .ok (.ldc 117, 2) := by decide +kernel
theorem dX7_readValue_45 : decode cX7_readValue 45 = .ok (.iload_n 3, 1) := by decide +kernel
theorem dX7_readValue_46 : decode cX7_readValue 46 = .ok (.iadd, 1) := by decide +kernel
theorem dX7_readValue_47 : decode cX7_readValue 47 = .ok (.istore_n 2, 1) := by decide +kernel
theorem dX7_readValue_48 : decode cX7_readValue 48 = .ok (.aload_n 0, 1) := by decide +kernel
theorem dX7_readValue_49 : decode cX7_readValue 49 = .ok (.aload_n 1, 1) := by decide +kernel
theorem dX7_readValue_50 : decode cX7_readValue 50 = .ok (.invokevirtual 93, 3) := by decide +kernel
theorem dX7_readValue_53 : decode cX7_readValue 53 = .ok (.aload_n 0, 1) := by decide +kernel
theorem dX7_readValue_54 : decode cX7_readValue 54 = .ok (.iload_n 2, 1) := by decide +kernel
theorem dX7_readValue_55 : decode cX7_readValue 55 = .ok (.invokevirtual 59, 3) := by decide +kernel
theorem dX7_readValue_58 : decode cX7_readValue 58 = .ok (.aload_n 1, 1) := by decide +kernel
theorem dX7_readValue_59 : decode cX7_readValue 59 = .ok (.invokevirtual 41, 3) := by decide +kernel
theorem dX7_readValue_62 : decode cX7_readValue 62 = .ok (.return_, 1) := by decide +kernel
theorem dX7_readFact_0 : decode cX7_readFact 0 = .ok (.aload_n 1, 1) := by decide +kernel
theorem dX7_readFact_1 : decode cX7_readFact 1 = .ok (.ldc 84, 2) := by decide +kernel
theorem dX7_readFact_3 : decode cX7_readFact 3 = .ok (.invokevirtual 33, 3) := by decide +kernel
theorem dX7_readFact_6 : decode cX7_readFact 6 = .ok (.istore_n 3, 1) := by decide +kernel
theorem dX7_readFact_7 : decode cX7_readFact 7 = .ok (.iload_n 3, 1) := by decide +kernel
theorem dX7_readFact_8 : decode cX7_readFact 8 = .ok (.ifCond .ne 12, 3) := by decide +kernel
theorem dX7_readFact_11 : decode cX7_readFact 11 = .ok (.aload_n 1, 1) := by decide +kernel
theorem dX7_readFact_12 : decode cX7_readFact 12 = .ok (.getfield 86, 3) := by decide +kernel
theorem dX7_readFact_15 : decode cX7_readFact 15 = .ok (.bipush 91, 2) := by decide +kernel
theorem dX7_readFact_17 : decode cX7_readFact 17 = .ok (.if_icmp .ne 17, 3) := by decide +kernel
theorem dX7_readFact_20 : decode cX7_readFact 20 = .ok (.iload_n 2, 1) := by decide +kernel
theorem dX7_readFact_21 : decode cX7_readFact 21 = .ok (.bipush 10, 2) := by decide +kernel
theorem dX7_readFact_23 : decode cX7_readFact 23 = .ok (.if_icmp .lt 11, 3) := by decide +kernel
theorem dX7_readFact_26 : decode cX7_readFact 26 = .ok (.aload_n 1, 1) := by decide +kernel
theorem dX7_readFact_27 : decode cX7_readFact 27 = .ok (.iconst 2, 1) := by decide +kernel
theorem dX7_readFact_28 : decode cX7_readFact 28 = .ok (.invokevirtual 37, 3) := by decide +kernel
theorem dX7_readFact_31 : decode cX7_readFact 31 = .ok (.goto 104, 3) := by decide +kernel
theorem dX7_readFact_34 : decode cX7_readFact 34 = .ok (.iload_n 3, 1) := by decide +kernel
theorem dX7_readFact_35 : decode cX7_readFact 35 = .ok (.ifCond .eq 24, 3) := by decide +kernel
theorem dX7_readFact_38 : decode cX7_readFact 38 = .ok (.aload_n 1, 1) := by decide +kernel
theorem dX7_readFact_39 : decode cX7_readFact 39 = .ok (.invokevirtual 41, 3) := by decide +kernel
theorem dX7_readFact_42 : decode cX7_readFact 42 = .ok (.aload_n 0, 1) := by decide +kernel
theorem dX7_readFact_43 : decode cX7_readFact 43 = .ok (.aload_n 1, 1) := by decide +kernel
theorem dX7_readFact_44 : decode cX7_readFact 44 = .ok (.iload_n 2, 1) := by decide +kernel
theorem dX7_readFact_45 : decode cX7_readFact 45 = .ok (.iconst 1, 1) := by decide +kernel
theorem dX7_readFact_46 : decode cX7_readFact 46 = .ok (.iadd, 1) := by decide +kernel
theorem dX7_readFact_47 : decode cX7_readFact 47 = .ok (.invokevirtual 77, 3) := by decide +kernel
theorem dX7_readFact_50 : decode cX7_readFact 50 = .ok (.aload_n 0, 1) := by decide +kernel
theorem dX7_readFact_51 : decode cX7_readFact 51 = .ok (.bipush (-4), 2) := by decide +kernel
theorem dX7_readFact_53 : decode cX7_readFact 53 = .ok (.invokevirtual 59, 3) := by decide +kernel
theorem dX7_readFact_56 : decode cX7_readFact 56 = .ok (.goto 79, 3) := by decide +kernel
theorem dX7_readFact_59 : decode cX7_readFact 59 = .ok (.aload_n 1, 1) := by decide +kernel
theorem dX7_readFact_60 : decode cX7_readFact 60 = .ok (.bipush 91, 2) := by decide +kernel
theorem dX7_readFact_62 : decode cX7_readFact 62 = .ok (.invokevirtual 27, 3) := by decide +kernel
theorem dX7_readFact_65 : decode cX7_readFact 65 = .ok (.ifCond .eq 28, 3) := by decide +kernel
theorem dX7_readFact_68 : decode cX7_readFact 68 = .ok (.aload_n 0, 1) := by decide +kernel
theorem dX7_readFact_69 : decode cX7_readFact 69 = .ok (.aload_n 1, 1) := by decide +kernel
theorem dX7_readFact_70 : decode cX7_readFact 70 = .ok (.iload_n 2, 1) := by decide +kernel
theorem dX7_readFact_71 : decode cX7_readFact 71 = .ok (.iconst 1, 1) := by decide +kernel
theorem dX7_readFact_72 : decode cX7_readFact 72 = .ok (.iadd, 1) := by decide +kernel
theorem dX7_readFact_73 : decode cX7_readFact 73 = .ok (.invokevirtual 53, 3) := by decide +kernel
theorem dX7_readFact_76 : decode cX7_readFact 76 = .ok (.aload_n 1, 1) := by decide +kernel
theorem dX7_readFact_77 : decode cX7_readFact 77 = .ok (.bipush 93, 2) := by decide +kernel
theorem dX7_readFact_79 : decode cX7_readFact 79 = .ok (.invokevirtual 27, 3) := by decide +kernel
theorem dX7_readFact_82 : decode cX7_readFact 82 = .ok (.ifCond .ne 53, 3) := by decide +kernel
theorem dX7_readFact_85 : decode cX7_readFact 85 = .ok (.aload_n 1, 1) := by decide +kernel
theorem dX7_readFact_86 : decode cX7_readFact 86 = .ok (.iconst 0, 1) := by decide +kernel
theorem dX7_readFact_87 : decode cX7_readFact 87 = .ok (.invokevirtual 37, 3) := by decide +kernel
theorem dX7_readFact_90 : decode cX7_readFact 90 = .ok (.goto 45, 3) := by decide +kernel
theorem dX7_readFact_93 : decode cX7_readFact 93 = .ok (.aload_n 0, 1) := by decide +kernel
theorem dX7_readFact_94 : decode cX7_readFact 94 = .ok (.aload_n 1, 1) := by decide +kernel
theorem dX7_readFact_95 : decode cX7_readFact 95 = .ok (.invokevirtual 44, 3) := by decide +kernel
theorem dX7_readFact_98 : decode cX7_readFact 98 = .ok (.aload_n 1, 1) := by decide +kernel
theorem dX7_readFact_99 : decode cX7_readFact 99 = .ok (.invokestatic 89, 3) := by decide +kernel
theorem dX7_readFact_102 : decode cX7_readFact 102 = .ok (.istore 4, 2) := by decide +kernel
theorem dX7_readFact_104 : decode cX7_readFact 104 = .ok (.iload 4, 2) := by decide +kernel
theorem dX7_readFact_106 : decode cX7_readFact 106 = .ok (.iconst (-1), 1) := by decide +kernel
theorem dX7_readFact_107 : decode cX7_readFact 107 = .ok (.if_icmp .ne 8, 3) := by decide +kernel
theorem dX7_readFact_110 : decode cX7_readFact 110 = .ok (.aload_n 1, 1) := by decide +kernel
theorem dX7_readFact_111 : decode cX7_readFact 111 = .ok (.iconst 0, 1) := by decide +kernel
theorem dX7_readFact_112 : decode cX7_readFact 112 = .ok (.invokevirtual 37, 3) := by decide +kernel
theorem dX7_readFact_115 : decode cX7_readFact 115 = .ok (.aload_n 0, 1) := by decide +kernel
theorem dX7_readFact_116 : decode cX7_readFact 116 = .ok (.aload_n 1, 1) := by decide +kernel
theorem dX7_readFact_117 : decode cX7_readFact 117 = .ok (.invokevirtual 93, 3) := by decide +kernel
theorem dX7_readFact_120 : decode cX7_readFact 120 = .ok (.aload_n 1, 1) := by decide +kernel
theorem dX7_readFact_121 : decode cX7_readFact 121 = .ok (.invokevirtual 41, 3) := by decide +kernel
theorem dX7_readFact_124 : decode cX7_readFact 124 = .ok (.aload_n 0, 1) := by decide +kernel
theorem dX7_readFact_125 : decode cX7_readFact 125 = .ok (.aload_n 1, 1) := by decide +kernel
theorem dX7_readFact_126 : decode cX7_readFact 126 = .ok (.invokevirtual 44, 3) := by decide +kernel
theorem dX7_readFact_129 : decode cX7_readFact 129 = .ok (.aload_n 0, 1) := by decide +kernel
theorem dX7_readFact_130 : decode cX7_readFact 130 = .ok (.iload 4, 2) := by decide +kernel
theorem dX7_readFact_132 : decode cX7_readFact 132 = .ok (.invokevirtual 59, 3) := by decide +kernel
theorem dX7_readFact_135 : decode cX7_readFact 135 = .ok (.return_, 1) := by decide +kernel
theorem dX7_readTest_0 : decode cX7_readTest 0 = .ok (.aload_n 0, 1) := by decide +kernel
theorem dX7_readTest_1 : decode cX7_readTest 1 = .ok (.aload_n 1, 1) := by decide +kernel
theorem dX7_readTest_2 : decode cX7_readTest 2 = .ok (.iload_n 2, 1) := by decide +kernel
theorem dX7_readTest_3 : decode cX7_readTest 3 = .ok (.invokevirtual 77, 3) := by decide +kernel
theorem dX7_readTest_6 : decode cX7_readTest 6 = .ok (.iconst 0, 1) := by decide +kernel
theorem dX7_readTest_7 : decode cX7_readTest 7 = .ok (.istore_n 3, 1) := by decide +kernel
theorem dX7_readTest_8 : decode cX7_readTest 8 = .ok (.iconst 0, 1) := by decide +kernel
theorem dX7_readTest_9 : decode cX7_readTest 9 = .ok (.istore 4, 2) := by decide +kernel
theorem dX7_readTest_11 : decode cX7_readTest 11 = .ok (.iload 4, 2) := by decide +kernel
theorem dX7_readTest_13 : decode cX7_readTest 13 = .ok (.sipush 400, 3) := by decide +kernel
theorem dX7_readTest_16 : decode cX7_readTest 16 = .ok (.if_icmp .ge 76, 3) := by decide +kernel
theorem dX7_readTest_19 : decode cX7_readTest 19 = .ok (.aload_n 1, 1) := by decide +kernel
theorem dX7_readTest_20 : decode cX7_readTest 20 = .ok (.ldc 80, 2) := by decide +kernel
theorem dX7_readTest_22 : decode cX7_readTest 22 = .ok (.invokevirtual 33, 3) := by decide +kernel
theorem dX7_readTest_25 : decode cX7_readTest 25 = .ok (.ifCond .ne 12, 3) := by decide +kernel
theorem dX7_readTest_28 : decode cX7_readTest 28 = .ok (.aload_n 1, 1) := by decide +kernel
theorem dX7_readTest_29 : decode cX7_readTest 29 = .ok (.ldc 82, 2) := by decide +kernel
theorem dX7_readTest_31 : decode cX7_readTest 31 = .ok (.invokevirtual 33, 3) := by decide +kernel
theorem dX7_readTest_34 : decode cX7_readTest 34 = .ok (.ifCond .eq 58, 3) := by decide +kernel
theorem dX7_readTest_37 : decode cX7_readTest 37 = .ok (.aload_n 1, 1) := by decide +kernel
theorem dX7_readTest_38 : decode cX7_readTest 38 = .ok (.ldc 82, 2) := by decide +kernel
theorem dX7_readTest_40 : decode cX7_readTest 40 = .ok (.invokevirtual 33, 3) := by decide +kernel
theorem dX7_readTest_43 : decode cX7_readTest 43 = .ok (.istore 5, 2) := by decide +kernel
theorem dX7_readTest_45 : decode cX7_readTest 45 = .ok (.iload 5, 2) := by decide +kernel
theorem dX7_readTest_47 : decode cX7_readTest 47 = .ok (.ifCond .eq 13, 3) := by decide +kernel
theorem dX7_readTest_50 : decode cX7_readTest 50 = .ok (.iload_n 3, 1) := by decide +kernel
theorem dX7_readTest_51 : decode cX7_readTest 51 = .ok (.ifCond .eq 9, 3) := by decide +kernel
theorem dX7_readTest_54 : decode cX7_readTest 54 = .ok (.aload_n 0, 1) := by decide +kernel
theorem dX7_readTest_55 : decode cX7_readTest 55 = .ok (.bipush (-6), 2) := by decide +kernel
theorem dX7_readTest_57 : decode cX7_readTest 57 = .ok (.invokevirtual 59, 3) := by decide +kernel
theorem dX7_readTest_60 : decode cX7_readTest 60 = .ok (.aload_n 1, 1) := by decide +kernel
theorem dX7_readTest_61 : decode cX7_readTest 61 = .ok (.invokevirtual 41, 3) := by decide +kernel
theorem dX7_readTest_64 : decode cX7_readTest 64 = .ok (.aload_n 0, 1) := by decide +kernel
theorem dX7_readTest_65 : decode cX7_readTest 65 = .ok (.aload_n 1, 1) := by decide +kernel
theorem dX7_readTest_66 : decode cX7_readTest 66 = .ok (.iload_n 2, 1) := by decide +kernel
theorem dX7_readTest_67 : decode cX7_readTest 67 = .ok (.invokevirtual 77, 3) := by decide +kernel
theorem dX7_readTest_70 : decode cX7_readTest 70 = .ok (.iload 5, 2) := by decide +kernel
theorem dX7_readTest_72 : decode cX7_readTest 72 = .ok (.ifCond .eq 8, 3) := by decide +kernel
theorem dX7_readTest_75 : decode cX7_readTest 75 = .ok (.iconst 1, 1) := by decide +kernel
theorem dX7_readTest_76 : decode cX7_readTest 76 = .ok (.istore_n 3, 1) := by decide +kernel
theorem dX7_readTest_77 : decode cX7_readTest 77 = .ok (.goto 9, 3) := by decide +kernel
theorem dX7_readTest_80 : decode cX7_readTest 80 = .ok (.aload_n 0, 1) := by decide +kernel
theorem dX7_readTest_81 : decode cX7_readTest 81 = .ok (.bipush (-5), 2) := by decide +kernel
theorem dX7_readTest_83 : decode cX7_readTest 83 = .ok (.invokevirtual 59, 3) := by decide +kernel
theorem dX7_readTest_86 : decode cX7_readTest 86 = .ok (.iinc 4 1, 3) := by decide +kernel
theorem dX7_readTest_89 : decode cX7_readTest 89 = .ok (.goto (-78), 3) := by decide +kernel
theorem dX7_readTest_92 : decode cX7_readTest 92 = .ok (.iload_n 3, 1) := by decide +kernel
theorem dX7_readTest_93 : decode cX7_readTest 93 = .ok (.ifCond .eq 9, 3) := by decide +kernel
theorem dX7_readTest_96 : decode cX7_readTest 96 = .ok (.aload_n 0, 1) := by decide +kernel
theorem dX7_readTest_97 : decode cX7_readTest 97 = .ok (.bipush (-6), 2) := by decide +kernel
theorem dX7_readTest_99 : decode cX7_readTest 99 = .ok (.invokevirtual 59, 3) := by decide +kernel
theorem dX7_readTest_102 : decode cX7_readTest 102 = .ok (.return_, 1) := by decide +kernel
theorem dX2_agrees_0 : decode cX2_agrees 0 = .ok (.iconst 0, 1) := by decide +kernel
theorem dX2_agrees_1 : decode cX2_agrees 1 = .ok (.istore_n 3, 1) := by decide +kernel
theorem dX2_agrees_2 : decode cX2_agrees 2 = .ok (.iload_n 3, 1) := by decide +kernel
theorem dX2_agrees_3 : decode cX2_agrees 3 = .ok (.aload_n 2, 1) := by decide +kernel
theorem dX2_agrees_4 : decode cX2_agrees 4 = .ok (.getfield 51, 3) := by decide +kernel
theorem dX2_agrees_7 : decode cX2_agrees 7 = .ok (.if_icmp .ge 46, 3) := by decide +kernel
theorem dX2_agrees_10 : decode cX2_agrees 10 = .ok (.iload_n 3, 1) := by decide +kernel
theorem dX2_agrees_11 : decode cX2_agrees 11 = .ok (.bipush 10, 2) := by decide +kernel
theorem dX2_agrees_13 : decode cX2_agrees 13 = .ok (.if_icmp .ge 40, 3) := by decide +kernel
theorem dX2_agrees_16 : decode cX2_agrees 16 = .ok (.aload_n 0, 1) := by decide +kernel
theorem dX2_agrees_17 : decode cX2_agrees 17 = .ok (.iload_n 1, 1) := by decide +kernel
theorem dX2_agrees_18 : decode cX2_agrees 18 = .ok (.aload_n 2, 1) := by decide +kernel
theorem dX2_agrees_19 : decode cX2_agrees 19 = .ok (.getfield 56, 3) := by decide +kernel
theorem dX2_agrees_22 : decode cX2_agrees 22 = .ok (.iload_n 3, 1) := by decide +kernel
theorem dX2_agrees_23 : decode cX2_agrees 23 = .ok (.iaload, 1) := by decide +kernel
theorem dX2_agrees_24 : decode cX2_agrees 24 = .ok (.invokevirtual 59, 3) := by decide +kernel
theorem dX2_agrees_27 : decode cX2_agrees 27 = .ok (.aload_n 2, 1) := by decide +kernel
theorem dX2_agrees_28 : decode cX2_agrees 28 = .ok (.getfield 63, 3) := by decide +kernel
theorem dX2_agrees_31 : decode cX2_agrees 31 = .ok (.iload_n 3, 1) := by decide +kernel
theorem dX2_agrees_32 : decode cX2_agrees 32 = .ok (.iaload, 1) := by decide +kernel
theorem dX2_agrees_33 : decode cX2_agrees 33 = .ok (.ishr, 1) := by decide +kernel
theorem dX2_agrees_34 : decode cX2_agrees 34 = .ok (.iconst 1, 1) := by decide +kernel
theorem dX2_agrees_35 : decode cX2_agrees 35 = .ok (.iand, 1) := by decide +kernel
theorem dX2_agrees_36 : decode cX2_agrees 36 = .ok (.aload_n 2, 1) := by decide +kernel
theorem dX2_agrees_37 : decode cX2_agrees 37 = .ok (.getfield 66, 3) := by decide +kernel
theorem dX2_agrees_40 : decode cX2_agrees 40 = .ok (.iload_n 3, 1) := by decide +kernel
theorem dX2_agrees_41 : decode cX2_agrees 41 = .ok (.iaload, 1) := by decide +kernel
theorem dX2_agrees_42 : decode cX2_agrees 42 = .ok (.if_icmp .eq 5, 3) := by decide +kernel
theorem dX2_agrees_45 : decode cX2_agrees 45 = .ok (.iconst 0, 1) := by decide +kernel
theorem dX2_agrees_46 : decode cX2_agrees 46 = .ok (.ireturn, 1) := by decide +kernel
theorem dX2_agrees_47 : decode cX2_agrees 47 = .ok (.iinc 3 1, 3) := by decide +kernel
theorem dX2_agrees_50 : decode cX2_agrees 50 = .ok (.goto (-48), 3) := by decide +kernel
theorem dX2_agrees_53 : decode cX2_agrees 53 = .ok (.iconst 1, 1) := by decide +kernel
theorem dX2_agrees_54 : decode cX2_agrees 54 = .ok (.ireturn, 1) := by decide +kernel
theorem dX2_dayToLook_0 : decode cX2_dayToLook 0 = .ok (.aload_n 0, 1) := by decide +kernel
theorem dX2_dayToLook_1 : decode cX2_dayToLook 1 = .ok (.getfield 26, 3) := by decide +kernel
theorem dX2_dayToLook_4 : decode cX2_dayToLook 4 = .ok (.ifCond .ne 6, 3) := by decide +kernel
theorem dX2_dayToLook_7 : decode cX2_dayToLook 7 = .ok (.bipush (-2), 2) := by decide +kernel
theorem dX2_dayToLook_9 : decode cX2_dayToLook 9 = .ok (.ireturn, 1) := by decide +kernel
theorem dX2_dayToLook_10 : decode cX2_dayToLook 10 = .ok (.iconst 0, 1) := by decide +kernel
theorem dX2_dayToLook_11 : decode cX2_dayToLook 11 = .ok (.istore_n 2, 1) := by decide +kernel
theorem dX2_dayToLook_12 : decode cX2_dayToLook 12 = .ok (.bipush 8, 2) := by decide +kernel
theorem dX2_dayToLook_14 : decode cX2_dayToLook 14 = .ok (.istore_n 3, 1) := by decide +kernel
theorem dX2_dayToLook_15 : decode cX2_dayToLook 15 = .ok (.iconst 0, 1) := by decide +kernel
theorem dX2_dayToLook_16 : decode cX2_dayToLook 16 = .ok (.istore 4, 2) := by decide +kernel
theorem dX2_dayToLook_18 : decode cX2_dayToLook 18 = .ok (.iload 4, 2) := by decide +kernel
theorem dX2_dayToLook_20 : decode cX2_dayToLook 20 = .ok (.bipush 61, 2) := by decide +kernel
theorem dX2_dayToLook_22 : decode cX2_dayToLook 22 = .ok (.if_icmp .ge 29, 3) := by decide +kernel
theorem dX2_dayToLook_25 : decode cX2_dayToLook 25 = .ok (.aload_n 0, 1) := by decide +kernel
theorem dX2_dayToLook_26 : decode cX2_dayToLook 26 = .ok (.iload 4, 2) := by decide +kernel
theorem dX2_dayToLook_28 : decode cX2_dayToLook 28 = .ok (.invokevirtual 69, 3) := by decide +kernel
theorem dX2_dayToLook_31 : decode cX2_dayToLook 31 = .ok (.istore 5, 2) := by decide +kernel
theorem dX2_dayToLook_33 : decode cX2_dayToLook 33 = .ok (.iload 5, 2) := by decide +kernel
theorem dX2_dayToLook_35 : decode cX2_dayToLook 35 = .ok (.iload_n 3, 1) := by decide +kernel
theorem dX2_dayToLook_36 : decode cX2_dayToLook 36 = .ok (.if_icmp .ge 9, 3) := by decide +kernel
theorem dX2_dayToLook_39 : decode cX2_dayToLook 39 = .ok (.iload 5, 2) := by decide +kernel
theorem dX2_dayToLook_41 : decode cX2_dayToLook 41 = .ok (.istore_n 3, 1) := by decide +kernel
theorem dX2_dayToLook_42 : decode cX2_dayToLook 42 = .ok (.iload 4, 2) := by decide +kernel
theorem dX2_dayToLook_44 : decode cX2_dayToLook 44 = .ok (.istore_n 2, 1) := by decide +kernel
theorem dX2_dayToLook_45 : decode cX2_dayToLook 45 = .ok (.iinc 4 1, 3) := by decide +kernel
theorem dX2_dayToLook_48 : decode cX2_dayToLook 48 = .ok (.goto (-30), 3) := by decide +kernel
theorem dX2_dayToLook_51 : decode cX2_dayToLook 51 = .ok (.iload_n 1, 1) := by decide +kernel
theorem dX2_dayToLook_52 : decode cX2_dayToLook 52 = .ok (.ifCond .ne 7, 3) := by decide +kernel
theorem dX2_dayToLook_55 : decode cX2_dayToLook 55 = .ok (.iload_n 2, 1) := by decide +kernel
theorem dX2_dayToLook_56 : decode cX2_dayToLook 56 = .ok (.goto 4, 3) := by decide +kernel
theorem dX2_dayToLook_59 : decode cX2_dayToLook 59 = .ok (.iload_n 3, 1) := by decide +kernel
theorem dX2_dayToLook_60 : decode cX2_dayToLook 60 = .ok (.ireturn, 1) := by decide +kernel
theorem dX2_firstFitting_0 : decode cX2_firstFitting 0 = .ok (.iconst 0, 1) := by decide +kernel
theorem dX2_firstFitting_1 : decode cX2_firstFitting 1 = .ok (.istore_n 1, 1) := by decide +kernel
theorem dX2_firstFitting_2 : decode cX2_firstFitting 2 = .ok (.iload_n 1, 1) := by decide +kernel
theorem dX2_firstFitting_3 : decode cX2_firstFitting 3 = .ok (.bipush 7, 2) := by decide +kernel
theorem dX2_firstFitting_5 : decode cX2_firstFitting 5 = .ok (.if_icmp .ge 22, 3) := by decide +kernel
theorem dX2_firstFitting_8 : decode cX2_firstFitting 8 = .ok (.aload_n 0, 1) := by decide +kernel
theorem dX2_firstFitting_9 : decode cX2_firstFitting 9 = .ok (.getfield 22, 3) := by decide +kernel
theorem dX2_firstFitting_12 : decode cX2_firstFitting 12 = .ok (.iload_n 1, 1) := by decide +kernel
theorem dX2_firstFitting_13 : decode cX2_firstFitting 13 = .ok (.baload, 1) := by decide +kernel
theorem dX2_firstFitting_14 : decode cX2_firstFitting 14 = .ok (.ifCond .eq 7, 3) := by decide +kernel
theorem dX2_firstFitting_17 : decode cX2_firstFitting 17 = .ok (.iload_n 1, 1) := by decide +kernel
theorem dX2_firstFitting_18 : decode cX2_firstFitting 18 = .ok (.iconst 1, 1) := by decide +kernel
theorem dX2_firstFitting_19 : decode cX2_firstFitting 19 = .ok (.isub, 1) := by decide +kernel
theorem dX2_firstFitting_20 : decode cX2_firstFitting 20 = .ok (.ireturn, 1) := by decide +kernel
theorem dX2_firstFitting_21 : decode cX2_firstFitting 21 = .ok (.iinc 1 1, 3) := by decide +kernel
theorem dX2_firstFitting_24 : decode cX2_firstFitting 24 = .ok (.goto (-22), 3) := by decide +kernel
theorem dX2_firstFitting_27 : decode cX2_firstFitting 27 = .ok (.bipush (-2), 2) := by decide +kernel
theorem dX2_firstFitting_29 : decode cX2_firstFitting 29 = .ok (.ireturn, 1) := by decide +kernel
theorem dX2_mostAlike_0 : decode cX2_mostAlike 0 = .ok (.iconst 0, 1) := by decide +kernel
theorem dX2_mostAlike_1 : decode cX2_mostAlike 1 = .ok (.istore_n 2, 1) := by decide +kernel
theorem dX2_mostAlike_2 : decode cX2_mostAlike 2 = .ok (.iconst 0, 1) := by decide +kernel
theorem dX2_mostAlike_3 : decode cX2_mostAlike 3 = .ok (.istore_n 3, 1) := by decide +kernel
theorem dX2_mostAlike_4 : decode cX2_mostAlike 4 = .ok (.iload_n 3, 1) := by decide +kernel
theorem dX2_mostAlike_5 : decode cX2_mostAlike 5 = .ok (.bipush 7, 2) := by decide +kernel
theorem dX2_mostAlike_7 : decode cX2_mostAlike 7 = .ok (.if_icmp .ge 73, 3) := by decide +kernel
theorem dX2_mostAlike_10 : decode cX2_mostAlike 10 = .ok (.iconst 0, 1) := by decide +kernel
theorem dX2_mostAlike_11 : decode cX2_mostAlike 11 = .ok (.istore 4, 2) := by decide +kernel
theorem dX2_mostAlike_13 : decode cX2_mostAlike 13 = .ok (.iconst 0, 1) := by decide +kernel
theorem dX2_mostAlike_14 : decode cX2_mostAlike 14 = .ok (.istore 5, 2) := by decide +kernel
theorem dX2_mostAlike_16 : decode cX2_mostAlike 16 = .ok (.iload 5, 2) := by decide +kernel
theorem dX2_mostAlike_18 : decode cX2_mostAlike 18 = .ok (.bipush 7, 2) := by decide +kernel
theorem dX2_mostAlike_20 : decode cX2_mostAlike 20 = .ok (.if_icmp .ge 47, 3) := by decide +kernel
theorem dX2_mostAlike_23 : decode cX2_mostAlike 23 = .ok (.aload_n 0, 1) := by decide +kernel
theorem dX2_mostAlike_24 : decode cX2_mostAlike 24 = .ok (.getfield 22, 3) := by decide +kernel
theorem dX2_mostAlike_27 : decode cX2_mostAlike 27 = .ok (.iload_n 3, 1) := by decide +kernel
theorem dX2_mostAlike_28 : decode cX2_mostAlike 28 = .ok (.baload, 1) := by decide +kernel
theorem dX2_mostAlike_29 : decode cX2_mostAlike 29 = .ok (.ifCond .eq 32, 3) := by decide +kernel
theorem dX2_mostAlike_32 : decode cX2_mostAlike 32 = .ok (.aload_n 0, 1) := by decide +kernel
theorem dX2_mostAlike_33 : decode cX2_mostAlike 33 = .ok (.getfield 22, 3) := by decide +kernel
theorem dX2_mostAlike_36 : decode cX2_mostAlike 36 = .ok (.iload 5, 2) := by decide +kernel
theorem dX2_mostAlike_38 : decode cX2_mostAlike 38 = .ok (.baload, 1) := by decide +kernel
theorem dX2_mostAlike_39 : decode cX2_mostAlike 39 = .ok (.ifCond .eq 22, 3) := by decide +kernel
theorem dX2_mostAlike_42 : decode cX2_mostAlike 42 = .ok (.aload_n 0, 1) := by decide +kernel
theorem dX2_mostAlike_43 : decode cX2_mostAlike 43 = .ok (.iload_n 3, 1) := by decide +kernel
theorem dX2_mostAlike_44 : decode cX2_mostAlike 44 = .ok (.iload_n 1, 1) := by decide +kernel
theorem dX2_mostAlike_45 : decode cX2_mostAlike 45 = .ok (.invokevirtual 59, 3) := by decide +kernel
theorem dX2_mostAlike_48 : decode cX2_mostAlike 48 = .ok (.aload_n 0, 1) := by decide +kernel
theorem dX2_mostAlike_49 : decode cX2_mostAlike 49 = .ok (.iload 5, 2) := by decide +kernel
theorem dX2_mostAlike_51 : decode cX2_mostAlike 51 = .ok (.iload_n 1, 1) := by decide +kernel
theorem dX2_mostAlike_52 : decode cX2_mostAlike 52 = .ok (.invokevirtual 59, 3) := by decide +kernel
theorem dX2_mostAlike_55 : decode cX2_mostAlike 55 = .ok (.if_icmp .ne 6, 3) := by decide +kernel
theorem dX2_mostAlike_58 : decode cX2_mostAlike 58 = .ok (.iinc 4 1, 3) := by decide +kernel
theorem dX2_mostAlike_61 : decode cX2_mostAlike 61 = .ok (.iinc 5 1, 3) := by decide +kernel
theorem dX2_mostAlike_64 : decode cX2_mostAlike 64 = .ok (.goto (-48), 3) := by decide +kernel
theorem dX2_mostAlike_67 : decode cX2_mostAlike 67 = .ok (.iload_n 2, 1) := by decide +kernel
theorem dX2_mostAlike_68 : decode cX2_mostAlike 68 = .ok (.iload 4, 2) := by decide +kernel
theorem dX2_mostAlike_70 : decode cX2_mostAlike 70 = .ok (.invokestatic 73, 3) := by decide +kernel
theorem dX2_mostAlike_73 : decode cX2_mostAlike 73 = .ok (.istore_n 2, 1) := by decide +kernel
theorem dX2_mostAlike_74 : decode cX2_mostAlike 74 = .ok (.iinc 3 1, 3) := by decide +kernel
theorem dX2_mostAlike_77 : decode cX2_mostAlike 77 = .ok (.goto (-73), 3) := by decide +kernel
theorem dX2_mostAlike_80 : decode cX2_mostAlike 80 = .ok (.iload_n 2, 1) := by decide +kernel
theorem dX2_mostAlike_81 : decode cX2_mostAlike 81 = .ok (.ireturn, 1) := by decide +kernel
theorem dX2_whoOn_0 : decode cX2_whoOn 0 = .ok (.iload_n 1, 1) := by decide +kernel
theorem dX2_whoOn_1 : decode cX2_whoOn 1 = .ok (.bipush 61, 2) := by decide +kernel
theorem dX2_whoOn_3 : decode cX2_whoOn 3 = .ok (.imul, 1) := by decide +kernel
theorem dX2_whoOn_4 : decode cX2_whoOn 4 = .ok (.iload_n 2, 1) := by decide +kernel
theorem dX2_whoOn_5 : decode cX2_whoOn 5 = .ok (.iadd, 1) := by decide +kernel
theorem dX2_whoOn_6 : decode cX2_whoOn 6 = .ok (.istore_n 3, 1) := by decide +kernel
theorem dX2_whoOn_7 : decode cX2_whoOn 7 = .ok (.iload_n 3, 1) := by decide +kernel
theorem dX2_whoOn_8 : decode cX2_whoOn 8 = .ok (.ifCond .lt 21, 3) := by decide +kernel
theorem dX2_whoOn_11 : decode cX2_whoOn 11 = .ok (.iload_n 3, 1) := by decide +kernel
theorem dX2_whoOn_12 : decode cX2_whoOn 12 = .ok (.aload_n 0, 1) := by decide +kernel
theorem dX2_whoOn_13 : decode cX2_whoOn 13 = .ok (.getfield 18, 3) := by decide +kernel
theorem dX2_whoOn_16 : decode cX2_whoOn 16 = .ok (.arraylength, 1) := by decide +kernel
theorem dX2_whoOn_17 : decode cX2_whoOn 17 = .ok (.if_icmp .ge 12, 3) := by decide +kernel
theorem dX2_whoOn_20 : decode cX2_whoOn 20 = .ok (.aload_n 0, 1) := by decide +kernel
theorem dX2_whoOn_21 : decode cX2_whoOn 21 = .ok (.getfield 18, 3) := by decide +kernel
theorem dX2_whoOn_24 : decode cX2_whoOn 24 = .ok (.iload_n 3, 1) := by decide +kernel
theorem dX2_whoOn_25 : decode cX2_whoOn 25 = .ok (.iaload, 1) := by decide +kernel
theorem dX2_whoOn_26 : decode cX2_whoOn 26 = .ok (.goto 4, 3) := by decide +kernel
theorem dX2_whoOn_29 : decode cX2_whoOn 29 = .ok (.iconst 0, 1) := by decide +kernel
theorem dX2_whoOn_30 : decode cX2_whoOn 30 = .ok (.ireturn, 1) := by decide +kernel
theorem dX3_add_0 : decode cX3_add 0 = .ok (.aload_n 0, 1) := by decide +kernel
theorem dX3_add_1 : decode cX3_add 1 = .ok (.getfield 19, 3) := by decide +kernel
theorem dX3_add_4 : decode cX3_add 4 = .ok (.ifCond .lt 12, 3) := by decide +kernel
theorem dX3_add_7 : decode cX3_add 7 = .ok (.aload_n 0, 1) := by decide +kernel
theorem dX3_add_8 : decode cX3_add 8 = .ok (.getfield 19, 3) := by decide +kernel
theorem dX3_add_11 : decode cX3_add 11 = .ok (.bipush 10, 2) := by decide +kernel
theorem dX3_add_13 : decode cX3_add 13 = .ok (.if_icmp .lt 5, 3) := by decide +kernel
theorem dX3_add_16 : decode cX3_add 16 = .ok (.iconst 0, 1) := by decide +kernel
theorem dX3_add_17 : decode cX3_add 17 = .ok (.ireturn, 1) := by decide +kernel
theorem dX3_add_18 : decode cX3_add 18 = .ok (.aload_n 0, 1) := by decide +kernel
theorem dX3_add_19 : decode cX3_add 19 = .ok (.getfield 9, 3) := by decide +kernel
theorem dX3_add_22 : decode cX3_add 22 = .ok (.aload_n 0, 1) := by decide +kernel
theorem dX3_add_23 : decode cX3_add 23 = .ok (.getfield 19, 3) := by decide +kernel
theorem dX3_add_26 : decode cX3_add 26 = .ok (.iload_n 1, 1) := by decide +kernel
theorem dX3_add_27 : decode cX3_add 27 = .ok (.iastore, 1) := by decide +kernel
theorem dX3_add_28 : decode cX3_add 28 = .ok (.aload_n 0, 1) := by decide +kernel
theorem dX3_add_29 : decode cX3_add 29 = .ok (.getfield 13, 3) := by decide +kernel
theorem dX3_add_32 : decode cX3_add 32 = .ok (.aload_n 0, 1) := by decide +kernel
theorem dX3_add_33 : decode cX3_add 33 = .ok (.getfield 19, 3) := by decide +kernel
theorem dX3_add_36 : decode cX3_add 36 = .ok (.iload_n 2, 1) := by decide +kernel
theorem dX3_add_37 : decode cX3_add 37 = .ok (.iastore, 1) := by decide +kernel
theorem dX3_add_38 : decode cX3_add 38 = .ok (.aload_n 0, 1) := by decide +kernel
theorem dX3_add_39 : decode cX3_add 39 = .ok (.getfield 16, 3) := by decide +kernel
theorem dX3_add_42 : decode cX3_add 42 = .ok (.aload_n 0, 1) := by decide +kernel
theorem dX3_add_43 : decode cX3_add 43 = .ok (.getfield 19, 3) := by decide +kernel
theorem dX3_add_46 : decode cX3_add 46 = .ok (.iload_n 3, 1) := by decide +kernel
theorem dX3_add_47 : decode cX3_add 47 = .ok (.iastore, 1) := by decide +kernel
theorem dX3_add_48 : decode cX3_add 48 = .ok (.aload_n 0, 1) := by decide +kernel
theorem dX3_add_49 : decode cX3_add 49 = .ok (.dup, 1) := by decide +kernel
theorem dX3_add_50 : decode cX3_add 50 = .ok (.getfield 19, 3) := by decide +kernel
theorem dX3_add_53 : decode cX3_add 53 = .ok (.iconst 1, 1) := by decide +kernel
theorem dX3_add_54 : decode cX3_add 54 = .ok (.iadd, 1) := by decide +kernel
theorem dX3_add_55 : decode cX3_add 55 = .ok (.putfield 19, 3) := by decide +kernel
theorem dX3_add_58 : decode cX3_add 58 = .ok (.iconst 1, 1) := by decide +kernel
theorem dX3_add_59 : decode cX3_add 59 = .ok (.ireturn, 1) := by decide +kernel
theorem dX3_copyFrom_0 : decode cX3_copyFrom 0 = .ok (.aload_n 1, 1) := by decide +kernel
theorem dX3_copyFrom_1 : decode cX3_copyFrom 1 = .ok (.getfield 9, 3) := by decide +kernel
theorem dX3_copyFrom_4 : decode cX3_copyFrom 4 = .ok (.iconst 0, 1) := by decide +kernel
theorem dX3_copyFrom_5 : decode cX3_copyFrom 5 = .ok (.aload_n 0, 1) := by decide +kernel
theorem dX3_copyFrom_6 : decode cX3_copyFrom 6 = .ok (.getfield 9, 3) := by decide +kernel
theorem dX3_copyFrom_9 : decode cX3_copyFrom 9 = .ok (.iconst 0, 1) := by decide +kernel
theorem dX3_copyFrom_10 : decode cX3_copyFrom 10 = .ok (.bipush 10, 2) := by decide +kernel
theorem dX3_copyFrom_12 : decode cX3_copyFrom 12 = .ok (.invokestatic 23, 3) := by decide +kernel
theorem dX3_copyFrom_15 : decode cX3_copyFrom 15 = .ok (.aload_n 1, 1) := by decide +kernel
theorem dX3_copyFrom_16 : decode cX3_copyFrom 16 = .ok (.getfield 13, 3) := by decide +kernel
theorem dX3_copyFrom_19 : decode cX3_copyFrom 19 = .ok (.iconst 0, 1) := by decide +kernel
theorem dX3_copyFrom_20 : decode cX3_copyFrom 20 = .ok (.aload_n 0, 1) := by decide +kernel
theorem dX3_copyFrom_21 : decode cX3_copyFrom 21 = .ok (.getfield 13, 3) := by decide +kernel
theorem dX3_copyFrom_24 : decode cX3_copyFrom 24 = .ok (.iconst 0, 1) := by decide +kernel
theorem dX3_copyFrom_25 : decode cX3_copyFrom 25 = .ok (.bipush 10, 2) := by decide +kernel
theorem dX3_copyFrom_27 : decode cX3_copyFrom 27 = .ok (.invokestatic 23, 3) := by decide +kernel
theorem dX3_copyFrom_30 : decode cX3_copyFrom 30 = .ok (.aload_n 1, 1) := by decide +kernel
theorem dX3_copyFrom_31 : decode cX3_copyFrom 31 = .ok (.getfield 16, 3) := by decide +kernel
theorem dX3_copyFrom_34 : decode cX3_copyFrom 34 = .ok (.iconst 0, 1) := by decide +kernel
theorem dX3_copyFrom_35 : decode cX3_copyFrom 35 = .ok (.aload_n 0, 1) := by decide +kernel
theorem dX3_copyFrom_36 : decode cX3_copyFrom 36 = .ok (.getfield 16, 3) := by decide +kernel
theorem dX3_copyFrom_39 : decode cX3_copyFrom 39 = .ok (.iconst 0, 1) := by decide +kernel
theorem dX3_copyFrom_40 : decode cX3_copyFrom 40 = .ok (.bipush 10, 2) := by decide +kernel
theorem dX3_copyFrom_42 : decode cX3_copyFrom 42 = .ok (.invokestatic 23, 3) := by decide +kernel
theorem dX3_copyFrom_45 : decode cX3_copyFrom 45 = .ok (.aload_n 0, 1) := by decide +kernel
theorem dX3_copyFrom_46 : decode cX3_copyFrom 46 = .ok (.aload_n 1, 1) := by decide +kernel
theorem dX3_copyFrom_47 : decode cX3_copyFrom 47 = .ok (.getfield 19, 3) := by decide +kernel
theorem dX3_copyFrom_50 : decode cX3_copyFrom 50 = .ok (.putfield 19, 3) := by decide +kernel
theorem dX3_copyFrom_53 : decode cX3_copyFrom 53 = .ok (.return_, 1) := by decide +kernel
theorem dX8_copyFrom_0 : decode cX8_copyFrom 0 = .ok (.aload_n 0, 1) := by decide +kernel
theorem dX8_copyFrom_1 : decode cX8_copyFrom 1 = .ok (.getfield 12, 3) := by decide +kernel
theorem dX8_copyFrom_4 : decode cX8_copyFrom 4 = .ok (.aload_n 1, 1) := by decide +kernel
theorem dX8_copyFrom_5 : decode cX8_copyFrom 5 = .ok (.getfield 12, 3) := by decide +kernel
theorem dX8_copyFrom_8 : decode cX8_copyFrom 8 = .ok (.invokevirtual 35, 3) := by decide +kernel
theorem dX8_copyFrom_11 : decode cX8_copyFrom 11 = .ok (.aload_n 0, 1) := by decide +kernel
theorem dX8_copyFrom_12 : decode cX8_copyFrom 12 = .ok (.getfield 18, 3) := by decide +kernel
theorem dX8_copyFrom_15 : decode cX8_copyFrom 15 = .ok (.aload_n 1, 1) := by decide +kernel
theorem dX8_copyFrom_16 : decode cX8_copyFrom 16 = .ok (.getfield 18, 3) := by decide +kernel
theorem dX8_copyFrom_19 : decode cX8_copyFrom 19 = .ok (.invokevirtual 35, 3) := by decide +kernel
theorem dX8_copyFrom_22 : decode cX8_copyFrom 22 = .ok (.aload_n 0, 1) := by decide +kernel
theorem dX8_copyFrom_23 : decode cX8_copyFrom 23 = .ok (.getfield 24, 3) := by decide +kernel
theorem dX8_copyFrom_26 : decode cX8_copyFrom 26 = .ok (.aload_n 1, 1) := by decide +kernel
theorem dX8_copyFrom_27 : decode cX8_copyFrom 27 = .ok (.getfield 24, 3) := by decide +kernel
theorem dX8_copyFrom_30 : decode cX8_copyFrom 30 = .ok (.invokevirtual 39, 3) := by decide +kernel
theorem dX8_copyFrom_33 : decode cX8_copyFrom 33 = .ok (.aload_n 0, 1) := by decide +kernel
theorem dX8_copyFrom_34 : decode cX8_copyFrom 34 = .ok (.aload_n 1, 1) := by decide +kernel
theorem dX8_copyFrom_35 : decode cX8_copyFrom 35 = .ok (.getfield 28, 3) := by decide +kernel
theorem dX8_copyFrom_38 : decode cX8_copyFrom 38 = .ok (.putfield 28, 3) := by decide +kernel
theorem dX8_copyFrom_41 : decode cX8_copyFrom 41 = .ok (.aload_n 0, 1) := by decide +kernel
theorem dX8_copyFrom_42 : decode cX8_copyFrom 42 = .ok (.aload_n 1, 1) := by decide +kernel
theorem dX8_copyFrom_43 : decode cX8_copyFrom 43 = .ok (.getfield 32, 3) := by decide +kernel
theorem dX8_copyFrom_46 : decode cX8_copyFrom 46 = .ok (.putfield 32, 3) := by decide +kernel
theorem dX8_copyFrom_49 : decode cX8_copyFrom 49 = .ok (.return_, 1) := by decide +kernel
theorem k_673 : Cond.sameMethod "[I" "java/lang/Object" "clone" "()Ljava/lang/Object;" ∈ gT := gm 673 (by decide +kernel) (by decide +kernel)
theorem cl400 {x : Int32} (h : 0 ≤ x.toInt ∧ x.toInt ≤ 400) : x.toNatClampNeg ≤ 400 := by
  show x.toInt.toNat ≤ 400
  omega
theorem cpB {n x : Int32} (h : n.toInt ≤ x.toInt) : (0 : Int32).toNatClampNeg + n.toNatClampNeg ≤ x.toNatClampNeg := by
  show (0 : Int32).toInt.toNat + n.toInt.toNat ≤ x.toInt.toNat
  have : (0 : Int32).toInt = 0 := by decide
  omega
theorem cp4 {n : Int32} (h : n.toInt ≤ 400) : (0 : Int32).toNatClampNeg + n.toNatClampNeg ≤ 400 := by
  show (0 : Int32).toInt.toNat + n.toInt.toNat ≤ 400
  have : (0 : Int32).toInt = 0 := by decide
  omega
theorem nneg {n : Int32} (h : 0 ≤ n.toInt) : ¬ n < 0 := fun z => by
  have := Int32.lt_iff_toInt_lt.mp z
  have : (0 : Int32).toInt = 0 := by decide
  omega
theorem rem_emod {x y : Int32} (h : 0 ≤ x.toInt) : (x - x / y * y).toInt = x.toInt % y.toInt := by
  rw [rem_toInt]
  exact Int.tmod_eq_emod_of_nonneg h
theorem dJ7_copyOf_59c91_0 : decode cJ7_copyOf_59c91 0 = .ok (.iload_n 1, 1) := by decide +kernel
theorem dJ7_copyOf_59c91_1 : decode cJ7_copyOf_59c91 1 = .ok (.aload_n 0, 1) := by decide +kernel
theorem dJ7_copyOf_59c91_2 : decode cJ7_copyOf_59c91 2 = .ok (.arraylength, 1) := by decide +kernel
theorem dJ7_copyOf_59c91_3 : decode cJ7_copyOf_59c91 3 = .ok (.if_icmp .ne 11, 3) := by decide +kernel
theorem dJ7_copyOf_59c91_6 : decode cJ7_copyOf_59c91 6 = .ok (.aload_n 0, 1) := by decide +kernel
theorem dJ7_copyOf_59c91_7 : decode cJ7_copyOf_59c91 7 = .ok (.invokevirtual 316, 3) := by decide +kernel
theorem dJ7_copyOf_59c91_10 : decode cJ7_copyOf_59c91 10 = .ok (.checkcast 317, 3) := by decide +kernel
theorem dJ7_copyOf_59c91_13 : decode cJ7_copyOf_59c91 13 = .ok (.areturn, 1) := by decide +kernel
theorem dJ7_copyOf_59c91_14 : decode cJ7_copyOf_59c91 14 = .ok (.iload_n 1, 1) := by decide +kernel
theorem dJ7_copyOf_59c91_15 : decode cJ7_copyOf_59c91 15 = .ok (.newarray .int, 2) := by decide +kernel
theorem dJ7_copyOf_59c91_17 : decode cJ7_copyOf_59c91 17 = .ok (.astore_n 2, 1) := by decide +kernel
theorem dJ7_copyOf_59c91_18 : decode cJ7_copyOf_59c91 18 = .ok (.aload_n 0, 1) := by decide +kernel
theorem dJ7_copyOf_59c91_19 : decode cJ7_copyOf_59c91 19 = .ok (.iconst 0, 1) := by decide +kernel
theorem dJ7_copyOf_59c91_20 : decode cJ7_copyOf_59c91 20 = .ok (.aload_n 2, 1) := by decide +kernel
theorem dJ7_copyOf_59c91_21 : decode cJ7_copyOf_59c91 21 = .ok (.iconst 0, 1) := by decide +kernel
theorem dJ7_copyOf_59c91_22 : decode cJ7_copyOf_59c91 22 = .ok (.aload_n 0, 1) := by decide +kernel
theorem dJ7_copyOf_59c91_23 : decode cJ7_copyOf_59c91 23 = .ok (.arraylength, 1) := by decide +kernel
theorem dJ7_copyOf_59c91_24 : decode cJ7_copyOf_59c91 24 = .ok (.iload_n 1, 1) := by decide +kernel
theorem dJ7_copyOf_59c91_25 : decode cJ7_copyOf_59c91 25 = .ok (.invokestatic 304, 3) := by decide +kernel
theorem dJ7_copyOf_59c91_28 : decode cJ7_copyOf_59c91 28 = .ok (.invokestatic 150, 3) := by decide +kernel
theorem dJ7_copyOf_59c91_31 : decode cJ7_copyOf_59c91 31 = .ok (.aload_n 2, 1) := by decide +kernel
theorem dJ7_copyOf_59c91_32 : decode cJ7_copyOf_59c91 32 = .ok (.areturn, 1) := by decide +kernel
theorem dX0_init_0 : decode cX0_init 0 = .ok (.aload_n 0, 1) := by decide +kernel
theorem dX0_init_1 : decode cX0_init 1 = .ok (.invokespecial 3, 3) := by decide +kernel
theorem dX0_init_4 : decode cX0_init 4 = .ok (.aload_n 0, 1) := by decide +kernel
theorem dX0_init_5 : decode cX0_init 5 = .ok (.new 9, 3) := by decide +kernel
theorem dX0_init_8 : decode cX0_init 8 = .ok (.dup, 1) := by decide +kernel
theorem dX0_init_9 : decode cX0_init 9 = .ok (.invokespecial 11, 3) := by decide +kernel
theorem dX0_init_12 : decode cX0_init 12 = .ok (.putfield 12, 3) := by decide +kernel
theorem dX0_init_15 : decode cX0_init 15 = .ok (.return_, 1) := by decide +kernel
theorem dX10_init_0 : decode cX10_init 0 = .ok (.aload_n 0, 1) := by decide +kernel
theorem dX10_init_1 : decode cX10_init 1 = .ok (.invokespecial 3, 3) := by decide +kernel
theorem dX10_init_4 : decode cX10_init 4 = .ok (.aload_n 0, 1) := by decide +kernel
theorem dX10_init_5 : decode cX10_init 5 = .ok (.sipush 400, 3) := by decide +kernel
theorem dX10_init_8 : decode cX10_init 8 = .ok (.newarray .int, 2) := by decide +kernel
theorem dX10_init_10 : decode cX10_init 10 = .ok (.putfield 9, 3) := by decide +kernel
theorem dX10_init_13 : decode cX10_init 13 = .ok (.aload_n 0, 1) := by decide +kernel
theorem dX10_init_14 : decode cX10_init 14 = .ok (.iconst 0, 1) := by decide +kernel
theorem dX10_init_15 : decode cX10_init 15 = .ok (.putfield 15, 3) := by decide +kernel
theorem dX10_init_18 : decode cX10_init 18 = .ok (.aload_n 0, 1) := by decide +kernel
theorem dX10_init_19 : decode cX10_init 19 = .ok (.iconst 0, 1) := by decide +kernel
theorem dX10_init_20 : decode cX10_init 20 = .ok (.putfield 19, 3) := by decide +kernel
theorem dX10_init_23 : decode cX10_init 23 = .ok (.aload_n 0, 1) := by decide +kernel
theorem dX10_init_24 : decode cX10_init 24 = .ok (.iconst 0, 1) := by decide +kernel
theorem dX10_init_25 : decode cX10_init 25 = .ok (.putfield 22, 3) := by decide +kernel
theorem dX10_init_28 : decode cX10_init 28 = .ok (.aload_n 0, 1) := by decide +kernel
theorem dX10_init_29 : decode cX10_init 29 = .ok (.iconst (-1), 1) := by decide +kernel
theorem dX10_init_30 : decode cX10_init 30 = .ok (.putfield 25, 3) := by decide +kernel
theorem dX10_init_33 : decode cX10_init 33 = .ok (.aload_n 0, 1) := by decide +kernel
theorem dX10_init_34 : decode cX10_init 34 = .ok (.iconst 0, 1) := by decide +kernel
theorem dX10_init_35 : decode cX10_init 35 = .ok (.putfield 28, 3) := by decide +kernel
theorem dX10_init_38 : decode cX10_init 38 = .ok (.return_, 1) := by decide +kernel
theorem dX1_init_0 : decode cX1_init 0 = .ok (.aload_n 0, 1) := by decide +kernel
theorem dX1_init_1 : decode cX1_init 1 = .ok (.invokespecial 3, 3) := by decide +kernel
theorem dX1_init_4 : decode cX1_init 4 = .ok (.aload_n 0, 1) := by decide +kernel
theorem dX1_init_5 : decode cX1_init 5 = .ok (.new 9, 3) := by decide +kernel
theorem dX1_init_8 : decode cX1_init 8 = .ok (.dup, 1) := by decide +kernel
theorem dX1_init_9 : decode cX1_init 9 = .ok (.invokespecial 11, 3) := by decide +kernel
theorem dX1_init_12 : decode cX1_init 12 = .ok (.putfield 12, 3) := by decide +kernel
theorem dX1_init_15 : decode cX1_init 15 = .ok (.aload_n 0, 1) := by decide +kernel
theorem dX1_init_16 : decode cX1_init 16 = .ok (.bipush 25, 2) := by decide +kernel
theorem dX1_init_18 : decode cX1_init 18 = .ok (.newarray .int, 2) := by decide +kernel
theorem dX1_init_20 : decode cX1_init 20 = .ok (.putfield 18, 3) := by decide +kernel
theorem dX1_init_23 : decode cX1_init 23 = .ok (.aload_n 0, 1) := by decide +kernel
theorem dX1_init_24 : decode cX1_init 24 = .ok (.bipush 25, 2) := by decide +kernel
theorem dX1_init_26 : decode cX1_init 26 = .ok (.newarray .int, 2) := by decide +kernel
theorem dX1_init_28 : decode cX1_init 28 = .ok (.putfield 22, 3) := by decide +kernel
theorem dX1_init_31 : decode cX1_init 31 = .ok (.return_, 1) := by decide +kernel
theorem dX2_init_0 : decode cX2_init 0 = .ok (.aload_n 0, 1) := by decide +kernel
theorem dX2_init_1 : decode cX2_init 1 = .ok (.invokespecial 5, 3) := by decide +kernel
theorem dX2_init_4 : decode cX2_init 4 = .ok (.aload_n 0, 1) := by decide +kernel
theorem dX2_init_5 : decode cX2_init 5 = .ok (.new 11, 3) := by decide +kernel
theorem dX2_init_8 : decode cX2_init 8 = .ok (.dup, 1) := by decide +kernel
theorem dX2_init_9 : decode cX2_init 9 = .ok (.invokespecial 13, 3) := by decide +kernel
theorem dX2_init_12 : decode cX2_init 12 = .ok (.putfield 14, 3) := by decide +kernel
theorem dX2_init_15 : decode cX2_init 15 = .ok (.aload_n 0, 1) := by decide +kernel
theorem dX2_init_16 : decode cX2_init 16 = .ok (.sipush 427, 3) := by decide +kernel
theorem dX2_init_19 : decode cX2_init 19 = .ok (.newarray .int, 2) := by decide +kernel
theorem dX2_init_21 : decode cX2_init 21 = .ok (.putfield 18, 3) := by decide +kernel
theorem dX2_init_24 : decode cX2_init 24 = .ok (.aload_n 0, 1) := by decide +kernel
theorem dX2_init_25 : decode cX2_init 25 = .ok (.bipush 7, 2) := by decide +kernel
theorem dX2_init_27 : decode cX2_init 27 = .ok (.newarray .boolean, 2) := by decide +kernel
theorem dX2_init_29 : decode cX2_init 29 = .ok (.putfield 22, 3) := by decide +kernel
theorem dX2_init_32 : decode cX2_init 32 = .ok (.aload_n 0, 1) := by decide +kernel
theorem dX2_init_33 : decode cX2_init 33 = .ok (.iconst 0, 1) := by decide +kernel
theorem dX2_init_34 : decode cX2_init 34 = .ok (.putfield 26, 3) := by decide +kernel
theorem dX2_init_37 : decode cX2_init 37 = .ok (.return_, 1) := by decide +kernel
theorem dX3_init_0 : decode cX3_init 0 = .ok (.aload_n 0, 1) := by decide +kernel
theorem dX3_init_1 : decode cX3_init 1 = .ok (.invokespecial 1, 3) := by decide +kernel
theorem dX3_init_4 : decode cX3_init 4 = .ok (.aload_n 0, 1) := by decide +kernel
theorem dX3_init_5 : decode cX3_init 5 = .ok (.bipush 10, 2) := by decide +kernel
theorem dX3_init_7 : decode cX3_init 7 = .ok (.newarray .int, 2) := by decide +kernel
theorem dX3_init_9 : decode cX3_init 9 = .ok (.putfield 9, 3) := by decide +kernel
theorem dX3_init_12 : decode cX3_init 12 = .ok (.aload_n 0, 1) := by decide +kernel
theorem dX3_init_13 : decode cX3_init 13 = .ok (.bipush 10, 2) := by decide +kernel
theorem dX3_init_15 : decode cX3_init 15 = .ok (.newarray .int, 2) := by decide +kernel
theorem dX3_init_17 : decode cX3_init 17 = .ok (.putfield 13, 3) := by decide +kernel
theorem dX3_init_20 : decode cX3_init 20 = .ok (.aload_n 0, 1) := by decide +kernel
theorem dX3_init_21 : decode cX3_init 21 = .ok (.bipush 10, 2) := by decide +kernel
theorem dX3_init_23 : decode cX3_init 23 = .ok (.newarray .int, 2) := by decide +kernel
theorem dX3_init_25 : decode cX3_init 25 = .ok (.putfield 16, 3) := by decide +kernel
theorem dX3_init_28 : decode cX3_init 28 = .ok (.aload_n 0, 1) := by decide +kernel
theorem dX3_init_29 : decode cX3_init 29 = .ok (.iconst 0, 1) := by decide +kernel
theorem dX3_init_30 : decode cX3_init 30 = .ok (.putfield 19, 3) := by decide +kernel
theorem dX3_init_33 : decode cX3_init 33 = .ok (.return_, 1) := by decide +kernel
theorem dX4_init_0 : decode cX4_init 0 = .ok (.aload_n 0, 1) := by decide +kernel
theorem dX4_init_1 : decode cX4_init 1 = .ok (.invokespecial 3, 3) := by decide +kernel
theorem dX4_init_4 : decode cX4_init 4 = .ok (.aload_n 0, 1) := by decide +kernel
theorem dX4_init_5 : decode cX4_init 5 = .ok (.new 9, 3) := by decide +kernel
theorem dX4_init_8 : decode cX4_init 8 = .ok (.dup, 1) := by decide +kernel
theorem dX4_init_9 : decode cX4_init 9 = .ok (.invokespecial 11, 3) := by decide +kernel
theorem dX4_init_12 : decode cX4_init 12 = .ok (.putfield 12, 3) := by decide +kernel
theorem dX4_init_15 : decode cX4_init 15 = .ok (.aload_n 0, 1) := by decide +kernel
theorem dX4_init_16 : decode cX4_init 16 = .ok (.bipush 61, 2) := by decide +kernel
theorem dX4_init_18 : decode cX4_init 18 = .ok (.newarray .long, 2) := by decide +kernel
theorem dX4_init_20 : decode cX4_init 20 = .ok (.putfield 18, 3) := by decide +kernel
theorem dX4_init_23 : decode cX4_init 23 = .ok (.aload_n 0, 1) := by decide +kernel
theorem dX4_init_24 : decode cX4_init 24 = .ok (.lconst 0, 1) := by decide +kernel
theorem dX4_init_25 : decode cX4_init 25 = .ok (.putfield 22, 3) := by decide +kernel
theorem dX4_init_28 : decode cX4_init 28 = .ok (.return_, 1) := by decide +kernel
theorem dX5_giveBack_0 : decode cX5_giveBack 0 = .ok (.aload_n 0, 1) := by decide +kernel
theorem dX5_giveBack_1 : decode cX5_giveBack 1 = .ok (.getfield 17, 3) := by decide +kernel
theorem dX5_giveBack_4 : decode cX5_giveBack 4 = .ok (.bipush 20, 2) := by decide +kernel
theorem dX5_giveBack_6 : decode cX5_giveBack 6 = .ok (.iadd, 1) := by decide +kernel
theorem dX5_giveBack_7 : decode cX5_giveBack 7 = .ok (.iconst 1, 1) := by decide +kernel
theorem dX5_giveBack_8 : decode cX5_giveBack 8 = .ok (.isub, 1) := by decide +kernel
theorem dX5_giveBack_9 : decode cX5_giveBack 9 = .ok (.bipush 20, 2) := by decide +kernel
theorem dX5_giveBack_11 : decode cX5_giveBack 11 = .ok (.irem, 1) := by decide +kernel
theorem dX5_giveBack_12 : decode cX5_giveBack 12 = .ok (.istore_n 2, 1) := by decide +kernel
theorem dX5_giveBack_13 : decode cX5_giveBack 13 = .ok (.aload_n 0, 1) := by decide +kernel
theorem dX5_giveBack_14 : decode cX5_giveBack 14 = .ok (.getfield 21, 3) := by decide +kernel
theorem dX5_giveBack_17 : decode cX5_giveBack 17 = .ok (.ifCond .le 7, 3) := by decide +kernel
theorem dX5_giveBack_20 : decode cX5_giveBack 20 = .ok (.iload_n 2, 1) := by decide +kernel
theorem dX5_giveBack_21 : decode cX5_giveBack 21 = .ok (.ifCond .ge 5, 3) := by decide +kernel
theorem dX5_giveBack_24 : decode cX5_giveBack 24 = .ok (.iconst (-1), 1) := by decide +kernel
theorem dX5_giveBack_25 : decode cX5_giveBack 25 = .ok (.ireturn, 1) := by decide +kernel
theorem dX5_giveBack_26 : decode cX5_giveBack 26 = .ok (.aload_n 0, 1) := by decide +kernel
theorem dX5_giveBack_27 : decode cX5_giveBack 27 = .ok (.getfield 13, 3) := by decide +kernel
theorem dX5_giveBack_30 : decode cX5_giveBack 30 = .ok (.iload_n 2, 1) := by decide +kernel
theorem dX5_giveBack_31 : decode cX5_giveBack 31 = .ok (.aaload, 1) := by decide +kernel
theorem dX5_giveBack_32 : decode cX5_giveBack 32 = .ok (.astore_n 3, 1) := by decide +kernel
theorem dX5_giveBack_33 : decode cX5_giveBack 33 = .ok (.aload_n 3, 1) := by decide +kernel
theorem dX5_giveBack_34 : decode cX5_giveBack 34 = .ok (.ifnonnull 5, 3) := by decide +kernel
theorem dX5_giveBack_37 : decode cX5_giveBack 37 = .ok (.iconst (-1), 1) := by decide +kernel
theorem dX5_giveBack_38 : decode cX5_giveBack 38 = .ok (.ireturn, 1) := by decide +kernel
theorem dX5_giveBack_39 : decode cX5_giveBack 39 = .ok (.aload_n 1, 1) := by decide +kernel
theorem dX5_giveBack_40 : decode cX5_giveBack 40 = .ok (.aload_n 3, 1) := by decide +kernel
theorem dX5_giveBack_41 : decode cX5_giveBack 41 = .ok (.invokevirtual 25, 3) := by decide +kernel
theorem dX5_giveBack_44 : decode cX5_giveBack 44 = .ok (.aload_n 0, 1) := by decide +kernel
theorem dX5_giveBack_45 : decode cX5_giveBack 45 = .ok (.iload_n 2, 1) := by decide +kernel
theorem dX5_giveBack_46 : decode cX5_giveBack 46 = .ok (.putfield 17, 3) := by decide +kernel
theorem dX5_giveBack_49 : decode cX5_giveBack 49 = .ok (.aload_n 0, 1) := by decide +kernel
theorem dX5_giveBack_50 : decode cX5_giveBack 50 = .ok (.dup, 1) := by decide +kernel
theorem dX5_giveBack_51 : decode cX5_giveBack 51 = .ok (.getfield 21, 3) := by decide +kernel
theorem dX5_giveBack_54 : decode cX5_giveBack 54 = .ok (.iconst 1, 1) := by decide +kernel
theorem dX5_giveBack_55 : decode cX5_giveBack 55 = .ok (.isub, 1) := by decide +kernel
theorem dX5_giveBack_56 : decode cX5_giveBack 56 = .ok (.putfield 21, 3) := by decide +kernel
theorem dX5_giveBack_59 : decode cX5_giveBack 59 = .ok (.aload_n 0, 1) := by decide +kernel
theorem dX5_giveBack_60 : decode cX5_giveBack 60 = .ok (.getfield 21, 3) := by decide +kernel
theorem dX5_giveBack_63 : decode cX5_giveBack 63 = .ok (.ireturn, 1) := by decide +kernel
theorem dX5_init_0 : decode cX5_init 0 = .ok (.aload_n 0, 1) := by decide +kernel
theorem dX5_init_1 : decode cX5_init 1 = .ok (.invokespecial 3, 3) := by decide +kernel
theorem dX5_init_4 : decode cX5_init 4 = .ok (.aload_n 0, 1) := by decide +kernel
theorem dX5_init_5 : decode cX5_init 5 = .ok (.bipush 20, 2) := by decide +kernel
theorem dX5_init_7 : decode cX5_init 7 = .ok (.anewarray 11, 3) := by decide +kernel
theorem dX5_init_10 : decode cX5_init 10 = .ok (.putfield 13, 3) := by decide +kernel
theorem dX5_init_13 : decode cX5_init 13 = .ok (.aload_n 0, 1) := by decide +kernel
theorem dX5_init_14 : decode cX5_init 14 = .ok (.iconst 0, 1) := by decide +kernel
theorem dX5_init_15 : decode cX5_init 15 = .ok (.putfield 17, 3) := by decide +kernel
theorem dX5_init_18 : decode cX5_init 18 = .ok (.aload_n 0, 1) := by decide +kernel
theorem dX5_init_19 : decode cX5_init 19 = .ok (.iconst 0, 1) := by decide +kernel
theorem dX5_init_20 : decode cX5_init 20 = .ok (.putfield 21, 3) := by decide +kernel
theorem dX5_init_23 : decode cX5_init 23 = .ok (.return_, 1) := by decide +kernel
theorem dX5_keep_0 : decode cX5_keep 0 = .ok (.aload_n 0, 1) := by decide +kernel
theorem dX5_keep_1 : decode cX5_keep 1 = .ok (.getfield 17, 3) := by decide +kernel
theorem dX5_keep_4 : decode cX5_keep 4 = .ok (.ifCond .lt 12, 3) := by decide +kernel
theorem dX5_keep_7 : decode cX5_keep 7 = .ok (.aload_n 0, 1) := by decide +kernel
theorem dX5_keep_8 : decode cX5_keep 8 = .ok (.getfield 17, 3) := by decide +kernel
theorem dX5_keep_11 : decode cX5_keep 11 = .ok (.bipush 20, 2) := by decide +kernel
theorem dX5_keep_13 : decode cX5_keep 13 = .ok (.if_icmp .lt 4, 3) := by decide +kernel
theorem dX5_keep_16 : decode cX5_keep 16 = .ok (.return_, 1) := by decide +kernel
theorem dX5_keep_17 : decode cX5_keep 17 = .ok (.aload_n 0, 1) := by decide +kernel
theorem dX5_keep_18 : decode cX5_keep 18 = .ok (.getfield 13, 3) := by decide +kernel
theorem dX5_keep_21 : decode cX5_keep 21 = .ok (.aload_n 0, 1) := by decide +kernel
theorem dX5_keep_22 : decode cX5_keep 22 = .ok (.getfield 17, 3) := by decide +kernel
theorem dX5_keep_25 : decode cX5_keep 25 = .ok (.aaload, 1) := by decide +kernel
theorem dX5_keep_26 : decode cX5_keep 26 = .ok (.astore_n 2, 1) := by decide +kernel
theorem dX5_keep_27 : decode cX5_keep 27 = .ok (.aload_n 2, 1) := by decide +kernel
theorem dX5_keep_28 : decode cX5_keep 28 = .ok (.ifnonnull 21, 3) := by decide +kernel
theorem dX5_keep_31 : decode cX5_keep 31 = .ok (.new 11, 3) := by decide +kernel
theorem dX5_keep_34 : decode cX5_keep 34 = .ok (.dup, 1) := by decide +kernel
theorem dX5_keep_35 : decode cX5_keep 35 = .ok (.invokespecial 24, 3) := by decide +kernel
theorem dX5_keep_38 : decode cX5_keep 38 = .ok (.astore_n 2, 1) := by decide +kernel
theorem dX5_keep_39 : decode cX5_keep 39 = .ok (.aload_n 0, 1) := by decide +kernel
theorem dX5_keep_40 : decode cX5_keep 40 = .ok (.getfield 13, 3) := by decide +kernel
theorem dX5_keep_43 : decode cX5_keep 43 = .ok (.aload_n 0, 1) := by decide +kernel
theorem dX5_keep_44 : decode cX5_keep 44 = .ok (.getfield 17, 3) := by decide +kernel
theorem dX5_keep_47 : decode cX5_keep 47 = .ok (.aload_n 2, 1) := by decide +kernel
theorem dX5_keep_48 : decode cX5_keep 48 = .ok (.aastore, 1) := by decide +kernel
theorem dX5_keep_49 : decode cX5_keep 49 = .ok (.aload_n 2, 1) := by decide +kernel
theorem dX5_keep_50 : decode cX5_keep 50 = .ok (.aload_n 1, 1) := by decide +kernel
theorem dX5_keep_51 : decode cX5_keep 51 = .ok (.invokevirtual 25, 3) := by decide +kernel
theorem dX5_keep_54 : decode cX5_keep 54 = .ok (.aload_n 0, 1) := by decide +kernel
theorem dX5_keep_55 : decode cX5_keep 55 = .ok (.aload_n 0, 1) := by decide +kernel
theorem dX5_keep_56 : decode cX5_keep 56 = .ok (.getfield 17, 3) := by decide +kernel
theorem dX5_keep_59 : decode cX5_keep 59 = .ok (.iconst 1, 1) := by decide +kernel
theorem dX5_keep_60 : decode cX5_keep 60 = .ok (.iadd, 1) := by decide +kernel
theorem dX5_keep_61 : decode cX5_keep 61 = .ok (.bipush 20, 2) := by decide +kernel
theorem dX5_keep_63 : decode cX5_keep 63 = .ok (.irem, 1) := by decide +kernel
theorem dX5_keep_64 : decode cX5_keep 64 = .ok (.putfield 17, 3) := by decide +kernel
theorem dX5_keep_67 : decode cX5_keep 67 = .ok (.aload_n 0, 1) := by decide +kernel
theorem dX5_keep_68 : decode cX5_keep 68 = .ok (.bipush 20, 2) := by decide +kernel
theorem dX5_keep_70 : decode cX5_keep 70 = .ok (.aload_n 0, 1) := by decide +kernel
theorem dX5_keep_71 : decode cX5_keep 71 = .ok (.getfield 21, 3) := by decide +kernel
theorem dX5_keep_74 : decode cX5_keep 74 = .ok (.iconst 1, 1) := by decide +kernel
theorem dX5_keep_75 : decode cX5_keep 75 = .ok (.iadd, 1) := by decide +kernel
theorem dX5_keep_76 : decode cX5_keep 76 = .ok (.invokestatic 29, 3) := by decide +kernel
theorem dX5_keep_79 : decode cX5_keep 79 = .ok (.putfield 21, 3) := by decide +kernel
theorem dX5_keep_82 : decode cX5_keep 82 = .ok (.return_, 1) := by decide +kernel
theorem dX6_init_0 : decode cX6_init 0 = .ok (.aload_n 0, 1) := by decide +kernel
theorem dX6_init_1 : decode cX6_init 1 = .ok (.invokespecial 1, 3) := by decide +kernel
theorem dX6_init_4 : decode cX6_init 4 = .ok (.aload_n 0, 1) := by decide +kernel
theorem dX6_init_5 : decode cX6_init 5 = .ok (.bipush 64, 2) := by decide +kernel
theorem dX6_init_7 : decode cX6_init 7 = .ok (.newarray .long, 2) := by decide +kernel
theorem dX6_init_9 : decode cX6_init 9 = .ok (.putfield 9, 3) := by decide +kernel
theorem dX6_init_12 : decode cX6_init 12 = .ok (.aload_n 0, 1) := by decide +kernel
theorem dX6_init_13 : decode cX6_init 13 = .ok (.aload_n 1, 1) := by decide +kernel
theorem dX6_init_14 : decode cX6_init 14 = .ok (.putfield 13, 3) := by decide +kernel
theorem dX6_init_17 : decode cX6_init 17 = .ok (.return_, 1) := by decide +kernel
theorem dX7_init_0 : decode cX7_init 0 = .ok (.aload_n 0, 1) := by decide +kernel
theorem dX7_init_1 : decode cX7_init 1 = .ok (.invokespecial 3, 3) := by decide +kernel
theorem dX7_init_4 : decode cX7_init 4 = .ok (.aload_n 0, 1) := by decide +kernel
theorem dX7_init_5 : decode cX7_init 5 = .ok (.sipush 400, 3) := by decide +kernel
theorem dX7_init_8 : decode cX7_init 8 = .ok (.newarray .int, 2) := by decide +kernel
theorem dX7_init_10 : decode cX7_init 10 = .ok (.putfield 9, 3) := by decide +kernel
theorem dX7_init_13 : decode cX7_init 13 = .ok (.aload_n 0, 1) := by decide +kernel
theorem dX7_init_14 : decode cX7_init 14 = .ok (.iconst 0, 1) := by decide +kernel
theorem dX7_init_15 : decode cX7_init 15 = .ok (.putfield 15, 3) := by decide +kernel
theorem dX7_init_18 : decode cX7_init 18 = .ok (.aload_n 0, 1) := by decide +kernel
theorem dX7_init_19 : decode cX7_init 19 = .ok (.iconst 0, 1) := by decide +kernel
theorem dX7_init_20 : decode cX7_init 20 = .ok (.putfield 19, 3) := by decide +kernel
theorem dX7_init_23 : decode cX7_init 23 = .ok (.return_, 1) := by decide +kernel
theorem dX7_read_0 : decode cX7_read 0 = .ok (.aload_n 0, 1) := by decide +kernel
theorem dX7_read_1 : decode cX7_read 1 = .ok (.iconst 0, 1) := by decide +kernel
theorem dX7_read_2 : decode cX7_read 2 = .ok (.putfield 15, 3) := by decide +kernel
theorem dX7_read_5 : decode cX7_read 5 = .ok (.aload_n 0, 1) := by decide +kernel
theorem dX7_read_6 : decode cX7_read 6 = .ok (.iconst 0, 1) := by decide +kernel
theorem dX7_read_7 : decode cX7_read 7 = .ok (.putfield 19, 3) := by decide +kernel
theorem dX7_read_10 : decode cX7_read 10 = .ok (.aload_n 1, 1) := by decide +kernel
theorem dX7_read_11 : decode cX7_read 11 = .ok (.invokevirtual 22, 3) := by decide +kernel
theorem dX7_read_14 : decode cX7_read 14 = .ok (.iconst 0, 1) := by decide +kernel
theorem dX7_read_15 : decode cX7_read 15 = .ok (.istore_n 2, 1) := by decide +kernel
theorem dX7_read_16 : decode cX7_read 16 = .ok (.iload_n 2, 1) := by decide +kernel
theorem dX7_read_17 : decode cX7_read 17 = .ok (.bipush 12, 2) := by decide +kernel
theorem dX7_read_19 : decode cX7_read 19 = .ok (.if_icmp .gt 89, 3) := by decide +kernel
theorem dX7_read_22 : decode cX7_read 22 = .ok (.iload_n 2, 1) := by decide +kernel
theorem dX7_read_23 : decode cX7_read 23 = .ok (.ifCond .eq 12, 3) := by decide +kernel
theorem dX7_read_26 : decode cX7_read 26 = .ok (.aload_n 1, 1) := by decide +kernel
theorem dX7_read_27 : decode cX7_read 27 = .ok (.bipush 59, 2) := by decide +kernel
theorem dX7_read_29 : decode cX7_read 29 = .ok (.invokevirtual 27, 3) := by decide +kernel
theorem dX7_read_32 : decode cX7_read 32 = .ok (.ifCond .eq 76, 3) := by decide +kernel
theorem dX7_read_35 : decode cX7_read 35 = .ok (.aload_n 1, 1) := by decide +kernel
theorem dX7_read_36 : decode cX7_read 36 = .ok (.ldc 31, 2) := by decide +kernel
theorem dX7_read_38 : decode cX7_read 38 = .ok (.invokevirtual 33, 3) := by decide +kernel
theorem dX7_read_41 : decode cX7_read 41 = .ok (.ifCond .ne 11, 3) := by decide +kernel
theorem dX7_read_44 : decode cX7_read 44 = .ok (.aload_n 1, 1) := by decide +kernel
theorem dX7_read_45 : decode cX7_read 45 = .ok (.iconst 0, 1) := by decide +kernel
theorem dX7_read_46 : decode cX7_read 46 = .ok (.invokevirtual 37, 3) := by decide +kernel
theorem dX7_read_49 : decode cX7_read 49 = .ok (.goto 14, 3) := by decide +kernel
theorem dX7_read_52 : decode cX7_read 52 = .ok (.iload_n 2, 1) := by decide +kernel
theorem dX7_read_53 : decode cX7_read 53 = .ok (.bipush 12, 2) := by decide +kernel
theorem dX7_read_55 : decode cX7_read 55 = .ok (.if_icmp .ne 8, 3) := by decide +kernel
theorem dX7_read_58 : decode cX7_read 58 = .ok (.aload_n 1, 1) := by decide +kernel
theorem dX7_read_59 : decode cX7_read 59 = .ok (.iconst 4, 1) := by decide +kernel
theorem dX7_read_60 : decode cX7_read 60 = .ok (.invokevirtual 37, 3) := by decide +kernel
theorem dX7_read_63 : decode cX7_read 63 = .ok (.aload_n 1, 1) := by decide +kernel
theorem dX7_read_64 : decode cX7_read 64 = .ok (.invokevirtual 41, 3) := by decide +kernel
theorem dX7_read_67 : decode cX7_read 67 = .ok (.aload_n 0, 1) := by decide +kernel
theorem dX7_read_68 : decode cX7_read 68 = .ok (.aload_n 1, 1) := by decide +kernel
theorem dX7_read_69 : decode cX7_read 69 = .ok (.invokevirtual 44, 3) := by decide +kernel
theorem dX7_read_72 : decode cX7_read 72 = .ok (.aload_n 1, 1) := by decide +kernel
theorem dX7_read_73 : decode cX7_read 73 = .ok (.ldc 48, 2) := by decide +kernel
theorem dX7_read_75 : decode cX7_read 75 = .ok (.invokevirtual 50, 3) := by decide +kernel
theorem dX7_read_78 : decode cX7_read 78 = .ok (.ifCond .eq 18, 3) := by decide +kernel
theorem dX7_read_81 : decode cX7_read 81 = .ok (.aload_n 0, 1) := by decide +kernel
theorem dX7_read_82 : decode cX7_read 82 = .ok (.aload_n 1, 1) := by decide +kernel
theorem dX7_read_83 : decode cX7_read 83 = .ok (.iconst 0, 1) := by decide +kernel
theorem dX7_read_84 : decode cX7_read 84 = .ok (.invokevirtual 53, 3) := by decide +kernel
theorem dX7_read_87 : decode cX7_read 87 = .ok (.aload_n 0, 1) := by decide +kernel
theorem dX7_read_88 : decode cX7_read 88 = .ok (.bipush (-3), 2) := by decide +kernel
theorem dX7_read_90 : decode cX7_read 90 = .ok (.invokevirtual 59, 3) := by decide +kernel
theorem dX7_read_93 : decode cX7_read 93 = .ok (.goto 9, 3) := by decide +kernel
theorem dX7_read_96 : decode cX7_read 96 = .ok (.aload_n 0, 1) := by decide +kernel
theorem dX7_read_97 : decode cX7_read 97 = .ok (.bipush (-2), 2) := by decide +kernel
theorem dX7_read_99 : decode cX7_read 99 = .ok (.invokevirtual 59, 3) := by decide +kernel
theorem dX7_read_102 : decode cX7_read 102 = .ok (.iinc 2 1, 3) := by decide +kernel
theorem dX7_read_105 : decode cX7_read 105 = .ok (.goto (-89), 3) := by decide +kernel
theorem dX7_read_108 : decode cX7_read 108 = .ok (.aload_n 1, 1) := by decide +kernel
theorem dX7_read_109 : decode cX7_read 109 = .ok (.invokevirtual 62, 3) := by decide +kernel
theorem dX7_read_112 : decode cX7_read 112 = .ok (.aload_n 1, 1) := by decide +kernel
theorem dX7_read_113 : decode cX7_read 113 = .ok (.getfield 65, 3) := by decide +kernel
theorem dX7_read_116 : decode cX7_read 116 = .ok (.ifCond .ne 22, 3) := by decide +kernel
theorem dX7_read_119 : decode cX7_read 119 = .ok (.aload_n 0, 1) := by decide +kernel
theorem dX7_read_120 : decode cX7_read 120 = .ok (.getfield 15, 3) := by decide +kernel
theorem dX7_read_123 : decode cX7_read 123 = .ok (.ifCond .lt 15, 3) := by decide +kernel
theorem dX7_read_126 : decode cX7_read 126 = .ok (.aload_n 0, 1) := by decide +kernel
theorem dX7_read_127 : decode cX7_read 127 = .ok (.getfield 15, 3) := by decide +kernel
theorem dX7_read_130 : decode cX7_read 130 = .ok (.aload_n 0, 1) := by decide +kernel
theorem dX7_read_131 : decode cX7_read 131 = .ok (.getfield 9, 3) := by decide +kernel
theorem dX7_read_134 : decode cX7_read 134 = .ok (.arraylength, 1) := by decide +kernel
theorem dX7_read_135 : decode cX7_read 135 = .ok (.if_icmp .le 5, 3) := by decide +kernel
theorem dX7_read_138 : decode cX7_read 138 = .ok (.aconst_null, 1) := by decide +kernel
theorem dX7_read_139 : decode cX7_read 139 = .ok (.areturn, 1) := by decide +kernel
theorem dX7_read_140 : decode cX7_read 140 = .ok (.new 57, 3) := by decide +kernel
theorem dX7_read_143 : decode cX7_read 143 = .ok (.dup, 1) := by decide +kernel
theorem dX7_read_144 : decode cX7_read 144 = .ok (.aload_n 0, 1) := by decide +kernel
theorem dX7_read_145 : decode cX7_read 145 = .ok (.getfield 9, 3) := by decide +kernel
theorem dX7_read_148 : decode cX7_read 148 = .ok (.aload_n 0, 1) := by decide +kernel
theorem dX7_read_149 : decode cX7_read 149 = .ok (.getfield 15, 3) := by decide +kernel
theorem dX7_read_152 : decode cX7_read 152 = .ok (.invokestatic 68, 3) := by decide +kernel
theorem dX7_read_155 : decode cX7_read 155 = .ok (.invokespecial 74, 3) := by decide +kernel
theorem dX7_read_158 : decode cX7_read 158 = .ok (.areturn, 1) := by decide +kernel
theorem dX8_init_0 : decode cX8_init 0 = .ok (.aload_n 0, 1) := by decide +kernel
theorem dX8_init_1 : decode cX8_init 1 = .ok (.invokespecial 3, 3) := by decide +kernel
theorem dX8_init_4 : decode cX8_init 4 = .ok (.aload_n 0, 1) := by decide +kernel
theorem dX8_init_5 : decode cX8_init 5 = .ok (.new 9, 3) := by decide +kernel
theorem dX8_init_8 : decode cX8_init 8 = .ok (.dup, 1) := by decide +kernel
theorem dX8_init_9 : decode cX8_init 9 = .ok (.invokespecial 11, 3) := by decide +kernel
theorem dX8_init_12 : decode cX8_init 12 = .ok (.putfield 12, 3) := by decide +kernel
theorem dX8_init_15 : decode cX8_init 15 = .ok (.aload_n 0, 1) := by decide +kernel
theorem dX8_init_16 : decode cX8_init 16 = .ok (.new 9, 3) := by decide +kernel
theorem dX8_init_19 : decode cX8_init 19 = .ok (.dup, 1) := by decide +kernel
theorem dX8_init_20 : decode cX8_init 20 = .ok (.invokespecial 11, 3) := by decide +kernel
theorem dX8_init_23 : decode cX8_init 23 = .ok (.putfield 18, 3) := by decide +kernel
theorem dX8_init_26 : decode cX8_init 26 = .ok (.aload_n 0, 1) := by decide +kernel
theorem dX8_init_27 : decode cX8_init 27 = .ok (.new 21, 3) := by decide +kernel
theorem dX8_init_30 : decode cX8_init 30 = .ok (.dup, 1) := by decide +kernel
theorem dX8_init_31 : decode cX8_init 31 = .ok (.invokespecial 23, 3) := by decide +kernel
theorem dX8_init_34 : decode cX8_init 34 = .ok (.putfield 24, 3) := by decide +kernel
theorem dX8_init_37 : decode cX8_init 37 = .ok (.aload_n 0, 1) := by decide +kernel
theorem dX8_init_38 : decode cX8_init 38 = .ok (.iconst (-1), 1) := by decide +kernel
theorem dX8_init_39 : decode cX8_init 39 = .ok (.putfield 28, 3) := by decide +kernel
theorem dX8_init_42 : decode cX8_init 42 = .ok (.aload_n 0, 1) := by decide +kernel
theorem dX8_init_43 : decode cX8_init 43 = .ok (.iconst 0, 1) := by decide +kernel
theorem dX8_init_44 : decode cX8_init 44 = .ok (.putfield 32, 3) := by decide +kernel
theorem dX8_init_47 : decode cX8_init 47 = .ok (.return_, 1) := by decide +kernel
theorem dX9_init_0 : decode cX9_init 0 = .ok (.aload_n 0, 1) := by decide +kernel
theorem dX9_init_1 : decode cX9_init 1 = .ok (.invokespecial 3, 3) := by decide +kernel
theorem dX9_init_4 : decode cX9_init 4 = .ok (.aload_n 0, 1) := by decide +kernel
theorem dX9_init_5 : decode cX9_init 5 = .ok (.iconst 0, 1) := by decide +kernel
theorem dX9_init_6 : decode cX9_init 6 = .ok (.putfield 9, 3) := by decide +kernel
theorem dX9_init_9 : decode cX9_init 9 = .ok (.aload_n 0, 1) := by decide +kernel
theorem dX9_init_10 : decode cX9_init 10 = .ok (.iconst 0, 1) := by decide +kernel
theorem dX9_init_11 : decode cX9_init 11 = .ok (.putfield 15, 3) := by decide +kernel
theorem dX9_init_14 : decode cX9_init 14 = .ok (.aload_n 0, 1) := by decide +kernel
theorem dX9_init_15 : decode cX9_init 15 = .ok (.iconst 0, 1) := by decide +kernel
theorem dX9_init_16 : decode cX9_init 16 = .ok (.putfield 18, 3) := by decide +kernel
theorem dX9_init_19 : decode cX9_init 19 = .ok (.aload_n 0, 1) := by decide +kernel
theorem dX9_init_20 : decode cX9_init 20 = .ok (.iconst 0, 1) := by decide +kernel
theorem dX9_init_21 : decode cX9_init 21 = .ok (.putfield 21, 3) := by decide +kernel
theorem dX9_init_24 : decode cX9_init 24 = .ok (.aload_n 0, 1) := by decide +kernel
theorem dX9_init_25 : decode cX9_init 25 = .ok (.iconst 0, 1) := by decide +kernel
theorem dX9_init_26 : decode cX9_init 26 = .ok (.putfield 24, 3) := by decide +kernel
theorem dX9_init_29 : decode cX9_init 29 = .ok (.aload_n 0, 1) := by decide +kernel
theorem dX9_init_30 : decode cX9_init 30 = .ok (.iconst 0, 1) := by decide +kernel
theorem dX9_init_31 : decode cX9_init 31 = .ok (.putfield 27, 3) := by decide +kernel
theorem dX9_init_34 : decode cX9_init 34 = .ok (.aload_n 0, 1) := by decide +kernel
theorem dX9_init_35 : decode cX9_init 35 = .ok (.bipush 10, 2) := by decide +kernel
theorem dX9_init_37 : decode cX9_init 37 = .ok (.newarray .int, 2) := by decide +kernel
theorem dX9_init_39 : decode cX9_init 39 = .ok (.putfield 30, 3) := by decide +kernel
theorem dX9_init_42 : decode cX9_init 42 = .ok (.aload_n 0, 1) := by decide +kernel
theorem dX9_init_43 : decode cX9_init 43 = .ok (.bipush 10, 2) := by decide +kernel
theorem dX9_init_45 : decode cX9_init 45 = .ok (.newarray .int, 2) := by decide +kernel
theorem dX9_init_47 : decode cX9_init 47 = .ok (.putfield 34, 3) := by decide +kernel
theorem dX9_init_50 : decode cX9_init 50 = .ok (.aload_n 0, 1) := by decide +kernel
theorem dX9_init_51 : decode cX9_init 51 = .ok (.bipush 6, 2) := by decide +kernel
theorem dX9_init_53 : decode cX9_init 53 = .ok (.newarray .int, 2) := by decide +kernel
theorem dX9_init_55 : decode cX9_init 55 = .ok (.putfield 37, 3) := by decide +kernel
theorem dX9_init_58 : decode cX9_init 58 = .ok (.aload_n 0, 1) := by decide +kernel
theorem dX9_init_59 : decode cX9_init 59 = .ok (.bipush 6, 2) := by decide +kernel
theorem dX9_init_61 : decode cX9_init 61 = .ok (.newarray .int, 2) := by decide +kernel
theorem dX9_init_63 : decode cX9_init 63 = .ok (.putfield 40, 3) := by decide +kernel
theorem dX9_init_66 : decode cX9_init 66 = .ok (.aload_n 0, 1) := by decide +kernel
theorem dX9_init_67 : decode cX9_init 67 = .ok (.bipush 6, 2) := by decide +kernel
theorem dX9_init_69 : decode cX9_init 69 = .ok (.newarray .int, 2) := by decide +kernel
theorem dX9_init_71 : decode cX9_init 71 = .ok (.putfield 43, 3) := by decide +kernel
theorem dX9_init_74 : decode cX9_init 74 = .ok (.aload_n 0, 1) := by decide +kernel
theorem dX9_init_75 : decode cX9_init 75 = .ok (.bipush 6, 2) := by decide +kernel
theorem dX9_init_77 : decode cX9_init 77 = .ok (.newarray .int, 2) := by decide +kernel
theorem dX9_init_79 : decode cX9_init 79 = .ok (.putfield 46, 3) := by decide +kernel
theorem dX9_init_82 : decode cX9_init 82 = .ok (.aload_n 0, 1) := by decide +kernel
theorem dX9_init_83 : decode cX9_init 83 = .ok (.bipush 6, 2) := by decide +kernel
theorem dX9_init_85 : decode cX9_init 85 = .ok (.newarray .int, 2) := by decide +kernel
theorem dX9_init_87 : decode cX9_init 87 = .ok (.putfield 49, 3) := by decide +kernel
theorem dX9_init_90 : decode cX9_init 90 = .ok (.aload_n 0, 1) := by decide +kernel
theorem dX9_init_91 : decode cX9_init 91 = .ok (.bipush 6, 2) := by decide +kernel
theorem dX9_init_93 : decode cX9_init 93 = .ok (.newarray .int, 2) := by decide +kernel
theorem dX9_init_95 : decode cX9_init 95 = .ok (.putfield 52, 3) := by decide +kernel
theorem dX9_init_98 : decode cX9_init 98 = .ok (.return_, 1) := by decide +kernel
set_option maxHeartbeats 4000000 in
set_option maxRecDepth 100000 in
theorem ct_X9_init (l : Launch) (D : va_G) (tc : Nat → ClassId) (sk : (Nat → Nat) × (Nat → Nat)) (h0 : Nat)  : Ct l yX9_init cX9_init 1 none { frames := 1, cells := 8, slots := 56, locals := 12 } D tc sk [.ref h0] [(h0, .inr (9, [.int 0, .int 0, .int 0, .int 0, .int 0, .int 0, .null, .null, .null, .null, .null, .null, .null, .null]))] (fun (v : Option Value) (u : (Nat) × (Nat) × (Nat) × (Nat) × (Nat) × (Nat) × (Nat) × (Nat)) => match u with | (b1, b2, b3, b4, b5, b6, b7, b8) => v = none) (fun (u : (Nat) × (Nat) × (Nat) × (Nat) × (Nat) × (Nat) × (Nat) × (Nat)) => match u with | (b1, b2, b3, b4, b5, b6, b7, b8) => [(h0, .inr (9, [.int 0, .int 0, .int 0, .int 0, .int 0, .int 0, .ref b1, .ref b2, .ref b3, .ref b4, .ref b5, .ref b6, .ref b7, .ref b8])), (b1, .inl (tc 0, 10, .inl (fun _ => 0))), (b2, .inl (tc 0, 10, .inl (fun _ => 0))), (b3, .inl (tc 0, 6, .inl (fun _ => 0))), (b4, .inl (tc 0, 6, .inl (fun _ => 0))), (b5, .inl (tc 0, 6, .inl (fun _ => 0))), (b6, .inl (tc 0, 6, .inl (fun _ => 0))), (b7, .inl (tc 0, 6, .inl (fun _ => 0))), (b8, .inl (tc 0, 6, .inl (fun _ => 0)))]) 8 56 := by
  refine Ct.start (by decide) (Nat.le_of_ble_eq_true rfl) (fun p e s m below meth c A ls hx hb hr hlk hin hml hown hts hK hX hP hD hA hl hS => ?_)
  have hl : lv_has ls 1 [(0, .ref h0)] := hl
  refine lv_aload_n hx hb dX9_init_0 rfl (lv_at hl 0 rfl) ?_
  refine W.objInit hx hb hown (hts _ k_168) (hts _ k_122) (hts _ k_123) rfl (by rw [hml]; exact hl.1) rfl dX9_init_1 (Nat.le_of_ble_eq_true rfl) (Nat.le_of_ble_eq_true rfl) ?_
  refine W.eq (g2 := F0 m 4 ls []) rfl ?_
  refine lv_aload_n hx hb dX9_init_4 rfl (lv_at hl 0 rfl) ?_
  refine lv_iconst (v := 0) hx hb dX9_init_5 (by decide) ?_
  refine pf_X9_9 hx hb hts hown hK hP hD hS 0 rfl (Nat.le_of_ble_eq_true rfl) rfl rfl dX9_init_6 (fun H locs hP₀ hD₀ hS₀ => ?_)
  replace hP : va_P D classes [(h0, .inr (9, [.int 0, .int 0, .int 0, .int 0, .int 0, .int 0, .null, .null, .null, .null, .null, .null, .null, .null]))] H := hP₀
  replace hD : va_D A [(h0, .inr (9, [.int 0, .int 0, .int 0, .int 0, .int 0, .int 0, .null, .null, .null, .null, .null, .null, .null, .null]))] := hD₀
  replace hS := hS₀
  clear hP₀ hD₀ hS₀
  refine lv_aload_n hx hb dX9_init_9 rfl (lv_at hl 0 rfl) ?_
  refine lv_iconst (v := 0) hx hb dX9_init_10 (by decide) ?_
  refine pf_X9_15 hx hb hts hown hK hP hD hS 0 rfl (Nat.le_of_ble_eq_true rfl) rfl rfl dX9_init_11 (fun H locs hP₀ hD₀ hS₀ => ?_)
  replace hP : va_P D classes [(h0, .inr (9, [.int 0, .int 0, .int 0, .int 0, .int 0, .int 0, .null, .null, .null, .null, .null, .null, .null, .null]))] H := hP₀
  replace hD : va_D A [(h0, .inr (9, [.int 0, .int 0, .int 0, .int 0, .int 0, .int 0, .null, .null, .null, .null, .null, .null, .null, .null]))] := hD₀
  replace hS := hS₀
  clear hP₀ hD₀ hS₀
  refine lv_aload_n hx hb dX9_init_14 rfl (lv_at hl 0 rfl) ?_
  refine lv_iconst (v := 0) hx hb dX9_init_15 (by decide) ?_
  refine pf_X9_18 hx hb hts hown hK hP hD hS 0 rfl (Nat.le_of_ble_eq_true rfl) rfl rfl dX9_init_16 (fun H locs hP₀ hD₀ hS₀ => ?_)
  replace hP : va_P D classes [(h0, .inr (9, [.int 0, .int 0, .int 0, .int 0, .int 0, .int 0, .null, .null, .null, .null, .null, .null, .null, .null]))] H := hP₀
  replace hD : va_D A [(h0, .inr (9, [.int 0, .int 0, .int 0, .int 0, .int 0, .int 0, .null, .null, .null, .null, .null, .null, .null, .null]))] := hD₀
  replace hS := hS₀
  clear hP₀ hD₀ hS₀
  refine lv_aload_n hx hb dX9_init_19 rfl (lv_at hl 0 rfl) ?_
  refine lv_iconst (v := 0) hx hb dX9_init_20 (by decide) ?_
  refine pf_X9_21 hx hb hts hown hK hP hD hS 0 rfl (Nat.le_of_ble_eq_true rfl) rfl rfl dX9_init_21 (fun H locs hP₀ hD₀ hS₀ => ?_)
  replace hP : va_P D classes [(h0, .inr (9, [.int 0, .int 0, .int 0, .int 0, .int 0, .int 0, .null, .null, .null, .null, .null, .null, .null, .null]))] H := hP₀
  replace hD : va_D A [(h0, .inr (9, [.int 0, .int 0, .int 0, .int 0, .int 0, .int 0, .null, .null, .null, .null, .null, .null, .null, .null]))] := hD₀
  replace hS := hS₀
  clear hP₀ hD₀ hS₀
  refine lv_aload_n hx hb dX9_init_24 rfl (lv_at hl 0 rfl) ?_
  refine lv_iconst (v := 0) hx hb dX9_init_25 (by decide) ?_
  refine pf_X9_24 hx hb hts hown hK hP hD hS 0 rfl (Nat.le_of_ble_eq_true rfl) rfl rfl dX9_init_26 (fun H locs hP₀ hD₀ hS₀ => ?_)
  replace hP : va_P D classes [(h0, .inr (9, [.int 0, .int 0, .int 0, .int 0, .int 0, .int 0, .null, .null, .null, .null, .null, .null, .null, .null]))] H := hP₀
  replace hD : va_D A [(h0, .inr (9, [.int 0, .int 0, .int 0, .int 0, .int 0, .int 0, .null, .null, .null, .null, .null, .null, .null, .null]))] := hD₀
  replace hS := hS₀
  clear hP₀ hD₀ hS₀
  refine lv_aload_n hx hb dX9_init_29 rfl (lv_at hl 0 rfl) ?_
  refine lv_iconst (v := 0) hx hb dX9_init_30 (by decide) ?_
  refine pf_X9_27 hx hb hts hown hK hP hD hS 0 rfl (Nat.le_of_ble_eq_true rfl) rfl rfl dX9_init_31 (fun H locs hP₀ hD₀ hS₀ => ?_)
  replace hP : va_P D classes [(h0, .inr (9, [.int 0, .int 0, .int 0, .int 0, .int 0, .int 0, .null, .null, .null, .null, .null, .null, .null, .null]))] H := hP₀
  replace hD : va_D A [(h0, .inr (9, [.int 0, .int 0, .int 0, .int 0, .int 0, .int 0, .null, .null, .null, .null, .null, .null, .null, .null]))] := hD₀
  replace hS := hS₀
  clear hP₀ hD₀ hS₀
  refine lv_aload_n hx hb dX9_init_34 rfl (lv_at hl 0 rfl) ?_
  refine lv_bipush (v := 10) hx hb dX9_init_35 (by decide) ?_
  refine nwA (atype := .int) (a0 := (10, .inl (fun _ => 0))) hx hb (hts _ k_156) rfl hK hP hD hS hA 0 rfl (fun _ => rfl) (by decide) (by decide) (by decide) (Nat.le_of_ble_eq_true rfl) (Nat.le_of_ble_eq_true rfl) dX9_init_37 (fun q_1 H hP₀ hD₀ hS₀ => ?_)
  replace hP : va_P D classes [(h0, .inr (9, [.int 0, .int 0, .int 0, .int 0, .int 0, .int 0, .null, .null, .null, .null, .null, .null, .null, .null])), (q_1, .inl (tc 0, 10, .inl (fun _ => 0)))] H := hP₀
  replace hD : va_D A [(h0, .inr (9, [.int 0, .int 0, .int 0, .int 0, .int 0, .int 0, .null, .null, .null, .null, .null, .null, .null, .null])), (q_1, .inl (tc 0, 10, .inl (fun _ => 0)))] := hD₀
  replace hS := hS₀
  clear hP₀ hD₀ hS₀
  refine pf_X9_30 (ty := (.array .int)) hx hb hts hown hin hK hP hD hS 0 rfl (Nat.le_of_ble_eq_true rfl) (by decide +kernel) rfl rfl dX9_init_39 (fun H locs hP₀ hD₀ hS₀ => ?_)
  replace hP : va_P D classes [(h0, .inr (9, [.int 0, .int 0, .int 0, .int 0, .int 0, .int 0, .ref q_1, .null, .null, .null, .null, .null, .null, .null])), (q_1, .inl (tc 0, 10, .inl (fun _ => 0)))] H := hP₀
  replace hD : va_D A [(h0, .inr (9, [.int 0, .int 0, .int 0, .int 0, .int 0, .int 0, .ref q_1, .null, .null, .null, .null, .null, .null, .null])), (q_1, .inl (tc 0, 10, .inl (fun _ => 0)))] := hD₀
  replace hS := hS₀
  clear hP₀ hD₀ hS₀
  refine lv_aload_n hx hb dX9_init_42 rfl (lv_at hl 0 rfl) ?_
  refine lv_bipush (v := 10) hx hb dX9_init_43 (by decide) ?_
  refine nwA (atype := .int) (a0 := (10, .inl (fun _ => 0))) hx hb (hts _ k_156) rfl hK hP hD hS hA 0 rfl (fun _ => rfl) (by decide) (by decide) (by decide) (Nat.le_of_ble_eq_true rfl) (Nat.le_of_ble_eq_true rfl) dX9_init_45 (fun q_2 H hP₀ hD₀ hS₀ => ?_)
  replace hP : va_P D classes [(h0, .inr (9, [.int 0, .int 0, .int 0, .int 0, .int 0, .int 0, .ref q_1, .null, .null, .null, .null, .null, .null, .null])), (q_1, .inl (tc 0, 10, .inl (fun _ => 0))), (q_2, .inl (tc 0, 10, .inl (fun _ => 0)))] H := hP₀
  replace hD : va_D A [(h0, .inr (9, [.int 0, .int 0, .int 0, .int 0, .int 0, .int 0, .ref q_1, .null, .null, .null, .null, .null, .null, .null])), (q_1, .inl (tc 0, 10, .inl (fun _ => 0))), (q_2, .inl (tc 0, 10, .inl (fun _ => 0)))] := hD₀
  replace hS := hS₀
  clear hP₀ hD₀ hS₀
  refine pf_X9_34 (ty := (.array .int)) hx hb hts hown hin hK hP hD hS 0 rfl (Nat.le_of_ble_eq_true rfl) (by decide +kernel) rfl rfl dX9_init_47 (fun H locs hP₀ hD₀ hS₀ => ?_)
  replace hP : va_P D classes [(h0, .inr (9, [.int 0, .int 0, .int 0, .int 0, .int 0, .int 0, .ref q_1, .ref q_2, .null, .null, .null, .null, .null, .null])), (q_1, .inl (tc 0, 10, .inl (fun _ => 0))), (q_2, .inl (tc 0, 10, .inl (fun _ => 0)))] H := hP₀
  replace hD : va_D A [(h0, .inr (9, [.int 0, .int 0, .int 0, .int 0, .int 0, .int 0, .ref q_1, .ref q_2, .null, .null, .null, .null, .null, .null])), (q_1, .inl (tc 0, 10, .inl (fun _ => 0))), (q_2, .inl (tc 0, 10, .inl (fun _ => 0)))] := hD₀
  replace hS := hS₀
  clear hP₀ hD₀ hS₀
  refine lv_aload_n hx hb dX9_init_50 rfl (lv_at hl 0 rfl) ?_
  refine lv_bipush (v := 6) hx hb dX9_init_51 (by decide) ?_
  refine nwA (atype := .int) (a0 := (6, .inl (fun _ => 0))) hx hb (hts _ k_156) rfl hK hP hD hS hA 0 rfl (fun _ => rfl) (by decide) (by decide) (by decide) (Nat.le_of_ble_eq_true rfl) (Nat.le_of_ble_eq_true rfl) dX9_init_53 (fun q_3 H hP₀ hD₀ hS₀ => ?_)
  replace hP : va_P D classes [(h0, .inr (9, [.int 0, .int 0, .int 0, .int 0, .int 0, .int 0, .ref q_1, .ref q_2, .null, .null, .null, .null, .null, .null])), (q_1, .inl (tc 0, 10, .inl (fun _ => 0))), (q_2, .inl (tc 0, 10, .inl (fun _ => 0))), (q_3, .inl (tc 0, 6, .inl (fun _ => 0)))] H := hP₀
  replace hD : va_D A [(h0, .inr (9, [.int 0, .int 0, .int 0, .int 0, .int 0, .int 0, .ref q_1, .ref q_2, .null, .null, .null, .null, .null, .null])), (q_1, .inl (tc 0, 10, .inl (fun _ => 0))), (q_2, .inl (tc 0, 10, .inl (fun _ => 0))), (q_3, .inl (tc 0, 6, .inl (fun _ => 0)))] := hD₀
  replace hS := hS₀
  clear hP₀ hD₀ hS₀
  refine pf_X9_37 (ty := (.array .int)) hx hb hts hown hin hK hP hD hS 0 rfl (Nat.le_of_ble_eq_true rfl) (by decide +kernel) rfl rfl dX9_init_55 (fun H locs hP₀ hD₀ hS₀ => ?_)
  replace hP : va_P D classes [(h0, .inr (9, [.int 0, .int 0, .int 0, .int 0, .int 0, .int 0, .ref q_1, .ref q_2, .ref q_3, .null, .null, .null, .null, .null])), (q_1, .inl (tc 0, 10, .inl (fun _ => 0))), (q_2, .inl (tc 0, 10, .inl (fun _ => 0))), (q_3, .inl (tc 0, 6, .inl (fun _ => 0)))] H := hP₀
  replace hD : va_D A [(h0, .inr (9, [.int 0, .int 0, .int 0, .int 0, .int 0, .int 0, .ref q_1, .ref q_2, .ref q_3, .null, .null, .null, .null, .null])), (q_1, .inl (tc 0, 10, .inl (fun _ => 0))), (q_2, .inl (tc 0, 10, .inl (fun _ => 0))), (q_3, .inl (tc 0, 6, .inl (fun _ => 0)))] := hD₀
  replace hS := hS₀
  clear hP₀ hD₀ hS₀
  refine lv_aload_n hx hb dX9_init_58 rfl (lv_at hl 0 rfl) ?_
  refine lv_bipush (v := 6) hx hb dX9_init_59 (by decide) ?_
  refine nwA (atype := .int) (a0 := (6, .inl (fun _ => 0))) hx hb (hts _ k_156) rfl hK hP hD hS hA 0 rfl (fun _ => rfl) (by decide) (by decide) (by decide) (Nat.le_of_ble_eq_true rfl) (Nat.le_of_ble_eq_true rfl) dX9_init_61 (fun q_4 H hP₀ hD₀ hS₀ => ?_)
  replace hP : va_P D classes [(h0, .inr (9, [.int 0, .int 0, .int 0, .int 0, .int 0, .int 0, .ref q_1, .ref q_2, .ref q_3, .null, .null, .null, .null, .null])), (q_1, .inl (tc 0, 10, .inl (fun _ => 0))), (q_2, .inl (tc 0, 10, .inl (fun _ => 0))), (q_3, .inl (tc 0, 6, .inl (fun _ => 0))), (q_4, .inl (tc 0, 6, .inl (fun _ => 0)))] H := hP₀
  replace hD : va_D A [(h0, .inr (9, [.int 0, .int 0, .int 0, .int 0, .int 0, .int 0, .ref q_1, .ref q_2, .ref q_3, .null, .null, .null, .null, .null])), (q_1, .inl (tc 0, 10, .inl (fun _ => 0))), (q_2, .inl (tc 0, 10, .inl (fun _ => 0))), (q_3, .inl (tc 0, 6, .inl (fun _ => 0))), (q_4, .inl (tc 0, 6, .inl (fun _ => 0)))] := hD₀
  replace hS := hS₀
  clear hP₀ hD₀ hS₀
  refine pf_X9_40 (ty := (.array .int)) hx hb hts hown hin hK hP hD hS 0 rfl (Nat.le_of_ble_eq_true rfl) (by decide +kernel) rfl rfl dX9_init_63 (fun H locs hP₀ hD₀ hS₀ => ?_)
  replace hP : va_P D classes [(h0, .inr (9, [.int 0, .int 0, .int 0, .int 0, .int 0, .int 0, .ref q_1, .ref q_2, .ref q_3, .ref q_4, .null, .null, .null, .null])), (q_1, .inl (tc 0, 10, .inl (fun _ => 0))), (q_2, .inl (tc 0, 10, .inl (fun _ => 0))), (q_3, .inl (tc 0, 6, .inl (fun _ => 0))), (q_4, .inl (tc 0, 6, .inl (fun _ => 0)))] H := hP₀
  replace hD : va_D A [(h0, .inr (9, [.int 0, .int 0, .int 0, .int 0, .int 0, .int 0, .ref q_1, .ref q_2, .ref q_3, .ref q_4, .null, .null, .null, .null])), (q_1, .inl (tc 0, 10, .inl (fun _ => 0))), (q_2, .inl (tc 0, 10, .inl (fun _ => 0))), (q_3, .inl (tc 0, 6, .inl (fun _ => 0))), (q_4, .inl (tc 0, 6, .inl (fun _ => 0)))] := hD₀
  replace hS := hS₀
  clear hP₀ hD₀ hS₀
  refine lv_aload_n hx hb dX9_init_66 rfl (lv_at hl 0 rfl) ?_
  refine lv_bipush (v := 6) hx hb dX9_init_67 (by decide) ?_
  refine nwA (atype := .int) (a0 := (6, .inl (fun _ => 0))) hx hb (hts _ k_156) rfl hK hP hD hS hA 0 rfl (fun _ => rfl) (by decide) (by decide) (by decide) (Nat.le_of_ble_eq_true rfl) (Nat.le_of_ble_eq_true rfl) dX9_init_69 (fun q_5 H hP₀ hD₀ hS₀ => ?_)
  replace hP : va_P D classes [(h0, .inr (9, [.int 0, .int 0, .int 0, .int 0, .int 0, .int 0, .ref q_1, .ref q_2, .ref q_3, .ref q_4, .null, .null, .null, .null])), (q_1, .inl (tc 0, 10, .inl (fun _ => 0))), (q_2, .inl (tc 0, 10, .inl (fun _ => 0))), (q_3, .inl (tc 0, 6, .inl (fun _ => 0))), (q_4, .inl (tc 0, 6, .inl (fun _ => 0))), (q_5, .inl (tc 0, 6, .inl (fun _ => 0)))] H := hP₀
  replace hD : va_D A [(h0, .inr (9, [.int 0, .int 0, .int 0, .int 0, .int 0, .int 0, .ref q_1, .ref q_2, .ref q_3, .ref q_4, .null, .null, .null, .null])), (q_1, .inl (tc 0, 10, .inl (fun _ => 0))), (q_2, .inl (tc 0, 10, .inl (fun _ => 0))), (q_3, .inl (tc 0, 6, .inl (fun _ => 0))), (q_4, .inl (tc 0, 6, .inl (fun _ => 0))), (q_5, .inl (tc 0, 6, .inl (fun _ => 0)))] := hD₀
  replace hS := hS₀
  clear hP₀ hD₀ hS₀
  refine pf_X9_43 (ty := (.array .int)) hx hb hts hown hin hK hP hD hS 0 rfl (Nat.le_of_ble_eq_true rfl) (by decide +kernel) rfl rfl dX9_init_71 (fun H locs hP₀ hD₀ hS₀ => ?_)
  replace hP : va_P D classes [(h0, .inr (9, [.int 0, .int 0, .int 0, .int 0, .int 0, .int 0, .ref q_1, .ref q_2, .ref q_3, .ref q_4, .ref q_5, .null, .null, .null])), (q_1, .inl (tc 0, 10, .inl (fun _ => 0))), (q_2, .inl (tc 0, 10, .inl (fun _ => 0))), (q_3, .inl (tc 0, 6, .inl (fun _ => 0))), (q_4, .inl (tc 0, 6, .inl (fun _ => 0))), (q_5, .inl (tc 0, 6, .inl (fun _ => 0)))] H := hP₀
  replace hD : va_D A [(h0, .inr (9, [.int 0, .int 0, .int 0, .int 0, .int 0, .int 0, .ref q_1, .ref q_2, .ref q_3, .ref q_4, .ref q_5, .null, .null, .null])), (q_1, .inl (tc 0, 10, .inl (fun _ => 0))), (q_2, .inl (tc 0, 10, .inl (fun _ => 0))), (q_3, .inl (tc 0, 6, .inl (fun _ => 0))), (q_4, .inl (tc 0, 6, .inl (fun _ => 0))), (q_5, .inl (tc 0, 6, .inl (fun _ => 0)))] := hD₀
  replace hS := hS₀
  clear hP₀ hD₀ hS₀
  refine lv_aload_n hx hb dX9_init_74 rfl (lv_at hl 0 rfl) ?_
  refine lv_bipush (v := 6) hx hb dX9_init_75 (by decide) ?_
  refine nwA (atype := .int) (a0 := (6, .inl (fun _ => 0))) hx hb (hts _ k_156) rfl hK hP hD hS hA 0 rfl (fun _ => rfl) (by decide) (by decide) (by decide) (Nat.le_of_ble_eq_true rfl) (Nat.le_of_ble_eq_true rfl) dX9_init_77 (fun q_6 H hP₀ hD₀ hS₀ => ?_)
  replace hP : va_P D classes [(h0, .inr (9, [.int 0, .int 0, .int 0, .int 0, .int 0, .int 0, .ref q_1, .ref q_2, .ref q_3, .ref q_4, .ref q_5, .null, .null, .null])), (q_1, .inl (tc 0, 10, .inl (fun _ => 0))), (q_2, .inl (tc 0, 10, .inl (fun _ => 0))), (q_3, .inl (tc 0, 6, .inl (fun _ => 0))), (q_4, .inl (tc 0, 6, .inl (fun _ => 0))), (q_5, .inl (tc 0, 6, .inl (fun _ => 0))), (q_6, .inl (tc 0, 6, .inl (fun _ => 0)))] H := hP₀
  replace hD : va_D A [(h0, .inr (9, [.int 0, .int 0, .int 0, .int 0, .int 0, .int 0, .ref q_1, .ref q_2, .ref q_3, .ref q_4, .ref q_5, .null, .null, .null])), (q_1, .inl (tc 0, 10, .inl (fun _ => 0))), (q_2, .inl (tc 0, 10, .inl (fun _ => 0))), (q_3, .inl (tc 0, 6, .inl (fun _ => 0))), (q_4, .inl (tc 0, 6, .inl (fun _ => 0))), (q_5, .inl (tc 0, 6, .inl (fun _ => 0))), (q_6, .inl (tc 0, 6, .inl (fun _ => 0)))] := hD₀
  replace hS := hS₀
  clear hP₀ hD₀ hS₀
  refine pf_X9_46 (ty := (.array .int)) hx hb hts hown hin hK hP hD hS 0 rfl (Nat.le_of_ble_eq_true rfl) (by decide +kernel) rfl rfl dX9_init_79 (fun H locs hP₀ hD₀ hS₀ => ?_)
  replace hP : va_P D classes [(h0, .inr (9, [.int 0, .int 0, .int 0, .int 0, .int 0, .int 0, .ref q_1, .ref q_2, .ref q_3, .ref q_4, .ref q_5, .ref q_6, .null, .null])), (q_1, .inl (tc 0, 10, .inl (fun _ => 0))), (q_2, .inl (tc 0, 10, .inl (fun _ => 0))), (q_3, .inl (tc 0, 6, .inl (fun _ => 0))), (q_4, .inl (tc 0, 6, .inl (fun _ => 0))), (q_5, .inl (tc 0, 6, .inl (fun _ => 0))), (q_6, .inl (tc 0, 6, .inl (fun _ => 0)))] H := hP₀
  replace hD : va_D A [(h0, .inr (9, [.int 0, .int 0, .int 0, .int 0, .int 0, .int 0, .ref q_1, .ref q_2, .ref q_3, .ref q_4, .ref q_5, .ref q_6, .null, .null])), (q_1, .inl (tc 0, 10, .inl (fun _ => 0))), (q_2, .inl (tc 0, 10, .inl (fun _ => 0))), (q_3, .inl (tc 0, 6, .inl (fun _ => 0))), (q_4, .inl (tc 0, 6, .inl (fun _ => 0))), (q_5, .inl (tc 0, 6, .inl (fun _ => 0))), (q_6, .inl (tc 0, 6, .inl (fun _ => 0)))] := hD₀
  replace hS := hS₀
  clear hP₀ hD₀ hS₀
  refine lv_aload_n hx hb dX9_init_82 rfl (lv_at hl 0 rfl) ?_
  refine lv_bipush (v := 6) hx hb dX9_init_83 (by decide) ?_
  refine nwA (atype := .int) (a0 := (6, .inl (fun _ => 0))) hx hb (hts _ k_156) rfl hK hP hD hS hA 0 rfl (fun _ => rfl) (by decide) (by decide) (by decide) (Nat.le_of_ble_eq_true rfl) (Nat.le_of_ble_eq_true rfl) dX9_init_85 (fun q_7 H hP₀ hD₀ hS₀ => ?_)
  replace hP : va_P D classes [(h0, .inr (9, [.int 0, .int 0, .int 0, .int 0, .int 0, .int 0, .ref q_1, .ref q_2, .ref q_3, .ref q_4, .ref q_5, .ref q_6, .null, .null])), (q_1, .inl (tc 0, 10, .inl (fun _ => 0))), (q_2, .inl (tc 0, 10, .inl (fun _ => 0))), (q_3, .inl (tc 0, 6, .inl (fun _ => 0))), (q_4, .inl (tc 0, 6, .inl (fun _ => 0))), (q_5, .inl (tc 0, 6, .inl (fun _ => 0))), (q_6, .inl (tc 0, 6, .inl (fun _ => 0))), (q_7, .inl (tc 0, 6, .inl (fun _ => 0)))] H := hP₀
  replace hD : va_D A [(h0, .inr (9, [.int 0, .int 0, .int 0, .int 0, .int 0, .int 0, .ref q_1, .ref q_2, .ref q_3, .ref q_4, .ref q_5, .ref q_6, .null, .null])), (q_1, .inl (tc 0, 10, .inl (fun _ => 0))), (q_2, .inl (tc 0, 10, .inl (fun _ => 0))), (q_3, .inl (tc 0, 6, .inl (fun _ => 0))), (q_4, .inl (tc 0, 6, .inl (fun _ => 0))), (q_5, .inl (tc 0, 6, .inl (fun _ => 0))), (q_6, .inl (tc 0, 6, .inl (fun _ => 0))), (q_7, .inl (tc 0, 6, .inl (fun _ => 0)))] := hD₀
  replace hS := hS₀
  clear hP₀ hD₀ hS₀
  refine pf_X9_49 (ty := (.array .int)) hx hb hts hown hin hK hP hD hS 0 rfl (Nat.le_of_ble_eq_true rfl) (by decide +kernel) rfl rfl dX9_init_87 (fun H locs hP₀ hD₀ hS₀ => ?_)
  replace hP : va_P D classes [(h0, .inr (9, [.int 0, .int 0, .int 0, .int 0, .int 0, .int 0, .ref q_1, .ref q_2, .ref q_3, .ref q_4, .ref q_5, .ref q_6, .ref q_7, .null])), (q_1, .inl (tc 0, 10, .inl (fun _ => 0))), (q_2, .inl (tc 0, 10, .inl (fun _ => 0))), (q_3, .inl (tc 0, 6, .inl (fun _ => 0))), (q_4, .inl (tc 0, 6, .inl (fun _ => 0))), (q_5, .inl (tc 0, 6, .inl (fun _ => 0))), (q_6, .inl (tc 0, 6, .inl (fun _ => 0))), (q_7, .inl (tc 0, 6, .inl (fun _ => 0)))] H := hP₀
  replace hD : va_D A [(h0, .inr (9, [.int 0, .int 0, .int 0, .int 0, .int 0, .int 0, .ref q_1, .ref q_2, .ref q_3, .ref q_4, .ref q_5, .ref q_6, .ref q_7, .null])), (q_1, .inl (tc 0, 10, .inl (fun _ => 0))), (q_2, .inl (tc 0, 10, .inl (fun _ => 0))), (q_3, .inl (tc 0, 6, .inl (fun _ => 0))), (q_4, .inl (tc 0, 6, .inl (fun _ => 0))), (q_5, .inl (tc 0, 6, .inl (fun _ => 0))), (q_6, .inl (tc 0, 6, .inl (fun _ => 0))), (q_7, .inl (tc 0, 6, .inl (fun _ => 0)))] := hD₀
  replace hS := hS₀
  clear hP₀ hD₀ hS₀
  refine lv_aload_n hx hb dX9_init_90 rfl (lv_at hl 0 rfl) ?_
  refine lv_bipush (v := 6) hx hb dX9_init_91 (by decide) ?_
  refine nwA (atype := .int) (a0 := (6, .inl (fun _ => 0))) hx hb (hts _ k_156) rfl hK hP hD hS hA 0 rfl (fun _ => rfl) (by decide) (by decide) (by decide) (Nat.le_of_ble_eq_true rfl) (Nat.le_of_ble_eq_true rfl) dX9_init_93 (fun q_8 H hP₀ hD₀ hS₀ => ?_)
  replace hP : va_P D classes [(h0, .inr (9, [.int 0, .int 0, .int 0, .int 0, .int 0, .int 0, .ref q_1, .ref q_2, .ref q_3, .ref q_4, .ref q_5, .ref q_6, .ref q_7, .null])), (q_1, .inl (tc 0, 10, .inl (fun _ => 0))), (q_2, .inl (tc 0, 10, .inl (fun _ => 0))), (q_3, .inl (tc 0, 6, .inl (fun _ => 0))), (q_4, .inl (tc 0, 6, .inl (fun _ => 0))), (q_5, .inl (tc 0, 6, .inl (fun _ => 0))), (q_6, .inl (tc 0, 6, .inl (fun _ => 0))), (q_7, .inl (tc 0, 6, .inl (fun _ => 0))), (q_8, .inl (tc 0, 6, .inl (fun _ => 0)))] H := hP₀
  replace hD : va_D A [(h0, .inr (9, [.int 0, .int 0, .int 0, .int 0, .int 0, .int 0, .ref q_1, .ref q_2, .ref q_3, .ref q_4, .ref q_5, .ref q_6, .ref q_7, .null])), (q_1, .inl (tc 0, 10, .inl (fun _ => 0))), (q_2, .inl (tc 0, 10, .inl (fun _ => 0))), (q_3, .inl (tc 0, 6, .inl (fun _ => 0))), (q_4, .inl (tc 0, 6, .inl (fun _ => 0))), (q_5, .inl (tc 0, 6, .inl (fun _ => 0))), (q_6, .inl (tc 0, 6, .inl (fun _ => 0))), (q_7, .inl (tc 0, 6, .inl (fun _ => 0))), (q_8, .inl (tc 0, 6, .inl (fun _ => 0)))] := hD₀
  replace hS := hS₀
  clear hP₀ hD₀ hS₀
  refine pf_X9_52 (ty := (.array .int)) hx hb hts hown hin hK hP hD hS 0 rfl (Nat.le_of_ble_eq_true rfl) (by decide +kernel) rfl rfl dX9_init_95 (fun H locs hP₀ hD₀ hS₀ => ?_)
  replace hP : va_P D classes [(h0, .inr (9, [.int 0, .int 0, .int 0, .int 0, .int 0, .int 0, .ref q_1, .ref q_2, .ref q_3, .ref q_4, .ref q_5, .ref q_6, .ref q_7, .ref q_8])), (q_1, .inl (tc 0, 10, .inl (fun _ => 0))), (q_2, .inl (tc 0, 10, .inl (fun _ => 0))), (q_3, .inl (tc 0, 6, .inl (fun _ => 0))), (q_4, .inl (tc 0, 6, .inl (fun _ => 0))), (q_5, .inl (tc 0, 6, .inl (fun _ => 0))), (q_6, .inl (tc 0, 6, .inl (fun _ => 0))), (q_7, .inl (tc 0, 6, .inl (fun _ => 0))), (q_8, .inl (tc 0, 6, .inl (fun _ => 0)))] H := hP₀
  replace hD : va_D A [(h0, .inr (9, [.int 0, .int 0, .int 0, .int 0, .int 0, .int 0, .ref q_1, .ref q_2, .ref q_3, .ref q_4, .ref q_5, .ref q_6, .ref q_7, .ref q_8])), (q_1, .inl (tc 0, 10, .inl (fun _ => 0))), (q_2, .inl (tc 0, 10, .inl (fun _ => 0))), (q_3, .inl (tc 0, 6, .inl (fun _ => 0))), (q_4, .inl (tc 0, 6, .inl (fun _ => 0))), (q_5, .inl (tc 0, 6, .inl (fun _ => 0))), (q_6, .inl (tc 0, 6, .inl (fun _ => 0))), (q_7, .inl (tc 0, 6, .inl (fun _ => 0))), (q_8, .inl (tc 0, 6, .inl (fun _ => 0)))] := hD₀
  replace hS := hS₀
  clear hP₀ hD₀ hS₀
  exact retV hx hb hr hlk hP hD hS (q_1, q_2, q_3, q_4, q_5, q_6, q_7, q_8) rfl [0, 1, 2, 3, 4, 5, 6, 7, 8] rfl rfl dX9_init_98 (Nat.le_of_ble_eq_true rfl) (Nat.le_of_ble_eq_true rfl) rfl
set_option maxHeartbeats 4000000 in
set_option maxRecDepth 100000 in
theorem ct_X10_init (l : Launch) (D : va_G) (tc : Nat → ClassId) (sk : (Nat → Nat) × (Nat → Nat)) (h0 : Nat)  : Ct l yX10_init cX10_init 1 none { frames := 1, cells := 1, slots := 400, locals := 12 } D tc sk [.ref h0] [(h0, .inr (10, [.null, .int 0, .int 0, .int 0, .int 0, .int 0]))] (fun (v : Option Value) (b1 : Nat) => v = none) (fun (b1 : Nat) => [(h0, .inr (10, [.ref b1, .int 0, .int 0, .int 0, .int (-1), .int 0])), (b1, .inl (tc 0, 400, .inl (fun _ => 0)))]) 1 400 := by
  refine Ct.start (by decide) (Nat.le_of_ble_eq_true rfl) (fun p e s m below meth c A ls hx hb hr hlk hin hml hown hts hK hX hP hD hA hl hS => ?_)
  have hl : lv_has ls 1 [(0, .ref h0)] := hl
  refine lv_aload_n hx hb dX10_init_0 rfl (lv_at hl 0 rfl) ?_
  refine W.objInit hx hb hown (hts _ k_129) (hts _ k_122) (hts _ k_123) rfl (by rw [hml]; exact hl.1) rfl dX10_init_1 (Nat.le_of_ble_eq_true rfl) (Nat.le_of_ble_eq_true rfl) ?_
  refine W.eq (g2 := F0 m 4 ls []) rfl ?_
  refine lv_aload_n hx hb dX10_init_4 rfl (lv_at hl 0 rfl) ?_
  refine lv_sipush (v := 400) hx hb dX10_init_5 (by decide) ?_
  refine nwA (atype := .int) (a0 := (400, .inl (fun _ => 0))) hx hb (hts _ k_156) rfl hK hP hD hS hA 0 rfl (fun _ => rfl) (by decide) (by decide) (by decide) (Nat.le_of_ble_eq_true rfl) (Nat.le_of_ble_eq_true rfl) dX10_init_8 (fun q_1 H hP₀ hD₀ hS₀ => ?_)
  replace hP : va_P D classes [(h0, .inr (10, [.null, .int 0, .int 0, .int 0, .int 0, .int 0])), (q_1, .inl (tc 0, 400, .inl (fun _ => 0)))] H := hP₀
  replace hD : va_D A [(h0, .inr (10, [.null, .int 0, .int 0, .int 0, .int 0, .int 0])), (q_1, .inl (tc 0, 400, .inl (fun _ => 0)))] := hD₀
  replace hS := hS₀
  clear hP₀ hD₀ hS₀
  refine pf_X10_9 (ty := (.array .int)) hx hb hts hown hin hK hP hD hS 0 rfl (Nat.le_of_ble_eq_true rfl) (by decide +kernel) rfl rfl dX10_init_10 (fun H locs hP₀ hD₀ hS₀ => ?_)
  replace hP : va_P D classes [(h0, .inr (10, [.ref q_1, .int 0, .int 0, .int 0, .int 0, .int 0])), (q_1, .inl (tc 0, 400, .inl (fun _ => 0)))] H := hP₀
  replace hD : va_D A [(h0, .inr (10, [.ref q_1, .int 0, .int 0, .int 0, .int 0, .int 0])), (q_1, .inl (tc 0, 400, .inl (fun _ => 0)))] := hD₀
  replace hS := hS₀
  clear hP₀ hD₀ hS₀
  refine lv_aload_n hx hb dX10_init_13 rfl (lv_at hl 0 rfl) ?_
  refine lv_iconst (v := 0) hx hb dX10_init_14 (by decide) ?_
  refine pf_X10_15 hx hb hts hown hK hP hD hS 0 rfl (Nat.le_of_ble_eq_true rfl) rfl rfl dX10_init_15 (fun H locs hP₀ hD₀ hS₀ => ?_)
  replace hP : va_P D classes [(h0, .inr (10, [.ref q_1, .int 0, .int 0, .int 0, .int 0, .int 0])), (q_1, .inl (tc 0, 400, .inl (fun _ => 0)))] H := hP₀
  replace hD : va_D A [(h0, .inr (10, [.ref q_1, .int 0, .int 0, .int 0, .int 0, .int 0])), (q_1, .inl (tc 0, 400, .inl (fun _ => 0)))] := hD₀
  replace hS := hS₀
  clear hP₀ hD₀ hS₀
  refine lv_aload_n hx hb dX10_init_18 rfl (lv_at hl 0 rfl) ?_
  refine lv_iconst (v := 0) hx hb dX10_init_19 (by decide) ?_
  refine pf_X10_19 hx hb hts hown hK hP hD hS 0 rfl (Nat.le_of_ble_eq_true rfl) rfl rfl dX10_init_20 (fun H locs hP₀ hD₀ hS₀ => ?_)
  replace hP : va_P D classes [(h0, .inr (10, [.ref q_1, .int 0, .int 0, .int 0, .int 0, .int 0])), (q_1, .inl (tc 0, 400, .inl (fun _ => 0)))] H := hP₀
  replace hD : va_D A [(h0, .inr (10, [.ref q_1, .int 0, .int 0, .int 0, .int 0, .int 0])), (q_1, .inl (tc 0, 400, .inl (fun _ => 0)))] := hD₀
  replace hS := hS₀
  clear hP₀ hD₀ hS₀
  refine lv_aload_n hx hb dX10_init_23 rfl (lv_at hl 0 rfl) ?_
  refine lv_iconst (v := 0) hx hb dX10_init_24 (by decide) ?_
  refine pf_X10_22 hx hb hts hown hK hP hD hS 0 rfl (Nat.le_of_ble_eq_true rfl) rfl rfl dX10_init_25 (fun H locs hP₀ hD₀ hS₀ => ?_)
  replace hP : va_P D classes [(h0, .inr (10, [.ref q_1, .int 0, .int 0, .int 0, .int 0, .int 0])), (q_1, .inl (tc 0, 400, .inl (fun _ => 0)))] H := hP₀
  replace hD : va_D A [(h0, .inr (10, [.ref q_1, .int 0, .int 0, .int 0, .int 0, .int 0])), (q_1, .inl (tc 0, 400, .inl (fun _ => 0)))] := hD₀
  replace hS := hS₀
  clear hP₀ hD₀ hS₀
  refine lv_aload_n hx hb dX10_init_28 rfl (lv_at hl 0 rfl) ?_
  refine lv_iconst (v := (-1)) hx hb dX10_init_29 (by decide) ?_
  refine pf_X10_25 hx hb hts hown hK hP hD hS 0 rfl (Nat.le_of_ble_eq_true rfl) rfl rfl dX10_init_30 (fun H locs hP₀ hD₀ hS₀ => ?_)
  replace hP : va_P D classes [(h0, .inr (10, [.ref q_1, .int 0, .int 0, .int 0, .int (-1), .int 0])), (q_1, .inl (tc 0, 400, .inl (fun _ => 0)))] H := hP₀
  replace hD : va_D A [(h0, .inr (10, [.ref q_1, .int 0, .int 0, .int 0, .int (-1), .int 0])), (q_1, .inl (tc 0, 400, .inl (fun _ => 0)))] := hD₀
  replace hS := hS₀
  clear hP₀ hD₀ hS₀
  refine lv_aload_n hx hb dX10_init_33 rfl (lv_at hl 0 rfl) ?_
  refine lv_iconst (v := 0) hx hb dX10_init_34 (by decide) ?_
  refine pf_X10_28 hx hb hts hown hK hP hD hS 0 rfl (Nat.le_of_ble_eq_true rfl) rfl rfl dX10_init_35 (fun H locs hP₀ hD₀ hS₀ => ?_)
  replace hP : va_P D classes [(h0, .inr (10, [.ref q_1, .int 0, .int 0, .int 0, .int (-1), .int 0])), (q_1, .inl (tc 0, 400, .inl (fun _ => 0)))] H := hP₀
  replace hD : va_D A [(h0, .inr (10, [.ref q_1, .int 0, .int 0, .int 0, .int (-1), .int 0])), (q_1, .inl (tc 0, 400, .inl (fun _ => 0)))] := hD₀
  replace hS := hS₀
  clear hP₀ hD₀ hS₀
  exact retV hx hb hr hlk hP hD hS q_1 rfl [0, 1] rfl rfl dX10_init_38 (Nat.le_of_ble_eq_true rfl) (Nat.le_of_ble_eq_true rfl) rfl
set_option maxHeartbeats 4000000 in
set_option maxRecDepth 100000 in
theorem ct_X3_init (l : Launch) (D : va_G) (tc : Nat → ClassId) (sk : (Nat → Nat) × (Nat → Nat)) (h0 : Nat)  : Ct l yX3_init cX3_init 1 none { frames := 1, cells := 3, slots := 30, locals := 12 } D tc sk [.ref h0] [(h0, .inr (3, [.null, .null, .null, .int 0]))] (fun (v : Option Value) (u : (Nat) × (Nat) × (Nat)) => match u with | (b1, b2, b3) => v = none) (fun (u : (Nat) × (Nat) × (Nat)) => match u with | (b1, b2, b3) => [(h0, .inr (3, [.ref b1, .ref b2, .ref b3, .int 0])), (b1, .inl (tc 0, 10, .inl (fun _ => 0))), (b2, .inl (tc 0, 10, .inl (fun _ => 0))), (b3, .inl (tc 0, 10, .inl (fun _ => 0)))]) 3 30 := by
  refine Ct.start (by decide) (Nat.le_of_ble_eq_true rfl) (fun p e s m below meth c A ls hx hb hr hlk hin hml hown hts hK hX hP hD hA hl hS => ?_)
  have hl : lv_has ls 1 [(0, .ref h0)] := hl
  refine lv_aload_n hx hb dX3_init_0 rfl (lv_at hl 0 rfl) ?_
  refine W.objInit hx hb hown (hts _ k_283) (hts _ k_122) (hts _ k_123) rfl (by rw [hml]; exact hl.1) rfl dX3_init_1 (Nat.le_of_ble_eq_true rfl) (Nat.le_of_ble_eq_true rfl) ?_
  refine W.eq (g2 := F0 m 4 ls []) rfl ?_
  refine lv_aload_n hx hb dX3_init_4 rfl (lv_at hl 0 rfl) ?_
  refine lv_bipush (v := 10) hx hb dX3_init_5 (by decide) ?_
  refine nwA (atype := .int) (a0 := (10, .inl (fun _ => 0))) hx hb (hts _ k_156) rfl hK hP hD hS hA 0 rfl (fun _ => rfl) (by decide) (by decide) (by decide) (Nat.le_of_ble_eq_true rfl) (Nat.le_of_ble_eq_true rfl) dX3_init_7 (fun q_1 H hP₀ hD₀ hS₀ => ?_)
  replace hP : va_P D classes [(h0, .inr (3, [.null, .null, .null, .int 0])), (q_1, .inl (tc 0, 10, .inl (fun _ => 0)))] H := hP₀
  replace hD : va_D A [(h0, .inr (3, [.null, .null, .null, .int 0])), (q_1, .inl (tc 0, 10, .inl (fun _ => 0)))] := hD₀
  replace hS := hS₀
  clear hP₀ hD₀ hS₀
  refine pf_X3_9 (ty := (.array .int)) hx hb hts hown hin hK hP hD hS 0 rfl (Nat.le_of_ble_eq_true rfl) (by decide +kernel) rfl rfl dX3_init_9 (fun H locs hP₀ hD₀ hS₀ => ?_)
  replace hP : va_P D classes [(h0, .inr (3, [.ref q_1, .null, .null, .int 0])), (q_1, .inl (tc 0, 10, .inl (fun _ => 0)))] H := hP₀
  replace hD : va_D A [(h0, .inr (3, [.ref q_1, .null, .null, .int 0])), (q_1, .inl (tc 0, 10, .inl (fun _ => 0)))] := hD₀
  replace hS := hS₀
  clear hP₀ hD₀ hS₀
  refine lv_aload_n hx hb dX3_init_12 rfl (lv_at hl 0 rfl) ?_
  refine lv_bipush (v := 10) hx hb dX3_init_13 (by decide) ?_
  refine nwA (atype := .int) (a0 := (10, .inl (fun _ => 0))) hx hb (hts _ k_156) rfl hK hP hD hS hA 0 rfl (fun _ => rfl) (by decide) (by decide) (by decide) (Nat.le_of_ble_eq_true rfl) (Nat.le_of_ble_eq_true rfl) dX3_init_15 (fun q_2 H hP₀ hD₀ hS₀ => ?_)
  replace hP : va_P D classes [(h0, .inr (3, [.ref q_1, .null, .null, .int 0])), (q_1, .inl (tc 0, 10, .inl (fun _ => 0))), (q_2, .inl (tc 0, 10, .inl (fun _ => 0)))] H := hP₀
  replace hD : va_D A [(h0, .inr (3, [.ref q_1, .null, .null, .int 0])), (q_1, .inl (tc 0, 10, .inl (fun _ => 0))), (q_2, .inl (tc 0, 10, .inl (fun _ => 0)))] := hD₀
  replace hS := hS₀
  clear hP₀ hD₀ hS₀
  refine pf_X3_13 (ty := (.array .int)) hx hb hts hown hin hK hP hD hS 0 rfl (Nat.le_of_ble_eq_true rfl) (by decide +kernel) rfl rfl dX3_init_17 (fun H locs hP₀ hD₀ hS₀ => ?_)
  replace hP : va_P D classes [(h0, .inr (3, [.ref q_1, .ref q_2, .null, .int 0])), (q_1, .inl (tc 0, 10, .inl (fun _ => 0))), (q_2, .inl (tc 0, 10, .inl (fun _ => 0)))] H := hP₀
  replace hD : va_D A [(h0, .inr (3, [.ref q_1, .ref q_2, .null, .int 0])), (q_1, .inl (tc 0, 10, .inl (fun _ => 0))), (q_2, .inl (tc 0, 10, .inl (fun _ => 0)))] := hD₀
  replace hS := hS₀
  clear hP₀ hD₀ hS₀
  refine lv_aload_n hx hb dX3_init_20 rfl (lv_at hl 0 rfl) ?_
  refine lv_bipush (v := 10) hx hb dX3_init_21 (by decide) ?_
  refine nwA (atype := .int) (a0 := (10, .inl (fun _ => 0))) hx hb (hts _ k_156) rfl hK hP hD hS hA 0 rfl (fun _ => rfl) (by decide) (by decide) (by decide) (Nat.le_of_ble_eq_true rfl) (Nat.le_of_ble_eq_true rfl) dX3_init_23 (fun q_3 H hP₀ hD₀ hS₀ => ?_)
  replace hP : va_P D classes [(h0, .inr (3, [.ref q_1, .ref q_2, .null, .int 0])), (q_1, .inl (tc 0, 10, .inl (fun _ => 0))), (q_2, .inl (tc 0, 10, .inl (fun _ => 0))), (q_3, .inl (tc 0, 10, .inl (fun _ => 0)))] H := hP₀
  replace hD : va_D A [(h0, .inr (3, [.ref q_1, .ref q_2, .null, .int 0])), (q_1, .inl (tc 0, 10, .inl (fun _ => 0))), (q_2, .inl (tc 0, 10, .inl (fun _ => 0))), (q_3, .inl (tc 0, 10, .inl (fun _ => 0)))] := hD₀
  replace hS := hS₀
  clear hP₀ hD₀ hS₀
  refine pf_X3_16 (ty := (.array .int)) hx hb hts hown hin hK hP hD hS 0 rfl (Nat.le_of_ble_eq_true rfl) (by decide +kernel) rfl rfl dX3_init_25 (fun H locs hP₀ hD₀ hS₀ => ?_)
  replace hP : va_P D classes [(h0, .inr (3, [.ref q_1, .ref q_2, .ref q_3, .int 0])), (q_1, .inl (tc 0, 10, .inl (fun _ => 0))), (q_2, .inl (tc 0, 10, .inl (fun _ => 0))), (q_3, .inl (tc 0, 10, .inl (fun _ => 0)))] H := hP₀
  replace hD : va_D A [(h0, .inr (3, [.ref q_1, .ref q_2, .ref q_3, .int 0])), (q_1, .inl (tc 0, 10, .inl (fun _ => 0))), (q_2, .inl (tc 0, 10, .inl (fun _ => 0))), (q_3, .inl (tc 0, 10, .inl (fun _ => 0)))] := hD₀
  replace hS := hS₀
  clear hP₀ hD₀ hS₀
  refine lv_aload_n hx hb dX3_init_28 rfl (lv_at hl 0 rfl) ?_
  refine lv_iconst (v := 0) hx hb dX3_init_29 (by decide) ?_
  refine pf_X3_19 hx hb hts hown hK hP hD hS 0 rfl (Nat.le_of_ble_eq_true rfl) rfl rfl dX3_init_30 (fun H locs hP₀ hD₀ hS₀ => ?_)
  replace hP : va_P D classes [(h0, .inr (3, [.ref q_1, .ref q_2, .ref q_3, .int 0])), (q_1, .inl (tc 0, 10, .inl (fun _ => 0))), (q_2, .inl (tc 0, 10, .inl (fun _ => 0))), (q_3, .inl (tc 0, 10, .inl (fun _ => 0)))] H := hP₀
  replace hD : va_D A [(h0, .inr (3, [.ref q_1, .ref q_2, .ref q_3, .int 0])), (q_1, .inl (tc 0, 10, .inl (fun _ => 0))), (q_2, .inl (tc 0, 10, .inl (fun _ => 0))), (q_3, .inl (tc 0, 10, .inl (fun _ => 0)))] := hD₀
  replace hS := hS₀
  clear hP₀ hD₀ hS₀
  exact retV hx hb hr hlk hP hD hS (q_1, q_2, q_3) rfl [0, 1, 2, 3] rfl rfl dX3_init_33 (Nat.le_of_ble_eq_true rfl) (Nat.le_of_ble_eq_true rfl) rfl
set_option maxHeartbeats 4000000 in
set_option maxRecDepth 100000 in
theorem ct_X0_init (l : Launch) (D : va_G) (tc : Nat → ClassId) (sk : (Nat → Nat) × (Nat → Nat)) (h0 : Nat)  : Ct l yX0_init cX0_init 1 none { frames := 2, cells := 9, slots := 70, locals := 32 } D tc sk [.ref h0] [(h0, .inr (0, [.null]))] (fun (v : Option Value) (u : (Nat) × (Nat) × (Nat) × (Nat) × (Nat) × (Nat) × (Nat) × (Nat) × (Nat)) => match u with | (b0, b1, b2, b3, b4, b5, b6, b7, b8) => v = none) (fun (u : (Nat) × (Nat) × (Nat) × (Nat) × (Nat) × (Nat) × (Nat) × (Nat) × (Nat)) => match u with | (b0, b1, b2, b3, b4, b5, b6, b7, b8) => [(h0, .inr (0, [.ref b0])), (b0, .inr (9, [.int 0, .int 0, .int 0, .int 0, .int 0, .int 0, .ref b1, .ref b2, .ref b3, .ref b4, .ref b5, .ref b6, .ref b7, .ref b8])), (b1, .inl (tc 0, 10, .inl (fun _ => 0))), (b2, .inl (tc 0, 10, .inl (fun _ => 0))), (b3, .inl (tc 0, 6, .inl (fun _ => 0))), (b4, .inl (tc 0, 6, .inl (fun _ => 0))), (b5, .inl (tc 0, 6, .inl (fun _ => 0))), (b6, .inl (tc 0, 6, .inl (fun _ => 0))), (b7, .inl (tc 0, 6, .inl (fun _ => 0))), (b8, .inl (tc 0, 6, .inl (fun _ => 0)))]) 9 70 := by
  refine Ct.start (by decide) (Nat.le_of_ble_eq_true rfl) (fun p e s m below meth c A ls hx hb hr hlk hin hml hown hts hK hX hP hD hA hl hS => ?_)
  have hl : lv_has ls 1 [(0, .ref h0)] := hl
  refine lv_aload_n hx hb dX0_init_0 rfl (lv_at hl 0 rfl) ?_
  refine W.objInit hx hb hown (hts _ k_162) (hts _ k_122) (hts _ k_123) rfl (by rw [hml]; exact hl.1) rfl dX0_init_1 (Nat.le_of_ble_eq_true rfl) (Nat.le_of_ble_eq_true rfl) ?_
  refine W.eq (g2 := F0 m 4 ls []) rfl ?_
  refine lv_aload_n hx hb dX0_init_4 rfl (lv_at hl 0 rfl) ?_
  refine va_new (ci := 9) (fs := [.int 0, .int 0, .int 0, .int 0, .int 0, .int 0, .null, .null, .null, .null, .null, .null, .null, .null]) (C := RX9) (T := TX9) (N := 14) hx hb hts iX9 tyX9 tyX9_ok hown (hts _ k_163) (hts _ k_164) (hts _ k_98) hK hP hD hS hA rfl dfX9 (Nat.le_of_ble_eq_true rfl) (Nat.le_of_ble_eq_true rfl) dX0_init_5 (fun q_1 H hP₀ hD₀ hS₀ => ?_)
  replace hP : va_P D classes [(h0, .inr (0, [.null])), (q_1, .inr (9, [.int 0, .int 0, .int 0, .int 0, .int 0, .int 0, .null, .null, .null, .null, .null, .null, .null, .null]))] H := hP₀
  replace hD : va_D A [(h0, .inr (0, [.null])), (q_1, .inr (9, [.int 0, .int 0, .int 0, .int 0, .int 0, .int 0, .null, .null, .null, .null, .null, .null, .null, .null]))] := hD₀
  replace hS := hS₀
  clear hP₀ hD₀ hS₀
  refine lv_dup hx hb dX0_init_8 rfl ?_
  refine cN (a := q_1) (As := []) (rest := [.ref q_1, .ref h0]) (wr := [(h0, .inr (0, [.null]))]) ⟨hx, hb, hml, hown, hts⟩ hK hX hA (ct_X9_init l D tc sk q_1) k_167 (by decide) k_166 k_98 rfl pl_X9_init ⟨Nat.le_of_ble_eq_true rfl, Nat.le_of_ble_eq_true rfl⟩ rfl rfl  hP hD hS [1] [0] rfl rfl rfl rfl rfl (by decide) rfl hl.1 rfl (Nat.le_of_ble_eq_true rfl) dX0_init_9 ⟨Nat.le_of_ble_eq_true rfl, Nat.le_of_ble_eq_true rfl⟩ (fun v_2 u_3 H locs hv_4 hP₀ hD₀ hS₀ => ?_)
  obtain ⟨b_5, b_6, b_7, b_8, b_9, b_10, b_11, b_12⟩ := u_3
  obtain rfl : v_2 = none := hv_4
  refine W.eq (g2 := F0 m 12 ls [.ref q_1, .ref h0]) rfl ?_
  replace hP : va_P D classes [(h0, .inr (0, [.null])), (q_1, .inr (9, [.int 0, .int 0, .int 0, .int 0, .int 0, .int 0, .ref b_5, .ref b_6, .ref b_7, .ref b_8, .ref b_9, .ref b_10, .ref b_11, .ref b_12])), (b_5, .inl (tc 0, 10, .inl (fun _ => 0))), (b_6, .inl (tc 0, 10, .inl (fun _ => 0))), (b_7, .inl (tc 0, 6, .inl (fun _ => 0))), (b_8, .inl (tc 0, 6, .inl (fun _ => 0))), (b_9, .inl (tc 0, 6, .inl (fun _ => 0))), (b_10, .inl (tc 0, 6, .inl (fun _ => 0))), (b_11, .inl (tc 0, 6, .inl (fun _ => 0))), (b_12, .inl (tc 0, 6, .inl (fun _ => 0)))] H := hP₀
  replace hD : va_D A [(h0, .inr (0, [.null])), (q_1, .inr (9, [.int 0, .int 0, .int 0, .int 0, .int 0, .int 0, .ref b_5, .ref b_6, .ref b_7, .ref b_8, .ref b_9, .ref b_10, .ref b_11, .ref b_12])), (b_5, .inl (tc 0, 10, .inl (fun _ => 0))), (b_6, .inl (tc 0, 10, .inl (fun _ => 0))), (b_7, .inl (tc 0, 6, .inl (fun _ => 0))), (b_8, .inl (tc 0, 6, .inl (fun _ => 0))), (b_9, .inl (tc 0, 6, .inl (fun _ => 0))), (b_10, .inl (tc 0, 6, .inl (fun _ => 0))), (b_11, .inl (tc 0, 6, .inl (fun _ => 0))), (b_12, .inl (tc 0, 6, .inl (fun _ => 0)))] := hD₀
  replace hS := hS₀
  clear hP₀ hD₀ hS₀
  refine pf_X0_12 (ty := (.object "PoisonBook$Shop")) hx hb hts hown hin hK hP hD hS 0 rfl (Nat.le_of_ble_eq_true rfl) (by decide +kernel) rfl rfl dX0_init_12 (fun H locs hP₀ hD₀ hS₀ => ?_)
  replace hP : va_P D classes [(h0, .inr (0, [.ref q_1])), (q_1, .inr (9, [.int 0, .int 0, .int 0, .int 0, .int 0, .int 0, .ref b_5, .ref b_6, .ref b_7, .ref b_8, .ref b_9, .ref b_10, .ref b_11, .ref b_12])), (b_5, .inl (tc 0, 10, .inl (fun _ => 0))), (b_6, .inl (tc 0, 10, .inl (fun _ => 0))), (b_7, .inl (tc 0, 6, .inl (fun _ => 0))), (b_8, .inl (tc 0, 6, .inl (fun _ => 0))), (b_9, .inl (tc 0, 6, .inl (fun _ => 0))), (b_10, .inl (tc 0, 6, .inl (fun _ => 0))), (b_11, .inl (tc 0, 6, .inl (fun _ => 0))), (b_12, .inl (tc 0, 6, .inl (fun _ => 0)))] H := hP₀
  replace hD : va_D A [(h0, .inr (0, [.ref q_1])), (q_1, .inr (9, [.int 0, .int 0, .int 0, .int 0, .int 0, .int 0, .ref b_5, .ref b_6, .ref b_7, .ref b_8, .ref b_9, .ref b_10, .ref b_11, .ref b_12])), (b_5, .inl (tc 0, 10, .inl (fun _ => 0))), (b_6, .inl (tc 0, 10, .inl (fun _ => 0))), (b_7, .inl (tc 0, 6, .inl (fun _ => 0))), (b_8, .inl (tc 0, 6, .inl (fun _ => 0))), (b_9, .inl (tc 0, 6, .inl (fun _ => 0))), (b_10, .inl (tc 0, 6, .inl (fun _ => 0))), (b_11, .inl (tc 0, 6, .inl (fun _ => 0))), (b_12, .inl (tc 0, 6, .inl (fun _ => 0)))] := hD₀
  replace hS := hS₀
  clear hP₀ hD₀ hS₀
  exact retV hx hb hr hlk hP hD hS (q_1, b_5, b_6, b_7, b_8, b_9, b_10, b_11, b_12) rfl [0, 1, 2, 3, 4, 5, 6, 7, 8, 9] rfl rfl dX0_init_15 (Nat.le_of_ble_eq_true rfl) (Nat.le_of_ble_eq_true rfl) rfl
set_option maxHeartbeats 4000000 in
set_option maxRecDepth 100000 in
theorem ct_X7_init (l : Launch) (D : va_G) (tc : Nat → ClassId) (sk : (Nat → Nat) × (Nat → Nat)) (h0 : Nat)  : Ct l yX7_init cX7_init 1 none { frames := 1, cells := 1, slots := 400, locals := 12 } D tc sk [.ref h0] [(h0, .inr (7, [.null, .int 0, .int 0]))] (fun (v : Option Value) (b1 : Nat) => v = none) (fun (b1 : Nat) => [(h0, .inr (7, [.ref b1, .int 0, .int 0])), (b1, .inl (tc 0, 400, .inl (fun _ => 0)))]) 1 400 := by
  refine Ct.start (by decide) (Nat.le_of_ble_eq_true rfl) (fun p e s m below meth c A ls hx hb hr hlk hin hml hown hts hK hX hP hD hA hl hS => ?_)
  have hl : lv_has ls 1 [(0, .ref h0)] := hl
  refine lv_aload_n hx hb dX7_init_0 rfl (lv_at hl 0 rfl) ?_
  refine W.objInit hx hb hown (hts _ k_257) (hts _ k_122) (hts _ k_123) rfl (by rw [hml]; exact hl.1) rfl dX7_init_1 (Nat.le_of_ble_eq_true rfl) (Nat.le_of_ble_eq_true rfl) ?_
  refine W.eq (g2 := F0 m 4 ls []) rfl ?_
  refine lv_aload_n hx hb dX7_init_4 rfl (lv_at hl 0 rfl) ?_
  refine lv_sipush (v := 400) hx hb dX7_init_5 (by decide) ?_
  refine nwA (atype := .int) (a0 := (400, .inl (fun _ => 0))) hx hb (hts _ k_156) rfl hK hP hD hS hA 0 rfl (fun _ => rfl) (by decide) (by decide) (by decide) (Nat.le_of_ble_eq_true rfl) (Nat.le_of_ble_eq_true rfl) dX7_init_8 (fun q_1 H hP₀ hD₀ hS₀ => ?_)
  replace hP : va_P D classes [(h0, .inr (7, [.null, .int 0, .int 0])), (q_1, .inl (tc 0, 400, .inl (fun _ => 0)))] H := hP₀
  replace hD : va_D A [(h0, .inr (7, [.null, .int 0, .int 0])), (q_1, .inl (tc 0, 400, .inl (fun _ => 0)))] := hD₀
  replace hS := hS₀
  clear hP₀ hD₀ hS₀
  refine pf_X7_9 (ty := (.array .int)) hx hb hts hown hin hK hP hD hS 0 rfl (Nat.le_of_ble_eq_true rfl) (by decide +kernel) rfl rfl dX7_init_10 (fun H locs hP₀ hD₀ hS₀ => ?_)
  replace hP : va_P D classes [(h0, .inr (7, [.ref q_1, .int 0, .int 0])), (q_1, .inl (tc 0, 400, .inl (fun _ => 0)))] H := hP₀
  replace hD : va_D A [(h0, .inr (7, [.ref q_1, .int 0, .int 0])), (q_1, .inl (tc 0, 400, .inl (fun _ => 0)))] := hD₀
  replace hS := hS₀
  clear hP₀ hD₀ hS₀
  refine lv_aload_n hx hb dX7_init_13 rfl (lv_at hl 0 rfl) ?_
  refine lv_iconst (v := 0) hx hb dX7_init_14 (by decide) ?_
  refine pf_X7_15 hx hb hts hown hK hP hD hS 0 rfl (Nat.le_of_ble_eq_true rfl) rfl rfl dX7_init_15 (fun H locs hP₀ hD₀ hS₀ => ?_)
  replace hP : va_P D classes [(h0, .inr (7, [.ref q_1, .int 0, .int 0])), (q_1, .inl (tc 0, 400, .inl (fun _ => 0)))] H := hP₀
  replace hD : va_D A [(h0, .inr (7, [.ref q_1, .int 0, .int 0])), (q_1, .inl (tc 0, 400, .inl (fun _ => 0)))] := hD₀
  replace hS := hS₀
  clear hP₀ hD₀ hS₀
  refine lv_aload_n hx hb dX7_init_18 rfl (lv_at hl 0 rfl) ?_
  refine lv_iconst (v := 0) hx hb dX7_init_19 (by decide) ?_
  refine pf_X7_19 hx hb hts hown hK hP hD hS 0 rfl (Nat.le_of_ble_eq_true rfl) rfl rfl dX7_init_20 (fun H locs hP₀ hD₀ hS₀ => ?_)
  replace hP : va_P D classes [(h0, .inr (7, [.ref q_1, .int 0, .int 0])), (q_1, .inl (tc 0, 400, .inl (fun _ => 0)))] H := hP₀
  replace hD : va_D A [(h0, .inr (7, [.ref q_1, .int 0, .int 0])), (q_1, .inl (tc 0, 400, .inl (fun _ => 0)))] := hD₀
  replace hS := hS₀
  clear hP₀ hD₀ hS₀
  exact retV hx hb hr hlk hP hD hS q_1 rfl [0, 1] rfl rfl dX7_init_23 (Nat.le_of_ble_eq_true rfl) (Nat.le_of_ble_eq_true rfl) rfl
set_option maxHeartbeats 4000000 in
set_option maxRecDepth 100000 in
theorem ct_X8_init (l : Launch) (D : va_G) (tc : Nat → ClassId) (sk : (Nat → Nat) × (Nat → Nat)) (h0 : Nat)  : Ct l yX8_init cX8_init 1 none { frames := 2, cells := 22, slots := 174, locals := 32 } D tc sk [.ref h0] [(h0, .inr (8, [.null, .null, .null, .int 0, .int 0]))] (fun (v : Option Value) (u : (Nat) × (Nat) × (Nat) × (Nat) × (Nat) × (Nat) × (Nat) × (Nat) × (Nat) × (Nat) × (Nat) × (Nat) × (Nat) × (Nat) × (Nat) × (Nat) × (Nat) × (Nat) × (Nat) × (Nat) × (Nat) × (Nat)) => match u with | (e0, e1, e2, e3, e4, e5, e6, e7, e8, f0, f1, f2, f3, f4, f5, f6, f7, f8, g0, g1, g2, g3) => v = none) (fun (u : (Nat) × (Nat) × (Nat) × (Nat) × (Nat) × (Nat) × (Nat) × (Nat) × (Nat) × (Nat) × (Nat) × (Nat) × (Nat) × (Nat) × (Nat) × (Nat) × (Nat) × (Nat) × (Nat) × (Nat) × (Nat) × (Nat)) => match u with | (e0, e1, e2, e3, e4, e5, e6, e7, e8, f0, f1, f2, f3, f4, f5, f6, f7, f8, g0, g1, g2, g3) => [(h0, .inr (8, [.ref e0, .ref f0, .ref g0, .int (-1), .int 0])), (e0, .inr (9, [.int 0, .int 0, .int 0, .int 0, .int 0, .int 0, .ref e1, .ref e2, .ref e3, .ref e4, .ref e5, .ref e6, .ref e7, .ref e8])), (e1, .inl (tc 0, 10, .inl (fun _ => 0))), (e2, .inl (tc 0, 10, .inl (fun _ => 0))), (e3, .inl (tc 0, 6, .inl (fun _ => 0))), (e4, .inl (tc 0, 6, .inl (fun _ => 0))), (e5, .inl (tc 0, 6, .inl (fun _ => 0))), (e6, .inl (tc 0, 6, .inl (fun _ => 0))), (e7, .inl (tc 0, 6, .inl (fun _ => 0))), (e8, .inl (tc 0, 6, .inl (fun _ => 0))), (f0, .inr (9, [.int 0, .int 0, .int 0, .int 0, .int 0, .int 0, .ref f1, .ref f2, .ref f3, .ref f4, .ref f5, .ref f6, .ref f7, .ref f8])), (f1, .inl (tc 0, 10, .inl (fun _ => 0))), (f2, .inl (tc 0, 10, .inl (fun _ => 0))), (f3, .inl (tc 0, 6, .inl (fun _ => 0))), (f4, .inl (tc 0, 6, .inl (fun _ => 0))), (f5, .inl (tc 0, 6, .inl (fun _ => 0))), (f6, .inl (tc 0, 6, .inl (fun _ => 0))), (f7, .inl (tc 0, 6, .inl (fun _ => 0))), (f8, .inl (tc 0, 6, .inl (fun _ => 0))), (g0, .inr (3, [.ref g1, .ref g2, .ref g3, .int 0])), (g1, .inl (tc 0, 10, .inl (fun _ => 0))), (g2, .inl (tc 0, 10, .inl (fun _ => 0))), (g3, .inl (tc 0, 10, .inl (fun _ => 0)))]) 22 174 := by
  refine Ct.start (by decide) (Nat.le_of_ble_eq_true rfl) (fun p e s m below meth c A ls hx hb hr hlk hin hml hown hts hK hX hP hD hA hl hS => ?_)
  have hl : lv_has ls 1 [(0, .ref h0)] := hl
  refine lv_aload_n hx hb dX8_init_0 rfl (lv_at hl 0 rfl) ?_
  refine W.objInit hx hb hown (hts _ k_275) (hts _ k_122) (hts _ k_123) rfl (by rw [hml]; exact hl.1) rfl dX8_init_1 (Nat.le_of_ble_eq_true rfl) (Nat.le_of_ble_eq_true rfl) ?_
  refine W.eq (g2 := F0 m 4 ls []) rfl ?_
  refine lv_aload_n hx hb dX8_init_4 rfl (lv_at hl 0 rfl) ?_
  refine va_new (ci := 9) (fs := [.int 0, .int 0, .int 0, .int 0, .int 0, .int 0, .null, .null, .null, .null, .null, .null, .null, .null]) (C := RX9) (T := TX9) (N := 14) hx hb hts iX9 tyX9 tyX9_ok hown (hts _ k_276) (hts _ k_164) (hts _ k_98) hK hP hD hS hA rfl dfX9 (Nat.le_of_ble_eq_true rfl) (Nat.le_of_ble_eq_true rfl) dX8_init_5 (fun q_1 H hP₀ hD₀ hS₀ => ?_)
  replace hP : va_P D classes [(h0, .inr (8, [.null, .null, .null, .int 0, .int 0])), (q_1, .inr (9, [.int 0, .int 0, .int 0, .int 0, .int 0, .int 0, .null, .null, .null, .null, .null, .null, .null, .null]))] H := hP₀
  replace hD : va_D A [(h0, .inr (8, [.null, .null, .null, .int 0, .int 0])), (q_1, .inr (9, [.int 0, .int 0, .int 0, .int 0, .int 0, .int 0, .null, .null, .null, .null, .null, .null, .null, .null]))] := hD₀
  replace hS := hS₀
  clear hP₀ hD₀ hS₀
  refine lv_dup hx hb dX8_init_8 rfl ?_
  refine cN (a := q_1) (As := []) (rest := [.ref q_1, .ref h0]) (wr := [(h0, .inr (8, [.null, .null, .null, .int 0, .int 0]))]) ⟨hx, hb, hml, hown, hts⟩ hK hX hA (ct_X9_init l D tc sk q_1) k_167 (by decide) k_166 k_98 rfl pl_X9_init ⟨Nat.le_of_ble_eq_true rfl, Nat.le_of_ble_eq_true rfl⟩ rfl rfl  hP hD hS [1] [0] rfl rfl rfl rfl rfl (by decide) rfl hl.1 rfl (Nat.le_of_ble_eq_true rfl) dX8_init_9 ⟨Nat.le_of_ble_eq_true rfl, Nat.le_of_ble_eq_true rfl⟩ (fun v_2 u_3 H locs hv_4 hP₀ hD₀ hS₀ => ?_)
  obtain ⟨b_5, b_6, b_7, b_8, b_9, b_10, b_11, b_12⟩ := u_3
  obtain rfl : v_2 = none := hv_4
  refine W.eq (g2 := F0 m 12 ls [.ref q_1, .ref h0]) rfl ?_
  replace hP : va_P D classes [(h0, .inr (8, [.null, .null, .null, .int 0, .int 0])), (q_1, .inr (9, [.int 0, .int 0, .int 0, .int 0, .int 0, .int 0, .ref b_5, .ref b_6, .ref b_7, .ref b_8, .ref b_9, .ref b_10, .ref b_11, .ref b_12])), (b_5, .inl (tc 0, 10, .inl (fun _ => 0))), (b_6, .inl (tc 0, 10, .inl (fun _ => 0))), (b_7, .inl (tc 0, 6, .inl (fun _ => 0))), (b_8, .inl (tc 0, 6, .inl (fun _ => 0))), (b_9, .inl (tc 0, 6, .inl (fun _ => 0))), (b_10, .inl (tc 0, 6, .inl (fun _ => 0))), (b_11, .inl (tc 0, 6, .inl (fun _ => 0))), (b_12, .inl (tc 0, 6, .inl (fun _ => 0)))] H := hP₀
  replace hD : va_D A [(h0, .inr (8, [.null, .null, .null, .int 0, .int 0])), (q_1, .inr (9, [.int 0, .int 0, .int 0, .int 0, .int 0, .int 0, .ref b_5, .ref b_6, .ref b_7, .ref b_8, .ref b_9, .ref b_10, .ref b_11, .ref b_12])), (b_5, .inl (tc 0, 10, .inl (fun _ => 0))), (b_6, .inl (tc 0, 10, .inl (fun _ => 0))), (b_7, .inl (tc 0, 6, .inl (fun _ => 0))), (b_8, .inl (tc 0, 6, .inl (fun _ => 0))), (b_9, .inl (tc 0, 6, .inl (fun _ => 0))), (b_10, .inl (tc 0, 6, .inl (fun _ => 0))), (b_11, .inl (tc 0, 6, .inl (fun _ => 0))), (b_12, .inl (tc 0, 6, .inl (fun _ => 0)))] := hD₀
  replace hS := hS₀
  clear hP₀ hD₀ hS₀
  refine pf_X8_12 (ty := (.object "PoisonBook$Shop")) hx hb hts hown hin hK hP hD hS 0 rfl (Nat.le_of_ble_eq_true rfl) (by decide +kernel) rfl rfl dX8_init_12 (fun H locs hP₀ hD₀ hS₀ => ?_)
  replace hP : va_P D classes [(h0, .inr (8, [.ref q_1, .null, .null, .int 0, .int 0])), (q_1, .inr (9, [.int 0, .int 0, .int 0, .int 0, .int 0, .int 0, .ref b_5, .ref b_6, .ref b_7, .ref b_8, .ref b_9, .ref b_10, .ref b_11, .ref b_12])), (b_5, .inl (tc 0, 10, .inl (fun _ => 0))), (b_6, .inl (tc 0, 10, .inl (fun _ => 0))), (b_7, .inl (tc 0, 6, .inl (fun _ => 0))), (b_8, .inl (tc 0, 6, .inl (fun _ => 0))), (b_9, .inl (tc 0, 6, .inl (fun _ => 0))), (b_10, .inl (tc 0, 6, .inl (fun _ => 0))), (b_11, .inl (tc 0, 6, .inl (fun _ => 0))), (b_12, .inl (tc 0, 6, .inl (fun _ => 0)))] H := hP₀
  replace hD : va_D A [(h0, .inr (8, [.ref q_1, .null, .null, .int 0, .int 0])), (q_1, .inr (9, [.int 0, .int 0, .int 0, .int 0, .int 0, .int 0, .ref b_5, .ref b_6, .ref b_7, .ref b_8, .ref b_9, .ref b_10, .ref b_11, .ref b_12])), (b_5, .inl (tc 0, 10, .inl (fun _ => 0))), (b_6, .inl (tc 0, 10, .inl (fun _ => 0))), (b_7, .inl (tc 0, 6, .inl (fun _ => 0))), (b_8, .inl (tc 0, 6, .inl (fun _ => 0))), (b_9, .inl (tc 0, 6, .inl (fun _ => 0))), (b_10, .inl (tc 0, 6, .inl (fun _ => 0))), (b_11, .inl (tc 0, 6, .inl (fun _ => 0))), (b_12, .inl (tc 0, 6, .inl (fun _ => 0)))] := hD₀
  replace hS := hS₀
  clear hP₀ hD₀ hS₀
  refine lv_aload_n hx hb dX8_init_15 rfl (lv_at hl 0 rfl) ?_
  refine va_new (ci := 9) (fs := [.int 0, .int 0, .int 0, .int 0, .int 0, .int 0, .null, .null, .null, .null, .null, .null, .null, .null]) (C := RX9) (T := TX9) (N := 14) hx hb hts iX9 tyX9 tyX9_ok hown (hts _ k_276) (hts _ k_164) (hts _ k_98) hK hP hD hS hA rfl dfX9 (Nat.le_of_ble_eq_true rfl) (Nat.le_of_ble_eq_true rfl) dX8_init_16 (fun q_13 H hP₀ hD₀ hS₀ => ?_)
  replace hP : va_P D classes [(h0, .inr (8, [.ref q_1, .null, .null, .int 0, .int 0])), (q_1, .inr (9, [.int 0, .int 0, .int 0, .int 0, .int 0, .int 0, .ref b_5, .ref b_6, .ref b_7, .ref b_8, .ref b_9, .ref b_10, .ref b_11, .ref b_12])), (b_5, .inl (tc 0, 10, .inl (fun _ => 0))), (b_6, .inl (tc 0, 10, .inl (fun _ => 0))), (b_7, .inl (tc 0, 6, .inl (fun _ => 0))), (b_8, .inl (tc 0, 6, .inl (fun _ => 0))), (b_9, .inl (tc 0, 6, .inl (fun _ => 0))), (b_10, .inl (tc 0, 6, .inl (fun _ => 0))), (b_11, .inl (tc 0, 6, .inl (fun _ => 0))), (b_12, .inl (tc 0, 6, .inl (fun _ => 0))), (q_13, .inr (9, [.int 0, .int 0, .int 0, .int 0, .int 0, .int 0, .null, .null, .null, .null, .null, .null, .null, .null]))] H := hP₀
  replace hD : va_D A [(h0, .inr (8, [.ref q_1, .null, .null, .int 0, .int 0])), (q_1, .inr (9, [.int 0, .int 0, .int 0, .int 0, .int 0, .int 0, .ref b_5, .ref b_6, .ref b_7, .ref b_8, .ref b_9, .ref b_10, .ref b_11, .ref b_12])), (b_5, .inl (tc 0, 10, .inl (fun _ => 0))), (b_6, .inl (tc 0, 10, .inl (fun _ => 0))), (b_7, .inl (tc 0, 6, .inl (fun _ => 0))), (b_8, .inl (tc 0, 6, .inl (fun _ => 0))), (b_9, .inl (tc 0, 6, .inl (fun _ => 0))), (b_10, .inl (tc 0, 6, .inl (fun _ => 0))), (b_11, .inl (tc 0, 6, .inl (fun _ => 0))), (b_12, .inl (tc 0, 6, .inl (fun _ => 0))), (q_13, .inr (9, [.int 0, .int 0, .int 0, .int 0, .int 0, .int 0, .null, .null, .null, .null, .null, .null, .null, .null]))] := hD₀
  replace hS := hS₀
  clear hP₀ hD₀ hS₀
  refine lv_dup hx hb dX8_init_19 rfl ?_
  refine cN (a := q_13) (As := []) (rest := [.ref q_13, .ref h0]) (wr := [(h0, .inr (8, [.ref q_1, .null, .null, .int 0, .int 0])), (q_1, .inr (9, [.int 0, .int 0, .int 0, .int 0, .int 0, .int 0, .ref b_5, .ref b_6, .ref b_7, .ref b_8, .ref b_9, .ref b_10, .ref b_11, .ref b_12])), (b_5, .inl (tc 0, 10, .inl (fun _ => 0))), (b_6, .inl (tc 0, 10, .inl (fun _ => 0))), (b_7, .inl (tc 0, 6, .inl (fun _ => 0))), (b_8, .inl (tc 0, 6, .inl (fun _ => 0))), (b_9, .inl (tc 0, 6, .inl (fun _ => 0))), (b_10, .inl (tc 0, 6, .inl (fun _ => 0))), (b_11, .inl (tc 0, 6, .inl (fun _ => 0))), (b_12, .inl (tc 0, 6, .inl (fun _ => 0)))]) ⟨hx, hb, hml, hown, hts⟩ hK hX hA (ct_X9_init l D tc sk q_13) k_167 (by decide) k_166 k_98 rfl pl_X9_init ⟨Nat.le_of_ble_eq_true rfl, Nat.le_of_ble_eq_true rfl⟩ rfl rfl  hP hD hS [10] [0, 1, 2, 3, 4, 5, 6, 7, 8, 9] rfl rfl rfl rfl rfl (by decide) rfl hl.1 rfl (Nat.le_of_ble_eq_true rfl) dX8_init_20 ⟨Nat.le_of_ble_eq_true rfl, Nat.le_of_ble_eq_true rfl⟩ (fun v_14 u_15 H locs hv_16 hP₀ hD₀ hS₀ => ?_)
  obtain ⟨b_17, b_18, b_19, b_20, b_21, b_22, b_23, b_24⟩ := u_15
  obtain rfl : v_14 = none := hv_16
  refine W.eq (g2 := F0 m 23 ls [.ref q_13, .ref h0]) rfl ?_
  replace hP : va_P D classes [(h0, .inr (8, [.ref q_1, .null, .null, .int 0, .int 0])), (q_1, .inr (9, [.int 0, .int 0, .int 0, .int 0, .int 0, .int 0, .ref b_5, .ref b_6, .ref b_7, .ref b_8, .ref b_9, .ref b_10, .ref b_11, .ref b_12])), (b_5, .inl (tc 0, 10, .inl (fun _ => 0))), (b_6, .inl (tc 0, 10, .inl (fun _ => 0))), (b_7, .inl (tc 0, 6, .inl (fun _ => 0))), (b_8, .inl (tc 0, 6, .inl (fun _ => 0))), (b_9, .inl (tc 0, 6, .inl (fun _ => 0))), (b_10, .inl (tc 0, 6, .inl (fun _ => 0))), (b_11, .inl (tc 0, 6, .inl (fun _ => 0))), (b_12, .inl (tc 0, 6, .inl (fun _ => 0))), (q_13, .inr (9, [.int 0, .int 0, .int 0, .int 0, .int 0, .int 0, .ref b_17, .ref b_18, .ref b_19, .ref b_20, .ref b_21, .ref b_22, .ref b_23, .ref b_24])), (b_17, .inl (tc 0, 10, .inl (fun _ => 0))), (b_18, .inl (tc 0, 10, .inl (fun _ => 0))), (b_19, .inl (tc 0, 6, .inl (fun _ => 0))), (b_20, .inl (tc 0, 6, .inl (fun _ => 0))), (b_21, .inl (tc 0, 6, .inl (fun _ => 0))), (b_22, .inl (tc 0, 6, .inl (fun _ => 0))), (b_23, .inl (tc 0, 6, .inl (fun _ => 0))), (b_24, .inl (tc 0, 6, .inl (fun _ => 0)))] H := hP₀
  replace hD : va_D A [(h0, .inr (8, [.ref q_1, .null, .null, .int 0, .int 0])), (q_1, .inr (9, [.int 0, .int 0, .int 0, .int 0, .int 0, .int 0, .ref b_5, .ref b_6, .ref b_7, .ref b_8, .ref b_9, .ref b_10, .ref b_11, .ref b_12])), (b_5, .inl (tc 0, 10, .inl (fun _ => 0))), (b_6, .inl (tc 0, 10, .inl (fun _ => 0))), (b_7, .inl (tc 0, 6, .inl (fun _ => 0))), (b_8, .inl (tc 0, 6, .inl (fun _ => 0))), (b_9, .inl (tc 0, 6, .inl (fun _ => 0))), (b_10, .inl (tc 0, 6, .inl (fun _ => 0))), (b_11, .inl (tc 0, 6, .inl (fun _ => 0))), (b_12, .inl (tc 0, 6, .inl (fun _ => 0))), (q_13, .inr (9, [.int 0, .int 0, .int 0, .int 0, .int 0, .int 0, .ref b_17, .ref b_18, .ref b_19, .ref b_20, .ref b_21, .ref b_22, .ref b_23, .ref b_24])), (b_17, .inl (tc 0, 10, .inl (fun _ => 0))), (b_18, .inl (tc 0, 10, .inl (fun _ => 0))), (b_19, .inl (tc 0, 6, .inl (fun _ => 0))), (b_20, .inl (tc 0, 6, .inl (fun _ => 0))), (b_21, .inl (tc 0, 6, .inl (fun _ => 0))), (b_22, .inl (tc 0, 6, .inl (fun _ => 0))), (b_23, .inl (tc 0, 6, .inl (fun _ => 0))), (b_24, .inl (tc 0, 6, .inl (fun _ => 0)))] := hD₀
  replace hS := hS₀
  clear hP₀ hD₀ hS₀
  refine pf_X8_18 (ty := (.object "PoisonBook$Shop")) hx hb hts hown hin hK hP hD hS 0 rfl (Nat.le_of_ble_eq_true rfl) (by decide +kernel) rfl rfl dX8_init_23 (fun H locs hP₀ hD₀ hS₀ => ?_)
  replace hP : va_P D classes [(h0, .inr (8, [.ref q_1, .ref q_13, .null, .int 0, .int 0])), (q_1, .inr (9, [.int 0, .int 0, .int 0, .int 0, .int 0, .int 0, .ref b_5, .ref b_6, .ref b_7, .ref b_8, .ref b_9, .ref b_10, .ref b_11, .ref b_12])), (b_5, .inl (tc 0, 10, .inl (fun _ => 0))), (b_6, .inl (tc 0, 10, .inl (fun _ => 0))), (b_7, .inl (tc 0, 6, .inl (fun _ => 0))), (b_8, .inl (tc 0, 6, .inl (fun _ => 0))), (b_9, .inl (tc 0, 6, .inl (fun _ => 0))), (b_10, .inl (tc 0, 6, .inl (fun _ => 0))), (b_11, .inl (tc 0, 6, .inl (fun _ => 0))), (b_12, .inl (tc 0, 6, .inl (fun _ => 0))), (q_13, .inr (9, [.int 0, .int 0, .int 0, .int 0, .int 0, .int 0, .ref b_17, .ref b_18, .ref b_19, .ref b_20, .ref b_21, .ref b_22, .ref b_23, .ref b_24])), (b_17, .inl (tc 0, 10, .inl (fun _ => 0))), (b_18, .inl (tc 0, 10, .inl (fun _ => 0))), (b_19, .inl (tc 0, 6, .inl (fun _ => 0))), (b_20, .inl (tc 0, 6, .inl (fun _ => 0))), (b_21, .inl (tc 0, 6, .inl (fun _ => 0))), (b_22, .inl (tc 0, 6, .inl (fun _ => 0))), (b_23, .inl (tc 0, 6, .inl (fun _ => 0))), (b_24, .inl (tc 0, 6, .inl (fun _ => 0)))] H := hP₀
  replace hD : va_D A [(h0, .inr (8, [.ref q_1, .ref q_13, .null, .int 0, .int 0])), (q_1, .inr (9, [.int 0, .int 0, .int 0, .int 0, .int 0, .int 0, .ref b_5, .ref b_6, .ref b_7, .ref b_8, .ref b_9, .ref b_10, .ref b_11, .ref b_12])), (b_5, .inl (tc 0, 10, .inl (fun _ => 0))), (b_6, .inl (tc 0, 10, .inl (fun _ => 0))), (b_7, .inl (tc 0, 6, .inl (fun _ => 0))), (b_8, .inl (tc 0, 6, .inl (fun _ => 0))), (b_9, .inl (tc 0, 6, .inl (fun _ => 0))), (b_10, .inl (tc 0, 6, .inl (fun _ => 0))), (b_11, .inl (tc 0, 6, .inl (fun _ => 0))), (b_12, .inl (tc 0, 6, .inl (fun _ => 0))), (q_13, .inr (9, [.int 0, .int 0, .int 0, .int 0, .int 0, .int 0, .ref b_17, .ref b_18, .ref b_19, .ref b_20, .ref b_21, .ref b_22, .ref b_23, .ref b_24])), (b_17, .inl (tc 0, 10, .inl (fun _ => 0))), (b_18, .inl (tc 0, 10, .inl (fun _ => 0))), (b_19, .inl (tc 0, 6, .inl (fun _ => 0))), (b_20, .inl (tc 0, 6, .inl (fun _ => 0))), (b_21, .inl (tc 0, 6, .inl (fun _ => 0))), (b_22, .inl (tc 0, 6, .inl (fun _ => 0))), (b_23, .inl (tc 0, 6, .inl (fun _ => 0))), (b_24, .inl (tc 0, 6, .inl (fun _ => 0)))] := hD₀
  replace hS := hS₀
  clear hP₀ hD₀ hS₀
  refine lv_aload_n hx hb dX8_init_26 rfl (lv_at hl 0 rfl) ?_
  refine va_new (ci := 3) (fs := [.null, .null, .null, .int 0]) (C := RX3) (T := TX3) (N := 4) hx hb hts iX3 tyX3 tyX3_ok hown (hts _ k_278) (hts _ k_279) (hts _ k_101) hK hP hD hS hA rfl dfX3 (Nat.le_of_ble_eq_true rfl) (Nat.le_of_ble_eq_true rfl) dX8_init_27 (fun q_25 H hP₀ hD₀ hS₀ => ?_)
  replace hP : va_P D classes [(h0, .inr (8, [.ref q_1, .ref q_13, .null, .int 0, .int 0])), (q_1, .inr (9, [.int 0, .int 0, .int 0, .int 0, .int 0, .int 0, .ref b_5, .ref b_6, .ref b_7, .ref b_8, .ref b_9, .ref b_10, .ref b_11, .ref b_12])), (b_5, .inl (tc 0, 10, .inl (fun _ => 0))), (b_6, .inl (tc 0, 10, .inl (fun _ => 0))), (b_7, .inl (tc 0, 6, .inl (fun _ => 0))), (b_8, .inl (tc 0, 6, .inl (fun _ => 0))), (b_9, .inl (tc 0, 6, .inl (fun _ => 0))), (b_10, .inl (tc 0, 6, .inl (fun _ => 0))), (b_11, .inl (tc 0, 6, .inl (fun _ => 0))), (b_12, .inl (tc 0, 6, .inl (fun _ => 0))), (q_13, .inr (9, [.int 0, .int 0, .int 0, .int 0, .int 0, .int 0, .ref b_17, .ref b_18, .ref b_19, .ref b_20, .ref b_21, .ref b_22, .ref b_23, .ref b_24])), (b_17, .inl (tc 0, 10, .inl (fun _ => 0))), (b_18, .inl (tc 0, 10, .inl (fun _ => 0))), (b_19, .inl (tc 0, 6, .inl (fun _ => 0))), (b_20, .inl (tc 0, 6, .inl (fun _ => 0))), (b_21, .inl (tc 0, 6, .inl (fun _ => 0))), (b_22, .inl (tc 0, 6, .inl (fun _ => 0))), (b_23, .inl (tc 0, 6, .inl (fun _ => 0))), (b_24, .inl (tc 0, 6, .inl (fun _ => 0))), (q_25, .inr (3, [.null, .null, .null, .int 0]))] H := hP₀
  replace hD : va_D A [(h0, .inr (8, [.ref q_1, .ref q_13, .null, .int 0, .int 0])), (q_1, .inr (9, [.int 0, .int 0, .int 0, .int 0, .int 0, .int 0, .ref b_5, .ref b_6, .ref b_7, .ref b_8, .ref b_9, .ref b_10, .ref b_11, .ref b_12])), (b_5, .inl (tc 0, 10, .inl (fun _ => 0))), (b_6, .inl (tc 0, 10, .inl (fun _ => 0))), (b_7, .inl (tc 0, 6, .inl (fun _ => 0))), (b_8, .inl (tc 0, 6, .inl (fun _ => 0))), (b_9, .inl (tc 0, 6, .inl (fun _ => 0))), (b_10, .inl (tc 0, 6, .inl (fun _ => 0))), (b_11, .inl (tc 0, 6, .inl (fun _ => 0))), (b_12, .inl (tc 0, 6, .inl (fun _ => 0))), (q_13, .inr (9, [.int 0, .int 0, .int 0, .int 0, .int 0, .int 0, .ref b_17, .ref b_18, .ref b_19, .ref b_20, .ref b_21, .ref b_22, .ref b_23, .ref b_24])), (b_17, .inl (tc 0, 10, .inl (fun _ => 0))), (b_18, .inl (tc 0, 10, .inl (fun _ => 0))), (b_19, .inl (tc 0, 6, .inl (fun _ => 0))), (b_20, .inl (tc 0, 6, .inl (fun _ => 0))), (b_21, .inl (tc 0, 6, .inl (fun _ => 0))), (b_22, .inl (tc 0, 6, .inl (fun _ => 0))), (b_23, .inl (tc 0, 6, .inl (fun _ => 0))), (b_24, .inl (tc 0, 6, .inl (fun _ => 0))), (q_25, .inr (3, [.null, .null, .null, .int 0]))] := hD₀
  replace hS := hS₀
  clear hP₀ hD₀ hS₀
  refine lv_dup hx hb dX8_init_30 rfl ?_
  refine cN (a := q_25) (As := []) (rest := [.ref q_25, .ref h0]) (wr := [(h0, .inr (8, [.ref q_1, .ref q_13, .null, .int 0, .int 0])), (q_1, .inr (9, [.int 0, .int 0, .int 0, .int 0, .int 0, .int 0, .ref b_5, .ref b_6, .ref b_7, .ref b_8, .ref b_9, .ref b_10, .ref b_11, .ref b_12])), (b_5, .inl (tc 0, 10, .inl (fun _ => 0))), (b_6, .inl (tc 0, 10, .inl (fun _ => 0))), (b_7, .inl (tc 0, 6, .inl (fun _ => 0))), (b_8, .inl (tc 0, 6, .inl (fun _ => 0))), (b_9, .inl (tc 0, 6, .inl (fun _ => 0))), (b_10, .inl (tc 0, 6, .inl (fun _ => 0))), (b_11, .inl (tc 0, 6, .inl (fun _ => 0))), (b_12, .inl (tc 0, 6, .inl (fun _ => 0))), (q_13, .inr (9, [.int 0, .int 0, .int 0, .int 0, .int 0, .int 0, .ref b_17, .ref b_18, .ref b_19, .ref b_20, .ref b_21, .ref b_22, .ref b_23, .ref b_24])), (b_17, .inl (tc 0, 10, .inl (fun _ => 0))), (b_18, .inl (tc 0, 10, .inl (fun _ => 0))), (b_19, .inl (tc 0, 6, .inl (fun _ => 0))), (b_20, .inl (tc 0, 6, .inl (fun _ => 0))), (b_21, .inl (tc 0, 6, .inl (fun _ => 0))), (b_22, .inl (tc 0, 6, .inl (fun _ => 0))), (b_23, .inl (tc 0, 6, .inl (fun _ => 0))), (b_24, .inl (tc 0, 6, .inl (fun _ => 0)))]) ⟨hx, hb, hml, hown, hts⟩ hK hX hA (ct_X3_init l D tc sk q_25) k_282 (by decide) k_281 k_101 rfl pl_X3_init ⟨Nat.le_of_ble_eq_true rfl, Nat.le_of_ble_eq_true rfl⟩ rfl rfl  hP hD hS [19] [0, 1, 2, 3, 4, 5, 6, 7, 8, 9, 10, 11, 12, 13, 14, 15, 16, 17, 18] rfl rfl rfl rfl rfl (by decide) rfl hl.1 rfl (Nat.le_of_ble_eq_true rfl) dX8_init_31 ⟨Nat.le_of_ble_eq_true rfl, Nat.le_of_ble_eq_true rfl⟩ (fun v_26 u_27 H locs hv_28 hP₀ hD₀ hS₀ => ?_)
  obtain ⟨b_29, b_30, b_31⟩ := u_27
  obtain rfl : v_26 = none := hv_28
  refine W.eq (g2 := F0 m 34 ls [.ref q_25, .ref h0]) rfl ?_
  replace hP : va_P D classes [(h0, .inr (8, [.ref q_1, .ref q_13, .null, .int 0, .int 0])), (q_1, .inr (9, [.int 0, .int 0, .int 0, .int 0, .int 0, .int 0, .ref b_5, .ref b_6, .ref b_7, .ref b_8, .ref b_9, .ref b_10, .ref b_11, .ref b_12])), (b_5, .inl (tc 0, 10, .inl (fun _ => 0))), (b_6, .inl (tc 0, 10, .inl (fun _ => 0))), (b_7, .inl (tc 0, 6, .inl (fun _ => 0))), (b_8, .inl (tc 0, 6, .inl (fun _ => 0))), (b_9, .inl (tc 0, 6, .inl (fun _ => 0))), (b_10, .inl (tc 0, 6, .inl (fun _ => 0))), (b_11, .inl (tc 0, 6, .inl (fun _ => 0))), (b_12, .inl (tc 0, 6, .inl (fun _ => 0))), (q_13, .inr (9, [.int 0, .int 0, .int 0, .int 0, .int 0, .int 0, .ref b_17, .ref b_18, .ref b_19, .ref b_20, .ref b_21, .ref b_22, .ref b_23, .ref b_24])), (b_17, .inl (tc 0, 10, .inl (fun _ => 0))), (b_18, .inl (tc 0, 10, .inl (fun _ => 0))), (b_19, .inl (tc 0, 6, .inl (fun _ => 0))), (b_20, .inl (tc 0, 6, .inl (fun _ => 0))), (b_21, .inl (tc 0, 6, .inl (fun _ => 0))), (b_22, .inl (tc 0, 6, .inl (fun _ => 0))), (b_23, .inl (tc 0, 6, .inl (fun _ => 0))), (b_24, .inl (tc 0, 6, .inl (fun _ => 0))), (q_25, .inr (3, [.ref b_29, .ref b_30, .ref b_31, .int 0])), (b_29, .inl (tc 0, 10, .inl (fun _ => 0))), (b_30, .inl (tc 0, 10, .inl (fun _ => 0))), (b_31, .inl (tc 0, 10, .inl (fun _ => 0)))] H := hP₀
  replace hD : va_D A [(h0, .inr (8, [.ref q_1, .ref q_13, .null, .int 0, .int 0])), (q_1, .inr (9, [.int 0, .int 0, .int 0, .int 0, .int 0, .int 0, .ref b_5, .ref b_6, .ref b_7, .ref b_8, .ref b_9, .ref b_10, .ref b_11, .ref b_12])), (b_5, .inl (tc 0, 10, .inl (fun _ => 0))), (b_6, .inl (tc 0, 10, .inl (fun _ => 0))), (b_7, .inl (tc 0, 6, .inl (fun _ => 0))), (b_8, .inl (tc 0, 6, .inl (fun _ => 0))), (b_9, .inl (tc 0, 6, .inl (fun _ => 0))), (b_10, .inl (tc 0, 6, .inl (fun _ => 0))), (b_11, .inl (tc 0, 6, .inl (fun _ => 0))), (b_12, .inl (tc 0, 6, .inl (fun _ => 0))), (q_13, .inr (9, [.int 0, .int 0, .int 0, .int 0, .int 0, .int 0, .ref b_17, .ref b_18, .ref b_19, .ref b_20, .ref b_21, .ref b_22, .ref b_23, .ref b_24])), (b_17, .inl (tc 0, 10, .inl (fun _ => 0))), (b_18, .inl (tc 0, 10, .inl (fun _ => 0))), (b_19, .inl (tc 0, 6, .inl (fun _ => 0))), (b_20, .inl (tc 0, 6, .inl (fun _ => 0))), (b_21, .inl (tc 0, 6, .inl (fun _ => 0))), (b_22, .inl (tc 0, 6, .inl (fun _ => 0))), (b_23, .inl (tc 0, 6, .inl (fun _ => 0))), (b_24, .inl (tc 0, 6, .inl (fun _ => 0))), (q_25, .inr (3, [.ref b_29, .ref b_30, .ref b_31, .int 0])), (b_29, .inl (tc 0, 10, .inl (fun _ => 0))), (b_30, .inl (tc 0, 10, .inl (fun _ => 0))), (b_31, .inl (tc 0, 10, .inl (fun _ => 0)))] := hD₀
  replace hS := hS₀
  clear hP₀ hD₀ hS₀
  refine pf_X8_24 (ty := (.object "PoisonBook$Notes")) hx hb hts hown hin hK hP hD hS 0 rfl (Nat.le_of_ble_eq_true rfl) (by decide +kernel) rfl rfl dX8_init_34 (fun H locs hP₀ hD₀ hS₀ => ?_)
  replace hP : va_P D classes [(h0, .inr (8, [.ref q_1, .ref q_13, .ref q_25, .int 0, .int 0])), (q_1, .inr (9, [.int 0, .int 0, .int 0, .int 0, .int 0, .int 0, .ref b_5, .ref b_6, .ref b_7, .ref b_8, .ref b_9, .ref b_10, .ref b_11, .ref b_12])), (b_5, .inl (tc 0, 10, .inl (fun _ => 0))), (b_6, .inl (tc 0, 10, .inl (fun _ => 0))), (b_7, .inl (tc 0, 6, .inl (fun _ => 0))), (b_8, .inl (tc 0, 6, .inl (fun _ => 0))), (b_9, .inl (tc 0, 6, .inl (fun _ => 0))), (b_10, .inl (tc 0, 6, .inl (fun _ => 0))), (b_11, .inl (tc 0, 6, .inl (fun _ => 0))), (b_12, .inl (tc 0, 6, .inl (fun _ => 0))), (q_13, .inr (9, [.int 0, .int 0, .int 0, .int 0, .int 0, .int 0, .ref b_17, .ref b_18, .ref b_19, .ref b_20, .ref b_21, .ref b_22, .ref b_23, .ref b_24])), (b_17, .inl (tc 0, 10, .inl (fun _ => 0))), (b_18, .inl (tc 0, 10, .inl (fun _ => 0))), (b_19, .inl (tc 0, 6, .inl (fun _ => 0))), (b_20, .inl (tc 0, 6, .inl (fun _ => 0))), (b_21, .inl (tc 0, 6, .inl (fun _ => 0))), (b_22, .inl (tc 0, 6, .inl (fun _ => 0))), (b_23, .inl (tc 0, 6, .inl (fun _ => 0))), (b_24, .inl (tc 0, 6, .inl (fun _ => 0))), (q_25, .inr (3, [.ref b_29, .ref b_30, .ref b_31, .int 0])), (b_29, .inl (tc 0, 10, .inl (fun _ => 0))), (b_30, .inl (tc 0, 10, .inl (fun _ => 0))), (b_31, .inl (tc 0, 10, .inl (fun _ => 0)))] H := hP₀
  replace hD : va_D A [(h0, .inr (8, [.ref q_1, .ref q_13, .ref q_25, .int 0, .int 0])), (q_1, .inr (9, [.int 0, .int 0, .int 0, .int 0, .int 0, .int 0, .ref b_5, .ref b_6, .ref b_7, .ref b_8, .ref b_9, .ref b_10, .ref b_11, .ref b_12])), (b_5, .inl (tc 0, 10, .inl (fun _ => 0))), (b_6, .inl (tc 0, 10, .inl (fun _ => 0))), (b_7, .inl (tc 0, 6, .inl (fun _ => 0))), (b_8, .inl (tc 0, 6, .inl (fun _ => 0))), (b_9, .inl (tc 0, 6, .inl (fun _ => 0))), (b_10, .inl (tc 0, 6, .inl (fun _ => 0))), (b_11, .inl (tc 0, 6, .inl (fun _ => 0))), (b_12, .inl (tc 0, 6, .inl (fun _ => 0))), (q_13, .inr (9, [.int 0, .int 0, .int 0, .int 0, .int 0, .int 0, .ref b_17, .ref b_18, .ref b_19, .ref b_20, .ref b_21, .ref b_22, .ref b_23, .ref b_24])), (b_17, .inl (tc 0, 10, .inl (fun _ => 0))), (b_18, .inl (tc 0, 10, .inl (fun _ => 0))), (b_19, .inl (tc 0, 6, .inl (fun _ => 0))), (b_20, .inl (tc 0, 6, .inl (fun _ => 0))), (b_21, .inl (tc 0, 6, .inl (fun _ => 0))), (b_22, .inl (tc 0, 6, .inl (fun _ => 0))), (b_23, .inl (tc 0, 6, .inl (fun _ => 0))), (b_24, .inl (tc 0, 6, .inl (fun _ => 0))), (q_25, .inr (3, [.ref b_29, .ref b_30, .ref b_31, .int 0])), (b_29, .inl (tc 0, 10, .inl (fun _ => 0))), (b_30, .inl (tc 0, 10, .inl (fun _ => 0))), (b_31, .inl (tc 0, 10, .inl (fun _ => 0)))] := hD₀
  replace hS := hS₀
  clear hP₀ hD₀ hS₀
  refine lv_aload_n hx hb dX8_init_37 rfl (lv_at hl 0 rfl) ?_
  refine lv_iconst (v := (-1)) hx hb dX8_init_38 (by decide) ?_
  refine pf_X8_28 hx hb hts hown hK hP hD hS 0 rfl (Nat.le_of_ble_eq_true rfl) rfl rfl dX8_init_39 (fun H locs hP₀ hD₀ hS₀ => ?_)
  replace hP : va_P D classes [(h0, .inr (8, [.ref q_1, .ref q_13, .ref q_25, .int (-1), .int 0])), (q_1, .inr (9, [.int 0, .int 0, .int 0, .int 0, .int 0, .int 0, .ref b_5, .ref b_6, .ref b_7, .ref b_8, .ref b_9, .ref b_10, .ref b_11, .ref b_12])), (b_5, .inl (tc 0, 10, .inl (fun _ => 0))), (b_6, .inl (tc 0, 10, .inl (fun _ => 0))), (b_7, .inl (tc 0, 6, .inl (fun _ => 0))), (b_8, .inl (tc 0, 6, .inl (fun _ => 0))), (b_9, .inl (tc 0, 6, .inl (fun _ => 0))), (b_10, .inl (tc 0, 6, .inl (fun _ => 0))), (b_11, .inl (tc 0, 6, .inl (fun _ => 0))), (b_12, .inl (tc 0, 6, .inl (fun _ => 0))), (q_13, .inr (9, [.int 0, .int 0, .int 0, .int 0, .int 0, .int 0, .ref b_17, .ref b_18, .ref b_19, .ref b_20, .ref b_21, .ref b_22, .ref b_23, .ref b_24])), (b_17, .inl (tc 0, 10, .inl (fun _ => 0))), (b_18, .inl (tc 0, 10, .inl (fun _ => 0))), (b_19, .inl (tc 0, 6, .inl (fun _ => 0))), (b_20, .inl (tc 0, 6, .inl (fun _ => 0))), (b_21, .inl (tc 0, 6, .inl (fun _ => 0))), (b_22, .inl (tc 0, 6, .inl (fun _ => 0))), (b_23, .inl (tc 0, 6, .inl (fun _ => 0))), (b_24, .inl (tc 0, 6, .inl (fun _ => 0))), (q_25, .inr (3, [.ref b_29, .ref b_30, .ref b_31, .int 0])), (b_29, .inl (tc 0, 10, .inl (fun _ => 0))), (b_30, .inl (tc 0, 10, .inl (fun _ => 0))), (b_31, .inl (tc 0, 10, .inl (fun _ => 0)))] H := hP₀
  replace hD : va_D A [(h0, .inr (8, [.ref q_1, .ref q_13, .ref q_25, .int (-1), .int 0])), (q_1, .inr (9, [.int 0, .int 0, .int 0, .int 0, .int 0, .int 0, .ref b_5, .ref b_6, .ref b_7, .ref b_8, .ref b_9, .ref b_10, .ref b_11, .ref b_12])), (b_5, .inl (tc 0, 10, .inl (fun _ => 0))), (b_6, .inl (tc 0, 10, .inl (fun _ => 0))), (b_7, .inl (tc 0, 6, .inl (fun _ => 0))), (b_8, .inl (tc 0, 6, .inl (fun _ => 0))), (b_9, .inl (tc 0, 6, .inl (fun _ => 0))), (b_10, .inl (tc 0, 6, .inl (fun _ => 0))), (b_11, .inl (tc 0, 6, .inl (fun _ => 0))), (b_12, .inl (tc 0, 6, .inl (fun _ => 0))), (q_13, .inr (9, [.int 0, .int 0, .int 0, .int 0, .int 0, .int 0, .ref b_17, .ref b_18, .ref b_19, .ref b_20, .ref b_21, .ref b_22, .ref b_23, .ref b_24])), (b_17, .inl (tc 0, 10, .inl (fun _ => 0))), (b_18, .inl (tc 0, 10, .inl (fun _ => 0))), (b_19, .inl (tc 0, 6, .inl (fun _ => 0))), (b_20, .inl (tc 0, 6, .inl (fun _ => 0))), (b_21, .inl (tc 0, 6, .inl (fun _ => 0))), (b_22, .inl (tc 0, 6, .inl (fun _ => 0))), (b_23, .inl (tc 0, 6, .inl (fun _ => 0))), (b_24, .inl (tc 0, 6, .inl (fun _ => 0))), (q_25, .inr (3, [.ref b_29, .ref b_30, .ref b_31, .int 0])), (b_29, .inl (tc 0, 10, .inl (fun _ => 0))), (b_30, .inl (tc 0, 10, .inl (fun _ => 0))), (b_31, .inl (tc 0, 10, .inl (fun _ => 0)))] := hD₀
  replace hS := hS₀
  clear hP₀ hD₀ hS₀
  refine lv_aload_n hx hb dX8_init_42 rfl (lv_at hl 0 rfl) ?_
  refine lv_iconst (v := 0) hx hb dX8_init_43 (by decide) ?_
  refine pf_X8_32 hx hb hts hown hK hP hD hS 0 rfl (Nat.le_of_ble_eq_true rfl) rfl rfl dX8_init_44 (fun H locs hP₀ hD₀ hS₀ => ?_)
  replace hP : va_P D classes [(h0, .inr (8, [.ref q_1, .ref q_13, .ref q_25, .int (-1), .int 0])), (q_1, .inr (9, [.int 0, .int 0, .int 0, .int 0, .int 0, .int 0, .ref b_5, .ref b_6, .ref b_7, .ref b_8, .ref b_9, .ref b_10, .ref b_11, .ref b_12])), (b_5, .inl (tc 0, 10, .inl (fun _ => 0))), (b_6, .inl (tc 0, 10, .inl (fun _ => 0))), (b_7, .inl (tc 0, 6, .inl (fun _ => 0))), (b_8, .inl (tc 0, 6, .inl (fun _ => 0))), (b_9, .inl (tc 0, 6, .inl (fun _ => 0))), (b_10, .inl (tc 0, 6, .inl (fun _ => 0))), (b_11, .inl (tc 0, 6, .inl (fun _ => 0))), (b_12, .inl (tc 0, 6, .inl (fun _ => 0))), (q_13, .inr (9, [.int 0, .int 0, .int 0, .int 0, .int 0, .int 0, .ref b_17, .ref b_18, .ref b_19, .ref b_20, .ref b_21, .ref b_22, .ref b_23, .ref b_24])), (b_17, .inl (tc 0, 10, .inl (fun _ => 0))), (b_18, .inl (tc 0, 10, .inl (fun _ => 0))), (b_19, .inl (tc 0, 6, .inl (fun _ => 0))), (b_20, .inl (tc 0, 6, .inl (fun _ => 0))), (b_21, .inl (tc 0, 6, .inl (fun _ => 0))), (b_22, .inl (tc 0, 6, .inl (fun _ => 0))), (b_23, .inl (tc 0, 6, .inl (fun _ => 0))), (b_24, .inl (tc 0, 6, .inl (fun _ => 0))), (q_25, .inr (3, [.ref b_29, .ref b_30, .ref b_31, .int 0])), (b_29, .inl (tc 0, 10, .inl (fun _ => 0))), (b_30, .inl (tc 0, 10, .inl (fun _ => 0))), (b_31, .inl (tc 0, 10, .inl (fun _ => 0)))] H := hP₀
  replace hD : va_D A [(h0, .inr (8, [.ref q_1, .ref q_13, .ref q_25, .int (-1), .int 0])), (q_1, .inr (9, [.int 0, .int 0, .int 0, .int 0, .int 0, .int 0, .ref b_5, .ref b_6, .ref b_7, .ref b_8, .ref b_9, .ref b_10, .ref b_11, .ref b_12])), (b_5, .inl (tc 0, 10, .inl (fun _ => 0))), (b_6, .inl (tc 0, 10, .inl (fun _ => 0))), (b_7, .inl (tc 0, 6, .inl (fun _ => 0))), (b_8, .inl (tc 0, 6, .inl (fun _ => 0))), (b_9, .inl (tc 0, 6, .inl (fun _ => 0))), (b_10, .inl (tc 0, 6, .inl (fun _ => 0))), (b_11, .inl (tc 0, 6, .inl (fun _ => 0))), (b_12, .inl (tc 0, 6, .inl (fun _ => 0))), (q_13, .inr (9, [.int 0, .int 0, .int 0, .int 0, .int 0, .int 0, .ref b_17, .ref b_18, .ref b_19, .ref b_20, .ref b_21, .ref b_22, .ref b_23, .ref b_24])), (b_17, .inl (tc 0, 10, .inl (fun _ => 0))), (b_18, .inl (tc 0, 10, .inl (fun _ => 0))), (b_19, .inl (tc 0, 6, .inl (fun _ => 0))), (b_20, .inl (tc 0, 6, .inl (fun _ => 0))), (b_21, .inl (tc 0, 6, .inl (fun _ => 0))), (b_22, .inl (tc 0, 6, .inl (fun _ => 0))), (b_23, .inl (tc 0, 6, .inl (fun _ => 0))), (b_24, .inl (tc 0, 6, .inl (fun _ => 0))), (q_25, .inr (3, [.ref b_29, .ref b_30, .ref b_31, .int 0])), (b_29, .inl (tc 0, 10, .inl (fun _ => 0))), (b_30, .inl (tc 0, 10, .inl (fun _ => 0))), (b_31, .inl (tc 0, 10, .inl (fun _ => 0)))] := hD₀
  replace hS := hS₀
  clear hP₀ hD₀ hS₀
  exact retV hx hb hr hlk hP hD hS (q_1, b_5, b_6, b_7, b_8, b_9, b_10, b_11, b_12, q_13, b_17, b_18, b_19, b_20, b_21, b_22, b_23, b_24, q_25, b_29, b_30, b_31) rfl [0, 1, 2, 3, 4, 5, 6, 7, 8, 9, 10, 11, 12, 13, 14, 15, 16, 17, 18, 19, 20, 21, 22] rfl rfl dX8_init_47 (Nat.le_of_ble_eq_true rfl) (Nat.le_of_ble_eq_true rfl) rfl
set_option maxHeartbeats 4000000 in
set_option maxRecDepth 100000 in
theorem ct_X5_init (l : Launch) (D : va_G) (tc : Nat → ClassId) (sk : (Nat → Nat) × (Nat → Nat)) (h0 : Nat)  : Ct l yX5_init cX5_init 1 none { frames := 1, cells := 1, slots := 20, locals := 12 } D tc sk [.ref h0] [(h0, .inr (5, [.null, .int 0, .int 0]))] (fun (v : Option Value) (b1 : Nat) => v = none) (fun (b1 : Nat) => [(h0, .inr (5, [.ref b1, .int 0, .int 0])), (b1, .inl (tc 5, 20, .inr (.inr (.inr (.inr (fun _ => none))))))]) 1 20 := by
  refine Ct.start (by decide) (Nat.le_of_ble_eq_true rfl) (fun p e s m below meth c A ls hx hb hr hlk hin hml hown hts hK hX hP hD hA hl hS => ?_)
  have hl : lv_has ls 1 [(0, .ref h0)] := hl
  refine lv_aload_n hx hb dX5_init_0 rfl (lv_at hl 0 rfl) ?_
  refine W.objInit hx hb hown (hts _ k_330) (hts _ k_122) (hts _ k_123) rfl (by rw [hml]; exact hl.1) rfl dX5_init_1 (Nat.le_of_ble_eq_true rfl) (Nat.le_of_ble_eq_true rfl) ?_
  refine W.eq (g2 := F0 m 4 ls []) rfl ?_
  refine lv_aload_n hx hb dX5_init_4 rfl (lv_at hl 0 rfl) ?_
  refine lv_bipush (v := 20) hx hb dX5_init_5 (by decide) ?_
  refine nwQ (N' := 20) hx hb hown (hts _ k_331) hX (by decide) hK hP hD hS hA 5 rfl (by decide) (by decide) (by decide) (Nat.le_of_ble_eq_true rfl) (Nat.le_of_ble_eq_true rfl) dX5_init_7 (fun q_1 H hP₀ hD₀ hS₀ => ?_)
  replace hP : va_P D classes [(h0, .inr (5, [.null, .int 0, .int 0])), (q_1, .inl (tc 5, 20, .inr (.inr (.inr (.inr (fun _ => none))))))] H := hP₀
  replace hD : va_D A [(h0, .inr (5, [.null, .int 0, .int 0])), (q_1, .inl (tc 5, 20, .inr (.inr (.inr (.inr (fun _ => none))))))] := hD₀
  replace hS := hS₀
  clear hP₀ hD₀ hS₀
  refine pf_X5_13 (ty := (.array (.object "PoisonBook$Shop"))) hx hb hts hown hin hK hP hD hS 0 rfl (Nat.le_of_ble_eq_true rfl) (by decide +kernel) rfl rfl dX5_init_10 (fun H locs hP₀ hD₀ hS₀ => ?_)
  replace hP : va_P D classes [(h0, .inr (5, [.ref q_1, .int 0, .int 0])), (q_1, .inl (tc 5, 20, .inr (.inr (.inr (.inr (fun _ => none))))))] H := hP₀
  replace hD : va_D A [(h0, .inr (5, [.ref q_1, .int 0, .int 0])), (q_1, .inl (tc 5, 20, .inr (.inr (.inr (.inr (fun _ => none))))))] := hD₀
  replace hS := hS₀
  clear hP₀ hD₀ hS₀
  refine lv_aload_n hx hb dX5_init_13 rfl (lv_at hl 0 rfl) ?_
  refine lv_iconst (v := 0) hx hb dX5_init_14 (by decide) ?_
  refine pf_X5_17 hx hb hts hown hK hP hD hS 0 rfl (Nat.le_of_ble_eq_true rfl) rfl rfl dX5_init_15 (fun H locs hP₀ hD₀ hS₀ => ?_)
  replace hP : va_P D classes [(h0, .inr (5, [.ref q_1, .int 0, .int 0])), (q_1, .inl (tc 5, 20, .inr (.inr (.inr (.inr (fun _ => none))))))] H := hP₀
  replace hD : va_D A [(h0, .inr (5, [.ref q_1, .int 0, .int 0])), (q_1, .inl (tc 5, 20, .inr (.inr (.inr (.inr (fun _ => none))))))] := hD₀
  replace hS := hS₀
  clear hP₀ hD₀ hS₀
  refine lv_aload_n hx hb dX5_init_18 rfl (lv_at hl 0 rfl) ?_
  refine lv_iconst (v := 0) hx hb dX5_init_19 (by decide) ?_
  refine pf_X5_21 hx hb hts hown hK hP hD hS 0 rfl (Nat.le_of_ble_eq_true rfl) rfl rfl dX5_init_20 (fun H locs hP₀ hD₀ hS₀ => ?_)
  replace hP : va_P D classes [(h0, .inr (5, [.ref q_1, .int 0, .int 0])), (q_1, .inl (tc 5, 20, .inr (.inr (.inr (.inr (fun _ => none))))))] H := hP₀
  replace hD : va_D A [(h0, .inr (5, [.ref q_1, .int 0, .int 0])), (q_1, .inl (tc 5, 20, .inr (.inr (.inr (.inr (fun _ => none))))))] := hD₀
  replace hS := hS₀
  clear hP₀ hD₀ hS₀
  exact retV hx hb hr hlk hP hD hS q_1 rfl [0, 1] rfl rfl dX5_init_23 (Nat.le_of_ble_eq_true rfl) (Nat.le_of_ble_eq_true rfl) rfl
set_option maxHeartbeats 4000000 in
set_option maxRecDepth 100000 in
theorem ct_X4_init (l : Launch) (D : va_G) (tc : Nat → ClassId) (sk : (Nat → Nat) × (Nat → Nat)) (h0 : Nat)  : Ct l yX4_init cX4_init 1 none { frames := 2, cells := 10, slots := 131, locals := 32 } D tc sk [.ref h0] [(h0, .inr (4, [.null, .null, .long 0]))] (fun (v : Option Value) (u : (Nat) × (Nat) × (Nat) × (Nat) × (Nat) × (Nat) × (Nat) × (Nat) × (Nat) × (Nat)) => match u with | (b0, b1, b2, b3, b4, b5, b6, b7, b8, d1) => v = none) (fun (u : (Nat) × (Nat) × (Nat) × (Nat) × (Nat) × (Nat) × (Nat) × (Nat) × (Nat) × (Nat)) => match u with | (b0, b1, b2, b3, b4, b5, b6, b7, b8, d1) => [(h0, .inr (4, [.ref b0, .ref d1, .long 0])), (b0, .inr (9, [.int 0, .int 0, .int 0, .int 0, .int 0, .int 0, .ref b1, .ref b2, .ref b3, .ref b4, .ref b5, .ref b6, .ref b7, .ref b8])), (b1, .inl (tc 0, 10, .inl (fun _ => 0))), (b2, .inl (tc 0, 10, .inl (fun _ => 0))), (b3, .inl (tc 0, 6, .inl (fun _ => 0))), (b4, .inl (tc 0, 6, .inl (fun _ => 0))), (b5, .inl (tc 0, 6, .inl (fun _ => 0))), (b6, .inl (tc 0, 6, .inl (fun _ => 0))), (b7, .inl (tc 0, 6, .inl (fun _ => 0))), (b8, .inl (tc 0, 6, .inl (fun _ => 0))), (d1, .inl (tc 1, 61, .inr (.inl (fun _ => 0))))]) 10 131 := by
  refine Ct.start (by decide) (Nat.le_of_ble_eq_true rfl) (fun p e s m below meth c A ls hx hb hr hlk hin hml hown hts hK hX hP hD hA hl hS => ?_)
  have hl : lv_has ls 1 [(0, .ref h0)] := hl
  refine lv_aload_n hx hb dX4_init_0 rfl (lv_at hl 0 rfl) ?_
  refine W.objInit hx hb hown (hts _ k_350) (hts _ k_122) (hts _ k_123) rfl (by rw [hml]; exact hl.1) rfl dX4_init_1 (Nat.le_of_ble_eq_true rfl) (Nat.le_of_ble_eq_true rfl) ?_
  refine W.eq (g2 := F0 m 4 ls []) rfl ?_
  refine lv_aload_n hx hb dX4_init_4 rfl (lv_at hl 0 rfl) ?_
  refine va_new (ci := 9) (fs := [.int 0, .int 0, .int 0, .int 0, .int 0, .int 0, .null, .null, .null, .null, .null, .null, .null, .null]) (C := RX9) (T := TX9) (N := 14) hx hb hts iX9 tyX9 tyX9_ok hown (hts _ k_351) (hts _ k_164) (hts _ k_98) hK hP hD hS hA rfl dfX9 (Nat.le_of_ble_eq_true rfl) (Nat.le_of_ble_eq_true rfl) dX4_init_5 (fun q_1 H hP₀ hD₀ hS₀ => ?_)
  replace hP : va_P D classes [(h0, .inr (4, [.null, .null, .long 0])), (q_1, .inr (9, [.int 0, .int 0, .int 0, .int 0, .int 0, .int 0, .null, .null, .null, .null, .null, .null, .null, .null]))] H := hP₀
  replace hD : va_D A [(h0, .inr (4, [.null, .null, .long 0])), (q_1, .inr (9, [.int 0, .int 0, .int 0, .int 0, .int 0, .int 0, .null, .null, .null, .null, .null, .null, .null, .null]))] := hD₀
  replace hS := hS₀
  clear hP₀ hD₀ hS₀
  refine lv_dup hx hb dX4_init_8 rfl ?_
  refine cN (a := q_1) (As := []) (rest := [.ref q_1, .ref h0]) (wr := [(h0, .inr (4, [.null, .null, .long 0]))]) ⟨hx, hb, hml, hown, hts⟩ hK hX hA (ct_X9_init l D tc sk q_1) k_167 (by decide) k_166 k_98 rfl pl_X9_init ⟨Nat.le_of_ble_eq_true rfl, Nat.le_of_ble_eq_true rfl⟩ rfl rfl  hP hD hS [1] [0] rfl rfl rfl rfl rfl (by decide) rfl hl.1 rfl (Nat.le_of_ble_eq_true rfl) dX4_init_9 ⟨Nat.le_of_ble_eq_true rfl, Nat.le_of_ble_eq_true rfl⟩ (fun v_2 u_3 H locs hv_4 hP₀ hD₀ hS₀ => ?_)
  obtain ⟨b_5, b_6, b_7, b_8, b_9, b_10, b_11, b_12⟩ := u_3
  obtain rfl : v_2 = none := hv_4
  refine W.eq (g2 := F0 m 12 ls [.ref q_1, .ref h0]) rfl ?_
  replace hP : va_P D classes [(h0, .inr (4, [.null, .null, .long 0])), (q_1, .inr (9, [.int 0, .int 0, .int 0, .int 0, .int 0, .int 0, .ref b_5, .ref b_6, .ref b_7, .ref b_8, .ref b_9, .ref b_10, .ref b_11, .ref b_12])), (b_5, .inl (tc 0, 10, .inl (fun _ => 0))), (b_6, .inl (tc 0, 10, .inl (fun _ => 0))), (b_7, .inl (tc 0, 6, .inl (fun _ => 0))), (b_8, .inl (tc 0, 6, .inl (fun _ => 0))), (b_9, .inl (tc 0, 6, .inl (fun _ => 0))), (b_10, .inl (tc 0, 6, .inl (fun _ => 0))), (b_11, .inl (tc 0, 6, .inl (fun _ => 0))), (b_12, .inl (tc 0, 6, .inl (fun _ => 0)))] H := hP₀
  replace hD : va_D A [(h0, .inr (4, [.null, .null, .long 0])), (q_1, .inr (9, [.int 0, .int 0, .int 0, .int 0, .int 0, .int 0, .ref b_5, .ref b_6, .ref b_7, .ref b_8, .ref b_9, .ref b_10, .ref b_11, .ref b_12])), (b_5, .inl (tc 0, 10, .inl (fun _ => 0))), (b_6, .inl (tc 0, 10, .inl (fun _ => 0))), (b_7, .inl (tc 0, 6, .inl (fun _ => 0))), (b_8, .inl (tc 0, 6, .inl (fun _ => 0))), (b_9, .inl (tc 0, 6, .inl (fun _ => 0))), (b_10, .inl (tc 0, 6, .inl (fun _ => 0))), (b_11, .inl (tc 0, 6, .inl (fun _ => 0))), (b_12, .inl (tc 0, 6, .inl (fun _ => 0)))] := hD₀
  replace hS := hS₀
  clear hP₀ hD₀ hS₀
  refine pf_X4_12 (ty := (.object "PoisonBook$Shop")) hx hb hts hown hin hK hP hD hS 0 rfl (Nat.le_of_ble_eq_true rfl) (by decide +kernel) rfl rfl dX4_init_12 (fun H locs hP₀ hD₀ hS₀ => ?_)
  replace hP : va_P D classes [(h0, .inr (4, [.ref q_1, .null, .long 0])), (q_1, .inr (9, [.int 0, .int 0, .int 0, .int 0, .int 0, .int 0, .ref b_5, .ref b_6, .ref b_7, .ref b_8, .ref b_9, .ref b_10, .ref b_11, .ref b_12])), (b_5, .inl (tc 0, 10, .inl (fun _ => 0))), (b_6, .inl (tc 0, 10, .inl (fun _ => 0))), (b_7, .inl (tc 0, 6, .inl (fun _ => 0))), (b_8, .inl (tc 0, 6, .inl (fun _ => 0))), (b_9, .inl (tc 0, 6, .inl (fun _ => 0))), (b_10, .inl (tc 0, 6, .inl (fun _ => 0))), (b_11, .inl (tc 0, 6, .inl (fun _ => 0))), (b_12, .inl (tc 0, 6, .inl (fun _ => 0)))] H := hP₀
  replace hD : va_D A [(h0, .inr (4, [.ref q_1, .null, .long 0])), (q_1, .inr (9, [.int 0, .int 0, .int 0, .int 0, .int 0, .int 0, .ref b_5, .ref b_6, .ref b_7, .ref b_8, .ref b_9, .ref b_10, .ref b_11, .ref b_12])), (b_5, .inl (tc 0, 10, .inl (fun _ => 0))), (b_6, .inl (tc 0, 10, .inl (fun _ => 0))), (b_7, .inl (tc 0, 6, .inl (fun _ => 0))), (b_8, .inl (tc 0, 6, .inl (fun _ => 0))), (b_9, .inl (tc 0, 6, .inl (fun _ => 0))), (b_10, .inl (tc 0, 6, .inl (fun _ => 0))), (b_11, .inl (tc 0, 6, .inl (fun _ => 0))), (b_12, .inl (tc 0, 6, .inl (fun _ => 0)))] := hD₀
  replace hS := hS₀
  clear hP₀ hD₀ hS₀
  refine lv_aload_n hx hb dX4_init_15 rfl (lv_at hl 0 rfl) ?_
  refine lv_bipush (v := 61) hx hb dX4_init_16 (by decide) ?_
  refine nwA (atype := .long) (a0 := (61, .inr (.inl (fun _ => 0)))) hx hb (hts _ k_364) rfl hK hP hD hS hA 1 rfl (fun _ => rfl) (by decide) (by decide) (by decide) (Nat.le_of_ble_eq_true rfl) (Nat.le_of_ble_eq_true rfl) dX4_init_18 (fun q_13 H hP₀ hD₀ hS₀ => ?_)
  replace hP : va_P D classes [(h0, .inr (4, [.ref q_1, .null, .long 0])), (q_1, .inr (9, [.int 0, .int 0, .int 0, .int 0, .int 0, .int 0, .ref b_5, .ref b_6, .ref b_7, .ref b_8, .ref b_9, .ref b_10, .ref b_11, .ref b_12])), (b_5, .inl (tc 0, 10, .inl (fun _ => 0))), (b_6, .inl (tc 0, 10, .inl (fun _ => 0))), (b_7, .inl (tc 0, 6, .inl (fun _ => 0))), (b_8, .inl (tc 0, 6, .inl (fun _ => 0))), (b_9, .inl (tc 0, 6, .inl (fun _ => 0))), (b_10, .inl (tc 0, 6, .inl (fun _ => 0))), (b_11, .inl (tc 0, 6, .inl (fun _ => 0))), (b_12, .inl (tc 0, 6, .inl (fun _ => 0))), (q_13, .inl (tc 1, 61, .inr (.inl (fun _ => 0))))] H := hP₀
  replace hD : va_D A [(h0, .inr (4, [.ref q_1, .null, .long 0])), (q_1, .inr (9, [.int 0, .int 0, .int 0, .int 0, .int 0, .int 0, .ref b_5, .ref b_6, .ref b_7, .ref b_8, .ref b_9, .ref b_10, .ref b_11, .ref b_12])), (b_5, .inl (tc 0, 10, .inl (fun _ => 0))), (b_6, .inl (tc 0, 10, .inl (fun _ => 0))), (b_7, .inl (tc 0, 6, .inl (fun _ => 0))), (b_8, .inl (tc 0, 6, .inl (fun _ => 0))), (b_9, .inl (tc 0, 6, .inl (fun _ => 0))), (b_10, .inl (tc 0, 6, .inl (fun _ => 0))), (b_11, .inl (tc 0, 6, .inl (fun _ => 0))), (b_12, .inl (tc 0, 6, .inl (fun _ => 0))), (q_13, .inl (tc 1, 61, .inr (.inl (fun _ => 0))))] := hD₀
  replace hS := hS₀
  clear hP₀ hD₀ hS₀
  refine pf_X4_18 (ty := (.array .long)) hx hb hts hown hin hK hP hD hS 0 rfl (Nat.le_of_ble_eq_true rfl) (by decide +kernel) rfl rfl dX4_init_20 (fun H locs hP₀ hD₀ hS₀ => ?_)
  replace hP : va_P D classes [(h0, .inr (4, [.ref q_1, .ref q_13, .long 0])), (q_1, .inr (9, [.int 0, .int 0, .int 0, .int 0, .int 0, .int 0, .ref b_5, .ref b_6, .ref b_7, .ref b_8, .ref b_9, .ref b_10, .ref b_11, .ref b_12])), (b_5, .inl (tc 0, 10, .inl (fun _ => 0))), (b_6, .inl (tc 0, 10, .inl (fun _ => 0))), (b_7, .inl (tc 0, 6, .inl (fun _ => 0))), (b_8, .inl (tc 0, 6, .inl (fun _ => 0))), (b_9, .inl (tc 0, 6, .inl (fun _ => 0))), (b_10, .inl (tc 0, 6, .inl (fun _ => 0))), (b_11, .inl (tc 0, 6, .inl (fun _ => 0))), (b_12, .inl (tc 0, 6, .inl (fun _ => 0))), (q_13, .inl (tc 1, 61, .inr (.inl (fun _ => 0))))] H := hP₀
  replace hD : va_D A [(h0, .inr (4, [.ref q_1, .ref q_13, .long 0])), (q_1, .inr (9, [.int 0, .int 0, .int 0, .int 0, .int 0, .int 0, .ref b_5, .ref b_6, .ref b_7, .ref b_8, .ref b_9, .ref b_10, .ref b_11, .ref b_12])), (b_5, .inl (tc 0, 10, .inl (fun _ => 0))), (b_6, .inl (tc 0, 10, .inl (fun _ => 0))), (b_7, .inl (tc 0, 6, .inl (fun _ => 0))), (b_8, .inl (tc 0, 6, .inl (fun _ => 0))), (b_9, .inl (tc 0, 6, .inl (fun _ => 0))), (b_10, .inl (tc 0, 6, .inl (fun _ => 0))), (b_11, .inl (tc 0, 6, .inl (fun _ => 0))), (b_12, .inl (tc 0, 6, .inl (fun _ => 0))), (q_13, .inl (tc 1, 61, .inr (.inl (fun _ => 0))))] := hD₀
  replace hS := hS₀
  clear hP₀ hD₀ hS₀
  refine lv_aload_n hx hb dX4_init_23 rfl (lv_at hl 0 rfl) ?_
  refine lv_lconst (v := 0) hx hb dX4_init_24 (by decide) ?_
  refine pf_X4_22 hx hb hts hown hK hP hD hS 0 rfl (Nat.le_of_ble_eq_true rfl) rfl rfl dX4_init_25 (fun H locs hP₀ hD₀ hS₀ => ?_)
  replace hP : va_P D classes [(h0, .inr (4, [.ref q_1, .ref q_13, .long 0])), (q_1, .inr (9, [.int 0, .int 0, .int 0, .int 0, .int 0, .int 0, .ref b_5, .ref b_6, .ref b_7, .ref b_8, .ref b_9, .ref b_10, .ref b_11, .ref b_12])), (b_5, .inl (tc 0, 10, .inl (fun _ => 0))), (b_6, .inl (tc 0, 10, .inl (fun _ => 0))), (b_7, .inl (tc 0, 6, .inl (fun _ => 0))), (b_8, .inl (tc 0, 6, .inl (fun _ => 0))), (b_9, .inl (tc 0, 6, .inl (fun _ => 0))), (b_10, .inl (tc 0, 6, .inl (fun _ => 0))), (b_11, .inl (tc 0, 6, .inl (fun _ => 0))), (b_12, .inl (tc 0, 6, .inl (fun _ => 0))), (q_13, .inl (tc 1, 61, .inr (.inl (fun _ => 0))))] H := hP₀
  replace hD : va_D A [(h0, .inr (4, [.ref q_1, .ref q_13, .long 0])), (q_1, .inr (9, [.int 0, .int 0, .int 0, .int 0, .int 0, .int 0, .ref b_5, .ref b_6, .ref b_7, .ref b_8, .ref b_9, .ref b_10, .ref b_11, .ref b_12])), (b_5, .inl (tc 0, 10, .inl (fun _ => 0))), (b_6, .inl (tc 0, 10, .inl (fun _ => 0))), (b_7, .inl (tc 0, 6, .inl (fun _ => 0))), (b_8, .inl (tc 0, 6, .inl (fun _ => 0))), (b_9, .inl (tc 0, 6, .inl (fun _ => 0))), (b_10, .inl (tc 0, 6, .inl (fun _ => 0))), (b_11, .inl (tc 0, 6, .inl (fun _ => 0))), (b_12, .inl (tc 0, 6, .inl (fun _ => 0))), (q_13, .inl (tc 1, 61, .inr (.inl (fun _ => 0))))] := hD₀
  replace hS := hS₀
  clear hP₀ hD₀ hS₀
  exact retV hx hb hr hlk hP hD hS (q_1, b_5, b_6, b_7, b_8, b_9, b_10, b_11, b_12, q_13) rfl [0, 1, 2, 3, 4, 5, 6, 7, 8, 9, 10] rfl rfl dX4_init_28 (Nat.le_of_ble_eq_true rfl) (Nat.le_of_ble_eq_true rfl) rfl
set_option maxHeartbeats 4000000 in
set_option maxRecDepth 100000 in
theorem ct_X1_init (l : Launch) (D : va_G) (tc : Nat → ClassId) (sk : (Nat → Nat) × (Nat → Nat)) (h0 : Nat)  : Ct l yX1_init cX1_init 1 none { frames := 2, cells := 11, slots := 120, locals := 32 } D tc sk [.ref h0] [(h0, .inr (1, [.null, .null, .null]))] (fun (v : Option Value) (u : (Nat) × (Nat) × (Nat) × (Nat) × (Nat) × (Nat) × (Nat) × (Nat) × (Nat) × (Nat) × (Nat)) => match u with | (b0, b1, b2, b3, b4, b5, b6, b7, b8, d1, d2) => v = none) (fun (u : (Nat) × (Nat) × (Nat) × (Nat) × (Nat) × (Nat) × (Nat) × (Nat) × (Nat) × (Nat) × (Nat)) => match u with | (b0, b1, b2, b3, b4, b5, b6, b7, b8, d1, d2) => [(h0, .inr (1, [.ref b0, .ref d1, .ref d2])), (b0, .inr (9, [.int 0, .int 0, .int 0, .int 0, .int 0, .int 0, .ref b1, .ref b2, .ref b3, .ref b4, .ref b5, .ref b6, .ref b7, .ref b8])), (b1, .inl (tc 0, 10, .inl (fun _ => 0))), (b2, .inl (tc 0, 10, .inl (fun _ => 0))), (b3, .inl (tc 0, 6, .inl (fun _ => 0))), (b4, .inl (tc 0, 6, .inl (fun _ => 0))), (b5, .inl (tc 0, 6, .inl (fun _ => 0))), (b6, .inl (tc 0, 6, .inl (fun _ => 0))), (b7, .inl (tc 0, 6, .inl (fun _ => 0))), (b8, .inl (tc 0, 6, .inl (fun _ => 0))), (d1, .inl (tc 0, 25, .inl (fun _ => 0))), (d2, .inl (tc 0, 25, .inl (fun _ => 0)))]) 11 120 := by
  refine Ct.start (by decide) (Nat.le_of_ble_eq_true rfl) (fun p e s m below meth c A ls hx hb hr hlk hin hml hown hts hK hX hP hD hA hl hS => ?_)
  have hl : lv_has ls 1 [(0, .ref h0)] := hl
  refine lv_aload_n hx hb dX1_init_0 rfl (lv_at hl 0 rfl) ?_
  refine W.objInit hx hb hown (hts _ k_370) (hts _ k_122) (hts _ k_123) rfl (by rw [hml]; exact hl.1) rfl dX1_init_1 (Nat.le_of_ble_eq_true rfl) (Nat.le_of_ble_eq_true rfl) ?_
  refine W.eq (g2 := F0 m 4 ls []) rfl ?_
  refine lv_aload_n hx hb dX1_init_4 rfl (lv_at hl 0 rfl) ?_
  refine va_new (ci := 9) (fs := [.int 0, .int 0, .int 0, .int 0, .int 0, .int 0, .null, .null, .null, .null, .null, .null, .null, .null]) (C := RX9) (T := TX9) (N := 14) hx hb hts iX9 tyX9 tyX9_ok hown (hts _ k_371) (hts _ k_164) (hts _ k_98) hK hP hD hS hA rfl dfX9 (Nat.le_of_ble_eq_true rfl) (Nat.le_of_ble_eq_true rfl) dX1_init_5 (fun q_1 H hP₀ hD₀ hS₀ => ?_)
  replace hP : va_P D classes [(h0, .inr (1, [.null, .null, .null])), (q_1, .inr (9, [.int 0, .int 0, .int 0, .int 0, .int 0, .int 0, .null, .null, .null, .null, .null, .null, .null, .null]))] H := hP₀
  replace hD : va_D A [(h0, .inr (1, [.null, .null, .null])), (q_1, .inr (9, [.int 0, .int 0, .int 0, .int 0, .int 0, .int 0, .null, .null, .null, .null, .null, .null, .null, .null]))] := hD₀
  replace hS := hS₀
  clear hP₀ hD₀ hS₀
  refine lv_dup hx hb dX1_init_8 rfl ?_
  refine cN (a := q_1) (As := []) (rest := [.ref q_1, .ref h0]) (wr := [(h0, .inr (1, [.null, .null, .null]))]) ⟨hx, hb, hml, hown, hts⟩ hK hX hA (ct_X9_init l D tc sk q_1) k_167 (by decide) k_166 k_98 rfl pl_X9_init ⟨Nat.le_of_ble_eq_true rfl, Nat.le_of_ble_eq_true rfl⟩ rfl rfl  hP hD hS [1] [0] rfl rfl rfl rfl rfl (by decide) rfl hl.1 rfl (Nat.le_of_ble_eq_true rfl) dX1_init_9 ⟨Nat.le_of_ble_eq_true rfl, Nat.le_of_ble_eq_true rfl⟩ (fun v_2 u_3 H locs hv_4 hP₀ hD₀ hS₀ => ?_)
  obtain ⟨b_5, b_6, b_7, b_8, b_9, b_10, b_11, b_12⟩ := u_3
  obtain rfl : v_2 = none := hv_4
  refine W.eq (g2 := F0 m 12 ls [.ref q_1, .ref h0]) rfl ?_
  replace hP : va_P D classes [(h0, .inr (1, [.null, .null, .null])), (q_1, .inr (9, [.int 0, .int 0, .int 0, .int 0, .int 0, .int 0, .ref b_5, .ref b_6, .ref b_7, .ref b_8, .ref b_9, .ref b_10, .ref b_11, .ref b_12])), (b_5, .inl (tc 0, 10, .inl (fun _ => 0))), (b_6, .inl (tc 0, 10, .inl (fun _ => 0))), (b_7, .inl (tc 0, 6, .inl (fun _ => 0))), (b_8, .inl (tc 0, 6, .inl (fun _ => 0))), (b_9, .inl (tc 0, 6, .inl (fun _ => 0))), (b_10, .inl (tc 0, 6, .inl (fun _ => 0))), (b_11, .inl (tc 0, 6, .inl (fun _ => 0))), (b_12, .inl (tc 0, 6, .inl (fun _ => 0)))] H := hP₀
  replace hD : va_D A [(h0, .inr (1, [.null, .null, .null])), (q_1, .inr (9, [.int 0, .int 0, .int 0, .int 0, .int 0, .int 0, .ref b_5, .ref b_6, .ref b_7, .ref b_8, .ref b_9, .ref b_10, .ref b_11, .ref b_12])), (b_5, .inl (tc 0, 10, .inl (fun _ => 0))), (b_6, .inl (tc 0, 10, .inl (fun _ => 0))), (b_7, .inl (tc 0, 6, .inl (fun _ => 0))), (b_8, .inl (tc 0, 6, .inl (fun _ => 0))), (b_9, .inl (tc 0, 6, .inl (fun _ => 0))), (b_10, .inl (tc 0, 6, .inl (fun _ => 0))), (b_11, .inl (tc 0, 6, .inl (fun _ => 0))), (b_12, .inl (tc 0, 6, .inl (fun _ => 0)))] := hD₀
  replace hS := hS₀
  clear hP₀ hD₀ hS₀
  refine pf_X1_12 (ty := (.object "PoisonBook$Shop")) hx hb hts hown hin hK hP hD hS 0 rfl (Nat.le_of_ble_eq_true rfl) (by decide +kernel) rfl rfl dX1_init_12 (fun H locs hP₀ hD₀ hS₀ => ?_)
  replace hP : va_P D classes [(h0, .inr (1, [.ref q_1, .null, .null])), (q_1, .inr (9, [.int 0, .int 0, .int 0, .int 0, .int 0, .int 0, .ref b_5, .ref b_6, .ref b_7, .ref b_8, .ref b_9, .ref b_10, .ref b_11, .ref b_12])), (b_5, .inl (tc 0, 10, .inl (fun _ => 0))), (b_6, .inl (tc 0, 10, .inl (fun _ => 0))), (b_7, .inl (tc 0, 6, .inl (fun _ => 0))), (b_8, .inl (tc 0, 6, .inl (fun _ => 0))), (b_9, .inl (tc 0, 6, .inl (fun _ => 0))), (b_10, .inl (tc 0, 6, .inl (fun _ => 0))), (b_11, .inl (tc 0, 6, .inl (fun _ => 0))), (b_12, .inl (tc 0, 6, .inl (fun _ => 0)))] H := hP₀
  replace hD : va_D A [(h0, .inr (1, [.ref q_1, .null, .null])), (q_1, .inr (9, [.int 0, .int 0, .int 0, .int 0, .int 0, .int 0, .ref b_5, .ref b_6, .ref b_7, .ref b_8, .ref b_9, .ref b_10, .ref b_11, .ref b_12])), (b_5, .inl (tc 0, 10, .inl (fun _ => 0))), (b_6, .inl (tc 0, 10, .inl (fun _ => 0))), (b_7, .inl (tc 0, 6, .inl (fun _ => 0))), (b_8, .inl (tc 0, 6, .inl (fun _ => 0))), (b_9, .inl (tc 0, 6, .inl (fun _ => 0))), (b_10, .inl (tc 0, 6, .inl (fun _ => 0))), (b_11, .inl (tc 0, 6, .inl (fun _ => 0))), (b_12, .inl (tc 0, 6, .inl (fun _ => 0)))] := hD₀
  replace hS := hS₀
  clear hP₀ hD₀ hS₀
  refine lv_aload_n hx hb dX1_init_15 rfl (lv_at hl 0 rfl) ?_
  refine lv_bipush (v := 25) hx hb dX1_init_16 (by decide) ?_
  refine nwA (atype := .int) (a0 := (25, .inl (fun _ => 0))) hx hb (hts _ k_156) rfl hK hP hD hS hA 0 rfl (fun _ => rfl) (by decide) (by decide) (by decide) (Nat.le_of_ble_eq_true rfl) (Nat.le_of_ble_eq_true rfl) dX1_init_18 (fun q_13 H hP₀ hD₀ hS₀ => ?_)
  replace hP : va_P D classes [(h0, .inr (1, [.ref q_1, .null, .null])), (q_1, .inr (9, [.int 0, .int 0, .int 0, .int 0, .int 0, .int 0, .ref b_5, .ref b_6, .ref b_7, .ref b_8, .ref b_9, .ref b_10, .ref b_11, .ref b_12])), (b_5, .inl (tc 0, 10, .inl (fun _ => 0))), (b_6, .inl (tc 0, 10, .inl (fun _ => 0))), (b_7, .inl (tc 0, 6, .inl (fun _ => 0))), (b_8, .inl (tc 0, 6, .inl (fun _ => 0))), (b_9, .inl (tc 0, 6, .inl (fun _ => 0))), (b_10, .inl (tc 0, 6, .inl (fun _ => 0))), (b_11, .inl (tc 0, 6, .inl (fun _ => 0))), (b_12, .inl (tc 0, 6, .inl (fun _ => 0))), (q_13, .inl (tc 0, 25, .inl (fun _ => 0)))] H := hP₀
  replace hD : va_D A [(h0, .inr (1, [.ref q_1, .null, .null])), (q_1, .inr (9, [.int 0, .int 0, .int 0, .int 0, .int 0, .int 0, .ref b_5, .ref b_6, .ref b_7, .ref b_8, .ref b_9, .ref b_10, .ref b_11, .ref b_12])), (b_5, .inl (tc 0, 10, .inl (fun _ => 0))), (b_6, .inl (tc 0, 10, .inl (fun _ => 0))), (b_7, .inl (tc 0, 6, .inl (fun _ => 0))), (b_8, .inl (tc 0, 6, .inl (fun _ => 0))), (b_9, .inl (tc 0, 6, .inl (fun _ => 0))), (b_10, .inl (tc 0, 6, .inl (fun _ => 0))), (b_11, .inl (tc 0, 6, .inl (fun _ => 0))), (b_12, .inl (tc 0, 6, .inl (fun _ => 0))), (q_13, .inl (tc 0, 25, .inl (fun _ => 0)))] := hD₀
  replace hS := hS₀
  clear hP₀ hD₀ hS₀
  refine pf_X1_18 (ty := (.array .int)) hx hb hts hown hin hK hP hD hS 0 rfl (Nat.le_of_ble_eq_true rfl) (by decide +kernel) rfl rfl dX1_init_20 (fun H locs hP₀ hD₀ hS₀ => ?_)
  replace hP : va_P D classes [(h0, .inr (1, [.ref q_1, .ref q_13, .null])), (q_1, .inr (9, [.int 0, .int 0, .int 0, .int 0, .int 0, .int 0, .ref b_5, .ref b_6, .ref b_7, .ref b_8, .ref b_9, .ref b_10, .ref b_11, .ref b_12])), (b_5, .inl (tc 0, 10, .inl (fun _ => 0))), (b_6, .inl (tc 0, 10, .inl (fun _ => 0))), (b_7, .inl (tc 0, 6, .inl (fun _ => 0))), (b_8, .inl (tc 0, 6, .inl (fun _ => 0))), (b_9, .inl (tc 0, 6, .inl (fun _ => 0))), (b_10, .inl (tc 0, 6, .inl (fun _ => 0))), (b_11, .inl (tc 0, 6, .inl (fun _ => 0))), (b_12, .inl (tc 0, 6, .inl (fun _ => 0))), (q_13, .inl (tc 0, 25, .inl (fun _ => 0)))] H := hP₀
  replace hD : va_D A [(h0, .inr (1, [.ref q_1, .ref q_13, .null])), (q_1, .inr (9, [.int 0, .int 0, .int 0, .int 0, .int 0, .int 0, .ref b_5, .ref b_6, .ref b_7, .ref b_8, .ref b_9, .ref b_10, .ref b_11, .ref b_12])), (b_5, .inl (tc 0, 10, .inl (fun _ => 0))), (b_6, .inl (tc 0, 10, .inl (fun _ => 0))), (b_7, .inl (tc 0, 6, .inl (fun _ => 0))), (b_8, .inl (tc 0, 6, .inl (fun _ => 0))), (b_9, .inl (tc 0, 6, .inl (fun _ => 0))), (b_10, .inl (tc 0, 6, .inl (fun _ => 0))), (b_11, .inl (tc 0, 6, .inl (fun _ => 0))), (b_12, .inl (tc 0, 6, .inl (fun _ => 0))), (q_13, .inl (tc 0, 25, .inl (fun _ => 0)))] := hD₀
  replace hS := hS₀
  clear hP₀ hD₀ hS₀
  refine lv_aload_n hx hb dX1_init_23 rfl (lv_at hl 0 rfl) ?_
  refine lv_bipush (v := 25) hx hb dX1_init_24 (by decide) ?_
  refine nwA (atype := .int) (a0 := (25, .inl (fun _ => 0))) hx hb (hts _ k_156) rfl hK hP hD hS hA 0 rfl (fun _ => rfl) (by decide) (by decide) (by decide) (Nat.le_of_ble_eq_true rfl) (Nat.le_of_ble_eq_true rfl) dX1_init_26 (fun q_14 H hP₀ hD₀ hS₀ => ?_)
  replace hP : va_P D classes [(h0, .inr (1, [.ref q_1, .ref q_13, .null])), (q_1, .inr (9, [.int 0, .int 0, .int 0, .int 0, .int 0, .int 0, .ref b_5, .ref b_6, .ref b_7, .ref b_8, .ref b_9, .ref b_10, .ref b_11, .ref b_12])), (b_5, .inl (tc 0, 10, .inl (fun _ => 0))), (b_6, .inl (tc 0, 10, .inl (fun _ => 0))), (b_7, .inl (tc 0, 6, .inl (fun _ => 0))), (b_8, .inl (tc 0, 6, .inl (fun _ => 0))), (b_9, .inl (tc 0, 6, .inl (fun _ => 0))), (b_10, .inl (tc 0, 6, .inl (fun _ => 0))), (b_11, .inl (tc 0, 6, .inl (fun _ => 0))), (b_12, .inl (tc 0, 6, .inl (fun _ => 0))), (q_13, .inl (tc 0, 25, .inl (fun _ => 0))), (q_14, .inl (tc 0, 25, .inl (fun _ => 0)))] H := hP₀
  replace hD : va_D A [(h0, .inr (1, [.ref q_1, .ref q_13, .null])), (q_1, .inr (9, [.int 0, .int 0, .int 0, .int 0, .int 0, .int 0, .ref b_5, .ref b_6, .ref b_7, .ref b_8, .ref b_9, .ref b_10, .ref b_11, .ref b_12])), (b_5, .inl (tc 0, 10, .inl (fun _ => 0))), (b_6, .inl (tc 0, 10, .inl (fun _ => 0))), (b_7, .inl (tc 0, 6, .inl (fun _ => 0))), (b_8, .inl (tc 0, 6, .inl (fun _ => 0))), (b_9, .inl (tc 0, 6, .inl (fun _ => 0))), (b_10, .inl (tc 0, 6, .inl (fun _ => 0))), (b_11, .inl (tc 0, 6, .inl (fun _ => 0))), (b_12, .inl (tc 0, 6, .inl (fun _ => 0))), (q_13, .inl (tc 0, 25, .inl (fun _ => 0))), (q_14, .inl (tc 0, 25, .inl (fun _ => 0)))] := hD₀
  replace hS := hS₀
  clear hP₀ hD₀ hS₀
  refine pf_X1_22 (ty := (.array .int)) hx hb hts hown hin hK hP hD hS 0 rfl (Nat.le_of_ble_eq_true rfl) (by decide +kernel) rfl rfl dX1_init_28 (fun H locs hP₀ hD₀ hS₀ => ?_)
  replace hP : va_P D classes [(h0, .inr (1, [.ref q_1, .ref q_13, .ref q_14])), (q_1, .inr (9, [.int 0, .int 0, .int 0, .int 0, .int 0, .int 0, .ref b_5, .ref b_6, .ref b_7, .ref b_8, .ref b_9, .ref b_10, .ref b_11, .ref b_12])), (b_5, .inl (tc 0, 10, .inl (fun _ => 0))), (b_6, .inl (tc 0, 10, .inl (fun _ => 0))), (b_7, .inl (tc 0, 6, .inl (fun _ => 0))), (b_8, .inl (tc 0, 6, .inl (fun _ => 0))), (b_9, .inl (tc 0, 6, .inl (fun _ => 0))), (b_10, .inl (tc 0, 6, .inl (fun _ => 0))), (b_11, .inl (tc 0, 6, .inl (fun _ => 0))), (b_12, .inl (tc 0, 6, .inl (fun _ => 0))), (q_13, .inl (tc 0, 25, .inl (fun _ => 0))), (q_14, .inl (tc 0, 25, .inl (fun _ => 0)))] H := hP₀
  replace hD : va_D A [(h0, .inr (1, [.ref q_1, .ref q_13, .ref q_14])), (q_1, .inr (9, [.int 0, .int 0, .int 0, .int 0, .int 0, .int 0, .ref b_5, .ref b_6, .ref b_7, .ref b_8, .ref b_9, .ref b_10, .ref b_11, .ref b_12])), (b_5, .inl (tc 0, 10, .inl (fun _ => 0))), (b_6, .inl (tc 0, 10, .inl (fun _ => 0))), (b_7, .inl (tc 0, 6, .inl (fun _ => 0))), (b_8, .inl (tc 0, 6, .inl (fun _ => 0))), (b_9, .inl (tc 0, 6, .inl (fun _ => 0))), (b_10, .inl (tc 0, 6, .inl (fun _ => 0))), (b_11, .inl (tc 0, 6, .inl (fun _ => 0))), (b_12, .inl (tc 0, 6, .inl (fun _ => 0))), (q_13, .inl (tc 0, 25, .inl (fun _ => 0))), (q_14, .inl (tc 0, 25, .inl (fun _ => 0)))] := hD₀
  replace hS := hS₀
  clear hP₀ hD₀ hS₀
  exact retV hx hb hr hlk hP hD hS (q_1, b_5, b_6, b_7, b_8, b_9, b_10, b_11, b_12, q_13, q_14) rfl [0, 1, 2, 3, 4, 5, 6, 7, 8, 9, 10, 11] rfl rfl dX1_init_31 (Nat.le_of_ble_eq_true rfl) (Nat.le_of_ble_eq_true rfl) rfl
set_option maxHeartbeats 4000000 in
set_option maxRecDepth 100000 in
theorem ct_X2_init (l : Launch) (D : va_G) (tc : Nat → ClassId) (sk : (Nat → Nat) × (Nat → Nat)) (h0 : Nat)  : Ct l yX2_init cX2_init 1 none { frames := 2, cells := 11, slots := 504, locals := 32 } D tc sk [.ref h0] [(h0, .inr (2, [.null, .null, .null, .int 0]))] (fun (v : Option Value) (u : (Nat) × (Nat) × (Nat) × (Nat) × (Nat) × (Nat) × (Nat) × (Nat) × (Nat) × (Nat) × (Nat)) => match u with | (b0, b1, b2, b3, b4, b5, b6, b7, b8, d1, d2) => v = none) (fun (u : (Nat) × (Nat) × (Nat) × (Nat) × (Nat) × (Nat) × (Nat) × (Nat) × (Nat) × (Nat) × (Nat)) => match u with | (b0, b1, b2, b3, b4, b5, b6, b7, b8, d1, d2) => [(h0, .inr (2, [.ref b0, .ref d1, .ref d2, .int 0])), (b0, .inr (9, [.int 0, .int 0, .int 0, .int 0, .int 0, .int 0, .ref b1, .ref b2, .ref b3, .ref b4, .ref b5, .ref b6, .ref b7, .ref b8])), (b1, .inl (tc 0, 10, .inl (fun _ => 0))), (b2, .inl (tc 0, 10, .inl (fun _ => 0))), (b3, .inl (tc 0, 6, .inl (fun _ => 0))), (b4, .inl (tc 0, 6, .inl (fun _ => 0))), (b5, .inl (tc 0, 6, .inl (fun _ => 0))), (b6, .inl (tc 0, 6, .inl (fun _ => 0))), (b7, .inl (tc 0, 6, .inl (fun _ => 0))), (b8, .inl (tc 0, 6, .inl (fun _ => 0))), (d1, .inl (tc 0, 427, .inl (fun _ => 0))), (d2, .inl (tc 3, 7, .inl (fun _ => 0)))]) 11 504 := by
  refine Ct.start (by decide) (Nat.le_of_ble_eq_true rfl) (fun p e s m below meth c A ls hx hb hr hlk hin hml hown hts hK hX hP hD hA hl hS => ?_)
  have hl : lv_has ls 1 [(0, .ref h0)] := hl
  refine lv_aload_n hx hb dX2_init_0 rfl (lv_at hl 0 rfl) ?_
  refine W.objInit hx hb hown (hts _ k_388) (hts _ k_122) (hts _ k_123) rfl (by rw [hml]; exact hl.1) rfl dX2_init_1 (Nat.le_of_ble_eq_true rfl) (Nat.le_of_ble_eq_true rfl) ?_
  refine W.eq (g2 := F0 m 4 ls []) rfl ?_
  refine lv_aload_n hx hb dX2_init_4 rfl (lv_at hl 0 rfl) ?_
  refine va_new (ci := 9) (fs := [.int 0, .int 0, .int 0, .int 0, .int 0, .int 0, .null, .null, .null, .null, .null, .null, .null, .null]) (C := RX9) (T := TX9) (N := 14) hx hb hts iX9 tyX9 tyX9_ok hown (hts _ k_389) (hts _ k_164) (hts _ k_98) hK hP hD hS hA rfl dfX9 (Nat.le_of_ble_eq_true rfl) (Nat.le_of_ble_eq_true rfl) dX2_init_5 (fun q_1 H hP₀ hD₀ hS₀ => ?_)
  replace hP : va_P D classes [(h0, .inr (2, [.null, .null, .null, .int 0])), (q_1, .inr (9, [.int 0, .int 0, .int 0, .int 0, .int 0, .int 0, .null, .null, .null, .null, .null, .null, .null, .null]))] H := hP₀
  replace hD : va_D A [(h0, .inr (2, [.null, .null, .null, .int 0])), (q_1, .inr (9, [.int 0, .int 0, .int 0, .int 0, .int 0, .int 0, .null, .null, .null, .null, .null, .null, .null, .null]))] := hD₀
  replace hS := hS₀
  clear hP₀ hD₀ hS₀
  refine lv_dup hx hb dX2_init_8 rfl ?_
  refine cN (a := q_1) (As := []) (rest := [.ref q_1, .ref h0]) (wr := [(h0, .inr (2, [.null, .null, .null, .int 0]))]) ⟨hx, hb, hml, hown, hts⟩ hK hX hA (ct_X9_init l D tc sk q_1) k_167 (by decide) k_166 k_98 rfl pl_X9_init ⟨Nat.le_of_ble_eq_true rfl, Nat.le_of_ble_eq_true rfl⟩ rfl rfl  hP hD hS [1] [0] rfl rfl rfl rfl rfl (by decide) rfl hl.1 rfl (Nat.le_of_ble_eq_true rfl) dX2_init_9 ⟨Nat.le_of_ble_eq_true rfl, Nat.le_of_ble_eq_true rfl⟩ (fun v_2 u_3 H locs hv_4 hP₀ hD₀ hS₀ => ?_)
  obtain ⟨b_5, b_6, b_7, b_8, b_9, b_10, b_11, b_12⟩ := u_3
  obtain rfl : v_2 = none := hv_4
  refine W.eq (g2 := F0 m 12 ls [.ref q_1, .ref h0]) rfl ?_
  replace hP : va_P D classes [(h0, .inr (2, [.null, .null, .null, .int 0])), (q_1, .inr (9, [.int 0, .int 0, .int 0, .int 0, .int 0, .int 0, .ref b_5, .ref b_6, .ref b_7, .ref b_8, .ref b_9, .ref b_10, .ref b_11, .ref b_12])), (b_5, .inl (tc 0, 10, .inl (fun _ => 0))), (b_6, .inl (tc 0, 10, .inl (fun _ => 0))), (b_7, .inl (tc 0, 6, .inl (fun _ => 0))), (b_8, .inl (tc 0, 6, .inl (fun _ => 0))), (b_9, .inl (tc 0, 6, .inl (fun _ => 0))), (b_10, .inl (tc 0, 6, .inl (fun _ => 0))), (b_11, .inl (tc 0, 6, .inl (fun _ => 0))), (b_12, .inl (tc 0, 6, .inl (fun _ => 0)))] H := hP₀
  replace hD : va_D A [(h0, .inr (2, [.null, .null, .null, .int 0])), (q_1, .inr (9, [.int 0, .int 0, .int 0, .int 0, .int 0, .int 0, .ref b_5, .ref b_6, .ref b_7, .ref b_8, .ref b_9, .ref b_10, .ref b_11, .ref b_12])), (b_5, .inl (tc 0, 10, .inl (fun _ => 0))), (b_6, .inl (tc 0, 10, .inl (fun _ => 0))), (b_7, .inl (tc 0, 6, .inl (fun _ => 0))), (b_8, .inl (tc 0, 6, .inl (fun _ => 0))), (b_9, .inl (tc 0, 6, .inl (fun _ => 0))), (b_10, .inl (tc 0, 6, .inl (fun _ => 0))), (b_11, .inl (tc 0, 6, .inl (fun _ => 0))), (b_12, .inl (tc 0, 6, .inl (fun _ => 0)))] := hD₀
  replace hS := hS₀
  clear hP₀ hD₀ hS₀
  refine pf_X2_14 (ty := (.object "PoisonBook$Shop")) hx hb hts hown hin hK hP hD hS 0 rfl (Nat.le_of_ble_eq_true rfl) (by decide +kernel) rfl rfl dX2_init_12 (fun H locs hP₀ hD₀ hS₀ => ?_)
  replace hP : va_P D classes [(h0, .inr (2, [.ref q_1, .null, .null, .int 0])), (q_1, .inr (9, [.int 0, .int 0, .int 0, .int 0, .int 0, .int 0, .ref b_5, .ref b_6, .ref b_7, .ref b_8, .ref b_9, .ref b_10, .ref b_11, .ref b_12])), (b_5, .inl (tc 0, 10, .inl (fun _ => 0))), (b_6, .inl (tc 0, 10, .inl (fun _ => 0))), (b_7, .inl (tc 0, 6, .inl (fun _ => 0))), (b_8, .inl (tc 0, 6, .inl (fun _ => 0))), (b_9, .inl (tc 0, 6, .inl (fun _ => 0))), (b_10, .inl (tc 0, 6, .inl (fun _ => 0))), (b_11, .inl (tc 0, 6, .inl (fun _ => 0))), (b_12, .inl (tc 0, 6, .inl (fun _ => 0)))] H := hP₀
  replace hD : va_D A [(h0, .inr (2, [.ref q_1, .null, .null, .int 0])), (q_1, .inr (9, [.int 0, .int 0, .int 0, .int 0, .int 0, .int 0, .ref b_5, .ref b_6, .ref b_7, .ref b_8, .ref b_9, .ref b_10, .ref b_11, .ref b_12])), (b_5, .inl (tc 0, 10, .inl (fun _ => 0))), (b_6, .inl (tc 0, 10, .inl (fun _ => 0))), (b_7, .inl (tc 0, 6, .inl (fun _ => 0))), (b_8, .inl (tc 0, 6, .inl (fun _ => 0))), (b_9, .inl (tc 0, 6, .inl (fun _ => 0))), (b_10, .inl (tc 0, 6, .inl (fun _ => 0))), (b_11, .inl (tc 0, 6, .inl (fun _ => 0))), (b_12, .inl (tc 0, 6, .inl (fun _ => 0)))] := hD₀
  replace hS := hS₀
  clear hP₀ hD₀ hS₀
  refine lv_aload_n hx hb dX2_init_15 rfl (lv_at hl 0 rfl) ?_
  refine lv_sipush (v := 427) hx hb dX2_init_16 (by decide) ?_
  refine nwA (atype := .int) (a0 := (427, .inl (fun _ => 0))) hx hb (hts _ k_156) rfl hK hP hD hS hA 0 rfl (fun _ => rfl) (by decide) (by decide) (by decide) (Nat.le_of_ble_eq_true rfl) (Nat.le_of_ble_eq_true rfl) dX2_init_19 (fun q_13 H hP₀ hD₀ hS₀ => ?_)
  replace hP : va_P D classes [(h0, .inr (2, [.ref q_1, .null, .null, .int 0])), (q_1, .inr (9, [.int 0, .int 0, .int 0, .int 0, .int 0, .int 0, .ref b_5, .ref b_6, .ref b_7, .ref b_8, .ref b_9, .ref b_10, .ref b_11, .ref b_12])), (b_5, .inl (tc 0, 10, .inl (fun _ => 0))), (b_6, .inl (tc 0, 10, .inl (fun _ => 0))), (b_7, .inl (tc 0, 6, .inl (fun _ => 0))), (b_8, .inl (tc 0, 6, .inl (fun _ => 0))), (b_9, .inl (tc 0, 6, .inl (fun _ => 0))), (b_10, .inl (tc 0, 6, .inl (fun _ => 0))), (b_11, .inl (tc 0, 6, .inl (fun _ => 0))), (b_12, .inl (tc 0, 6, .inl (fun _ => 0))), (q_13, .inl (tc 0, 427, .inl (fun _ => 0)))] H := hP₀
  replace hD : va_D A [(h0, .inr (2, [.ref q_1, .null, .null, .int 0])), (q_1, .inr (9, [.int 0, .int 0, .int 0, .int 0, .int 0, .int 0, .ref b_5, .ref b_6, .ref b_7, .ref b_8, .ref b_9, .ref b_10, .ref b_11, .ref b_12])), (b_5, .inl (tc 0, 10, .inl (fun _ => 0))), (b_6, .inl (tc 0, 10, .inl (fun _ => 0))), (b_7, .inl (tc 0, 6, .inl (fun _ => 0))), (b_8, .inl (tc 0, 6, .inl (fun _ => 0))), (b_9, .inl (tc 0, 6, .inl (fun _ => 0))), (b_10, .inl (tc 0, 6, .inl (fun _ => 0))), (b_11, .inl (tc 0, 6, .inl (fun _ => 0))), (b_12, .inl (tc 0, 6, .inl (fun _ => 0))), (q_13, .inl (tc 0, 427, .inl (fun _ => 0)))] := hD₀
  replace hS := hS₀
  clear hP₀ hD₀ hS₀
  refine pf_X2_18 (ty := (.array .int)) hx hb hts hown hin hK hP hD hS 0 rfl (Nat.le_of_ble_eq_true rfl) (by decide +kernel) rfl rfl dX2_init_21 (fun H locs hP₀ hD₀ hS₀ => ?_)
  replace hP : va_P D classes [(h0, .inr (2, [.ref q_1, .ref q_13, .null, .int 0])), (q_1, .inr (9, [.int 0, .int 0, .int 0, .int 0, .int 0, .int 0, .ref b_5, .ref b_6, .ref b_7, .ref b_8, .ref b_9, .ref b_10, .ref b_11, .ref b_12])), (b_5, .inl (tc 0, 10, .inl (fun _ => 0))), (b_6, .inl (tc 0, 10, .inl (fun _ => 0))), (b_7, .inl (tc 0, 6, .inl (fun _ => 0))), (b_8, .inl (tc 0, 6, .inl (fun _ => 0))), (b_9, .inl (tc 0, 6, .inl (fun _ => 0))), (b_10, .inl (tc 0, 6, .inl (fun _ => 0))), (b_11, .inl (tc 0, 6, .inl (fun _ => 0))), (b_12, .inl (tc 0, 6, .inl (fun _ => 0))), (q_13, .inl (tc 0, 427, .inl (fun _ => 0)))] H := hP₀
  replace hD : va_D A [(h0, .inr (2, [.ref q_1, .ref q_13, .null, .int 0])), (q_1, .inr (9, [.int 0, .int 0, .int 0, .int 0, .int 0, .int 0, .ref b_5, .ref b_6, .ref b_7, .ref b_8, .ref b_9, .ref b_10, .ref b_11, .ref b_12])), (b_5, .inl (tc 0, 10, .inl (fun _ => 0))), (b_6, .inl (tc 0, 10, .inl (fun _ => 0))), (b_7, .inl (tc 0, 6, .inl (fun _ => 0))), (b_8, .inl (tc 0, 6, .inl (fun _ => 0))), (b_9, .inl (tc 0, 6, .inl (fun _ => 0))), (b_10, .inl (tc 0, 6, .inl (fun _ => 0))), (b_11, .inl (tc 0, 6, .inl (fun _ => 0))), (b_12, .inl (tc 0, 6, .inl (fun _ => 0))), (q_13, .inl (tc 0, 427, .inl (fun _ => 0)))] := hD₀
  replace hS := hS₀
  clear hP₀ hD₀ hS₀
  refine lv_aload_n hx hb dX2_init_24 rfl (lv_at hl 0 rfl) ?_
  refine lv_bipush (v := 7) hx hb dX2_init_25 (by decide) ?_
  refine nwA (atype := .boolean) (a0 := (7, .inl (fun _ => 0))) hx hb (hts _ k_405) rfl hK hP hD hS hA 3 rfl (fun _ => rfl) (by decide) (by decide) (by decide) (Nat.le_of_ble_eq_true rfl) (Nat.le_of_ble_eq_true rfl) dX2_init_27 (fun q_14 H hP₀ hD₀ hS₀ => ?_)
  replace hP : va_P D classes [(h0, .inr (2, [.ref q_1, .ref q_13, .null, .int 0])), (q_1, .inr (9, [.int 0, .int 0, .int 0, .int 0, .int 0, .int 0, .ref b_5, .ref b_6, .ref b_7, .ref b_8, .ref b_9, .ref b_10, .ref b_11, .ref b_12])), (b_5, .inl (tc 0, 10, .inl (fun _ => 0))), (b_6, .inl (tc 0, 10, .inl (fun _ => 0))), (b_7, .inl (tc 0, 6, .inl (fun _ => 0))), (b_8, .inl (tc 0, 6, .inl (fun _ => 0))), (b_9, .inl (tc 0, 6, .inl (fun _ => 0))), (b_10, .inl (tc 0, 6, .inl (fun _ => 0))), (b_11, .inl (tc 0, 6, .inl (fun _ => 0))), (b_12, .inl (tc 0, 6, .inl (fun _ => 0))), (q_13, .inl (tc 0, 427, .inl (fun _ => 0))), (q_14, .inl (tc 3, 7, .inl (fun _ => 0)))] H := hP₀
  replace hD : va_D A [(h0, .inr (2, [.ref q_1, .ref q_13, .null, .int 0])), (q_1, .inr (9, [.int 0, .int 0, .int 0, .int 0, .int 0, .int 0, .ref b_5, .ref b_6, .ref b_7, .ref b_8, .ref b_9, .ref b_10, .ref b_11, .ref b_12])), (b_5, .inl (tc 0, 10, .inl (fun _ => 0))), (b_6, .inl (tc 0, 10, .inl (fun _ => 0))), (b_7, .inl (tc 0, 6, .inl (fun _ => 0))), (b_8, .inl (tc 0, 6, .inl (fun _ => 0))), (b_9, .inl (tc 0, 6, .inl (fun _ => 0))), (b_10, .inl (tc 0, 6, .inl (fun _ => 0))), (b_11, .inl (tc 0, 6, .inl (fun _ => 0))), (b_12, .inl (tc 0, 6, .inl (fun _ => 0))), (q_13, .inl (tc 0, 427, .inl (fun _ => 0))), (q_14, .inl (tc 3, 7, .inl (fun _ => 0)))] := hD₀
  replace hS := hS₀
  clear hP₀ hD₀ hS₀
  refine pf_X2_22 (ty := (.array .boolean)) hx hb hts hown hin hK hP hD hS 0 rfl (Nat.le_of_ble_eq_true rfl) (by decide +kernel) rfl rfl dX2_init_29 (fun H locs hP₀ hD₀ hS₀ => ?_)
  replace hP : va_P D classes [(h0, .inr (2, [.ref q_1, .ref q_13, .ref q_14, .int 0])), (q_1, .inr (9, [.int 0, .int 0, .int 0, .int 0, .int 0, .int 0, .ref b_5, .ref b_6, .ref b_7, .ref b_8, .ref b_9, .ref b_10, .ref b_11, .ref b_12])), (b_5, .inl (tc 0, 10, .inl (fun _ => 0))), (b_6, .inl (tc 0, 10, .inl (fun _ => 0))), (b_7, .inl (tc 0, 6, .inl (fun _ => 0))), (b_8, .inl (tc 0, 6, .inl (fun _ => 0))), (b_9, .inl (tc 0, 6, .inl (fun _ => 0))), (b_10, .inl (tc 0, 6, .inl (fun _ => 0))), (b_11, .inl (tc 0, 6, .inl (fun _ => 0))), (b_12, .inl (tc 0, 6, .inl (fun _ => 0))), (q_13, .inl (tc 0, 427, .inl (fun _ => 0))), (q_14, .inl (tc 3, 7, .inl (fun _ => 0)))] H := hP₀
  replace hD : va_D A [(h0, .inr (2, [.ref q_1, .ref q_13, .ref q_14, .int 0])), (q_1, .inr (9, [.int 0, .int 0, .int 0, .int 0, .int 0, .int 0, .ref b_5, .ref b_6, .ref b_7, .ref b_8, .ref b_9, .ref b_10, .ref b_11, .ref b_12])), (b_5, .inl (tc 0, 10, .inl (fun _ => 0))), (b_6, .inl (tc 0, 10, .inl (fun _ => 0))), (b_7, .inl (tc 0, 6, .inl (fun _ => 0))), (b_8, .inl (tc 0, 6, .inl (fun _ => 0))), (b_9, .inl (tc 0, 6, .inl (fun _ => 0))), (b_10, .inl (tc 0, 6, .inl (fun _ => 0))), (b_11, .inl (tc 0, 6, .inl (fun _ => 0))), (b_12, .inl (tc 0, 6, .inl (fun _ => 0))), (q_13, .inl (tc 0, 427, .inl (fun _ => 0))), (q_14, .inl (tc 3, 7, .inl (fun _ => 0)))] := hD₀
  replace hS := hS₀
  clear hP₀ hD₀ hS₀
  refine lv_aload_n hx hb dX2_init_32 rfl (lv_at hl 0 rfl) ?_
  refine lv_iconst (v := 0) hx hb dX2_init_33 (by decide) ?_
  refine pf_X2_26 hx hb hts hown hK hP hD hS 0 rfl (Nat.le_of_ble_eq_true rfl) rfl rfl dX2_init_34 (fun H locs hP₀ hD₀ hS₀ => ?_)
  replace hP : va_P D classes [(h0, .inr (2, [.ref q_1, .ref q_13, .ref q_14, .int 0])), (q_1, .inr (9, [.int 0, .int 0, .int 0, .int 0, .int 0, .int 0, .ref b_5, .ref b_6, .ref b_7, .ref b_8, .ref b_9, .ref b_10, .ref b_11, .ref b_12])), (b_5, .inl (tc 0, 10, .inl (fun _ => 0))), (b_6, .inl (tc 0, 10, .inl (fun _ => 0))), (b_7, .inl (tc 0, 6, .inl (fun _ => 0))), (b_8, .inl (tc 0, 6, .inl (fun _ => 0))), (b_9, .inl (tc 0, 6, .inl (fun _ => 0))), (b_10, .inl (tc 0, 6, .inl (fun _ => 0))), (b_11, .inl (tc 0, 6, .inl (fun _ => 0))), (b_12, .inl (tc 0, 6, .inl (fun _ => 0))), (q_13, .inl (tc 0, 427, .inl (fun _ => 0))), (q_14, .inl (tc 3, 7, .inl (fun _ => 0)))] H := hP₀
  replace hD : va_D A [(h0, .inr (2, [.ref q_1, .ref q_13, .ref q_14, .int 0])), (q_1, .inr (9, [.int 0, .int 0, .int 0, .int 0, .int 0, .int 0, .ref b_5, .ref b_6, .ref b_7, .ref b_8, .ref b_9, .ref b_10, .ref b_11, .ref b_12])), (b_5, .inl (tc 0, 10, .inl (fun _ => 0))), (b_6, .inl (tc 0, 10, .inl (fun _ => 0))), (b_7, .inl (tc 0, 6, .inl (fun _ => 0))), (b_8, .inl (tc 0, 6, .inl (fun _ => 0))), (b_9, .inl (tc 0, 6, .inl (fun _ => 0))), (b_10, .inl (tc 0, 6, .inl (fun _ => 0))), (b_11, .inl (tc 0, 6, .inl (fun _ => 0))), (b_12, .inl (tc 0, 6, .inl (fun _ => 0))), (q_13, .inl (tc 0, 427, .inl (fun _ => 0))), (q_14, .inl (tc 3, 7, .inl (fun _ => 0)))] := hD₀
  replace hS := hS₀
  clear hP₀ hD₀ hS₀
  exact retV hx hb hr hlk hP hD hS (q_1, b_5, b_6, b_7, b_8, b_9, b_10, b_11, b_12, q_13, q_14) rfl [0, 1, 2, 3, 4, 5, 6, 7, 8, 9, 10, 11] rfl rfl dX2_init_37 (Nat.le_of_ble_eq_true rfl) (Nat.le_of_ble_eq_true rfl) rfl
set_option maxHeartbeats 4000000 in
set_option maxRecDepth 100000 in
theorem ct_X6_init (l : Launch) (D : va_G) (tc : Nat → ClassId) (sk : (Nat → Nat) × (Nat → Nat)) (h0 : Nat) (cc1 : Nat)  : Ct l yX6_init cX6_init 2 none { frames := 1, cells := 1, slots := 64, locals := 12 } D tc sk [.ref h0, .ref cc1] [(h0, .inr (6, [.null, .null]))] (fun (v : Option Value) (b1 : Nat) => v = none) (fun (b1 : Nat) => [(h0, .inr (6, [.ref cc1, .ref b1])), (b1, .inl (tc 1, 64, .inr (.inl (fun _ => 0))))]) 1 64 := by
  refine Ct.start (by decide) (Nat.le_of_ble_eq_true rfl) (fun p e s m below meth c A ls hx hb hr hlk hin hml hown hts hK hX hP hD hA hl hS => ?_)
  have hl : lv_has ls 2 [(0, .ref h0), (1, .ref cc1)] := hl
  refine lv_aload_n hx hb dX6_init_0 rfl (lv_at hl 0 rfl) ?_
  refine W.objInit hx hb hown (hts _ k_686) (hts _ k_122) (hts _ k_123) rfl (by rw [hml]; exact hl.1) rfl dX6_init_1 (Nat.le_of_ble_eq_true rfl) (Nat.le_of_ble_eq_true rfl) ?_
  refine W.eq (g2 := F0 m 4 ls []) rfl ?_
  refine lv_aload_n hx hb dX6_init_4 rfl (lv_at hl 0 rfl) ?_
  refine lv_bipush (v := 64) hx hb dX6_init_5 (by decide) ?_
  refine nwA (atype := .long) (a0 := (64, .inr (.inl (fun _ => 0)))) hx hb (hts _ k_364) rfl hK hP hD hS hA 1 rfl (fun _ => rfl) (by decide) (by decide) (by decide) (Nat.le_of_ble_eq_true rfl) (Nat.le_of_ble_eq_true rfl) dX6_init_7 (fun q_1 H hP₀ hD₀ hS₀ => ?_)
  replace hP : va_P D classes [(h0, .inr (6, [.null, .null])), (q_1, .inl (tc 1, 64, .inr (.inl (fun _ => 0))))] H := hP₀
  replace hD : va_D A [(h0, .inr (6, [.null, .null])), (q_1, .inl (tc 1, 64, .inr (.inl (fun _ => 0))))] := hD₀
  replace hS := hS₀
  clear hP₀ hD₀ hS₀
  refine pf_X6_9 (ty := (.array .long)) hx hb hts hown hin hK hP hD hS 0 rfl (Nat.le_of_ble_eq_true rfl) (by decide +kernel) rfl rfl dX6_init_9 (fun H locs hP₀ hD₀ hS₀ => ?_)
  replace hP : va_P D classes [(h0, .inr (6, [.null, .ref q_1])), (q_1, .inl (tc 1, 64, .inr (.inl (fun _ => 0))))] H := hP₀
  replace hD : va_D A [(h0, .inr (6, [.null, .ref q_1])), (q_1, .inl (tc 1, 64, .inr (.inl (fun _ => 0))))] := hD₀
  replace hS := hS₀
  clear hP₀ hD₀ hS₀
  refine lv_aload_n hx hb dX6_init_12 rfl (lv_at hl 0 rfl) ?_
  refine lv_aload_n hx hb dX6_init_13 rfl (lv_at hl 1 rfl) ?_
  refine pf_X6_13 (ty := (.array .int)) hx hb hts hown hin hK hP hD hS 0 rfl (Nat.le_of_ble_eq_true rfl) (by decide +kernel) rfl rfl dX6_init_14 (fun H locs hP₀ hD₀ hS₀ => ?_)
  replace hP : va_P D classes [(h0, .inr (6, [.ref cc1, .ref q_1])), (q_1, .inl (tc 1, 64, .inr (.inl (fun _ => 0))))] H := hP₀
  replace hD : va_D A [(h0, .inr (6, [.ref cc1, .ref q_1])), (q_1, .inl (tc 1, 64, .inr (.inl (fun _ => 0))))] := hD₀
  replace hS := hS₀
  clear hP₀ hD₀ hS₀
  exact retV hx hb hr hlk hP hD hS q_1 rfl [0, 1] rfl rfl dX6_init_17 (Nat.le_of_ble_eq_true rfl) (Nat.le_of_ble_eq_true rfl) rfl
