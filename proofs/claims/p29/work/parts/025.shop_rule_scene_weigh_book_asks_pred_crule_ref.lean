set_option maxRecDepth 16384
theorem imax_f {r x y : Int32} (e : r = if x < y then y else x) : x.toInt ≤ r.toInt ∧ y.toInt ≤ r.toInt ∧ (r.toInt = x.toInt ∨ r.toInt = y.toInt) := by
  by_cases h : x < y
  · rw [if_pos h] at e; subst e; have := Int32.lt_iff_toInt_lt.mp h; omega
  · rw [if_neg h] at e; subst e; have := Int32.le_iff_toInt_le.mp (Int32.not_lt.mp h); omega
theorem dX9_canBuy_0 : decode cX9_canBuy 0 = .ok (.aload_n 0, 1) := by decide +kernel
theorem dX9_canBuy_1 : decode cX9_canBuy 1 = .ok (.iload_n 1, 1) := by decide +kernel
theorem dX9_canBuy_2 : decode cX9_canBuy 2 = .ok (.invokevirtual 61, 3) := by decide +kernel
theorem dX9_canBuy_5 : decode cX9_canBuy 5 = .ok (.ifCond .eq 16, 3) := by decide +kernel
theorem dX9_canBuy_8 : decode cX9_canBuy 8 = .ok (.aload_n 0, 1) := by decide +kernel
theorem dX9_canBuy_9 : decode cX9_canBuy 9 = .ok (.getfield 9, 3) := by decide +kernel
theorem dX9_canBuy_12 : decode cX9_canBuy 12 = .ok (.aload_n 0, 1) := by decide +kernel
theorem dX9_canBuy_13 : decode cX9_canBuy 13 = .ok (.getfield 40, 3) := by decide +kernel
theorem dX9_canBuy_16 : decode cX9_canBuy 16 = .ok (.iload_n 1, 1) := by decide +kernel
theorem dX9_canBuy_17 : decode cX9_canBuy 17 = .ok (.iaload, 1) := by decide +kernel
theorem dX9_canBuy_18 : decode cX9_canBuy 18 = .ok (.if_icmp .ge 5, 3) := by decide +kernel
theorem dX9_canBuy_21 : decode cX9_canBuy 21 = .ok (.iconst 0, 1) := by decide +kernel
theorem dX9_canBuy_22 : decode cX9_canBuy 22 = .ok (.ireturn, 1) := by decide +kernel
theorem dX9_canBuy_23 : decode cX9_canBuy 23 = .ok (.aload_n 0, 1) := by decide +kernel
theorem dX9_canBuy_24 : decode cX9_canBuy 24 = .ok (.getfield 52, 3) := by decide +kernel
theorem dX9_canBuy_27 : decode cX9_canBuy 27 = .ok (.iload_n 1, 1) := by decide +kernel
theorem dX9_canBuy_28 : decode cX9_canBuy 28 = .ok (.iaload, 1) := by decide +kernel
theorem dX9_canBuy_29 : decode cX9_canBuy 29 = .ok (.iconst (-1), 1) := by decide +kernel
theorem dX9_canBuy_30 : decode cX9_canBuy 30 = .ok (.if_icmp .eq 23, 3) := by decide +kernel
theorem dX9_canBuy_33 : decode cX9_canBuy 33 = .ok (.aload_n 0, 1) := by decide +kernel
theorem dX9_canBuy_34 : decode cX9_canBuy 34 = .ok (.getfield 24, 3) := by decide +kernel
theorem dX9_canBuy_37 : decode cX9_canBuy 37 = .ok (.aload_n 0, 1) := by decide +kernel
theorem dX9_canBuy_38 : decode cX9_canBuy 38 = .ok (.getfield 52, 3) := by decide +kernel
theorem dX9_canBuy_41 : decode cX9_canBuy 41 = .ok (.iload_n 1, 1) := by decide +kernel
theorem dX9_canBuy_42 : decode cX9_canBuy 42 = .ok (.iaload, 1) := by decide +kernel
theorem dX9_canBuy_43 : decode cX9_canBuy 43 = .ok (.isub, 1) := by decide +kernel
theorem dX9_canBuy_44 : decode cX9_canBuy 44 = .ok (.aload_n 0, 1) := by decide +kernel
theorem dX9_canBuy_45 : decode cX9_canBuy 45 = .ok (.getfield 43, 3) := by decide +kernel
theorem dX9_canBuy_48 : decode cX9_canBuy 48 = .ok (.iload_n 1, 1) := by decide +kernel
theorem dX9_canBuy_49 : decode cX9_canBuy 49 = .ok (.iaload, 1) := by decide +kernel
theorem dX9_canBuy_50 : decode cX9_canBuy 50 = .ok (.if_icmp .le 7, 3) := by decide +kernel
theorem dX9_canBuy_53 : decode cX9_canBuy 53 = .ok (.iconst 1, 1) := by decide +kernel
theorem dX9_canBuy_54 : decode cX9_canBuy 54 = .ok (.goto 4, 3) := by decide +kernel
theorem dX9_canBuy_57 : decode cX9_canBuy 57 = .ok (.iconst 0, 1) := by decide +kernel
theorem dX9_canBuy_58 : decode cX9_canBuy 58 = .ok (.ireturn, 1) := by decide +kernel
theorem dX9_changeTempers_0 : decode cX9_changeTempers 0 = .ok (.iload_n 1, 1) := by decide +kernel
theorem dX9_changeTempers_1 : decode cX9_changeTempers 1 = .ok (.iconst 5, 1) := by decide +kernel
theorem dX9_changeTempers_2 : decode cX9_changeTempers 2 = .ok (.if_icmp .lt 7, 3) := by decide +kernel
theorem dX9_changeTempers_5 : decode cX9_changeTempers 5 = .ok (.iconst 1, 1) := by decide +kernel
theorem dX9_changeTempers_6 : decode cX9_changeTempers 6 = .ok (.goto 13, 3) := by decide +kernel
theorem dX9_changeTempers_9 : decode cX9_changeTempers 9 = .ok (.iload_n 1, 1) := by decide +kernel
theorem dX9_changeTempers_10 : decode cX9_changeTempers 10 = .ok (.iconst 2, 1) := by decide +kernel
theorem dX9_changeTempers_11 : decode cX9_changeTempers 11 = .ok (.if_icmp .gt 7, 3) := by decide +kernel
theorem dX9_changeTempers_14 : decode cX9_changeTempers 14 = .ok (.iconst (-1), 1) := by decide +kernel
theorem dX9_changeTempers_15 : decode cX9_changeTempers 15 = .ok (.goto 4, 3) := by decide +kernel
theorem dX9_changeTempers_18 : decode cX9_changeTempers 18 = .ok (.iconst 0, 1) := by decide +kernel
theorem dX9_changeTempers_19 : decode cX9_changeTempers 19 = .ok (.istore_n 2, 1) := by decide +kernel
theorem dX9_changeTempers_20 : decode cX9_changeTempers 20 = .ok (.iconst 0, 1) := by decide +kernel
theorem dX9_changeTempers_21 : decode cX9_changeTempers 21 = .ok (.istore_n 3, 1) := by decide +kernel
theorem dX9_changeTempers_22 : decode cX9_changeTempers 22 = .ok (.iload_n 3, 1) := by decide +kernel
theorem dX9_changeTempers_23 : decode cX9_changeTempers 23 = .ok (.aload_n 0, 1) := by decide +kernel
theorem dX9_changeTempers_24 : decode cX9_changeTempers 24 = .ok (.getfield 21, 3) := by decide +kernel
theorem dX9_changeTempers_27 : decode cX9_changeTempers 27 = .ok (.if_icmp .ge 38, 3) := by decide +kernel
theorem dX9_changeTempers_30 : decode cX9_changeTempers 30 = .ok (.iload_n 3, 1) := by decide +kernel
theorem dX9_changeTempers_31 : decode cX9_changeTempers 31 = .ok (.bipush 6, 2) := by decide +kernel
theorem dX9_changeTempers_33 : decode cX9_changeTempers 33 = .ok (.if_icmp .ge 32, 3) := by decide +kernel
theorem dX9_changeTempers_36 : decode cX9_changeTempers 36 = .ok (.aload_n 0, 1) := by decide +kernel
theorem dX9_changeTempers_37 : decode cX9_changeTempers 37 = .ok (.getfield 37, 3) := by decide +kernel
theorem dX9_changeTempers_40 : decode cX9_changeTempers 40 = .ok (.iload_n 3, 1) := by decide +kernel
theorem dX9_changeTempers_41 : decode cX9_changeTempers 41 = .ok (.iconst 0, 1) := by decide +kernel
theorem dX9_changeTempers_42 : decode cX9_changeTempers 42 = .ok (.bipush 20, 2) := by decide +kernel
theorem dX9_changeTempers_44 : decode cX9_changeTempers 44 = .ok (.aload_n 0, 1) := by decide +kernel
theorem dX9_changeTempers_45 : decode cX9_changeTempers 45 = .ok (.getfield 37, 3) := by decide +kernel
theorem dX9_changeTempers_48 : decode cX9_changeTempers 48 = .ok (.iload_n 3, 1) := by decide +kernel
theorem dX9_changeTempers_49 : decode cX9_changeTempers 49 = .ok (.iaload, 1) := by decide +kernel
theorem dX9_changeTempers_50 : decode cX9_changeTempers 50 = .ok (.iload_n 2, 1) := by decide +kernel
theorem dX9_changeTempers_51 : decode cX9_changeTempers 51 = .ok (.iadd, 1) := by decide +kernel
theorem dX9_changeTempers_52 : decode cX9_changeTempers 52 = .ok (.invokestatic 100, 3) := by decide +kernel
theorem dX9_changeTempers_55 : decode cX9_changeTempers 55 = .ok (.invokestatic 78, 3) := by decide +kernel
theorem dX9_changeTempers_58 : decode cX9_changeTempers 58 = .ok (.iastore, 1) := by decide +kernel
theorem dX9_changeTempers_59 : decode cX9_changeTempers 59 = .ok (.iinc 3 1, 3) := by decide +kernel
theorem dX9_changeTempers_62 : decode cX9_changeTempers 62 = .ok (.goto (-40), 3) := by decide +kernel
theorem dX9_changeTempers_65 : decode cX9_changeTempers 65 = .ok (.return_, 1) := by decide +kernel
theorem dX9_clockOn_0 : decode cX9_clockOn 0 = .ok (.aload_n 0, 1) := by decide +kernel
theorem dX9_clockOn_1 : decode cX9_clockOn 1 = .ok (.getfield 18, 3) := by decide +kernel
theorem dX9_clockOn_4 : decode cX9_clockOn 4 = .ok (.ifCond .le 16, 3) := by decide +kernel
theorem dX9_clockOn_7 : decode cX9_clockOn 7 = .ok (.iload_n 1, 1) := by decide +kernel
theorem dX9_clockOn_8 : decode cX9_clockOn 8 = .ok (.ifCond .lt 12, 3) := by decide +kernel
theorem dX9_clockOn_11 : decode cX9_clockOn 11 = .ok (.iload_n 1, 1) := by decide +kernel
theorem dX9_clockOn_12 : decode cX9_clockOn 12 = .ok (.aload_n 0, 1) := by decide +kernel
theorem dX9_clockOn_13 : decode cX9_clockOn 13 = .ok (.getfield 18, 3) := by decide +kernel
theorem dX9_clockOn_16 : decode cX9_clockOn 16 = .ok (.irem, 1) := by decide +kernel
theorem dX9_clockOn_17 : decode cX9_clockOn 17 = .ok (.goto 4, 3) := by decide +kernel
theorem dX9_clockOn_20 : decode cX9_clockOn 20 = .ok (.iconst 0, 1) := by decide +kernel
theorem dX9_clockOn_21 : decode cX9_clockOn 21 = .ok (.ireturn, 1) := by decide +kernel
theorem dX9_copyFrom_0 : decode cX9_copyFrom 0 = .ok (.aload_n 0, 1) := by decide +kernel
theorem dX9_copyFrom_1 : decode cX9_copyFrom 1 = .ok (.aload_n 1, 1) := by decide +kernel
theorem dX9_copyFrom_2 : decode cX9_copyFrom 2 = .ok (.getfield 9, 3) := by decide +kernel
theorem dX9_copyFrom_5 : decode cX9_copyFrom 5 = .ok (.putfield 9, 3) := by decide +kernel
theorem dX9_copyFrom_8 : decode cX9_copyFrom 8 = .ok (.aload_n 0, 1) := by decide +kernel
theorem dX9_copyFrom_9 : decode cX9_copyFrom 9 = .ok (.aload_n 1, 1) := by decide +kernel
theorem dX9_copyFrom_10 : decode cX9_copyFrom 10 = .ok (.getfield 15, 3) := by decide +kernel
theorem dX9_copyFrom_13 : decode cX9_copyFrom 13 = .ok (.putfield 15, 3) := by decide +kernel
theorem dX9_copyFrom_16 : decode cX9_copyFrom 16 = .ok (.aload_n 0, 1) := by decide +kernel
theorem dX9_copyFrom_17 : decode cX9_copyFrom 17 = .ok (.aload_n 1, 1) := by decide +kernel
theorem dX9_copyFrom_18 : decode cX9_copyFrom 18 = .ok (.getfield 18, 3) := by decide +kernel
theorem dX9_copyFrom_21 : decode cX9_copyFrom 21 = .ok (.putfield 18, 3) := by decide +kernel
theorem dX9_copyFrom_24 : decode cX9_copyFrom 24 = .ok (.aload_n 0, 1) := by decide +kernel
theorem dX9_copyFrom_25 : decode cX9_copyFrom 25 = .ok (.aload_n 1, 1) := by decide +kernel
theorem dX9_copyFrom_26 : decode cX9_copyFrom 26 = .ok (.getfield 21, 3) := by decide +kernel
theorem dX9_copyFrom_29 : decode cX9_copyFrom 29 = .ok (.putfield 21, 3) := by decide +kernel
theorem dX9_copyFrom_32 : decode cX9_copyFrom 32 = .ok (.aload_n 0, 1) := by decide +kernel
theorem dX9_copyFrom_33 : decode cX9_copyFrom 33 = .ok (.aload_n 1, 1) := by decide +kernel
theorem dX9_copyFrom_34 : decode cX9_copyFrom 34 = .ok (.getfield 24, 3) := by decide +kernel
theorem dX9_copyFrom_37 : decode cX9_copyFrom 37 = .ok (.putfield 24, 3) := by decide +kernel
theorem dX9_copyFrom_40 : decode cX9_copyFrom 40 = .ok (.aload_n 0, 1) := by decide +kernel
theorem dX9_copyFrom_41 : decode cX9_copyFrom 41 = .ok (.aload_n 1, 1) := by decide +kernel
theorem dX9_copyFrom_42 : decode cX9_copyFrom 42 = .ok (.getfield 27, 3) := by decide +kernel
theorem dX9_copyFrom_45 : decode cX9_copyFrom 45 = .ok (.putfield 27, 3) := by decide +kernel
theorem dX9_copyFrom_48 : decode cX9_copyFrom 48 = .ok (.aload_n 1, 1) := by decide +kernel
theorem dX9_copyFrom_49 : decode cX9_copyFrom 49 = .ok (.getfield 30, 3) := by decide +kernel
theorem dX9_copyFrom_52 : decode cX9_copyFrom 52 = .ok (.iconst 0, 1) := by decide +kernel
theorem dX9_copyFrom_53 : decode cX9_copyFrom 53 = .ok (.aload_n 0, 1) := by decide +kernel
theorem dX9_copyFrom_54 : decode cX9_copyFrom 54 = .ok (.getfield 30, 3) := by decide +kernel
theorem dX9_copyFrom_57 : decode cX9_copyFrom 57 = .ok (.iconst 0, 1) := by decide +kernel
theorem dX9_copyFrom_58 : decode cX9_copyFrom 58 = .ok (.bipush 10, 2) := by decide +kernel
theorem dX9_copyFrom_60 : decode cX9_copyFrom 60 = .ok (.invokestatic 55, 3) := by decide +kernel
theorem dX9_copyFrom_63 : decode cX9_copyFrom 63 = .ok (.aload_n 1, 1) := by decide +kernel
theorem dX9_copyFrom_64 : decode cX9_copyFrom 64 = .ok (.getfield 34, 3) := by decide +kernel
theorem dX9_copyFrom_67 : decode cX9_copyFrom 67 = .ok (.iconst 0, 1) := by decide +kernel
theorem dX9_copyFrom_68 : decode cX9_copyFrom 68 = .ok (.aload_n 0, 1) := by decide +kernel
theorem dX9_copyFrom_69 : decode cX9_copyFrom 69 = .ok (.getfield 34, 3) := by decide +kernel
theorem dX9_copyFrom_72 : decode cX9_copyFrom 72 = .ok (.iconst 0, 1) := by decide +kernel
theorem dX9_copyFrom_73 : decode cX9_copyFrom 73 = .ok (.bipush 10, 2) := by decide +kernel
theorem dX9_copyFrom_75 : decode cX9_copyFrom 75 = .ok (.invokestatic 55, 3) := by decide +kernel
theorem dX9_copyFrom_78 : decode cX9_copyFrom 78 = .ok (.aload_n 1, 1) := by decide +kernel
theorem dX9_copyFrom_79 : decode cX9_copyFrom 79 = .ok (.getfield 37, 3) := by decide +kernel
theorem dX9_copyFrom_82 : decode cX9_copyFrom 82 = .ok (.iconst 0, 1) := by decide +kernel
theorem dX9_copyFrom_83 : decode cX9_copyFrom 83 = .ok (.aload_n 0, 1) := by decide +kernel
theorem dX9_copyFrom_84 : decode cX9_copyFrom 84 = .ok (.getfield 37, 3) := by decide +kernel
theorem dX9_copyFrom_87 : decode cX9_copyFrom 87 = .ok (.iconst 0, 1) := by decide +kernel
theorem dX9_copyFrom_88 : decode cX9_copyFrom 88 = .ok (.bipush 6, 2) := by decide +kernel
theorem dX9_copyFrom_90 : decode cX9_copyFrom 90 = .ok (.invokestatic 55, 3) := by decide +kernel
theorem dX9_copyFrom_93 : decode cX9_copyFrom 93 = .ok (.aload_n 1, 1) := by decide +kernel
theorem dX9_copyFrom_94 : decode cX9_copyFrom 94 = .ok (.getfield 40, 3) := by decide +kernel
theorem dX9_copyFrom_97 : decode cX9_copyFrom 97 = .ok (.iconst 0, 1) := by decide +kernel
theorem dX9_copyFrom_98 : decode cX9_copyFrom 98 = .ok (.aload_n 0, 1) := by decide +kernel
theorem dX9_copyFrom_99 : decode cX9_copyFrom 99 = .ok (.getfield 40, 3) := by decide +kernel
theorem dX9_copyFrom_102 : decode cX9_copyFrom 102 = .ok (.iconst 0, 1) := by decide +kernel
theorem dX9_copyFrom_103 : decode cX9_copyFrom 103 = .ok (.bipush 6, 2) := by decide +kernel
theorem dX9_copyFrom_105 : decode cX9_copyFrom 105 = .ok (.invokestatic 55, 3) := by decide +kernel
theorem dX9_copyFrom_108 : decode cX9_copyFrom 108 = .ok (.aload_n 1, 1) := by decide +kernel
theorem dX9_copyFrom_109 : decode cX9_copyFrom 109 = .ok (.getfield 43, 3) := by decide +kernel
theorem dX9_copyFrom_112 : decode cX9_copyFrom 112 = .ok (.iconst 0, 1) := by decide +kernel
theorem dX9_copyFrom_113 : decode cX9_copyFrom 113 = .ok (.aload_n 0, 1) := by decide +kernel
theorem dX9_copyFrom_114 : decode cX9_copyFrom 114 = .ok (.getfield 43, 3) := by decide +kernel
theorem dX9_copyFrom_117 : decode cX9_copyFrom 117 = .ok (.iconst 0, 1) := by decide +kernel
theorem dX9_copyFrom_118 : decode cX9_copyFrom 118 = .ok (.bipush 6, 2) := by decide +kernel
theorem dX9_copyFrom_120 : decode cX9_copyFrom 120 = .ok (.invokestatic 55, 3) := by decide +kernel
theorem dX9_copyFrom_123 : decode cX9_copyFrom 123 = .ok (.aload_n 1, 1) := by decide +kernel
theorem dX9_copyFrom_124 : decode cX9_copyFrom 124 = .ok (.getfield 46, 3) := by decide +kernel
theorem dX9_copyFrom_127 : decode cX9_copyFrom 127 = .ok (.iconst 0, 1) := by decide +kernel
theorem dX9_copyFrom_128 : decode cX9_copyFrom 128 = .ok (.aload_n 0, 1) := by decide +kernel
theorem dX9_copyFrom_129 : decode cX9_copyFrom 129 = .ok (.getfield 46, 3) := by decide +kernel
theorem dX9_copyFrom_132 : decode cX9_copyFrom 132 = .ok (.iconst 0, 1) := by decide +kernel
theorem dX9_copyFrom_133 : decode cX9_copyFrom 133 = .ok (.bipush 6, 2) := by decide +kernel
theorem dX9_copyFrom_135 : decode cX9_copyFrom 135 = .ok (.invokestatic 55, 3) := by decide +kernel
theorem dX9_copyFrom_138 : decode cX9_copyFrom 138 = .ok (.aload_n 1, 1) := by decide +kernel
theorem dX9_copyFrom_139 : decode cX9_copyFrom 139 = .ok (.getfield 49, 3) := by decide +kernel
theorem dX9_copyFrom_142 : decode cX9_copyFrom 142 = .ok (.iconst 0, 1) := by decide +kernel
theorem dX9_copyFrom_143 : decode cX9_copyFrom 143 = .ok (.aload_n 0, 1) := by decide +kernel
theorem dX9_copyFrom_144 : decode cX9_copyFrom 144 = .ok (.getfield 49, 3) := by decide +kernel
theorem dX9_copyFrom_147 : decode cX9_copyFrom 147 = .ok (.iconst 0, 1) := by decide +kernel
theorem dX9_copyFrom_148 : decode cX9_copyFrom 148 = .ok (.bipush 6, 2) := by decide +kernel
theorem dX9_copyFrom_150 : decode cX9_copyFrom 150 = .ok (.invokestatic 55, 3) := by decide +kernel
theorem dX9_copyFrom_153 : decode cX9_copyFrom 153 = .ok (.aload_n 1, 1) := by decide +kernel
theorem dX9_copyFrom_154 : decode cX9_copyFrom 154 = .ok (.getfield 52, 3) := by decide +kernel
theorem dX9_copyFrom_157 : decode cX9_copyFrom 157 = .ok (.iconst 0, 1) := by decide +kernel
theorem dX9_copyFrom_158 : decode cX9_copyFrom 158 = .ok (.aload_n 0, 1) := by decide +kernel
theorem dX9_copyFrom_159 : decode cX9_copyFrom 159 = .ok (.getfield 52, 3) := by decide +kernel
theorem dX9_copyFrom_162 : decode cX9_copyFrom 162 = .ok (.iconst 0, 1) := by decide +kernel
theorem dX9_copyFrom_163 : decode cX9_copyFrom 163 = .ok (.bipush 6, 2) := by decide +kernel
theorem dX9_copyFrom_165 : decode cX9_copyFrom 165 = .ok (.invokestatic 55, 3) := by decide +kernel
theorem dX9_copyFrom_168 : decode cX9_copyFrom 168 = .ok (.return_, 1) := by decide +kernel
theorem dX9_daysSince_0 : decode cX9_daysSince 0 = .ok (.aload_n 0, 1) := by decide +kernel
theorem dX9_daysSince_1 : decode cX9_daysSince 1 = .ok (.iload_n 1, 1) := by decide +kernel
theorem dX9_daysSince_2 : decode cX9_daysSince 2 = .ok (.invokevirtual 61, 3) := by decide +kernel
theorem dX9_daysSince_5 : decode cX9_daysSince 5 = .ok (.ifCond .eq 13, 3) := by decide +kernel
theorem dX9_daysSince_8 : decode cX9_daysSince 8 = .ok (.aload_n 0, 1) := by decide +kernel
theorem dX9_daysSince_9 : decode cX9_daysSince 9 = .ok (.getfield 52, 3) := by decide +kernel
theorem dX9_daysSince_12 : decode cX9_daysSince 12 = .ok (.iload_n 1, 1) := by decide +kernel
theorem dX9_daysSince_13 : decode cX9_daysSince 13 = .ok (.iaload, 1) := by decide +kernel
theorem dX9_daysSince_14 : decode cX9_daysSince 14 = .ok (.iconst (-1), 1) := by decide +kernel
theorem dX9_daysSince_15 : decode cX9_daysSince 15 = .ok (.if_icmp .ne 8, 3) := by decide +kernel
theorem dX9_daysSince_18 : decode cX9_daysSince 18 = .ok (.bipush 99, 2) := by decide +kernel
theorem dX9_daysSince_20 : decode cX9_daysSince 20 = .ok (.goto 14, 3) := by decide +kernel
theorem dX9_daysSince_23 : decode cX9_daysSince 23 = .ok (.aload_n 0, 1) := by decide +kernel
theorem dX9_daysSince_24 : decode cX9_daysSince 24 = .ok (.getfield 24, 3) := by decide +kernel
theorem dX9_daysSince_27 : decode cX9_daysSince 27 = .ok (.aload_n 0, 1) := by decide +kernel
theorem dX9_daysSince_28 : decode cX9_daysSince 28 = .ok (.getfield 52, 3) := by decide +kernel
theorem dX9_daysSince_31 : decode cX9_daysSince 31 = .ok (.iload_n 1, 1) := by decide +kernel
theorem dX9_daysSince_32 : decode cX9_daysSince 32 = .ok (.iaload, 1) := by decide +kernel
theorem dX9_daysSince_33 : decode cX9_daysSince 33 = .ok (.isub, 1) := by decide +kernel
theorem dX9_daysSince_34 : decode cX9_daysSince 34 = .ok (.ireturn, 1) := by decide +kernel
theorem dX9_handOver_0 : decode cX9_handOver 0 = .ok (.aload_n 0, 1) := by decide +kernel
theorem dX9_handOver_1 : decode cX9_handOver 1 = .ok (.iload_n 1, 1) := by decide +kernel
theorem dX9_handOver_2 : decode cX9_handOver 2 = .ok (.invokevirtual 61, 3) := by decide +kernel
theorem dX9_handOver_5 : decode cX9_handOver 5 = .ok (.ifCond .ne 4, 3) := by decide +kernel
theorem dX9_handOver_8 : decode cX9_handOver 8 = .ok (.return_, 1) := by decide +kernel
theorem dX9_handOver_9 : decode cX9_handOver 9 = .ok (.aload_n 0, 1) := by decide +kernel
theorem dX9_handOver_10 : decode cX9_handOver 10 = .ok (.dup, 1) := by decide +kernel
theorem dX9_handOver_11 : decode cX9_handOver 11 = .ok (.getfield 9, 3) := by decide +kernel
theorem dX9_handOver_14 : decode cX9_handOver 14 = .ok (.aload_n 0, 1) := by decide +kernel
theorem dX9_handOver_15 : decode cX9_handOver 15 = .ok (.getfield 40, 3) := by decide +kernel
theorem dX9_handOver_18 : decode cX9_handOver 18 = .ok (.iload_n 1, 1) := by decide +kernel
theorem dX9_handOver_19 : decode cX9_handOver 19 = .ok (.iaload, 1) := by decide +kernel
theorem dX9_handOver_20 : decode cX9_handOver 20 = .ok (.isub, 1) := by decide +kernel
theorem dX9_handOver_21 : decode cX9_handOver 21 = .ok (.putfield 9, 3) := by decide +kernel
theorem dX9_handOver_24 : decode cX9_handOver 24 = .ok (.aload_n 0, 1) := by decide +kernel
theorem dX9_handOver_25 : decode cX9_handOver 25 = .ok (.getfield 37, 3) := by decide +kernel
theorem dX9_handOver_28 : decode cX9_handOver 28 = .ok (.iload_n 1, 1) := by decide +kernel
theorem dX9_handOver_29 : decode cX9_handOver 29 = .ok (.iconst 0, 1) := by decide +kernel
theorem dX9_handOver_30 : decode cX9_handOver 30 = .ok (.aload_n 0, 1) := by decide +kernel
theorem dX9_handOver_31 : decode cX9_handOver 31 = .ok (.getfield 37, 3) := by decide +kernel
theorem dX9_handOver_34 : decode cX9_handOver 34 = .ok (.iload_n 1, 1) := by decide +kernel
theorem dX9_handOver_35 : decode cX9_handOver 35 = .ok (.iaload, 1) := by decide +kernel
theorem dX9_handOver_36 : decode cX9_handOver 36 = .ok (.bipush 6, 2) := by decide +kernel
theorem dX9_handOver_38 : decode cX9_handOver 38 = .ok (.isub, 1) := by decide +kernel
theorem dX9_handOver_39 : decode cX9_handOver 39 = .ok (.invokestatic 78, 3) := by decide +kernel
theorem dX9_handOver_42 : decode cX9_handOver 42 = .ok (.iastore, 1) := by decide +kernel
theorem dX9_handOver_43 : decode cX9_handOver 43 = .ok (.aload_n 0, 1) := by decide +kernel
theorem dX9_handOver_44 : decode cX9_handOver 44 = .ok (.getfield 46, 3) := by decide +kernel
theorem dX9_handOver_47 : decode cX9_handOver 47 = .ok (.iload_n 1, 1) := by decide +kernel
theorem dX9_handOver_48 : decode cX9_handOver 48 = .ok (.dup2, 1) := by decide +kernel
theorem dX9_handOver_49 : decode cX9_handOver 49 = .ok (.iaload, 1) := by decide +kernel
theorem dX9_handOver_50 : decode cX9_handOver 50 = .ok (.aload_n 0, 1) := by decide +kernel
theorem dX9_handOver_51 : decode cX9_handOver 51 = .ok (.getfield 40, 3) := by decide +kernel
theorem dX9_handOver_54 : decode cX9_handOver 54 = .ok (.iload_n 1, 1) := by decide +kernel
theorem dX9_handOver_55 : decode cX9_handOver 55 = .ok (.iaload, 1) := by decide +kernel
theorem dX9_handOver_56 : decode cX9_handOver 56 = .ok (.iadd, 1) := by decide +kernel
theorem dX9_handOver_57 : decode cX9_handOver 57 = .ok (.iastore, 1) := by decide +kernel
theorem dX9_handOver_58 : decode cX9_handOver 58 = .ok (.aload_n 0, 1) := by decide +kernel
theorem dX9_handOver_59 : decode cX9_handOver 59 = .ok (.dup, 1) := by decide +kernel
theorem dX9_handOver_60 : decode cX9_handOver 60 = .ok (.getfield 27, 3) := by decide +kernel
theorem dX9_handOver_63 : decode cX9_handOver 63 = .ok (.aload_n 0, 1) := by decide +kernel
theorem dX9_handOver_64 : decode cX9_handOver 64 = .ok (.getfield 40, 3) := by decide +kernel
theorem dX9_handOver_67 : decode cX9_handOver 67 = .ok (.iload_n 1, 1) := by decide +kernel
theorem dX9_handOver_68 : decode cX9_handOver 68 = .ok (.iaload, 1) := by decide +kernel
theorem dX9_handOver_69 : decode cX9_handOver 69 = .ok (.iadd, 1) := by decide +kernel
theorem dX9_handOver_70 : decode cX9_handOver 70 = .ok (.putfield 27, 3) := by decide +kernel
theorem dX9_handOver_73 : decode cX9_handOver 73 = .ok (.aload_n 0, 1) := by decide +kernel
theorem dX9_handOver_74 : decode cX9_handOver 74 = .ok (.getfield 52, 3) := by decide +kernel
theorem dX9_handOver_77 : decode cX9_handOver 77 = .ok (.iload_n 1, 1) := by decide +kernel
theorem dX9_handOver_78 : decode cX9_handOver 78 = .ok (.aload_n 0, 1) := by decide +kernel
theorem dX9_handOver_79 : decode cX9_handOver 79 = .ok (.getfield 24, 3) := by decide +kernel
theorem dX9_handOver_82 : decode cX9_handOver 82 = .ok (.iastore, 1) := by decide +kernel
theorem dX9_handOver_83 : decode cX9_handOver 83 = .ok (.return_, 1) := by decide +kernel
theorem dX9_hasBuyer_0 : decode cX9_hasBuyer 0 = .ok (.iload_n 1, 1) := by decide +kernel
theorem dX9_hasBuyer_1 : decode cX9_hasBuyer 1 = .ok (.ifCond .lt 21, 3) := by decide +kernel
theorem dX9_hasBuyer_4 : decode cX9_hasBuyer 4 = .ok (.iload_n 1, 1) := by decide +kernel
theorem dX9_hasBuyer_5 : decode cX9_hasBuyer 5 = .ok (.aload_n 0, 1) := by decide +kernel
theorem dX9_hasBuyer_6 : decode cX9_hasBuyer 6 = .ok (.getfield 21, 3) := by decide +kernel
theorem dX9_hasBuyer_9 : decode cX9_hasBuyer 9 = .ok (.if_icmp .ge 13, 3) := by decide +kernel
theorem dX9_hasBuyer_12 : decode cX9_hasBuyer 12 = .ok (.iload_n 1, 1) := by decide +kernel
theorem dX9_hasBuyer_13 : decode cX9_hasBuyer 13 = .ok (.bipush 6, 2) := by decide +kernel
theorem dX9_hasBuyer_15 : decode cX9_hasBuyer 15 = .ok (.if_icmp .ge 7, 3) := by decide +kernel
theorem dX9_hasBuyer_18 : decode cX9_hasBuyer 18 = .ok (.iconst 1, 1) := by decide +kernel
theorem dX9_hasBuyer_19 : decode cX9_hasBuyer 19 = .ok (.goto 4, 3) := by decide +kernel
theorem dX9_hasBuyer_22 : decode cX9_hasBuyer 22 = .ok (.iconst 0, 1) := by decide +kernel
theorem dX9_hasBuyer_23 : decode cX9_hasBuyer 23 = .ok (.ireturn, 1) := by decide +kernel
theorem dX9_hasClock_0 : decode cX9_hasClock 0 = .ok (.iload_n 1, 1) := by decide +kernel
theorem dX9_hasClock_1 : decode cX9_hasClock 1 = .ok (.ifCond .lt 21, 3) := by decide +kernel
theorem dX9_hasClock_4 : decode cX9_hasClock 4 = .ok (.iload_n 1, 1) := by decide +kernel
theorem dX9_hasClock_5 : decode cX9_hasClock 5 = .ok (.aload_n 0, 1) := by decide +kernel
theorem dX9_hasClock_6 : decode cX9_hasClock 6 = .ok (.getfield 18, 3) := by decide +kernel
theorem dX9_hasClock_9 : decode cX9_hasClock 9 = .ok (.if_icmp .ge 13, 3) := by decide +kernel
theorem dX9_hasClock_12 : decode cX9_hasClock 12 = .ok (.iload_n 1, 1) := by decide +kernel
theorem dX9_hasClock_13 : decode cX9_hasClock 13 = .ok (.bipush 10, 2) := by decide +kernel
theorem dX9_hasClock_15 : decode cX9_hasClock 15 = .ok (.if_icmp .ge 7, 3) := by decide +kernel
theorem dX9_hasClock_18 : decode cX9_hasClock 18 = .ok (.iconst 1, 1) := by decide +kernel
theorem dX9_hasClock_19 : decode cX9_hasClock 19 = .ok (.goto 4, 3) := by decide +kernel
theorem dX9_hasClock_22 : decode cX9_hasClock 22 = .ok (.iconst 0, 1) := by decide +kernel
theorem dX9_hasClock_23 : decode cX9_hasClock 23 = .ok (.ireturn, 1) := by decide +kernel
theorem dX9_isTold_0 : decode cX9_isTold 0 = .ok (.aload_n 0, 1) := by decide +kernel
theorem dX9_isTold_1 : decode cX9_isTold 1 = .ok (.getfield 18, 3) := by decide +kernel
theorem dX9_isTold_4 : decode cX9_isTold 4 = .ok (.ifCond .le 7, 3) := by decide +kernel
theorem dX9_isTold_7 : decode cX9_isTold 7 = .ok (.iconst 1, 1) := by decide +kernel
theorem dX9_isTold_8 : decode cX9_isTold 8 = .ok (.goto 4, 3) := by decide +kernel
theorem dX9_isTold_11 : decode cX9_isTold 11 = .ok (.iconst 0, 1) := by decide +kernel
theorem dX9_isTold_12 : decode cX9_isTold 12 = .ok (.ireturn, 1) := by decide +kernel
theorem dX9_stillOn_0 : decode cX9_stillOn 0 = .ok (.aload_n 0, 1) := by decide +kernel
theorem dX9_stillOn_1 : decode cX9_stillOn 1 = .ok (.getfield 18, 3) := by decide +kernel
theorem dX9_stillOn_4 : decode cX9_stillOn 4 = .ok (.ifCond .le 7, 3) := by decide +kernel
theorem dX9_stillOn_7 : decode cX9_stillOn 7 = .ok (.iload_n 1, 1) := by decide +kernel
theorem dX9_stillOn_8 : decode cX9_stillOn 8 = .ok (.ifCond .ge 5, 3) := by decide +kernel
theorem dX9_stillOn_11 : decode cX9_stillOn 11 = .ok (.iconst 0, 1) := by decide +kernel
theorem dX9_stillOn_12 : decode cX9_stillOn 12 = .ok (.ireturn, 1) := by decide +kernel
theorem dX9_stillOn_13 : decode cX9_stillOn 13 = .ok (.iload_n 1, 1) := by decide +kernel
theorem dX9_stillOn_14 : decode cX9_stillOn 14 = .ok (.aload_n 0, 1) := by decide +kernel
theorem dX9_stillOn_15 : decode cX9_stillOn 15 = .ok (.getfield 18, 3) := by decide +kernel
theorem dX9_stillOn_18 : decode cX9_stillOn 18 = .ok (.irem, 1) := by decide +kernel
theorem dX9_stillOn_19 : decode cX9_stillOn 19 = .ok (.istore_n 2, 1) := by decide +kernel
theorem dX9_stillOn_20 : decode cX9_stillOn 20 = .ok (.iload_n 2, 1) := by decide +kernel
theorem dX9_stillOn_21 : decode cX9_stillOn 21 = .ok (.bipush 10, 2) := by decide +kernel
theorem dX9_stillOn_23 : decode cX9_stillOn 23 = .ok (.if_icmp .ge 12, 3) := by decide +kernel
theorem dX9_stillOn_26 : decode cX9_stillOn 26 = .ok (.aload_n 0, 1) := by decide +kernel
theorem dX9_stillOn_27 : decode cX9_stillOn 27 = .ok (.getfield 30, 3) := by decide +kernel
theorem dX9_stillOn_30 : decode cX9_stillOn 30 = .ok (.iload_n 2, 1) := by decide +kernel
theorem dX9_stillOn_31 : decode cX9_stillOn 31 = .ok (.iaload, 1) := by decide +kernel
theorem dX9_stillOn_32 : decode cX9_stillOn 32 = .ok (.goto 4, 3) := by decide +kernel
theorem dX9_stillOn_35 : decode cX9_stillOn 35 = .ok (.iconst 0, 1) := by decide +kernel
theorem dX9_stillOn_36 : decode cX9_stillOn 36 = .ok (.ireturn, 1) := by decide +kernel
theorem dX9_wordOf_0 : decode cX9_wordOf 0 = .ok (.aload_n 0, 1) := by decide +kernel
theorem dX9_wordOf_1 : decode cX9_wordOf 1 = .ok (.iload_n 2, 1) := by decide +kernel
theorem dX9_wordOf_2 : decode cX9_wordOf 2 = .ok (.invokevirtual 61, 3) := by decide +kernel
theorem dX9_wordOf_5 : decode cX9_wordOf 5 = .ok (.ifCond .ne 5, 3) := by decide +kernel
theorem dX9_wordOf_8 : decode cX9_wordOf 8 = .ok (.lconst 0, 1) := by decide +kernel
theorem dX9_wordOf_9 : decode cX9_wordOf 9 = .ok (.lreturn, 1) := by decide +kernel
theorem dX9_wordOf_10 : decode cX9_wordOf 10 = .ok (.iload_n 1, 1) := by decide +kernel
theorem dX9_wordOf_11 : decode cX9_wordOf 11 = .ok (.tableswitch 155 0 11 #[61, 64, 72, 80, 88, 98, 110, 116, 124, 132, 139, 145], 61) := by decide +kernel
theorem dX9_wordOf_72 : decode cX9_wordOf 72 = .ok (.iload_n 2, 1) := by decide +kernel
theorem dX9_wordOf_73 : decode cX9_wordOf 73 = .ok (.i2l, 1) := by decide +kernel
theorem dX9_wordOf_74 : decode cX9_wordOf 74 = .ok (.lreturn, 1) := by decide +kernel
theorem dX9_wordOf_75 : decode cX9_wordOf 75 = .ok (.aload_n 0, 1) := by decide +kernel
theorem dX9_wordOf_76 : decode cX9_wordOf 76 = .ok (.getfield 37, 3) := by decide +kernel
theorem dX9_wordOf_79 : decode cX9_wordOf 79 = .ok (.iload_n 2, 1) := by decide +kernel
theorem dX9_wordOf_80 : decode cX9_wordOf 80 = .ok (.iaload, 1) := by decide +kernel
theorem dX9_wordOf_81 : decode cX9_wordOf 81 = .ok (.i2l, 1) := by decide +kernel
theorem dX9_wordOf_82 : decode cX9_wordOf 82 = .ok (.lreturn, 1) := by decide +kernel
theorem dX9_wordOf_83 : decode cX9_wordOf 83 = .ok (.aload_n 0, 1) := by decide +kernel
theorem dX9_wordOf_84 : decode cX9_wordOf 84 = .ok (.getfield 40, 3) := by decide +kernel
theorem dX9_wordOf_87 : decode cX9_wordOf 87 = .ok (.iload_n 2, 1) := by decide +kernel
theorem dX9_wordOf_88 : decode cX9_wordOf 88 = .ok (.iaload, 1) := by decide +kernel
theorem dX9_wordOf_89 : decode cX9_wordOf 89 = .ok (.i2l, 1) := by decide +kernel
theorem dX9_wordOf_90 : decode cX9_wordOf 90 = .ok (.lreturn, 1) := by decide +kernel
theorem dX9_wordOf_91 : decode cX9_wordOf 91 = .ok (.aload_n 0, 1) := by decide +kernel
theorem dX9_wordOf_92 : decode cX9_wordOf 92 = .ok (.getfield 43, 3) := by decide +kernel
theorem dX9_wordOf_95 : decode cX9_wordOf 95 = .ok (.iload_n 2, 1) := by decide +kernel
theorem dX9_wordOf_96 : decode cX9_wordOf 96 = .ok (.iaload, 1) := by decide +kernel
theorem dX9_wordOf_97 : decode cX9_wordOf 97 = .ok (.i2l, 1) := by decide +kernel
theorem dX9_wordOf_98 : decode cX9_wordOf 98 = .ok (.lreturn, 1) := by decide +kernel
theorem dX9_wordOf_99 : decode cX9_wordOf 99 = .ok (.aload_n 0, 1) := by decide +kernel
theorem dX9_wordOf_100 : decode cX9_wordOf 100 = .ok (.aload_n 0, 1) := by decide +kernel
theorem dX9_wordOf_101 : decode cX9_wordOf 101 = .ok (.getfield 24, 3) := by decide +kernel
theorem dX9_wordOf_104 : decode cX9_wordOf 104 = .ok (.invokevirtual 68, 3) := by decide +kernel
theorem dX9_wordOf_107 : decode cX9_wordOf 107 = .ok (.i2l, 1) := by decide +kernel
theorem dX9_wordOf_108 : decode cX9_wordOf 108 = .ok (.lreturn, 1) := by decide +kernel
theorem dX9_wordOf_109 : decode cX9_wordOf 109 = .ok (.aload_n 0, 1) := by decide +kernel
theorem dX9_wordOf_110 : decode cX9_wordOf 110 = .ok (.aload_n 0, 1) := by decide +kernel
theorem dX9_wordOf_111 : decode cX9_wordOf 111 = .ok (.getfield 24, 3) := by decide +kernel
theorem dX9_wordOf_114 : decode cX9_wordOf 114 = .ok (.iconst 1, 1) := by decide +kernel
theorem dX9_wordOf_115 : decode cX9_wordOf 115 = .ok (.iadd, 1) := by decide +kernel
theorem dX9_wordOf_116 : decode cX9_wordOf 116 = .ok (.invokevirtual 68, 3) := by decide +kernel
theorem dX9_wordOf_119 : decode cX9_wordOf 119 = .ok (.i2l, 1) := by decide +kernel
theorem dX9_wordOf_120 : decode cX9_wordOf 120 = .ok (.lreturn, 1) := by decide +kernel
theorem dX9_wordOf_121 : decode cX9_wordOf 121 = .ok (.aload_n 0, 1) := by decide +kernel
theorem dX9_wordOf_122 : decode cX9_wordOf 122 = .ok (.getfield 9, 3) := by decide +kernel
theorem dX9_wordOf_125 : decode cX9_wordOf 125 = .ok (.i2l, 1) := by decide +kernel
theorem dX9_wordOf_126 : decode cX9_wordOf 126 = .ok (.lreturn, 1) := by decide +kernel
theorem dX9_wordOf_127 : decode cX9_wordOf 127 = .ok (.aload_n 0, 1) := by decide +kernel
theorem dX9_wordOf_128 : decode cX9_wordOf 128 = .ok (.getfield 46, 3) := by decide +kernel
theorem dX9_wordOf_131 : decode cX9_wordOf 131 = .ok (.iload_n 2, 1) := by decide +kernel
theorem dX9_wordOf_132 : decode cX9_wordOf 132 = .ok (.iaload, 1) := by decide +kernel
theorem dX9_wordOf_133 : decode cX9_wordOf 133 = .ok (.i2l, 1) := by decide +kernel
theorem dX9_wordOf_134 : decode cX9_wordOf 134 = .ok (.lreturn, 1) := by decide +kernel
theorem dX9_wordOf_135 : decode cX9_wordOf 135 = .ok (.aload_n 0, 1) := by decide +kernel
theorem dX9_wordOf_136 : decode cX9_wordOf 136 = .ok (.getfield 49, 3) := by decide +kernel
theorem dX9_wordOf_139 : decode cX9_wordOf 139 = .ok (.iload_n 2, 1) := by decide +kernel
theorem dX9_wordOf_140 : decode cX9_wordOf 140 = .ok (.iaload, 1) := by decide +kernel
theorem dX9_wordOf_141 : decode cX9_wordOf 141 = .ok (.i2l, 1) := by decide +kernel
theorem dX9_wordOf_142 : decode cX9_wordOf 142 = .ok (.lreturn, 1) := by decide +kernel
theorem dX9_wordOf_143 : decode cX9_wordOf 143 = .ok (.aload_n 0, 1) := by decide +kernel
theorem dX9_wordOf_144 : decode cX9_wordOf 144 = .ok (.iload_n 2, 1) := by decide +kernel
theorem dX9_wordOf_145 : decode cX9_wordOf 145 = .ok (.invokevirtual 72, 3) := by decide +kernel
theorem dX9_wordOf_148 : decode cX9_wordOf 148 = .ok (.i2l, 1) := by decide +kernel
theorem dX9_wordOf_149 : decode cX9_wordOf 149 = .ok (.lreturn, 1) := by decide +kernel
theorem dX9_wordOf_150 : decode cX9_wordOf 150 = .ok (.aload_n 0, 1) := by decide +kernel
theorem dX9_wordOf_151 : decode cX9_wordOf 151 = .ok (.getfield 27, 3) := by decide +kernel
theorem dX9_wordOf_154 : decode cX9_wordOf 154 = .ok (.i2l, 1) := by decide +kernel
theorem dX9_wordOf_155 : decode cX9_wordOf 155 = .ok (.lreturn, 1) := by decide +kernel
theorem dX9_wordOf_156 : decode cX9_wordOf 156 = .ok (.aload_n 0, 1) := by decide +kernel
theorem dX9_wordOf_157 : decode cX9_wordOf 157 = .ok (.aload_n 0, 1) := by decide +kernel
theorem dX9_wordOf_158 : decode cX9_wordOf 158 = .ok (.getfield 24, 3) := by decide +kernel
theorem dX9_wordOf_161 : decode cX9_wordOf 161 = .ok (.invokevirtual 75, 3) := by decide +kernel
theorem dX9_wordOf_164 : decode cX9_wordOf 164 = .ok (.i2l, 1) := by decide +kernel
theorem dX9_wordOf_165 : decode cX9_wordOf 165 = .ok (.lreturn, 1) := by decide +kernel
theorem dX9_wordOf_166 : decode cX9_wordOf 166 = .ok (.aload_n 0, 1) := by decide +kernel
theorem dX9_wordOf_167 : decode cX9_wordOf 167 = .ok (.getfield 24, 3) := by decide +kernel
theorem dX9_wordOf_170 : decode cX9_wordOf 170 = .ok (.i2l, 1) := by decide +kernel
theorem dX9_wordOf_171 : decode cX9_wordOf 171 = .ok (.lreturn, 1) := by decide +kernel
theorem dX6_holds_0 : decode cX6_holds 0 = .ok (.iload_n 0, 1) := by decide +kernel
theorem dX6_holds_1 : decode cX6_holds 1 = .ok (.tableswitch 139 (-11) (-5) #[127, 115, 103, 91, 79, 61, 43], 43) := by decide +kernel
theorem dX6_holds_44 : decode cX6_holds 44 = .ok (.lload_n 1, 1) := by decide +kernel
theorem dX6_holds_45 : decode cX6_holds 45 = .ok (.lconst 0, 1) := by decide +kernel
theorem dX6_holds_46 : decode cX6_holds 46 = .ok (.lcmp, 1) := by decide +kernel
theorem dX6_holds_47 : decode cX6_holds 47 = .ok (.ifCond .eq 13, 3) := by decide +kernel
theorem dX6_holds_50 : decode cX6_holds 50 = .ok (.lload_n 3, 1) := by decide +kernel
theorem dX6_holds_51 : decode cX6_holds 51 = .ok (.lconst 0, 1) := by decide +kernel
theorem dX6_holds_52 : decode cX6_holds 52 = .ok (.lcmp, 1) := by decide +kernel
theorem dX6_holds_53 : decode cX6_holds 53 = .ok (.ifCond .eq 7, 3) := by decide +kernel
theorem dX6_holds_56 : decode cX6_holds 56 = .ok (.iconst 1, 1) := by decide +kernel
theorem dX6_holds_57 : decode cX6_holds 57 = .ok (.goto 4, 3) := by decide +kernel
theorem dX6_holds_60 : decode cX6_holds 60 = .ok (.iconst 0, 1) := by decide +kernel
theorem dX6_holds_61 : decode cX6_holds 61 = .ok (.ireturn, 1) := by decide +kernel
theorem dX6_holds_62 : decode cX6_holds 62 = .ok (.lload_n 1, 1) := by decide +kernel
theorem dX6_holds_63 : decode cX6_holds 63 = .ok (.lconst 0, 1) := by decide +kernel
theorem dX6_holds_64 : decode cX6_holds 64 = .ok (.lcmp, 1) := by decide +kernel
theorem dX6_holds_65 : decode cX6_holds 65 = .ok (.ifCond .ne 9, 3) := by decide +kernel
theorem dX6_holds_68 : decode cX6_holds 68 = .ok (.lload_n 3, 1) := by decide +kernel
theorem dX6_holds_69 : decode cX6_holds 69 = .ok (.lconst 0, 1) := by decide +kernel
theorem dX6_holds_70 : decode cX6_holds 70 = .ok (.lcmp, 1) := by decide +kernel
theorem dX6_holds_71 : decode cX6_holds 71 = .ok (.ifCond .eq 7, 3) := by decide +kernel
theorem dX6_holds_74 : decode cX6_holds 74 = .ok (.iconst 1, 1) := by decide +kernel
theorem dX6_holds_75 : decode cX6_holds 75 = .ok (.goto 4, 3) := by decide +kernel
theorem dX6_holds_78 : decode cX6_holds 78 = .ok (.iconst 0, 1) := by decide +kernel
theorem dX6_holds_79 : decode cX6_holds 79 = .ok (.ireturn, 1) := by decide +kernel
theorem dX6_holds_80 : decode cX6_holds 80 = .ok (.lload_n 1, 1) := by decide +kernel
theorem dX6_holds_81 : decode cX6_holds 81 = .ok (.lload_n 3, 1) := by decide +kernel
theorem dX6_holds_82 : decode cX6_holds 82 = .ok (.lcmp, 1) := by decide +kernel
theorem dX6_holds_83 : decode cX6_holds 83 = .ok (.ifCond .ge 7, 3) := by decide +kernel
theorem dX6_holds_86 : decode cX6_holds 86 = .ok (.iconst 1, 1) := by decide +kernel
theorem dX6_holds_87 : decode cX6_holds 87 = .ok (.goto 4, 3) := by decide +kernel
theorem dX6_holds_90 : decode cX6_holds 90 = .ok (.iconst 0, 1) := by decide +kernel
theorem dX6_holds_91 : decode cX6_holds 91 = .ok (.ireturn, 1) := by decide +kernel
theorem dX6_holds_92 : decode cX6_holds 92 = .ok (.lload_n 1, 1) := by decide +kernel
theorem dX6_holds_93 : decode cX6_holds 93 = .ok (.lload_n 3, 1) := by decide +kernel
theorem dX6_holds_94 : decode cX6_holds 94 = .ok (.lcmp, 1) := by decide +kernel
theorem dX6_holds_95 : decode cX6_holds 95 = .ok (.ifCond .gt 7, 3) := by decide +kernel
theorem dX6_holds_98 : decode cX6_holds 98 = .ok (.iconst 1, 1) := by decide +kernel
theorem dX6_holds_99 : decode cX6_holds 99 = .ok (.goto 4, 3) := by decide +kernel
theorem dX6_holds_102 : decode cX6_holds 102 = .ok (.iconst 0, 1) := by decide +kernel
theorem dX6_holds_103 : decode cX6_holds 103 = .ok (.ireturn, 1) := by decide +kernel
theorem dX6_holds_104 : decode cX6_holds 104 = .ok (.lload_n 1, 1) := by decide +kernel
theorem dX6_holds_105 : decode cX6_holds 105 = .ok (.lload_n 3, 1) := by decide +kernel
theorem dX6_holds_106 : decode cX6_holds 106 = .ok (.lcmp, 1) := by decide +kernel
theorem dX6_holds_107 : decode cX6_holds 107 = .ok (.ifCond .ne 7, 3) := by decide +kernel
theorem dX6_holds_110 : decode cX6_holds 110 = .ok (.iconst 1, 1) := by decide +kernel
theorem dX6_holds_111 : decode cX6_holds 111 = .ok (.goto 4, 3) := by decide +kernel
theorem dX6_holds_114 : decode cX6_holds 114 = .ok (.iconst 0, 1) := by decide +kernel
theorem dX6_holds_115 : decode cX6_holds 115 = .ok (.ireturn, 1) := by decide +kernel
theorem dX6_holds_116 : decode cX6_holds 116 = .ok (.lload_n 1, 1) := by decide +kernel
theorem dX6_holds_117 : decode cX6_holds 117 = .ok (.lload_n 3, 1) := by decide +kernel
theorem dX6_holds_118 : decode cX6_holds 118 = .ok (.lcmp, 1) := by decide +kernel
theorem dX6_holds_119 : decode cX6_holds 119 = .ok (.ifCond .lt 7, 3) := by decide +kernel
theorem dX6_holds_122 : decode cX6_holds 122 = .ok (.iconst 1, 1) := by decide +kernel
theorem dX6_holds_123 : decode cX6_holds 123 = .ok (.goto 4, 3) := by decide +kernel
theorem dX6_holds_126 : decode cX6_holds 126 = .ok (.iconst 0, 1) := by decide +kernel
theorem dX6_holds_127 : decode cX6_holds 127 = .ok (.ireturn, 1) := by decide +kernel
theorem dX6_holds_128 : decode cX6_holds 128 = .ok (.lload_n 1, 1) := by decide +kernel
theorem dX6_holds_129 : decode cX6_holds 129 = .ok (.lload_n 3, 1) := by decide +kernel
theorem dX6_holds_130 : decode cX6_holds 130 = .ok (.lcmp, 1) := by decide +kernel
theorem dX6_holds_131 : decode cX6_holds 131 = .ok (.ifCond .le 7, 3) := by decide +kernel
theorem dX6_holds_134 : decode cX6_holds 134 = .ok (.iconst 1, 1) := by decide +kernel
theorem dX6_holds_135 : decode cX6_holds 135 = .ok (.goto 4, 3) := by decide +kernel
theorem dX6_holds_138 : decode cX6_holds 138 = .ok (.iconst 0, 1) := by decide +kernel
theorem dX6_holds_139 : decode cX6_holds 139 = .ok (.ireturn, 1) := by decide +kernel
theorem dX6_holds_140 : decode cX6_holds 140 = .ok (.iconst 0, 1) := by decide +kernel
theorem dX6_holds_141 : decode cX6_holds 141 = .ok (.ireturn, 1) := by decide +kernel
theorem dX6_joined_0 : decode cX6_joined 0 = .ok (.iload_n 0, 1) := by decide +kernel
theorem dX6_joined_1 : decode cX6_joined 1 = .ok (.tableswitch 75 (-16) (-12) #[61, 47, 43, 39, 35], 35) := by decide +kernel
theorem dX6_joined_36 : decode cX6_joined 36 = .ok (.lload_n 1, 1) := by decide +kernel
theorem dX6_joined_37 : decode cX6_joined 37 = .ok (.lload_n 3, 1) := by decide +kernel
theorem dX6_joined_38 : decode cX6_joined 38 = .ok (.ladd, 1) := by decide +kernel
theorem dX6_joined_39 : decode cX6_joined 39 = .ok (.lreturn, 1) := by decide +kernel
theorem dX6_joined_40 : decode cX6_joined 40 = .ok (.lload_n 1, 1) := by decide +kernel
theorem dX6_joined_41 : decode cX6_joined 41 = .ok (.lload_n 3, 1) := by decide +kernel
theorem dX6_joined_42 : decode cX6_joined 42 = .ok (.lsub, 1) := by decide +kernel
theorem dX6_joined_43 : decode cX6_joined 43 = .ok (.lreturn, 1) := by decide +kernel
theorem dX6_joined_44 : decode cX6_joined 44 = .ok (.lload_n 1, 1) := by decide +kernel
theorem dX6_joined_45 : decode cX6_joined 45 = .ok (.lload_n 3, 1) := by decide +kernel
theorem dX6_joined_46 : decode cX6_joined 46 = .ok (.lmul, 1) := by decide +kernel
theorem dX6_joined_47 : decode cX6_joined 47 = .ok (.lreturn, 1) := by decide +kernel
theorem dX6_joined_48 : decode cX6_joined 48 = .ok (.lload_n 3, 1) := by decide +kernel
theorem dX6_joined_49 : decode cX6_joined 49 = .ok (.lconst 0, 1) := by decide +kernel
theorem dX6_joined_50 : decode cX6_joined 50 = .ok (.lcmp, 1) := by decide +kernel
theorem dX6_joined_51 : decode cX6_joined 51 = .ok (.ifCond .ne 7, 3) := by decide +kernel
theorem dX6_joined_54 : decode cX6_joined 54 = .ok (.lconst 0, 1) := by decide +kernel
theorem dX6_joined_55 : decode cX6_joined 55 = .ok (.goto 6, 3) := by decide +kernel
theorem dX6_joined_58 : decode cX6_joined 58 = .ok (.lload_n 1, 1) := by decide +kernel
theorem dX6_joined_59 : decode cX6_joined 59 = .ok (.lload_n 3, 1) := by decide +kernel
theorem dX6_joined_60 : decode cX6_joined 60 = .ok (.ldiv, 1) := by decide +kernel
theorem dX6_joined_61 : decode cX6_joined 61 = .ok (.lreturn, 1) := by decide +kernel
theorem dX6_joined_62 : decode cX6_joined 62 = .ok (.lload_n 3, 1) := by decide +kernel
theorem dX6_joined_63 : decode cX6_joined 63 = .ok (.lconst 0, 1) := by decide +kernel
theorem dX6_joined_64 : decode cX6_joined 64 = .ok (.lcmp, 1) := by decide +kernel
theorem dX6_joined_65 : decode cX6_joined 65 = .ok (.ifCond .ne 7, 3) := by decide +kernel
theorem dX6_joined_68 : decode cX6_joined 68 = .ok (.lconst 0, 1) := by decide +kernel
theorem dX6_joined_69 : decode cX6_joined 69 = .ok (.goto 6, 3) := by decide +kernel
theorem dX6_joined_72 : decode cX6_joined 72 = .ok (.lload_n 1, 1) := by decide +kernel
theorem dX6_joined_73 : decode cX6_joined 73 = .ok (.lload_n 3, 1) := by decide +kernel
theorem dX6_joined_74 : decode cX6_joined 74 = .ok (.lrem, 1) := by decide +kernel
theorem dX6_joined_75 : decode cX6_joined 75 = .ok (.lreturn, 1) := by decide +kernel
theorem dX6_joined_76 : decode cX6_joined 76 = .ok (.iload_n 0, 1) := by decide +kernel
theorem dX6_joined_77 : decode cX6_joined 77 = .ok (.lload_n 1, 1) := by decide +kernel
theorem dX6_joined_78 : decode cX6_joined 78 = .ok (.lload_n 3, 1) := by decide +kernel
theorem dX6_joined_79 : decode cX6_joined 79 = .ok (.invokestatic 28, 3) := by decide +kernel
theorem dX6_joined_82 : decode cX6_joined 82 = .ok (.ifCond .eq 7, 3) := by decide +kernel
theorem dX6_joined_85 : decode cX6_joined 85 = .ok (.lconst 1, 1) := by decide +kernel
theorem dX6_joined_86 : decode cX6_joined 86 = .ok (.goto 4, 3) := by decide +kernel
theorem dX6_joined_89 : decode cX6_joined 89 = .ok (.lconst 0, 1) := by decide +kernel
theorem dX6_joined_90 : decode cX6_joined 90 = .ok (.lreturn, 1) := by decide +kernel
theorem dX6_sumFor_0 : decode cX6_sumFor 0 = .ok (.iconst 0, 1) := by decide +kernel
theorem dX6_sumFor_1 : decode cX6_sumFor 1 = .ok (.istore_n 3, 1) := by decide +kernel
theorem dX6_sumFor_2 : decode cX6_sumFor 2 = .ok (.iconst 0, 1) := by decide +kernel
theorem dX6_sumFor_3 : decode cX6_sumFor 3 = .ok (.istore 4, 2) := by decide +kernel
theorem dX6_sumFor_5 : decode cX6_sumFor 5 = .ok (.iload 4, 2) := by decide +kernel
theorem dX6_sumFor_7 : decode cX6_sumFor 7 = .ok (.aload_n 0, 1) := by decide +kernel
theorem dX6_sumFor_8 : decode cX6_sumFor 8 = .ok (.getfield 13, 3) := by decide +kernel
theorem dX6_sumFor_11 : decode cX6_sumFor 11 = .ok (.arraylength, 1) := by decide +kernel
theorem dX6_sumFor_12 : decode cX6_sumFor 12 = .ok (.if_icmp .ge 240, 3) := by decide +kernel
theorem dX6_sumFor_15 : decode cX6_sumFor 15 = .ok (.aload_n 0, 1) := by decide +kernel
theorem dX6_sumFor_16 : decode cX6_sumFor 16 = .ok (.getfield 13, 3) := by decide +kernel
theorem dX6_sumFor_19 : decode cX6_sumFor 19 = .ok (.iload 4, 2) := by decide +kernel
theorem dX6_sumFor_21 : decode cX6_sumFor 21 = .ok (.iaload, 1) := by decide +kernel
theorem dX6_sumFor_22 : decode cX6_sumFor 22 = .ok (.istore 5, 2) := by decide +kernel
theorem dX6_sumFor_24 : decode cX6_sumFor 24 = .ok (.iload 5, 2) := by decide +kernel
theorem dX6_sumFor_26 : decode cX6_sumFor 26 = .ok (.ifCond .lt 53, 3) := by decide +kernel
theorem dX6_sumFor_29 : decode cX6_sumFor 29 = .ok (.iload_n 3, 1) := by decide +kernel
theorem dX6_sumFor_30 : decode cX6_sumFor 30 = .ok (.ifCond .lt 12, 3) := by decide +kernel
theorem dX6_sumFor_33 : decode cX6_sumFor 33 = .ok (.iload_n 3, 1) := by decide +kernel
theorem dX6_sumFor_34 : decode cX6_sumFor 34 = .ok (.aload_n 0, 1) := by decide +kernel
theorem dX6_sumFor_35 : decode cX6_sumFor 35 = .ok (.getfield 9, 3) := by decide +kernel
theorem dX6_sumFor_38 : decode cX6_sumFor 38 = .ok (.arraylength, 1) := by decide +kernel
theorem dX6_sumFor_39 : decode cX6_sumFor 39 = .ok (.if_icmp .lt 5, 3) := by decide +kernel
theorem dX6_sumFor_42 : decode cX6_sumFor 42 = .ok (.lconst 0, 1) := by decide +kernel
theorem dX6_sumFor_43 : decode cX6_sumFor 43 = .ok (.lreturn, 1) := by decide +kernel
theorem dX6_sumFor_44 : decode cX6_sumFor 44 = .ok (.aload_n 0, 1) := by decide +kernel
theorem dX6_sumFor_45 : decode cX6_sumFor 45 = .ok (.getfield 9, 3) := by decide +kernel
theorem dX6_sumFor_48 : decode cX6_sumFor 48 = .ok (.iload_n 3, 1) := by decide +kernel
theorem dX6_sumFor_49 : decode cX6_sumFor 49 = .ok (.iload 5, 2) := by decide +kernel
theorem dX6_sumFor_51 : decode cX6_sumFor 51 = .ok (.ldc 17, 2) := by decide +kernel
theorem dX6_sumFor_53 : decode cX6_sumFor 53 = .ok (.if_icmp .ge 9, 3) := by decide +kernel
theorem dX6_sumFor_56 : decode cX6_sumFor 56 = .ok (.iload 5, 2) := by decide +kernel
theorem dX6_sumFor_58 : decode cX6_sumFor 58 = .ok (.i2l, 1) := by decide +kernel
theorem dX6_sumFor_59 : decode cX6_sumFor 59 = .ok (.goto 13, 3) := by decide +kernel
theorem dX6_sumFor_62 : decode cX6_sumFor 62 = .ok (.aload_n 1, 1) := by decide +kernel
theorem dX6_sumFor_63 : decode cX6_sumFor 63 = .ok (.iload 5, 2) := by decide +kernel
theorem dX6_sumFor_65 : decode cX6_sumFor 65 = .ok (.ldc 17, 2) := by decide +kernel
theorem dX6_sumFor_67 : decode cX6_sumFor 67 = .ok (.isub, 1) := by decide +kernel
theorem dX6_sumFor_68 : decode cX6_sumFor 68 = .ok (.iload_n 2, 1) := by decide +kernel
theorem dX6_sumFor_69 : decode cX6_sumFor 69 = .ok (.invokevirtual 18, 3) := by decide +kernel
theorem dX6_sumFor_72 : decode cX6_sumFor 72 = .ok (.lastore, 1) := by decide +kernel
theorem dX6_sumFor_73 : decode cX6_sumFor 73 = .ok (.iinc 3 1, 3) := by decide +kernel
theorem dX6_sumFor_76 : decode cX6_sumFor 76 = .ok (.goto 170, 3) := by decide +kernel
theorem dX6_sumFor_79 : decode cX6_sumFor 79 = .ok (.iload 5, 2) := by decide +kernel
theorem dX6_sumFor_81 : decode cX6_sumFor 81 = .ok (.bipush (-2), 2) := by decide +kernel
theorem dX6_sumFor_83 : decode cX6_sumFor 83 = .ok (.if_icmp .ne 30, 3) := by decide +kernel
theorem dX6_sumFor_86 : decode cX6_sumFor 86 = .ok (.iload_n 3, 1) := by decide +kernel
theorem dX6_sumFor_87 : decode cX6_sumFor 87 = .ok (.iconst 1, 1) := by decide +kernel
theorem dX6_sumFor_88 : decode cX6_sumFor 88 = .ok (.if_icmp .lt 23, 3) := by decide +kernel
theorem dX6_sumFor_91 : decode cX6_sumFor 91 = .ok (.iload_n 3, 1) := by decide +kernel
theorem dX6_sumFor_92 : decode cX6_sumFor 92 = .ok (.aload_n 0, 1) := by decide +kernel
theorem dX6_sumFor_93 : decode cX6_sumFor 93 = .ok (.getfield 9, 3) := by decide +kernel
theorem dX6_sumFor_96 : decode cX6_sumFor 96 = .ok (.arraylength, 1) := by decide +kernel
theorem dX6_sumFor_97 : decode cX6_sumFor 97 = .ok (.if_icmp .gt 14, 3) := by decide +kernel
theorem dX6_sumFor_100 : decode cX6_sumFor 100 = .ok (.aload_n 0, 1) := by decide +kernel
theorem dX6_sumFor_101 : decode cX6_sumFor 101 = .ok (.getfield 9, 3) := by decide +kernel
theorem dX6_sumFor_104 : decode cX6_sumFor 104 = .ok (.iload_n 3, 1) := by decide +kernel
theorem dX6_sumFor_105 : decode cX6_sumFor 105 = .ok (.iconst 1, 1) := by decide +kernel
theorem dX6_sumFor_106 : decode cX6_sumFor 106 = .ok (.isub, 1) := by decide +kernel
theorem dX6_sumFor_107 : decode cX6_sumFor 107 = .ok (.laload, 1) := by decide +kernel
theorem dX6_sumFor_108 : decode cX6_sumFor 108 = .ok (.goto 4, 3) := by decide +kernel
theorem dX6_sumFor_111 : decode cX6_sumFor 111 = .ok (.lconst 0, 1) := by decide +kernel
theorem dX6_sumFor_112 : decode cX6_sumFor 112 = .ok (.lreturn, 1) := by decide +kernel
theorem dX6_sumFor_113 : decode cX6_sumFor 113 = .ok (.iload 5, 2) := by decide +kernel
theorem dX6_sumFor_115 : decode cX6_sumFor 115 = .ok (.bipush (-4), 2) := by decide +kernel
theorem dX6_sumFor_117 : decode cX6_sumFor 117 = .ok (.if_icmp .ne 46, 3) := by decide +kernel
theorem dX6_sumFor_120 : decode cX6_sumFor 120 = .ok (.iload_n 3, 1) := by decide +kernel
theorem dX6_sumFor_121 : decode cX6_sumFor 121 = .ok (.iconst 1, 1) := by decide +kernel
theorem dX6_sumFor_122 : decode cX6_sumFor 122 = .ok (.if_icmp .lt 124, 3) := by decide +kernel
theorem dX6_sumFor_125 : decode cX6_sumFor 125 = .ok (.iload_n 3, 1) := by decide +kernel
theorem dX6_sumFor_126 : decode cX6_sumFor 126 = .ok (.aload_n 0, 1) := by decide +kernel
theorem dX6_sumFor_127 : decode cX6_sumFor 127 = .ok (.getfield 9, 3) := by decide +kernel
theorem dX6_sumFor_130 : decode cX6_sumFor 130 = .ok (.arraylength, 1) := by decide +kernel
theorem dX6_sumFor_131 : decode cX6_sumFor 131 = .ok (.if_icmp .gt 115, 3) := by decide +kernel
theorem dX6_sumFor_134 : decode cX6_sumFor 134 = .ok (.aload_n 0, 1) := by decide +kernel
theorem dX6_sumFor_135 : decode cX6_sumFor 135 = .ok (.getfield 9, 3) := by decide +kernel
theorem dX6_sumFor_138 : decode cX6_sumFor 138 = .ok (.iload_n 3, 1) := by decide +kernel
theorem dX6_sumFor_139 : decode cX6_sumFor 139 = .ok (.iconst 1, 1) := by decide +kernel
theorem dX6_sumFor_140 : decode cX6_sumFor 140 = .ok (.isub, 1) := by decide +kernel
theorem dX6_sumFor_141 : decode cX6_sumFor 141 = .ok (.aload_n 0, 1) := by decide +kernel
theorem dX6_sumFor_142 : decode cX6_sumFor 142 = .ok (.getfield 9, 3) := by decide +kernel
theorem dX6_sumFor_145 : decode cX6_sumFor 145 = .ok (.iload_n 3, 1) := by decide +kernel
theorem dX6_sumFor_146 : decode cX6_sumFor 146 = .ok (.iconst 1, 1) := by decide +kernel
theorem dX6_sumFor_147 : decode cX6_sumFor 147 = .ok (.isub, 1) := by decide +kernel
theorem dX6_sumFor_148 : decode cX6_sumFor 148 = .ok (.laload, 1) := by decide +kernel
theorem dX6_sumFor_149 : decode cX6_sumFor 149 = .ok (.lconst 0, 1) := by decide +kernel
theorem dX6_sumFor_150 : decode cX6_sumFor 150 = .ok (.lcmp, 1) := by decide +kernel
theorem dX6_sumFor_151 : decode cX6_sumFor 151 = .ok (.ifCond .ne 7, 3) := by decide +kernel
theorem dX6_sumFor_154 : decode cX6_sumFor 154 = .ok (.lconst 1, 1) := by decide +kernel
theorem dX6_sumFor_155 : decode cX6_sumFor 155 = .ok (.goto 4, 3) := by decide +kernel
theorem dX6_sumFor_158 : decode cX6_sumFor 158 = .ok (.lconst 0, 1) := by decide +kernel
theorem dX6_sumFor_159 : decode cX6_sumFor 159 = .ok (.lastore, 1) := by decide +kernel
theorem dX6_sumFor_160 : decode cX6_sumFor 160 = .ok (.goto 86, 3) := by decide +kernel
theorem dX6_sumFor_163 : decode cX6_sumFor 163 = .ok (.iload_n 3, 1) := by decide +kernel
theorem dX6_sumFor_164 : decode cX6_sumFor 164 = .ok (.iconst 2, 1) := by decide +kernel
theorem dX6_sumFor_165 : decode cX6_sumFor 165 = .ok (.if_icmp .lt 12, 3) := by decide +kernel
theorem dX6_sumFor_168 : decode cX6_sumFor 168 = .ok (.iload_n 3, 1) := by decide +kernel
theorem dX6_sumFor_169 : decode cX6_sumFor 169 = .ok (.aload_n 0, 1) := by decide +kernel
theorem dX6_sumFor_170 : decode cX6_sumFor 170 = .ok (.getfield 9, 3) := by decide +kernel
theorem dX6_sumFor_173 : decode cX6_sumFor 173 = .ok (.arraylength, 1) := by decide +kernel
theorem dX6_sumFor_174 : decode cX6_sumFor 174 = .ok (.if_icmp .le 5, 3) := by decide +kernel
theorem dX6_sumFor_177 : decode cX6_sumFor 177 = .ok (.lconst 0, 1) := by decide +kernel
theorem dX6_sumFor_178 : decode cX6_sumFor 178 = .ok (.lreturn, 1) := by decide +kernel
theorem dX6_sumFor_179 : decode cX6_sumFor 179 = .ok (.iload 5, 2) := by decide +kernel
theorem dX6_sumFor_181 : decode cX6_sumFor 181 = .ok (.bipush (-3), 2) := by decide +kernel
theorem dX6_sumFor_183 : decode cX6_sumFor 183 = .ok (.if_icmp .ne 31, 3) := by decide +kernel
theorem dX6_sumFor_186 : decode cX6_sumFor 186 = .ok (.aload_n 0, 1) := by decide +kernel
theorem dX6_sumFor_187 : decode cX6_sumFor 187 = .ok (.getfield 9, 3) := by decide +kernel
theorem dX6_sumFor_190 : decode cX6_sumFor 190 = .ok (.iload_n 3, 1) := by decide +kernel
theorem dX6_sumFor_191 : decode cX6_sumFor 191 = .ok (.iconst 1, 1) := by decide +kernel
theorem dX6_sumFor_192 : decode cX6_sumFor 192 = .ok (.isub, 1) := by decide +kernel
theorem dX6_sumFor_193 : decode cX6_sumFor 193 = .ok (.laload, 1) := by decide +kernel
theorem dX6_sumFor_194 : decode cX6_sumFor 194 = .ok (.lconst 0, 1) := by decide +kernel
theorem dX6_sumFor_195 : decode cX6_sumFor 195 = .ok (.lcmp, 1) := by decide +kernel
theorem dX6_sumFor_196 : decode cX6_sumFor 196 = .ok (.ifCond .eq 12, 3) := by decide +kernel
theorem dX6_sumFor_199 : decode cX6_sumFor 199 = .ok (.aload_n 0, 1) := by decide +kernel
theorem dX6_sumFor_200 : decode cX6_sumFor 200 = .ok (.getfield 9, 3) := by decide +kernel
theorem dX6_sumFor_203 : decode cX6_sumFor 203 = .ok (.iload_n 3, 1) := by decide +kernel
theorem dX6_sumFor_204 : decode cX6_sumFor 204 = .ok (.iconst 2, 1) := by decide +kernel
theorem dX6_sumFor_205 : decode cX6_sumFor 205 = .ok (.isub, 1) := by decide +kernel
theorem dX6_sumFor_206 : decode cX6_sumFor 206 = .ok (.laload, 1) := by decide +kernel
theorem dX6_sumFor_207 : decode cX6_sumFor 207 = .ok (.lreturn, 1) := by decide +kernel
theorem dX6_sumFor_208 : decode cX6_sumFor 208 = .ok (.iinc 3 (-2), 3) := by decide +kernel
theorem dX6_sumFor_211 : decode cX6_sumFor 211 = .ok (.goto 35, 3) := by decide +kernel
theorem dX6_sumFor_214 : decode cX6_sumFor 214 = .ok (.aload_n 0, 1) := by decide +kernel
theorem dX6_sumFor_215 : decode cX6_sumFor 215 = .ok (.getfield 9, 3) := by decide +kernel
theorem dX6_sumFor_218 : decode cX6_sumFor 218 = .ok (.iload_n 3, 1) := by decide +kernel
theorem dX6_sumFor_219 : decode cX6_sumFor 219 = .ok (.iconst 2, 1) := by decide +kernel
theorem dX6_sumFor_220 : decode cX6_sumFor 220 = .ok (.isub, 1) := by decide +kernel
theorem dX6_sumFor_221 : decode cX6_sumFor 221 = .ok (.iload 5, 2) := by decide +kernel
theorem dX6_sumFor_223 : decode cX6_sumFor 223 = .ok (.aload_n 0, 1) := by decide +kernel
theorem dX6_sumFor_224 : decode cX6_sumFor 224 = .ok (.getfield 9, 3) := by decide +kernel
theorem dX6_sumFor_227 : decode cX6_sumFor 227 = .ok (.iload_n 3, 1) := by decide +kernel
theorem dX6_sumFor_228 : decode cX6_sumFor 228 = .ok (.iconst 2, 1) := by decide +kernel
theorem dX6_sumFor_229 : decode cX6_sumFor 229 = .ok (.isub, 1) := by decide +kernel
theorem dX6_sumFor_230 : decode cX6_sumFor 230 = .ok (.laload, 1) := by decide +kernel
theorem dX6_sumFor_231 : decode cX6_sumFor 231 = .ok (.aload_n 0, 1) := by decide +kernel
theorem dX6_sumFor_232 : decode cX6_sumFor 232 = .ok (.getfield 9, 3) := by decide +kernel
theorem dX6_sumFor_235 : decode cX6_sumFor 235 = .ok (.iload_n 3, 1) := by decide +kernel
theorem dX6_sumFor_236 : decode cX6_sumFor 236 = .ok (.iconst 1, 1) := by decide +kernel
theorem dX6_sumFor_237 : decode cX6_sumFor 237 = .ok (.isub, 1) := by decide +kernel
theorem dX6_sumFor_238 : decode cX6_sumFor 238 = .ok (.laload, 1) := by decide +kernel
theorem dX6_sumFor_239 : decode cX6_sumFor 239 = .ok (.invokestatic 24, 3) := by decide +kernel
theorem dX6_sumFor_242 : decode cX6_sumFor 242 = .ok (.lastore, 1) := by decide +kernel
theorem dX6_sumFor_243 : decode cX6_sumFor 243 = .ok (.iinc 3 (-1), 3) := by decide +kernel
theorem dX6_sumFor_246 : decode cX6_sumFor 246 = .ok (.iinc 4 1, 3) := by decide +kernel
theorem dX6_sumFor_249 : decode cX6_sumFor 249 = .ok (.goto (-244), 3) := by decide +kernel
theorem dX6_sumFor_252 : decode cX6_sumFor 252 = .ok (.lconst 0, 1) := by decide +kernel
theorem dX6_sumFor_253 : decode cX6_sumFor 253 = .ok (.lreturn, 1) := by decide +kernel
theorem dX9_goThroughDay_0 : decode cX9_goThroughDay 0 = .ok (.aload_n 0, 1) := by decide +kernel
theorem dX9_goThroughDay_1 : decode cX9_goThroughDay 1 = .ok (.aload_n 0, 1) := by decide +kernel
theorem dX9_goThroughDay_2 : decode cX9_goThroughDay 2 = .ok (.getfield 24, 3) := by decide +kernel
theorem dX9_goThroughDay_5 : decode cX9_goThroughDay 5 = .ok (.invokevirtual 68, 3) := by decide +kernel
theorem dX9_goThroughDay_8 : decode cX9_goThroughDay 8 = .ok (.istore_n 2, 1) := by decide +kernel
theorem dX9_goThroughDay_9 : decode cX9_goThroughDay 9 = .ok (.aload_n 0, 1) := by decide +kernel
theorem dX9_goThroughDay_10 : decode cX9_goThroughDay 10 = .ok (.aload_n 0, 1) := by decide +kernel
theorem dX9_goThroughDay_11 : decode cX9_goThroughDay 11 = .ok (.getfield 24, 3) := by decide +kernel
theorem dX9_goThroughDay_14 : decode cX9_goThroughDay 14 = .ok (.invokevirtual 75, 3) := by decide +kernel
theorem dX9_goThroughDay_17 : decode cX9_goThroughDay 17 = .ok (.istore_n 3, 1) := by decide +kernel
theorem dX9_goThroughDay_18 : decode cX9_goThroughDay 18 = .ok (.aload_n 0, 1) := by decide +kernel
theorem dX9_goThroughDay_19 : decode cX9_goThroughDay 19 = .ok (.iload_n 3, 1) := by decide +kernel
theorem dX9_goThroughDay_20 : decode cX9_goThroughDay 20 = .ok (.invokevirtual 84, 3) := by decide +kernel
theorem dX9_goThroughDay_23 : decode cX9_goThroughDay 23 = .ok (.ifCond .eq 12, 3) := by decide +kernel
theorem dX9_goThroughDay_26 : decode cX9_goThroughDay 26 = .ok (.aload_n 0, 1) := by decide +kernel
theorem dX9_goThroughDay_27 : decode cX9_goThroughDay 27 = .ok (.getfield 34, 3) := by decide +kernel
theorem dX9_goThroughDay_30 : decode cX9_goThroughDay 30 = .ok (.iload_n 3, 1) := by decide +kernel
theorem dX9_goThroughDay_31 : decode cX9_goThroughDay 31 = .ok (.iaload, 1) := by decide +kernel
theorem dX9_goThroughDay_32 : decode cX9_goThroughDay 32 = .ok (.goto 4, 3) := by decide +kernel
theorem dX9_goThroughDay_35 : decode cX9_goThroughDay 35 = .ok (.iconst 0, 1) := by decide +kernel
theorem dX9_goThroughDay_36 : decode cX9_goThroughDay 36 = .ok (.istore 4, 2) := by decide +kernel
theorem dX9_goThroughDay_38 : decode cX9_goThroughDay 38 = .ok (.iconst 0, 1) := by decide +kernel
theorem dX9_goThroughDay_39 : decode cX9_goThroughDay 39 = .ok (.istore 5, 2) := by decide +kernel
theorem dX9_goThroughDay_41 : decode cX9_goThroughDay 41 = .ok (.iconst 0, 1) := by decide +kernel
theorem dX9_goThroughDay_42 : decode cX9_goThroughDay 42 = .ok (.istore 6, 2) := by decide +kernel
theorem dX9_goThroughDay_44 : decode cX9_goThroughDay 44 = .ok (.iload 6, 2) := by decide +kernel
theorem dX9_goThroughDay_46 : decode cX9_goThroughDay 46 = .ok (.aload_n 0, 1) := by decide +kernel
theorem dX9_goThroughDay_47 : decode cX9_goThroughDay 47 = .ok (.getfield 21, 3) := by decide +kernel
theorem dX9_goThroughDay_50 : decode cX9_goThroughDay 50 = .ok (.if_icmp .ge 133, 3) := by decide +kernel
theorem dX9_goThroughDay_53 : decode cX9_goThroughDay 53 = .ok (.iload 6, 2) := by decide +kernel
theorem dX9_goThroughDay_55 : decode cX9_goThroughDay 55 = .ok (.bipush 6, 2) := by decide +kernel
theorem dX9_goThroughDay_57 : decode cX9_goThroughDay 57 = .ok (.if_icmp .ge 126, 3) := by decide +kernel
theorem dX9_goThroughDay_60 : decode cX9_goThroughDay 60 = .ok (.aload_n 0, 1) := by decide +kernel
theorem dX9_goThroughDay_61 : decode cX9_goThroughDay 61 = .ok (.iload 6, 2) := by decide +kernel
theorem dX9_goThroughDay_63 : decode cX9_goThroughDay 63 = .ok (.invokevirtual 65, 3) := by decide +kernel
theorem dX9_goThroughDay_66 : decode cX9_goThroughDay 66 = .ok (.ifCond .ne 6, 3) := by decide +kernel
theorem dX9_goThroughDay_69 : decode cX9_goThroughDay 69 = .ok (.goto 108, 3) := by decide +kernel
theorem dX9_goThroughDay_72 : decode cX9_goThroughDay 72 = .ok (.aload_n 1, 1) := by decide +kernel
theorem dX9_goThroughDay_73 : decode cX9_goThroughDay 73 = .ok (.ifnonnull 25, 3) := by decide +kernel
theorem dX9_goThroughDay_76 : decode cX9_goThroughDay 76 = .ok (.aload_n 0, 1) := by decide +kernel
theorem dX9_goThroughDay_77 : decode cX9_goThroughDay 77 = .ok (.getfield 37, 3) := by decide +kernel
theorem dX9_goThroughDay_80 : decode cX9_goThroughDay 80 = .ok (.iload 6, 2) := by decide +kernel
theorem dX9_goThroughDay_82 : decode cX9_goThroughDay 82 = .ok (.iaload, 1) := by decide +kernel
theorem dX9_goThroughDay_83 : decode cX9_goThroughDay 83 = .ok (.iload_n 2, 1) := by decide +kernel
theorem dX9_goThroughDay_84 : decode cX9_goThroughDay 84 = .ok (.iadd, 1) := by decide +kernel
theorem dX9_goThroughDay_85 : decode cX9_goThroughDay 85 = .ok (.bipush 12, 2) := by decide +kernel
theorem dX9_goThroughDay_87 : decode cX9_goThroughDay 87 = .ok (.if_icmp .lt 7, 3) := by decide +kernel
theorem dX9_goThroughDay_90 : decode cX9_goThroughDay 90 = .ok (.iconst 1, 1) := by decide +kernel
theorem dX9_goThroughDay_91 : decode cX9_goThroughDay 91 = .ok (.goto 24, 3) := by decide +kernel
theorem dX9_goThroughDay_94 : decode cX9_goThroughDay 94 = .ok (.iconst 0, 1) := by decide +kernel
theorem dX9_goThroughDay_95 : decode cX9_goThroughDay 95 = .ok (.goto 20, 3) := by decide +kernel
theorem dX9_goThroughDay_98 : decode cX9_goThroughDay 98 = .ok (.aload_n 1, 1) := by decide +kernel
theorem dX9_goThroughDay_99 : decode cX9_goThroughDay 99 = .ok (.aload_n 0, 1) := by decide +kernel
theorem dX9_goThroughDay_100 : decode cX9_goThroughDay 100 = .ok (.iload 6, 2) := by decide +kernel
theorem dX9_goThroughDay_102 : decode cX9_goThroughDay 102 = .ok (.invokevirtual 87, 3) := by decide +kernel
theorem dX9_goThroughDay_105 : decode cX9_goThroughDay 105 = .ok (.lconst 0, 1) := by decide +kernel
theorem dX9_goThroughDay_106 : decode cX9_goThroughDay 106 = .ok (.lcmp, 1) := by decide +kernel
theorem dX9_goThroughDay_107 : decode cX9_goThroughDay 107 = .ok (.ifCond .le 7, 3) := by decide +kernel
theorem dX9_goThroughDay_110 : decode cX9_goThroughDay 110 = .ok (.iconst 1, 1) := by decide +kernel
theorem dX9_goThroughDay_111 : decode cX9_goThroughDay 111 = .ok (.goto 4, 3) := by decide +kernel
theorem dX9_goThroughDay_114 : decode cX9_goThroughDay 114 = .ok (.iconst 0, 1) := by decide +kernel
theorem dX9_goThroughDay_115 : decode cX9_goThroughDay 115 = .ok (.istore 7, 2) := by decide +kernel
theorem dX9_goThroughDay_117 : decode cX9_goThroughDay 117 = .ok (.iload 7, 2) := by decide +kernel
theorem dX9_goThroughDay_119 : decode cX9_goThroughDay 119 = .ok (.ifCond .eq 38, 3) := by decide +kernel
theorem dX9_goThroughDay_122 : decode cX9_goThroughDay 122 = .ok (.iload 4, 2) := by decide +kernel
theorem dX9_goThroughDay_124 : decode cX9_goThroughDay 124 = .ok (.iload 6, 2) := by decide +kernel
theorem dX9_goThroughDay_126 : decode cX9_goThroughDay 126 = .ok (.ishr, 1) := by decide +kernel
theorem dX9_goThroughDay_127 : decode cX9_goThroughDay 127 = .ok (.iconst 1, 1) := by decide +kernel
theorem dX9_goThroughDay_128 : decode cX9_goThroughDay 128 = .ok (.iand, 1) := by decide +kernel
theorem dX9_goThroughDay_129 : decode cX9_goThroughDay 129 = .ok (.ifCond .eq 28, 3) := by decide +kernel
theorem dX9_goThroughDay_132 : decode cX9_goThroughDay 132 = .ok (.aload_n 0, 1) := by decide +kernel
theorem dX9_goThroughDay_133 : decode cX9_goThroughDay 133 = .ok (.getfield 49, 3) := by decide +kernel
theorem dX9_goThroughDay_136 : decode cX9_goThroughDay 136 = .ok (.iload 6, 2) := by decide +kernel
theorem dX9_goThroughDay_138 : decode cX9_goThroughDay 138 = .ok (.dup2, 1) := by decide +kernel
theorem dX9_goThroughDay_139 : decode cX9_goThroughDay 139 = .ok (.iaload, 1) := by decide +kernel
theorem dX9_goThroughDay_140 : decode cX9_goThroughDay 140 = .ok (.iconst 1, 1) := by decide +kernel
theorem dX9_goThroughDay_141 : decode cX9_goThroughDay 141 = .ok (.iadd, 1) := by decide +kernel
theorem dX9_goThroughDay_142 : decode cX9_goThroughDay 142 = .ok (.iastore, 1) := by decide +kernel
theorem dX9_goThroughDay_143 : decode cX9_goThroughDay 143 = .ok (.aload_n 0, 1) := by decide +kernel
theorem dX9_goThroughDay_144 : decode cX9_goThroughDay 144 = .ok (.getfield 52, 3) := by decide +kernel
theorem dX9_goThroughDay_147 : decode cX9_goThroughDay 147 = .ok (.iload 6, 2) := by decide +kernel
theorem dX9_goThroughDay_149 : decode cX9_goThroughDay 149 = .ok (.aload_n 0, 1) := by decide +kernel
theorem dX9_goThroughDay_150 : decode cX9_goThroughDay 150 = .ok (.getfield 24, 3) := by decide +kernel
theorem dX9_goThroughDay_153 : decode cX9_goThroughDay 153 = .ok (.iastore, 1) := by decide +kernel
theorem dX9_goThroughDay_154 : decode cX9_goThroughDay 154 = .ok (.goto 23, 3) := by decide +kernel
theorem dX9_goThroughDay_157 : decode cX9_goThroughDay 157 = .ok (.iload 7, 2) := by decide +kernel
theorem dX9_goThroughDay_159 : decode cX9_goThroughDay 159 = .ok (.ifCond .eq 18, 3) := by decide +kernel
theorem dX9_goThroughDay_162 : decode cX9_goThroughDay 162 = .ok (.aload_n 0, 1) := by decide +kernel
theorem dX9_goThroughDay_163 : decode cX9_goThroughDay 163 = .ok (.iload 6, 2) := by decide +kernel
theorem dX9_goThroughDay_165 : decode cX9_goThroughDay 165 = .ok (.invokevirtual 93, 3) := by decide +kernel
theorem dX9_goThroughDay_168 : decode cX9_goThroughDay 168 = .ok (.iload 5, 2) := by decide +kernel
theorem dX9_goThroughDay_170 : decode cX9_goThroughDay 170 = .ok (.iconst 1, 1) := by decide +kernel
theorem dX9_goThroughDay_171 : decode cX9_goThroughDay 171 = .ok (.iload 6, 2) := by decide +kernel
theorem dX9_goThroughDay_173 : decode cX9_goThroughDay 173 = .ok (.ishl, 1) := by decide +kernel
theorem dX9_goThroughDay_174 : decode cX9_goThroughDay 174 = .ok (.ior, 1) := by decide +kernel
theorem dX9_goThroughDay_175 : decode cX9_goThroughDay 175 = .ok (.istore 5, 2) := by decide +kernel
theorem dX9_goThroughDay_177 : decode cX9_goThroughDay 177 = .ok (.iinc 6 1, 3) := by decide +kernel
theorem dX9_goThroughDay_180 : decode cX9_goThroughDay 180 = .ok (.goto (-136), 3) := by decide +kernel
theorem dX9_goThroughDay_183 : decode cX9_goThroughDay 183 = .ok (.aload_n 0, 1) := by decide +kernel
theorem dX9_goThroughDay_184 : decode cX9_goThroughDay 184 = .ok (.iload_n 2, 1) := by decide +kernel
theorem dX9_goThroughDay_185 : decode cX9_goThroughDay 185 = .ok (.invokevirtual 97, 3) := by decide +kernel
theorem dX9_goThroughDay_188 : decode cX9_goThroughDay 188 = .ok (.aload_n 0, 1) := by decide +kernel
theorem dX9_goThroughDay_189 : decode cX9_goThroughDay 189 = .ok (.getfield 24, 3) := by decide +kernel
theorem dX9_goThroughDay_192 : decode cX9_goThroughDay 192 = .ok (.bipush 7, 2) := by decide +kernel
theorem dX9_goThroughDay_194 : decode cX9_goThroughDay 194 = .ok (.irem, 1) := by decide +kernel
theorem dX9_goThroughDay_195 : decode cX9_goThroughDay 195 = .ok (.bipush 6, 2) := by decide +kernel
theorem dX9_goThroughDay_197 : decode cX9_goThroughDay 197 = .ok (.if_icmp .ne 21, 3) := by decide +kernel
theorem dX9_goThroughDay_200 : decode cX9_goThroughDay 200 = .ok (.aload_n 0, 1) := by decide +kernel
theorem dX9_goThroughDay_201 : decode cX9_goThroughDay 201 = .ok (.bipush 99, 2) := by decide +kernel
theorem dX9_goThroughDay_203 : decode cX9_goThroughDay 203 = .ok (.aload_n 0, 1) := by decide +kernel
theorem dX9_goThroughDay_204 : decode cX9_goThroughDay 204 = .ok (.getfield 9, 3) := by decide +kernel
theorem dX9_goThroughDay_207 : decode cX9_goThroughDay 207 = .ok (.aload_n 0, 1) := by decide +kernel
theorem dX9_goThroughDay_208 : decode cX9_goThroughDay 208 = .ok (.getfield 15, 3) := by decide +kernel
theorem dX9_goThroughDay_211 : decode cX9_goThroughDay 211 = .ok (.iadd, 1) := by decide +kernel
theorem dX9_goThroughDay_212 : decode cX9_goThroughDay 212 = .ok (.invokestatic 100, 3) := by decide +kernel
theorem dX9_goThroughDay_215 : decode cX9_goThroughDay 215 = .ok (.putfield 9, 3) := by decide +kernel
theorem dX9_goThroughDay_218 : decode cX9_goThroughDay 218 = .ok (.aload_n 0, 1) := by decide +kernel
theorem dX9_goThroughDay_219 : decode cX9_goThroughDay 219 = .ok (.dup, 1) := by decide +kernel
theorem dX9_goThroughDay_220 : decode cX9_goThroughDay 220 = .ok (.getfield 24, 3) := by decide +kernel
theorem dX9_goThroughDay_223 : decode cX9_goThroughDay 223 = .ok (.iconst 1, 1) := by decide +kernel
theorem dX9_goThroughDay_224 : decode cX9_goThroughDay 224 = .ok (.iadd, 1) := by decide +kernel
theorem dX9_goThroughDay_225 : decode cX9_goThroughDay 225 = .ok (.putfield 24, 3) := by decide +kernel
theorem dX9_goThroughDay_228 : decode cX9_goThroughDay 228 = .ok (.iload 5, 2) := by decide +kernel
theorem dX9_goThroughDay_230 : decode cX9_goThroughDay 230 = .ok (.ireturn, 1) := by decide +kernel
theorem dX2_agrees_0 : decode cX2_agrees 0 = .ok (.iconst 0, 1) := by decide +kernel
theorem dX2_agrees_1 : decode cX2_agrees 1 = .ok (.istore_n 3, 1) := by decide +kernel
theorem dX2_agrees_2 : decode cX2_agrees 2 = .ok (.iload_n 3, 1) := by decide +kernel
theorem dX2_agrees_3 : decode cX2_agrees 3 = .ok (.aload_n 2, 1) := by decide +kernel
theorem dX2_agrees_4 : decode cX2_agrees 4 = .ok (.getfield 51, 3) := by decide +kernel
theorem dX2_agrees_7 : decode cX2_agrees 7 = .ok (.if_icmp .ge 46, 3) := by decide +kernel
theorem dX2_agrees_10 : decode cX2_agrees 10 = .ok (.iload_n 3, 1) := by decide +kernel
theorem dX2_agrees_11 : decode cX2_agrees 11 = .ok (.bipush 10, 2) := by decide +kernel
theorem dX2_agrees_13 : decode cX2_agrees 13 = .ok (.if_icmp .ge 40, 3) := by decide +kernel
theorem dX2_agrees_16 : decode cX2_agrees 16 = .ok (.aload_n 0, 1) := by decide +kernel
theorem dX2_agrees_17 : decode cX2_agrees 17 = .ok (.iload_n 1, 1) := by decide +kernel
theorem dX2_agrees_18 : decode cX2_agrees 18 = .ok (.aload_n 2, 1) := by decide +kernel
theorem dX2_agrees_19 : decode cX2_agrees 19 = .ok (.getfield 56, 3) := by decide +kernel
theorem dX2_agrees_22 : decode cX2_agrees 22 = .ok (.iload_n 3, 1) := by decide +kernel
theorem dX2_agrees_23 : decode cX2_agrees 23 = .ok (.iaload, 1) := by decide +kernel
theorem dX2_agrees_24 : decode cX2_agrees 24 = .ok (.invokevirtual 59, 3) := by decide +kernel
theorem dX2_agrees_27 : decode cX2_agrees 27 = .ok (.aload_n 2, 1) := by decide +kernel
theorem dX2_agrees_28 : decode cX2_agrees 28 = .ok (.getfield 63, 3) := by decide +kernel
theorem dX2_agrees_31 : decode cX2_agrees 31 = .ok (.iload_n 3, 1) := by decide +kernel
theorem dX2_agrees_32 : decode cX2_agrees 32 = .ok (.iaload, 1) := by decide +kernel
theorem dX2_agrees_33 : decode cX2_agrees 33 = .ok (.ishr, 1) := by decide +kernel
theorem dX2_agrees_34 : decode cX2_agrees 34 = .ok (.iconst 1, 1) := by decide +kernel
theorem dX2_agrees_35 : decode cX2_agrees 35 = .ok (.iand, 1) := by decide +kernel
theorem dX2_agrees_36 : decode cX2_agrees 36 = .ok (.aload_n 2, 1) := by decide +kernel
theorem dX2_agrees_37 : decode cX2_agrees 37 = .ok (.getfield 66, 3) := by decide +kernel
theorem dX2_agrees_40 : decode cX2_agrees 40 = .ok (.iload_n 3, 1) := by decide +kernel
theorem dX2_agrees_41 : decode cX2_agrees 41 = .ok (.iaload, 1) := by decide +kernel
theorem dX2_agrees_42 : decode cX2_agrees 42 = .ok (.if_icmp .eq 5, 3) := by decide +kernel
theorem dX2_agrees_45 : decode cX2_agrees 45 = .ok (.iconst 0, 1) := by decide +kernel
theorem dX2_agrees_46 : decode cX2_agrees 46 = .ok (.ireturn, 1) := by decide +kernel
theorem dX2_agrees_47 : decode cX2_agrees 47 = .ok (.iinc 3 1, 3) := by decide +kernel
theorem dX2_agrees_50 : decode cX2_agrees 50 = .ok (.goto (-48), 3) := by decide +kernel
theorem dX2_agrees_53 : decode cX2_agrees 53 = .ok (.iconst 1, 1) := by decide +kernel
theorem dX2_agrees_54 : decode cX2_agrees 54 = .ok (.ireturn, 1) := by decide +kernel
theorem dX2_dayToLook_0 : decode cX2_dayToLook 0 = .ok (.aload_n 0, 1) := by decide +kernel
theorem dX2_dayToLook_1 : decode cX2_dayToLook 1 = .ok (.getfield 26, 3) := by decide +kernel
theorem dX2_dayToLook_4 : decode cX2_dayToLook 4 = .ok (.ifCond .ne 6, 3) := by decide +kernel
theorem dX2_dayToLook_7 : decode cX2_dayToLook 7 = .ok (.bipush (-2), 2) := by decide +kernel
theorem dX2_dayToLook_9 : decode cX2_dayToLook 9 = .ok (.ireturn, 1) := by decide +kernel
theorem dX2_dayToLook_10 : decode cX2_dayToLook 10 = .ok (.iconst 0, 1) := by decide +kernel
theorem dX2_dayToLook_11 : decode cX2_dayToLook 11 = .ok (.istore_n 2, 1) := by decide +kernel
theorem dX2_dayToLook_12 : decode cX2_dayToLook 12 = .ok (.bipush 8, 2) := by decide +kernel
theorem dX2_dayToLook_14 : decode cX2_dayToLook 14 = .ok (.istore_n 3, 1) := by decide +kernel
theorem dX2_dayToLook_15 : decode cX2_dayToLook 15 = .ok (.iconst 0, 1) := by decide +kernel
theorem dX2_dayToLook_16 : decode cX2_dayToLook 16 = .ok (.istore 4, 2) := by decide +kernel
theorem dX2_dayToLook_18 : decode cX2_dayToLook 18 = .ok (.iload 4, 2) := by decide +kernel
theorem dX2_dayToLook_20 : decode cX2_dayToLook 20 = .ok (.bipush 61, 2) := by decide +kernel
theorem dX2_dayToLook_22 : decode cX2_dayToLook 22 = .ok (.if_icmp .ge 29, 3) := by decide +kernel
theorem dX2_dayToLook_25 : decode cX2_dayToLook 25 = .ok (.aload_n 0, 1) := by decide +kernel
theorem dX2_dayToLook_26 : decode cX2_dayToLook 26 = .ok (.iload 4, 2) := by decide +kernel
theorem dX2_dayToLook_28 : decode cX2_dayToLook 28 = .ok (.invokevirtual 69, 3) := by decide +kernel
theorem dX2_dayToLook_31 : decode cX2_dayToLook 31 = .ok (.istore 5, 2) := by decide +kernel
theorem dX2_dayToLook_33 : decode cX2_dayToLook 33 = .ok (.iload 5, 2) := by decide +kernel
theorem dX2_dayToLook_35 : decode cX2_dayToLook 35 = .ok (.iload_n 3, 1) := by decide +kernel
theorem dX2_dayToLook_36 : decode cX2_dayToLook 36 = .ok (.if_icmp .ge 9, 3) := by decide +kernel
theorem dX2_dayToLook_39 : decode cX2_dayToLook 39 = .ok (.iload 5, 2) := by decide +kernel
theorem dX2_dayToLook_41 : decode cX2_dayToLook 41 = .ok (.istore_n 3, 1) := by decide +kernel
theorem dX2_dayToLook_42 : decode cX2_dayToLook 42 = .ok (.iload 4, 2) := by decide +kernel
theorem dX2_dayToLook_44 : decode cX2_dayToLook 44 = .ok (.istore_n 2, 1) := by decide +kernel
theorem dX2_dayToLook_45 : decode cX2_dayToLook 45 = .ok (.iinc 4 1, 3) := by decide +kernel
theorem dX2_dayToLook_48 : decode cX2_dayToLook 48 = .ok (.goto (-30), 3) := by decide +kernel
theorem dX2_dayToLook_51 : decode cX2_dayToLook 51 = .ok (.iload_n 1, 1) := by decide +kernel
theorem dX2_dayToLook_52 : decode cX2_dayToLook 52 = .ok (.ifCond .ne 7, 3) := by decide +kernel
theorem dX2_dayToLook_55 : decode cX2_dayToLook 55 = .ok (.iload_n 2, 1) := by decide +kernel
theorem dX2_dayToLook_56 : decode cX2_dayToLook 56 = .ok (.goto 4, 3) := by decide +kernel
theorem dX2_dayToLook_59 : decode cX2_dayToLook 59 = .ok (.iload_n 3, 1) := by decide +kernel
theorem dX2_dayToLook_60 : decode cX2_dayToLook 60 = .ok (.ireturn, 1) := by decide +kernel
theorem dX2_firstFitting_0 : decode cX2_firstFitting 0 = .ok (.iconst 0, 1) := by decide +kernel
theorem dX2_firstFitting_1 : decode cX2_firstFitting 1 = .ok (.istore_n 1, 1) := by decide +kernel
theorem dX2_firstFitting_2 : decode cX2_firstFitting 2 = .ok (.iload_n 1, 1) := by decide +kernel
theorem dX2_firstFitting_3 : decode cX2_firstFitting 3 = .ok (.bipush 7, 2) := by decide +kernel
theorem dX2_firstFitting_5 : decode cX2_firstFitting 5 = .ok (.if_icmp .ge 22, 3) := by decide +kernel
theorem dX2_firstFitting_8 : decode cX2_firstFitting 8 = .ok (.aload_n 0, 1) := by decide +kernel
theorem dX2_firstFitting_9 : decode cX2_firstFitting 9 = .ok (.getfield 22, 3) := by decide +kernel
theorem dX2_firstFitting_12 : decode cX2_firstFitting 12 = .ok (.iload_n 1, 1) := by decide +kernel
theorem dX2_firstFitting_13 : decode cX2_firstFitting 13 = .ok (.baload, 1) := by decide +kernel
theorem dX2_firstFitting_14 : decode cX2_firstFitting 14 = .ok (.ifCond .eq 7, 3) := by decide +kernel
theorem dX2_firstFitting_17 : decode cX2_firstFitting 17 = .ok (.iload_n 1, 1) := by decide +kernel
theorem dX2_firstFitting_18 : decode cX2_firstFitting 18 = .ok (.iconst 1, 1) := by decide +kernel
theorem dX2_firstFitting_19 : decode cX2_firstFitting 19 = .ok (.isub, 1) := by decide +kernel
theorem dX2_firstFitting_20 : decode cX2_firstFitting 20 = .ok (.ireturn, 1) := by decide +kernel
theorem dX2_firstFitting_21 : decode cX2_firstFitting 21 = .ok (.iinc 1 1, 3) := by decide +kernel
theorem dX2_firstFitting_24 : decode cX2_firstFitting 24 = .ok (.goto (-22), 3) := by decide +kernel
theorem dX2_firstFitting_27 : decode cX2_firstFitting 27 = .ok (.bipush (-2), 2) := by decide +kernel
theorem dX2_firstFitting_29 : decode cX2_firstFitting 29 = .ok (.ireturn, 1) := by decide +kernel
theorem dX2_mostAlike_0 : decode cX2_mostAlike 0 = .ok (.iconst 0, 1) := by decide +kernel
theorem dX2_mostAlike_1 : decode cX2_mostAlike 1 = .ok (.istore_n 2, 1) := by decide +kernel
theorem dX2_mostAlike_2 : decode cX2_mostAlike 2 = .ok (.iconst 0, 1) := by decide +kernel
theorem dX2_mostAlike_3 : decode cX2_mostAlike 3 = .ok (.istore_n 3, 1) := by decide +kernel
theorem dX2_mostAlike_4 : decode cX2_mostAlike 4 = .ok (.iload_n 3, 1) := by decide +kernel
theorem dX2_mostAlike_5 : decode cX2_mostAlike 5 = .ok (.bipush 7, 2) := by decide +kernel
theorem dX2_mostAlike_7 : decode cX2_mostAlike 7 = .ok (.if_icmp .ge 73, 3) := by decide +kernel
theorem dX2_mostAlike_10 : decode cX2_mostAlike 10 = .ok (.iconst 0, 1) := by decide +kernel
theorem dX2_mostAlike_11 : decode cX2_mostAlike 11 = .ok (.istore 4, 2) := by decide +kernel
theorem dX2_mostAlike_13 : decode cX2_mostAlike 13 = .ok (.iconst 0, 1) := by decide +kernel
theorem dX2_mostAlike_14 : decode cX2_mostAlike 14 = .ok (.istore 5, 2) := by decide +kernel
theorem dX2_mostAlike_16 : decode cX2_mostAlike 16 = .ok (.iload 5, 2) := by decide +kernel
theorem dX2_mostAlike_18 : decode cX2_mostAlike 18 = .ok (.bipush 7, 2) := by decide +kernel
theorem dX2_mostAlike_20 : decode cX2_mostAlike 20 = .ok (.if_icmp .ge 47, 3) := by decide +kernel
theorem dX2_mostAlike_23 : decode cX2_mostAlike 23 = .ok (.aload_n 0, 1) := by decide +kernel
theorem dX2_mostAlike_24 : decode cX2_mostAlike 24 = .ok (.getfield 22, 3) := by decide +kernel
theorem dX2_mostAlike_27 : decode cX2_mostAlike 27 = .ok (.iload_n 3, 1) := by decide +kernel
theorem dX2_mostAlike_28 : decode cX2_mostAlike 28 = .ok (.baload, 1) := by decide +kernel
theorem dX2_mostAlike_29 : decode cX2_mostAlike 29 = .ok (.ifCond .eq 32, 3) := by decide +kernel
theorem dX2_mostAlike_32 : decode cX2_mostAlike 32 = .ok (.aload_n 0, 1) := by decide +kernel
theorem dX2_mostAlike_33 : decode cX2_mostAlike 33 = .ok (.getfield 22, 3) := by decide +kernel
theorem dX2_mostAlike_36 : decode cX2_mostAlike 36 = .ok (.iload 5, 2) := by decide +kernel
theorem dX2_mostAlike_38 : decode cX2_mostAlike 38 = .ok (.baload, 1) := by decide +kernel
theorem dX2_mostAlike_39 : decode cX2_mostAlike 39 = .ok (.ifCond .eq 22, 3) := by decide +kernel
theorem dX2_mostAlike_42 : decode cX2_mostAlike 42 = .ok (.aload_n 0, 1) := by decide +kernel
theorem dX2_mostAlike_43 : decode cX2_mostAlike 43 = .ok (.iload_n 3, 1) := by decide +kernel
theorem dX2_mostAlike_44 : decode cX2_mostAlike 44 = .ok (.iload_n 1, 1) := by decide +kernel
theorem dX2_mostAlike_45 : decode cX2_mostAlike 45 = .ok (.invokevirtual 59, 3) := by decide +kernel
theorem dX2_mostAlike_48 : decode cX2_mostAlike 48 = .ok (.aload_n 0, 1) := by decide +kernel
theorem dX2_mostAlike_49 : decode cX2_mostAlike 49 = .ok (.iload 5, 2) := by decide +kernel
theorem dX2_mostAlike_51 : decode cX2_mostAlike 51 = .ok (.iload_n 1, 1) := by decide +kernel
theorem dX2_mostAlike_52 : decode cX2_mostAlike 52 = .ok (.invokevirtual 59, 3) := by decide +kernel
theorem dX2_mostAlike_55 : decode cX2_mostAlike 55 = .ok (.if_icmp .ne 6, 3) := by decide +kernel
theorem dX2_mostAlike_58 : decode cX2_mostAlike 58 = .ok (.iinc 4 1, 3) := by decide +kernel
theorem dX2_mostAlike_61 : decode cX2_mostAlike 61 = .ok (.iinc 5 1, 3) := by decide +kernel
theorem dX2_mostAlike_64 : decode cX2_mostAlike 64 = .ok (.goto (-48), 3) := by decide +kernel
theorem dX2_mostAlike_67 : decode cX2_mostAlike 67 = .ok (.iload_n 2, 1) := by decide +kernel
theorem dX2_mostAlike_68 : decode cX2_mostAlike 68 = .ok (.iload 4, 2) := by decide +kernel
theorem dX2_mostAlike_70 : decode cX2_mostAlike 70 = .ok (.invokestatic 73, 3) := by decide +kernel
theorem dX2_mostAlike_73 : decode cX2_mostAlike 73 = .ok (.istore_n 2, 1) := by decide +kernel
theorem dX2_mostAlike_74 : decode cX2_mostAlike 74 = .ok (.iinc 3 1, 3) := by decide +kernel
theorem dX2_mostAlike_77 : decode cX2_mostAlike 77 = .ok (.goto (-73), 3) := by decide +kernel
theorem dX2_mostAlike_80 : decode cX2_mostAlike 80 = .ok (.iload_n 2, 1) := by decide +kernel
theorem dX2_mostAlike_81 : decode cX2_mostAlike 81 = .ok (.ireturn, 1) := by decide +kernel
theorem dX2_whoOn_0 : decode cX2_whoOn 0 = .ok (.iload_n 1, 1) := by decide +kernel
theorem dX2_whoOn_1 : decode cX2_whoOn 1 = .ok (.bipush 61, 2) := by decide +kernel
theorem dX2_whoOn_3 : decode cX2_whoOn 3 = .ok (.imul, 1) := by decide +kernel
theorem dX2_whoOn_4 : decode cX2_whoOn 4 = .ok (.iload_n 2, 1) := by decide +kernel
theorem dX2_whoOn_5 : decode cX2_whoOn 5 = .ok (.iadd, 1) := by decide +kernel
theorem dX2_whoOn_6 : decode cX2_whoOn 6 = .ok (.istore_n 3, 1) := by decide +kernel
theorem dX2_whoOn_7 : decode cX2_whoOn 7 = .ok (.iload_n 3, 1) := by decide +kernel
theorem dX2_whoOn_8 : decode cX2_whoOn 8 = .ok (.ifCond .lt 21, 3) := by decide +kernel
theorem dX2_whoOn_11 : decode cX2_whoOn 11 = .ok (.iload_n 3, 1) := by decide +kernel
theorem dX2_whoOn_12 : decode cX2_whoOn 12 = .ok (.aload_n 0, 1) := by decide +kernel
theorem dX2_whoOn_13 : decode cX2_whoOn 13 = .ok (.getfield 18, 3) := by decide +kernel
theorem dX2_whoOn_16 : decode cX2_whoOn 16 = .ok (.arraylength, 1) := by decide +kernel
theorem dX2_whoOn_17 : decode cX2_whoOn 17 = .ok (.if_icmp .ge 12, 3) := by decide +kernel
theorem dX2_whoOn_20 : decode cX2_whoOn 20 = .ok (.aload_n 0, 1) := by decide +kernel
theorem dX2_whoOn_21 : decode cX2_whoOn 21 = .ok (.getfield 18, 3) := by decide +kernel
theorem dX2_whoOn_24 : decode cX2_whoOn 24 = .ok (.iload_n 3, 1) := by decide +kernel
theorem dX2_whoOn_25 : decode cX2_whoOn 25 = .ok (.iaload, 1) := by decide +kernel
theorem dX2_whoOn_26 : decode cX2_whoOn 26 = .ok (.goto 4, 3) := by decide +kernel
theorem dX2_whoOn_29 : decode cX2_whoOn 29 = .ok (.iconst 0, 1) := by decide +kernel
theorem dX2_whoOn_30 : decode cX2_whoOn 30 = .ok (.ireturn, 1) := by decide +kernel
theorem dX2_weigh_0 : decode cX2_weigh 0 = .ok (.aload_n 0, 1) := by decide +kernel
theorem dX2_weigh_1 : decode cX2_weigh 1 = .ok (.iconst 0, 1) := by decide +kernel
theorem dX2_weigh_2 : decode cX2_weigh 2 = .ok (.putfield 26, 3) := by decide +kernel
theorem dX2_weigh_5 : decode cX2_weigh 5 = .ok (.iconst 0, 1) := by decide +kernel
theorem dX2_weigh_6 : decode cX2_weigh 6 = .ok (.istore 4, 2) := by decide +kernel
theorem dX2_weigh_8 : decode cX2_weigh 8 = .ok (.iload 4, 2) := by decide +kernel
theorem dX2_weigh_10 : decode cX2_weigh 10 = .ok (.bipush 7, 2) := by decide +kernel
theorem dX2_weigh_12 : decode cX2_weigh 12 = .ok (.if_icmp .ge 137, 3) := by decide +kernel
theorem dX2_weigh_15 : decode cX2_weigh 15 = .ok (.aload_n 0, 1) := by decide +kernel
theorem dX2_weigh_16 : decode cX2_weigh 16 = .ok (.getfield 22, 3) := by decide +kernel
theorem dX2_weigh_19 : decode cX2_weigh 19 = .ok (.iload 4, 2) := by decide +kernel
theorem dX2_weigh_21 : decode cX2_weigh 21 = .ok (.iconst 0, 1) := by decide +kernel
theorem dX2_weigh_22 : decode cX2_weigh 22 = .ok (.bastore, 1) := by decide +kernel
theorem dX2_weigh_23 : decode cX2_weigh 23 = .ok (.iload 4, 2) := by decide +kernel
theorem dX2_weigh_25 : decode cX2_weigh 25 = .ok (.iload_n 3, 1) := by decide +kernel
theorem dX2_weigh_26 : decode cX2_weigh 26 = .ok (.if_icmp .gt 117, 3) := by decide +kernel
theorem dX2_weigh_29 : decode cX2_weigh 29 = .ok (.iload 4, 2) := by decide +kernel
theorem dX2_weigh_31 : decode cX2_weigh 31 = .ok (.aload_n 2, 1) := by decide +kernel
theorem dX2_weigh_32 : decode cX2_weigh 32 = .ok (.arraylength, 1) := by decide +kernel
theorem dX2_weigh_33 : decode cX2_weigh 33 = .ok (.if_icmp .gt 110, 3) := by decide +kernel
theorem dX2_weigh_36 : decode cX2_weigh 36 = .ok (.iload 4, 2) := by decide +kernel
theorem dX2_weigh_38 : decode cX2_weigh 38 = .ok (.ifCond .ne 7, 3) := by decide +kernel
theorem dX2_weigh_41 : decode cX2_weigh 41 = .ok (.aconst_null, 1) := by decide +kernel
theorem dX2_weigh_42 : decode cX2_weigh 42 = .ok (.goto 9, 3) := by decide +kernel
theorem dX2_weigh_45 : decode cX2_weigh 45 = .ok (.aload_n 2, 1) := by decide +kernel
theorem dX2_weigh_46 : decode cX2_weigh 46 = .ok (.iload 4, 2) := by decide +kernel
theorem dX2_weigh_48 : decode cX2_weigh 48 = .ok (.iconst 1, 1) := by decide +kernel
theorem dX2_weigh_49 : decode cX2_weigh 49 = .ok (.isub, 1) := by decide +kernel
theorem dX2_weigh_50 : decode cX2_weigh 50 = .ok (.aaload, 1) := by decide +kernel
theorem dX2_weigh_51 : decode cX2_weigh 51 = .ok (.astore 5, 2) := by decide +kernel
theorem dX2_weigh_53 : decode cX2_weigh 53 = .ok (.aload_n 0, 1) := by decide +kernel
theorem dX2_weigh_54 : decode cX2_weigh 54 = .ok (.getfield 14, 3) := by decide +kernel
theorem dX2_weigh_57 : decode cX2_weigh 57 = .ok (.aload_n 1, 1) := by decide +kernel
theorem dX2_weigh_58 : decode cX2_weigh 58 = .ok (.getfield 30, 3) := by decide +kernel
theorem dX2_weigh_61 : decode cX2_weigh 61 = .ok (.invokevirtual 35, 3) := by decide +kernel
theorem dX2_weigh_64 : decode cX2_weigh 64 = .ok (.iconst 0, 1) := by decide +kernel
theorem dX2_weigh_65 : decode cX2_weigh 65 = .ok (.istore 6, 2) := by decide +kernel
theorem dX2_weigh_67 : decode cX2_weigh 67 = .ok (.iload 6, 2) := by decide +kernel
theorem dX2_weigh_69 : decode cX2_weigh 69 = .ok (.bipush 61, 2) := by decide +kernel
theorem dX2_weigh_71 : decode cX2_weigh 71 = .ok (.if_icmp .ge 31, 3) := by decide +kernel
theorem dX2_weigh_74 : decode cX2_weigh 74 = .ok (.aload_n 0, 1) := by decide +kernel
theorem dX2_weigh_75 : decode cX2_weigh 75 = .ok (.getfield 18, 3) := by decide +kernel
theorem dX2_weigh_78 : decode cX2_weigh 78 = .ok (.iload 4, 2) := by decide +kernel
theorem dX2_weigh_80 : decode cX2_weigh 80 = .ok (.bipush 61, 2) := by decide +kernel
theorem dX2_weigh_82 : decode cX2_weigh 82 = .ok (.imul, 1) := by decide +kernel
theorem dX2_weigh_83 : decode cX2_weigh 83 = .ok (.iload 6, 2) := by decide +kernel
theorem dX2_weigh_85 : decode cX2_weigh 85 = .ok (.iadd, 1) := by decide +kernel
theorem dX2_weigh_86 : decode cX2_weigh 86 = .ok (.aload_n 0, 1) := by decide +kernel
theorem dX2_weigh_87 : decode cX2_weigh 87 = .ok (.getfield 14, 3) := by decide +kernel
theorem dX2_weigh_90 : decode cX2_weigh 90 = .ok (.aload 5, 2) := by decide +kernel
theorem dX2_weigh_92 : decode cX2_weigh 92 = .ok (.invokevirtual 39, 3) := by decide +kernel
theorem dX2_weigh_95 : decode cX2_weigh 95 = .ok (.iastore, 1) := by decide +kernel
theorem dX2_weigh_96 : decode cX2_weigh 96 = .ok (.iinc 6 1, 3) := by decide +kernel
theorem dX2_weigh_99 : decode cX2_weigh 99 = .ok (.goto (-32), 3) := by decide +kernel
theorem dX2_weigh_102 : decode cX2_weigh 102 = .ok (.aload_n 0, 1) := by decide +kernel
theorem dX2_weigh_103 : decode cX2_weigh 103 = .ok (.getfield 22, 3) := by decide +kernel
theorem dX2_weigh_106 : decode cX2_weigh 106 = .ok (.iload 4, 2) := by decide +kernel
theorem dX2_weigh_108 : decode cX2_weigh 108 = .ok (.aload_n 0, 1) := by decide +kernel
theorem dX2_weigh_109 : decode cX2_weigh 109 = .ok (.iload 4, 2) := by decide +kernel
theorem dX2_weigh_111 : decode cX2_weigh 111 = .ok (.aload_n 1, 1) := by decide +kernel
theorem dX2_weigh_112 : decode cX2_weigh 112 = .ok (.getfield 43, 3) := by decide +kernel
theorem dX2_weigh_115 : decode cX2_weigh 115 = .ok (.invokevirtual 47, 3) := by decide +kernel
theorem dX2_weigh_118 : decode cX2_weigh 118 = .ok (.bastore, 1) := by decide +kernel
theorem dX2_weigh_119 : decode cX2_weigh 119 = .ok (.aload_n 0, 1) := by decide +kernel
theorem dX2_weigh_120 : decode cX2_weigh 120 = .ok (.dup, 1) := by decide +kernel
theorem dX2_weigh_121 : decode cX2_weigh 121 = .ok (.getfield 26, 3) := by decide +kernel
theorem dX2_weigh_124 : decode cX2_weigh 124 = .ok (.aload_n 0, 1) := by decide +kernel
theorem dX2_weigh_125 : decode cX2_weigh 125 = .ok (.getfield 22, 3) := by decide +kernel
theorem dX2_weigh_128 : decode cX2_weigh 128 = .ok (.iload 4, 2) := by decide +kernel
theorem dX2_weigh_130 : decode cX2_weigh 130 = .ok (.baload, 1) := by decide +kernel
theorem dX2_weigh_131 : decode cX2_weigh 131 = .ok (.ifCond .eq 7, 3) := by decide +kernel
theorem dX2_weigh_134 : decode cX2_weigh 134 = .ok (.iconst 1, 1) := by decide +kernel
theorem dX2_weigh_135 : decode cX2_weigh 135 = .ok (.goto 4, 3) := by decide +kernel
theorem dX2_weigh_138 : decode cX2_weigh 138 = .ok (.iconst 0, 1) := by decide +kernel
theorem dX2_weigh_139 : decode cX2_weigh 139 = .ok (.iadd, 1) := by decide +kernel
theorem dX2_weigh_140 : decode cX2_weigh 140 = .ok (.putfield 26, 3) := by decide +kernel
theorem dX2_weigh_143 : decode cX2_weigh 143 = .ok (.iinc 4 1, 3) := by decide +kernel
theorem dX2_weigh_146 : decode cX2_weigh 146 = .ok (.goto (-138), 3) := by decide +kernel
theorem dX2_weigh_149 : decode cX2_weigh 149 = .ok (.return_, 1) := by decide +kernel
theorem dX11_isWithin_0 : decode cX11_isWithin 0 = .ok (.iload_n 0, 1) := by decide +kernel
theorem dX11_isWithin_1 : decode cX11_isWithin 1 = .ok (.iload_n 1, 1) := by decide +kernel
theorem dX11_isWithin_2 : decode cX11_isWithin 2 = .ok (.if_icmp .lt 12, 3) := by decide +kernel
theorem dX11_isWithin_5 : decode cX11_isWithin 5 = .ok (.iload_n 0, 1) := by decide +kernel
theorem dX11_isWithin_6 : decode cX11_isWithin 6 = .ok (.iload_n 2, 1) := by decide +kernel
theorem dX11_isWithin_7 : decode cX11_isWithin 7 = .ok (.if_icmp .gt 7, 3) := by decide +kernel
theorem dX11_isWithin_10 : decode cX11_isWithin 10 = .ok (.iconst 1, 1) := by decide +kernel
theorem dX11_isWithin_11 : decode cX11_isWithin 11 = .ok (.goto 4, 3) := by decide +kernel
theorem dX11_isWithin_14 : decode cX11_isWithin 14 = .ok (.iconst 0, 1) := by decide +kernel
theorem dX11_isWithin_15 : decode cX11_isWithin 15 = .ok (.ireturn, 1) := by decide +kernel
theorem dX11_look_0 : decode cX11_look 0 = .ok (.aload_n 0, 1) := by decide +kernel
theorem dX11_look_1 : decode cX11_look 1 = .ok (.getfield 51, 3) := by decide +kernel
theorem dX11_look_4 : decode cX11_look 4 = .ok (.invokevirtual 176, 3) := by decide +kernel
theorem dX11_look_7 : decode cX11_look 7 = .ok (.ifCond .eq 12, 3) := by decide +kernel
theorem dX11_look_10 : decode cX11_look 10 = .ok (.iload_n 1, 1) := by decide +kernel
theorem dX11_look_11 : decode cX11_look 11 = .ok (.iconst 0, 1) := by decide +kernel
theorem dX11_look_12 : decode cX11_look 12 = .ok (.iconst 1, 1) := by decide +kernel
theorem dX11_look_13 : decode cX11_look 13 = .ok (.invokestatic 166, 3) := by decide +kernel
theorem dX11_look_16 : decode cX11_look 16 = .ok (.ifCond .ne 5, 3) := by decide +kernel
theorem dX11_look_19 : decode cX11_look 19 = .ok (.iconst (-1), 1) := by decide +kernel
theorem dX11_look_20 : decode cX11_look 20 = .ok (.ireturn, 1) := by decide +kernel
theorem dX11_look_21 : decode cX11_look 21 = .ok (.aload_n 0, 1) := by decide +kernel
theorem dX11_look_22 : decode cX11_look 22 = .ok (.getfield 82, 3) := by decide +kernel
theorem dX11_look_25 : decode cX11_look 25 = .ok (.aload_n 0, 1) := by decide +kernel
theorem dX11_look_26 : decode cX11_look 26 = .ok (.getfield 43, 3) := by decide +kernel
theorem dX11_look_29 : decode cX11_look 29 = .ok (.aload_n 0, 1) := by decide +kernel
theorem dX11_look_30 : decode cX11_look 30 = .ok (.getfield 32, 3) := by decide +kernel
theorem dX11_look_33 : decode cX11_look 33 = .ok (.aload_n 0, 1) := by decide +kernel
theorem dX11_look_34 : decode cX11_look 34 = .ok (.getfield 36, 3) := by decide +kernel
theorem dX11_look_37 : decode cX11_look 37 = .ok (.invokevirtual 258, 3) := by decide +kernel
theorem dX11_look_40 : decode cX11_look 40 = .ok (.aload_n 0, 1) := by decide +kernel
theorem dX11_look_41 : decode cX11_look 41 = .ok (.getfield 82, 3) := by decide +kernel
theorem dX11_look_44 : decode cX11_look 44 = .ok (.iload_n 1, 1) := by decide +kernel
theorem dX11_look_45 : decode cX11_look 45 = .ok (.invokevirtual 269, 3) := by decide +kernel
theorem dX11_look_48 : decode cX11_look 48 = .ok (.ireturn, 1) := by decide +kernel
theorem dX11_ruled_0 : decode cX11_ruled 0 = .ok (.aload_n 0, 1) := by decide +kernel
theorem dX11_ruled_1 : decode cX11_ruled 1 = .ok (.getfield 51, 3) := by decide +kernel
theorem dX11_ruled_4 : decode cX11_ruled 4 = .ok (.invokevirtual 176, 3) := by decide +kernel
theorem dX11_ruled_7 : decode cX11_ruled 7 = .ok (.ifCond .eq 12, 3) := by decide +kernel
theorem dX11_ruled_10 : decode cX11_ruled 10 = .ok (.iload_n 1, 1) := by decide +kernel
theorem dX11_ruled_11 : decode cX11_ruled 11 = .ok (.iconst 0, 1) := by decide +kernel
theorem dX11_ruled_12 : decode cX11_ruled 12 = .ok (.iconst 1, 1) := by decide +kernel
theorem dX11_ruled_13 : decode cX11_ruled 13 = .ok (.invokestatic 166, 3) := by decide +kernel
theorem dX11_ruled_16 : decode cX11_ruled 16 = .ok (.ifCond .ne 6, 3) := by decide +kernel
theorem dX11_ruled_19 : decode cX11_ruled 19 = .ok (.bipush (-3), 2) := by decide +kernel
theorem dX11_ruled_21 : decode cX11_ruled 21 = .ok (.ireturn, 1) := by decide +kernel
theorem dX11_ruled_22 : decode cX11_ruled 22 = .ok (.aload_n 0, 1) := by decide +kernel
theorem dX11_ruled_23 : decode cX11_ruled 23 = .ok (.getfield 82, 3) := by decide +kernel
theorem dX11_ruled_26 : decode cX11_ruled 26 = .ok (.aload_n 0, 1) := by decide +kernel
theorem dX11_ruled_27 : decode cX11_ruled 27 = .ok (.getfield 43, 3) := by decide +kernel
theorem dX11_ruled_30 : decode cX11_ruled 30 = .ok (.aload_n 0, 1) := by decide +kernel
theorem dX11_ruled_31 : decode cX11_ruled 31 = .ok (.getfield 32, 3) := by decide +kernel
theorem dX11_ruled_34 : decode cX11_ruled 34 = .ok (.aload_n 0, 1) := by decide +kernel
theorem dX11_ruled_35 : decode cX11_ruled 35 = .ok (.getfield 36, 3) := by decide +kernel
theorem dX11_ruled_38 : decode cX11_ruled 38 = .ok (.invokevirtual 258, 3) := by decide +kernel
theorem dX11_ruled_41 : decode cX11_ruled 41 = .ok (.iload_n 1, 1) := by decide +kernel
theorem dX11_ruled_42 : decode cX11_ruled 42 = .ok (.ifCond .ne 13, 3) := by decide +kernel
theorem dX11_ruled_45 : decode cX11_ruled 45 = .ok (.aload_n 0, 1) := by decide +kernel
theorem dX11_ruled_46 : decode cX11_ruled 46 = .ok (.getfield 82, 3) := by decide +kernel
theorem dX11_ruled_49 : decode cX11_ruled 49 = .ok (.getfield 262, 3) := by decide +kernel
theorem dX11_ruled_52 : decode cX11_ruled 52 = .ok (.goto 10, 3) := by decide +kernel
theorem dX11_ruled_55 : decode cX11_ruled 55 = .ok (.aload_n 0, 1) := by decide +kernel
theorem dX11_ruled_56 : decode cX11_ruled 56 = .ok (.getfield 82, 3) := by decide +kernel
theorem dX11_ruled_59 : decode cX11_ruled 59 = .ok (.invokevirtual 265, 3) := by decide +kernel
theorem dX11_ruled_62 : decode cX11_ruled 62 = .ok (.ireturn, 1) := by decide +kernel
def SaiO (f : Nat → Int32) (d : Int) : Prop := SaiB f ∧ 0 ≤ (f 10).toInt ∧ (f 10).toInt ≤ d
theorem SaiB.ar {f : Nat → Int32} (h : SaiB f) : (((f 0).toInt = 1 ∧ 1 ≤ (f 2).toInt ∧ (f 2).toInt ≤ 10) ∨ ((f 0).toInt = 0 ∧ (f 3).toInt = 0)) ∧ 0 ≤ (f 3).toInt ∧ (f 3).toInt ≤ 6 ∧ 0 ≤ (f 125).toInt ∧ (f 125).toInt ≤ 10 := h.1
theorem SaiO.ar {f : Nat → Int32} {d : Int} (h : SaiO f d) : ((((f 0).toInt = 1 ∧ 1 ≤ (f 2).toInt ∧ (f 2).toInt ≤ 10) ∨ ((f 0).toInt = 0 ∧ (f 3).toInt = 0)) ∧ 0 ≤ (f 3).toInt ∧ (f 3).toInt ≤ 6 ∧ 0 ≤ (f 125).toInt ∧ (f 125).toInt ≤ 10) ∧ 0 ≤ (f 10).toInt ∧ (f 10).toInt ≤ d := ⟨h.1.1, h.2⟩
theorem SaiB.congr {f g : Nat → Int32} (h : SaiB f) (e : ∀ m, m < 126 → g m = f m) : SaiB g := by
  unfold SaiB at *
  rw [e 0 (by decide), e 2 (by decide), e 3 (by decide), e 125 (by decide)]
  exact ⟨h.1, fun k hk => by rw [e (95 + 3 * k) (by omega)]; exact h.2 k hk⟩
theorem SaiO.congr {f g : Nat → Int32} {d : Int} (h : SaiO f d) (e : ∀ m, m < 126 → g m = f m) : SaiO g d := by
  unfold SaiO at *
  rw [e 10 (by decide)]
  exact ⟨h.1.congr e, h.2⟩
theorem SaiB.keep {f g : Nat → Int32} (h : SaiB f) {i : Nat} {x : Int32} (eg : g = upd f i x) (hi : i = 1 ∨ (4 ≤ i ∧ i < 95)) : SaiB g := by
  subst eg
  unfold SaiB at *
  rw [upd_ne (j := 0) (by omega), upd_ne (j := 2) (by omega), upd_ne (j := 3) (by omega), upd_ne (j := 125) (by omega)]
  exact ⟨h.1, fun k hk => by rw [upd_ne (j := 95 + 3 * k) (by omega)]; exact h.2 k hk⟩
theorem SaiO.keep {f g : Nat → Int32} {d : Int} (h : SaiO f d) {i : Nat} {x : Int32} (eg : g = upd f i x) (hi : i = 1 ∨ (4 ≤ i ∧ i < 10) ∨ (11 ≤ i ∧ i < 95)) : SaiO g d := by
  refine ⟨h.1.keep eg (by omega), ?_⟩
  subst eg
  rw [upd_ne (j := 10) (by omega)]
  exact h.2
theorem SaidB.ar {T : Nat → Option Int32} {f : Nat → Int32} (h : SaidB T f) : (((f 0).toInt = 1 ∧ 1 ≤ (f 2).toInt ∧ (f 2).toInt ≤ 10) ∨ ((f 0).toInt = 0 ∧ (f 3).toInt = 0)) ∧ 0 ≤ (f 3).toInt ∧ (f 3).toInt ≤ 6 ∧ 0 ≤ (f 125).toInt ∧ (f 125).toInt ≤ 10 := h.1.1
theorem SaidD.ar {T : Nat → Option Int32} {f : Nat → Int32} {d : Int} (h : SaidD T f d) : ((((f 0).toInt = 1 ∧ 1 ≤ (f 2).toInt ∧ (f 2).toInt ≤ 10) ∨ ((f 0).toInt = 0 ∧ (f 3).toInt = 0)) ∧ 0 ≤ (f 3).toInt ∧ (f 3).toInt ≤ 6 ∧ 0 ≤ (f 125).toInt ∧ (f 125).toInt ≤ 10) ∧ 0 ≤ (f 10).toInt ∧ (f 10).toInt ≤ d := ⟨h.1.1.1, h.2⟩
theorem SaidB.keep {T : Nat → Option Int32} {f g : Nat → Int32} (h : SaidB T f) {i : Nat} {x : Int32} (eg : g = upd f i x) (hi : 10 ≤ i ∧ i < 56) : SaidB T g :=
  ⟨h.1.keep eg (by omega), fun k v hk hv => by rw [eg, upd_ne (by omega)]; exact h.2 k v hk hv⟩
theorem SaidD.keep {T : Nat → Option Int32} {f g : Nat → Int32} {d : Int} (h : SaidD T f d) {i : Nat} {x : Int32} (eg : g = upd f i x) (hi : 11 ≤ i ∧ i < 56) : SaidD T g d := by
  refine ⟨h.1.keep eg (by omega), ?_⟩
  rw [eg, upd_ne (j := 10) (by omega)]
  exact h.2
def KeptD (k : Nat → Int32) : Prop := 0 ≤ (k 0).toInt ∧ (k 0).toInt ≤ 999
def KeptK (g : Nat → Int32) (k : Int32) : Prop := 1 ≤ k.toInt → KeptD g
theorem KeptK.step {T : Nat → Option Int32} {g g' f : Nat → Int32} {k k' i x : Int32} (h : KeptK g k) (hf : SaidD T f 999) (eg : g' = upd g k.toNatClampNeg x) (ex : x = f i.toNatClampNeg) (hi : i.toInt = 10 + k.toInt) (hk : 0 ≤ k.toInt) : KeptK g' k' := by
  intro _
  subst eg
  unfold KeptD
  by_cases z : k.toInt = 0
  · rw [clN (n := 0) z, upd_at, ex, clN (i := i) (n := 10) (by omega)]
    exact hf.2
  · have e : k.toNatClampNeg = k.toInt.toNat := rfl
    rw [upd_ne (j := 0) (by omega)]
    exact h (by omega)
def LayK (T : Nat → Option Int32) (g : Nat → Int32) (k : Int32) : Prop := SaidB T g ∧ (1 ≤ k.toInt → 0 ≤ (g 10).toInt ∧ (g 10).toInt ≤ 999)
theorem LayK.step {T : Nat → Option Int32} {g g' f : Nat → Int32} {k k' i x : Int32} (h : LayK T g k) (hx : k.toInt = 0 → 0 ≤ x.toInt ∧ x.toInt ≤ 999) (eg : g' = upd g i.toNatClampNeg x) (hi : i.toInt = 10 + k.toInt) (hk : 0 ≤ k.toInt ∧ k.toInt < 46) : LayK T g' k' := by
  have e : i.toNatClampNeg = i.toInt.toNat := rfl
  refine ⟨h.1.keep eg (by omega), fun _ => ?_⟩
  subst eg
  by_cases z : k.toInt = 0
  · rw [clN (i := i) (n := 10) (by omega), upd_at]
    exact hx z
  · rw [upd_ne (j := 10) (by omega)]
    exact h.2 (by omega)
def ImK (g f : Nat → Int32) (k i : Int32) : Prop := (∀ j : Nat, j < 4 → (j : Int) ≠ k.toInt → SaiO (fun m => g (126 * j + m)) 999) ∧ ∀ m : Nat, (m : Int) < i.toInt → g (126 * k.toInt.toNat + m) = f m
theorem ImK.step {g g' f : Nat → Int32} {k i i' j x : Int32} (h : ImK g f k i) (eg : g' = upd g j.toNatClampNeg x) (ex : x = f i.toNatClampNeg) (hj : j.toInt = 126 * k.toInt + i.toInt) (hi : 0 ≤ i.toInt ∧ i.toInt < 126) (hi' : i'.toInt = i.toInt + 1) (hk : 0 ≤ k.toInt ∧ k.toInt < 4) : ImK g' f k i' := by
  subst eg
  have e : j.toNatClampNeg = j.toInt.toNat := rfl
  refine ⟨fun q hq hne => (h.1 q hq hne).congr (fun m hm => ?_), fun m hm => ?_⟩
  · show upd g j.toNatClampNeg x (126 * q + m) = g (126 * q + m)
    rw [upd_ne (by omega)]
  · by_cases z : (m : Int) = i.toInt
    · have e3 : 126 * k.toInt.toNat + m = j.toNatClampNeg := by omega
      rw [e3, upd_at, ex, clN (n := m) z.symm]
    · rw [upd_ne (by omega)]
      exact h.2 m (by omega)
def BkK (g f : Nat → Int32) (k i : Int32) : Prop := ∀ m : Nat, (m : Int) < i.toInt → g m = f (126 * k.toInt.toNat + m)
theorem BkK.step {g g' f : Nat → Int32} {k i i' j x : Int32} (h : BkK g f k i) (eg : g' = upd g i.toNatClampNeg x) (ex : x = f j.toNatClampNeg) (hj : j.toInt = 126 * k.toInt + i.toInt) (hi : 0 ≤ i.toInt ∧ i.toInt < 126) (hi' : i'.toInt = i.toInt + 1) (hk : 0 ≤ k.toInt ∧ k.toInt < 4) : BkK g' f k i' := by
  subst eg
  intro m hm
  have e : i.toNatClampNeg = i.toInt.toNat := rfl
  by_cases z : (m : Int) = i.toInt
  · have e2 : m = i.toNatClampNeg := by omega
    have e3 : j.toNatClampNeg = 126 * k.toInt.toNat + m := by
      show j.toInt.toNat = _
      omega
    rw [← e3, e2, upd_at, ex]
  · rw [upd_ne (by omega)]
    exact h m (by omega)
def WFc (f : Nat → Int32) (t b e : Int32) : Prop := (0 ≤ b.toInt ∧ b.toInt ≤ e.toInt ∧ e.toInt ≤ 400) ∧ dep f (e.toInt.toNat - b.toInt.toNat) (400 * t.toInt.toNat + b.toInt.toNat) 0 = some 1
def RK (f : Nat → Int32) (t i e top : Int32) : Prop := (0 ≤ i.toInt ∧ i.toInt ≤ e.toInt ∧ e.toInt ≤ 400 ∧ 0 ≤ top.toInt ∧ top.toInt ≤ 60) ∧ dep f (e.toInt.toNat - i.toInt.toNat) (400 * t.toInt.toNat + i.toInt.toNat) top.toInt.toNat = some 1
theorem RK.ar {f : Nat → Int32} {t i e top : Int32} (h : RK f t i e top) : 0 ≤ i.toInt ∧ i.toInt ≤ e.toInt ∧ e.toInt ≤ 400 ∧ 0 ≤ top.toInt ∧ top.toInt ≤ 60 ∧ (i.toInt = e.toInt → top.toInt = 1) := by
  obtain ⟨h1, h2⟩ := h
  refine ⟨h1.1, h1.2.1, h1.2.2.1, h1.2.2.2.1, h1.2.2.2.2, fun z => ?_⟩
  have e0 : e.toInt.toNat - i.toInt.toNat = 0 := by omega
  rw [e0] at h2
  have := Option.some.inj h2
  omega
theorem RK.step {f : Nat → Int32} {t i e top : Int32} (h : RK f t i e top) (hlt : i.toInt < e.toInt) (ht : 0 ≤ t.toInt) {j x : Int32} (hj : j.toInt = 400 * t.toInt + i.toInt) (ex : x = f j.toNatClampNeg) : ∃ d' : Nat, stp x top.toInt.toNat = some d' ∧ dep f (e.toInt.toNat - (i.toInt.toNat + 1)) (400 * t.toInt.toNat + (i.toInt.toNat + 1)) d' = some 1 := by
  obtain ⟨h1, h2⟩ := h
  have e0 : e.toInt.toNat - i.toInt.toNat = (e.toInt.toNat - (i.toInt.toNat + 1)) + 1 := by omega
  rw [e0] at h2
  have e1 : j.toNatClampNeg = 400 * t.toInt.toNat + i.toInt.toNat := by
    show j.toInt.toNat = _
    omega
  rw [e1] at ex
  unfold dep at h2
  rw [← ex] at h2
  cases hs : stp x top.toInt.toNat with
  | none => rw [hs] at h2; cases h2
  | some d' => rw [hs] at h2; exact ⟨d', rfl, h2⟩
def RulD (sg cl cs : Nat → Int32) (n : Int32) : Prop := ∀ t : Nat, (t : Int) < n.toInt → (cs t).toInt ≤ 12 ∧ ∀ c : Nat, (c : Int) < (cs t).toInt → ∀ T : Int32, T.toInt = (t : Int) → WFc sg T (cl (48 * t + 4 * c)) (cl (48 * t + 4 * c + 1)) ∧ (0 ≤ (cl (48 * t + 4 * c + 2)).toInt → WFc sg T (cl (48 * t + 4 * c + 2)) (cl (48 * t + 4 * c + 3)))
theorem WFc.ar {f : Nat → Int32} {t b e : Int32} (h : WFc f t b e) : 0 ≤ b.toInt ∧ b.toInt ≤ e.toInt ∧ e.toInt ≤ 400 := h.1
def Ltr (f : Nat → Int32) (tp k : Int32) : Prop := k.toInt < tp.toInt ∧ 97 ≤ (f k.toNatClampNeg).toInt ∧ (f k.toNatClampNeg).toInt ≤ 122
def LtN (f : Nat → Int32) (tp nx n : Int32) : Prop := 1 ≤ n.toInt → Ltr f tp nx
theorem LtN.step {f : Nat → Int32} {tp nx n n' x : Int32} (h : LtN f tp nx n) (h1 : Ltr f tp x) (hx : x.toInt = nx.toInt + n.toInt) (hn : 0 ≤ n.toInt) : LtN f tp nx n' := by
  intro _
  by_cases z : n.toInt = 0
  · have e : x = nx := Int32.toInt_inj.mp (by omega)
    rw [← e]; exact h1
  · exact h (by omega)
theorem Cd.ar {sg ln : Nat → Int32} {t b md : Int32} {d : Nat} (h : Cd sg ln t b md d) : 0 ≤ t.toInt ∧ t.toInt ≤ 5 ∧ 0 ≤ b.toInt ∧ b.toInt ≤ (ln t.toNatClampNeg).toInt ∧ (ln t.toNatClampNeg).toInt ≤ 400 ∧ (d : Int) ≤ md.toInt ∧ md.toInt ≤ 60 := h.1
theorem OpS.ar {op : Nat → Int32} {n : Int32} {p : Nat} (h : OpS op n p) : 0 ≤ n.toInt ∧ n.toInt ≤ 400 := h.1
def LBR (op : Nat → Int32) (n : Int32) (sg ln : Nat → Int32) (t b md : Int32) : Prop := ∃ p : Nat, OpS op n p ∧ Cd sg ln t b md p
theorem LBR.ar {op : Nat → Int32} {n : Int32} {sg ln : Nat → Int32} {t b md : Int32} (h : LBR op n sg ln t b md) : 0 ≤ n.toInt ∧ n.toInt ≤ 400 ∧ 0 ≤ t.toInt ∧ t.toInt ≤ 5 ∧ 0 ≤ (ln t.toNatClampNeg).toInt ∧ (ln t.toNatClampNeg).toInt ≤ 400 ∧ 0 ≤ md.toInt ∧ md.toInt ≤ 60 := by
  obtain ⟨p, h1, h2⟩ := h
  have := h1.1
  have := h2.1
  omega
theorem LSR.ar {op : Nat → Int32} {n : Int32} {sg ln : Nat → Int32} {t b md : Int32} (h : LSR op n sg ln t b md) : 0 ≤ n.toInt ∧ n.toInt ≤ 400 ∧ 0 ≤ t.toInt ∧ t.toInt ≤ 5 ∧ 0 ≤ (ln t.toNatClampNeg).toInt ∧ (ln t.toNatClampNeg).toInt ≤ 400 ∧ 0 ≤ md.toInt ∧ md.toInt ≤ 60 := by
  obtain ⟨p, h1, h2⟩ := h
  have := h1.1
  have := h2.1
  omega
def InK (op : Nat → Int32) (n n' : Int32) : Prop := ∀ k : Nat, (k : Int) < n.toInt → (op k).toInt = 91 → (k : Int) < n'.toInt
def Ins (op : Nat → Int32) (n : Int32) : Prop := ∃ k : Nat, (k : Int) < n.toInt ∧ (op k).toInt = 91
theorem InK.step {op : Nat → Int32} {n m m' x : Int32} (h : InK op n m) (ex : x = op m'.toNatClampNeg) (hx : x.toInt ≠ 91) (hm : m'.toInt = m.toInt - 1) (h0 : 0 ≤ m'.toInt) : InK op n m' := fun k hk hv => by
  have h1 := h k hk hv
  by_cases z : (k : Int) = m'.toInt
  · have e : m'.toNatClampNeg = k := clN z.symm
    rw [e] at ex
    rw [ex] at hx
    exact absurd hv hx
  · omega
theorem Ins.ar {op : Nat → Int32} {n : Int32} (h : Ins op n) : 1 ≤ n.toInt := by
  obtain ⟨k, h1, h2⟩ := h
  omega
theorem NIns.step {op : Nat → Int32} {k k' x : Int32} (h : NIns op k) (ex : x = op k.toNatClampNeg) (hx : ¬ x.toInt = 91) (hk : k'.toInt = k.toInt + 1) (h0 : 0 ≤ k.toInt) : NIns op k' := fun j hj => by
  by_cases z : (j : Int) = k.toInt
  · rw [← clN z.symm, ← ex]; exact hx
  · exact h j (by omega)
def Stl (f : Nat → Int32) (tp a b : Int32) : Prop := a.toInt < tp.toInt → ¬ (f a.toNatClampNeg).toInt = 32 → b = a
theorem Stl.step {f : Nat → Int32} {tp a v v' x : Int32} (h : Stl f tp a v) (ex : x = f v.toNatClampNeg) (hx : x.toInt = 32) : Stl f tp a v' := fun h1 h2 => by
  have e := h h1 h2
  subst e
  rw [ex] at hx
  exact absurd hx h2
def RulP (sg cl cs : Nat → Int32) (t : Int32) (B : Int) : Prop := RulD sg cl cs t ∧ 0 ≤ (cs t.toInt.toNat).toInt ∧ ∀ c : Nat, (c : Int) < (cs t.toInt.toNat).toInt → (WFc sg t (cl (48 * t.toInt.toNat + 4 * c)) (cl (48 * t.toInt.toNat + 4 * c + 1)) ∧ (cl (48 * t.toInt.toNat + 4 * c + 1)).toInt ≤ B) ∧ (0 ≤ (cl (48 * t.toInt.toNat + 4 * c + 2)).toInt → WFc sg t (cl (48 * t.toInt.toNat + 4 * c + 2)) (cl (48 * t.toInt.toNat + 4 * c + 3)) ∧ (cl (48 * t.toInt.toNat + 4 * c + 3)).toInt ≤ B)
theorem WFc.agr {f g : Nat → Int32} {t b e : Int32} {k : Int} (h : WFc f t b e) (ha : Agr f g k) (ht : 0 ≤ t.toInt) (hk : 400 * t.toInt + e.toInt ≤ k) : WFc g t b e := by
  obtain ⟨h1, h2⟩ := h
  refine ⟨h1, ?_⟩
  rw [dep_congr (f := f) (g := g) _ _ _ (fun i hi1 hi2 => ha i (by omega))]
  exact h2
theorem RulD.agr {sg sg' cl cs : Nat → Int32} {n : Int32} {k : Int} (h : RulD sg cl cs n) (ha : Agr sg sg' k) (hk : 400 * n.toInt ≤ k) : RulD sg' cl cs n := fun t ht => by
  obtain ⟨h1, h2⟩ := h t ht
  refine ⟨h1, fun c hc T hT => ?_⟩
  obtain ⟨h3, h4⟩ := h2 c hc T hT
  have h5 := h3.1
  refine ⟨h3.agr ha (by omega) (by omega), fun hp => ?_⟩
  have h6 := h4 hp
  have h7 := h6.1
  exact h6.agr ha (by omega) (by omega)
theorem RulP.agr {sg sg' cl cs : Nat → Int32} {t : Int32} {B k : Int} (h : RulP sg cl cs t B) (ha : Agr sg sg' k) (ht : 0 ≤ t.toInt) (hk : 400 * t.toInt + B ≤ k) (hB : 0 ≤ B) : RulP sg' cl cs t B := by
  obtain ⟨h1, h0, h2⟩ := h
  refine ⟨h1.agr ha (by omega), h0, fun c hc => ?_⟩
  obtain ⟨⟨h3, h4⟩, h5⟩ := h2 c hc
  exact ⟨⟨h3.agr ha ht (by omega), h4⟩, fun hp => ⟨(h5 hp).1.agr ha ht (by have := (h5 hp).2; omega), (h5 hp).2⟩⟩
theorem RulD.cl {sg cl cl' cs : Nat → Int32} {n : Int32} {i : Nat} {x : Int32} (h : RulD sg cl cs n) (e : cl' = upd cl i x) (hi : 48 * n.toInt ≤ (i : Int)) : RulD sg cl' cs n := fun t ht => by
  obtain ⟨h1, h2⟩ := h t ht
  subst e
  refine ⟨h1, fun c hc T hT => ?_⟩
  rw [upd_ne (by omega), upd_ne (by omega), upd_ne (by omega), upd_ne (by omega)]
  exact h2 c hc T hT
theorem RulP.cl {sg cl cl' cs : Nat → Int32} {t : Int32} {B : Int} {i : Nat} {x : Int32} (h : RulP sg cl cs t B) (e : cl' = upd cl i x) (ht : 0 ≤ t.toInt) (hi : 48 * t.toInt + 4 * (cs t.toInt.toNat).toInt ≤ (i : Int)) : RulP sg cl' cs t B := by
  obtain ⟨h1, h0, h2⟩ := h
  refine ⟨h1.cl e (by omega), h0, fun c hc => ?_⟩
  subst e
  rw [upd_ne (by omega), upd_ne (by omega), upd_ne (by omega), upd_ne (by omega)]
  exact h2 c hc
def RdO (f : Nat → Int32) : Prop := (((f 0).toInt = 1 ∧ 1 ≤ (f 2).toInt ∧ (f 2).toInt ≤ 10) ∨ ((f 0).toInt = 0 ∧ (f 3).toInt = 0)) ∧ 0 ≤ (f 3).toInt ∧ (f 3).toInt ≤ 6
theorem RdO.ar {f : Nat → Int32} (h : RdO f) : (((f 0).toInt = 1 ∧ 1 ≤ (f 2).toInt ∧ (f 2).toInt ≤ 10) ∨ ((f 0).toInt = 0 ∧ (f 3).toInt = 0)) ∧ 0 ≤ (f 3).toInt ∧ (f 3).toInt ≤ 6 := h
def Rd0 (f : Nat → Int32) (k : Int32) : Prop := ∀ i : Nat, (i : Int) < k.toInt → (f i).toInt = 0
theorem Rd0.step {f g : Nat → Int32} {k k' : Int32} (h : Rd0 f k) (e : g = upd f k.toNatClampNeg 0) (hk : k'.toInt = k.toInt + 1) (h0 : 0 ≤ k.toInt) : Rd0 g k' := fun i hi => by
  have en : k.toNatClampNeg = k.toInt.toNat := rfl
  by_cases z : i = k.toNatClampNeg
  · rw [e, z, upd_at]; decide
  · rw [e, upd_ne z]; exact h i (by omega)
def SdK (g f : Nat → Int32) (k : Int32) : Prop := ∀ i : Nat, (i : Int) < k.toInt → (i < 95 → g i = f i) ∧ (95 ≤ i → (g i).toInt = 0)
theorem SdK.step {g g' f : Nat → Int32} {k k' x : Int32} (h : SdK g f k) (e : g' = upd g k.toNatClampNeg x) (hx : (k.toInt < 95 ∧ x = f k.toNatClampNeg) ∨ (95 ≤ k.toInt ∧ x.toInt = 0)) (hk : k'.toInt = k.toInt + 1) (h0 : 0 ≤ k.toInt) : SdK g' f k' := fun i hi => by
  have en : k.toNatClampNeg = k.toInt.toNat := rfl
  by_cases z : i = k.toNatClampNeg
  · rw [e, z, upd_at]
    rcases hx with ⟨q, hx⟩ | ⟨q, hx⟩
    · exact ⟨fun _ => hx, fun _ => by omega⟩
    · exact ⟨fun _ => by omega, fun _ => hx⟩
  · rw [e, upd_ne z]; exact h i (by omega)
def SmL (f : Nat → Int32) (n : Int32) (R : Except Int (Nat × Nat)) (a b c d ct i : Int32) : Prop := ∃ q, TpR f n q a b c d ∧ Ctd q ct ∧ R = pz_b q (pz_lp (pz_sF (cB f n))) ∧ ∀ s, q = .ok s → i.toInt ≤ (s.1 : Int)
theorem SmL.first {f : Nat → Int32} {n : Int32} {r : Except Int (Nat × Nat)} {a b c d ct : Int32} (h : TpR f n (pz_b r (pz_val (cB f n))) a b c d) (hc : Ctd (pz_b r (pz_val (cB f n))) ct) : SmL f n (pz_b r (pz_sum (cB f n))) a b c d ct 0 := ⟨_, h, hc, by cases r <;> rfl, fun s _ => Int.natCast_nonneg s.1⟩
def TeL (f : Nat → Int32) (n : Int32) (m : Nat) (R : Except Int (Nat × Nat)) (a b c d ct i : Int32) : Prop := ∃ q, TpR f n q a b c d ∧ Ctd q ct ∧ R = pz_b q (pz_lp (pz_tF (cB f n) (pz_fact (cB f n) m))) ∧ ∀ s, q = .ok s → i.toInt ≤ (s.1 : Int)
theorem TeL.first {f : Nat → Int32} {n : Int32} {m : Nat} {r : Except Int (Nat × Nat)} {a b c d ct : Int32} (h : TpR f n (pz_b r (pz_fact (cB f n) m)) a b c d) (hc : Ctd (pz_b r (pz_fact (cB f n) m)) ct) : TeL f n m (pz_b r (pz_tst (cB f n) (pz_fact (cB f n) m))) a b c d ct 0 := by
  refine ⟨_, h, hc, by cases r <;> rfl, fun s _ => ?_⟩
  have : (0 : Int32).toInt = 0 := by decide
  omega
theorem wb_tb (n : Nat) : (lN n).toBitVec = BitVec.ofNat 64 n := rfl
theorem wb_inj {a b : Int64} (h : a.toBitVec = b.toBitVec) : a = b := Int64.toBitVec_inj.mp h
theorem wb_c : ∀ k, k < 64 → ((nI k).toInt64 &&& 63) = lN k := by decide +kernel
theorem wb_sm : ∀ k, k < 64 → (BitVec.ofNat 64 k).smod 64 = BitVec.ofNat 64 k := by decide +kernel
theorem wb_shl (n : Nat) {k : Nat} (hk : k < 64) : lN n <<< ((nI k).toInt64 &&& 63) = lN (n * 2 ^ k) := by
  rw [wb_c k hk]
  apply wb_inj
  rw [Int64.toBitVec_shiftLeft, wb_tb, wb_tb, wb_tb, wb_sm k hk]
  apply BitVec.eq_of_toNat_eq
  rw [BitVec.shiftLeft_eq', BitVec.toNat_shiftLeft, BitVec.toNat_ofNat, BitVec.toNat_ofNat, BitVec.toNat_ofNat, Nat.mod_eq_of_lt (show k < 2 ^ 64 by omega), Nat.shiftLeft_eq, Nat.mul_mod, Nat.mod_mod, ← Nat.mul_mod]
theorem u_tn {n : Nat} (h : n < 2 ^ 64) : (UInt64.ofNat n).toNat = n := Nat.mod_eq_of_lt h
theorem g_or {k p a b : Nat} (hp : 2 ^ k = p) (ha : a < p) (h : b * p + a < 2 ^ 64) : lN (b * p) ||| lN a = lN (b * p + a) := by
  subst hp
  have h1 : b * 2 ^ k ||| a = b * 2 ^ k + a := by rw [← Nat.shiftLeft_eq, Nat.shiftLeft_add_eq_or_of_lt ha]
  have h3 : UInt64.ofNat (b * 2 ^ k) ||| UInt64.ofNat a = UInt64.ofNat (b * 2 ^ k + a) := UInt64.toNat_inj.mp (by rw [UInt64.toNat_or, u_tn (by omega), u_tn (by omega), u_tn h, h1])
  have h2 := congrArg UInt64.toInt64 h3
  exact h2
def RnB (P : Int → Bool) (B : Nat → Int) (p q : Int) : Prop := p ≤ q ∧ ∀ i : Nat, p ≤ (i : Int) → (i : Int) < q → P (B i) = true
theorem RnB.st {P : Int → Bool} {B : Nat → Int} {p q q' : Int} (h : RnB P B p q) (h0 : 0 ≤ q) (hP : P (B q.toNat) = true) (hq : q' = q + 1) : RnB P B p q' := by
  have hp := h.1
  refine ⟨by omega, fun i a b => ?_⟩
  by_cases z : (i : Int) < q
  · exact h.2 i a z
  · rw [show i = q.toNat by omega]; exact hP
theorem getD_ap {t s : List Int} {i : Nat} (h : i < t.length) : (t ++ s).getD i 0 = t.getD i 0 := by
  rw [List.getD_eq_getElem?_getD, List.getD_eq_getElem?_getD, List.getElem?_append_left h]
def pz_pk (B : Nat → Int) (p : Nat) : Nat → Int
  | 0 => 0
  | k + 1 => pz_pk B p k * 256 + B (p + k)
def pz_pl : List Int → Int
  | [] => 0
  | x :: t => x * 256 ^ t.length + pz_pl t
theorem pz_pl_snoc (x : Int) : ∀ t : List Int, pz_pl (t ++ [x]) = pz_pl t * 256 + x
  | [] => by simp [pz_pl]
  | y :: t => by
    have ih := pz_pl_snoc x t
    show y * 256 ^ (t ++ [x]).length + pz_pl (t ++ [x]) = (y * 256 ^ t.length + pz_pl t) * 256 + x
    rw [ih, List.length_append, List.length_singleton, Int.pow_succ, Int.add_mul, Int.mul_assoc]
    omega
theorem pz_pk_nn {B : Nat → Int} {p : Nat} : ∀ n : Nat, (∀ i, i < n → 97 ≤ B (p + i) ∧ B (p + i) ≤ 122) → 0 ≤ pz_pk B p n
  | 0, _ => Int.le_refl _
  | n + 1, h => by
    have h1 := pz_pk_nn n (fun i hi => h i (by omega))
    have h2 := h n (by omega)
    show 0 ≤ pz_pk B p n * 256 + B (p + n)
    omega
theorem pz_pl_nn : ∀ L : List Int, (∀ x ∈ L, 97 ≤ x ∧ x ≤ 122) → 0 ≤ pz_pl L
  | [], _ => Int.le_refl _
  | x :: t, h => by
    have h1 := pz_pl_nn t (fun y hy => h y (List.mem_cons_of_mem _ hy))
    have h2 := h x List.mem_cons_self
    have h3 : 0 ≤ x * 256 ^ t.length := Int.mul_nonneg (by omega) (Int.pow_nonneg (by decide))
    show 0 ≤ x * 256 ^ t.length + pz_pl t
    omega
theorem pz_pk_inj {B : Nat → Int} {p : Nat} : ∀ (n : Nat) (L : List Int), (∀ i, i < n → 97 ≤ B (p + i) ∧ B (p + i) ≤ 122) → (∀ x ∈ L, 97 ≤ x ∧ x ≤ 122) → pz_pk B p n = pz_pl L → n = L.length ∧ ∀ i, i < n → B (p + i) = L.getD i 0
  | 0, L, _, hL, e => by
    cases L with
    | nil => exact ⟨rfl, fun i hi => absurd hi (Nat.not_lt_zero i)⟩
    | cons x t =>
      exfalso
      have h1 := pz_pl_nn t (fun y hy => hL y (List.mem_cons_of_mem _ hy))
      have h2 := hL x List.mem_cons_self
      have h4 : (1 : Int) ≤ 256 ^ t.length := by
        have := Nat.pow_pos (n := t.length) (show 0 < 256 by decide)
        exact_mod_cast this
      have h3 : 97 * 1 ≤ x * 256 ^ t.length := Int.mul_le_mul h2.1 h4 (by decide) (by omega)
      have e : 0 = x * 256 ^ t.length + pz_pl t := e
      omega
  | n + 1, L, hB, hL, e => by
    have hb := hB n (by omega)
    have e : pz_pk B p n * 256 + B (p + n) = pz_pl L := e
    rcases List.eq_nil_or_concat L with rfl | ⟨t, x, rfl⟩
    · exfalso
      have h1 := pz_pk_nn (B := B) (p := p) n (fun i hi => hB i (by omega))
      have e : pz_pk B p n * 256 + B (p + n) = 0 := e
      omega
    · have hx := hL x (by simp)
      rw [List.concat_eq_append, pz_pl_snoc] at e
      have e1 : B (p + n) = x := by omega
      have e2 : pz_pk B p n = pz_pl t := by omega
      obtain ⟨h1, h2⟩ := pz_pk_inj n t (fun i hi => hB i (by omega)) (fun y hy => hL y (by simp [hy])) e2
      refine ⟨by simp [h1], fun i hi => ?_⟩
      by_cases z : i < n
      · rw [h2 i z, List.concat_eq_append, getD_ap (by omega)]
      · have : i = n := by omega
        subst this
        rw [e1, List.concat_eq_append, h1]
        simp
theorem pz_pk_of {B : Nat → Int} {p : Nat} (L : List Int) : (∀ i, i < L.length → B (p + i) = L.getD i 0) → pz_pk B p L.length = pz_pl L := by
  suffices h : ∀ (n : Nat) (L : List Int), L.length = n → (∀ i, i < L.length → B (p + i) = L.getD i 0) → pz_pk B p L.length = pz_pl L from h _ L rfl
  intro n
  induction n with
  | zero => intro L hL _; rw [List.eq_nil_of_length_eq_zero hL]; rfl
  | succ n ih =>
    intro L hL h
    rcases List.eq_nil_or_concat L with rfl | ⟨t, x, rfl⟩
    · simp at hL
    · rw [List.concat_eq_append] at *
      have ht : t.length = n := by simpa using hL
      have h1 := ih t ht (fun i hi => by rw [h i (by simp; omega), getD_ap hi])
      have h2 : B (p + t.length) = x := by rw [h t.length (by simp)]; simp
      rw [pz_pl_snoc, List.length_append, List.length_singleton]
      show pz_pk B p t.length * 256 + B (p + t.length) = _
      rw [h1, h2]
def PkW (B : Nat → Int) (p : Nat) (w : Int) : Prop := ∃ n : Nat, 1 ≤ n ∧ n ≤ 7 ∧ pz_run pz_isL B 401 p = p + n ∧ pz_pk B p n = w
theorem PkW.wd {B : Nat → Int} {p : Nat} {L : List Int} (hL : ∀ x ∈ L, 97 ≤ x ∧ x ≤ 122) (h1 : 1 ≤ L.length) (h7 : L.length ≤ 7) : PkW B p (pz_pl L) ↔ pz_wd B p L = true := by
  constructor
  · rintro ⟨n, hn1, hn7, hr, hp⟩
    have hB : ∀ i, i < n → 97 ≤ B (p + i) ∧ B (p + i) ≤ 122 := fun i hi => of_decide_eq_true (pz_run_all (P := pz_isL) (B := B) 401 p (p + i) (by omega) (by rw [hr]; omega))
    obtain ⟨e1, e2⟩ := pz_pk_inj n L hB hL hp
    subst e1
    refine decide_eq_true ⟨?_, e2⟩
    unfold pz_te
    rw [if_pos (show pz_isL (B p) = true from decide_eq_true (hB 0 (by omega)))]
    exact hr
  · intro h
    obtain ⟨h2, h3⟩ := of_decide_eq_true h
    have hl : ∀ i, i < L.length → 97 ≤ B (p + i) ∧ B (p + i) ≤ 122 := fun i hi => by
      rw [h3 i hi]
      refine hL _ ?_
      rw [List.getD_eq_getElem?_getD, List.getElem?_eq_getElem hi]
      exact List.getElem_mem hi
    refine ⟨L.length, h1, h7, ?_, pz_pk_of L h3⟩
    rw [← h2]
    unfold pz_te
    rw [if_pos (show pz_isL (B p) = true from decide_eq_true (hl 0 (by omega)))]
def NPk (B : Nat → Int) (p : Nat) (w : Int) : Prop := ¬ PkW B p w
theorem nI_ofP {y : Int32} (h : 0 ≤ y.toInt) : y = nI y.toInt.toNat := by
  apply Int32.toInt_inj.mp
  rw [nI_toInt (by have := y.toInt_lt; omega)]
  omega
theorem pz_pk_lt {B : Nat → Int} {p : Nat} : ∀ n : Nat, (∀ i, i < n → 97 ≤ B (p + i) ∧ B (p + i) ≤ 122) → pz_pk B p n < 256 ^ n
  | 0, _ => Int.zero_lt_one
  | n + 1, h => by
    have h1 := pz_pk_lt n (fun i hi => h i (by omega))
    have h2 := h n (by omega)
    show pz_pk B p n * 256 + B (p + n) < 256 ^ (n + 1)
    rw [Int.pow_succ]
    omega
def PkV (B : Nat → Int) (nx n : Int32) (v : Int64) : Prop := n.toInt ≤ 7 → v = lN (pz_pk B nx.toInt.toNat n.toInt.toNat).toNat
theorem RnB.let {B : Nat → Int} {p q : Int} (h : RnB pz_isL B p q) (h0 : 0 ≤ p) : ∀ i : Nat, i < (q - p).toNat → 97 ≤ B (p.toNat + i) ∧ B (p.toNat + i) ≤ 122 := fun i hi => of_decide_eq_true (h.2 (p.toNat + i) (by omega) (by omega))
theorem PkV.st {B : Nat → Int} {nx n n' y : Int32} {v v' x1 : Int64} (h : PkV B nx n v) (hr : RnB pz_isL B nx.toInt (nx.toInt + n.toInt)) (h0 : 0 ≤ nx.toInt ∧ 0 ≤ n.toInt) (hy : y.toInt = B (nx.toInt.toNat + n.toInt.toNat)) (hL : 97 ≤ y.toInt ∧ y.toInt ≤ 122) (e1 : x1 = v <<< ((8 : Int32).toInt64 &&& 63)) (e2 : v' = x1 ||| y.toInt64) (hn : n'.toInt = n.toInt + 1) : PkV B nx n' v' := fun z => by
  have hv := h (by omega)
  have hlet : ∀ i, i < n.toInt.toNat → 97 ≤ B (nx.toInt.toNat + i) ∧ B (nx.toInt.toNat + i) ≤ 122 := fun i hi => hr.let h0.1 i (by omega)
  have h1 := pz_pk_nn n.toInt.toNat hlet
  have h2 := pz_pk_lt n.toInt.toNat hlet
  have h3 : (256 : Int) ^ n.toInt.toNat ≤ 256 ^ 6 := by
    have := Nat.pow_le_pow_right (n := 256) (by decide) (show n.toInt.toNat ≤ 6 by omega)
    have h4 : ((256 ^ n.toInt.toNat : Nat) : Int) ≤ ((256 ^ 6 : Nat) : Int) := Int.ofNat_le.mpr this
    rw [Int.natCast_pow, Int.natCast_pow] at h4
    exact h4
  obtain ⟨a, ha⟩ : ∃ a : Nat, (pz_pk B nx.toInt.toNat n.toInt.toNat).toNat = a := ⟨_, rfl⟩
  have ha2 : (a : Int) < 281474976710656 := by
    have : (256 : Int) ^ 6 = 281474976710656 := by decide
    omega
  rw [ha] at hv
  have e3 : y.toInt64 = lN y.toInt.toNat := by
    conv => lhs; rw [nI_ofP (y := y) (by omega)]
    exact nI_l (by omega)
  have e4 : lN a <<< ((8 : Int32).toInt64 &&& 63) = lN (a * 256) := wb_shl a (k := 8) (by decide)
  rw [e2, e1, hv, e3, e4, g_or (k := 8) (p := 256) rfl (by omega) (by omega)]
  congr 1
  rw [show n'.toInt.toNat = n.toInt.toNat + 1 by omega]
  show a * 256 + y.toInt.toNat = (pz_pk B nx.toInt.toNat n.toInt.toNat * 256 + B (nx.toInt.toNat + n.toInt.toNat)).toNat
  omega
theorem NvF.st {B : Nat → Int} {a v v' i i' x : Int32} (h : NvF B a v i) (hi : 0 ≤ a.toInt ∧ a.toInt ≤ i.toInt) (h5 : i.toInt - a.toInt < 5) (hx : x.toInt = B i.toInt.toNat) (hd : 48 ≤ x.toInt ∧ x.toInt ≤ 57) (hv : v'.toInt = v.toInt * 10 + x.toInt - 48) (hi' : i'.toInt = i.toInt + 1) : NvF B a v' i' := by
  have h1 := Nv.st (h.1 (by omega)) hi hx hd hv hi'
  have h2 := Nv.ar (h.1 (by omega))
  have h3 := h2.2.2 (by omega)
  exact ⟨fun _ => h1, by omega, by omega⟩
