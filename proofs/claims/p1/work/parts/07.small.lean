theorem dX11_ahead_0 : decode cX11_ahead 0 = .ok (.aload_n 0, 1) := by decide +kernel
theorem dX11_ahead_1 : decode cX11_ahead 1 = .ok (.getfield 51, 3) := by decide +kernel
theorem dX11_ahead_4 : decode cX11_ahead 4 = .ok (.invokevirtual 176, 3) := by decide +kernel
theorem dX11_ahead_7 : decode cX11_ahead 7 = .ok (.ifCond .eq 22, 3) := by decide +kernel
theorem dX11_ahead_29 : decode cX11_ahead 29 = .ok (.iconst (-1), 1) := by decide +kernel
theorem dX11_ahead_30 : decode cX11_ahead 30 = .ok (.ireturn, 1) := by decide +kernel
theorem dX11_back_0 : decode cX11_back 0 = .ok (.iload_n 1, 1) := by decide +kernel
theorem dX11_back_1 : decode cX11_back 1 = .ok (.ifCond .lt 12, 3) := by decide +kernel
theorem dX11_back_4 : decode cX11_back 4 = .ok (.iload_n 1, 1) := by decide +kernel
theorem dX11_back_5 : decode cX11_back 5 = .ok (.aload_n 0, 1) := by decide +kernel
theorem dX11_back_6 : decode cX11_back 6 = .ok (.getfield 61, 3) := by decide +kernel
theorem dX11_back_9 : decode cX11_back 9 = .ok (.arraylength, 1) := by decide +kernel
theorem dX11_back_10 : decode cX11_back 10 = .ok (.if_icmp .lt 5, 3) := by decide +kernel
theorem dX11_back_13 : decode cX11_back 13 = .ok (.iconst (-1), 1) := by decide +kernel
theorem dX11_back_14 : decode cX11_back 14 = .ok (.ireturn, 1) := by decide +kernel
theorem dX11_back_15 : decode cX11_back 15 = .ok (.aload_n 0, 1) := by decide +kernel
theorem dX11_back_16 : decode cX11_back 16 = .ok (.getfield 61, 3) := by decide +kernel
theorem dX11_back_19 : decode cX11_back 19 = .ok (.iload_n 1, 1) := by decide +kernel
theorem dX11_back_20 : decode cX11_back 20 = .ok (.aaload, 1) := by decide +kernel
theorem dX11_back_21 : decode cX11_back 21 = .ok (.astore_n 2, 1) := by decide +kernel
theorem dX11_back_22 : decode cX11_back 22 = .ok (.aload_n 2, 1) := by decide +kernel
theorem dX11_back_23 : decode cX11_back 23 = .ok (.ifnonnull 5, 3) := by decide +kernel
theorem dX11_back_26 : decode cX11_back 26 = .ok (.iconst (-1), 1) := by decide +kernel
theorem dX11_back_27 : decode cX11_back 27 = .ok (.ireturn, 1) := by decide +kernel
theorem dX11_best_0 : decode cX11_best 0 = .ok (.aload_n 0, 1) := by decide +kernel
theorem dX11_best_1 : decode cX11_best 1 = .ok (.getfield 51, 3) := by decide +kernel
theorem dX11_best_4 : decode cX11_best 4 = .ok (.invokevirtual 176, 3) := by decide +kernel
theorem dX11_best_7 : decode cX11_best 7 = .ok (.ifCond .eq 22, 3) := by decide +kernel
theorem dX11_best_29 : decode cX11_best 29 = .ok (.bipush (-2), 2) := by decide +kernel
theorem dX11_best_31 : decode cX11_best 31 = .ok (.ireturn, 1) := by decide +kernel
theorem dX11_buyer_0 : decode cX11_buyer 0 = .ok (.aload_n 0, 1) := by decide +kernel
theorem dX11_buyer_1 : decode cX11_buyer 1 = .ok (.getfield 51, 3) := by decide +kernel
theorem dX11_buyer_4 : decode cX11_buyer 4 = .ok (.iload_n 1, 1) := by decide +kernel
theorem dX11_buyer_5 : decode cX11_buyer 5 = .ok (.invokevirtual 133, 3) := by decide +kernel
theorem dX11_buyer_8 : decode cX11_buyer 8 = .ok (.ifCond .ne 5, 3) := by decide +kernel
theorem dX11_buyer_11 : decode cX11_buyer 11 = .ok (.iconst (-1), 1) := by decide +kernel
theorem dX11_buyer_12 : decode cX11_buyer 12 = .ok (.ireturn, 1) := by decide +kernel
theorem dX11_buys_0 : decode cX11_buys 0 = .ok (.aload_n 0, 1) := by decide +kernel
theorem dX11_buys_1 : decode cX11_buys 1 = .ok (.getfield 51, 3) := by decide +kernel
theorem dX11_buys_4 : decode cX11_buys 4 = .ok (.iload_n 1, 1) := by decide +kernel
theorem dX11_buys_5 : decode cX11_buys 5 = .ok (.invokevirtual 133, 3) := by decide +kernel
theorem dX11_buys_8 : decode cX11_buys 8 = .ok (.ifCond .eq 22, 3) := by decide +kernel
theorem dX11_buys_30 : decode cX11_buys 30 = .ok (.iconst (-1), 1) := by decide +kernel
theorem dX11_buys_31 : decode cX11_buys 31 = .ok (.ireturn, 1) := by decide +kernel
theorem dX11_calm_0 : decode cX11_calm 0 = .ok (.aload_n 0, 1) := by decide +kernel
theorem dX11_calm_1 : decode cX11_calm 1 = .ok (.getfield 51, 3) := by decide +kernel
theorem dX11_calm_4 : decode cX11_calm 4 = .ok (.iload_n 1, 1) := by decide +kernel
theorem dX11_calm_5 : decode cX11_calm 5 = .ok (.invokevirtual 133, 3) := by decide +kernel
theorem dX11_calm_8 : decode cX11_calm 8 = .ok (.ifCond .eq 26, 3) := by decide +kernel
theorem dX11_calm_34 : decode cX11_calm 34 = .ok (.iconst (-1), 1) := by decide +kernel
theorem dX11_calm_35 : decode cX11_calm 35 = .ok (.ireturn, 1) := by decide +kernel
theorem dX11_change_0 : decode cX11_change 0 = .ok (.aload_n 0, 1) := by decide +kernel
theorem dX11_change_1 : decode cX11_change 1 = .ok (.getfield 51, 3) := by decide +kernel
theorem dX11_change_4 : decode cX11_change 4 = .ok (.iload_n 1, 1) := by decide +kernel
theorem dX11_change_5 : decode cX11_change 5 = .ok (.invokevirtual 163, 3) := by decide +kernel
theorem dX11_change_8 : decode cX11_change 8 = .ok (.ifCond .eq 26, 3) := by decide +kernel
theorem dX11_change_34 : decode cX11_change 34 = .ok (.iconst (-1), 1) := by decide +kernel
theorem dX11_change_35 : decode cX11_change 35 = .ok (.ireturn, 1) := by decide +kernel
theorem dX11_count_0 : decode cX11_count 0 = .ok (.iload_n 1, 1) := by decide +kernel
theorem dX11_count_1 : decode cX11_count 1 = .ok (.tableswitch 221 0 15 #[79, 87, 95, 103, 108, 116, 124, 139, 147, 162, 170, 178, 186, 197, 205, 213], 79) := by decide +kernel
theorem dX11_count_80 : decode cX11_count 80 = .ok (.aload_n 0, 1) := by decide +kernel
theorem dX11_count_81 : decode cX11_count 81 = .ok (.getfield 51, 3) := by decide +kernel
theorem dX11_count_84 : decode cX11_count 84 = .ok (.getfield 282, 3) := by decide +kernel
theorem dX11_count_87 : decode cX11_count 87 = .ok (.ireturn, 1) := by decide +kernel
theorem dX11_count_88 : decode cX11_count 88 = .ok (.aload_n 0, 1) := by decide +kernel
theorem dX11_count_89 : decode cX11_count 89 = .ok (.getfield 51, 3) := by decide +kernel
theorem dX11_count_92 : decode cX11_count 92 = .ok (.getfield 285, 3) := by decide +kernel
theorem dX11_count_95 : decode cX11_count 95 = .ok (.ireturn, 1) := by decide +kernel
theorem dX11_count_96 : decode cX11_count 96 = .ok (.aload_n 0, 1) := by decide +kernel
theorem dX11_count_97 : decode cX11_count 97 = .ok (.getfield 51, 3) := by decide +kernel
theorem dX11_count_100 : decode cX11_count 100 = .ok (.getfield 121, 3) := by decide +kernel
theorem dX11_count_103 : decode cX11_count 103 = .ok (.ireturn, 1) := by decide +kernel
theorem dX11_count_104 : decode cX11_count 104 = .ok (.aload_n 0, 1) := by decide +kernel
theorem dX11_count_105 : decode cX11_count 105 = .ok (.getfield 36, 3) := by decide +kernel
theorem dX11_count_108 : decode cX11_count 108 = .ok (.ireturn, 1) := by decide +kernel
theorem dX11_count_109 : decode cX11_count 109 = .ok (.aload_n 0, 1) := by decide +kernel
theorem dX11_count_110 : decode cX11_count 110 = .ok (.getfield 43, 3) := by decide +kernel
theorem dX11_count_113 : decode cX11_count 113 = .ok (.getfield 130, 3) := by decide +kernel
theorem dX11_count_116 : decode cX11_count 116 = .ok (.ireturn, 1) := by decide +kernel
theorem dX11_count_117 : decode cX11_count 117 = .ok (.aload_n 0, 1) := by decide +kernel
theorem dX11_count_118 : decode cX11_count 118 = .ok (.getfield 51, 3) := by decide +kernel
theorem dX11_count_121 : decode cX11_count 121 = .ok (.getfield 179, 3) := by decide +kernel
theorem dX11_count_124 : decode cX11_count 124 = .ok (.ireturn, 1) := by decide +kernel
theorem dX11_count_125 : decode cX11_count 125 = .ok (.aload_n 0, 1) := by decide +kernel
theorem dX11_count_126 : decode cX11_count 126 = .ok (.getfield 51, 3) := by decide +kernel
theorem dX11_count_129 : decode cX11_count 129 = .ok (.aload_n 0, 1) := by decide +kernel
theorem dX11_count_130 : decode cX11_count 130 = .ok (.getfield 51, 3) := by decide +kernel
theorem dX11_count_133 : decode cX11_count 133 = .ok (.getfield 179, 3) := by decide +kernel
theorem dX11_count_136 : decode cX11_count 136 = .ok (.invokevirtual 288, 3) := by decide +kernel
theorem dX11_count_139 : decode cX11_count 139 = .ok (.ireturn, 1) := by decide +kernel
theorem dX11_count_140 : decode cX11_count 140 = .ok (.aload_n 0, 1) := by decide +kernel
theorem dX11_count_141 : decode cX11_count 141 = .ok (.getfield 51, 3) := by decide +kernel
theorem dX11_count_144 : decode cX11_count 144 = .ok (.getfield 193, 3) := by decide +kernel
theorem dX11_count_147 : decode cX11_count 147 = .ok (.ireturn, 1) := by decide +kernel
theorem dX11_count_148 : decode cX11_count 148 = .ok (.aload_n 0, 1) := by decide +kernel
theorem dX11_count_149 : decode cX11_count 149 = .ok (.getfield 51, 3) := by decide +kernel
theorem dX11_count_152 : decode cX11_count 152 = .ok (.aload_n 0, 1) := by decide +kernel
theorem dX11_count_153 : decode cX11_count 153 = .ok (.getfield 51, 3) := by decide +kernel
theorem dX11_count_156 : decode cX11_count 156 = .ok (.getfield 179, 3) := by decide +kernel
theorem dX11_count_159 : decode cX11_count 159 = .ok (.invokevirtual 291, 3) := by decide +kernel
theorem dX11_count_162 : decode cX11_count 162 = .ok (.ireturn, 1) := by decide +kernel
theorem dX11_count_163 : decode cX11_count 163 = .ok (.aload_n 0, 1) := by decide +kernel
theorem dX11_count_164 : decode cX11_count 164 = .ok (.getfield 51, 3) := by decide +kernel
theorem dX11_count_167 : decode cX11_count 167 = .ok (.getfield 294, 3) := by decide +kernel
theorem dX11_count_170 : decode cX11_count 170 = .ok (.ireturn, 1) := by decide +kernel
theorem dX11_count_171 : decode cX11_count 171 = .ok (.aload_n 0, 1) := by decide +kernel
theorem dX11_count_172 : decode cX11_count 172 = .ok (.getfield 51, 3) := by decide +kernel
theorem dX11_count_175 : decode cX11_count 175 = .ok (.invokevirtual 297, 3) := by decide +kernel
theorem dX11_count_178 : decode cX11_count 178 = .ok (.ireturn, 1) := by decide +kernel
theorem dX11_count_179 : decode cX11_count 179 = .ok (.aload_n 0, 1) := by decide +kernel
theorem dX11_count_180 : decode cX11_count 180 = .ok (.getfield 51, 3) := by decide +kernel
theorem dX11_count_183 : decode cX11_count 183 = .ok (.invokevirtual 300, 3) := by decide +kernel
theorem dX11_count_186 : decode cX11_count 186 = .ok (.ireturn, 1) := by decide +kernel
theorem dX11_count_187 : decode cX11_count 187 = .ok (.aload_n 0, 1) := by decide +kernel
theorem dX11_count_188 : decode cX11_count 188 = .ok (.getfield 43, 3) := by decide +kernel
theorem dX11_count_191 : decode cX11_count 191 = .ok (.getfield 111, 3) := by decide +kernel
theorem dX11_count_194 : decode cX11_count 194 = .ok (.getfield 115, 3) := by decide +kernel
theorem dX11_count_197 : decode cX11_count 197 = .ok (.ireturn, 1) := by decide +kernel
theorem dX11_count_198 : decode cX11_count 198 = .ok (.aload_n 0, 1) := by decide +kernel
theorem dX11_count_199 : decode cX11_count 199 = .ok (.getfield 57, 3) := by decide +kernel
theorem dX11_count_202 : decode cX11_count 202 = .ok (.getfield 120, 3) := by decide +kernel
theorem dX11_count_205 : decode cX11_count 205 = .ok (.ireturn, 1) := by decide +kernel
theorem dX11_count_206 : decode cX11_count 206 = .ok (.aload_n 0, 1) := by decide +kernel
theorem dX11_count_207 : decode cX11_count 207 = .ok (.getfield 43, 3) := by decide +kernel
theorem dX11_count_210 : decode cX11_count 210 = .ok (.getfield 272, 3) := by decide +kernel
theorem dX11_count_213 : decode cX11_count 213 = .ok (.ireturn, 1) := by decide +kernel
theorem dX11_count_214 : decode cX11_count 214 = .ok (.aload_n 0, 1) := by decide +kernel
theorem dX11_count_215 : decode cX11_count 215 = .ok (.getfield 10, 3) := by decide +kernel
theorem dX11_count_218 : decode cX11_count 218 = .ok (.getfield 94, 3) := by decide +kernel
theorem dX11_count_221 : decode cX11_count 221 = .ok (.ireturn, 1) := by decide +kernel
theorem dX11_count_222 : decode cX11_count 222 = .ok (.iconst (-1), 1) := by decide +kernel
theorem dX11_count_223 : decode cX11_count 223 = .ok (.ireturn, 1) := by decide +kernel
theorem dX11_day_0 : decode cX11_day 0 = .ok (.aload_n 0, 1) := by decide +kernel
theorem dX11_day_1 : decode cX11_day 1 = .ok (.getfield 51, 3) := by decide +kernel
theorem dX11_day_4 : decode cX11_day 4 = .ok (.invokevirtual 176, 3) := by decide +kernel
theorem dX11_day_7 : decode cX11_day 7 = .ok (.ifCond .eq 16, 3) := by decide +kernel
theorem dX11_day_23 : decode cX11_day 23 = .ok (.iconst (-1), 1) := by decide +kernel
theorem dX11_day_24 : decode cX11_day 24 = .ok (.ireturn, 1) := by decide +kernel
theorem dX11_empty_0 : decode cX11_empty 0 = .ok (.aload_n 0, 1) := by decide +kernel
theorem dX11_empty_1 : decode cX11_empty 1 = .ok (.getfield 51, 3) := by decide +kernel
theorem dX11_empty_4 : decode cX11_empty 4 = .ok (.invokevirtual 176, 3) := by decide +kernel
theorem dX11_empty_7 : decode cX11_empty 7 = .ok (.ifCond .eq 21, 3) := by decide +kernel
theorem dX11_empty_28 : decode cX11_empty 28 = .ok (.iconst (-1), 1) := by decide +kernel
theorem dX11_empty_29 : decode cX11_empty 29 = .ok (.ireturn, 1) := by decide +kernel
theorem dX11_end_0 : decode cX11_end 0 = .ok (.iload_n 1, 1) := by decide +kernel
theorem dX11_end_1 : decode cX11_end 1 = .ok (.ifCond .lt 14, 3) := by decide +kernel
theorem dX11_end_4 : decode cX11_end 4 = .ok (.iload_n 1, 1) := by decide +kernel
theorem dX11_end_5 : decode cX11_end 5 = .ok (.aload_n 0, 1) := by decide +kernel
theorem dX11_end_6 : decode cX11_end 6 = .ok (.getfield 10, 3) := by decide +kernel
theorem dX11_end_9 : decode cX11_end 9 = .ok (.getfield 94, 3) := by decide +kernel
theorem dX11_end_12 : decode cX11_end 12 = .ok (.if_icmp .le 5, 3) := by decide +kernel
theorem dX11_end_15 : decode cX11_end 15 = .ok (.iconst (-1), 1) := by decide +kernel
theorem dX11_end_16 : decode cX11_end 16 = .ok (.ireturn, 1) := by decide +kernel
theorem dX11_end_17 : decode cX11_end 17 = .ok (.aload_n 0, 1) := by decide +kernel
theorem dX11_end_18 : decode cX11_end 18 = .ok (.getfield 10, 3) := by decide +kernel
theorem dX11_end_21 : decode cX11_end 21 = .ok (.iload_n 1, 1) := by decide +kernel
theorem dX11_end_22 : decode cX11_end 22 = .ok (.putfield 94, 3) := by decide +kernel
theorem dX11_end_25 : decode cX11_end 25 = .ok (.iload_n 1, 1) := by decide +kernel
theorem dX11_end_26 : decode cX11_end 26 = .ok (.ireturn, 1) := by decide +kernel
theorem dX11_fines_0 : decode cX11_fines 0 = .ok (.iload_n 1, 1) := by decide +kernel
theorem dX11_fines_1 : decode cX11_fines 1 = .ok (.iconst 0, 1) := by decide +kernel
theorem dX11_fines_2 : decode cX11_fines 2 = .ok (.sipush 9999, 3) := by decide +kernel
theorem dX11_fines_5 : decode cX11_fines 5 = .ok (.invokestatic 166, 3) := by decide +kernel
theorem dX11_fines_8 : decode cX11_fines 8 = .ok (.ifCond .eq 14, 3) := by decide +kernel
theorem dX11_fines_11 : decode cX11_fines 11 = .ok (.aload_n 0, 1) := by decide +kernel
theorem dX11_fines_12 : decode cX11_fines 12 = .ok (.getfield 51, 3) := by decide +kernel
theorem dX11_fines_15 : decode cX11_fines 15 = .ok (.iload_n 2, 1) := by decide +kernel
theorem dX11_fines_16 : decode cX11_fines 16 = .ok (.invokevirtual 133, 3) := by decide +kernel
theorem dX11_fines_19 : decode cX11_fines 19 = .ok (.ifCond .ne 5, 3) := by decide +kernel
theorem dX11_fines_22 : decode cX11_fines 22 = .ok (.iconst (-1), 1) := by decide +kernel
theorem dX11_fines_23 : decode cX11_fines 23 = .ok (.ireturn, 1) := by decide +kernel
theorem dX11_force_0 : decode cX11_force 0 = .ok (.iload_n 1, 1) := by decide +kernel
theorem dX11_force_1 : decode cX11_force 1 = .ok (.iconst (-1), 1) := by decide +kernel
theorem dX11_force_2 : decode cX11_force 2 = .ok (.if_icmp .lt 11, 3) := by decide +kernel
theorem dX11_force_5 : decode cX11_force 5 = .ok (.iload_n 1, 1) := by decide +kernel
theorem dX11_force_6 : decode cX11_force 6 = .ok (.aload_n 0, 1) := by decide +kernel
theorem dX11_force_7 : decode cX11_force 7 = .ok (.getfield 36, 3) := by decide +kernel
theorem dX11_force_10 : decode cX11_force 10 = .ok (.if_icmp .lt 6, 3) := by decide +kernel
theorem dX11_force_13 : decode cX11_force 13 = .ok (.bipush (-2), 2) := by decide +kernel
theorem dX11_force_15 : decode cX11_force 15 = .ok (.ireturn, 1) := by decide +kernel
theorem dX11_force_16 : decode cX11_force 16 = .ok (.aload_n 0, 1) := by decide +kernel
theorem dX11_force_17 : decode cX11_force 17 = .ok (.getfield 43, 3) := by decide +kernel
theorem dX11_force_20 : decode cX11_force 20 = .ok (.getfield 130, 3) := by decide +kernel
theorem dX11_force_23 : decode cX11_force 23 = .ok (.istore_n 2, 1) := by decide +kernel
theorem dX11_force_24 : decode cX11_force 24 = .ok (.aload_n 0, 1) := by decide +kernel
theorem dX11_force_25 : decode cX11_force 25 = .ok (.getfield 43, 3) := by decide +kernel
theorem dX11_force_28 : decode cX11_force 28 = .ok (.iload_n 1, 1) := by decide +kernel
theorem dX11_force_29 : decode cX11_force 29 = .ok (.putfield 130, 3) := by decide +kernel
theorem dX11_force_32 : decode cX11_force 32 = .ok (.iload_n 2, 1) := by decide +kernel
theorem dX11_force_33 : decode cX11_force 33 = .ok (.ireturn, 1) := by decide +kernel
theorem dX11_guard_0 : decode cX11_guard 0 = .ok (.aload_n 0, 1) := by decide +kernel
theorem dX11_guard_1 : decode cX11_guard 1 = .ok (.getfield 51, 3) := by decide +kernel
theorem dX11_guard_4 : decode cX11_guard 4 = .ok (.invokevirtual 176, 3) := by decide +kernel
theorem dX11_guard_7 : decode cX11_guard 7 = .ok (.ifCond .eq 22, 3) := by decide +kernel
theorem dX11_guard_29 : decode cX11_guard 29 = .ok (.iconst (-1), 1) := by decide +kernel
theorem dX11_guard_30 : decode cX11_guard 30 = .ok (.ireturn, 1) := by decide +kernel
theorem dX11_isWithin_0 : decode cX11_isWithin 0 = .ok (.iload_n 0, 1) := by decide +kernel
theorem dX11_isWithin_1 : decode cX11_isWithin 1 = .ok (.iload_n 1, 1) := by decide +kernel
theorem dX11_isWithin_2 : decode cX11_isWithin 2 = .ok (.if_icmp .lt 12, 3) := by decide +kernel
theorem dX11_isWithin_5 : decode cX11_isWithin 5 = .ok (.iload_n 0, 1) := by decide +kernel
theorem dX11_isWithin_6 : decode cX11_isWithin 6 = .ok (.iload_n 2, 1) := by decide +kernel
theorem dX11_isWithin_7 : decode cX11_isWithin 7 = .ok (.if_icmp .gt 7, 3) := by decide +kernel
theorem dX11_isWithin_10 : decode cX11_isWithin 10 = .ok (.iconst 1, 1) := by decide +kernel
theorem dX11_isWithin_11 : decode cX11_isWithin 11 = .ok (.goto 4, 3) := by decide +kernel
theorem dX11_isWithin_14 : decode cX11_isWithin 14 = .ok (.iconst 0, 1) := by decide +kernel
theorem dX11_isWithin_15 : decode cX11_isWithin 15 = .ok (.ireturn, 1) := by decide +kernel
theorem dX11_least_0 : decode cX11_least 0 = .ok (.aload_n 0, 1) := by decide +kernel
theorem dX11_least_1 : decode cX11_least 1 = .ok (.getfield 51, 3) := by decide +kernel
theorem dX11_least_4 : decode cX11_least 4 = .ok (.iload_n 1, 1) := by decide +kernel
theorem dX11_least_5 : decode cX11_least 5 = .ok (.invokevirtual 133, 3) := by decide +kernel
theorem dX11_least_8 : decode cX11_least 8 = .ok (.ifCond .eq 13, 3) := by decide +kernel
theorem dX11_least_21 : decode cX11_least 21 = .ok (.iconst (-1), 1) := by decide +kernel
theorem dX11_least_22 : decode cX11_least 22 = .ok (.ireturn, 1) := by decide +kernel
theorem dX11_look_0 : decode cX11_look 0 = .ok (.aload_n 0, 1) := by decide +kernel
theorem dX11_look_1 : decode cX11_look 1 = .ok (.getfield 51, 3) := by decide +kernel
theorem dX11_look_4 : decode cX11_look 4 = .ok (.invokevirtual 176, 3) := by decide +kernel
theorem dX11_look_7 : decode cX11_look 7 = .ok (.ifCond .eq 12, 3) := by decide +kernel
theorem dX11_look_19 : decode cX11_look 19 = .ok (.iconst (-1), 1) := by decide +kernel
theorem dX11_look_20 : decode cX11_look 20 = .ok (.ireturn, 1) := by decide +kernel
theorem dX11_note_0 : decode cX11_note 0 = .ok (.iload_n 1, 1) := by decide +kernel
theorem dX11_note_1 : decode cX11_note 1 = .ok (.iconst (-1), 1) := by decide +kernel
theorem dX11_note_2 : decode cX11_note 2 = .ok (.if_icmp .ne 16, 3) := by decide +kernel
theorem dX11_note_5 : decode cX11_note 5 = .ok (.aload_n 0, 1) := by decide +kernel
theorem dX11_note_6 : decode cX11_note 6 = .ok (.getfield 43, 3) := by decide +kernel
theorem dX11_note_9 : decode cX11_note 9 = .ok (.getfield 111, 3) := by decide +kernel
theorem dX11_note_12 : decode cX11_note 12 = .ok (.iconst 0, 1) := by decide +kernel
theorem dX11_note_13 : decode cX11_note 13 = .ok (.putfield 115, 3) := by decide +kernel
theorem dX11_note_16 : decode cX11_note 16 = .ok (.iconst 0, 1) := by decide +kernel
theorem dX11_note_17 : decode cX11_note 17 = .ok (.ireturn, 1) := by decide +kernel
theorem dX11_note_18 : decode cX11_note 18 = .ok (.iload_n 1, 1) := by decide +kernel
theorem dX11_note_19 : decode cX11_note 19 = .ok (.iconst 0, 1) := by decide +kernel
theorem dX11_note_20 : decode cX11_note 20 = .ok (.bipush 60, 2) := by decide +kernel
theorem dX11_note_22 : decode cX11_note 22 = .ok (.invokestatic 166, 3) := by decide +kernel
theorem dX11_note_25 : decode cX11_note 25 = .ok (.ifCond .eq 23, 3) := by decide +kernel
theorem dX11_note_28 : decode cX11_note 28 = .ok (.aload_n 0, 1) := by decide +kernel
theorem dX11_note_29 : decode cX11_note 29 = .ok (.getfield 51, 3) := by decide +kernel
theorem dX11_note_32 : decode cX11_note 32 = .ok (.iload_n 2, 1) := by decide +kernel
theorem dX11_note_33 : decode cX11_note 33 = .ok (.invokevirtual 133, 3) := by decide +kernel
theorem dX11_note_36 : decode cX11_note 36 = .ok (.ifCond .eq 12, 3) := by decide +kernel
theorem dX11_note_48 : decode cX11_note 48 = .ok (.bipush (-2), 2) := by decide +kernel
theorem dX11_note_50 : decode cX11_note 50 = .ok (.ireturn, 1) := by decide +kernel
theorem dX11_page_0 : decode cX11_page 0 = .ok (.aload_n 0, 1) := by decide +kernel
theorem dX11_page_1 : decode cX11_page 1 = .ok (.getfield 51, 3) := by decide +kernel
theorem dX11_page_4 : decode cX11_page 4 = .ok (.invokevirtual 176, 3) := by decide +kernel
theorem dX11_page_7 : decode cX11_page 7 = .ok (.ifCond .eq 22, 3) := by decide +kernel
theorem dX11_page_29 : decode cX11_page 29 = .ok (.iconst (-1), 1) := by decide +kernel
theorem dX11_page_30 : decode cX11_page 30 = .ok (.ireturn, 1) := by decide +kernel
theorem dX11_peak_0 : decode cX11_peak 0 = .ok (.aload_n 0, 1) := by decide +kernel
theorem dX11_peak_1 : decode cX11_peak 1 = .ok (.getfield 51, 3) := by decide +kernel
theorem dX11_peak_4 : decode cX11_peak 4 = .ok (.invokevirtual 176, 3) := by decide +kernel
theorem dX11_peak_7 : decode cX11_peak 7 = .ok (.ifCond .eq 22, 3) := by decide +kernel
theorem dX11_peak_29 : decode cX11_peak 29 = .ok (.iconst (-1), 1) := by decide +kernel
theorem dX11_peak_30 : decode cX11_peak 30 = .ok (.ireturn, 1) := by decide +kernel
theorem dX11_rests_0 : decode cX11_rests 0 = .ok (.aload_n 0, 1) := by decide +kernel
theorem dX11_rests_1 : decode cX11_rests 1 = .ok (.getfield 51, 3) := by decide +kernel
theorem dX11_rests_4 : decode cX11_rests 4 = .ok (.iload_n 1, 1) := by decide +kernel
theorem dX11_rests_5 : decode cX11_rests 5 = .ok (.invokevirtual 133, 3) := by decide +kernel
theorem dX11_rests_8 : decode cX11_rests 8 = .ok (.ifCond .eq 19, 3) := by decide +kernel
theorem dX11_rests_27 : decode cX11_rests 27 = .ok (.iconst (-1), 1) := by decide +kernel
theorem dX11_rests_28 : decode cX11_rests 28 = .ok (.ireturn, 1) := by decide +kernel
theorem dX11_ring_0 : decode cX11_ring 0 = .ok (.aload_n 0, 1) := by decide +kernel
theorem dX11_ring_1 : decode cX11_ring 1 = .ok (.getfield 51, 3) := by decide +kernel
theorem dX11_ring_4 : decode cX11_ring 4 = .ok (.invokevirtual 176, 3) := by decide +kernel
theorem dX11_ring_7 : decode cX11_ring 7 = .ok (.ifCond .eq 12, 3) := by decide +kernel
theorem dX11_ring_19 : decode cX11_ring 19 = .ok (.iconst (-1), 1) := by decide +kernel
theorem dX11_ring_20 : decode cX11_ring 20 = .ok (.ireturn, 1) := by decide +kernel
theorem dX11_ruled_0 : decode cX11_ruled 0 = .ok (.aload_n 0, 1) := by decide +kernel
theorem dX11_ruled_1 : decode cX11_ruled 1 = .ok (.getfield 51, 3) := by decide +kernel
theorem dX11_ruled_4 : decode cX11_ruled 4 = .ok (.invokevirtual 176, 3) := by decide +kernel
theorem dX11_ruled_7 : decode cX11_ruled 7 = .ok (.ifCond .eq 12, 3) := by decide +kernel
theorem dX11_ruled_19 : decode cX11_ruled 19 = .ok (.bipush (-3), 2) := by decide +kernel
theorem dX11_ruled_21 : decode cX11_ruled 21 = .ok (.ireturn, 1) := by decide +kernel
theorem dX11_seed_0 : decode cX11_seed 0 = .ok (.iload_n 1, 1) := by decide +kernel
theorem dX11_seed_1 : decode cX11_seed 1 = .ok (.ifCond .ge 5, 3) := by decide +kernel
theorem dX11_seed_4 : decode cX11_seed 4 = .ok (.iconst (-1), 1) := by decide +kernel
theorem dX11_seed_5 : decode cX11_seed 5 = .ok (.ireturn, 1) := by decide +kernel
theorem dX11_seed_6 : decode cX11_seed 6 = .ok (.aload_n 0, 1) := by decide +kernel
theorem dX11_seed_7 : decode cX11_seed 7 = .ok (.getfield 43, 3) := by decide +kernel
theorem dX11_seed_10 : decode cX11_seed 10 = .ok (.getfield 272, 3) := by decide +kernel
theorem dX11_seed_13 : decode cX11_seed 13 = .ok (.istore_n 2, 1) := by decide +kernel
theorem dX11_seed_14 : decode cX11_seed 14 = .ok (.aload_n 0, 1) := by decide +kernel
theorem dX11_seed_15 : decode cX11_seed 15 = .ok (.getfield 43, 3) := by decide +kernel
theorem dX11_seed_18 : decode cX11_seed 18 = .ok (.iload_n 1, 1) := by decide +kernel
theorem dX11_seed_19 : decode cX11_seed 19 = .ok (.putfield 272, 3) := by decide +kernel
theorem dX11_seed_22 : decode cX11_seed 22 = .ok (.iload_n 2, 1) := by decide +kernel
theorem dX11_seed_23 : decode cX11_seed 23 = .ok (.ireturn, 1) := by decide +kernel
theorem dX11_sell_0 : decode cX11_sell 0 = .ok (.aload_n 0, 1) := by decide +kernel
theorem dX11_sell_1 : decode cX11_sell 1 = .ok (.getfield 51, 3) := by decide +kernel
theorem dX11_sell_4 : decode cX11_sell 4 = .ok (.iload_n 1, 1) := by decide +kernel
theorem dX11_sell_5 : decode cX11_sell 5 = .ok (.invokevirtual 133, 3) := by decide +kernel
theorem dX11_sell_8 : decode cX11_sell 8 = .ok (.ifCond .eq 22, 3) := by decide +kernel
theorem dX11_sell_30 : decode cX11_sell 30 = .ok (.iconst (-1), 1) := by decide +kernel
theorem dX11_sell_31 : decode cX11_sell 31 = .ok (.ireturn, 1) := by decide +kernel
theorem dX11_sky_0 : decode cX11_sky 0 = .ok (.aload_n 0, 1) := by decide +kernel
theorem dX11_sky_1 : decode cX11_sky 1 = .ok (.getfield 51, 3) := by decide +kernel
theorem dX11_sky_4 : decode cX11_sky 4 = .ok (.iload_n 1, 1) := by decide +kernel
theorem dX11_sky_5 : decode cX11_sky 5 = .ok (.invokevirtual 163, 3) := by decide +kernel
theorem dX11_sky_8 : decode cX11_sky 8 = .ok (.ifCond .eq 12, 3) := by decide +kernel
theorem dX11_sky_20 : decode cX11_sky 20 = .ok (.iconst (-1), 1) := by decide +kernel
theorem dX11_sky_21 : decode cX11_sky 21 = .ok (.ireturn, 1) := by decide +kernel
theorem dX11_soothe_0 : decode cX11_soothe 0 = .ok (.aload_n 0, 1) := by decide +kernel
theorem dX11_soothe_1 : decode cX11_soothe 1 = .ok (.getfield 51, 3) := by decide +kernel
theorem dX11_soothe_4 : decode cX11_soothe 4 = .ok (.invokevirtual 176, 3) := by decide +kernel
theorem dX11_soothe_7 : decode cX11_soothe 7 = .ok (.ifCond .eq 22, 3) := by decide +kernel
theorem dX11_soothe_29 : decode cX11_soothe 29 = .ok (.bipush (-2), 2) := by decide +kernel
theorem dX11_soothe_31 : decode cX11_soothe 31 = .ok (.ireturn, 1) := by decide +kernel
theorem dX11_summers_0 : decode cX11_summers 0 = .ok (.aload_n 0, 1) := by decide +kernel
theorem dX11_summers_1 : decode cX11_summers 1 = .ok (.getfield 51, 3) := by decide +kernel
theorem dX11_summers_4 : decode cX11_summers 4 = .ok (.invokevirtual 176, 3) := by decide +kernel
theorem dX11_summers_7 : decode cX11_summers 7 = .ok (.ifCond .eq 23, 3) := by decide +kernel
theorem dX11_summers_30 : decode cX11_summers 30 = .ok (.iconst (-1), 1) := by decide +kernel
theorem dX11_summers_31 : decode cX11_summers 31 = .ok (.ireturn, 1) := by decide +kernel
theorem dX11_tells_0 : decode cX11_tells 0 = .ok (.aload_n 0, 1) := by decide +kernel
theorem dX11_tells_1 : decode cX11_tells 1 = .ok (.getfield 51, 3) := by decide +kernel
theorem dX11_tells_4 : decode cX11_tells 4 = .ok (.invokevirtual 176, 3) := by decide +kernel
theorem dX11_tells_7 : decode cX11_tells 7 = .ok (.ifCond .eq 22, 3) := by decide +kernel
theorem dX11_tells_29 : decode cX11_tells 29 = .ok (.iconst (-1), 1) := by decide +kernel
theorem dX11_tells_30 : decode cX11_tells 30 = .ok (.ireturn, 1) := by decide +kernel
theorem dX11_undo_0 : decode cX11_undo 0 = .ok (.aload_n 0, 1) := by decide +kernel
theorem dX11_undo_1 : decode cX11_undo 1 = .ok (.getfield 57, 3) := by decide +kernel
theorem dX11_undo_4 : decode cX11_undo 4 = .ok (.aload_n 0, 1) := by decide +kernel
theorem dX11_undo_5 : decode cX11_undo 5 = .ok (.getfield 51, 3) := by decide +kernel
theorem dX11_undo_8 : decode cX11_undo 8 = .ok (.invokevirtual 199, 3) := by decide +kernel
theorem dX11_undo_11 : decode cX11_undo 11 = .ok (.ireturn, 1) := by decide +kernel
theorem dX11_watch_0 : decode cX11_watch 0 = .ok (.aload_n 0, 1) := by decide +kernel
theorem dX11_watch_1 : decode cX11_watch 1 = .ok (.getfield 51, 3) := by decide +kernel
theorem dX11_watch_4 : decode cX11_watch 4 = .ok (.iload_n 1, 1) := by decide +kernel
theorem dX11_watch_5 : decode cX11_watch 5 = .ok (.invokevirtual 163, 3) := by decide +kernel
theorem dX11_watch_8 : decode cX11_watch 8 = .ok (.ifCond .eq 14, 3) := by decide +kernel
theorem dX11_watch_22 : decode cX11_watch 22 = .ok (.iconst (-1), 1) := by decide +kernel
theorem dX11_watch_23 : decode cX11_watch 23 = .ok (.ireturn, 1) := by decide +kernel
theorem dX5_giveBack_0 : decode cX5_giveBack 0 = .ok (.aload_n 0, 1) := by decide +kernel
theorem dX5_giveBack_1 : decode cX5_giveBack 1 = .ok (.getfield 17, 3) := by decide +kernel
theorem dX5_giveBack_4 : decode cX5_giveBack 4 = .ok (.bipush 20, 2) := by decide +kernel
theorem dX5_giveBack_6 : decode cX5_giveBack 6 = .ok (.iadd, 1) := by decide +kernel
theorem dX5_giveBack_7 : decode cX5_giveBack 7 = .ok (.iconst 1, 1) := by decide +kernel
theorem dX5_giveBack_8 : decode cX5_giveBack 8 = .ok (.isub, 1) := by decide +kernel
theorem dX5_giveBack_9 : decode cX5_giveBack 9 = .ok (.bipush 20, 2) := by decide +kernel
theorem dX5_giveBack_11 : decode cX5_giveBack 11 = .ok (.irem, 1) := by decide +kernel
theorem dX5_giveBack_12 : decode cX5_giveBack 12 = .ok (.istore_n 2, 1) := by decide +kernel
theorem dX5_giveBack_13 : decode cX5_giveBack 13 = .ok (.aload_n 0, 1) := by decide +kernel
theorem dX5_giveBack_14 : decode cX5_giveBack 14 = .ok (.getfield 21, 3) := by decide +kernel
theorem dX5_giveBack_17 : decode cX5_giveBack 17 = .ok (.ifCond .le 7, 3) := by decide +kernel
theorem dX5_giveBack_24 : decode cX5_giveBack 24 = .ok (.iconst (-1), 1) := by decide +kernel
theorem dX5_giveBack_25 : decode cX5_giveBack 25 = .ok (.ireturn, 1) := by decide +kernel
theorem dX9_clockOn_0 : decode cX9_clockOn 0 = .ok (.aload_n 0, 1) := by decide +kernel
theorem dX9_clockOn_1 : decode cX9_clockOn 1 = .ok (.getfield 18, 3) := by decide +kernel
theorem dX9_clockOn_4 : decode cX9_clockOn 4 = .ok (.ifCond .le 16, 3) := by decide +kernel
theorem dX9_clockOn_20 : decode cX9_clockOn 20 = .ok (.iconst 0, 1) := by decide +kernel
theorem dX9_clockOn_21 : decode cX9_clockOn 21 = .ok (.ireturn, 1) := by decide +kernel
theorem dX9_hasBuyer_0 : decode cX9_hasBuyer 0 = .ok (.iload_n 1, 1) := by decide +kernel
theorem dX9_hasBuyer_1 : decode cX9_hasBuyer 1 = .ok (.ifCond .lt 21, 3) := by decide +kernel
theorem dX9_hasBuyer_4 : decode cX9_hasBuyer 4 = .ok (.iload_n 1, 1) := by decide +kernel
theorem dX9_hasBuyer_5 : decode cX9_hasBuyer 5 = .ok (.aload_n 0, 1) := by decide +kernel
theorem dX9_hasBuyer_6 : decode cX9_hasBuyer 6 = .ok (.getfield 21, 3) := by decide +kernel
theorem dX9_hasBuyer_9 : decode cX9_hasBuyer 9 = .ok (.if_icmp .ge 13, 3) := by decide +kernel
theorem dX9_hasBuyer_22 : decode cX9_hasBuyer 22 = .ok (.iconst 0, 1) := by decide +kernel
theorem dX9_hasBuyer_23 : decode cX9_hasBuyer 23 = .ok (.ireturn, 1) := by decide +kernel
theorem dX9_hasClock_0 : decode cX9_hasClock 0 = .ok (.iload_n 1, 1) := by decide +kernel
theorem dX9_hasClock_1 : decode cX9_hasClock 1 = .ok (.ifCond .lt 21, 3) := by decide +kernel
theorem dX9_hasClock_4 : decode cX9_hasClock 4 = .ok (.iload_n 1, 1) := by decide +kernel
theorem dX9_hasClock_5 : decode cX9_hasClock 5 = .ok (.aload_n 0, 1) := by decide +kernel
theorem dX9_hasClock_6 : decode cX9_hasClock 6 = .ok (.getfield 18, 3) := by decide +kernel
theorem dX9_hasClock_9 : decode cX9_hasClock 9 = .ok (.if_icmp .ge 13, 3) := by decide +kernel
theorem dX9_hasClock_22 : decode cX9_hasClock 22 = .ok (.iconst 0, 1) := by decide +kernel
theorem dX9_hasClock_23 : decode cX9_hasClock 23 = .ok (.ireturn, 1) := by decide +kernel
theorem dX9_isTold_0 : decode cX9_isTold 0 = .ok (.aload_n 0, 1) := by decide +kernel
theorem dX9_isTold_1 : decode cX9_isTold 1 = .ok (.getfield 18, 3) := by decide +kernel
theorem dX9_isTold_4 : decode cX9_isTold 4 = .ok (.ifCond .le 7, 3) := by decide +kernel
theorem dX9_isTold_11 : decode cX9_isTold 11 = .ok (.iconst 0, 1) := by decide +kernel
theorem dX9_isTold_12 : decode cX9_isTold 12 = .ok (.ireturn, 1) := by decide +kernel
theorem dX9_stillOn_0 : decode cX9_stillOn 0 = .ok (.aload_n 0, 1) := by decide +kernel
theorem dX9_stillOn_1 : decode cX9_stillOn 1 = .ok (.getfield 18, 3) := by decide +kernel
theorem dX9_stillOn_4 : decode cX9_stillOn 4 = .ok (.ifCond .le 7, 3) := by decide +kernel
theorem dX9_stillOn_11 : decode cX9_stillOn 11 = .ok (.iconst 0, 1) := by decide +kernel
theorem dX9_stillOn_12 : decode cX9_stillOn 12 = .ok (.ireturn, 1) := by decide +kernel
theorem dX9_timesMet_0 : decode cX9_timesMet 0 = .ok (.iconst 0, 1) := by decide +kernel
theorem dX9_timesMet_1 : decode cX9_timesMet 1 = .ok (.istore_n 1, 1) := by decide +kernel
theorem dX9_timesMet_2 : decode cX9_timesMet 2 = .ok (.iconst 0, 1) := by decide +kernel
theorem dX9_timesMet_3 : decode cX9_timesMet 3 = .ok (.istore_n 2, 1) := by decide +kernel
theorem dX9_timesMet_4 : decode cX9_timesMet 4 = .ok (.iload_n 2, 1) := by decide +kernel
theorem dX9_timesMet_5 : decode cX9_timesMet 5 = .ok (.aload_n 0, 1) := by decide +kernel
theorem dX9_timesMet_6 : decode cX9_timesMet 6 = .ok (.getfield 21, 3) := by decide +kernel
theorem dX9_timesMet_9 : decode cX9_timesMet 9 = .ok (.if_icmp .ge 24, 3) := by decide +kernel
theorem dX9_timesMet_33 : decode cX9_timesMet 33 = .ok (.iload_n 1, 1) := by decide +kernel
theorem dX9_timesMet_34 : decode cX9_timesMet 34 = .ok (.ireturn, 1) := by decide +kernel
theorem dX9_whoCanBuy_0 : decode cX9_whoCanBuy 0 = .ok (.iconst 0, 1) := by decide +kernel
theorem dX9_whoCanBuy_1 : decode cX9_whoCanBuy 1 = .ok (.istore_n 1, 1) := by decide +kernel
theorem dX9_whoCanBuy_2 : decode cX9_whoCanBuy 2 = .ok (.iconst 0, 1) := by decide +kernel
theorem dX9_whoCanBuy_3 : decode cX9_whoCanBuy 3 = .ok (.istore_n 2, 1) := by decide +kernel
theorem dX9_whoCanBuy_4 : decode cX9_whoCanBuy 4 = .ok (.iload_n 2, 1) := by decide +kernel
theorem dX9_whoCanBuy_5 : decode cX9_whoCanBuy 5 = .ok (.aload_n 0, 1) := by decide +kernel
theorem dX9_whoCanBuy_6 : decode cX9_whoCanBuy 6 = .ok (.getfield 21, 3) := by decide +kernel
theorem dX9_whoCanBuy_9 : decode cX9_whoCanBuy 9 = .ok (.if_icmp .ge 29, 3) := by decide +kernel
theorem dX9_whoCanBuy_38 : decode cX9_whoCanBuy 38 = .ok (.iload_n 1, 1) := by decide +kernel
theorem dX9_whoCanBuy_39 : decode cX9_whoCanBuy 39 = .ok (.ireturn, 1) := by decide +kernel
set_option maxHeartbeats 4000000 in
set_option maxRecDepth 100000 in
theorem ct_X9_isTold (l : Launch) (D : va_G) (tc : Nat → ClassId) (sk : (Nat → Nat) × (Nat → Nat)) (sh : Nat) (a1 : Nat) (a2 : Nat) (a3 : Nat) (a4 : Nat) (a5 : Nat) (a6 : Nat) (a7 : Nat) (a8 : Nat)  : Ct l yX9_isTold cX9_isTold 1 (some .boolean) { frames := 0, cells := 0, slots := 0, locals := 0 } D tc sk [.ref sh] [(sh, .inr (9, [.int 0, .int 0, .int 0, .int 0, .int 0, .int 0, .ref a1, .ref a2, .ref a3, .ref a4, .ref a5, .ref a6, .ref a7, .ref a8]))] (fun (v : Option Value) (_ : Unit) => v = some (.int 0)) (fun (_ : Unit) => [(sh, .inr (9, [.int 0, .int 0, .int 0, .int 0, .int 0, .int 0, .ref a1, .ref a2, .ref a3, .ref a4, .ref a5, .ref a6, .ref a7, .ref a8]))]) 0 0 := by
  refine Ct.start (by decide) (Nat.le_of_ble_eq_true rfl) (fun p e s m below meth c A ls hx hb hr hlk hin hml hown hts hK hX hP hD hA hl hS => ?_)
  have hl : lv_has ls 1 [(0, .ref sh)] := hl
  refine lv_aload_n hx hb dX9_isTold_0 rfl (lv_at hl 0 rfl) ?_
  refine gf_X9_18 hx hb hts hown hK hP 0 rfl rfl dX9_isTold_1 ?_
  refine lv_if_le (tgt := 11) hx hb dX9_isTold_4 (by decide) (fun c_1 => ?_) (fun c_1 => absurd c_1 (by decide))
  refine lv_iconst (v := 0) hx hb dX9_isTold_11 (by decide) ?_
  exact retI (v := 0) hx hb hr hlk (rfl) hP hD hS () rfl [0] rfl rfl dX9_isTold_12 (Nat.le_of_ble_eq_true rfl) (Nat.le_of_ble_eq_true rfl) rfl
set_option maxHeartbeats 4000000 in
set_option maxRecDepth 100000 in
theorem ct_X9_hasBuyer (l : Launch) (D : va_G) (tc : Nat → ClassId) (sk : (Nat → Nat) × (Nat → Nat)) (sh : Nat) (a1 : Nat) (a2 : Nat) (a3 : Nat) (a4 : Nat) (a5 : Nat) (a6 : Nat) (a7 : Nat) (a8 : Nat) (x1 : Int32)  : Ct l yX9_hasBuyer cX9_hasBuyer 2 (some .boolean) { frames := 0, cells := 0, slots := 0, locals := 0 } D tc sk [.ref sh, .int x1] [(sh, .inr (9, [.int 0, .int 0, .int 0, .int 0, .int 0, .int 0, .ref a1, .ref a2, .ref a3, .ref a4, .ref a5, .ref a6, .ref a7, .ref a8]))] (fun (v : Option Value) (_ : Unit) => v = some (.int 0)) (fun (_ : Unit) => [(sh, .inr (9, [.int 0, .int 0, .int 0, .int 0, .int 0, .int 0, .ref a1, .ref a2, .ref a3, .ref a4, .ref a5, .ref a6, .ref a7, .ref a8]))]) 0 0 := by
  refine Ct.start (by decide) (Nat.le_of_ble_eq_true rfl) (fun p e s m below meth c A ls hx hb hr hlk hin hml hown hts hK hX hP hD hA hl hS => ?_)
  have hl : lv_has ls 2 [(0, .ref sh), (1, .int x1)] := hl
  refine lv_iload_n hx hb dX9_hasBuyer_0 rfl (lv_at hl 1 rfl) ?_
  refine lv_if_lt (tgt := 22) hx hb dX9_hasBuyer_1 (by decide) (fun c_1 => ?_) (fun c_1 => ?_)
  · skip
    refine lv_iconst (v := 0) hx hb dX9_hasBuyer_22 (by decide) ?_
    exact retI (v := 0) hx hb hr hlk (rfl) hP hD hS () rfl [0] rfl rfl dX9_hasBuyer_23 (Nat.le_of_ble_eq_true rfl) (Nat.le_of_ble_eq_true rfl) rfl
  · skip
    refine lv_iload_n hx hb dX9_hasBuyer_4 rfl (lv_at hl 1 rfl) ?_
    refine lv_aload_n hx hb dX9_hasBuyer_5 rfl (lv_at hl 0 rfl) ?_
    refine gf_X9_21 hx hb hts hown hK hP 0 rfl rfl dX9_hasBuyer_6 ?_
    refine lv_icmp_ge (tgt := 22) hx hb dX9_hasBuyer_9 (by decide) (fun c_2 => ?_) (fun c_2 => ?_)
    · skip
      refine lv_iconst (v := 0) hx hb dX9_hasBuyer_22 (by decide) ?_
      exact retI (v := 0) hx hb hr hlk (rfl) hP hD hS () rfl [0] rfl rfl dX9_hasBuyer_23 (Nat.le_of_ble_eq_true rfl) (Nat.le_of_ble_eq_true rfl) rfl
    · skip
      exfalso
      have z_1 := Int32.le_iff_toInt_le.mp (Int32.not_lt.mp c_1)
      have z_2 := Int32.lt_iff_toInt_lt.mp (Int32.not_le.mp c_2)
      have y_0 : (0 : Int32).toInt = 0 := by decide
      omega
set_option maxHeartbeats 4000000 in
set_option maxRecDepth 100000 in
theorem ct_X9_hasClock (l : Launch) (D : va_G) (tc : Nat → ClassId) (sk : (Nat → Nat) × (Nat → Nat)) (sh : Nat) (a1 : Nat) (a2 : Nat) (a3 : Nat) (a4 : Nat) (a5 : Nat) (a6 : Nat) (a7 : Nat) (a8 : Nat) (x1 : Int32)  : Ct l yX9_hasClock cX9_hasClock 2 (some .boolean) { frames := 0, cells := 0, slots := 0, locals := 0 } D tc sk [.ref sh, .int x1] [(sh, .inr (9, [.int 0, .int 0, .int 0, .int 0, .int 0, .int 0, .ref a1, .ref a2, .ref a3, .ref a4, .ref a5, .ref a6, .ref a7, .ref a8]))] (fun (v : Option Value) (_ : Unit) => v = some (.int 0)) (fun (_ : Unit) => [(sh, .inr (9, [.int 0, .int 0, .int 0, .int 0, .int 0, .int 0, .ref a1, .ref a2, .ref a3, .ref a4, .ref a5, .ref a6, .ref a7, .ref a8]))]) 0 0 := by
  refine Ct.start (by decide) (Nat.le_of_ble_eq_true rfl) (fun p e s m below meth c A ls hx hb hr hlk hin hml hown hts hK hX hP hD hA hl hS => ?_)
  have hl : lv_has ls 2 [(0, .ref sh), (1, .int x1)] := hl
  refine lv_iload_n hx hb dX9_hasClock_0 rfl (lv_at hl 1 rfl) ?_
  refine lv_if_lt (tgt := 22) hx hb dX9_hasClock_1 (by decide) (fun c_1 => ?_) (fun c_1 => ?_)
  · skip
    refine lv_iconst (v := 0) hx hb dX9_hasClock_22 (by decide) ?_
    exact retI (v := 0) hx hb hr hlk (rfl) hP hD hS () rfl [0] rfl rfl dX9_hasClock_23 (Nat.le_of_ble_eq_true rfl) (Nat.le_of_ble_eq_true rfl) rfl
  · skip
    refine lv_iload_n hx hb dX9_hasClock_4 rfl (lv_at hl 1 rfl) ?_
    refine lv_aload_n hx hb dX9_hasClock_5 rfl (lv_at hl 0 rfl) ?_
    refine gf_X9_18 hx hb hts hown hK hP 0 rfl rfl dX9_hasClock_6 ?_
    refine lv_icmp_ge (tgt := 22) hx hb dX9_hasClock_9 (by decide) (fun c_2 => ?_) (fun c_2 => ?_)
    · skip
      refine lv_iconst (v := 0) hx hb dX9_hasClock_22 (by decide) ?_
      exact retI (v := 0) hx hb hr hlk (rfl) hP hD hS () rfl [0] rfl rfl dX9_hasClock_23 (Nat.le_of_ble_eq_true rfl) (Nat.le_of_ble_eq_true rfl) rfl
    · skip
      exfalso
      have z_1 := Int32.le_iff_toInt_le.mp (Int32.not_lt.mp c_1)
      have z_2 := Int32.lt_iff_toInt_lt.mp (Int32.not_le.mp c_2)
      have y_0 : (0 : Int32).toInt = 0 := by decide
      omega
set_option maxHeartbeats 4000000 in
set_option maxRecDepth 100000 in
theorem ct_X9_clockOn (l : Launch) (D : va_G) (tc : Nat → ClassId) (sk : (Nat → Nat) × (Nat → Nat)) (sh : Nat) (a1 : Nat) (a2 : Nat) (a3 : Nat) (a4 : Nat) (a5 : Nat) (a6 : Nat) (a7 : Nat) (a8 : Nat)  : Ct l yX9_clockOn cX9_clockOn 2 (some .int) { frames := 0, cells := 0, slots := 0, locals := 0 } D tc sk [.ref sh, .int 0] [(sh, .inr (9, [.int 0, .int 0, .int 0, .int 0, .int 0, .int 0, .ref a1, .ref a2, .ref a3, .ref a4, .ref a5, .ref a6, .ref a7, .ref a8]))] (fun (v : Option Value) (_ : Unit) => v = some (.int 0)) (fun (_ : Unit) => [(sh, .inr (9, [.int 0, .int 0, .int 0, .int 0, .int 0, .int 0, .ref a1, .ref a2, .ref a3, .ref a4, .ref a5, .ref a6, .ref a7, .ref a8]))]) 0 0 := by
  refine Ct.start (by decide) (Nat.le_of_ble_eq_true rfl) (fun p e s m below meth c A ls hx hb hr hlk hin hml hown hts hK hX hP hD hA hl hS => ?_)
  have hl : lv_has ls 2 [(0, .ref sh), (1, .int 0)] := hl
  refine lv_aload_n hx hb dX9_clockOn_0 rfl (lv_at hl 0 rfl) ?_
  refine gf_X9_18 hx hb hts hown hK hP 0 rfl rfl dX9_clockOn_1 ?_
  refine lv_if_le (tgt := 20) hx hb dX9_clockOn_4 (by decide) (fun c_1 => ?_) (fun c_1 => absurd c_1 (by decide))
  refine lv_iconst (v := 0) hx hb dX9_clockOn_20 (by decide) ?_
  exact retI (v := 0) hx hb hr hlk (rfl) hP hD hS () rfl [0] rfl rfl dX9_clockOn_21 (Nat.le_of_ble_eq_true rfl) (Nat.le_of_ble_eq_true rfl) rfl
set_option maxHeartbeats 4000000 in
set_option maxRecDepth 100000 in
theorem ct_X9_stillOn (l : Launch) (D : va_G) (tc : Nat → ClassId) (sk : (Nat → Nat) × (Nat → Nat)) (sh : Nat) (a1 : Nat) (a2 : Nat) (a3 : Nat) (a4 : Nat) (a5 : Nat) (a6 : Nat) (a7 : Nat) (a8 : Nat)  : Ct l yX9_stillOn cX9_stillOn 3 (some .int) { frames := 0, cells := 0, slots := 0, locals := 0 } D tc sk [.ref sh, .int 0] [(sh, .inr (9, [.int 0, .int 0, .int 0, .int 0, .int 0, .int 0, .ref a1, .ref a2, .ref a3, .ref a4, .ref a5, .ref a6, .ref a7, .ref a8]))] (fun (v : Option Value) (_ : Unit) => v = some (.int 0)) (fun (_ : Unit) => [(sh, .inr (9, [.int 0, .int 0, .int 0, .int 0, .int 0, .int 0, .ref a1, .ref a2, .ref a3, .ref a4, .ref a5, .ref a6, .ref a7, .ref a8]))]) 0 0 := by
  refine Ct.start (by decide) (Nat.le_of_ble_eq_true rfl) (fun p e s m below meth c A ls hx hb hr hlk hin hml hown hts hK hX hP hD hA hl hS => ?_)
  have hl : lv_has ls 3 [(0, .ref sh), (1, .int 0)] := hl
  refine lv_aload_n hx hb dX9_stillOn_0 rfl (lv_at hl 0 rfl) ?_
  refine gf_X9_18 hx hb hts hown hK hP 0 rfl rfl dX9_stillOn_1 ?_
  refine lv_if_le (tgt := 11) hx hb dX9_stillOn_4 (by decide) (fun c_1 => ?_) (fun c_1 => absurd c_1 (by decide))
  refine lv_iconst (v := 0) hx hb dX9_stillOn_11 (by decide) ?_
  exact retI (v := 0) hx hb hr hlk (rfl) hP hD hS () rfl [0] rfl rfl dX9_stillOn_12 (Nat.le_of_ble_eq_true rfl) (Nat.le_of_ble_eq_true rfl) rfl
set_option maxHeartbeats 4000000 in
set_option maxRecDepth 100000 in
theorem ct_X9_timesMet (l : Launch) (D : va_G) (tc : Nat → ClassId) (sk : (Nat → Nat) × (Nat → Nat)) (sh : Nat) (a1 : Nat) (a2 : Nat) (a3 : Nat) (a4 : Nat) (a5 : Nat) (a6 : Nat) (a7 : Nat) (a8 : Nat)  : Ct l yX9_timesMet cX9_timesMet 3 (some .int) { frames := 0, cells := 0, slots := 0, locals := 0 } D tc sk [.ref sh] [(sh, .inr (9, [.int 0, .int 0, .int 0, .int 0, .int 0, .int 0, .ref a1, .ref a2, .ref a3, .ref a4, .ref a5, .ref a6, .ref a7, .ref a8]))] (fun (v : Option Value) (_ : Unit) => v = some (.int 0)) (fun (_ : Unit) => [(sh, .inr (9, [.int 0, .int 0, .int 0, .int 0, .int 0, .int 0, .ref a1, .ref a2, .ref a3, .ref a4, .ref a5, .ref a6, .ref a7, .ref a8]))]) 0 0 := by
  refine Ct.start (by decide) (Nat.le_of_ble_eq_true rfl) (fun p e s m below meth c A ls hx hb hr hlk hin hml hown hts hK hX hP hD hA hl hS => ?_)
  have hl : lv_has ls 3 [(0, .ref sh)] := hl
  refine lv_iconst (v := 0) hx hb dX9_timesMet_0 (by decide) ?_
  refine lv_istore_n (lv' := [(1, .int 0), (0, .ref sh)]) hx hb dX9_timesMet_1 rfl hl (by decide) rfl (fun ls hl => ?_)
  refine lv_iconst (v := 0) hx hb dX9_timesMet_2 (by decide) ?_
  refine lv_istore_n (lv' := [(2, .int 0), (1, .int 0), (0, .ref sh)]) hx hb dX9_timesMet_3 rfl hl (by decide) rfl (fun ls hl => ?_)
  refine lv_iload_n hx hb dX9_timesMet_4 rfl (lv_at hl 0 rfl) ?_
  refine lv_aload_n hx hb dX9_timesMet_5 rfl (lv_at hl 2 rfl) ?_
  refine gf_X9_21 hx hb hts hown hK hP 0 rfl rfl dX9_timesMet_6 ?_
  refine lv_icmp_ge (tgt := 33) hx hb dX9_timesMet_9 (by decide) (fun c_1 => ?_) (fun c_1 => absurd c_1 (by decide))
  refine lv_iload_n hx hb dX9_timesMet_33 rfl (lv_at hl 1 rfl) ?_
  exact retI (v := 0) hx hb hr hlk (rfl) hP hD hS () rfl [0] rfl rfl dX9_timesMet_34 (Nat.le_of_ble_eq_true rfl) (Nat.le_of_ble_eq_true rfl) rfl
set_option maxHeartbeats 4000000 in
set_option maxRecDepth 100000 in
theorem ct_X9_whoCanBuy (l : Launch) (D : va_G) (tc : Nat → ClassId) (sk : (Nat → Nat) × (Nat → Nat)) (sh : Nat) (a1 : Nat) (a2 : Nat) (a3 : Nat) (a4 : Nat) (a5 : Nat) (a6 : Nat) (a7 : Nat) (a8 : Nat)  : Ct l yX9_whoCanBuy cX9_whoCanBuy 3 (some .int) { frames := 0, cells := 0, slots := 0, locals := 0 } D tc sk [.ref sh] [(sh, .inr (9, [.int 0, .int 0, .int 0, .int 0, .int 0, .int 0, .ref a1, .ref a2, .ref a3, .ref a4, .ref a5, .ref a6, .ref a7, .ref a8]))] (fun (v : Option Value) (_ : Unit) => v = some (.int 0)) (fun (_ : Unit) => [(sh, .inr (9, [.int 0, .int 0, .int 0, .int 0, .int 0, .int 0, .ref a1, .ref a2, .ref a3, .ref a4, .ref a5, .ref a6, .ref a7, .ref a8]))]) 0 0 := by
  refine Ct.start (by decide) (Nat.le_of_ble_eq_true rfl) (fun p e s m below meth c A ls hx hb hr hlk hin hml hown hts hK hX hP hD hA hl hS => ?_)
  have hl : lv_has ls 3 [(0, .ref sh)] := hl
  refine lv_iconst (v := 0) hx hb dX9_whoCanBuy_0 (by decide) ?_
  refine lv_istore_n (lv' := [(1, .int 0), (0, .ref sh)]) hx hb dX9_whoCanBuy_1 rfl hl (by decide) rfl (fun ls hl => ?_)
  refine lv_iconst (v := 0) hx hb dX9_whoCanBuy_2 (by decide) ?_
  refine lv_istore_n (lv' := [(2, .int 0), (1, .int 0), (0, .ref sh)]) hx hb dX9_whoCanBuy_3 rfl hl (by decide) rfl (fun ls hl => ?_)
  refine lv_iload_n hx hb dX9_whoCanBuy_4 rfl (lv_at hl 0 rfl) ?_
  refine lv_aload_n hx hb dX9_whoCanBuy_5 rfl (lv_at hl 2 rfl) ?_
  refine gf_X9_21 hx hb hts hown hK hP 0 rfl rfl dX9_whoCanBuy_6 ?_
  refine lv_icmp_ge (tgt := 38) hx hb dX9_whoCanBuy_9 (by decide) (fun c_1 => ?_) (fun c_1 => absurd c_1 (by decide))
  refine lv_iload_n hx hb dX9_whoCanBuy_38 rfl (lv_at hl 1 rfl) ?_
  exact retI (v := 0) hx hb hr hlk (rfl) hP hD hS () rfl [0] rfl rfl dX9_whoCanBuy_39 (Nat.le_of_ble_eq_true rfl) (Nat.le_of_ble_eq_true rfl) rfl
set_option maxHeartbeats 4000000 in
set_option maxRecDepth 100000 in
theorem ct_X11_isWithin (l : Launch) (D : va_G) (tc : Nat → ClassId) (sk : (Nat → Nat) × (Nat → Nat)) (x1 : Int32) (x2 : Int32) (x3 : Int32)  : Ct l yX11_isWithin cX11_isWithin 3 (some .boolean) { frames := 0, cells := 0, slots := 0, locals := 0 } D tc sk [.int x1, .int x2, .int x3] [] (fun (v : Option Value) (_ : Unit) => ∃ r : Int32, v = some (.int r) ∧ (r = 0 ∨ r = 1)) (fun (_ : Unit) => []) 0 0 := by
  refine Ct.start (by decide) (Nat.le_of_ble_eq_true rfl) (fun p e s m below meth c A ls hx hb hr hlk hin hml hown hts hK hX hP hD hA hl hS => ?_)
  have hl : lv_has ls 3 [(0, .int x1), (1, .int x2), (2, .int x3)] := hl
  refine lv_iload_n hx hb dX11_isWithin_0 rfl (lv_at hl 0 rfl) ?_
  refine lv_iload_n hx hb dX11_isWithin_1 rfl (lv_at hl 1 rfl) ?_
  refine lv_icmp_lt (tgt := 14) hx hb dX11_isWithin_2 (by decide) (fun c_1 => ?_) (fun c_1 => ?_)
  · skip
    refine lv_iconst (v := 0) hx hb dX11_isWithin_14 (by decide) ?_
    exact retI (v := 0) hx hb hr hlk (rfl) hP hD hS () ⟨_, rfl, Or.inl rfl⟩ [] rfl rfl dX11_isWithin_15 (Nat.le_of_ble_eq_true rfl) (Nat.le_of_ble_eq_true rfl) rfl
  · skip
    refine lv_iload_n hx hb dX11_isWithin_5 rfl (lv_at hl 0 rfl) ?_
    refine lv_iload_n hx hb dX11_isWithin_6 rfl (lv_at hl 2 rfl) ?_
    refine lv_icmp_gt (tgt := 14) hx hb dX11_isWithin_7 (by decide) (fun c_2 => ?_) (fun c_2 => ?_)
    · skip
      refine lv_iconst (v := 0) hx hb dX11_isWithin_14 (by decide) ?_
      exact retI (v := 0) hx hb hr hlk (rfl) hP hD hS () ⟨_, rfl, Or.inl rfl⟩ [] rfl rfl dX11_isWithin_15 (Nat.le_of_ble_eq_true rfl) (Nat.le_of_ble_eq_true rfl) rfl
    · skip
      refine lv_iconst (v := 1) hx hb dX11_isWithin_10 (by decide) ?_
      refine lv_goto (tgt := 15) hx hb dX11_isWithin_11 (by decide) ?_
      exact retI (v := 1) hx hb hr hlk (rfl) hP hD hS () ⟨_, rfl, Or.inr rfl⟩ [] rfl rfl dX11_isWithin_15 (Nat.le_of_ble_eq_true rfl) (Nat.le_of_ble_eq_true rfl) rfl
set_option maxHeartbeats 4000000 in
set_option maxRecDepth 100000 in
theorem ct_X5_giveBack (l : Launch) (D : va_G) (tc : Nat → ClassId) (sk : (Nat → Nat) × (Nat → Nat)) (h0 : Nat) (b1 : Nat) (sh : Nat)  : Ct l yX5_giveBack cX5_giveBack 4 (some .int) { frames := 0, cells := 0, slots := 0, locals := 0 } D tc sk [.ref h0, .ref sh] [(h0, .inr (5, [.ref b1, .int 0, .int 0]))] (fun (v : Option Value) (_ : Unit) => v = some (.int (-1))) (fun (_ : Unit) => []) 0 0 := by
  refine Ct.start (by decide) (Nat.le_of_ble_eq_true rfl) (fun p e s m below meth c A ls hx hb hr hlk hin hml hown hts hK hX hP hD hA hl hS => ?_)
  have hl : lv_has ls 4 [(0, .ref h0), (1, .ref sh)] := hl
  refine lv_aload_n hx hb dX5_giveBack_0 rfl (lv_at hl 0 rfl) ?_
  refine gf_X5_17 hx hb hts hown hK hP 0 rfl rfl dX5_giveBack_1 ?_
  refine lv_bipush (v := 20) hx hb dX5_giveBack_4 (by decide) ?_
  refine lv_iadd hx hb dX5_giveBack_6 ?_
  refine lv_lit (v := 20) (by decide) ?_
  refine lv_iconst (v := 1) hx hb dX5_giveBack_7 (by decide) ?_
  refine lv_isub hx hb dX5_giveBack_8 ?_
  refine lv_lit (v := 19) (by decide) ?_
  refine lv_bipush (v := 20) hx hb dX5_giveBack_9 (by decide) ?_
  refine lv_irem hx hb dX5_giveBack_11 (by decide) ?_
  refine lv_lit (v := 19) (by decide) ?_
  refine lv_istore_n (lv' := [(2, .int 19), (0, .ref h0), (1, .ref sh)]) hx hb dX5_giveBack_12 rfl hl (by decide) rfl (fun ls hl => ?_)
  refine lv_aload_n hx hb dX5_giveBack_13 rfl (lv_at hl 1 rfl) ?_
  refine gf_X5_21 hx hb hts hown hK hP 0 rfl rfl dX5_giveBack_14 ?_
  refine lv_if_le (tgt := 24) hx hb dX5_giveBack_17 (by decide) (fun c_1 => ?_) (fun c_1 => absurd c_1 (by decide))
  refine lv_iconst (v := (-1)) hx hb dX5_giveBack_24 (by decide) ?_
  exact retI (v := (-1)) hx hb hr hlk (rfl) hP hD hS () rfl [] rfl rfl dX5_giveBack_25 (Nat.le_of_ble_eq_true rfl) (Nat.le_of_ble_eq_true rfl) rfl
set_option maxHeartbeats 4000000 in
set_option maxRecDepth 100000 in
theorem ct_X11_buyer (l : Launch) (D : va_G) (tc : Nat → ClassId) (sk : (Nat → Nat) × (Nat → Nat)) (h0 : Nat) (ta : Nat) (br : Nat) (rr : Nat) (ru : Nat) (sc : Nat) (sh : Nat) (pa : Nat) (im : Nat) (ou : Nat) (ch : Nat) (iq : Nat) (a1 : Nat) (a2 : Nat) (a3 : Nat) (a4 : Nat) (a5 : Nat) (a6 : Nat) (a7 : Nat) (a8 : Nat) (x1 : Int32) (x2 : Int32)  : Ct l yX11_buyer cX11_buyer 3 (some .int) { frames := 1, cells := 0, slots := 0, locals := 21 } D tc sk [.ref h0, .int x1, .int x2] [(h0, .inr (11, [.ref ta, .ref br, .ref rr, .ref ru, .int 0, .ref sc, .ref sh, .ref pa, .ref im, .ref ou, .ref ch, .ref iq])), (sh, .inr (9, [.int 0, .int 0, .int 0, .int 0, .int 0, .int 0, .ref a1, .ref a2, .ref a3, .ref a4, .ref a5, .ref a6, .ref a7, .ref a8]))] (fun (v : Option Value) (_ : Unit) => v = some (.int (-1))) (fun (_ : Unit) => []) 0 0 := by
  refine Ct.start (by decide) (Nat.le_of_ble_eq_true rfl) (fun p e s m below meth c A ls hx hb hr hlk hin hml hown hts hK hX hP hD hA hl hS => ?_)
  have hl : lv_has ls 3 [(0, .ref h0), (1, .int x1), (2, .int x2)] := hl
  refine lv_aload_n hx hb dX11_buyer_0 rfl (lv_at hl 0 rfl) ?_
  refine gf_X11_51 hx hb hts hown hK hP 0 rfl rfl dX11_buyer_1 ?_
  refine lv_iload_n hx hb dX11_buyer_4 rfl (lv_at hl 1 rfl) ?_
  refine cV (a := sh) (As := [.int x1]) (rest := []) (wr := [(h0, .inr (11, [.ref ta, .ref br, .ref rr, .ref ru, .int 0, .ref sc, .ref sh, .ref pa, .ref im, .ref ou, .ref ch, .ref iq]))]) ⟨hx, hb, hml, hown, hts⟩ hK hX hA (ct_X9_hasBuyer l D tc sk sh a1 a2 a3 a4 a5 a6 a7 a8 x1) k_591 k_702 k_589 k_590 k_98 pl_X9_hasBuyer ⟨Nat.le_of_ble_eq_true rfl, Nat.le_of_ble_eq_true rfl⟩ rfl rfl (va_recv hK hP (ci := 9) (q0 := 1) rfl rfl) hP hD hS [1] [0] rfl rfl rfl rfl rfl (by decide) rfl hl.1 rfl (Nat.le_of_ble_eq_true rfl) dX11_buyer_5 ⟨Nat.le_of_ble_eq_true rfl, Nat.le_of_ble_eq_true rfl⟩ (fun v_1 u_2 H locs hv_3 hP hD hS => ?_)
  obtain rfl : v_1 = some (.int 0) := hv_3
  refine W.eq (g2 := F0 m 8 ls [.int 0]) rfl ?_
  have hP : va_P D classes [(h0, .inr (11, [.ref ta, .ref br, .ref rr, .ref ru, .int 0, .ref sc, .ref sh, .ref pa, .ref im, .ref ou, .ref ch, .ref iq])), (sh, .inr (9, [.int 0, .int 0, .int 0, .int 0, .int 0, .int 0, .ref a1, .ref a2, .ref a3, .ref a4, .ref a5, .ref a6, .ref a7, .ref a8]))] H := hP
  have hD : va_D A [(h0, .inr (11, [.ref ta, .ref br, .ref rr, .ref ru, .int 0, .ref sc, .ref sh, .ref pa, .ref im, .ref ou, .ref ch, .ref iq])), (sh, .inr (9, [.int 0, .int 0, .int 0, .int 0, .int 0, .int 0, .ref a1, .ref a2, .ref a3, .ref a4, .ref a5, .ref a6, .ref a7, .ref a8]))] := hD
  refine lv_if_ne (tgt := 13) hx hb dX11_buyer_8 (by decide) (fun c_4 => absurd c_4 (by decide)) (fun c_4 => ?_)
  refine lv_iconst (v := (-1)) hx hb dX11_buyer_11 (by decide) ?_
  exact retI (v := (-1)) hx hb hr hlk (rfl) hP hD hS () rfl [] rfl rfl dX11_buyer_12 (Nat.le_of_ble_eq_true rfl) (Nat.le_of_ble_eq_true rfl) rfl
set_option maxHeartbeats 4000000 in
set_option maxRecDepth 100000 in
theorem ct_X11_sky (l : Launch) (D : va_G) (tc : Nat → ClassId) (sk : (Nat → Nat) × (Nat → Nat)) (h0 : Nat) (ta : Nat) (br : Nat) (rr : Nat) (ru : Nat) (sc : Nat) (sh : Nat) (pa : Nat) (im : Nat) (ou : Nat) (ch : Nat) (iq : Nat) (a1 : Nat) (a2 : Nat) (a3 : Nat) (a4 : Nat) (a5 : Nat) (a6 : Nat) (a7 : Nat) (a8 : Nat) (x1 : Int32) (x2 : Int32)  : Ct l yX11_sky cX11_sky 3 (some .int) { frames := 1, cells := 0, slots := 0, locals := 21 } D tc sk [.ref h0, .int x1, .int x2] [(h0, .inr (11, [.ref ta, .ref br, .ref rr, .ref ru, .int 0, .ref sc, .ref sh, .ref pa, .ref im, .ref ou, .ref ch, .ref iq])), (sh, .inr (9, [.int 0, .int 0, .int 0, .int 0, .int 0, .int 0, .ref a1, .ref a2, .ref a3, .ref a4, .ref a5, .ref a6, .ref a7, .ref a8]))] (fun (v : Option Value) (_ : Unit) => v = some (.int (-1))) (fun (_ : Unit) => []) 0 0 := by
  refine Ct.start (by decide) (Nat.le_of_ble_eq_true rfl) (fun p e s m below meth c A ls hx hb hr hlk hin hml hown hts hK hX hP hD hA hl hS => ?_)
  have hl : lv_has ls 3 [(0, .ref h0), (1, .int x1), (2, .int x2)] := hl
  refine lv_aload_n hx hb dX11_sky_0 rfl (lv_at hl 0 rfl) ?_
  refine gf_X11_51 hx hb hts hown hK hP 0 rfl rfl dX11_sky_1 ?_
  refine lv_iload_n hx hb dX11_sky_4 rfl (lv_at hl 1 rfl) ?_
  refine cV (a := sh) (As := [.int x1]) (rest := []) (wr := [(h0, .inr (11, [.ref ta, .ref br, .ref rr, .ref ru, .int 0, .ref sc, .ref sh, .ref pa, .ref im, .ref ou, .ref ch, .ref iq]))]) ⟨hx, hb, hml, hown, hts⟩ hK hX hA (ct_X9_hasClock l D tc sk sh a1 a2 a3 a4 a5 a6 a7 a8 x1) k_579 k_713 k_577 k_578 k_98 pl_X9_hasClock ⟨Nat.le_of_ble_eq_true rfl, Nat.le_of_ble_eq_true rfl⟩ rfl rfl (va_recv hK hP (ci := 9) (q0 := 1) rfl rfl) hP hD hS [1] [0] rfl rfl rfl rfl rfl (by decide) rfl hl.1 rfl (Nat.le_of_ble_eq_true rfl) dX11_sky_5 ⟨Nat.le_of_ble_eq_true rfl, Nat.le_of_ble_eq_true rfl⟩ (fun v_1 u_2 H locs hv_3 hP hD hS => ?_)
  obtain rfl : v_1 = some (.int 0) := hv_3
  refine W.eq (g2 := F0 m 8 ls [.int 0]) rfl ?_
  have hP : va_P D classes [(h0, .inr (11, [.ref ta, .ref br, .ref rr, .ref ru, .int 0, .ref sc, .ref sh, .ref pa, .ref im, .ref ou, .ref ch, .ref iq])), (sh, .inr (9, [.int 0, .int 0, .int 0, .int 0, .int 0, .int 0, .ref a1, .ref a2, .ref a3, .ref a4, .ref a5, .ref a6, .ref a7, .ref a8]))] H := hP
  have hD : va_D A [(h0, .inr (11, [.ref ta, .ref br, .ref rr, .ref ru, .int 0, .ref sc, .ref sh, .ref pa, .ref im, .ref ou, .ref ch, .ref iq])), (sh, .inr (9, [.int 0, .int 0, .int 0, .int 0, .int 0, .int 0, .ref a1, .ref a2, .ref a3, .ref a4, .ref a5, .ref a6, .ref a7, .ref a8]))] := hD
  refine lv_if_eq (tgt := 20) hx hb dX11_sky_8 (by decide) (fun c_4 => ?_) (fun c_4 => absurd c_4 (by decide))
  refine lv_iconst (v := (-1)) hx hb dX11_sky_20 (by decide) ?_
  exact retI (v := (-1)) hx hb hr hlk (rfl) hP hD hS () rfl [] rfl rfl dX11_sky_21 (Nat.le_of_ble_eq_true rfl) (Nat.le_of_ble_eq_true rfl) rfl
set_option maxHeartbeats 4000000 in
set_option maxRecDepth 100000 in
theorem ct_X11_day (l : Launch) (D : va_G) (tc : Nat → ClassId) (sk : (Nat → Nat) × (Nat → Nat)) (h0 : Nat) (ta : Nat) (br : Nat) (rr : Nat) (ru : Nat) (sc : Nat) (sh : Nat) (pa : Nat) (im : Nat) (ou : Nat) (ch : Nat) (iq : Nat) (a1 : Nat) (a2 : Nat) (a3 : Nat) (a4 : Nat) (a5 : Nat) (a6 : Nat) (a7 : Nat) (a8 : Nat)  : Ct l yX11_day cX11_day 1 (some .int) { frames := 1, cells := 0, slots := 0, locals := 20 } D tc sk [.ref h0] [(h0, .inr (11, [.ref ta, .ref br, .ref rr, .ref ru, .int 0, .ref sc, .ref sh, .ref pa, .ref im, .ref ou, .ref ch, .ref iq])), (sh, .inr (9, [.int 0, .int 0, .int 0, .int 0, .int 0, .int 0, .ref a1, .ref a2, .ref a3, .ref a4, .ref a5, .ref a6, .ref a7, .ref a8]))] (fun (v : Option Value) (_ : Unit) => v = some (.int (-1))) (fun (_ : Unit) => []) 0 0 := by
  refine Ct.start (by decide) (Nat.le_of_ble_eq_true rfl) (fun p e s m below meth c A ls hx hb hr hlk hin hml hown hts hK hX hP hD hA hl hS => ?_)
  have hl : lv_has ls 1 [(0, .ref h0)] := hl
  refine lv_aload_n hx hb dX11_day_0 rfl (lv_at hl 0 rfl) ?_
  refine gf_X11_51 hx hb hts hown hK hP 0 rfl rfl dX11_day_1 ?_
  refine cV (a := sh) (As := []) (rest := []) (wr := [(h0, .inr (11, [.ref ta, .ref br, .ref rr, .ref ru, .int 0, .ref sc, .ref sh, .ref pa, .ref im, .ref ou, .ref ch, .ref iq]))]) ⟨hx, hb, hml, hown, hts⟩ hK hX hA (ct_X9_isTold l D tc sk sh a1 a2 a3 a4 a5 a6 a7 a8) k_724 k_721 k_722 k_723 k_98 pl_X9_isTold ⟨Nat.le_of_ble_eq_true rfl, Nat.le_of_ble_eq_true rfl⟩ rfl rfl (va_recv hK hP (ci := 9) (q0 := 1) rfl rfl) hP hD hS [1] [0] rfl rfl rfl rfl rfl (by decide) rfl hl.1 rfl (Nat.le_of_ble_eq_true rfl) dX11_day_4 ⟨Nat.le_of_ble_eq_true rfl, Nat.le_of_ble_eq_true rfl⟩ (fun v_1 u_2 H locs hv_3 hP hD hS => ?_)
  obtain rfl : v_1 = some (.int 0) := hv_3
  refine W.eq (g2 := F0 m 7 ls [.int 0]) rfl ?_
  have hP : va_P D classes [(h0, .inr (11, [.ref ta, .ref br, .ref rr, .ref ru, .int 0, .ref sc, .ref sh, .ref pa, .ref im, .ref ou, .ref ch, .ref iq])), (sh, .inr (9, [.int 0, .int 0, .int 0, .int 0, .int 0, .int 0, .ref a1, .ref a2, .ref a3, .ref a4, .ref a5, .ref a6, .ref a7, .ref a8]))] H := hP
  have hD : va_D A [(h0, .inr (11, [.ref ta, .ref br, .ref rr, .ref ru, .int 0, .ref sc, .ref sh, .ref pa, .ref im, .ref ou, .ref ch, .ref iq])), (sh, .inr (9, [.int 0, .int 0, .int 0, .int 0, .int 0, .int 0, .ref a1, .ref a2, .ref a3, .ref a4, .ref a5, .ref a6, .ref a7, .ref a8]))] := hD
  refine lv_if_eq (tgt := 23) hx hb dX11_day_7 (by decide) (fun c_4 => ?_) (fun c_4 => absurd c_4 (by decide))
  refine lv_iconst (v := (-1)) hx hb dX11_day_23 (by decide) ?_
  exact retI (v := (-1)) hx hb hr hlk (rfl) hP hD hS () rfl [] rfl rfl dX11_day_24 (Nat.le_of_ble_eq_true rfl) (Nat.le_of_ble_eq_true rfl) rfl
set_option maxHeartbeats 4000000 in
set_option maxRecDepth 100000 in
theorem ct_X11_sell (l : Launch) (D : va_G) (tc : Nat → ClassId) (sk : (Nat → Nat) × (Nat → Nat)) (h0 : Nat) (ta : Nat) (br : Nat) (rr : Nat) (ru : Nat) (sc : Nat) (sh : Nat) (pa : Nat) (im : Nat) (ou : Nat) (ch : Nat) (iq : Nat) (a1 : Nat) (a2 : Nat) (a3 : Nat) (a4 : Nat) (a5 : Nat) (a6 : Nat) (a7 : Nat) (a8 : Nat) (x1 : Int32)  : Ct l yX11_sell cX11_sell 2 (some .int) { frames := 1, cells := 0, slots := 0, locals := 21 } D tc sk [.ref h0, .int x1] [(h0, .inr (11, [.ref ta, .ref br, .ref rr, .ref ru, .int 0, .ref sc, .ref sh, .ref pa, .ref im, .ref ou, .ref ch, .ref iq])), (sh, .inr (9, [.int 0, .int 0, .int 0, .int 0, .int 0, .int 0, .ref a1, .ref a2, .ref a3, .ref a4, .ref a5, .ref a6, .ref a7, .ref a8]))] (fun (v : Option Value) (_ : Unit) => v = some (.int (-1))) (fun (_ : Unit) => []) 0 0 := by
  refine Ct.start (by decide) (Nat.le_of_ble_eq_true rfl) (fun p e s m below meth c A ls hx hb hr hlk hin hml hown hts hK hX hP hD hA hl hS => ?_)
  have hl : lv_has ls 2 [(0, .ref h0), (1, .int x1)] := hl
  refine lv_aload_n hx hb dX11_sell_0 rfl (lv_at hl 0 rfl) ?_
  refine gf_X11_51 hx hb hts hown hK hP 0 rfl rfl dX11_sell_1 ?_
  refine lv_iload_n hx hb dX11_sell_4 rfl (lv_at hl 1 rfl) ?_
  refine cV (a := sh) (As := [.int x1]) (rest := []) (wr := [(h0, .inr (11, [.ref ta, .ref br, .ref rr, .ref ru, .int 0, .ref sc, .ref sh, .ref pa, .ref im, .ref ou, .ref ch, .ref iq]))]) ⟨hx, hb, hml, hown, hts⟩ hK hX hA (ct_X9_hasBuyer l D tc sk sh a1 a2 a3 a4 a5 a6 a7 a8 x1) k_591 k_702 k_589 k_590 k_98 pl_X9_hasBuyer ⟨Nat.le_of_ble_eq_true rfl, Nat.le_of_ble_eq_true rfl⟩ rfl rfl (va_recv hK hP (ci := 9) (q0 := 1) rfl rfl) hP hD hS [1] [0] rfl rfl rfl rfl rfl (by decide) rfl hl.1 rfl (Nat.le_of_ble_eq_true rfl) dX11_sell_5 ⟨Nat.le_of_ble_eq_true rfl, Nat.le_of_ble_eq_true rfl⟩ (fun v_1 u_2 H locs hv_3 hP hD hS => ?_)
  obtain rfl : v_1 = some (.int 0) := hv_3
  refine W.eq (g2 := F0 m 8 ls [.int 0]) rfl ?_
  have hP : va_P D classes [(h0, .inr (11, [.ref ta, .ref br, .ref rr, .ref ru, .int 0, .ref sc, .ref sh, .ref pa, .ref im, .ref ou, .ref ch, .ref iq])), (sh, .inr (9, [.int 0, .int 0, .int 0, .int 0, .int 0, .int 0, .ref a1, .ref a2, .ref a3, .ref a4, .ref a5, .ref a6, .ref a7, .ref a8]))] H := hP
  have hD : va_D A [(h0, .inr (11, [.ref ta, .ref br, .ref rr, .ref ru, .int 0, .ref sc, .ref sh, .ref pa, .ref im, .ref ou, .ref ch, .ref iq])), (sh, .inr (9, [.int 0, .int 0, .int 0, .int 0, .int 0, .int 0, .ref a1, .ref a2, .ref a3, .ref a4, .ref a5, .ref a6, .ref a7, .ref a8]))] := hD
  refine lv_if_eq (tgt := 30) hx hb dX11_sell_8 (by decide) (fun c_4 => ?_) (fun c_4 => absurd c_4 (by decide))
  refine lv_iconst (v := (-1)) hx hb dX11_sell_30 (by decide) ?_
  exact retI (v := (-1)) hx hb hr hlk (rfl) hP hD hS () rfl [] rfl rfl dX11_sell_31 (Nat.le_of_ble_eq_true rfl) (Nat.le_of_ble_eq_true rfl) rfl
set_option maxHeartbeats 4000000 in
set_option maxRecDepth 100000 in
theorem ct_X11_calm (l : Launch) (D : va_G) (tc : Nat → ClassId) (sk : (Nat → Nat) × (Nat → Nat)) (h0 : Nat) (ta : Nat) (br : Nat) (rr : Nat) (ru : Nat) (sc : Nat) (sh : Nat) (pa : Nat) (im : Nat) (ou : Nat) (ch : Nat) (iq : Nat) (a1 : Nat) (a2 : Nat) (a3 : Nat) (a4 : Nat) (a5 : Nat) (a6 : Nat) (a7 : Nat) (a8 : Nat) (x1 : Int32) (x2 : Int32)  : Ct l yX11_calm cX11_calm 3 (some .int) { frames := 1, cells := 0, slots := 0, locals := 21 } D tc sk [.ref h0, .int x1, .int x2] [(h0, .inr (11, [.ref ta, .ref br, .ref rr, .ref ru, .int 0, .ref sc, .ref sh, .ref pa, .ref im, .ref ou, .ref ch, .ref iq])), (sh, .inr (9, [.int 0, .int 0, .int 0, .int 0, .int 0, .int 0, .ref a1, .ref a2, .ref a3, .ref a4, .ref a5, .ref a6, .ref a7, .ref a8]))] (fun (v : Option Value) (_ : Unit) => v = some (.int (-1))) (fun (_ : Unit) => []) 0 0 := by
  refine Ct.start (by decide) (Nat.le_of_ble_eq_true rfl) (fun p e s m below meth c A ls hx hb hr hlk hin hml hown hts hK hX hP hD hA hl hS => ?_)
  have hl : lv_has ls 3 [(0, .ref h0), (1, .int x1), (2, .int x2)] := hl
  refine lv_aload_n hx hb dX11_calm_0 rfl (lv_at hl 0 rfl) ?_
  refine gf_X11_51 hx hb hts hown hK hP 0 rfl rfl dX11_calm_1 ?_
  refine lv_iload_n hx hb dX11_calm_4 rfl (lv_at hl 1 rfl) ?_
  refine cV (a := sh) (As := [.int x1]) (rest := []) (wr := [(h0, .inr (11, [.ref ta, .ref br, .ref rr, .ref ru, .int 0, .ref sc, .ref sh, .ref pa, .ref im, .ref ou, .ref ch, .ref iq]))]) ⟨hx, hb, hml, hown, hts⟩ hK hX hA (ct_X9_hasBuyer l D tc sk sh a1 a2 a3 a4 a5 a6 a7 a8 x1) k_591 k_702 k_589 k_590 k_98 pl_X9_hasBuyer ⟨Nat.le_of_ble_eq_true rfl, Nat.le_of_ble_eq_true rfl⟩ rfl rfl (va_recv hK hP (ci := 9) (q0 := 1) rfl rfl) hP hD hS [1] [0] rfl rfl rfl rfl rfl (by decide) rfl hl.1 rfl (Nat.le_of_ble_eq_true rfl) dX11_calm_5 ⟨Nat.le_of_ble_eq_true rfl, Nat.le_of_ble_eq_true rfl⟩ (fun v_1 u_2 H locs hv_3 hP hD hS => ?_)
  obtain rfl : v_1 = some (.int 0) := hv_3
  refine W.eq (g2 := F0 m 8 ls [.int 0]) rfl ?_
  have hP : va_P D classes [(h0, .inr (11, [.ref ta, .ref br, .ref rr, .ref ru, .int 0, .ref sc, .ref sh, .ref pa, .ref im, .ref ou, .ref ch, .ref iq])), (sh, .inr (9, [.int 0, .int 0, .int 0, .int 0, .int 0, .int 0, .ref a1, .ref a2, .ref a3, .ref a4, .ref a5, .ref a6, .ref a7, .ref a8]))] H := hP
  have hD : va_D A [(h0, .inr (11, [.ref ta, .ref br, .ref rr, .ref ru, .int 0, .ref sc, .ref sh, .ref pa, .ref im, .ref ou, .ref ch, .ref iq])), (sh, .inr (9, [.int 0, .int 0, .int 0, .int 0, .int 0, .int 0, .ref a1, .ref a2, .ref a3, .ref a4, .ref a5, .ref a6, .ref a7, .ref a8]))] := hD
  refine lv_if_eq (tgt := 34) hx hb dX11_calm_8 (by decide) (fun c_4 => ?_) (fun c_4 => absurd c_4 (by decide))
  refine lv_iconst (v := (-1)) hx hb dX11_calm_34 (by decide) ?_
  exact retI (v := (-1)) hx hb hr hlk (rfl) hP hD hS () rfl [] rfl rfl dX11_calm_35 (Nat.le_of_ble_eq_true rfl) (Nat.le_of_ble_eq_true rfl) rfl
set_option maxHeartbeats 4000000 in
set_option maxRecDepth 100000 in
theorem ct_X11_watch (l : Launch) (D : va_G) (tc : Nat → ClassId) (sk : (Nat → Nat) × (Nat → Nat)) (h0 : Nat) (ta : Nat) (br : Nat) (rr : Nat) (ru : Nat) (sc : Nat) (sh : Nat) (pa : Nat) (im : Nat) (ou : Nat) (ch : Nat) (iq : Nat) (a1 : Nat) (a2 : Nat) (a3 : Nat) (a4 : Nat) (a5 : Nat) (a6 : Nat) (a7 : Nat) (a8 : Nat) (x1 : Int32) (x2 : Int32)  : Ct l yX11_watch cX11_watch 3 (some .int) { frames := 1, cells := 0, slots := 0, locals := 21 } D tc sk [.ref h0, .int x1, .int x2] [(h0, .inr (11, [.ref ta, .ref br, .ref rr, .ref ru, .int 0, .ref sc, .ref sh, .ref pa, .ref im, .ref ou, .ref ch, .ref iq])), (sh, .inr (9, [.int 0, .int 0, .int 0, .int 0, .int 0, .int 0, .ref a1, .ref a2, .ref a3, .ref a4, .ref a5, .ref a6, .ref a7, .ref a8]))] (fun (v : Option Value) (_ : Unit) => v = some (.int (-1))) (fun (_ : Unit) => []) 0 0 := by
  refine Ct.start (by decide) (Nat.le_of_ble_eq_true rfl) (fun p e s m below meth c A ls hx hb hr hlk hin hml hown hts hK hX hP hD hA hl hS => ?_)
  have hl : lv_has ls 3 [(0, .ref h0), (1, .int x1), (2, .int x2)] := hl
  refine lv_aload_n hx hb dX11_watch_0 rfl (lv_at hl 0 rfl) ?_
  refine gf_X11_51 hx hb hts hown hK hP 0 rfl rfl dX11_watch_1 ?_
  refine lv_iload_n hx hb dX11_watch_4 rfl (lv_at hl 1 rfl) ?_
  refine cV (a := sh) (As := [.int x1]) (rest := []) (wr := [(h0, .inr (11, [.ref ta, .ref br, .ref rr, .ref ru, .int 0, .ref sc, .ref sh, .ref pa, .ref im, .ref ou, .ref ch, .ref iq]))]) ⟨hx, hb, hml, hown, hts⟩ hK hX hA (ct_X9_hasClock l D tc sk sh a1 a2 a3 a4 a5 a6 a7 a8 x1) k_579 k_713 k_577 k_578 k_98 pl_X9_hasClock ⟨Nat.le_of_ble_eq_true rfl, Nat.le_of_ble_eq_true rfl⟩ rfl rfl (va_recv hK hP (ci := 9) (q0 := 1) rfl rfl) hP hD hS [1] [0] rfl rfl rfl rfl rfl (by decide) rfl hl.1 rfl (Nat.le_of_ble_eq_true rfl) dX11_watch_5 ⟨Nat.le_of_ble_eq_true rfl, Nat.le_of_ble_eq_true rfl⟩ (fun v_1 u_2 H locs hv_3 hP hD hS => ?_)
  obtain rfl : v_1 = some (.int 0) := hv_3
  refine W.eq (g2 := F0 m 8 ls [.int 0]) rfl ?_
  have hP : va_P D classes [(h0, .inr (11, [.ref ta, .ref br, .ref rr, .ref ru, .int 0, .ref sc, .ref sh, .ref pa, .ref im, .ref ou, .ref ch, .ref iq])), (sh, .inr (9, [.int 0, .int 0, .int 0, .int 0, .int 0, .int 0, .ref a1, .ref a2, .ref a3, .ref a4, .ref a5, .ref a6, .ref a7, .ref a8]))] H := hP
  have hD : va_D A [(h0, .inr (11, [.ref ta, .ref br, .ref rr, .ref ru, .int 0, .ref sc, .ref sh, .ref pa, .ref im, .ref ou, .ref ch, .ref iq])), (sh, .inr (9, [.int 0, .int 0, .int 0, .int 0, .int 0, .int 0, .ref a1, .ref a2, .ref a3, .ref a4, .ref a5, .ref a6, .ref a7, .ref a8]))] := hD
  refine lv_if_eq (tgt := 22) hx hb dX11_watch_8 (by decide) (fun c_4 => ?_) (fun c_4 => absurd c_4 (by decide))
  refine lv_iconst (v := (-1)) hx hb dX11_watch_22 (by decide) ?_
  exact retI (v := (-1)) hx hb hr hlk (rfl) hP hD hS () rfl [] rfl rfl dX11_watch_23 (Nat.le_of_ble_eq_true rfl) (Nat.le_of_ble_eq_true rfl) rfl
set_option maxHeartbeats 4000000 in
set_option maxRecDepth 100000 in
theorem ct_X11_change (l : Launch) (D : va_G) (tc : Nat → ClassId) (sk : (Nat → Nat) × (Nat → Nat)) (h0 : Nat) (ta : Nat) (br : Nat) (rr : Nat) (ru : Nat) (sc : Nat) (sh : Nat) (pa : Nat) (im : Nat) (ou : Nat) (ch : Nat) (iq : Nat) (a1 : Nat) (a2 : Nat) (a3 : Nat) (a4 : Nat) (a5 : Nat) (a6 : Nat) (a7 : Nat) (a8 : Nat) (x1 : Int32) (x2 : Int32)  : Ct l yX11_change cX11_change 4 (some .int) { frames := 1, cells := 0, slots := 0, locals := 21 } D tc sk [.ref h0, .int x1, .int x2] [(h0, .inr (11, [.ref ta, .ref br, .ref rr, .ref ru, .int 0, .ref sc, .ref sh, .ref pa, .ref im, .ref ou, .ref ch, .ref iq])), (sh, .inr (9, [.int 0, .int 0, .int 0, .int 0, .int 0, .int 0, .ref a1, .ref a2, .ref a3, .ref a4, .ref a5, .ref a6, .ref a7, .ref a8]))] (fun (v : Option Value) (_ : Unit) => v = some (.int (-1))) (fun (_ : Unit) => []) 0 0 := by
  refine Ct.start (by decide) (Nat.le_of_ble_eq_true rfl) (fun p e s m below meth c A ls hx hb hr hlk hin hml hown hts hK hX hP hD hA hl hS => ?_)
  have hl : lv_has ls 4 [(0, .ref h0), (1, .int x1), (2, .int x2)] := hl
  refine lv_aload_n hx hb dX11_change_0 rfl (lv_at hl 0 rfl) ?_
  refine gf_X11_51 hx hb hts hown hK hP 0 rfl rfl dX11_change_1 ?_
  refine lv_iload_n hx hb dX11_change_4 rfl (lv_at hl 1 rfl) ?_
  refine cV (a := sh) (As := [.int x1]) (rest := []) (wr := [(h0, .inr (11, [.ref ta, .ref br, .ref rr, .ref ru, .int 0, .ref sc, .ref sh, .ref pa, .ref im, .ref ou, .ref ch, .ref iq]))]) ⟨hx, hb, hml, hown, hts⟩ hK hX hA (ct_X9_hasClock l D tc sk sh a1 a2 a3 a4 a5 a6 a7 a8 x1) k_579 k_713 k_577 k_578 k_98 pl_X9_hasClock ⟨Nat.le_of_ble_eq_true rfl, Nat.le_of_ble_eq_true rfl⟩ rfl rfl (va_recv hK hP (ci := 9) (q0 := 1) rfl rfl) hP hD hS [1] [0] rfl rfl rfl rfl rfl (by decide) rfl hl.1 rfl (Nat.le_of_ble_eq_true rfl) dX11_change_5 ⟨Nat.le_of_ble_eq_true rfl, Nat.le_of_ble_eq_true rfl⟩ (fun v_1 u_2 H locs hv_3 hP hD hS => ?_)
  obtain rfl : v_1 = some (.int 0) := hv_3
  refine W.eq (g2 := F0 m 8 ls [.int 0]) rfl ?_
  have hP : va_P D classes [(h0, .inr (11, [.ref ta, .ref br, .ref rr, .ref ru, .int 0, .ref sc, .ref sh, .ref pa, .ref im, .ref ou, .ref ch, .ref iq])), (sh, .inr (9, [.int 0, .int 0, .int 0, .int 0, .int 0, .int 0, .ref a1, .ref a2, .ref a3, .ref a4, .ref a5, .ref a6, .ref a7, .ref a8]))] H := hP
  have hD : va_D A [(h0, .inr (11, [.ref ta, .ref br, .ref rr, .ref ru, .int 0, .ref sc, .ref sh, .ref pa, .ref im, .ref ou, .ref ch, .ref iq])), (sh, .inr (9, [.int 0, .int 0, .int 0, .int 0, .int 0, .int 0, .ref a1, .ref a2, .ref a3, .ref a4, .ref a5, .ref a6, .ref a7, .ref a8]))] := hD
  refine lv_if_eq (tgt := 34) hx hb dX11_change_8 (by decide) (fun c_4 => ?_) (fun c_4 => absurd c_4 (by decide))
  refine lv_iconst (v := (-1)) hx hb dX11_change_34 (by decide) ?_
  exact retI (v := (-1)) hx hb hr hlk (rfl) hP hD hS () rfl [] rfl rfl dX11_change_35 (Nat.le_of_ble_eq_true rfl) (Nat.le_of_ble_eq_true rfl) rfl
set_option maxHeartbeats 4000000 in
set_option maxRecDepth 100000 in
theorem ct_X11_ahead (l : Launch) (D : va_G) (tc : Nat → ClassId) (sk : (Nat → Nat) × (Nat → Nat)) (h0 : Nat) (ta : Nat) (br : Nat) (rr : Nat) (ru : Nat) (sc : Nat) (sh : Nat) (pa : Nat) (im : Nat) (ou : Nat) (ch : Nat) (iq : Nat) (a1 : Nat) (a2 : Nat) (a3 : Nat) (a4 : Nat) (a5 : Nat) (a6 : Nat) (a7 : Nat) (a8 : Nat) (x1 : Int32) (x2 : Int32) (x3 : Int32)  : Ct l yX11_ahead cX11_ahead 4 (some .int) { frames := 1, cells := 0, slots := 0, locals := 20 } D tc sk [.ref h0, .int x1, .int x2, .int x3] [(h0, .inr (11, [.ref ta, .ref br, .ref rr, .ref ru, .int 0, .ref sc, .ref sh, .ref pa, .ref im, .ref ou, .ref ch, .ref iq])), (sh, .inr (9, [.int 0, .int 0, .int 0, .int 0, .int 0, .int 0, .ref a1, .ref a2, .ref a3, .ref a4, .ref a5, .ref a6, .ref a7, .ref a8]))] (fun (v : Option Value) (_ : Unit) => v = some (.int (-1))) (fun (_ : Unit) => []) 0 0 := by
  refine Ct.start (by decide) (Nat.le_of_ble_eq_true rfl) (fun p e s m below meth c A ls hx hb hr hlk hin hml hown hts hK hX hP hD hA hl hS => ?_)
  have hl : lv_has ls 4 [(0, .ref h0), (1, .int x1), (2, .int x2), (3, .int x3)] := hl
  refine lv_aload_n hx hb dX11_ahead_0 rfl (lv_at hl 0 rfl) ?_
  refine gf_X11_51 hx hb hts hown hK hP 0 rfl rfl dX11_ahead_1 ?_
  refine cV (a := sh) (As := []) (rest := []) (wr := [(h0, .inr (11, [.ref ta, .ref br, .ref rr, .ref ru, .int 0, .ref sc, .ref sh, .ref pa, .ref im, .ref ou, .ref ch, .ref iq]))]) ⟨hx, hb, hml, hown, hts⟩ hK hX hA (ct_X9_isTold l D tc sk sh a1 a2 a3 a4 a5 a6 a7 a8) k_724 k_721 k_722 k_723 k_98 pl_X9_isTold ⟨Nat.le_of_ble_eq_true rfl, Nat.le_of_ble_eq_true rfl⟩ rfl rfl (va_recv hK hP (ci := 9) (q0 := 1) rfl rfl) hP hD hS [1] [0] rfl rfl rfl rfl rfl (by decide) rfl hl.1 rfl (Nat.le_of_ble_eq_true rfl) dX11_ahead_4 ⟨Nat.le_of_ble_eq_true rfl, Nat.le_of_ble_eq_true rfl⟩ (fun v_1 u_2 H locs hv_3 hP hD hS => ?_)
  obtain rfl : v_1 = some (.int 0) := hv_3
  refine W.eq (g2 := F0 m 7 ls [.int 0]) rfl ?_
  have hP : va_P D classes [(h0, .inr (11, [.ref ta, .ref br, .ref rr, .ref ru, .int 0, .ref sc, .ref sh, .ref pa, .ref im, .ref ou, .ref ch, .ref iq])), (sh, .inr (9, [.int 0, .int 0, .int 0, .int 0, .int 0, .int 0, .ref a1, .ref a2, .ref a3, .ref a4, .ref a5, .ref a6, .ref a7, .ref a8]))] H := hP
  have hD : va_D A [(h0, .inr (11, [.ref ta, .ref br, .ref rr, .ref ru, .int 0, .ref sc, .ref sh, .ref pa, .ref im, .ref ou, .ref ch, .ref iq])), (sh, .inr (9, [.int 0, .int 0, .int 0, .int 0, .int 0, .int 0, .ref a1, .ref a2, .ref a3, .ref a4, .ref a5, .ref a6, .ref a7, .ref a8]))] := hD
  refine lv_if_eq (tgt := 29) hx hb dX11_ahead_7 (by decide) (fun c_4 => ?_) (fun c_4 => absurd c_4 (by decide))
  refine lv_iconst (v := (-1)) hx hb dX11_ahead_29 (by decide) ?_
  exact retI (v := (-1)) hx hb hr hlk (rfl) hP hD hS () rfl [] rfl rfl dX11_ahead_30 (Nat.le_of_ble_eq_true rfl) (Nat.le_of_ble_eq_true rfl) rfl
set_option maxHeartbeats 4000000 in
set_option maxRecDepth 100000 in
theorem ct_X11_buys (l : Launch) (D : va_G) (tc : Nat → ClassId) (sk : (Nat → Nat) × (Nat → Nat)) (h0 : Nat) (ta : Nat) (br : Nat) (rr : Nat) (ru : Nat) (sc : Nat) (sh : Nat) (pa : Nat) (im : Nat) (ou : Nat) (ch : Nat) (iq : Nat) (a1 : Nat) (a2 : Nat) (a3 : Nat) (a4 : Nat) (a5 : Nat) (a6 : Nat) (a7 : Nat) (a8 : Nat) (x1 : Int32)  : Ct l yX11_buys cX11_buys 2 (some .int) { frames := 1, cells := 0, slots := 0, locals := 21 } D tc sk [.ref h0, .int x1] [(h0, .inr (11, [.ref ta, .ref br, .ref rr, .ref ru, .int 0, .ref sc, .ref sh, .ref pa, .ref im, .ref ou, .ref ch, .ref iq])), (sh, .inr (9, [.int 0, .int 0, .int 0, .int 0, .int 0, .int 0, .ref a1, .ref a2, .ref a3, .ref a4, .ref a5, .ref a6, .ref a7, .ref a8]))] (fun (v : Option Value) (_ : Unit) => v = some (.int (-1))) (fun (_ : Unit) => []) 0 0 := by
  refine Ct.start (by decide) (Nat.le_of_ble_eq_true rfl) (fun p e s m below meth c A ls hx hb hr hlk hin hml hown hts hK hX hP hD hA hl hS => ?_)
  have hl : lv_has ls 2 [(0, .ref h0), (1, .int x1)] := hl
  refine lv_aload_n hx hb dX11_buys_0 rfl (lv_at hl 0 rfl) ?_
  refine gf_X11_51 hx hb hts hown hK hP 0 rfl rfl dX11_buys_1 ?_
  refine lv_iload_n hx hb dX11_buys_4 rfl (lv_at hl 1 rfl) ?_
  refine cV (a := sh) (As := [.int x1]) (rest := []) (wr := [(h0, .inr (11, [.ref ta, .ref br, .ref rr, .ref ru, .int 0, .ref sc, .ref sh, .ref pa, .ref im, .ref ou, .ref ch, .ref iq]))]) ⟨hx, hb, hml, hown, hts⟩ hK hX hA (ct_X9_hasBuyer l D tc sk sh a1 a2 a3 a4 a5 a6 a7 a8 x1) k_591 k_702 k_589 k_590 k_98 pl_X9_hasBuyer ⟨Nat.le_of_ble_eq_true rfl, Nat.le_of_ble_eq_true rfl⟩ rfl rfl (va_recv hK hP (ci := 9) (q0 := 1) rfl rfl) hP hD hS [1] [0] rfl rfl rfl rfl rfl (by decide) rfl hl.1 rfl (Nat.le_of_ble_eq_true rfl) dX11_buys_5 ⟨Nat.le_of_ble_eq_true rfl, Nat.le_of_ble_eq_true rfl⟩ (fun v_1 u_2 H locs hv_3 hP hD hS => ?_)
  obtain rfl : v_1 = some (.int 0) := hv_3
  refine W.eq (g2 := F0 m 8 ls [.int 0]) rfl ?_
  have hP : va_P D classes [(h0, .inr (11, [.ref ta, .ref br, .ref rr, .ref ru, .int 0, .ref sc, .ref sh, .ref pa, .ref im, .ref ou, .ref ch, .ref iq])), (sh, .inr (9, [.int 0, .int 0, .int 0, .int 0, .int 0, .int 0, .ref a1, .ref a2, .ref a3, .ref a4, .ref a5, .ref a6, .ref a7, .ref a8]))] H := hP
  have hD : va_D A [(h0, .inr (11, [.ref ta, .ref br, .ref rr, .ref ru, .int 0, .ref sc, .ref sh, .ref pa, .ref im, .ref ou, .ref ch, .ref iq])), (sh, .inr (9, [.int 0, .int 0, .int 0, .int 0, .int 0, .int 0, .ref a1, .ref a2, .ref a3, .ref a4, .ref a5, .ref a6, .ref a7, .ref a8]))] := hD
  refine lv_if_eq (tgt := 30) hx hb dX11_buys_8 (by decide) (fun c_4 => ?_) (fun c_4 => absurd c_4 (by decide))
  refine lv_iconst (v := (-1)) hx hb dX11_buys_30 (by decide) ?_
  exact retI (v := (-1)) hx hb hr hlk (rfl) hP hD hS () rfl [] rfl rfl dX11_buys_31 (Nat.le_of_ble_eq_true rfl) (Nat.le_of_ble_eq_true rfl) rfl
set_option maxHeartbeats 4000000 in
set_option maxRecDepth 100000 in
theorem ct_X11_empty (l : Launch) (D : va_G) (tc : Nat → ClassId) (sk : (Nat → Nat) × (Nat → Nat)) (h0 : Nat) (ta : Nat) (br : Nat) (rr : Nat) (ru : Nat) (sc : Nat) (sh : Nat) (pa : Nat) (im : Nat) (ou : Nat) (ch : Nat) (iq : Nat) (a1 : Nat) (a2 : Nat) (a3 : Nat) (a4 : Nat) (a5 : Nat) (a6 : Nat) (a7 : Nat) (a8 : Nat)  : Ct l yX11_empty cX11_empty 1 (some .int) { frames := 1, cells := 0, slots := 0, locals := 20 } D tc sk [.ref h0] [(h0, .inr (11, [.ref ta, .ref br, .ref rr, .ref ru, .int 0, .ref sc, .ref sh, .ref pa, .ref im, .ref ou, .ref ch, .ref iq])), (sh, .inr (9, [.int 0, .int 0, .int 0, .int 0, .int 0, .int 0, .ref a1, .ref a2, .ref a3, .ref a4, .ref a5, .ref a6, .ref a7, .ref a8]))] (fun (v : Option Value) (_ : Unit) => v = some (.int (-1))) (fun (_ : Unit) => []) 0 0 := by
  refine Ct.start (by decide) (Nat.le_of_ble_eq_true rfl) (fun p e s m below meth c A ls hx hb hr hlk hin hml hown hts hK hX hP hD hA hl hS => ?_)
  have hl : lv_has ls 1 [(0, .ref h0)] := hl
  refine lv_aload_n hx hb dX11_empty_0 rfl (lv_at hl 0 rfl) ?_
  refine gf_X11_51 hx hb hts hown hK hP 0 rfl rfl dX11_empty_1 ?_
  refine cV (a := sh) (As := []) (rest := []) (wr := [(h0, .inr (11, [.ref ta, .ref br, .ref rr, .ref ru, .int 0, .ref sc, .ref sh, .ref pa, .ref im, .ref ou, .ref ch, .ref iq]))]) ⟨hx, hb, hml, hown, hts⟩ hK hX hA (ct_X9_isTold l D tc sk sh a1 a2 a3 a4 a5 a6 a7 a8) k_724 k_721 k_722 k_723 k_98 pl_X9_isTold ⟨Nat.le_of_ble_eq_true rfl, Nat.le_of_ble_eq_true rfl⟩ rfl rfl (va_recv hK hP (ci := 9) (q0 := 1) rfl rfl) hP hD hS [1] [0] rfl rfl rfl rfl rfl (by decide) rfl hl.1 rfl (Nat.le_of_ble_eq_true rfl) dX11_empty_4 ⟨Nat.le_of_ble_eq_true rfl, Nat.le_of_ble_eq_true rfl⟩ (fun v_1 u_2 H locs hv_3 hP hD hS => ?_)
  obtain rfl : v_1 = some (.int 0) := hv_3
  refine W.eq (g2 := F0 m 7 ls [.int 0]) rfl ?_
  have hP : va_P D classes [(h0, .inr (11, [.ref ta, .ref br, .ref rr, .ref ru, .int 0, .ref sc, .ref sh, .ref pa, .ref im, .ref ou, .ref ch, .ref iq])), (sh, .inr (9, [.int 0, .int 0, .int 0, .int 0, .int 0, .int 0, .ref a1, .ref a2, .ref a3, .ref a4, .ref a5, .ref a6, .ref a7, .ref a8]))] H := hP
  have hD : va_D A [(h0, .inr (11, [.ref ta, .ref br, .ref rr, .ref ru, .int 0, .ref sc, .ref sh, .ref pa, .ref im, .ref ou, .ref ch, .ref iq])), (sh, .inr (9, [.int 0, .int 0, .int 0, .int 0, .int 0, .int 0, .ref a1, .ref a2, .ref a3, .ref a4, .ref a5, .ref a6, .ref a7, .ref a8]))] := hD
  refine lv_if_eq (tgt := 28) hx hb dX11_empty_7 (by decide) (fun c_4 => ?_) (fun c_4 => absurd c_4 (by decide))
  refine lv_iconst (v := (-1)) hx hb dX11_empty_28 (by decide) ?_
  exact retI (v := (-1)) hx hb hr hlk (rfl) hP hD hS () rfl [] rfl rfl dX11_empty_29 (Nat.le_of_ble_eq_true rfl) (Nat.le_of_ble_eq_true rfl) rfl
set_option maxHeartbeats 4000000 in
set_option maxRecDepth 100000 in
theorem ct_X11_tells (l : Launch) (D : va_G) (tc : Nat → ClassId) (sk : (Nat → Nat) × (Nat → Nat)) (h0 : Nat) (ta : Nat) (br : Nat) (rr : Nat) (ru : Nat) (sc : Nat) (sh : Nat) (pa : Nat) (im : Nat) (ou : Nat) (ch : Nat) (iq : Nat) (a1 : Nat) (a2 : Nat) (a3 : Nat) (a4 : Nat) (a5 : Nat) (a6 : Nat) (a7 : Nat) (a8 : Nat) (x1 : Int32) (x2 : Int32)  : Ct l yX11_tells cX11_tells 3 (some .int) { frames := 1, cells := 0, slots := 0, locals := 20 } D tc sk [.ref h0, .int x1, .int x2] [(h0, .inr (11, [.ref ta, .ref br, .ref rr, .ref ru, .int 0, .ref sc, .ref sh, .ref pa, .ref im, .ref ou, .ref ch, .ref iq])), (sh, .inr (9, [.int 0, .int 0, .int 0, .int 0, .int 0, .int 0, .ref a1, .ref a2, .ref a3, .ref a4, .ref a5, .ref a6, .ref a7, .ref a8]))] (fun (v : Option Value) (_ : Unit) => v = some (.int (-1))) (fun (_ : Unit) => []) 0 0 := by
  refine Ct.start (by decide) (Nat.le_of_ble_eq_true rfl) (fun p e s m below meth c A ls hx hb hr hlk hin hml hown hts hK hX hP hD hA hl hS => ?_)
  have hl : lv_has ls 3 [(0, .ref h0), (1, .int x1), (2, .int x2)] := hl
  refine lv_aload_n hx hb dX11_tells_0 rfl (lv_at hl 0 rfl) ?_
  refine gf_X11_51 hx hb hts hown hK hP 0 rfl rfl dX11_tells_1 ?_
  refine cV (a := sh) (As := []) (rest := []) (wr := [(h0, .inr (11, [.ref ta, .ref br, .ref rr, .ref ru, .int 0, .ref sc, .ref sh, .ref pa, .ref im, .ref ou, .ref ch, .ref iq]))]) ⟨hx, hb, hml, hown, hts⟩ hK hX hA (ct_X9_isTold l D tc sk sh a1 a2 a3 a4 a5 a6 a7 a8) k_724 k_721 k_722 k_723 k_98 pl_X9_isTold ⟨Nat.le_of_ble_eq_true rfl, Nat.le_of_ble_eq_true rfl⟩ rfl rfl (va_recv hK hP (ci := 9) (q0 := 1) rfl rfl) hP hD hS [1] [0] rfl rfl rfl rfl rfl (by decide) rfl hl.1 rfl (Nat.le_of_ble_eq_true rfl) dX11_tells_4 ⟨Nat.le_of_ble_eq_true rfl, Nat.le_of_ble_eq_true rfl⟩ (fun v_1 u_2 H locs hv_3 hP hD hS => ?_)
  obtain rfl : v_1 = some (.int 0) := hv_3
  refine W.eq (g2 := F0 m 7 ls [.int 0]) rfl ?_
  have hP : va_P D classes [(h0, .inr (11, [.ref ta, .ref br, .ref rr, .ref ru, .int 0, .ref sc, .ref sh, .ref pa, .ref im, .ref ou, .ref ch, .ref iq])), (sh, .inr (9, [.int 0, .int 0, .int 0, .int 0, .int 0, .int 0, .ref a1, .ref a2, .ref a3, .ref a4, .ref a5, .ref a6, .ref a7, .ref a8]))] H := hP
  have hD : va_D A [(h0, .inr (11, [.ref ta, .ref br, .ref rr, .ref ru, .int 0, .ref sc, .ref sh, .ref pa, .ref im, .ref ou, .ref ch, .ref iq])), (sh, .inr (9, [.int 0, .int 0, .int 0, .int 0, .int 0, .int 0, .ref a1, .ref a2, .ref a3, .ref a4, .ref a5, .ref a6, .ref a7, .ref a8]))] := hD
  refine lv_if_eq (tgt := 29) hx hb dX11_tells_7 (by decide) (fun c_4 => ?_) (fun c_4 => absurd c_4 (by decide))
  refine lv_iconst (v := (-1)) hx hb dX11_tells_29 (by decide) ?_
  exact retI (v := (-1)) hx hb hr hlk (rfl) hP hD hS () rfl [] rfl rfl dX11_tells_30 (Nat.le_of_ble_eq_true rfl) (Nat.le_of_ble_eq_true rfl) rfl
set_option maxHeartbeats 4000000 in
set_option maxRecDepth 100000 in
theorem ct_X11_guard (l : Launch) (D : va_G) (tc : Nat → ClassId) (sk : (Nat → Nat) × (Nat → Nat)) (h0 : Nat) (ta : Nat) (br : Nat) (rr : Nat) (ru : Nat) (sc : Nat) (sh : Nat) (pa : Nat) (im : Nat) (ou : Nat) (ch : Nat) (iq : Nat) (a1 : Nat) (a2 : Nat) (a3 : Nat) (a4 : Nat) (a5 : Nat) (a6 : Nat) (a7 : Nat) (a8 : Nat) (x1 : Int32) (x2 : Int32)  : Ct l yX11_guard cX11_guard 4 (some .int) { frames := 1, cells := 0, slots := 0, locals := 20 } D tc sk [.ref h0, .int x1, .int x2] [(h0, .inr (11, [.ref ta, .ref br, .ref rr, .ref ru, .int 0, .ref sc, .ref sh, .ref pa, .ref im, .ref ou, .ref ch, .ref iq])), (sh, .inr (9, [.int 0, .int 0, .int 0, .int 0, .int 0, .int 0, .ref a1, .ref a2, .ref a3, .ref a4, .ref a5, .ref a6, .ref a7, .ref a8]))] (fun (v : Option Value) (_ : Unit) => v = some (.int (-1))) (fun (_ : Unit) => []) 0 0 := by
  refine Ct.start (by decide) (Nat.le_of_ble_eq_true rfl) (fun p e s m below meth c A ls hx hb hr hlk hin hml hown hts hK hX hP hD hA hl hS => ?_)
  have hl : lv_has ls 4 [(0, .ref h0), (1, .int x1), (2, .int x2)] := hl
  refine lv_aload_n hx hb dX11_guard_0 rfl (lv_at hl 0 rfl) ?_
  refine gf_X11_51 hx hb hts hown hK hP 0 rfl rfl dX11_guard_1 ?_
  refine cV (a := sh) (As := []) (rest := []) (wr := [(h0, .inr (11, [.ref ta, .ref br, .ref rr, .ref ru, .int 0, .ref sc, .ref sh, .ref pa, .ref im, .ref ou, .ref ch, .ref iq]))]) ⟨hx, hb, hml, hown, hts⟩ hK hX hA (ct_X9_isTold l D tc sk sh a1 a2 a3 a4 a5 a6 a7 a8) k_724 k_721 k_722 k_723 k_98 pl_X9_isTold ⟨Nat.le_of_ble_eq_true rfl, Nat.le_of_ble_eq_true rfl⟩ rfl rfl (va_recv hK hP (ci := 9) (q0 := 1) rfl rfl) hP hD hS [1] [0] rfl rfl rfl rfl rfl (by decide) rfl hl.1 rfl (Nat.le_of_ble_eq_true rfl) dX11_guard_4 ⟨Nat.le_of_ble_eq_true rfl, Nat.le_of_ble_eq_true rfl⟩ (fun v_1 u_2 H locs hv_3 hP hD hS => ?_)
  obtain rfl : v_1 = some (.int 0) := hv_3
  refine W.eq (g2 := F0 m 7 ls [.int 0]) rfl ?_
  have hP : va_P D classes [(h0, .inr (11, [.ref ta, .ref br, .ref rr, .ref ru, .int 0, .ref sc, .ref sh, .ref pa, .ref im, .ref ou, .ref ch, .ref iq])), (sh, .inr (9, [.int 0, .int 0, .int 0, .int 0, .int 0, .int 0, .ref a1, .ref a2, .ref a3, .ref a4, .ref a5, .ref a6, .ref a7, .ref a8]))] H := hP
  have hD : va_D A [(h0, .inr (11, [.ref ta, .ref br, .ref rr, .ref ru, .int 0, .ref sc, .ref sh, .ref pa, .ref im, .ref ou, .ref ch, .ref iq])), (sh, .inr (9, [.int 0, .int 0, .int 0, .int 0, .int 0, .int 0, .ref a1, .ref a2, .ref a3, .ref a4, .ref a5, .ref a6, .ref a7, .ref a8]))] := hD
  refine lv_if_eq (tgt := 29) hx hb dX11_guard_7 (by decide) (fun c_4 => ?_) (fun c_4 => absurd c_4 (by decide))
  refine lv_iconst (v := (-1)) hx hb dX11_guard_29 (by decide) ?_
  exact retI (v := (-1)) hx hb hr hlk (rfl) hP hD hS () rfl [] rfl rfl dX11_guard_30 (Nat.le_of_ble_eq_true rfl) (Nat.le_of_ble_eq_true rfl) rfl
set_option maxHeartbeats 4000000 in
set_option maxRecDepth 100000 in
theorem ct_X11_best (l : Launch) (D : va_G) (tc : Nat → ClassId) (sk : (Nat → Nat) × (Nat → Nat)) (h0 : Nat) (ta : Nat) (br : Nat) (rr : Nat) (ru : Nat) (sc : Nat) (sh : Nat) (pa : Nat) (im : Nat) (ou : Nat) (ch : Nat) (iq : Nat) (a1 : Nat) (a2 : Nat) (a3 : Nat) (a4 : Nat) (a5 : Nat) (a6 : Nat) (a7 : Nat) (a8 : Nat) (x1 : Int32) (x2 : Int32)  : Ct l yX11_best cX11_best 3 (some .int) { frames := 1, cells := 0, slots := 0, locals := 20 } D tc sk [.ref h0, .int x1, .int x2] [(h0, .inr (11, [.ref ta, .ref br, .ref rr, .ref ru, .int 0, .ref sc, .ref sh, .ref pa, .ref im, .ref ou, .ref ch, .ref iq])), (sh, .inr (9, [.int 0, .int 0, .int 0, .int 0, .int 0, .int 0, .ref a1, .ref a2, .ref a3, .ref a4, .ref a5, .ref a6, .ref a7, .ref a8]))] (fun (v : Option Value) (_ : Unit) => v = some (.int (-2))) (fun (_ : Unit) => []) 0 0 := by
  refine Ct.start (by decide) (Nat.le_of_ble_eq_true rfl) (fun p e s m below meth c A ls hx hb hr hlk hin hml hown hts hK hX hP hD hA hl hS => ?_)
  have hl : lv_has ls 3 [(0, .ref h0), (1, .int x1), (2, .int x2)] := hl
  refine lv_aload_n hx hb dX11_best_0 rfl (lv_at hl 0 rfl) ?_
  refine gf_X11_51 hx hb hts hown hK hP 0 rfl rfl dX11_best_1 ?_
  refine cV (a := sh) (As := []) (rest := []) (wr := [(h0, .inr (11, [.ref ta, .ref br, .ref rr, .ref ru, .int 0, .ref sc, .ref sh, .ref pa, .ref im, .ref ou, .ref ch, .ref iq]))]) ⟨hx, hb, hml, hown, hts⟩ hK hX hA (ct_X9_isTold l D tc sk sh a1 a2 a3 a4 a5 a6 a7 a8) k_724 k_721 k_722 k_723 k_98 pl_X9_isTold ⟨Nat.le_of_ble_eq_true rfl, Nat.le_of_ble_eq_true rfl⟩ rfl rfl (va_recv hK hP (ci := 9) (q0 := 1) rfl rfl) hP hD hS [1] [0] rfl rfl rfl rfl rfl (by decide) rfl hl.1 rfl (Nat.le_of_ble_eq_true rfl) dX11_best_4 ⟨Nat.le_of_ble_eq_true rfl, Nat.le_of_ble_eq_true rfl⟩ (fun v_1 u_2 H locs hv_3 hP hD hS => ?_)
  obtain rfl : v_1 = some (.int 0) := hv_3
  refine W.eq (g2 := F0 m 7 ls [.int 0]) rfl ?_
  have hP : va_P D classes [(h0, .inr (11, [.ref ta, .ref br, .ref rr, .ref ru, .int 0, .ref sc, .ref sh, .ref pa, .ref im, .ref ou, .ref ch, .ref iq])), (sh, .inr (9, [.int 0, .int 0, .int 0, .int 0, .int 0, .int 0, .ref a1, .ref a2, .ref a3, .ref a4, .ref a5, .ref a6, .ref a7, .ref a8]))] H := hP
  have hD : va_D A [(h0, .inr (11, [.ref ta, .ref br, .ref rr, .ref ru, .int 0, .ref sc, .ref sh, .ref pa, .ref im, .ref ou, .ref ch, .ref iq])), (sh, .inr (9, [.int 0, .int 0, .int 0, .int 0, .int 0, .int 0, .ref a1, .ref a2, .ref a3, .ref a4, .ref a5, .ref a6, .ref a7, .ref a8]))] := hD
  refine lv_if_eq (tgt := 29) hx hb dX11_best_7 (by decide) (fun c_4 => ?_) (fun c_4 => absurd c_4 (by decide))
  refine lv_bipush (v := (-2)) hx hb dX11_best_29 (by decide) ?_
  exact retI (v := (-2)) hx hb hr hlk (rfl) hP hD hS () rfl [] rfl rfl dX11_best_31 (Nat.le_of_ble_eq_true rfl) (Nat.le_of_ble_eq_true rfl) rfl
set_option maxHeartbeats 4000000 in
set_option maxRecDepth 100000 in
theorem ct_X11_least (l : Launch) (D : va_G) (tc : Nat → ClassId) (sk : (Nat → Nat) × (Nat → Nat)) (h0 : Nat) (ta : Nat) (br : Nat) (rr : Nat) (ru : Nat) (sc : Nat) (sh : Nat) (pa : Nat) (im : Nat) (ou : Nat) (ch : Nat) (iq : Nat) (a1 : Nat) (a2 : Nat) (a3 : Nat) (a4 : Nat) (a5 : Nat) (a6 : Nat) (a7 : Nat) (a8 : Nat) (x1 : Int32) (x2 : Int32)  : Ct l yX11_least cX11_least 3 (some .int) { frames := 1, cells := 0, slots := 0, locals := 21 } D tc sk [.ref h0, .int x1, .int x2] [(h0, .inr (11, [.ref ta, .ref br, .ref rr, .ref ru, .int 0, .ref sc, .ref sh, .ref pa, .ref im, .ref ou, .ref ch, .ref iq])), (sh, .inr (9, [.int 0, .int 0, .int 0, .int 0, .int 0, .int 0, .ref a1, .ref a2, .ref a3, .ref a4, .ref a5, .ref a6, .ref a7, .ref a8]))] (fun (v : Option Value) (_ : Unit) => v = some (.int (-1))) (fun (_ : Unit) => []) 0 0 := by
  refine Ct.start (by decide) (Nat.le_of_ble_eq_true rfl) (fun p e s m below meth c A ls hx hb hr hlk hin hml hown hts hK hX hP hD hA hl hS => ?_)
  have hl : lv_has ls 3 [(0, .ref h0), (1, .int x1), (2, .int x2)] := hl
  refine lv_aload_n hx hb dX11_least_0 rfl (lv_at hl 0 rfl) ?_
  refine gf_X11_51 hx hb hts hown hK hP 0 rfl rfl dX11_least_1 ?_
  refine lv_iload_n hx hb dX11_least_4 rfl (lv_at hl 1 rfl) ?_
  refine cV (a := sh) (As := [.int x1]) (rest := []) (wr := [(h0, .inr (11, [.ref ta, .ref br, .ref rr, .ref ru, .int 0, .ref sc, .ref sh, .ref pa, .ref im, .ref ou, .ref ch, .ref iq]))]) ⟨hx, hb, hml, hown, hts⟩ hK hX hA (ct_X9_hasBuyer l D tc sk sh a1 a2 a3 a4 a5 a6 a7 a8 x1) k_591 k_702 k_589 k_590 k_98 pl_X9_hasBuyer ⟨Nat.le_of_ble_eq_true rfl, Nat.le_of_ble_eq_true rfl⟩ rfl rfl (va_recv hK hP (ci := 9) (q0 := 1) rfl rfl) hP hD hS [1] [0] rfl rfl rfl rfl rfl (by decide) rfl hl.1 rfl (Nat.le_of_ble_eq_true rfl) dX11_least_5 ⟨Nat.le_of_ble_eq_true rfl, Nat.le_of_ble_eq_true rfl⟩ (fun v_1 u_2 H locs hv_3 hP hD hS => ?_)
  obtain rfl : v_1 = some (.int 0) := hv_3
  refine W.eq (g2 := F0 m 8 ls [.int 0]) rfl ?_
  have hP : va_P D classes [(h0, .inr (11, [.ref ta, .ref br, .ref rr, .ref ru, .int 0, .ref sc, .ref sh, .ref pa, .ref im, .ref ou, .ref ch, .ref iq])), (sh, .inr (9, [.int 0, .int 0, .int 0, .int 0, .int 0, .int 0, .ref a1, .ref a2, .ref a3, .ref a4, .ref a5, .ref a6, .ref a7, .ref a8]))] H := hP
  have hD : va_D A [(h0, .inr (11, [.ref ta, .ref br, .ref rr, .ref ru, .int 0, .ref sc, .ref sh, .ref pa, .ref im, .ref ou, .ref ch, .ref iq])), (sh, .inr (9, [.int 0, .int 0, .int 0, .int 0, .int 0, .int 0, .ref a1, .ref a2, .ref a3, .ref a4, .ref a5, .ref a6, .ref a7, .ref a8]))] := hD
  refine lv_if_eq (tgt := 21) hx hb dX11_least_8 (by decide) (fun c_4 => ?_) (fun c_4 => absurd c_4 (by decide))
  refine lv_iconst (v := (-1)) hx hb dX11_least_21 (by decide) ?_
  exact retI (v := (-1)) hx hb hr hlk (rfl) hP hD hS () rfl [] rfl rfl dX11_least_22 (Nat.le_of_ble_eq_true rfl) (Nat.le_of_ble_eq_true rfl) rfl
set_option maxHeartbeats 4000000 in
set_option maxRecDepth 100000 in
theorem ct_X11_soothe (l : Launch) (D : va_G) (tc : Nat → ClassId) (sk : (Nat → Nat) × (Nat → Nat)) (h0 : Nat) (ta : Nat) (br : Nat) (rr : Nat) (ru : Nat) (sc : Nat) (sh : Nat) (pa : Nat) (im : Nat) (ou : Nat) (ch : Nat) (iq : Nat) (a1 : Nat) (a2 : Nat) (a3 : Nat) (a4 : Nat) (a5 : Nat) (a6 : Nat) (a7 : Nat) (a8 : Nat) (x1 : Int32) (x2 : Int32)  : Ct l yX11_soothe cX11_soothe 3 (some .int) { frames := 1, cells := 0, slots := 0, locals := 20 } D tc sk [.ref h0, .int x1, .int x2] [(h0, .inr (11, [.ref ta, .ref br, .ref rr, .ref ru, .int 0, .ref sc, .ref sh, .ref pa, .ref im, .ref ou, .ref ch, .ref iq])), (sh, .inr (9, [.int 0, .int 0, .int 0, .int 0, .int 0, .int 0, .ref a1, .ref a2, .ref a3, .ref a4, .ref a5, .ref a6, .ref a7, .ref a8]))] (fun (v : Option Value) (_ : Unit) => v = some (.int (-2))) (fun (_ : Unit) => []) 0 0 := by
  refine Ct.start (by decide) (Nat.le_of_ble_eq_true rfl) (fun p e s m below meth c A ls hx hb hr hlk hin hml hown hts hK hX hP hD hA hl hS => ?_)
  have hl : lv_has ls 3 [(0, .ref h0), (1, .int x1), (2, .int x2)] := hl
  refine lv_aload_n hx hb dX11_soothe_0 rfl (lv_at hl 0 rfl) ?_
  refine gf_X11_51 hx hb hts hown hK hP 0 rfl rfl dX11_soothe_1 ?_
  refine cV (a := sh) (As := []) (rest := []) (wr := [(h0, .inr (11, [.ref ta, .ref br, .ref rr, .ref ru, .int 0, .ref sc, .ref sh, .ref pa, .ref im, .ref ou, .ref ch, .ref iq]))]) ⟨hx, hb, hml, hown, hts⟩ hK hX hA (ct_X9_isTold l D tc sk sh a1 a2 a3 a4 a5 a6 a7 a8) k_724 k_721 k_722 k_723 k_98 pl_X9_isTold ⟨Nat.le_of_ble_eq_true rfl, Nat.le_of_ble_eq_true rfl⟩ rfl rfl (va_recv hK hP (ci := 9) (q0 := 1) rfl rfl) hP hD hS [1] [0] rfl rfl rfl rfl rfl (by decide) rfl hl.1 rfl (Nat.le_of_ble_eq_true rfl) dX11_soothe_4 ⟨Nat.le_of_ble_eq_true rfl, Nat.le_of_ble_eq_true rfl⟩ (fun v_1 u_2 H locs hv_3 hP hD hS => ?_)
  obtain rfl : v_1 = some (.int 0) := hv_3
  refine W.eq (g2 := F0 m 7 ls [.int 0]) rfl ?_
  have hP : va_P D classes [(h0, .inr (11, [.ref ta, .ref br, .ref rr, .ref ru, .int 0, .ref sc, .ref sh, .ref pa, .ref im, .ref ou, .ref ch, .ref iq])), (sh, .inr (9, [.int 0, .int 0, .int 0, .int 0, .int 0, .int 0, .ref a1, .ref a2, .ref a3, .ref a4, .ref a5, .ref a6, .ref a7, .ref a8]))] H := hP
  have hD : va_D A [(h0, .inr (11, [.ref ta, .ref br, .ref rr, .ref ru, .int 0, .ref sc, .ref sh, .ref pa, .ref im, .ref ou, .ref ch, .ref iq])), (sh, .inr (9, [.int 0, .int 0, .int 0, .int 0, .int 0, .int 0, .ref a1, .ref a2, .ref a3, .ref a4, .ref a5, .ref a6, .ref a7, .ref a8]))] := hD
  refine lv_if_eq (tgt := 29) hx hb dX11_soothe_7 (by decide) (fun c_4 => ?_) (fun c_4 => absurd c_4 (by decide))
  refine lv_bipush (v := (-2)) hx hb dX11_soothe_29 (by decide) ?_
  exact retI (v := (-2)) hx hb hr hlk (rfl) hP hD hS () rfl [] rfl rfl dX11_soothe_31 (Nat.le_of_ble_eq_true rfl) (Nat.le_of_ble_eq_true rfl) rfl
set_option maxHeartbeats 4000000 in
set_option maxRecDepth 100000 in
theorem ct_X11_page (l : Launch) (D : va_G) (tc : Nat → ClassId) (sk : (Nat → Nat) × (Nat → Nat)) (h0 : Nat) (ta : Nat) (br : Nat) (rr : Nat) (ru : Nat) (sc : Nat) (sh : Nat) (pa : Nat) (im : Nat) (ou : Nat) (ch : Nat) (iq : Nat) (a1 : Nat) (a2 : Nat) (a3 : Nat) (a4 : Nat) (a5 : Nat) (a6 : Nat) (a7 : Nat) (a8 : Nat) (x1 : Int32) (x2 : Int32)  : Ct l yX11_page cX11_page 3 (some .int) { frames := 1, cells := 0, slots := 0, locals := 20 } D tc sk [.ref h0, .int x1, .int x2] [(h0, .inr (11, [.ref ta, .ref br, .ref rr, .ref ru, .int 0, .ref sc, .ref sh, .ref pa, .ref im, .ref ou, .ref ch, .ref iq])), (sh, .inr (9, [.int 0, .int 0, .int 0, .int 0, .int 0, .int 0, .ref a1, .ref a2, .ref a3, .ref a4, .ref a5, .ref a6, .ref a7, .ref a8]))] (fun (v : Option Value) (_ : Unit) => v = some (.int (-1))) (fun (_ : Unit) => []) 0 0 := by
  refine Ct.start (by decide) (Nat.le_of_ble_eq_true rfl) (fun p e s m below meth c A ls hx hb hr hlk hin hml hown hts hK hX hP hD hA hl hS => ?_)
  have hl : lv_has ls 3 [(0, .ref h0), (1, .int x1), (2, .int x2)] := hl
  refine lv_aload_n hx hb dX11_page_0 rfl (lv_at hl 0 rfl) ?_
  refine gf_X11_51 hx hb hts hown hK hP 0 rfl rfl dX11_page_1 ?_
  refine cV (a := sh) (As := []) (rest := []) (wr := [(h0, .inr (11, [.ref ta, .ref br, .ref rr, .ref ru, .int 0, .ref sc, .ref sh, .ref pa, .ref im, .ref ou, .ref ch, .ref iq]))]) ⟨hx, hb, hml, hown, hts⟩ hK hX hA (ct_X9_isTold l D tc sk sh a1 a2 a3 a4 a5 a6 a7 a8) k_724 k_721 k_722 k_723 k_98 pl_X9_isTold ⟨Nat.le_of_ble_eq_true rfl, Nat.le_of_ble_eq_true rfl⟩ rfl rfl (va_recv hK hP (ci := 9) (q0 := 1) rfl rfl) hP hD hS [1] [0] rfl rfl rfl rfl rfl (by decide) rfl hl.1 rfl (Nat.le_of_ble_eq_true rfl) dX11_page_4 ⟨Nat.le_of_ble_eq_true rfl, Nat.le_of_ble_eq_true rfl⟩ (fun v_1 u_2 H locs hv_3 hP hD hS => ?_)
  obtain rfl : v_1 = some (.int 0) := hv_3
  refine W.eq (g2 := F0 m 7 ls [.int 0]) rfl ?_
  have hP : va_P D classes [(h0, .inr (11, [.ref ta, .ref br, .ref rr, .ref ru, .int 0, .ref sc, .ref sh, .ref pa, .ref im, .ref ou, .ref ch, .ref iq])), (sh, .inr (9, [.int 0, .int 0, .int 0, .int 0, .int 0, .int 0, .ref a1, .ref a2, .ref a3, .ref a4, .ref a5, .ref a6, .ref a7, .ref a8]))] H := hP
  have hD : va_D A [(h0, .inr (11, [.ref ta, .ref br, .ref rr, .ref ru, .int 0, .ref sc, .ref sh, .ref pa, .ref im, .ref ou, .ref ch, .ref iq])), (sh, .inr (9, [.int 0, .int 0, .int 0, .int 0, .int 0, .int 0, .ref a1, .ref a2, .ref a3, .ref a4, .ref a5, .ref a6, .ref a7, .ref a8]))] := hD
  refine lv_if_eq (tgt := 29) hx hb dX11_page_7 (by decide) (fun c_4 => ?_) (fun c_4 => absurd c_4 (by decide))
  refine lv_iconst (v := (-1)) hx hb dX11_page_29 (by decide) ?_
  exact retI (v := (-1)) hx hb hr hlk (rfl) hP hD hS () rfl [] rfl rfl dX11_page_30 (Nat.le_of_ble_eq_true rfl) (Nat.le_of_ble_eq_true rfl) rfl
set_option maxHeartbeats 4000000 in
set_option maxRecDepth 100000 in
theorem ct_X11_rests (l : Launch) (D : va_G) (tc : Nat → ClassId) (sk : (Nat → Nat) × (Nat → Nat)) (h0 : Nat) (ta : Nat) (br : Nat) (rr : Nat) (ru : Nat) (sc : Nat) (sh : Nat) (pa : Nat) (im : Nat) (ou : Nat) (ch : Nat) (iq : Nat) (a1 : Nat) (a2 : Nat) (a3 : Nat) (a4 : Nat) (a5 : Nat) (a6 : Nat) (a7 : Nat) (a8 : Nat) (x1 : Int32) (x2 : Int32) (x3 : Int32) (x4 : Int32)  : Ct l yX11_rests cX11_rests 5 (some .int) { frames := 1, cells := 0, slots := 0, locals := 21 } D tc sk [.ref h0, .int x1, .int x2, .int x3, .int x4] [(h0, .inr (11, [.ref ta, .ref br, .ref rr, .ref ru, .int 0, .ref sc, .ref sh, .ref pa, .ref im, .ref ou, .ref ch, .ref iq])), (sh, .inr (9, [.int 0, .int 0, .int 0, .int 0, .int 0, .int 0, .ref a1, .ref a2, .ref a3, .ref a4, .ref a5, .ref a6, .ref a7, .ref a8]))] (fun (v : Option Value) (_ : Unit) => v = some (.int (-1))) (fun (_ : Unit) => []) 0 0 := by
  refine Ct.start (by decide) (Nat.le_of_ble_eq_true rfl) (fun p e s m below meth c A ls hx hb hr hlk hin hml hown hts hK hX hP hD hA hl hS => ?_)
  have hl : lv_has ls 5 [(0, .ref h0), (1, .int x1), (2, .int x2), (3, .int x3), (4, .int x4)] := hl
  refine lv_aload_n hx hb dX11_rests_0 rfl (lv_at hl 0 rfl) ?_
  refine gf_X11_51 hx hb hts hown hK hP 0 rfl rfl dX11_rests_1 ?_
  refine lv_iload_n hx hb dX11_rests_4 rfl (lv_at hl 1 rfl) ?_
  refine cV (a := sh) (As := [.int x1]) (rest := []) (wr := [(h0, .inr (11, [.ref ta, .ref br, .ref rr, .ref ru, .int 0, .ref sc, .ref sh, .ref pa, .ref im, .ref ou, .ref ch, .ref iq]))]) ⟨hx, hb, hml, hown, hts⟩ hK hX hA (ct_X9_hasBuyer l D tc sk sh a1 a2 a3 a4 a5 a6 a7 a8 x1) k_591 k_702 k_589 k_590 k_98 pl_X9_hasBuyer ⟨Nat.le_of_ble_eq_true rfl, Nat.le_of_ble_eq_true rfl⟩ rfl rfl (va_recv hK hP (ci := 9) (q0 := 1) rfl rfl) hP hD hS [1] [0] rfl rfl rfl rfl rfl (by decide) rfl hl.1 rfl (Nat.le_of_ble_eq_true rfl) dX11_rests_5 ⟨Nat.le_of_ble_eq_true rfl, Nat.le_of_ble_eq_true rfl⟩ (fun v_1 u_2 H locs hv_3 hP hD hS => ?_)
  obtain rfl : v_1 = some (.int 0) := hv_3
  refine W.eq (g2 := F0 m 8 ls [.int 0]) rfl ?_
  have hP : va_P D classes [(h0, .inr (11, [.ref ta, .ref br, .ref rr, .ref ru, .int 0, .ref sc, .ref sh, .ref pa, .ref im, .ref ou, .ref ch, .ref iq])), (sh, .inr (9, [.int 0, .int 0, .int 0, .int 0, .int 0, .int 0, .ref a1, .ref a2, .ref a3, .ref a4, .ref a5, .ref a6, .ref a7, .ref a8]))] H := hP
  have hD : va_D A [(h0, .inr (11, [.ref ta, .ref br, .ref rr, .ref ru, .int 0, .ref sc, .ref sh, .ref pa, .ref im, .ref ou, .ref ch, .ref iq])), (sh, .inr (9, [.int 0, .int 0, .int 0, .int 0, .int 0, .int 0, .ref a1, .ref a2, .ref a3, .ref a4, .ref a5, .ref a6, .ref a7, .ref a8]))] := hD
  refine lv_if_eq (tgt := 27) hx hb dX11_rests_8 (by decide) (fun c_4 => ?_) (fun c_4 => absurd c_4 (by decide))
  refine lv_iconst (v := (-1)) hx hb dX11_rests_27 (by decide) ?_
  exact retI (v := (-1)) hx hb hr hlk (rfl) hP hD hS () rfl [] rfl rfl dX11_rests_28 (Nat.le_of_ble_eq_true rfl) (Nat.le_of_ble_eq_true rfl) rfl
set_option maxHeartbeats 4000000 in
set_option maxRecDepth 100000 in
theorem ct_X11_ring (l : Launch) (D : va_G) (tc : Nat → ClassId) (sk : (Nat → Nat) × (Nat → Nat)) (h0 : Nat) (ta : Nat) (br : Nat) (rr : Nat) (ru : Nat) (sc : Nat) (sh : Nat) (pa : Nat) (im : Nat) (ou : Nat) (ch : Nat) (iq : Nat) (a1 : Nat) (a2 : Nat) (a3 : Nat) (a4 : Nat) (a5 : Nat) (a6 : Nat) (a7 : Nat) (a8 : Nat) (x1 : Int32)  : Ct l yX11_ring cX11_ring 2 (some .int) { frames := 1, cells := 0, slots := 0, locals := 20 } D tc sk [.ref h0, .int x1] [(h0, .inr (11, [.ref ta, .ref br, .ref rr, .ref ru, .int 0, .ref sc, .ref sh, .ref pa, .ref im, .ref ou, .ref ch, .ref iq])), (sh, .inr (9, [.int 0, .int 0, .int 0, .int 0, .int 0, .int 0, .ref a1, .ref a2, .ref a3, .ref a4, .ref a5, .ref a6, .ref a7, .ref a8]))] (fun (v : Option Value) (_ : Unit) => v = some (.int (-1))) (fun (_ : Unit) => []) 0 0 := by
  refine Ct.start (by decide) (Nat.le_of_ble_eq_true rfl) (fun p e s m below meth c A ls hx hb hr hlk hin hml hown hts hK hX hP hD hA hl hS => ?_)
  have hl : lv_has ls 2 [(0, .ref h0), (1, .int x1)] := hl
  refine lv_aload_n hx hb dX11_ring_0 rfl (lv_at hl 0 rfl) ?_
  refine gf_X11_51 hx hb hts hown hK hP 0 rfl rfl dX11_ring_1 ?_
  refine cV (a := sh) (As := []) (rest := []) (wr := [(h0, .inr (11, [.ref ta, .ref br, .ref rr, .ref ru, .int 0, .ref sc, .ref sh, .ref pa, .ref im, .ref ou, .ref ch, .ref iq]))]) ⟨hx, hb, hml, hown, hts⟩ hK hX hA (ct_X9_isTold l D tc sk sh a1 a2 a3 a4 a5 a6 a7 a8) k_724 k_721 k_722 k_723 k_98 pl_X9_isTold ⟨Nat.le_of_ble_eq_true rfl, Nat.le_of_ble_eq_true rfl⟩ rfl rfl (va_recv hK hP (ci := 9) (q0 := 1) rfl rfl) hP hD hS [1] [0] rfl rfl rfl rfl rfl (by decide) rfl hl.1 rfl (Nat.le_of_ble_eq_true rfl) dX11_ring_4 ⟨Nat.le_of_ble_eq_true rfl, Nat.le_of_ble_eq_true rfl⟩ (fun v_1 u_2 H locs hv_3 hP hD hS => ?_)
  obtain rfl : v_1 = some (.int 0) := hv_3
  refine W.eq (g2 := F0 m 7 ls [.int 0]) rfl ?_
  have hP : va_P D classes [(h0, .inr (11, [.ref ta, .ref br, .ref rr, .ref ru, .int 0, .ref sc, .ref sh, .ref pa, .ref im, .ref ou, .ref ch, .ref iq])), (sh, .inr (9, [.int 0, .int 0, .int 0, .int 0, .int 0, .int 0, .ref a1, .ref a2, .ref a3, .ref a4, .ref a5, .ref a6, .ref a7, .ref a8]))] H := hP
  have hD : va_D A [(h0, .inr (11, [.ref ta, .ref br, .ref rr, .ref ru, .int 0, .ref sc, .ref sh, .ref pa, .ref im, .ref ou, .ref ch, .ref iq])), (sh, .inr (9, [.int 0, .int 0, .int 0, .int 0, .int 0, .int 0, .ref a1, .ref a2, .ref a3, .ref a4, .ref a5, .ref a6, .ref a7, .ref a8]))] := hD
  refine lv_if_eq (tgt := 19) hx hb dX11_ring_7 (by decide) (fun c_4 => ?_) (fun c_4 => absurd c_4 (by decide))
  refine lv_iconst (v := (-1)) hx hb dX11_ring_19 (by decide) ?_
  exact retI (v := (-1)) hx hb hr hlk (rfl) hP hD hS () rfl [] rfl rfl dX11_ring_20 (Nat.le_of_ble_eq_true rfl) (Nat.le_of_ble_eq_true rfl) rfl
set_option maxHeartbeats 4000000 in
set_option maxRecDepth 100000 in
theorem ct_X11_peak (l : Launch) (D : va_G) (tc : Nat → ClassId) (sk : (Nat → Nat) × (Nat → Nat)) (h0 : Nat) (ta : Nat) (br : Nat) (rr : Nat) (ru : Nat) (sc : Nat) (sh : Nat) (pa : Nat) (im : Nat) (ou : Nat) (ch : Nat) (iq : Nat) (a1 : Nat) (a2 : Nat) (a3 : Nat) (a4 : Nat) (a5 : Nat) (a6 : Nat) (a7 : Nat) (a8 : Nat) (x1 : Int32) (x2 : Int32)  : Ct l yX11_peak cX11_peak 3 (some .int) { frames := 1, cells := 0, slots := 0, locals := 20 } D tc sk [.ref h0, .int x1, .int x2] [(h0, .inr (11, [.ref ta, .ref br, .ref rr, .ref ru, .int 0, .ref sc, .ref sh, .ref pa, .ref im, .ref ou, .ref ch, .ref iq])), (sh, .inr (9, [.int 0, .int 0, .int 0, .int 0, .int 0, .int 0, .ref a1, .ref a2, .ref a3, .ref a4, .ref a5, .ref a6, .ref a7, .ref a8]))] (fun (v : Option Value) (_ : Unit) => v = some (.int (-1))) (fun (_ : Unit) => []) 0 0 := by
  refine Ct.start (by decide) (Nat.le_of_ble_eq_true rfl) (fun p e s m below meth c A ls hx hb hr hlk hin hml hown hts hK hX hP hD hA hl hS => ?_)
  have hl : lv_has ls 3 [(0, .ref h0), (1, .int x1), (2, .int x2)] := hl
  refine lv_aload_n hx hb dX11_peak_0 rfl (lv_at hl 0 rfl) ?_
  refine gf_X11_51 hx hb hts hown hK hP 0 rfl rfl dX11_peak_1 ?_
  refine cV (a := sh) (As := []) (rest := []) (wr := [(h0, .inr (11, [.ref ta, .ref br, .ref rr, .ref ru, .int 0, .ref sc, .ref sh, .ref pa, .ref im, .ref ou, .ref ch, .ref iq]))]) ⟨hx, hb, hml, hown, hts⟩ hK hX hA (ct_X9_isTold l D tc sk sh a1 a2 a3 a4 a5 a6 a7 a8) k_724 k_721 k_722 k_723 k_98 pl_X9_isTold ⟨Nat.le_of_ble_eq_true rfl, Nat.le_of_ble_eq_true rfl⟩ rfl rfl (va_recv hK hP (ci := 9) (q0 := 1) rfl rfl) hP hD hS [1] [0] rfl rfl rfl rfl rfl (by decide) rfl hl.1 rfl (Nat.le_of_ble_eq_true rfl) dX11_peak_4 ⟨Nat.le_of_ble_eq_true rfl, Nat.le_of_ble_eq_true rfl⟩ (fun v_1 u_2 H locs hv_3 hP hD hS => ?_)
  obtain rfl : v_1 = some (.int 0) := hv_3
  refine W.eq (g2 := F0 m 7 ls [.int 0]) rfl ?_
  have hP : va_P D classes [(h0, .inr (11, [.ref ta, .ref br, .ref rr, .ref ru, .int 0, .ref sc, .ref sh, .ref pa, .ref im, .ref ou, .ref ch, .ref iq])), (sh, .inr (9, [.int 0, .int 0, .int 0, .int 0, .int 0, .int 0, .ref a1, .ref a2, .ref a3, .ref a4, .ref a5, .ref a6, .ref a7, .ref a8]))] H := hP
  have hD : va_D A [(h0, .inr (11, [.ref ta, .ref br, .ref rr, .ref ru, .int 0, .ref sc, .ref sh, .ref pa, .ref im, .ref ou, .ref ch, .ref iq])), (sh, .inr (9, [.int 0, .int 0, .int 0, .int 0, .int 0, .int 0, .ref a1, .ref a2, .ref a3, .ref a4, .ref a5, .ref a6, .ref a7, .ref a8]))] := hD
  refine lv_if_eq (tgt := 29) hx hb dX11_peak_7 (by decide) (fun c_4 => ?_) (fun c_4 => absurd c_4 (by decide))
  refine lv_iconst (v := (-1)) hx hb dX11_peak_29 (by decide) ?_
  exact retI (v := (-1)) hx hb hr hlk (rfl) hP hD hS () rfl [] rfl rfl dX11_peak_30 (Nat.le_of_ble_eq_true rfl) (Nat.le_of_ble_eq_true rfl) rfl
set_option maxHeartbeats 4000000 in
set_option maxRecDepth 100000 in
theorem ct_X11_ruled (l : Launch) (D : va_G) (tc : Nat → ClassId) (sk : (Nat → Nat) × (Nat → Nat)) (h0 : Nat) (ta : Nat) (br : Nat) (rr : Nat) (ru : Nat) (sc : Nat) (sh : Nat) (pa : Nat) (im : Nat) (ou : Nat) (ch : Nat) (iq : Nat) (a1 : Nat) (a2 : Nat) (a3 : Nat) (a4 : Nat) (a5 : Nat) (a6 : Nat) (a7 : Nat) (a8 : Nat) (x1 : Int32)  : Ct l yX11_ruled cX11_ruled 2 (some .int) { frames := 1, cells := 0, slots := 0, locals := 20 } D tc sk [.ref h0, .int x1] [(h0, .inr (11, [.ref ta, .ref br, .ref rr, .ref ru, .int 0, .ref sc, .ref sh, .ref pa, .ref im, .ref ou, .ref ch, .ref iq])), (sh, .inr (9, [.int 0, .int 0, .int 0, .int 0, .int 0, .int 0, .ref a1, .ref a2, .ref a3, .ref a4, .ref a5, .ref a6, .ref a7, .ref a8]))] (fun (v : Option Value) (_ : Unit) => v = some (.int (-3))) (fun (_ : Unit) => []) 0 0 := by
  refine Ct.start (by decide) (Nat.le_of_ble_eq_true rfl) (fun p e s m below meth c A ls hx hb hr hlk hin hml hown hts hK hX hP hD hA hl hS => ?_)
  have hl : lv_has ls 2 [(0, .ref h0), (1, .int x1)] := hl
  refine lv_aload_n hx hb dX11_ruled_0 rfl (lv_at hl 0 rfl) ?_
  refine gf_X11_51 hx hb hts hown hK hP 0 rfl rfl dX11_ruled_1 ?_
  refine cV (a := sh) (As := []) (rest := []) (wr := [(h0, .inr (11, [.ref ta, .ref br, .ref rr, .ref ru, .int 0, .ref sc, .ref sh, .ref pa, .ref im, .ref ou, .ref ch, .ref iq]))]) ⟨hx, hb, hml, hown, hts⟩ hK hX hA (ct_X9_isTold l D tc sk sh a1 a2 a3 a4 a5 a6 a7 a8) k_724 k_721 k_722 k_723 k_98 pl_X9_isTold ⟨Nat.le_of_ble_eq_true rfl, Nat.le_of_ble_eq_true rfl⟩ rfl rfl (va_recv hK hP (ci := 9) (q0 := 1) rfl rfl) hP hD hS [1] [0] rfl rfl rfl rfl rfl (by decide) rfl hl.1 rfl (Nat.le_of_ble_eq_true rfl) dX11_ruled_4 ⟨Nat.le_of_ble_eq_true rfl, Nat.le_of_ble_eq_true rfl⟩ (fun v_1 u_2 H locs hv_3 hP hD hS => ?_)
  obtain rfl : v_1 = some (.int 0) := hv_3
  refine W.eq (g2 := F0 m 7 ls [.int 0]) rfl ?_
  have hP : va_P D classes [(h0, .inr (11, [.ref ta, .ref br, .ref rr, .ref ru, .int 0, .ref sc, .ref sh, .ref pa, .ref im, .ref ou, .ref ch, .ref iq])), (sh, .inr (9, [.int 0, .int 0, .int 0, .int 0, .int 0, .int 0, .ref a1, .ref a2, .ref a3, .ref a4, .ref a5, .ref a6, .ref a7, .ref a8]))] H := hP
  have hD : va_D A [(h0, .inr (11, [.ref ta, .ref br, .ref rr, .ref ru, .int 0, .ref sc, .ref sh, .ref pa, .ref im, .ref ou, .ref ch, .ref iq])), (sh, .inr (9, [.int 0, .int 0, .int 0, .int 0, .int 0, .int 0, .ref a1, .ref a2, .ref a3, .ref a4, .ref a5, .ref a6, .ref a7, .ref a8]))] := hD
  refine lv_if_eq (tgt := 19) hx hb dX11_ruled_7 (by decide) (fun c_4 => ?_) (fun c_4 => absurd c_4 (by decide))
  refine lv_bipush (v := (-3)) hx hb dX11_ruled_19 (by decide) ?_
  exact retI (v := (-3)) hx hb hr hlk (rfl) hP hD hS () rfl [] rfl rfl dX11_ruled_21 (Nat.le_of_ble_eq_true rfl) (Nat.le_of_ble_eq_true rfl) rfl
set_option maxHeartbeats 4000000 in
set_option maxRecDepth 100000 in
theorem ct_X11_look (l : Launch) (D : va_G) (tc : Nat → ClassId) (sk : (Nat → Nat) × (Nat → Nat)) (h0 : Nat) (ta : Nat) (br : Nat) (rr : Nat) (ru : Nat) (sc : Nat) (sh : Nat) (pa : Nat) (im : Nat) (ou : Nat) (ch : Nat) (iq : Nat) (a1 : Nat) (a2 : Nat) (a3 : Nat) (a4 : Nat) (a5 : Nat) (a6 : Nat) (a7 : Nat) (a8 : Nat) (x1 : Int32)  : Ct l yX11_look cX11_look 2 (some .int) { frames := 1, cells := 0, slots := 0, locals := 20 } D tc sk [.ref h0, .int x1] [(h0, .inr (11, [.ref ta, .ref br, .ref rr, .ref ru, .int 0, .ref sc, .ref sh, .ref pa, .ref im, .ref ou, .ref ch, .ref iq])), (sh, .inr (9, [.int 0, .int 0, .int 0, .int 0, .int 0, .int 0, .ref a1, .ref a2, .ref a3, .ref a4, .ref a5, .ref a6, .ref a7, .ref a8]))] (fun (v : Option Value) (_ : Unit) => v = some (.int (-1))) (fun (_ : Unit) => []) 0 0 := by
  refine Ct.start (by decide) (Nat.le_of_ble_eq_true rfl) (fun p e s m below meth c A ls hx hb hr hlk hin hml hown hts hK hX hP hD hA hl hS => ?_)
  have hl : lv_has ls 2 [(0, .ref h0), (1, .int x1)] := hl
  refine lv_aload_n hx hb dX11_look_0 rfl (lv_at hl 0 rfl) ?_
  refine gf_X11_51 hx hb hts hown hK hP 0 rfl rfl dX11_look_1 ?_
  refine cV (a := sh) (As := []) (rest := []) (wr := [(h0, .inr (11, [.ref ta, .ref br, .ref rr, .ref ru, .int 0, .ref sc, .ref sh, .ref pa, .ref im, .ref ou, .ref ch, .ref iq]))]) ⟨hx, hb, hml, hown, hts⟩ hK hX hA (ct_X9_isTold l D tc sk sh a1 a2 a3 a4 a5 a6 a7 a8) k_724 k_721 k_722 k_723 k_98 pl_X9_isTold ⟨Nat.le_of_ble_eq_true rfl, Nat.le_of_ble_eq_true rfl⟩ rfl rfl (va_recv hK hP (ci := 9) (q0 := 1) rfl rfl) hP hD hS [1] [0] rfl rfl rfl rfl rfl (by decide) rfl hl.1 rfl (Nat.le_of_ble_eq_true rfl) dX11_look_4 ⟨Nat.le_of_ble_eq_true rfl, Nat.le_of_ble_eq_true rfl⟩ (fun v_1 u_2 H locs hv_3 hP hD hS => ?_)
  obtain rfl : v_1 = some (.int 0) := hv_3
  refine W.eq (g2 := F0 m 7 ls [.int 0]) rfl ?_
  have hP : va_P D classes [(h0, .inr (11, [.ref ta, .ref br, .ref rr, .ref ru, .int 0, .ref sc, .ref sh, .ref pa, .ref im, .ref ou, .ref ch, .ref iq])), (sh, .inr (9, [.int 0, .int 0, .int 0, .int 0, .int 0, .int 0, .ref a1, .ref a2, .ref a3, .ref a4, .ref a5, .ref a6, .ref a7, .ref a8]))] H := hP
  have hD : va_D A [(h0, .inr (11, [.ref ta, .ref br, .ref rr, .ref ru, .int 0, .ref sc, .ref sh, .ref pa, .ref im, .ref ou, .ref ch, .ref iq])), (sh, .inr (9, [.int 0, .int 0, .int 0, .int 0, .int 0, .int 0, .ref a1, .ref a2, .ref a3, .ref a4, .ref a5, .ref a6, .ref a7, .ref a8]))] := hD
  refine lv_if_eq (tgt := 19) hx hb dX11_look_7 (by decide) (fun c_4 => ?_) (fun c_4 => absurd c_4 (by decide))
  refine lv_iconst (v := (-1)) hx hb dX11_look_19 (by decide) ?_
  exact retI (v := (-1)) hx hb hr hlk (rfl) hP hD hS () rfl [] rfl rfl dX11_look_20 (Nat.le_of_ble_eq_true rfl) (Nat.le_of_ble_eq_true rfl) rfl
set_option maxHeartbeats 4000000 in
set_option maxRecDepth 100000 in
theorem ct_X11_summers (l : Launch) (D : va_G) (tc : Nat → ClassId) (sk : (Nat → Nat) × (Nat → Nat)) (h0 : Nat) (ta : Nat) (br : Nat) (rr : Nat) (ru : Nat) (sc : Nat) (sh : Nat) (pa : Nat) (im : Nat) (ou : Nat) (ch : Nat) (iq : Nat) (a1 : Nat) (a2 : Nat) (a3 : Nat) (a4 : Nat) (a5 : Nat) (a6 : Nat) (a7 : Nat) (a8 : Nat) (x1 : Int32) (x2 : Int32) (x3 : Int32) (x4 : Int32)  : Ct l yX11_summers cX11_summers 5 (some .int) { frames := 1, cells := 0, slots := 0, locals := 20 } D tc sk [.ref h0, .int x1, .int x2, .int x3, .int x4] [(h0, .inr (11, [.ref ta, .ref br, .ref rr, .ref ru, .int 0, .ref sc, .ref sh, .ref pa, .ref im, .ref ou, .ref ch, .ref iq])), (sh, .inr (9, [.int 0, .int 0, .int 0, .int 0, .int 0, .int 0, .ref a1, .ref a2, .ref a3, .ref a4, .ref a5, .ref a6, .ref a7, .ref a8]))] (fun (v : Option Value) (_ : Unit) => v = some (.int (-1))) (fun (_ : Unit) => []) 0 0 := by
  refine Ct.start (by decide) (Nat.le_of_ble_eq_true rfl) (fun p e s m below meth c A ls hx hb hr hlk hin hml hown hts hK hX hP hD hA hl hS => ?_)
  have hl : lv_has ls 5 [(0, .ref h0), (1, .int x1), (2, .int x2), (3, .int x3), (4, .int x4)] := hl
  refine lv_aload_n hx hb dX11_summers_0 rfl (lv_at hl 0 rfl) ?_
  refine gf_X11_51 hx hb hts hown hK hP 0 rfl rfl dX11_summers_1 ?_
  refine cV (a := sh) (As := []) (rest := []) (wr := [(h0, .inr (11, [.ref ta, .ref br, .ref rr, .ref ru, .int 0, .ref sc, .ref sh, .ref pa, .ref im, .ref ou, .ref ch, .ref iq]))]) ⟨hx, hb, hml, hown, hts⟩ hK hX hA (ct_X9_isTold l D tc sk sh a1 a2 a3 a4 a5 a6 a7 a8) k_724 k_721 k_722 k_723 k_98 pl_X9_isTold ⟨Nat.le_of_ble_eq_true rfl, Nat.le_of_ble_eq_true rfl⟩ rfl rfl (va_recv hK hP (ci := 9) (q0 := 1) rfl rfl) hP hD hS [1] [0] rfl rfl rfl rfl rfl (by decide) rfl hl.1 rfl (Nat.le_of_ble_eq_true rfl) dX11_summers_4 ⟨Nat.le_of_ble_eq_true rfl, Nat.le_of_ble_eq_true rfl⟩ (fun v_1 u_2 H locs hv_3 hP hD hS => ?_)
  obtain rfl : v_1 = some (.int 0) := hv_3
  refine W.eq (g2 := F0 m 7 ls [.int 0]) rfl ?_
  have hP : va_P D classes [(h0, .inr (11, [.ref ta, .ref br, .ref rr, .ref ru, .int 0, .ref sc, .ref sh, .ref pa, .ref im, .ref ou, .ref ch, .ref iq])), (sh, .inr (9, [.int 0, .int 0, .int 0, .int 0, .int 0, .int 0, .ref a1, .ref a2, .ref a3, .ref a4, .ref a5, .ref a6, .ref a7, .ref a8]))] H := hP
  have hD : va_D A [(h0, .inr (11, [.ref ta, .ref br, .ref rr, .ref ru, .int 0, .ref sc, .ref sh, .ref pa, .ref im, .ref ou, .ref ch, .ref iq])), (sh, .inr (9, [.int 0, .int 0, .int 0, .int 0, .int 0, .int 0, .ref a1, .ref a2, .ref a3, .ref a4, .ref a5, .ref a6, .ref a7, .ref a8]))] := hD
  refine lv_if_eq (tgt := 30) hx hb dX11_summers_7 (by decide) (fun c_4 => ?_) (fun c_4 => absurd c_4 (by decide))
  refine lv_iconst (v := (-1)) hx hb dX11_summers_30 (by decide) ?_
  exact retI (v := (-1)) hx hb hr hlk (rfl) hP hD hS () rfl [] rfl rfl dX11_summers_31 (Nat.le_of_ble_eq_true rfl) (Nat.le_of_ble_eq_true rfl) rfl
set_option maxHeartbeats 4000000 in
set_option maxRecDepth 100000 in
theorem ct_X11_fines (l : Launch) (D : va_G) (tc : Nat → ClassId) (sk : (Nat → Nat) × (Nat → Nat)) (h0 : Nat) (ta : Nat) (br : Nat) (rr : Nat) (ru : Nat) (sc : Nat) (sh : Nat) (pa : Nat) (im : Nat) (ou : Nat) (ch : Nat) (iq : Nat) (a1 : Nat) (a2 : Nat) (a3 : Nat) (a4 : Nat) (a5 : Nat) (a6 : Nat) (a7 : Nat) (a8 : Nat) (x1 : Int32) (x2 : Int32)  : Ct l yX11_fines cX11_fines 3 (some .int) { frames := 1, cells := 0, slots := 0, locals := 22 } D tc sk [.ref h0, .int x1, .int x2] [(h0, .inr (11, [.ref ta, .ref br, .ref rr, .ref ru, .int 0, .ref sc, .ref sh, .ref pa, .ref im, .ref ou, .ref ch, .ref iq])), (sh, .inr (9, [.int 0, .int 0, .int 0, .int 0, .int 0, .int 0, .ref a1, .ref a2, .ref a3, .ref a4, .ref a5, .ref a6, .ref a7, .ref a8]))] (fun (v : Option Value) (_ : Unit) => v = some (.int (-1))) (fun (_ : Unit) => []) 0 0 := by
  refine Ct.start (by decide) (Nat.le_of_ble_eq_true rfl) (fun p e s m below meth c A ls hx hb hr hlk hin hml hown hts hK hX hP hD hA hl hS => ?_)
  have hl : lv_has ls 3 [(0, .ref h0), (1, .int x1), (2, .int x2)] := hl
  refine lv_iload_n hx hb dX11_fines_0 rfl (lv_at hl 1 rfl) ?_
  refine lv_iconst (v := 0) hx hb dX11_fines_1 (by decide) ?_
  refine lv_sipush (v := 9999) hx hb dX11_fines_2 (by decide) ?_
  refine cS (As := [.int x1, .int 0, .int 9999]) (rest := []) (wr := [(h0, .inr (11, [.ref ta, .ref br, .ref rr, .ref ru, .int 0, .ref sc, .ref sh, .ref pa, .ref im, .ref ou, .ref ch, .ref iq])), (sh, .inr (9, [.int 0, .int 0, .int 0, .int 0, .int 0, .int 0, .ref a1, .ref a2, .ref a3, .ref a4, .ref a5, .ref a6, .ref a7, .ref a8]))]) ⟨hx, hb, hml, hown, hts⟩ hK hX hA (ct_X11_isWithin l D tc sk x1 0 9999) k_716 k_714 k_715 k_95 pl_X11_isWithin ⟨Nat.le_of_ble_eq_true rfl, Nat.le_of_ble_eq_true rfl⟩ rfl rfl  hP hD hS [] [0, 1] rfl rfl rfl rfl rfl (by decide) rfl hl.1 rfl (Nat.le_of_ble_eq_true rfl) dX11_fines_5 ⟨Nat.le_of_ble_eq_true rfl, Nat.le_of_ble_eq_true rfl⟩ (fun v_1 u_2 H locs hv_3 hP hD hS => ?_)
  obtain ⟨r_4, rfl, he_5⟩ := hv_3
  refine W.eq (g2 := F0 m 8 ls [.int r_4]) rfl ?_
  have hP : va_P D classes [(h0, .inr (11, [.ref ta, .ref br, .ref rr, .ref ru, .int 0, .ref sc, .ref sh, .ref pa, .ref im, .ref ou, .ref ch, .ref iq])), (sh, .inr (9, [.int 0, .int 0, .int 0, .int 0, .int 0, .int 0, .ref a1, .ref a2, .ref a3, .ref a4, .ref a5, .ref a6, .ref a7, .ref a8]))] H := hP
  have hD : va_D A [(h0, .inr (11, [.ref ta, .ref br, .ref rr, .ref ru, .int 0, .ref sc, .ref sh, .ref pa, .ref im, .ref ou, .ref ch, .ref iq])), (sh, .inr (9, [.int 0, .int 0, .int 0, .int 0, .int 0, .int 0, .ref a1, .ref a2, .ref a3, .ref a4, .ref a5, .ref a6, .ref a7, .ref a8]))] := hD
  refine lv_if_eq (tgt := 22) hx hb dX11_fines_8 (by decide) (fun c_6 => ?_) (fun c_6 => ?_)
  · skip
    refine lv_iconst (v := (-1)) hx hb dX11_fines_22 (by decide) ?_
    exact retI (v := (-1)) hx hb hr hlk (rfl) hP hD hS () rfl [] rfl rfl dX11_fines_23 (Nat.le_of_ble_eq_true rfl) (Nat.le_of_ble_eq_true rfl) rfl
  · skip
    refine lv_aload_n hx hb dX11_fines_11 rfl (lv_at hl 0 rfl) ?_
    refine gf_X11_51 hx hb hts hown hK hP 0 rfl rfl dX11_fines_12 ?_
    refine lv_iload_n hx hb dX11_fines_15 rfl (lv_at hl 2 rfl) ?_
    refine cV (a := sh) (As := [.int x2]) (rest := []) (wr := [(h0, .inr (11, [.ref ta, .ref br, .ref rr, .ref ru, .int 0, .ref sc, .ref sh, .ref pa, .ref im, .ref ou, .ref ch, .ref iq]))]) ⟨hx, hb, hml, hown, hts⟩ hK hX hA (ct_X9_hasBuyer l D tc sk sh a1 a2 a3 a4 a5 a6 a7 a8 x2) k_591 k_702 k_589 k_590 k_98 pl_X9_hasBuyer ⟨Nat.le_of_ble_eq_true rfl, Nat.le_of_ble_eq_true rfl⟩ rfl rfl (va_recv hK hP (ci := 9) (q0 := 1) rfl rfl) hP hD hS [1] [0] rfl rfl rfl rfl rfl (by decide) rfl hl.1 rfl (Nat.le_of_ble_eq_true rfl) dX11_fines_16 ⟨Nat.le_of_ble_eq_true rfl, Nat.le_of_ble_eq_true rfl⟩ (fun v_7 u_8 H locs hv_9 hP hD hS => ?_)
    obtain rfl : v_7 = some (.int 0) := hv_9
    refine W.eq (g2 := F0 m 19 ls [.int 0]) rfl ?_
    have hP : va_P D classes [(h0, .inr (11, [.ref ta, .ref br, .ref rr, .ref ru, .int 0, .ref sc, .ref sh, .ref pa, .ref im, .ref ou, .ref ch, .ref iq])), (sh, .inr (9, [.int 0, .int 0, .int 0, .int 0, .int 0, .int 0, .ref a1, .ref a2, .ref a3, .ref a4, .ref a5, .ref a6, .ref a7, .ref a8]))] H := hP
    have hD : va_D A [(h0, .inr (11, [.ref ta, .ref br, .ref rr, .ref ru, .int 0, .ref sc, .ref sh, .ref pa, .ref im, .ref ou, .ref ch, .ref iq])), (sh, .inr (9, [.int 0, .int 0, .int 0, .int 0, .int 0, .int 0, .ref a1, .ref a2, .ref a3, .ref a4, .ref a5, .ref a6, .ref a7, .ref a8]))] := hD
    refine lv_if_ne (tgt := 24) hx hb dX11_fines_19 (by decide) (fun c_10 => absurd c_10 (by decide)) (fun c_10 => ?_)
    refine lv_iconst (v := (-1)) hx hb dX11_fines_22 (by decide) ?_
    exact retI (v := (-1)) hx hb hr hlk (rfl) hP hD hS () rfl [] rfl rfl dX11_fines_23 (Nat.le_of_ble_eq_true rfl) (Nat.le_of_ble_eq_true rfl) rfl
set_option maxHeartbeats 4000000 in
set_option maxRecDepth 100000 in
theorem ct_X11_undo (l : Launch) (D : va_G) (tc : Nat → ClassId) (sk : (Nat → Nat) × (Nat → Nat)) (h0 : Nat) (ta : Nat) (br : Nat) (rr : Nat) (ru : Nat) (sc : Nat) (sh : Nat) (pa : Nat) (im : Nat) (ou : Nat) (ch : Nat) (iq : Nat) (b1 : Nat)  : Ct l yX11_undo cX11_undo 1 (some .int) { frames := 1, cells := 0, slots := 0, locals := 23 } D tc sk [.ref h0] [(h0, .inr (11, [.ref ta, .ref br, .ref rr, .ref ru, .int 0, .ref sc, .ref sh, .ref pa, .ref im, .ref ou, .ref ch, .ref iq])), (pa, .inr (5, [.ref b1, .int 0, .int 0]))] (fun (v : Option Value) (_ : Unit) => v = some (.int (-1))) (fun (_ : Unit) => []) 0 0 := by
  refine Ct.start (by decide) (Nat.le_of_ble_eq_true rfl) (fun p e s m below meth c A ls hx hb hr hlk hin hml hown hts hK hX hP hD hA hl hS => ?_)
  have hl : lv_has ls 1 [(0, .ref h0)] := hl
  refine lv_aload_n hx hb dX11_undo_0 rfl (lv_at hl 0 rfl) ?_
  refine gf_X11_57 hx hb hts hown hK hP 0 rfl rfl dX11_undo_1 ?_
  refine lv_aload_n hx hb dX11_undo_4 rfl (lv_at hl 0 rfl) ?_
  refine gf_X11_51 hx hb hts hown hK hP 0 rfl rfl dX11_undo_5 ?_
  refine cV (a := pa) (As := [.ref sh]) (rest := []) (wr := [(h0, .inr (11, [.ref ta, .ref br, .ref rr, .ref ru, .int 0, .ref sc, .ref sh, .ref pa, .ref im, .ref ou, .ref ch, .ref iq]))]) ⟨hx, hb, hml, hown, hts⟩ hK hX hA (ct_X5_giveBack l D tc sk pa b1 sh) k_805 k_802 k_803 k_804 k_102 pl_X5_giveBack ⟨Nat.le_of_ble_eq_true rfl, Nat.le_of_ble_eq_true rfl⟩ rfl rfl (va_recv hK hP (ci := 5) (q0 := 1) rfl rfl) hP hD hS [1] [0] rfl rfl rfl rfl rfl (by decide) rfl hl.1 rfl (Nat.le_of_ble_eq_true rfl) dX11_undo_8 ⟨Nat.le_of_ble_eq_true rfl, Nat.le_of_ble_eq_true rfl⟩ (fun v_1 u_2 H locs hv_3 hP hD hS => ?_)
  obtain rfl : v_1 = some (.int (-1)) := hv_3
  refine W.eq (g2 := F0 m 11 ls [.int (-1)]) rfl ?_
  have hP : va_P D classes [(h0, .inr (11, [.ref ta, .ref br, .ref rr, .ref ru, .int 0, .ref sc, .ref sh, .ref pa, .ref im, .ref ou, .ref ch, .ref iq]))] H := hP
  have hD : va_D A [(h0, .inr (11, [.ref ta, .ref br, .ref rr, .ref ru, .int 0, .ref sc, .ref sh, .ref pa, .ref im, .ref ou, .ref ch, .ref iq]))] := hD
  exact retI (v := (-1)) hx hb hr hlk (rfl) hP hD hS () rfl [] rfl rfl dX11_undo_11 (Nat.le_of_ble_eq_true rfl) (Nat.le_of_ble_eq_true rfl) rfl
def frcF (k : Int32) : Int32 := if k < -1 then -2 else if 0 ≤ k then -2 else -1
def nteF (k : Int32) : Int32 := if k = -1 then 0 else -2
def sdF (k : Int32) : Int32 := if k < 0 then -1 else 0
def endF (k : Int32) : Int32 := if k < 0 then -1 else if 0 < k then -1 else k
def cntF (k : Int32) : Int32 := if k = 0 then 0 else if k = 1 then 0 else if k = 2 then 0 else if k = 3 then 0 else if k = 4 then -1 else if k = 5 then 0 else if k = 6 then 0 else if k = 7 then 0 else if k = 8 then 0 else if k = 9 then 0 else if k = 10 then 0 else if k = 11 then 0 else if k = 12 then 0 else if k = 13 then 0 else if k = 14 then 0 else if k = 15 then 0 else -1
set_option maxHeartbeats 4000000 in
set_option maxRecDepth 100000 in
theorem ct_X11_force (l : Launch) (D : va_G) (tc : Nat → ClassId) (sk : (Nat → Nat) × (Nat → Nat)) (h0 : Nat) (ta : Nat) (br : Nat) (rr : Nat) (ru : Nat) (sc : Nat) (sh : Nat) (pa : Nat) (im : Nat) (ou : Nat) (ch : Nat) (iq : Nat) (f0 : Nat) (g0 : Nat) (x1 : Int32)  : Ct l yX11_force cX11_force 3 (some .int) { frames := 0, cells := 0, slots := 0, locals := 0 } D tc sk [.ref h0, .int x1] [(h0, .inr (11, [.ref ta, .ref br, .ref rr, .ref ru, .int 0, .ref sc, .ref sh, .ref pa, .ref im, .ref ou, .ref ch, .ref iq])), (sc, .inr (8, [.ref sh, .ref f0, .ref g0, .int (-1), .int 0]))] (fun (v : Option Value) (_ : Unit) => v = some (.int (frcF x1))) (fun (_ : Unit) => []) 0 0 := by
  refine Ct.start (by decide) (Nat.le_of_ble_eq_true rfl) (fun p e s m below meth c A ls hx hb hr hlk hin hml hown hts hK hX hP hD hA hl hS => ?_)
  have hl : lv_has ls 3 [(0, .ref h0), (1, .int x1)] := hl
  refine lv_iload_n hx hb dX11_force_0 rfl (lv_at hl 1 rfl) ?_
  refine lv_iconst (v := (-1)) hx hb dX11_force_1 (by decide) ?_
  refine lv_icmp_lt (tgt := 13) hx hb dX11_force_2 (by decide) (fun c_1 => ?_) (fun c_1 => ?_)
  · skip
    refine lv_bipush (v := (-2)) hx hb dX11_force_13 (by decide) ?_
    have hp_2 : frcF x1 = (-2) := by simp [frcF, c_1, Int32.not_le.mpr c_1]
    exact retI (v := (-2)) hx hb hr hlk (rfl) hP hD hS () (by rw [hp_2]) [] rfl rfl dX11_force_15 (Nat.le_of_ble_eq_true rfl) (Nat.le_of_ble_eq_true rfl) rfl
  · skip
    refine lv_iload_n hx hb dX11_force_5 rfl (lv_at hl 1 rfl) ?_
    refine lv_aload_n hx hb dX11_force_6 rfl (lv_at hl 0 rfl) ?_
    refine gf_X11_36 hx hb hts hown hK hP 0 rfl rfl dX11_force_7 ?_
    refine lv_icmp_lt (tgt := 16) hx hb dX11_force_10 (by decide) (fun c_3 => ?_) (fun c_3 => ?_)
    · skip
      refine lv_aload_n hx hb dX11_force_16 rfl (lv_at hl 0 rfl) ?_
      refine gf_X11_43 hx hb hts hown hK hP 0 rfl rfl dX11_force_17 ?_
      refine gf_X11_130 hx hb hts hown hK hP 1 rfl rfl dX11_force_20 ?_
      refine lv_istore_n (lv' := [(2, .int (-1)), (0, .ref h0), (1, .int x1)]) hx hb dX11_force_23 rfl hl (by decide) rfl (fun ls hl => ?_)
      refine lv_aload_n hx hb dX11_force_24 rfl (lv_at hl 1 rfl) ?_
      refine gf_X11_43 hx hb hts hown hK hP 0 rfl rfl dX11_force_25 ?_
      refine lv_iload_n hx hb dX11_force_28 rfl (lv_at hl 2 rfl) ?_
      refine pf_X11_130 hx hb hts hown hK hP hD hS 1 rfl (Nat.le_of_ble_eq_true rfl) rfl rfl dX11_force_29 (fun H locs hP hD hS => ?_)
      have hP : va_P D classes [(h0, .inr (11, [.ref ta, .ref br, .ref rr, .ref ru, .int 0, .ref sc, .ref sh, .ref pa, .ref im, .ref ou, .ref ch, .ref iq])), (sc, .inr (8, [.ref sh, .ref f0, .ref g0, .int x1, .int 0]))] H := hP
      have hD : va_D A [(h0, .inr (11, [.ref ta, .ref br, .ref rr, .ref ru, .int 0, .ref sc, .ref sh, .ref pa, .ref im, .ref ou, .ref ch, .ref iq])), (sc, .inr (8, [.ref sh, .ref f0, .ref g0, .int x1, .int 0]))] := hD
      refine lv_iload_n hx hb dX11_force_32 rfl (lv_at hl 0 rfl) ?_
      have hp_4 : frcF x1 = (-1) := by simp [frcF, c_1, Int32.not_lt.mp c_1, c_3, Int32.not_le.mpr c_3]
      exact retI (v := (-1)) hx hb hr hlk (rfl) hP hD hS () (by rw [hp_4]) [] rfl rfl dX11_force_33 (Nat.le_of_ble_eq_true rfl) (Nat.le_of_ble_eq_true rfl) rfl
    · skip
      refine lv_bipush (v := (-2)) hx hb dX11_force_13 (by decide) ?_
      have hp_5 : frcF x1 = (-2) := by simp [frcF, c_1, Int32.not_lt.mp c_1, c_3, Int32.not_lt.mp c_3]
      exact retI (v := (-2)) hx hb hr hlk (rfl) hP hD hS () (by rw [hp_5]) [] rfl rfl dX11_force_15 (Nat.le_of_ble_eq_true rfl) (Nat.le_of_ble_eq_true rfl) rfl
set_option maxHeartbeats 4000000 in
set_option maxRecDepth 100000 in
theorem ct_X11_seed (l : Launch) (D : va_G) (tc : Nat → ClassId) (sk : (Nat → Nat) × (Nat → Nat)) (h0 : Nat) (ta : Nat) (br : Nat) (rr : Nat) (ru : Nat) (sc : Nat) (sh : Nat) (pa : Nat) (im : Nat) (ou : Nat) (ch : Nat) (iq : Nat) (f0 : Nat) (g0 : Nat) (x1 : Int32)  : Ct l yX11_seed cX11_seed 3 (some .int) { frames := 0, cells := 0, slots := 0, locals := 0 } D tc sk [.ref h0, .int x1] [(h0, .inr (11, [.ref ta, .ref br, .ref rr, .ref ru, .int 0, .ref sc, .ref sh, .ref pa, .ref im, .ref ou, .ref ch, .ref iq])), (sc, .inr (8, [.ref sh, .ref f0, .ref g0, .int (-1), .int 0]))] (fun (v : Option Value) (_ : Unit) => v = some (.int (sdF x1))) (fun (_ : Unit) => []) 0 0 := by
  refine Ct.start (by decide) (Nat.le_of_ble_eq_true rfl) (fun p e s m below meth c A ls hx hb hr hlk hin hml hown hts hK hX hP hD hA hl hS => ?_)
  have hl : lv_has ls 3 [(0, .ref h0), (1, .int x1)] := hl
  refine lv_iload_n hx hb dX11_seed_0 rfl (lv_at hl 1 rfl) ?_
  refine lv_if_ge (tgt := 6) hx hb dX11_seed_1 (by decide) (fun c_1 => ?_) (fun c_1 => ?_)
  · skip
    refine lv_aload_n hx hb dX11_seed_6 rfl (lv_at hl 0 rfl) ?_
    refine gf_X11_43 hx hb hts hown hK hP 0 rfl rfl dX11_seed_7 ?_
    refine gf_X11_272 hx hb hts hown hK hP 1 rfl rfl dX11_seed_10 ?_
    refine lv_istore_n (lv' := [(2, .int 0), (0, .ref h0), (1, .int x1)]) hx hb dX11_seed_13 rfl hl (by decide) rfl (fun ls hl => ?_)
    refine lv_aload_n hx hb dX11_seed_14 rfl (lv_at hl 1 rfl) ?_
    refine gf_X11_43 hx hb hts hown hK hP 0 rfl rfl dX11_seed_15 ?_
    refine lv_iload_n hx hb dX11_seed_18 rfl (lv_at hl 2 rfl) ?_
    refine pf_X11_272 hx hb hts hown hK hP hD hS 1 rfl (Nat.le_of_ble_eq_true rfl) rfl rfl dX11_seed_19 (fun H locs hP hD hS => ?_)
    have hP : va_P D classes [(h0, .inr (11, [.ref ta, .ref br, .ref rr, .ref ru, .int 0, .ref sc, .ref sh, .ref pa, .ref im, .ref ou, .ref ch, .ref iq])), (sc, .inr (8, [.ref sh, .ref f0, .ref g0, .int (-1), .int x1]))] H := hP
    have hD : va_D A [(h0, .inr (11, [.ref ta, .ref br, .ref rr, .ref ru, .int 0, .ref sc, .ref sh, .ref pa, .ref im, .ref ou, .ref ch, .ref iq])), (sc, .inr (8, [.ref sh, .ref f0, .ref g0, .int (-1), .int x1]))] := hD
    refine lv_iload_n hx hb dX11_seed_22 rfl (lv_at hl 0 rfl) ?_
    have hp_2 : sdF x1 = 0 := by simp [sdF, c_1, Int32.not_lt.mpr c_1]
    exact retI (v := 0) hx hb hr hlk (rfl) hP hD hS () (by rw [hp_2]) [] rfl rfl dX11_seed_23 (Nat.le_of_ble_eq_true rfl) (Nat.le_of_ble_eq_true rfl) rfl
  · skip
    refine lv_iconst (v := (-1)) hx hb dX11_seed_4 (by decide) ?_
    have hp_3 : sdF x1 = (-1) := by simp [sdF, c_1, Int32.not_le.mp c_1]
    exact retI (v := (-1)) hx hb hr hlk (rfl) hP hD hS () (by rw [hp_3]) [] rfl rfl dX11_seed_5 (Nat.le_of_ble_eq_true rfl) (Nat.le_of_ble_eq_true rfl) rfl
set_option maxHeartbeats 4000000 in
set_option maxRecDepth 100000 in
theorem ct_X11_end (l : Launch) (D : va_G) (tc : Nat → ClassId) (sk : (Nat → Nat) × (Nat → Nat)) (h0 : Nat) (ta : Nat) (br : Nat) (rr : Nat) (ru : Nat) (sc : Nat) (sh : Nat) (pa : Nat) (im : Nat) (ou : Nat) (ch : Nat) (iq : Nat) (t1 : Nat) (x1 : Int32)  : Ct l yX11_end cX11_end 2 (some .int) { frames := 0, cells := 0, slots := 0, locals := 0 } D tc sk [.ref h0, .int x1] [(h0, .inr (11, [.ref ta, .ref br, .ref rr, .ref ru, .int 0, .ref sc, .ref sh, .ref pa, .ref im, .ref ou, .ref ch, .ref iq])), (ta, .inr (10, [.ref t1, .int 0, .int 0, .int 0, .int (-1), .int 0]))] (fun (v : Option Value) (_ : Unit) => v = some (.int (endF x1))) (fun (_ : Unit) => []) 0 0 := by
  refine Ct.start (by decide) (Nat.le_of_ble_eq_true rfl) (fun p e s m below meth c A ls hx hb hr hlk hin hml hown hts hK hX hP hD hA hl hS => ?_)
  have hl : lv_has ls 2 [(0, .ref h0), (1, .int x1)] := hl
  refine lv_iload_n hx hb dX11_end_0 rfl (lv_at hl 1 rfl) ?_
  refine lv_if_lt (tgt := 15) hx hb dX11_end_1 (by decide) (fun c_1 => ?_) (fun c_1 => ?_)
  · skip
    refine lv_iconst (v := (-1)) hx hb dX11_end_15 (by decide) ?_
    have hp_2 : endF x1 = (-1) := by simp [endF, c_1, Int32.not_le.mpr c_1]
    exact retI (v := (-1)) hx hb hr hlk (rfl) hP hD hS () (by rw [hp_2]) [] rfl rfl dX11_end_16 (Nat.le_of_ble_eq_true rfl) (Nat.le_of_ble_eq_true rfl) rfl
  · skip
    refine lv_iload_n hx hb dX11_end_4 rfl (lv_at hl 1 rfl) ?_
    refine lv_aload_n hx hb dX11_end_5 rfl (lv_at hl 0 rfl) ?_
    refine gf_X11_10 hx hb hts hown hK hP 0 rfl rfl dX11_end_6 ?_
    refine gf_X11_94 hx hb hts hown hK hP 1 rfl rfl dX11_end_9 ?_
    refine lv_icmp_le (tgt := 17) hx hb dX11_end_12 (by decide) (fun c_3 => ?_) (fun c_3 => ?_)
    · skip
      refine lv_aload_n hx hb dX11_end_17 rfl (lv_at hl 0 rfl) ?_
      refine gf_X11_10 hx hb hts hown hK hP 0 rfl rfl dX11_end_18 ?_
      refine lv_iload_n hx hb dX11_end_21 rfl (lv_at hl 1 rfl) ?_
      refine pf_X11_94 hx hb hts hown hK hP hD hS 1 rfl (Nat.le_of_ble_eq_true rfl) rfl rfl dX11_end_22 (fun H locs hP hD hS => ?_)
      have hP : va_P D classes [(h0, .inr (11, [.ref ta, .ref br, .ref rr, .ref ru, .int 0, .ref sc, .ref sh, .ref pa, .ref im, .ref ou, .ref ch, .ref iq])), (ta, .inr (10, [.ref t1, .int x1, .int 0, .int 0, .int (-1), .int 0]))] H := hP
      have hD : va_D A [(h0, .inr (11, [.ref ta, .ref br, .ref rr, .ref ru, .int 0, .ref sc, .ref sh, .ref pa, .ref im, .ref ou, .ref ch, .ref iq])), (ta, .inr (10, [.ref t1, .int x1, .int 0, .int 0, .int (-1), .int 0]))] := hD
      refine lv_iload_n hx hb dX11_end_25 rfl (lv_at hl 1 rfl) ?_
      have hp_4 : endF x1 = x1 := by simp [endF, c_1, Int32.not_lt.mp c_1, c_3, Int32.not_lt.mpr c_3]
      exact retI (v := x1) hx hb hr hlk (rfl) hP hD hS () (by rw [hp_4]) [] rfl rfl dX11_end_26 (Nat.le_of_ble_eq_true rfl) (Nat.le_of_ble_eq_true rfl) rfl
    · skip
      refine lv_iconst (v := (-1)) hx hb dX11_end_15 (by decide) ?_
      have hp_5 : endF x1 = (-1) := by simp [endF, c_1, Int32.not_lt.mp c_1, c_3, Int32.not_le.mp c_3]
      exact retI (v := (-1)) hx hb hr hlk (rfl) hP hD hS () (by rw [hp_5]) [] rfl rfl dX11_end_16 (Nat.le_of_ble_eq_true rfl) (Nat.le_of_ble_eq_true rfl) rfl
set_option maxHeartbeats 4000000 in
set_option maxRecDepth 100000 in
theorem ct_X11_note (l : Launch) (D : va_G) (tc : Nat → ClassId) (sk : (Nat → Nat) × (Nat → Nat)) (h0 : Nat) (ta : Nat) (br : Nat) (rr : Nat) (ru : Nat) (sc : Nat) (sh : Nat) (pa : Nat) (im : Nat) (ou : Nat) (ch : Nat) (iq : Nat) (f0 : Nat) (g0 : Nat) (g1 : Nat) (g2 : Nat) (g3 : Nat) (a1 : Nat) (a2 : Nat) (a3 : Nat) (a4 : Nat) (a5 : Nat) (a6 : Nat) (a7 : Nat) (a8 : Nat) (x1 : Int32) (x2 : Int32) (x3 : Int32)  : Ct l yX11_note cX11_note 4 (some .int) { frames := 1, cells := 0, slots := 0, locals := 22 } D tc sk [.ref h0, .int x1, .int x2, .int x3] [(h0, .inr (11, [.ref ta, .ref br, .ref rr, .ref ru, .int 0, .ref sc, .ref sh, .ref pa, .ref im, .ref ou, .ref ch, .ref iq])), (sc, .inr (8, [.ref sh, .ref f0, .ref g0, .int (-1), .int 0])), (g0, .inr (3, [.ref g1, .ref g2, .ref g3, .int 0])), (sh, .inr (9, [.int 0, .int 0, .int 0, .int 0, .int 0, .int 0, .ref a1, .ref a2, .ref a3, .ref a4, .ref a5, .ref a6, .ref a7, .ref a8]))] (fun (v : Option Value) (_ : Unit) => v = some (.int (nteF x1))) (fun (_ : Unit) => []) 0 0 := by
  refine Ct.start (by decide) (Nat.le_of_ble_eq_true rfl) (fun p e s m below meth c A ls hx hb hr hlk hin hml hown hts hK hX hP hD hA hl hS => ?_)
  have hl : lv_has ls 4 [(0, .ref h0), (1, .int x1), (2, .int x2), (3, .int x3)] := hl
  refine lv_iload_n hx hb dX11_note_0 rfl (lv_at hl 1 rfl) ?_
  refine lv_iconst (v := (-1)) hx hb dX11_note_1 (by decide) ?_
  refine lv_icmp_ne (tgt := 18) hx hb dX11_note_2 (by decide) (fun c_1 => ?_) (fun c_1 => ?_)
  · skip
    refine lv_iload_n hx hb dX11_note_18 rfl (lv_at hl 1 rfl) ?_
    refine lv_iconst (v := 0) hx hb dX11_note_19 (by decide) ?_
    refine lv_bipush (v := 60) hx hb dX11_note_20 (by decide) ?_
    refine cS (As := [.int x1, .int 0, .int 60]) (rest := []) (wr := [(h0, .inr (11, [.ref ta, .ref br, .ref rr, .ref ru, .int 0, .ref sc, .ref sh, .ref pa, .ref im, .ref ou, .ref ch, .ref iq])), (sc, .inr (8, [.ref sh, .ref f0, .ref g0, .int (-1), .int 0])), (g0, .inr (3, [.ref g1, .ref g2, .ref g3, .int 0])), (sh, .inr (9, [.int 0, .int 0, .int 0, .int 0, .int 0, .int 0, .ref a1, .ref a2, .ref a3, .ref a4, .ref a5, .ref a6, .ref a7, .ref a8]))]) ⟨hx, hb, hml, hown, hts⟩ hK hX hA (ct_X11_isWithin l D tc sk x1 0 60) k_716 k_714 k_715 k_95 pl_X11_isWithin ⟨Nat.le_of_ble_eq_true rfl, Nat.le_of_ble_eq_true rfl⟩ rfl rfl  hP hD hS [] [0, 1, 2, 3] rfl rfl rfl rfl rfl (by decide) rfl hl.1 rfl (Nat.le_of_ble_eq_true rfl) dX11_note_22 ⟨Nat.le_of_ble_eq_true rfl, Nat.le_of_ble_eq_true rfl⟩ (fun v_2 u_3 H locs hv_4 hP hD hS => ?_)
    obtain ⟨r_5, rfl, he_6⟩ := hv_4
    refine W.eq (g2 := F0 m 25 ls [.int r_5]) rfl ?_
    have hP : va_P D classes [(h0, .inr (11, [.ref ta, .ref br, .ref rr, .ref ru, .int 0, .ref sc, .ref sh, .ref pa, .ref im, .ref ou, .ref ch, .ref iq])), (sc, .inr (8, [.ref sh, .ref f0, .ref g0, .int (-1), .int 0])), (g0, .inr (3, [.ref g1, .ref g2, .ref g3, .int 0])), (sh, .inr (9, [.int 0, .int 0, .int 0, .int 0, .int 0, .int 0, .ref a1, .ref a2, .ref a3, .ref a4, .ref a5, .ref a6, .ref a7, .ref a8]))] H := hP
    have hD : va_D A [(h0, .inr (11, [.ref ta, .ref br, .ref rr, .ref ru, .int 0, .ref sc, .ref sh, .ref pa, .ref im, .ref ou, .ref ch, .ref iq])), (sc, .inr (8, [.ref sh, .ref f0, .ref g0, .int (-1), .int 0])), (g0, .inr (3, [.ref g1, .ref g2, .ref g3, .int 0])), (sh, .inr (9, [.int 0, .int 0, .int 0, .int 0, .int 0, .int 0, .ref a1, .ref a2, .ref a3, .ref a4, .ref a5, .ref a6, .ref a7, .ref a8]))] := hD
    refine lv_if_eq (tgt := 48) hx hb dX11_note_25 (by decide) (fun c_7 => ?_) (fun c_7 => ?_)
    · skip
      refine lv_bipush (v := (-2)) hx hb dX11_note_48 (by decide) ?_
      have hp_8 : nteF x1 = (-2) := by simp [nteF, c_1, c_7]
      exact retI (v := (-2)) hx hb hr hlk (rfl) hP hD hS () (by rw [hp_8]) [] rfl rfl dX11_note_50 (Nat.le_of_ble_eq_true rfl) (Nat.le_of_ble_eq_true rfl) rfl
    · skip
      refine lv_aload_n hx hb dX11_note_28 rfl (lv_at hl 0 rfl) ?_
      refine gf_X11_51 hx hb hts hown hK hP 0 rfl rfl dX11_note_29 ?_
      refine lv_iload_n hx hb dX11_note_32 rfl (lv_at hl 2 rfl) ?_
      refine cV (a := sh) (As := [.int x2]) (rest := []) (wr := [(h0, .inr (11, [.ref ta, .ref br, .ref rr, .ref ru, .int 0, .ref sc, .ref sh, .ref pa, .ref im, .ref ou, .ref ch, .ref iq])), (sc, .inr (8, [.ref sh, .ref f0, .ref g0, .int (-1), .int 0])), (g0, .inr (3, [.ref g1, .ref g2, .ref g3, .int 0]))]) ⟨hx, hb, hml, hown, hts⟩ hK hX hA (ct_X9_hasBuyer l D tc sk sh a1 a2 a3 a4 a5 a6 a7 a8 x2) k_591 k_702 k_589 k_590 k_98 pl_X9_hasBuyer ⟨Nat.le_of_ble_eq_true rfl, Nat.le_of_ble_eq_true rfl⟩ rfl rfl (va_recv hK hP (ci := 9) (q0 := 3) rfl rfl) hP hD hS [3] [0, 1, 2] rfl rfl rfl rfl rfl (by decide) rfl hl.1 rfl (Nat.le_of_ble_eq_true rfl) dX11_note_33 ⟨Nat.le_of_ble_eq_true rfl, Nat.le_of_ble_eq_true rfl⟩ (fun v_9 u_10 H locs hv_11 hP hD hS => ?_)
      obtain rfl : v_9 = some (.int 0) := hv_11
      refine W.eq (g2 := F0 m 36 ls [.int 0]) rfl ?_
      have hP : va_P D classes [(h0, .inr (11, [.ref ta, .ref br, .ref rr, .ref ru, .int 0, .ref sc, .ref sh, .ref pa, .ref im, .ref ou, .ref ch, .ref iq])), (sc, .inr (8, [.ref sh, .ref f0, .ref g0, .int (-1), .int 0])), (g0, .inr (3, [.ref g1, .ref g2, .ref g3, .int 0])), (sh, .inr (9, [.int 0, .int 0, .int 0, .int 0, .int 0, .int 0, .ref a1, .ref a2, .ref a3, .ref a4, .ref a5, .ref a6, .ref a7, .ref a8]))] H := hP
      have hD : va_D A [(h0, .inr (11, [.ref ta, .ref br, .ref rr, .ref ru, .int 0, .ref sc, .ref sh, .ref pa, .ref im, .ref ou, .ref ch, .ref iq])), (sc, .inr (8, [.ref sh, .ref f0, .ref g0, .int (-1), .int 0])), (g0, .inr (3, [.ref g1, .ref g2, .ref g3, .int 0])), (sh, .inr (9, [.int 0, .int 0, .int 0, .int 0, .int 0, .int 0, .ref a1, .ref a2, .ref a3, .ref a4, .ref a5, .ref a6, .ref a7, .ref a8]))] := hD
      refine lv_if_eq (tgt := 48) hx hb dX11_note_36 (by decide) (fun c_12 => ?_) (fun c_12 => absurd c_12 (by decide))
      refine lv_bipush (v := (-2)) hx hb dX11_note_48 (by decide) ?_
      have hp_13 : nteF x1 = (-2) := by simp [nteF, c_1, c_7]
      exact retI (v := (-2)) hx hb hr hlk (rfl) hP hD hS () (by rw [hp_13]) [] rfl rfl dX11_note_50 (Nat.le_of_ble_eq_true rfl) (Nat.le_of_ble_eq_true rfl) rfl
  · skip
    refine lv_aload_n hx hb dX11_note_5 rfl (lv_at hl 0 rfl) ?_
    refine gf_X11_43 hx hb hts hown hK hP 0 rfl rfl dX11_note_6 ?_
    refine gf_X11_111 hx hb hts hown hK hP 1 rfl rfl dX11_note_9 ?_
    refine lv_iconst (v := 0) hx hb dX11_note_12 (by decide) ?_
    refine pf_X11_115 hx hb hts hown hK hP hD hS 2 rfl (Nat.le_of_ble_eq_true rfl) rfl rfl dX11_note_13 (fun H locs hP hD hS => ?_)
    have hP : va_P D classes [(h0, .inr (11, [.ref ta, .ref br, .ref rr, .ref ru, .int 0, .ref sc, .ref sh, .ref pa, .ref im, .ref ou, .ref ch, .ref iq])), (sc, .inr (8, [.ref sh, .ref f0, .ref g0, .int (-1), .int 0])), (g0, .inr (3, [.ref g1, .ref g2, .ref g3, .int 0])), (sh, .inr (9, [.int 0, .int 0, .int 0, .int 0, .int 0, .int 0, .ref a1, .ref a2, .ref a3, .ref a4, .ref a5, .ref a6, .ref a7, .ref a8]))] H := hP
    have hD : va_D A [(h0, .inr (11, [.ref ta, .ref br, .ref rr, .ref ru, .int 0, .ref sc, .ref sh, .ref pa, .ref im, .ref ou, .ref ch, .ref iq])), (sc, .inr (8, [.ref sh, .ref f0, .ref g0, .int (-1), .int 0])), (g0, .inr (3, [.ref g1, .ref g2, .ref g3, .int 0])), (sh, .inr (9, [.int 0, .int 0, .int 0, .int 0, .int 0, .int 0, .ref a1, .ref a2, .ref a3, .ref a4, .ref a5, .ref a6, .ref a7, .ref a8]))] := hD
    refine lv_iconst (v := 0) hx hb dX11_note_16 (by decide) ?_
    have hp_14 : nteF x1 = 0 := by simp [nteF, c_1]
    exact retI (v := 0) hx hb hr hlk (rfl) hP hD hS () (by rw [hp_14]) [] rfl rfl dX11_note_17 (Nat.le_of_ble_eq_true rfl) (Nat.le_of_ble_eq_true rfl) rfl
set_option maxHeartbeats 4000000 in
set_option maxRecDepth 100000 in
theorem ct_X11_count (l : Launch) (D : va_G) (tc : Nat → ClassId) (sk : (Nat → Nat) × (Nat → Nat)) (h0 : Nat) (ta : Nat) (br : Nat) (rr : Nat) (ru : Nat) (sc : Nat) (sh : Nat) (pa : Nat) (im : Nat) (ou : Nat) (ch : Nat) (iq : Nat) (f0 : Nat) (g0 : Nat) (g1 : Nat) (g2 : Nat) (g3 : Nat) (b1 : Nat) (t1 : Nat) (a1 : Nat) (a2 : Nat) (a3 : Nat) (a4 : Nat) (a5 : Nat) (a6 : Nat) (a7 : Nat) (a8 : Nat) (x1 : Int32)  : Ct l yX11_count cX11_count 2 (some .int) { frames := 1, cells := 0, slots := 0, locals := 22 } D tc sk [.ref h0, .int x1] [(h0, .inr (11, [.ref ta, .ref br, .ref rr, .ref ru, .int 0, .ref sc, .ref sh, .ref pa, .ref im, .ref ou, .ref ch, .ref iq])), (sc, .inr (8, [.ref sh, .ref f0, .ref g0, .int (-1), .int 0])), (g0, .inr (3, [.ref g1, .ref g2, .ref g3, .int 0])), (sh, .inr (9, [.int 0, .int 0, .int 0, .int 0, .int 0, .int 0, .ref a1, .ref a2, .ref a3, .ref a4, .ref a5, .ref a6, .ref a7, .ref a8])), (pa, .inr (5, [.ref b1, .int 0, .int 0])), (ta, .inr (10, [.ref t1, .int 0, .int 0, .int 0, .int (-1), .int 0]))] (fun (v : Option Value) (_ : Unit) => v = some (.int (cntF x1))) (fun (_ : Unit) => []) 0 0 := by
  refine Ct.start (by decide) (Nat.le_of_ble_eq_true rfl) (fun p e s m below meth c A ls hx hb hr hlk hin hml hown hts hK hX hP hD hA hl hS => ?_)
  have hl : lv_has ls 2 [(0, .ref h0), (1, .int x1)] := hl
  refine lv_iload_n hx hb dX11_count_0 rfl (lv_at hl 1 rfl) ?_
  by_cases c_1 : x1 = 0
  · skip
    subst c_1
    refine lv_tableIn (off := 79) (tgt := 80) hx hb dX11_count_1 (by decide) (by decide) (by decide) (by decide) ?_
    refine lv_aload_n hx hb dX11_count_80 rfl (lv_at hl 0 rfl) ?_
    refine gf_X11_51 hx hb hts hown hK hP 0 rfl rfl dX11_count_81 ?_
    refine gf_X11_282 hx hb hts hown hK hP 3 rfl rfl dX11_count_84 ?_
    have hp_2 : cntF 0 = 0 := by decide
    exact retI (v := 0) hx hb hr hlk (rfl) hP hD hS () (by rw [hp_2]) [] rfl rfl dX11_count_87 (Nat.le_of_ble_eq_true rfl) (Nat.le_of_ble_eq_true rfl) rfl
  · skip
    by_cases c_3 : x1 = 1
    · skip
      subst c_3
      refine lv_tableIn (off := 87) (tgt := 88) hx hb dX11_count_1 (by decide) (by decide) (by decide) (by decide) ?_
      refine lv_aload_n hx hb dX11_count_88 rfl (lv_at hl 0 rfl) ?_
      refine gf_X11_51 hx hb hts hown hK hP 0 rfl rfl dX11_count_89 ?_
      refine gf_X11_285 hx hb hts hown hK hP 3 rfl rfl dX11_count_92 ?_
      have hp_4 : cntF 1 = 0 := by decide
      exact retI (v := 0) hx hb hr hlk (rfl) hP hD hS () (by rw [hp_4]) [] rfl rfl dX11_count_95 (Nat.le_of_ble_eq_true rfl) (Nat.le_of_ble_eq_true rfl) rfl
    · skip
      by_cases c_5 : x1 = 2
      · skip
        subst c_5
        refine lv_tableIn (off := 95) (tgt := 96) hx hb dX11_count_1 (by decide) (by decide) (by decide) (by decide) ?_
        refine lv_aload_n hx hb dX11_count_96 rfl (lv_at hl 0 rfl) ?_
        refine gf_X11_51 hx hb hts hown hK hP 0 rfl rfl dX11_count_97 ?_
        refine gf_X11_121 hx hb hts hown hK hP 3 rfl rfl dX11_count_100 ?_
        have hp_6 : cntF 2 = 0 := by decide
        exact retI (v := 0) hx hb hr hlk (rfl) hP hD hS () (by rw [hp_6]) [] rfl rfl dX11_count_103 (Nat.le_of_ble_eq_true rfl) (Nat.le_of_ble_eq_true rfl) rfl
      · skip
        by_cases c_7 : x1 = 3
        · skip
          subst c_7
          refine lv_tableIn (off := 103) (tgt := 104) hx hb dX11_count_1 (by decide) (by decide) (by decide) (by decide) ?_
          refine lv_aload_n hx hb dX11_count_104 rfl (lv_at hl 0 rfl) ?_
          refine gf_X11_36 hx hb hts hown hK hP 0 rfl rfl dX11_count_105 ?_
          have hp_8 : cntF 3 = 0 := by decide
          exact retI (v := 0) hx hb hr hlk (rfl) hP hD hS () (by rw [hp_8]) [] rfl rfl dX11_count_108 (Nat.le_of_ble_eq_true rfl) (Nat.le_of_ble_eq_true rfl) rfl
        · skip
          by_cases c_9 : x1 = 4
          · skip
            subst c_9
            refine lv_tableIn (off := 108) (tgt := 109) hx hb dX11_count_1 (by decide) (by decide) (by decide) (by decide) ?_
            refine lv_aload_n hx hb dX11_count_109 rfl (lv_at hl 0 rfl) ?_
            refine gf_X11_43 hx hb hts hown hK hP 0 rfl rfl dX11_count_110 ?_
            refine gf_X11_130 hx hb hts hown hK hP 1 rfl rfl dX11_count_113 ?_
            have hp_10 : cntF 4 = (-1) := by decide
            exact retI (v := (-1)) hx hb hr hlk (rfl) hP hD hS () (by rw [hp_10]) [] rfl rfl dX11_count_116 (Nat.le_of_ble_eq_true rfl) (Nat.le_of_ble_eq_true rfl) rfl
          · skip
            by_cases c_11 : x1 = 5
            · skip
              subst c_11
              refine lv_tableIn (off := 116) (tgt := 117) hx hb dX11_count_1 (by decide) (by decide) (by decide) (by decide) ?_
              refine lv_aload_n hx hb dX11_count_117 rfl (lv_at hl 0 rfl) ?_
              refine gf_X11_51 hx hb hts hown hK hP 0 rfl rfl dX11_count_118 ?_
              refine gf_X11_179 hx hb hts hown hK hP 3 rfl rfl dX11_count_121 ?_
              have hp_12 : cntF 5 = 0 := by decide
              exact retI (v := 0) hx hb hr hlk (rfl) hP hD hS () (by rw [hp_12]) [] rfl rfl dX11_count_124 (Nat.le_of_ble_eq_true rfl) (Nat.le_of_ble_eq_true rfl) rfl
            · skip
              by_cases c_13 : x1 = 6
              · skip
                subst c_13
                refine lv_tableIn (off := 124) (tgt := 125) hx hb dX11_count_1 (by decide) (by decide) (by decide) (by decide) ?_
                refine lv_aload_n hx hb dX11_count_125 rfl (lv_at hl 0 rfl) ?_
                refine gf_X11_51 hx hb hts hown hK hP 0 rfl rfl dX11_count_126 ?_
                refine lv_aload_n hx hb dX11_count_129 rfl (lv_at hl 0 rfl) ?_
                refine gf_X11_51 hx hb hts hown hK hP 0 rfl rfl dX11_count_130 ?_
                refine gf_X11_179 hx hb hts hown hK hP 3 rfl rfl dX11_count_133 ?_
                refine cV (a := sh) (As := [.int 0]) (rest := []) (wr := [(h0, .inr (11, [.ref ta, .ref br, .ref rr, .ref ru, .int 0, .ref sc, .ref sh, .ref pa, .ref im, .ref ou, .ref ch, .ref iq])), (sc, .inr (8, [.ref sh, .ref f0, .ref g0, .int (-1), .int 0])), (g0, .inr (3, [.ref g1, .ref g2, .ref g3, .int 0])), (pa, .inr (5, [.ref b1, .int 0, .int 0])), (ta, .inr (10, [.ref t1, .int 0, .int 0, .int 0, .int (-1), .int 0]))]) ⟨hx, hb, hml, hown, hts⟩ hK hX hA (ct_X9_clockOn l D tc sk sh a1 a2 a3 a4 a5 a6 a7 a8) k_747 k_1041 k_745 k_746 k_98 pl_X9_clockOn ⟨Nat.le_of_ble_eq_true rfl, Nat.le_of_ble_eq_true rfl⟩ rfl rfl (va_recv hK hP (ci := 9) (q0 := 3) rfl rfl) hP hD hS [3] [0, 1, 2, 4, 5] rfl rfl rfl rfl rfl (by decide) rfl hl.1 rfl (Nat.le_of_ble_eq_true rfl) dX11_count_136 ⟨Nat.le_of_ble_eq_true rfl, Nat.le_of_ble_eq_true rfl⟩ (fun v_14 u_15 H locs hv_16 hP hD hS => ?_)
                obtain rfl : v_14 = some (.int 0) := hv_16
                refine W.eq (g2 := F0 m 139 ls [.int 0]) rfl ?_
                have hP : va_P D classes [(h0, .inr (11, [.ref ta, .ref br, .ref rr, .ref ru, .int 0, .ref sc, .ref sh, .ref pa, .ref im, .ref ou, .ref ch, .ref iq])), (sc, .inr (8, [.ref sh, .ref f0, .ref g0, .int (-1), .int 0])), (g0, .inr (3, [.ref g1, .ref g2, .ref g3, .int 0])), (pa, .inr (5, [.ref b1, .int 0, .int 0])), (ta, .inr (10, [.ref t1, .int 0, .int 0, .int 0, .int (-1), .int 0])), (sh, .inr (9, [.int 0, .int 0, .int 0, .int 0, .int 0, .int 0, .ref a1, .ref a2, .ref a3, .ref a4, .ref a5, .ref a6, .ref a7, .ref a8]))] H := hP
                have hD : va_D A [(h0, .inr (11, [.ref ta, .ref br, .ref rr, .ref ru, .int 0, .ref sc, .ref sh, .ref pa, .ref im, .ref ou, .ref ch, .ref iq])), (sc, .inr (8, [.ref sh, .ref f0, .ref g0, .int (-1), .int 0])), (g0, .inr (3, [.ref g1, .ref g2, .ref g3, .int 0])), (pa, .inr (5, [.ref b1, .int 0, .int 0])), (ta, .inr (10, [.ref t1, .int 0, .int 0, .int 0, .int (-1), .int 0])), (sh, .inr (9, [.int 0, .int 0, .int 0, .int 0, .int 0, .int 0, .ref a1, .ref a2, .ref a3, .ref a4, .ref a5, .ref a6, .ref a7, .ref a8]))] := hD
                have hp_17 : cntF 6 = 0 := by decide
                exact retI (v := 0) hx hb hr hlk (rfl) hP hD hS () (by rw [hp_17]) [] rfl rfl dX11_count_139 (Nat.le_of_ble_eq_true rfl) (Nat.le_of_ble_eq_true rfl) rfl
              · skip
                by_cases c_18 : x1 = 7
                · skip
                  subst c_18
                  refine lv_tableIn (off := 139) (tgt := 140) hx hb dX11_count_1 (by decide) (by decide) (by decide) (by decide) ?_
                  refine lv_aload_n hx hb dX11_count_140 rfl (lv_at hl 0 rfl) ?_
                  refine gf_X11_51 hx hb hts hown hK hP 0 rfl rfl dX11_count_141 ?_
                  refine gf_X11_193 hx hb hts hown hK hP 3 rfl rfl dX11_count_144 ?_
                  have hp_19 : cntF 7 = 0 := by decide
                  exact retI (v := 0) hx hb hr hlk (rfl) hP hD hS () (by rw [hp_19]) [] rfl rfl dX11_count_147 (Nat.le_of_ble_eq_true rfl) (Nat.le_of_ble_eq_true rfl) rfl
                · skip
                  by_cases c_20 : x1 = 8
                  · skip
                    subst c_20
                    refine lv_tableIn (off := 147) (tgt := 148) hx hb dX11_count_1 (by decide) (by decide) (by decide) (by decide) ?_
                    refine lv_aload_n hx hb dX11_count_148 rfl (lv_at hl 0 rfl) ?_
                    refine gf_X11_51 hx hb hts hown hK hP 0 rfl rfl dX11_count_149 ?_
                    refine lv_aload_n hx hb dX11_count_152 rfl (lv_at hl 0 rfl) ?_
                    refine gf_X11_51 hx hb hts hown hK hP 0 rfl rfl dX11_count_153 ?_
                    refine gf_X11_179 hx hb hts hown hK hP 3 rfl rfl dX11_count_156 ?_
                    refine cV (a := sh) (As := [.int 0]) (rest := []) (wr := [(h0, .inr (11, [.ref ta, .ref br, .ref rr, .ref ru, .int 0, .ref sc, .ref sh, .ref pa, .ref im, .ref ou, .ref ch, .ref iq])), (sc, .inr (8, [.ref sh, .ref f0, .ref g0, .int (-1), .int 0])), (g0, .inr (3, [.ref g1, .ref g2, .ref g3, .int 0])), (pa, .inr (5, [.ref b1, .int 0, .int 0])), (ta, .inr (10, [.ref t1, .int 0, .int 0, .int 0, .int (-1), .int 0]))]) ⟨hx, hb, hml, hown, hts⟩ hK hX hA (ct_X9_stillOn l D tc sk sh a1 a2 a3 a4 a5 a6 a7 a8) k_743 k_1042 k_741 k_742 k_98 pl_X9_stillOn ⟨Nat.le_of_ble_eq_true rfl, Nat.le_of_ble_eq_true rfl⟩ rfl rfl (va_recv hK hP (ci := 9) (q0 := 3) rfl rfl) hP hD hS [3] [0, 1, 2, 4, 5] rfl rfl rfl rfl rfl (by decide) rfl hl.1 rfl (Nat.le_of_ble_eq_true rfl) dX11_count_159 ⟨Nat.le_of_ble_eq_true rfl, Nat.le_of_ble_eq_true rfl⟩ (fun v_21 u_22 H locs hv_23 hP hD hS => ?_)
                    obtain rfl : v_21 = some (.int 0) := hv_23
                    refine W.eq (g2 := F0 m 162 ls [.int 0]) rfl ?_
                    have hP : va_P D classes [(h0, .inr (11, [.ref ta, .ref br, .ref rr, .ref ru, .int 0, .ref sc, .ref sh, .ref pa, .ref im, .ref ou, .ref ch, .ref iq])), (sc, .inr (8, [.ref sh, .ref f0, .ref g0, .int (-1), .int 0])), (g0, .inr (3, [.ref g1, .ref g2, .ref g3, .int 0])), (pa, .inr (5, [.ref b1, .int 0, .int 0])), (ta, .inr (10, [.ref t1, .int 0, .int 0, .int 0, .int (-1), .int 0])), (sh, .inr (9, [.int 0, .int 0, .int 0, .int 0, .int 0, .int 0, .ref a1, .ref a2, .ref a3, .ref a4, .ref a5, .ref a6, .ref a7, .ref a8]))] H := hP
                    have hD : va_D A [(h0, .inr (11, [.ref ta, .ref br, .ref rr, .ref ru, .int 0, .ref sc, .ref sh, .ref pa, .ref im, .ref ou, .ref ch, .ref iq])), (sc, .inr (8, [.ref sh, .ref f0, .ref g0, .int (-1), .int 0])), (g0, .inr (3, [.ref g1, .ref g2, .ref g3, .int 0])), (pa, .inr (5, [.ref b1, .int 0, .int 0])), (ta, .inr (10, [.ref t1, .int 0, .int 0, .int 0, .int (-1), .int 0])), (sh, .inr (9, [.int 0, .int 0, .int 0, .int 0, .int 0, .int 0, .ref a1, .ref a2, .ref a3, .ref a4, .ref a5, .ref a6, .ref a7, .ref a8]))] := hD
                    have hp_24 : cntF 8 = 0 := by decide
                    exact retI (v := 0) hx hb hr hlk (rfl) hP hD hS () (by rw [hp_24]) [] rfl rfl dX11_count_162 (Nat.le_of_ble_eq_true rfl) (Nat.le_of_ble_eq_true rfl) rfl
                  · skip
                    by_cases c_25 : x1 = 9
                    · skip
                      subst c_25
                      refine lv_tableIn (off := 162) (tgt := 163) hx hb dX11_count_1 (by decide) (by decide) (by decide) (by decide) ?_
                      refine lv_aload_n hx hb dX11_count_163 rfl (lv_at hl 0 rfl) ?_
                      refine gf_X11_51 hx hb hts hown hK hP 0 rfl rfl dX11_count_164 ?_
                      refine gf_X11_294 hx hb hts hown hK hP 3 rfl rfl dX11_count_167 ?_
                      have hp_26 : cntF 9 = 0 := by decide
                      exact retI (v := 0) hx hb hr hlk (rfl) hP hD hS () (by rw [hp_26]) [] rfl rfl dX11_count_170 (Nat.le_of_ble_eq_true rfl) (Nat.le_of_ble_eq_true rfl) rfl
                    · skip
                      by_cases c_27 : x1 = 10
                      · skip
                        subst c_27
                        refine lv_tableIn (off := 170) (tgt := 171) hx hb dX11_count_1 (by decide) (by decide) (by decide) (by decide) ?_
                        refine lv_aload_n hx hb dX11_count_171 rfl (lv_at hl 0 rfl) ?_
                        refine gf_X11_51 hx hb hts hown hK hP 0 rfl rfl dX11_count_172 ?_
                        refine cV (a := sh) (As := []) (rest := []) (wr := [(h0, .inr (11, [.ref ta, .ref br, .ref rr, .ref ru, .int 0, .ref sc, .ref sh, .ref pa, .ref im, .ref ou, .ref ch, .ref iq])), (sc, .inr (8, [.ref sh, .ref f0, .ref g0, .int (-1), .int 0])), (g0, .inr (3, [.ref g1, .ref g2, .ref g3, .int 0])), (pa, .inr (5, [.ref b1, .int 0, .int 0])), (ta, .inr (10, [.ref t1, .int 0, .int 0, .int 0, .int (-1), .int 0]))]) ⟨hx, hb, hml, hown, hts⟩ hK hX hA (ct_X9_timesMet l D tc sk sh a1 a2 a3 a4 a5 a6 a7 a8) k_1046 k_1043 k_1044 k_1045 k_98 pl_X9_timesMet ⟨Nat.le_of_ble_eq_true rfl, Nat.le_of_ble_eq_true rfl⟩ rfl rfl (va_recv hK hP (ci := 9) (q0 := 3) rfl rfl) hP hD hS [3] [0, 1, 2, 4, 5] rfl rfl rfl rfl rfl (by decide) rfl hl.1 rfl (Nat.le_of_ble_eq_true rfl) dX11_count_175 ⟨Nat.le_of_ble_eq_true rfl, Nat.le_of_ble_eq_true rfl⟩ (fun v_28 u_29 H locs hv_30 hP hD hS => ?_)
                        obtain rfl : v_28 = some (.int 0) := hv_30
                        refine W.eq (g2 := F0 m 178 ls [.int 0]) rfl ?_
                        have hP : va_P D classes [(h0, .inr (11, [.ref ta, .ref br, .ref rr, .ref ru, .int 0, .ref sc, .ref sh, .ref pa, .ref im, .ref ou, .ref ch, .ref iq])), (sc, .inr (8, [.ref sh, .ref f0, .ref g0, .int (-1), .int 0])), (g0, .inr (3, [.ref g1, .ref g2, .ref g3, .int 0])), (pa, .inr (5, [.ref b1, .int 0, .int 0])), (ta, .inr (10, [.ref t1, .int 0, .int 0, .int 0, .int (-1), .int 0])), (sh, .inr (9, [.int 0, .int 0, .int 0, .int 0, .int 0, .int 0, .ref a1, .ref a2, .ref a3, .ref a4, .ref a5, .ref a6, .ref a7, .ref a8]))] H := hP
                        have hD : va_D A [(h0, .inr (11, [.ref ta, .ref br, .ref rr, .ref ru, .int 0, .ref sc, .ref sh, .ref pa, .ref im, .ref ou, .ref ch, .ref iq])), (sc, .inr (8, [.ref sh, .ref f0, .ref g0, .int (-1), .int 0])), (g0, .inr (3, [.ref g1, .ref g2, .ref g3, .int 0])), (pa, .inr (5, [.ref b1, .int 0, .int 0])), (ta, .inr (10, [.ref t1, .int 0, .int 0, .int 0, .int (-1), .int 0])), (sh, .inr (9, [.int 0, .int 0, .int 0, .int 0, .int 0, .int 0, .ref a1, .ref a2, .ref a3, .ref a4, .ref a5, .ref a6, .ref a7, .ref a8]))] := hD
                        have hp_31 : cntF 10 = 0 := by decide
                        exact retI (v := 0) hx hb hr hlk (rfl) hP hD hS () (by rw [hp_31]) [] rfl rfl dX11_count_178 (Nat.le_of_ble_eq_true rfl) (Nat.le_of_ble_eq_true rfl) rfl
                      · skip
                        by_cases c_32 : x1 = 11
                        · skip
                          subst c_32
                          refine lv_tableIn (off := 178) (tgt := 179) hx hb dX11_count_1 (by decide) (by decide) (by decide) (by decide) ?_
                          refine lv_aload_n hx hb dX11_count_179 rfl (lv_at hl 0 rfl) ?_
                          refine gf_X11_51 hx hb hts hown hK hP 0 rfl rfl dX11_count_180 ?_
                          refine cV (a := sh) (As := []) (rest := []) (wr := [(h0, .inr (11, [.ref ta, .ref br, .ref rr, .ref ru, .int 0, .ref sc, .ref sh, .ref pa, .ref im, .ref ou, .ref ch, .ref iq])), (sc, .inr (8, [.ref sh, .ref f0, .ref g0, .int (-1), .int 0])), (g0, .inr (3, [.ref g1, .ref g2, .ref g3, .int 0])), (pa, .inr (5, [.ref b1, .int 0, .int 0])), (ta, .inr (10, [.ref t1, .int 0, .int 0, .int 0, .int (-1), .int 0]))]) ⟨hx, hb, hml, hown, hts⟩ hK hX hA (ct_X9_whoCanBuy l D tc sk sh a1 a2 a3 a4 a5 a6 a7 a8) k_1050 k_1047 k_1048 k_1049 k_98 pl_X9_whoCanBuy ⟨Nat.le_of_ble_eq_true rfl, Nat.le_of_ble_eq_true rfl⟩ rfl rfl (va_recv hK hP (ci := 9) (q0 := 3) rfl rfl) hP hD hS [3] [0, 1, 2, 4, 5] rfl rfl rfl rfl rfl (by decide) rfl hl.1 rfl (Nat.le_of_ble_eq_true rfl) dX11_count_183 ⟨Nat.le_of_ble_eq_true rfl, Nat.le_of_ble_eq_true rfl⟩ (fun v_33 u_34 H locs hv_35 hP hD hS => ?_)
                          obtain rfl : v_33 = some (.int 0) := hv_35
                          refine W.eq (g2 := F0 m 186 ls [.int 0]) rfl ?_
                          have hP : va_P D classes [(h0, .inr (11, [.ref ta, .ref br, .ref rr, .ref ru, .int 0, .ref sc, .ref sh, .ref pa, .ref im, .ref ou, .ref ch, .ref iq])), (sc, .inr (8, [.ref sh, .ref f0, .ref g0, .int (-1), .int 0])), (g0, .inr (3, [.ref g1, .ref g2, .ref g3, .int 0])), (pa, .inr (5, [.ref b1, .int 0, .int 0])), (ta, .inr (10, [.ref t1, .int 0, .int 0, .int 0, .int (-1), .int 0])), (sh, .inr (9, [.int 0, .int 0, .int 0, .int 0, .int 0, .int 0, .ref a1, .ref a2, .ref a3, .ref a4, .ref a5, .ref a6, .ref a7, .ref a8]))] H := hP
                          have hD : va_D A [(h0, .inr (11, [.ref ta, .ref br, .ref rr, .ref ru, .int 0, .ref sc, .ref sh, .ref pa, .ref im, .ref ou, .ref ch, .ref iq])), (sc, .inr (8, [.ref sh, .ref f0, .ref g0, .int (-1), .int 0])), (g0, .inr (3, [.ref g1, .ref g2, .ref g3, .int 0])), (pa, .inr (5, [.ref b1, .int 0, .int 0])), (ta, .inr (10, [.ref t1, .int 0, .int 0, .int 0, .int (-1), .int 0])), (sh, .inr (9, [.int 0, .int 0, .int 0, .int 0, .int 0, .int 0, .ref a1, .ref a2, .ref a3, .ref a4, .ref a5, .ref a6, .ref a7, .ref a8]))] := hD
                          have hp_36 : cntF 11 = 0 := by decide
                          exact retI (v := 0) hx hb hr hlk (rfl) hP hD hS () (by rw [hp_36]) [] rfl rfl dX11_count_186 (Nat.le_of_ble_eq_true rfl) (Nat.le_of_ble_eq_true rfl) rfl
                        · skip
                          by_cases c_37 : x1 = 12
                          · skip
                            subst c_37
                            refine lv_tableIn (off := 186) (tgt := 187) hx hb dX11_count_1 (by decide) (by decide) (by decide) (by decide) ?_
                            refine lv_aload_n hx hb dX11_count_187 rfl (lv_at hl 0 rfl) ?_
                            refine gf_X11_43 hx hb hts hown hK hP 0 rfl rfl dX11_count_188 ?_
                            refine gf_X11_111 hx hb hts hown hK hP 1 rfl rfl dX11_count_191 ?_
                            refine gf_X11_115 hx hb hts hown hK hP 2 rfl rfl dX11_count_194 ?_
                            have hp_38 : cntF 12 = 0 := by decide
                            exact retI (v := 0) hx hb hr hlk (rfl) hP hD hS () (by rw [hp_38]) [] rfl rfl dX11_count_197 (Nat.le_of_ble_eq_true rfl) (Nat.le_of_ble_eq_true rfl) rfl
                          · skip
                            by_cases c_39 : x1 = 13
                            · skip
                              subst c_39
                              refine lv_tableIn (off := 197) (tgt := 198) hx hb dX11_count_1 (by decide) (by decide) (by decide) (by decide) ?_
                              refine lv_aload_n hx hb dX11_count_198 rfl (lv_at hl 0 rfl) ?_
                              refine gf_X11_57 hx hb hts hown hK hP 0 rfl rfl dX11_count_199 ?_
                              refine gf_X11_120 hx hb hts hown hK hP 4 rfl rfl dX11_count_202 ?_
                              have hp_40 : cntF 13 = 0 := by decide
                              exact retI (v := 0) hx hb hr hlk (rfl) hP hD hS () (by rw [hp_40]) [] rfl rfl dX11_count_205 (Nat.le_of_ble_eq_true rfl) (Nat.le_of_ble_eq_true rfl) rfl
                            · skip
                              by_cases c_41 : x1 = 14
                              · skip
                                subst c_41
                                refine lv_tableIn (off := 205) (tgt := 206) hx hb dX11_count_1 (by decide) (by decide) (by decide) (by decide) ?_
                                refine lv_aload_n hx hb dX11_count_206 rfl (lv_at hl 0 rfl) ?_
                                refine gf_X11_43 hx hb hts hown hK hP 0 rfl rfl dX11_count_207 ?_
                                refine gf_X11_272 hx hb hts hown hK hP 1 rfl rfl dX11_count_210 ?_
                                have hp_42 : cntF 14 = 0 := by decide
                                exact retI (v := 0) hx hb hr hlk (rfl) hP hD hS () (by rw [hp_42]) [] rfl rfl dX11_count_213 (Nat.le_of_ble_eq_true rfl) (Nat.le_of_ble_eq_true rfl) rfl
                              · skip
                                by_cases c_43 : x1 = 15
                                · skip
                                  subst c_43
                                  refine lv_tableIn (off := 213) (tgt := 214) hx hb dX11_count_1 (by decide) (by decide) (by decide) (by decide) ?_
                                  refine lv_aload_n hx hb dX11_count_214 rfl (lv_at hl 0 rfl) ?_
                                  refine gf_X11_10 hx hb hts hown hK hP 0 rfl rfl dX11_count_215 ?_
                                  refine gf_X11_94 hx hb hts hown hK hP 5 rfl rfl dX11_count_218 ?_
                                  have hp_44 : cntF 15 = 0 := by decide
                                  exact retI (v := 0) hx hb hr hlk (rfl) hP hD hS () (by rw [hp_44]) [] rfl rfl dX11_count_221 (Nat.le_of_ble_eq_true rfl) (Nat.le_of_ble_eq_true rfl) rfl
                                · skip
                                  have ho_45 : (x1 : Int32).toInt < 0 ∨ 15 < (x1 : Int32).toInt := by
                                    have z_1 : ¬ (x1 : Int32).toInt = (0 : Int32).toInt := fun z => c_1 (Int32.toInt_inj.mp z)
                                    have z_2 : ¬ (x1 : Int32).toInt = (1 : Int32).toInt := fun z => c_3 (Int32.toInt_inj.mp z)
                                    have z_3 : ¬ (x1 : Int32).toInt = (2 : Int32).toInt := fun z => c_5 (Int32.toInt_inj.mp z)
                                    have z_4 : ¬ (x1 : Int32).toInt = (3 : Int32).toInt := fun z => c_7 (Int32.toInt_inj.mp z)
                                    have z_5 : ¬ (x1 : Int32).toInt = (4 : Int32).toInt := fun z => c_9 (Int32.toInt_inj.mp z)
                                    have z_6 : ¬ (x1 : Int32).toInt = (5 : Int32).toInt := fun z => c_11 (Int32.toInt_inj.mp z)
                                    have z_7 : ¬ (x1 : Int32).toInt = (6 : Int32).toInt := fun z => c_13 (Int32.toInt_inj.mp z)
                                    have z_8 : ¬ (x1 : Int32).toInt = (7 : Int32).toInt := fun z => c_18 (Int32.toInt_inj.mp z)
                                    have z_9 : ¬ (x1 : Int32).toInt = (8 : Int32).toInt := fun z => c_20 (Int32.toInt_inj.mp z)
                                    have z_10 : ¬ (x1 : Int32).toInt = (9 : Int32).toInt := fun z => c_25 (Int32.toInt_inj.mp z)
                                    have z_11 : ¬ (x1 : Int32).toInt = (10 : Int32).toInt := fun z => c_27 (Int32.toInt_inj.mp z)
                                    have z_12 : ¬ (x1 : Int32).toInt = (11 : Int32).toInt := fun z => c_32 (Int32.toInt_inj.mp z)
                                    have z_13 : ¬ (x1 : Int32).toInt = (12 : Int32).toInt := fun z => c_37 (Int32.toInt_inj.mp z)
                                    have z_14 : ¬ (x1 : Int32).toInt = (13 : Int32).toInt := fun z => c_39 (Int32.toInt_inj.mp z)
                                    have z_15 : ¬ (x1 : Int32).toInt = (14 : Int32).toInt := fun z => c_41 (Int32.toInt_inj.mp z)
                                    have z_16 : ¬ (x1 : Int32).toInt = (15 : Int32).toInt := fun z => c_43 (Int32.toInt_inj.mp z)
                                    have y_0 : (0 : Int32).toInt = 0 := by decide
                                    have y_1 : (1 : Int32).toInt = 1 := by decide
                                    have y_2 : (2 : Int32).toInt = 2 := by decide
                                    have y_3 : (3 : Int32).toInt = 3 := by decide
                                    have y_4 : (4 : Int32).toInt = 4 := by decide
                                    have y_5 : (5 : Int32).toInt = 5 := by decide
                                    have y_6 : (6 : Int32).toInt = 6 := by decide
                                    have y_7 : (7 : Int32).toInt = 7 := by decide
                                    have y_8 : (8 : Int32).toInt = 8 := by decide
                                    have y_9 : (9 : Int32).toInt = 9 := by decide
                                    have y_10 : (10 : Int32).toInt = 10 := by decide
                                    have y_11 : (11 : Int32).toInt = 11 := by decide
                                    have y_12 : (12 : Int32).toInt = 12 := by decide
                                    have y_13 : (13 : Int32).toInt = 13 := by decide
                                    have y_14 : (14 : Int32).toInt = 14 := by decide
                                    have y_15 : (15 : Int32).toInt = 15 := by decide
                                    omega
                                  refine lv_tableOut (tgt := 222) hx hb dX11_count_1 ho_45 (by decide) ?_
                                  refine lv_iconst (v := (-1)) hx hb dX11_count_222 (by decide) ?_
                                  have hp_46 : cntF x1 = (-1) := by simp [cntF, c_1, c_3, c_5, c_7, c_9, c_11, c_13, c_18, c_20, c_25, c_27, c_32, c_37, c_39, c_41, c_43]
                                  exact retI (v := (-1)) hx hb hr hlk (rfl) hP hD hS () (by rw [hp_46]) [] rfl rfl dX11_count_223 (Nat.le_of_ble_eq_true rfl) (Nat.le_of_ble_eq_true rfl) rfl
set_option maxHeartbeats 4000000 in
set_option maxRecDepth 100000 in
theorem ct_X11_back (l : Launch) (D : va_G) (tc : Nat → ClassId) (sk : (Nat → Nat) × (Nat → Nat)) (h0 : Nat) (ta : Nat) (br : Nat) (rr : Nat) (ru : Nat) (sc : Nat) (sh : Nat) (pa : Nat) (im : Nat) (ou : Nat) (ch : Nat) (iq : Nat) (x1 : Int32)  : Ct l yX11_back cX11_back 3 (some .int) { frames := 0, cells := 0, slots := 0, locals := 0 } D tc sk [.ref h0, .int x1] [(h0, .inr (11, [.ref ta, .ref br, .ref rr, .ref ru, .int 0, .ref sc, .ref sh, .ref pa, .ref im, .ref ou, .ref ch, .ref iq])), (im, .inl (tc 6, 4, .inr (.inr (.inr (.inr (fun _ => none))))))] (fun (v : Option Value) (_ : Unit) => v = some (.int (-1))) (fun (_ : Unit) => []) 0 0 := by
  refine Ct.start (by decide) (Nat.le_of_ble_eq_true rfl) (fun p e s m below meth c A ls hx hb hr hlk hin hml hown hts hK hX hP hD hA hl hS => ?_)
  have hl : lv_has ls 3 [(0, .ref h0), (1, .int x1)] := hl
  refine lv_iload_n hx hb dX11_back_0 rfl (lv_at hl 1 rfl) ?_
  refine lv_if_lt (tgt := 13) hx hb dX11_back_1 (by decide) (fun c_1 => ?_) (fun c_1 => ?_)
  · skip
    refine lv_iconst (v := (-1)) hx hb dX11_back_13 (by decide) ?_
    exact retI (v := (-1)) hx hb hr hlk (rfl) hP hD hS () rfl [] rfl rfl dX11_back_14 (Nat.le_of_ble_eq_true rfl) (Nat.le_of_ble_eq_true rfl) rfl
  · skip
    refine lv_iload_n hx hb dX11_back_4 rfl (lv_at hl 1 rfl) ?_
    refine lv_aload_n hx hb dX11_back_5 rfl (lv_at hl 0 rfl) ?_
    refine gf_X11_61 hx hb hts hown hK hP 0 rfl rfl dX11_back_6 ?_
    refine va_alen hx hb hK hP 1 6 rfl rfl (v := 4) (by decide) dX11_back_9 ?_
    refine lv_icmp_lt (tgt := 15) hx hb dX11_back_10 (by decide) (fun c_2 => ?_) (fun c_2 => ?_)
    · skip
      refine lv_aload_n hx hb dX11_back_15 rfl (lv_at hl 0 rfl) ?_
      refine gf_X11_61 hx hb hts hown hK hP 0 rfl rfl dX11_back_16 ?_
      refine lv_iload_n hx hb dX11_back_19 rfl (lv_at hl 1 rfl) ?_
      have hi_3 : vp_in x1 4 := by
        have z_1 := Int32.le_iff_toInt_le.mp (Int32.not_lt.mp c_1)
        have z_2 := Int32.lt_iff_toInt_lt.mp c_2
        have y_0 : (0 : Int32).toInt = 0 := by decide
        have y_4 : (4 : Int32).toInt = 4 := by decide
        refine vp_in_iff.mpr ⟨?_, ?_⟩ <;> omega
      refine va_aldq hx hb hK hP 1 6 rfl rfl hi_3 dX11_back_20 ?_
      refine lv_val (v := .null) rfl ?_
      refine lv_astore_nN (lv' := [(2, .null), (0, .ref h0), (1, .int x1)]) hx hb dX11_back_21 rfl hl (by decide) rfl (fun ls hl => ?_)
      refine lv_aload_nN hx hb dX11_back_22 rfl (lv_at hl 0 rfl) ?_
      refine lv_ifnonnullN hx hb dX11_back_23 ?_
      refine lv_iconst (v := (-1)) hx hb dX11_back_26 (by decide) ?_
      exact retI (v := (-1)) hx hb hr hlk (rfl) hP hD hS () rfl [] rfl rfl dX11_back_27 (Nat.le_of_ble_eq_true rfl) (Nat.le_of_ble_eq_true rfl) rfl
    · skip
      refine lv_iconst (v := (-1)) hx hb dX11_back_13 (by decide) ?_
      exact retI (v := (-1)) hx hb hr hlk (rfl) hP hD hS () rfl [] rfl rfl dX11_back_14 (Nat.le_of_ble_eq_true rfl) (Nat.le_of_ble_eq_true rfl) rfl
