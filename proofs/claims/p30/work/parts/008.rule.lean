set_option maxRecDepth 16384
theorem dX6_holds_0 : decode cX6_holds 0 = .ok (.iload_n 0, 1) := by decide +kernel
theorem dX6_holds_1 : decode cX6_holds 1 = .ok (.tableswitch 139 (-11) (-5) #[127, 115, 103, 91, 79, 61, 43], 43) := by decide +kernel
theorem dX6_holds_44 : decode cX6_holds 44 = .ok (.lload_n 1, 1) := by decide +kernel
theorem dX6_holds_45 : decode cX6_holds 45 = .ok (.lconst 0, 1) := by decide +kernel
theorem dX6_holds_46 : decode cX6_holds 46 = .ok (.lcmp, 1) := by decide +kernel
theorem dX6_holds_47 : decode cX6_holds 47 = .ok (.ifCond .eq 13, 3) := by decide +kernel
theorem dX6_holds_50 : decode cX6_holds 50 = .ok (.lload_n 3, 1) := by decide +kernel
theorem dX6_holds_51 : decode cX6_holds 51 = .ok (.lconst 0, 1) := by decide +kernel
theorem dX6_holds_52 : decode cX6_holds 52 = .ok (.lcmp, 1) := by decide +kernel
theorem dX6_holds_53 : decode cX6_holds 53 = .ok (.ifCond .eq 7, 3) := by decide +kernel
theorem dX6_holds_56 : decode cX6_holds 56 = .ok (.iconst 1, 1) := by decide +kernel
theorem dX6_holds_57 : decode cX6_holds 57 = .ok (.goto 4, 3) := by decide +kernel
theorem dX6_holds_60 : decode cX6_holds 60 = .ok (.iconst 0, 1) := by decide +kernel
theorem dX6_holds_61 : decode cX6_holds 61 = .ok (.ireturn, 1) := by decide +kernel
theorem dX6_holds_62 : decode cX6_holds 62 = .ok (.lload_n 1, 1) := by decide +kernel
theorem dX6_holds_63 : decode cX6_holds 63 = .ok (.lconst 0, 1) := by decide +kernel
theorem dX6_holds_64 : decode cX6_holds 64 = .ok (.lcmp, 1) := by decide +kernel
theorem dX6_holds_65 : decode cX6_holds 65 = .ok (.ifCond .ne 9, 3) := by decide +kernel
theorem dX6_holds_68 : decode cX6_holds 68 = .ok (.lload_n 3, 1) := by decide +kernel
theorem dX6_holds_69 : decode cX6_holds 69 = .ok (.lconst 0, 1) := by decide +kernel
theorem dX6_holds_70 : decode cX6_holds 70 = .ok (.lcmp, 1) := by decide +kernel
theorem dX6_holds_71 : decode cX6_holds 71 = .ok (.ifCond .eq 7, 3) := by decide +kernel
theorem dX6_holds_74 : decode cX6_holds 74 = .ok (.iconst 1, 1) := by decide +kernel
theorem dX6_holds_75 : decode cX6_holds 75 = .ok (.goto 4, 3) := by decide +kernel
theorem dX6_holds_78 : decode cX6_holds 78 = .ok (.iconst 0, 1) := by decide +kernel
theorem dX6_holds_79 : decode cX6_holds 79 = .ok (.ireturn, 1) := by decide +kernel
theorem dX6_holds_80 : decode cX6_holds 80 = .ok (.lload_n 1, 1) := by decide +kernel
theorem dX6_holds_81 : decode cX6_holds 81 = .ok (.lload_n 3, 1) := by decide +kernel
theorem dX6_holds_82 : decode cX6_holds 82 = .ok (.lcmp, 1) := by decide +kernel
theorem dX6_holds_83 : decode cX6_holds 83 = .ok (.ifCond .ge 7, 3) := by decide +kernel
theorem dX6_holds_86 : decode cX6_holds 86 = .ok (.iconst 1, 1) := by decide +kernel
theorem dX6_holds_87 : decode cX6_holds 87 = .ok (.goto 4, 3) := by decide +kernel
theorem dX6_holds_90 : decode cX6_holds 90 = .ok (.iconst 0, 1) := by decide +kernel
theorem dX6_holds_91 : decode cX6_holds 91 = .ok (.ireturn, 1) := by decide +kernel
theorem dX6_holds_92 : decode cX6_holds 92 = .ok (.lload_n 1, 1) := by decide +kernel
theorem dX6_holds_93 : decode cX6_holds 93 = .ok (.lload_n 3, 1) := by decide +kernel
theorem dX6_holds_94 : decode cX6_holds 94 = .ok (.lcmp, 1) := by decide +kernel
theorem dX6_holds_95 : decode cX6_holds 95 = .ok (.ifCond .gt 7, 3) := by decide +kernel
theorem dX6_holds_98 : decode cX6_holds 98 = .ok (.iconst 1, 1) := by decide +kernel
theorem dX6_holds_99 : decode cX6_holds 99 = .ok (.goto 4, 3) := by decide +kernel
theorem dX6_holds_102 : decode cX6_holds 102 = .ok (.iconst 0, 1) := by decide +kernel
theorem dX6_holds_103 : decode cX6_holds 103 = .ok (.ireturn, 1) := by decide +kernel
theorem dX6_holds_104 : decode cX6_holds 104 = .ok (.lload_n 1, 1) := by decide +kernel
theorem dX6_holds_105 : decode cX6_holds 105 = .ok (.lload_n 3, 1) := by decide +kernel
theorem dX6_holds_106 : decode cX6_holds 106 = .ok (.lcmp, 1) := by decide +kernel
theorem dX6_holds_107 : decode cX6_holds 107 = .ok (.ifCond .ne 7, 3) := by decide +kernel
theorem dX6_holds_110 : decode cX6_holds 110 = .ok (.iconst 1, 1) := by decide +kernel
theorem dX6_holds_111 : decode cX6_holds 111 = .ok (.goto 4, 3) := by decide +kernel
theorem dX6_holds_114 : decode cX6_holds 114 = .ok (.iconst 0, 1) := by decide +kernel
theorem dX6_holds_115 : decode cX6_holds 115 = .ok (.ireturn, 1) := by decide +kernel
theorem dX6_holds_116 : decode cX6_holds 116 = .ok (.lload_n 1, 1) := by decide +kernel
theorem dX6_holds_117 : decode cX6_holds 117 = .ok (.lload_n 3, 1) := by decide +kernel
theorem dX6_holds_118 : decode cX6_holds 118 = .ok (.lcmp, 1) := by decide +kernel
theorem dX6_holds_119 : decode cX6_holds 119 = .ok (.ifCond .lt 7, 3) := by decide +kernel
theorem dX6_holds_122 : decode cX6_holds 122 = .ok (.iconst 1, 1) := by decide +kernel
theorem dX6_holds_123 : decode cX6_holds 123 = .ok (.goto 4, 3) := by decide +kernel
theorem dX6_holds_126 : decode cX6_holds 126 = .ok (.iconst 0, 1) := by decide +kernel
theorem dX6_holds_127 : decode cX6_holds 127 = .ok (.ireturn, 1) := by decide +kernel
theorem dX6_holds_128 : decode cX6_holds 128 = .ok (.lload_n 1, 1) := by decide +kernel
theorem dX6_holds_129 : decode cX6_holds 129 = .ok (.lload_n 3, 1) := by decide +kernel
theorem dX6_holds_130 : decode cX6_holds 130 = .ok (.lcmp, 1) := by decide +kernel
theorem dX6_holds_131 : decode cX6_holds 131 = .ok (.ifCond .le 7, 3) := by decide +kernel
theorem dX6_holds_134 : decode cX6_holds 134 = .ok (.iconst 1, 1) := by decide +kernel
theorem dX6_holds_135 : decode cX6_holds 135 = .ok (.goto 4, 3) := by decide +kernel
theorem dX6_holds_138 : decode cX6_holds 138 = .ok (.iconst 0, 1) := by decide +kernel
theorem dX6_holds_139 : decode cX6_holds 139 = .ok (.ireturn, 1) := by decide +kernel
theorem dX6_holds_140 : decode cX6_holds 140 = .ok (.iconst 0, 1) := by decide +kernel
theorem dX6_holds_141 : decode cX6_holds 141 = .ok (.ireturn, 1) := by decide +kernel
theorem dX6_joined_0 : decode cX6_joined 0 = .ok (.iload_n 0, 1) := by decide +kernel
theorem dX6_joined_1 : decode cX6_joined 1 = .ok (.tableswitch 75 (-16) (-12) #[61, 47, 43, 39, 35], 35) := by decide +kernel
theorem dX6_joined_36 : decode cX6_joined 36 = .ok (.lload_n 1, 1) := by decide +kernel
theorem dX6_joined_37 : decode cX6_joined 37 = .ok (.lload_n 3, 1) := by decide +kernel
theorem dX6_joined_38 : decode cX6_joined 38 = .ok (.ladd, 1) := by decide +kernel
theorem dX6_joined_39 : decode cX6_joined 39 = .ok (.lreturn, 1) := by decide +kernel
theorem dX6_joined_40 : decode cX6_joined 40 = .ok (.lload_n 1, 1) := by decide +kernel
theorem dX6_joined_41 : decode cX6_joined 41 = .ok (.lload_n 3, 1) := by decide +kernel
theorem dX6_joined_42 : decode cX6_joined 42 = .ok (.lsub, 1) := by decide +kernel
theorem dX6_joined_43 : decode cX6_joined 43 = .ok (.lreturn, 1) := by decide +kernel
theorem dX6_joined_44 : decode cX6_joined 44 = .ok (.lload_n 1, 1) := by decide +kernel
theorem dX6_joined_45 : decode cX6_joined 45 = .ok (.lload_n 3, 1) := by decide +kernel
theorem dX6_joined_46 : decode cX6_joined 46 = .ok (.lmul, 1) := by decide +kernel
theorem dX6_joined_47 : decode cX6_joined 47 = .ok (.lreturn, 1) := by decide +kernel
theorem dX6_joined_48 : decode cX6_joined 48 = .ok (.lload_n 3, 1) := by decide +kernel
theorem dX6_joined_49 : decode cX6_joined 49 = .ok (.lconst 0, 1) := by decide +kernel
theorem dX6_joined_50 : decode cX6_joined 50 = .ok (.lcmp, 1) := by decide +kernel
theorem dX6_joined_51 : decode cX6_joined 51 = .ok (.ifCond .ne 7, 3) := by decide +kernel
theorem dX6_joined_54 : decode cX6_joined 54 = .ok (.lconst 0, 1) := by decide +kernel
theorem dX6_joined_55 : decode cX6_joined 55 = .ok (.goto 6, 3) := by decide +kernel
theorem dX6_joined_58 : decode cX6_joined 58 = .ok (.lload_n 1, 1) := by decide +kernel
theorem dX6_joined_59 : decode cX6_joined 59 = .ok (.lload_n 3, 1) := by decide +kernel
theorem dX6_joined_60 : decode cX6_joined 60 = .ok (.ldiv, 1) := by decide +kernel
theorem dX6_joined_61 : decode cX6_joined 61 = .ok (.lreturn, 1) := by decide +kernel
theorem dX6_joined_62 : decode cX6_joined 62 = .ok (.lload_n 3, 1) := by decide +kernel
theorem dX6_joined_63 : decode cX6_joined 63 = .ok (.lconst 0, 1) := by decide +kernel
theorem dX6_joined_64 : decode cX6_joined 64 = .ok (.lcmp, 1) := by decide +kernel
theorem dX6_joined_65 : decode cX6_joined 65 = .ok (.ifCond .ne 7, 3) := by decide +kernel
theorem dX6_joined_68 : decode cX6_joined 68 = .ok (.lconst 0, 1) := by decide +kernel
theorem dX6_joined_69 : decode cX6_joined 69 = .ok (.goto 6, 3) := by decide +kernel
theorem dX6_joined_72 : decode cX6_joined 72 = .ok (.lload_n 1, 1) := by decide +kernel
theorem dX6_joined_73 : decode cX6_joined 73 = .ok (.lload_n 3, 1) := by decide +kernel
theorem dX6_joined_74 : decode cX6_joined 74 = .ok (.lrem, 1) := by decide +kernel
theorem dX6_joined_75 : decode cX6_joined 75 = .ok (.lreturn, 1) := by decide +kernel
theorem dX6_joined_76 : decode cX6_joined 76 = .ok (.iload_n 0, 1) := by decide +kernel
theorem dX6_joined_77 : decode cX6_joined 77 = .ok (.lload_n 1, 1) := by decide +kernel
theorem dX6_joined_78 : decode cX6_joined 78 = .ok (.lload_n 3, 1) := by decide +kernel
theorem dX6_joined_79 : decode cX6_joined 79 = .ok (.invokestatic 28, 3) := by decide +kernel
theorem dX6_joined_82 : decode cX6_joined 82 = .ok (.ifCond .eq 7, 3) := by decide +kernel
theorem dX6_joined_85 : decode cX6_joined 85 = .ok (.lconst 1, 1) := by decide +kernel
theorem dX6_joined_86 : decode cX6_joined 86 = .ok (.goto 4, 3) := by decide +kernel
theorem dX6_joined_89 : decode cX6_joined 89 = .ok (.lconst 0, 1) := by decide +kernel
theorem dX6_joined_90 : decode cX6_joined 90 = .ok (.lreturn, 1) := by decide +kernel
theorem dX6_sumFor_0 : decode cX6_sumFor 0 = .ok (.iconst 0, 1) := by decide +kernel
theorem dX6_sumFor_1 : decode cX6_sumFor 1 = .ok (.istore_n 3, 1) := by decide +kernel
theorem dX6_sumFor_2 : decode cX6_sumFor 2 = .ok (.iconst 0, 1) := by decide +kernel
theorem dX6_sumFor_3 : decode cX6_sumFor 3 = .ok (.istore 4, 2) := by decide +kernel
theorem dX6_sumFor_5 : decode cX6_sumFor 5 = .ok (.iload 4, 2) := by decide +kernel
theorem dX6_sumFor_7 : decode cX6_sumFor 7 = .ok (.aload_n 0, 1) := by decide +kernel
theorem dX6_sumFor_8 : decode cX6_sumFor 8 = .ok (.getfield 13, 3) := by decide +kernel
theorem dX6_sumFor_11 : decode cX6_sumFor 11 = .ok (.arraylength, 1) := by decide +kernel
theorem dX6_sumFor_12 : decode cX6_sumFor 12 = .ok (.if_icmp .ge 240, 3) := by decide +kernel
theorem dX6_sumFor_15 : decode cX6_sumFor 15 = .ok (.aload_n 0, 1) := by decide +kernel
theorem dX6_sumFor_16 : decode cX6_sumFor 16 = .ok (.getfield 13, 3) := by decide +kernel
theorem dX6_sumFor_19 : decode cX6_sumFor 19 = .ok (.iload 4, 2) := by decide +kernel
theorem dX6_sumFor_21 : decode cX6_sumFor 21 = .ok (.iaload, 1) := by decide +kernel
theorem dX6_sumFor_22 : decode cX6_sumFor 22 = .ok (.istore 5, 2) := by decide +kernel
theorem dX6_sumFor_24 : decode cX6_sumFor 24 = .ok (.iload 5, 2) := by decide +kernel
theorem dX6_sumFor_26 : decode cX6_sumFor 26 = .ok (.ifCond .lt 53, 3) := by decide +kernel
theorem dX6_sumFor_29 : decode cX6_sumFor 29 = .ok (.iload_n 3, 1) := by decide +kernel
theorem dX6_sumFor_30 : decode cX6_sumFor 30 = .ok (.ifCond .lt 12, 3) := by decide +kernel
theorem dX6_sumFor_33 : decode cX6_sumFor 33 = .ok (.iload_n 3, 1) := by decide +kernel
theorem dX6_sumFor_34 : decode cX6_sumFor 34 = .ok (.aload_n 0, 1) := by decide +kernel
theorem dX6_sumFor_35 : decode cX6_sumFor 35 = .ok (.getfield 9, 3) := by decide +kernel
theorem dX6_sumFor_38 : decode cX6_sumFor 38 = .ok (.arraylength, 1) := by decide +kernel
theorem dX6_sumFor_39 : decode cX6_sumFor 39 = .ok (.if_icmp .lt 5, 3) := by decide +kernel
theorem dX6_sumFor_42 : decode cX6_sumFor 42 = .ok (.lconst 0, 1) := by decide +kernel
theorem dX6_sumFor_43 : decode cX6_sumFor 43 = .ok (.lreturn, 1) := by decide +kernel
theorem dX6_sumFor_44 : decode cX6_sumFor 44 = .ok (.aload_n 0, 1) := by decide +kernel
theorem dX6_sumFor_45 : decode cX6_sumFor 45 = .ok (.getfield 9, 3) := by decide +kernel
theorem dX6_sumFor_48 : decode cX6_sumFor 48 = .ok (.iload_n 3, 1) := by decide +kernel
theorem dX6_sumFor_49 : decode cX6_sumFor 49 = .ok (.iload 5, 2) := by decide +kernel
theorem dX6_sumFor_51 : decode cX6_sumFor 51 = .ok (.ldc 17, 2) := by decide +kernel
theorem dX6_sumFor_53 : decode cX6_sumFor 53 = .ok (.if_icmp .ge 9, 3) := by decide +kernel
theorem dX6_sumFor_56 : decode cX6_sumFor 56 = .ok (.iload 5, 2) := by decide +kernel
theorem dX6_sumFor_58 : decode cX6_sumFor 58 = .ok (.i2l, 1) := by decide +kernel
theorem dX6_sumFor_59 : decode cX6_sumFor 59 = .ok (.goto 13, 3) := by decide +kernel
theorem dX6_sumFor_62 : decode cX6_sumFor 62 = .ok (.aload_n 1, 1) := by decide +kernel
theorem dX6_sumFor_63 : decode cX6_sumFor 63 = .ok (.iload 5, 2) := by decide +kernel
theorem dX6_sumFor_65 : decode cX6_sumFor 65 = .ok (.ldc 17, 2) := by decide +kernel
theorem dX6_sumFor_67 : decode cX6_sumFor 67 = .ok (.isub, 1) := by decide +kernel
theorem dX6_sumFor_68 : decode cX6_sumFor 68 = .ok (.iload_n 2, 1) := by decide +kernel
theorem dX6_sumFor_69 : decode cX6_sumFor 69 = .ok (.invokevirtual 18, 3) := by decide +kernel
theorem dX6_sumFor_72 : decode cX6_sumFor 72 = .ok (.lastore, 1) := by decide +kernel
theorem dX6_sumFor_73 : decode cX6_sumFor 73 = .ok (.iinc 3 1, 3) := by decide +kernel
theorem dX6_sumFor_76 : decode cX6_sumFor 76 = .ok (.goto 170, 3) := by decide +kernel
theorem dX6_sumFor_79 : decode cX6_sumFor 79 = .ok (.iload 5, 2) := by decide +kernel
theorem dX6_sumFor_81 : decode cX6_sumFor 81 = .ok (.bipush (-2), 2) := by decide +kernel
theorem dX6_sumFor_83 : decode cX6_sumFor 83 = .ok (.if_icmp .ne 30, 3) := by decide +kernel
theorem dX6_sumFor_86 : decode cX6_sumFor 86 = .ok (.iload_n 3, 1) := by decide +kernel
theorem dX6_sumFor_87 : decode cX6_sumFor 87 = .ok (.iconst 1, 1) := by decide +kernel
theorem dX6_sumFor_88 : decode cX6_sumFor 88 = .ok (.if_icmp .lt 23, 3) := by decide +kernel
theorem dX6_sumFor_91 : decode cX6_sumFor 91 = .ok (.iload_n 3, 1) := by decide +kernel
theorem dX6_sumFor_92 : decode cX6_sumFor 92 = .ok (.aload_n 0, 1) := by decide +kernel
theorem dX6_sumFor_93 : decode cX6_sumFor 93 = .ok (.getfield 9, 3) := by decide +kernel
theorem dX6_sumFor_96 : decode cX6_sumFor 96 = .ok (.arraylength, 1) := by decide +kernel
theorem dX6_sumFor_97 : decode cX6_sumFor 97 = .ok (.if_icmp .gt 14, 3) := by decide +kernel
theorem dX6_sumFor_100 : decode cX6_sumFor 100 = .ok (.aload_n 0, 1) := by decide +kernel
theorem dX6_sumFor_101 : decode cX6_sumFor 101 = .ok (.getfield 9, 3) := by decide +kernel
theorem dX6_sumFor_104 : decode cX6_sumFor 104 = .ok (.iload_n 3, 1) := by decide +kernel
theorem dX6_sumFor_105 : decode cX6_sumFor 105 = .ok (.iconst 1, 1) := by decide +kernel
theorem dX6_sumFor_106 : decode cX6_sumFor 106 = .ok (.isub, 1) := by decide +kernel
theorem dX6_sumFor_107 : decode cX6_sumFor 107 = .ok (.laload, 1) := by decide +kernel
theorem dX6_sumFor_108 : decode cX6_sumFor 108 = .ok (.goto 4, 3) := by decide +kernel
theorem dX6_sumFor_111 : decode cX6_sumFor 111 = .ok (.lconst 0, 1) := by decide +kernel
theorem dX6_sumFor_112 : decode cX6_sumFor 112 = .ok (.lreturn, 1) := by decide +kernel
theorem dX6_sumFor_113 : decode cX6_sumFor 113 = .ok (.iload 5, 2) := by decide +kernel
theorem dX6_sumFor_115 : decode cX6_sumFor 115 = .ok (.bipush (-4), 2) := by decide +kernel
theorem dX6_sumFor_117 : decode cX6_sumFor 117 = .ok (.if_icmp .ne 46, 3) := by decide +kernel
theorem dX6_sumFor_120 : decode cX6_sumFor 120 = .ok (.iload_n 3, 1) := by decide +kernel
theorem dX6_sumFor_121 : decode cX6_sumFor 121 = .ok (.iconst 1, 1) := by decide +kernel
theorem dX6_sumFor_122 : decode cX6_sumFor 122 = .ok (.if_icmp .lt 124, 3) := by decide +kernel
theorem dX6_sumFor_125 : decode cX6_sumFor 125 = .ok (.iload_n 3, 1) := by decide +kernel
theorem dX6_sumFor_126 : decode cX6_sumFor 126 = .ok (.aload_n 0, 1) := by decide +kernel
theorem dX6_sumFor_127 : decode cX6_sumFor 127 = .ok (.getfield 9, 3) := by decide +kernel
theorem dX6_sumFor_130 : decode cX6_sumFor 130 = .ok (.arraylength, 1) := by decide +kernel
theorem dX6_sumFor_131 : decode cX6_sumFor 131 = .ok (.if_icmp .gt 115, 3) := by decide +kernel
theorem dX6_sumFor_134 : decode cX6_sumFor 134 = .ok (.aload_n 0, 1) := by decide +kernel
theorem dX6_sumFor_135 : decode cX6_sumFor 135 = .ok (.getfield 9, 3) := by decide +kernel
theorem dX6_sumFor_138 : decode cX6_sumFor 138 = .ok (.iload_n 3, 1) := by decide +kernel
theorem dX6_sumFor_139 : decode cX6_sumFor 139 = .ok (.iconst 1, 1) := by decide +kernel
theorem dX6_sumFor_140 : decode cX6_sumFor 140 = .ok (.isub, 1) := by decide +kernel
theorem dX6_sumFor_141 : decode cX6_sumFor 141 = .ok (.aload_n 0, 1) := by decide +kernel
theorem dX6_sumFor_142 : decode cX6_sumFor 142 = .ok (.getfield 9, 3) := by decide +kernel
theorem dX6_sumFor_145 : decode cX6_sumFor 145 = .ok (.iload_n 3, 1) := by decide +kernel
theorem dX6_sumFor_146 : decode cX6_sumFor 146 = .ok (.iconst 1, 1) := by decide +kernel
theorem dX6_sumFor_147 : decode cX6_sumFor 147 = .ok (.isub, 1) := by decide +kernel
theorem dX6_sumFor_148 : decode cX6_sumFor 148 = .ok (.laload, 1) := by decide +kernel
theorem dX6_sumFor_149 : decode cX6_sumFor 149 = .ok (.lconst 0, 1) := by decide +kernel
theorem dX6_sumFor_150 : decode cX6_sumFor 150 = .ok (.lcmp, 1) := by decide +kernel
theorem dX6_sumFor_151 : decode cX6_sumFor 151 = .ok (.ifCond .ne 7, 3) := by decide +kernel
theorem dX6_sumFor_154 : decode cX6_sumFor 154 = .ok (.lconst 1, 1) := by decide +kernel
theorem dX6_sumFor_155 : decode cX6_sumFor 155 = .ok (.goto 4, 3) := by decide +kernel
theorem dX6_sumFor_158 : decode cX6_sumFor 158 = .ok (.lconst 0, 1) := by decide +kernel
theorem dX6_sumFor_159 : decode cX6_sumFor 159 = .ok (.lastore, 1) := by decide +kernel
theorem dX6_sumFor_160 : decode cX6_sumFor 160 = .ok (.goto 86, 3) := by decide +kernel
theorem dX6_sumFor_163 : decode cX6_sumFor 163 = .ok (.iload_n 3, 1) := by decide +kernel
theorem dX6_sumFor_164 : decode cX6_sumFor 164 = .ok (.iconst 2, 1) := by decide +kernel
theorem dX6_sumFor_165 : decode cX6_sumFor 165 = .ok (.if_icmp .lt 12, 3) := by decide +kernel
theorem dX6_sumFor_168 : decode cX6_sumFor 168 = .ok (.iload_n 3, 1) := by decide +kernel
theorem dX6_sumFor_169 : decode cX6_sumFor 169 = .ok (.aload_n 0, 1) := by decide +kernel
theorem dX6_sumFor_170 : decode cX6_sumFor 170 = .ok (.getfield 9, 3) := by decide +kernel
theorem dX6_sumFor_173 : decode cX6_sumFor 173 = .ok (.arraylength, 1) := by decide +kernel
theorem dX6_sumFor_174 : decode cX6_sumFor 174 = .ok (.if_icmp .le 5, 3) := by decide +kernel
theorem dX6_sumFor_177 : decode cX6_sumFor 177 = .ok (.lconst 0, 1) := by decide +kernel
theorem dX6_sumFor_178 : decode cX6_sumFor 178 = .ok (.lreturn, 1) := by decide +kernel
theorem dX6_sumFor_179 : decode cX6_sumFor 179 = .ok (.iload 5, 2) := by decide +kernel
theorem dX6_sumFor_181 : decode cX6_sumFor 181 = .ok (.bipush (-3), 2) := by decide +kernel
theorem dX6_sumFor_183 : decode cX6_sumFor 183 = .ok (.if_icmp .ne 31, 3) := by decide +kernel
theorem dX6_sumFor_186 : decode cX6_sumFor 186 = .ok (.aload_n 0, 1) := by decide +kernel
theorem dX6_sumFor_187 : decode cX6_sumFor 187 = .ok (.getfield 9, 3) := by decide +kernel
theorem dX6_sumFor_190 : decode cX6_sumFor 190 = .ok (.iload_n 3, 1) := by decide +kernel
theorem dX6_sumFor_191 : decode cX6_sumFor 191 = .ok (.iconst 1, 1) := by decide +kernel
theorem dX6_sumFor_192 : decode cX6_sumFor 192 = .ok (.isub, 1) := by decide +kernel
theorem dX6_sumFor_193 : decode cX6_sumFor 193 = .ok (.laload, 1) := by decide +kernel
theorem dX6_sumFor_194 : decode cX6_sumFor 194 = .ok (.lconst 0, 1) := by decide +kernel
theorem dX6_sumFor_195 : decode cX6_sumFor 195 = .ok (.lcmp, 1) := by decide +kernel
theorem dX6_sumFor_196 : decode cX6_sumFor 196 = .ok (.ifCond .eq 12, 3) := by decide +kernel
theorem dX6_sumFor_199 : decode cX6_sumFor 199 = .ok (.aload_n 0, 1) := by decide +kernel
theorem dX6_sumFor_200 : decode cX6_sumFor 200 = .ok (.getfield 9, 3) := by decide +kernel
theorem dX6_sumFor_203 : decode cX6_sumFor 203 = .ok (.iload_n 3, 1) := by decide +kernel
theorem dX6_sumFor_204 : decode cX6_sumFor 204 = .ok (.iconst 2, 1) := by decide +kernel
theorem dX6_sumFor_205 : decode cX6_sumFor 205 = .ok (.isub, 1) := by decide +kernel
theorem dX6_sumFor_206 : decode cX6_sumFor 206 = .ok (.laload, 1) := by decide +kernel
theorem dX6_sumFor_207 : decode cX6_sumFor 207 = .ok (.lreturn, 1) := by decide +kernel
theorem dX6_sumFor_208 : decode cX6_sumFor 208 = .ok (.iinc 3 (-2), 3) := by decide +kernel
theorem dX6_sumFor_211 : decode cX6_sumFor 211 = .ok (.goto 35, 3) := by decide +kernel
theorem dX6_sumFor_214 : decode cX6_sumFor 214 = .ok (.aload_n 0, 1) := by decide +kernel
theorem dX6_sumFor_215 : decode cX6_sumFor 215 = .ok (.getfield 9, 3) := by decide +kernel
theorem dX6_sumFor_218 : decode cX6_sumFor 218 = .ok (.iload_n 3, 1) := by decide +kernel
theorem dX6_sumFor_219 : decode cX6_sumFor 219 = .ok (.iconst 2, 1) := by decide +kernel
theorem dX6_sumFor_220 : decode cX6_sumFor 220 = .ok (.isub, 1) := by decide +kernel
theorem dX6_sumFor_221 : decode cX6_sumFor 221 = .ok (.iload 5, 2) := by decide +kernel
theorem dX6_sumFor_223 : decode cX6_sumFor 223 = .ok (.aload_n 0, 1) := by decide +kernel
theorem dX6_sumFor_224 : decode cX6_sumFor 224 = .ok (.getfield 9, 3) := by decide +kernel
theorem dX6_sumFor_227 : decode cX6_sumFor 227 = .ok (.iload_n 3, 1) := by decide +kernel
theorem dX6_sumFor_228 : decode cX6_sumFor 228 = .ok (.iconst 2, 1) := by decide +kernel
theorem dX6_sumFor_229 : decode cX6_sumFor 229 = .ok (.isub, 1) := by decide +kernel
theorem dX6_sumFor_230 : decode cX6_sumFor 230 = .ok (.laload, 1) := by decide +kernel
theorem dX6_sumFor_231 : decode cX6_sumFor 231 = .ok (.aload_n 0, 1) := by decide +kernel
theorem dX6_sumFor_232 : decode cX6_sumFor 232 = .ok (.getfield 9, 3) := by decide +kernel
theorem dX6_sumFor_235 : decode cX6_sumFor 235 = .ok (.iload_n 3, 1) := by decide +kernel
theorem dX6_sumFor_236 : decode cX6_sumFor 236 = .ok (.iconst 1, 1) := by decide +kernel
theorem dX6_sumFor_237 : decode cX6_sumFor 237 = .ok (.isub, 1) := by decide +kernel
theorem dX6_sumFor_238 : decode cX6_sumFor 238 = .ok (.laload, 1) := by decide +kernel
theorem dX6_sumFor_239 : decode cX6_sumFor 239 = .ok (.invokestatic 24, 3) := by decide +kernel
theorem dX6_sumFor_242 : decode cX6_sumFor 242 = .ok (.lastore, 1) := by decide +kernel
theorem dX6_sumFor_243 : decode cX6_sumFor 243 = .ok (.iinc 3 (-1), 3) := by decide +kernel
theorem dX6_sumFor_246 : decode cX6_sumFor 246 = .ok (.iinc 4 1, 3) := by decide +kernel
theorem dX6_sumFor_249 : decode cX6_sumFor 249 = .ok (.goto (-244), 3) := by decide +kernel
theorem dX6_sumFor_252 : decode cX6_sumFor 252 = .ok (.lconst 0, 1) := by decide +kernel
theorem dX6_sumFor_253 : decode cX6_sumFor 253 = .ok (.lreturn, 1) := by decide +kernel
theorem dX9_goThroughDay_0 : decode cX9_goThroughDay 0 = .ok (.aload_n 0, 1) := by decide +kernel
theorem dX9_goThroughDay_1 : decode cX9_goThroughDay 1 = .ok (.aload_n 0, 1) := by decide +kernel
theorem dX9_goThroughDay_2 : decode cX9_goThroughDay 2 = .ok (.getfield 24, 3) := by decide +kernel
theorem dX9_goThroughDay_5 : decode cX9_goThroughDay 5 = .ok (.invokevirtual 68, 3) := by decide +kernel
theorem dX9_goThroughDay_8 : decode cX9_goThroughDay 8 = .ok (.istore_n 2, 1) := by decide +kernel
theorem dX9_goThroughDay_9 : decode cX9_goThroughDay 9 = .ok (.aload_n 0, 1) := by decide +kernel
theorem dX9_goThroughDay_10 : decode cX9_goThroughDay 10 = .ok (.aload_n 0, 1) := by decide +kernel
theorem dX9_goThroughDay_11 : decode cX9_goThroughDay 11 = .ok (.getfield 24, 3) := by decide +kernel
theorem dX9_goThroughDay_14 : decode cX9_goThroughDay 14 = .ok (.invokevirtual 75, 3) := by decide +kernel
theorem dX9_goThroughDay_17 : decode cX9_goThroughDay 17 = .ok (.istore_n 3, 1) := by decide +kernel
theorem dX9_goThroughDay_18 : decode cX9_goThroughDay 18 = .ok (.aload_n 0, 1) := by decide +kernel
theorem dX9_goThroughDay_19 : decode cX9_goThroughDay 19 = .ok (.iload_n 3, 1) := by decide +kernel
theorem dX9_goThroughDay_20 : decode cX9_goThroughDay 20 = .ok (.invokevirtual 84, 3) := by decide +kernel
theorem dX9_goThroughDay_23 : decode cX9_goThroughDay 23 = .ok (.ifCond .eq 12, 3) := by decide +kernel
theorem dX9_goThroughDay_26 : decode cX9_goThroughDay 26 = .ok (.aload_n 0, 1) := by decide +kernel
theorem dX9_goThroughDay_27 : decode cX9_goThroughDay 27 = .ok (.getfield 34, 3) := by decide +kernel
theorem dX9_goThroughDay_30 : decode cX9_goThroughDay 30 = .ok (.iload_n 3, 1) := by decide +kernel
theorem dX9_goThroughDay_31 : decode cX9_goThroughDay 31 = .ok (.iaload, 1) := by decide +kernel
theorem dX9_goThroughDay_32 : decode cX9_goThroughDay 32 = .ok (.goto 4, 3) := by decide +kernel
theorem dX9_goThroughDay_35 : decode cX9_goThroughDay 35 = .ok (.iconst 0, 1) := by decide +kernel
theorem dX9_goThroughDay_36 : decode cX9_goThroughDay 36 = .ok (.istore 4, 2) := by decide +kernel
theorem dX9_goThroughDay_38 : decode cX9_goThroughDay 38 = .ok (.iconst 0, 1) := by decide +kernel
theorem dX9_goThroughDay_39 : decode cX9_goThroughDay 39 = .ok (.istore 5, 2) := by decide +kernel
theorem dX9_goThroughDay_41 : decode cX9_goThroughDay 41 = .ok (.iconst 0, 1) := by decide +kernel
theorem dX9_goThroughDay_42 : decode cX9_goThroughDay 42 = .ok (.istore 6, 2) := by decide +kernel
theorem dX9_goThroughDay_44 : decode cX9_goThroughDay 44 = .ok (.iload 6, 2) := by decide +kernel
theorem dX9_goThroughDay_46 : decode cX9_goThroughDay 46 = .ok (.aload_n 0, 1) := by decide +kernel
theorem dX9_goThroughDay_47 : decode cX9_goThroughDay 47 = .ok (.getfield 21, 3) := by decide +kernel
theorem dX9_goThroughDay_50 : decode cX9_goThroughDay 50 = .ok (.if_icmp .ge 133, 3) := by decide +kernel
theorem dX9_goThroughDay_53 : decode cX9_goThroughDay 53 = .ok (.iload 6, 2) := by decide +kernel
theorem dX9_goThroughDay_55 : decode cX9_goThroughDay 55 = .ok (.bipush 6, 2) := by decide +kernel
theorem dX9_goThroughDay_57 : decode cX9_goThroughDay 57 = .ok (.if_icmp .ge 126, 3) := by decide +kernel
theorem dX9_goThroughDay_60 : decode cX9_goThroughDay 60 = .ok (.aload_n 0, 1) := by decide +kernel
theorem dX9_goThroughDay_61 : decode cX9_goThroughDay 61 = .ok (.iload 6, 2) := by decide +kernel
theorem dX9_goThroughDay_63 : decode cX9_goThroughDay 63 = .ok (.invokevirtual 65, 3) := by decide +kernel
theorem dX9_goThroughDay_66 : decode cX9_goThroughDay 66 = .ok (.ifCond .ne 6, 3) := by decide +kernel
theorem dX9_goThroughDay_69 : decode cX9_goThroughDay 69 = .ok (.goto 108, 3) := by decide +kernel
theorem dX9_goThroughDay_72 : decode cX9_goThroughDay 72 = .ok (.aload_n 1, 1) := by decide +kernel
theorem dX9_goThroughDay_73 : decode cX9_goThroughDay 73 = .ok (.ifnonnull 25, 3) := by decide +kernel
theorem dX9_goThroughDay_76 : decode cX9_goThroughDay 76 = .ok (.aload_n 0, 1) := by decide +kernel
theorem dX9_goThroughDay_77 : decode cX9_goThroughDay 77 = .ok (.getfield 37, 3) := by decide +kernel
theorem dX9_goThroughDay_80 : decode cX9_goThroughDay 80 = .ok (.iload 6, 2) := by decide +kernel
theorem dX9_goThroughDay_82 : decode cX9_goThroughDay 82 = .ok (.iaload, 1) := by decide +kernel
theorem dX9_goThroughDay_83 : decode cX9_goThroughDay 83 = .ok (.iload_n 2, 1) := by decide +kernel
theorem dX9_goThroughDay_84 : decode cX9_goThroughDay 84 = .ok (.iadd, 1) := by decide +kernel
theorem dX9_goThroughDay_85 : decode cX9_goThroughDay 85 = .ok (.bipush 12, 2) := by decide +kernel
theorem dX9_goThroughDay_87 : decode cX9_goThroughDay 87 = .ok (.if_icmp .lt 7, 3) := by decide +kernel
theorem dX9_goThroughDay_90 : decode cX9_goThroughDay 90 = .ok (.iconst 1, 1) := by decide +kernel
theorem dX9_goThroughDay_91 : decode cX9_goThroughDay 91 = .ok (.goto 24, 3) := by decide +kernel
theorem dX9_goThroughDay_94 : decode cX9_goThroughDay 94 = .ok (.iconst 0, 1) := by decide +kernel
theorem dX9_goThroughDay_95 : decode cX9_goThroughDay 95 = .ok (.goto 20, 3) := by decide +kernel
theorem dX9_goThroughDay_98 : decode cX9_goThroughDay 98 = .ok (.aload_n 1, 1) := by decide +kernel
theorem dX9_goThroughDay_99 : decode cX9_goThroughDay 99 = .ok (.aload_n 0, 1) := by decide +kernel
theorem dX9_goThroughDay_100 : decode cX9_goThroughDay 100 = .ok (.iload 6, 2) := by decide +kernel
theorem dX9_goThroughDay_102 : decode cX9_goThroughDay 102 = .ok (.invokevirtual 87, 3) := by decide +kernel
theorem dX9_goThroughDay_105 : decode cX9_goThroughDay 105 = .ok (.lconst 0, 1) := by decide +kernel
theorem dX9_goThroughDay_106 : decode cX9_goThroughDay 106 = .ok (.lcmp, 1) := by decide +kernel
theorem dX9_goThroughDay_107 : decode cX9_goThroughDay 107 = .ok (.ifCond .le 7, 3) := by decide +kernel
theorem dX9_goThroughDay_110 : decode cX9_goThroughDay 110 = .ok (.iconst 1, 1) := by decide +kernel
theorem dX9_goThroughDay_111 : decode cX9_goThroughDay 111 = .ok (.goto 4, 3) := by decide +kernel
theorem dX9_goThroughDay_114 : decode cX9_goThroughDay 114 = .ok (.iconst 0, 1) := by decide +kernel
theorem dX9_goThroughDay_115 : decode cX9_goThroughDay 115 = .ok (.istore 7, 2) := by decide +kernel
theorem dX9_goThroughDay_117 : decode cX9_goThroughDay 117 = .ok (.iload 7, 2) := by decide +kernel
theorem dX9_goThroughDay_119 : decode cX9_goThroughDay 119 = .ok (.ifCond .eq 38, 3) := by decide +kernel
theorem dX9_goThroughDay_122 : decode cX9_goThroughDay 122 = .ok (.iload 4, 2) := by decide +kernel
theorem dX9_goThroughDay_124 : decode cX9_goThroughDay 124 = .ok (.iload 6, 2) := by decide +kernel
theorem dX9_goThroughDay_126 : decode cX9_goThroughDay 126 = .ok (.ishr, 1) := by decide +kernel
theorem dX9_goThroughDay_127 : decode cX9_goThroughDay 127 = .ok (.iconst 1, 1) := by decide +kernel
theorem dX9_goThroughDay_128 : decode cX9_goThroughDay 128 = .ok (.iand, 1) := by decide +kernel
theorem dX9_goThroughDay_129 : decode cX9_goThroughDay 129 = .ok (.ifCond .eq 28, 3) := by decide +kernel
theorem dX9_goThroughDay_132 : decode cX9_goThroughDay 132 = .ok (.aload_n 0, 1) := by decide +kernel
theorem dX9_goThroughDay_133 : decode cX9_goThroughDay 133 = .ok (.getfield 49, 3) := by decide +kernel
theorem dX9_goThroughDay_136 : decode cX9_goThroughDay 136 = .ok (.iload 6, 2) := by decide +kernel
theorem dX9_goThroughDay_138 : decode cX9_goThroughDay 138 = .ok (.dup2, 1) := by decide +kernel
theorem dX9_goThroughDay_139 : decode cX9_goThroughDay 139 = .ok (.iaload, 1) := by decide +kernel
theorem dX9_goThroughDay_140 : decode cX9_goThroughDay 140 = .ok (.iconst 1, 1) := by decide +kernel
theorem dX9_goThroughDay_141 : decode cX9_goThroughDay 141 = .ok (.iadd, 1) := by decide +kernel
theorem dX9_goThroughDay_142 : decode cX9_goThroughDay 142 = .ok (.iastore, 1) := by decide +kernel
theorem dX9_goThroughDay_143 : decode cX9_goThroughDay 143 = .ok (.aload_n 0, 1) := by decide +kernel
theorem dX9_goThroughDay_144 : decode cX9_goThroughDay 144 = .ok (.getfield 52, 3) := by decide +kernel
theorem dX9_goThroughDay_147 : decode cX9_goThroughDay 147 = .ok (.iload 6, 2) := by decide +kernel
theorem dX9_goThroughDay_149 : decode cX9_goThroughDay 149 = .ok (.aload_n 0, 1) := by decide +kernel
theorem dX9_goThroughDay_150 : decode cX9_goThroughDay 150 = .ok (.getfield 24, 3) := by decide +kernel
theorem dX9_goThroughDay_153 : decode cX9_goThroughDay 153 = .ok (.iastore, 1) := by decide +kernel
theorem dX9_goThroughDay_154 : decode cX9_goThroughDay 154 = .ok (.goto 23, 3) := by decide +kernel
theorem dX9_goThroughDay_157 : decode cX9_goThroughDay 157 = .ok (.iload 7, 2) := by decide +kernel
theorem dX9_goThroughDay_159 : decode cX9_goThroughDay 159 = .ok (.ifCond .eq 18, 3) := by decide +kernel
theorem dX9_goThroughDay_162 : decode cX9_goThroughDay 162 = .ok (.aload_n 0, 1) := by decide +kernel
theorem dX9_goThroughDay_163 : decode cX9_goThroughDay 163 = .ok (.iload 6, 2) := by decide +kernel
theorem dX9_goThroughDay_165 : decode cX9_goThroughDay 165 = .ok (.invokevirtual 93, 3) := by decide +kernel
theorem dX9_goThroughDay_168 : decode cX9_goThroughDay 168 = .ok (.iload 5, 2) := by decide +kernel
theorem dX9_goThroughDay_170 : decode cX9_goThroughDay 170 = .ok (.iconst 1, 1) := by decide +kernel
theorem dX9_goThroughDay_171 : decode cX9_goThroughDay 171 = .ok (.iload 6, 2) := by decide +kernel
theorem dX9_goThroughDay_173 : decode cX9_goThroughDay 173 = .ok (.ishl, 1) := by decide +kernel
theorem dX9_goThroughDay_174 : decode cX9_goThroughDay 174 = .ok (.ior, 1) := by decide +kernel
theorem dX9_goThroughDay_175 : decode cX9_goThroughDay 175 = .ok (.istore 5, 2) := by decide +kernel
theorem dX9_goThroughDay_177 : decode cX9_goThroughDay 177 = .ok (.iinc 6 1, 3) := by decide +kernel
theorem dX9_goThroughDay_180 : decode cX9_goThroughDay 180 = .ok (.goto (-136), 3) := by decide +kernel
theorem dX9_goThroughDay_183 : decode cX9_goThroughDay 183 = .ok (.aload_n 0, 1) := by decide +kernel
theorem dX9_goThroughDay_184 : decode cX9_goThroughDay 184 = .ok (.iload_n 2, 1) := by decide +kernel
theorem dX9_goThroughDay_185 : decode cX9_goThroughDay 185 = .ok (.invokevirtual 97, 3) := by decide +kernel
theorem dX9_goThroughDay_188 : decode cX9_goThroughDay 188 = .ok (.aload_n 0, 1) := by decide +kernel
theorem dX9_goThroughDay_189 : decode cX9_goThroughDay 189 = .ok (.getfield 24, 3) := by decide +kernel
theorem dX9_goThroughDay_192 : decode cX9_goThroughDay 192 = .ok (.bipush 7, 2) := by decide +kernel
theorem dX9_goThroughDay_194 : decode cX9_goThroughDay 194 = .ok (.irem, 1) := by decide +kernel
theorem dX9_goThroughDay_195 : decode cX9_goThroughDay 195 = .ok (.bipush 6, 2) := by decide +kernel
theorem dX9_goThroughDay_197 : decode cX9_goThroughDay 197 = .ok (.if_icmp .ne 21, 3) := by decide +kernel
theorem dX9_goThroughDay_200 : decode cX9_goThroughDay 200 = .ok (.aload_n 0, 1) := by decide +kernel
theorem dX9_goThroughDay_201 : decode cX9_goThroughDay 201 = .ok (.bipush 99, 2) := by decide +kernel
theorem dX9_goThroughDay_203 : decode cX9_goThroughDay 203 = .ok (.aload_n 0, 1) := by decide +kernel
theorem dX9_goThroughDay_204 : decode cX9_goThroughDay 204 = .ok (.getfield 9, 3) := by decide +kernel
theorem dX9_goThroughDay_207 : decode cX9_goThroughDay 207 = .ok (.aload_n 0, 1) := by decide +kernel
theorem dX9_goThroughDay_208 : decode cX9_goThroughDay 208 = .ok (.getfield 15, 3) := by decide +kernel
theorem dX9_goThroughDay_211 : decode cX9_goThroughDay 211 = .ok (.iadd, 1) := by decide +kernel
theorem dX9_goThroughDay_212 : decode cX9_goThroughDay 212 = .ok (.invokestatic 100, 3) := by decide +kernel
theorem dX9_goThroughDay_215 : decode cX9_goThroughDay 215 = .ok (.putfield 9, 3) := by decide +kernel
theorem dX9_goThroughDay_218 : decode cX9_goThroughDay 218 = .ok (.aload_n 0, 1) := by decide +kernel
theorem dX9_goThroughDay_219 : decode cX9_goThroughDay 219 = .ok (.dup, 1) := by decide +kernel
theorem dX9_goThroughDay_220 : decode cX9_goThroughDay 220 = .ok (.getfield 24, 3) := by decide +kernel
theorem dX9_goThroughDay_223 : decode cX9_goThroughDay 223 = .ok (.iconst 1, 1) := by decide +kernel
theorem dX9_goThroughDay_224 : decode cX9_goThroughDay 224 = .ok (.iadd, 1) := by decide +kernel
theorem dX9_goThroughDay_225 : decode cX9_goThroughDay 225 = .ok (.putfield 24, 3) := by decide +kernel
theorem dX9_goThroughDay_228 : decode cX9_goThroughDay 228 = .ok (.iload 5, 2) := by decide +kernel
theorem dX9_goThroughDay_230 : decode cX9_goThroughDay 230 = .ok (.ireturn, 1) := by decide +kernel
theorem dX9_soldWithin_0 : decode cX9_soldWithin 0 = .ok (.aload_n 0, 1) := by decide +kernel
theorem dX9_soldWithin_1 : decode cX9_soldWithin 1 = .ok (.getfield 27, 3) := by decide +kernel
theorem dX9_soldWithin_4 : decode cX9_soldWithin 4 = .ok (.istore_n 3, 1) := by decide +kernel
theorem dX9_soldWithin_5 : decode cX9_soldWithin 5 = .ok (.iconst 0, 1) := by decide +kernel
theorem dX9_soldWithin_6 : decode cX9_soldWithin 6 = .ok (.istore 4, 2) := by decide +kernel
theorem dX9_soldWithin_8 : decode cX9_soldWithin 8 = .ok (.iload 4, 2) := by decide +kernel
theorem dX9_soldWithin_10 : decode cX9_soldWithin 10 = .ok (.iload_n 1, 1) := by decide +kernel
theorem dX9_soldWithin_11 : decode cX9_soldWithin 11 = .ok (.if_icmp .ge 15, 3) := by decide +kernel
theorem dX9_soldWithin_14 : decode cX9_soldWithin 14 = .ok (.aload_n 0, 1) := by decide +kernel
theorem dX9_soldWithin_15 : decode cX9_soldWithin 15 = .ok (.aload_n 2, 1) := by decide +kernel
theorem dX9_soldWithin_16 : decode cX9_soldWithin 16 = .ok (.invokevirtual 103, 3) := by decide +kernel
theorem dX9_soldWithin_19 : decode cX9_soldWithin 19 = .ok (.pop, 1) := by decide +kernel
theorem dX9_soldWithin_20 : decode cX9_soldWithin 20 = .ok (.iinc 4 1, 3) := by decide +kernel
theorem dX9_soldWithin_23 : decode cX9_soldWithin 23 = .ok (.goto (-15), 3) := by decide +kernel
theorem dX9_soldWithin_26 : decode cX9_soldWithin 26 = .ok (.aload_n 0, 1) := by decide +kernel
theorem dX9_soldWithin_27 : decode cX9_soldWithin 27 = .ok (.getfield 27, 3) := by decide +kernel
theorem dX9_soldWithin_30 : decode cX9_soldWithin 30 = .ok (.iload_n 3, 1) := by decide +kernel
theorem dX9_soldWithin_31 : decode cX9_soldWithin 31 = .ok (.isub, 1) := by decide +kernel
theorem dX9_soldWithin_32 : decode cX9_soldWithin 32 = .ok (.ireturn, 1) := by decide +kernel
set_option maxHeartbeats 4000000 in
set_option maxRecDepth 100000 in
theorem ct_X6_holds (l : Launch) (D : va_G) (tc : Nat → ClassId) (sk : (Nat → Nat) × (Nat → Nat)) (x1 : Int32) (w1 : Int64) (w2 : Int64)  : Ct l yX6_holds cX6_holds 5 (some .boolean) { frames := 0, cells := 0, slots := 0, locals := 0 } D tc sk [.int x1, .long w1, .long w2] [] (fun (v : Option Value) (_ : Unit) => ∃ r : Int32, v = some (.int r) ∧ ((r.toInt = 0 ∨ r.toInt = 1))) (fun (_ : Unit) => []) 0 0 := by
  refine Ct.start (by decide) (Nat.le_of_ble_eq_true rfl) (fun p e s m below meth c A ls hx hb hr hlk hin hml hown hts hK hX hP hD hA hl hS => ?_)
  have hl : lv_has ls 5 [(0, .int x1), (1, .long w1), (3, .long w2)] := hl
  refine lv_iload_n hx hb dX6_holds_0 rfl (lv_at hl 0 rfl) ?_
  refine lv_topi (fun x_1 ex_1 => ?_)
  by_cases c_2 : x_1 = -11
  · skip
    subst c_2
    refine lv_tableIn (off := 127) (tgt := 128) hx hb dX6_holds_1 (by decide) (by decide) (by decide) (by decide) ?_
    refine lv_lload_n hx hb dX6_holds_128 rfl (lv_at hl 1 rfl) ?_
    refine lv_lload_n hx hb dX6_holds_129 rfl (lv_at hl 2 rfl) ?_
    refine W.lcmp hx hb dX6_holds_130 ?_
    refine lv_topi (fun x_3 ex_3 => ?_)
    refine lv_if_le (tgt := 138) hx hb dX6_holds_131 (by decide) (fun c_4 => ?_) (fun c_4 => ?_)
    · skip
      refine lv_iconst (v := 0) hx hb dX6_holds_138 (by decide) ?_
      have hp_5 : ((0 : Int32).toInt = 0 ∨ (0 : Int32).toInt = 1) := by
        have z_1 := Int32.le_iff_toInt_le.mp c_4
        have y_0 : (0 : Int32).toInt = 0 := by decide
        omega
      exact retI (v := 0) hx hb hr hlk (rfl) hP hD hS () ⟨_, rfl, hp_5⟩ [] rfl rfl dX6_holds_139 (Nat.le_of_ble_eq_true rfl) (Nat.le_of_ble_eq_true rfl) rfl
    · skip
      refine lv_iconst (v := 1) hx hb dX6_holds_134 (by decide) ?_
      refine lv_goto (tgt := 139) hx hb dX6_holds_135 (by decide) ?_
      have hp_6 : ((1 : Int32).toInt = 0 ∨ (1 : Int32).toInt = 1) := by
        have z_1 := Int32.lt_iff_toInt_lt.mp (Int32.not_le.mp c_4)
        have y_0 : (0 : Int32).toInt = 0 := by decide
        have y_1 : (1 : Int32).toInt = 1 := by decide
        have yr : (1 : Int32).toInt = 1 := by decide
        omega
      exact retI (v := 1) hx hb hr hlk (rfl) hP hD hS () ⟨_, rfl, hp_6⟩ [] rfl rfl dX6_holds_139 (Nat.le_of_ble_eq_true rfl) (Nat.le_of_ble_eq_true rfl) rfl
  · skip
    by_cases c_7 : x_1 = -10
    · skip
      subst c_7
      refine lv_tableIn (off := 115) (tgt := 116) hx hb dX6_holds_1 (by decide) (by decide) (by decide) (by decide) ?_
      refine lv_lload_n hx hb dX6_holds_116 rfl (lv_at hl 1 rfl) ?_
      refine lv_lload_n hx hb dX6_holds_117 rfl (lv_at hl 2 rfl) ?_
      refine W.lcmp hx hb dX6_holds_118 ?_
      refine lv_topi (fun x_8 ex_8 => ?_)
      refine lv_if_lt (tgt := 126) hx hb dX6_holds_119 (by decide) (fun c_9 => ?_) (fun c_9 => ?_)
      · skip
        refine lv_iconst (v := 0) hx hb dX6_holds_126 (by decide) ?_
        have hp_10 : ((0 : Int32).toInt = 0 ∨ (0 : Int32).toInt = 1) := by
          have z_1 := Int32.lt_iff_toInt_lt.mp c_9
          have y_0 : (0 : Int32).toInt = 0 := by decide
          omega
        exact retI (v := 0) hx hb hr hlk (rfl) hP hD hS () ⟨_, rfl, hp_10⟩ [] rfl rfl dX6_holds_127 (Nat.le_of_ble_eq_true rfl) (Nat.le_of_ble_eq_true rfl) rfl
      · skip
        refine lv_iconst (v := 1) hx hb dX6_holds_122 (by decide) ?_
        refine lv_goto (tgt := 127) hx hb dX6_holds_123 (by decide) ?_
        have hp_11 : ((1 : Int32).toInt = 0 ∨ (1 : Int32).toInt = 1) := by
          have z_1 := Int32.le_iff_toInt_le.mp (Int32.not_lt.mp c_9)
          have y_0 : (0 : Int32).toInt = 0 := by decide
          have y_1 : (1 : Int32).toInt = 1 := by decide
          have yr : (1 : Int32).toInt = 1 := by decide
          omega
        exact retI (v := 1) hx hb hr hlk (rfl) hP hD hS () ⟨_, rfl, hp_11⟩ [] rfl rfl dX6_holds_127 (Nat.le_of_ble_eq_true rfl) (Nat.le_of_ble_eq_true rfl) rfl
    · skip
      by_cases c_12 : x_1 = -9
      · skip
        subst c_12
        refine lv_tableIn (off := 103) (tgt := 104) hx hb dX6_holds_1 (by decide) (by decide) (by decide) (by decide) ?_
        refine lv_lload_n hx hb dX6_holds_104 rfl (lv_at hl 1 rfl) ?_
        refine lv_lload_n hx hb dX6_holds_105 rfl (lv_at hl 2 rfl) ?_
        refine W.lcmp hx hb dX6_holds_106 ?_
        refine lv_topi (fun x_13 ex_13 => ?_)
        refine lv_if_ne (tgt := 114) hx hb dX6_holds_107 (by decide) (fun c_14 => ?_) (fun c_14 => ?_)
        · skip
          refine lv_iconst (v := 0) hx hb dX6_holds_114 (by decide) ?_
          have hp_15 : ((0 : Int32).toInt = 0 ∨ (0 : Int32).toInt = 1) := by
            have z_1 : ¬ (x_13 : Int32).toInt = (0 : Int32).toInt := fun z => c_14 (Int32.toInt_inj.mp z)
            have y_0 : (0 : Int32).toInt = 0 := by decide
            omega
          exact retI (v := 0) hx hb hr hlk (rfl) hP hD hS () ⟨_, rfl, hp_15⟩ [] rfl rfl dX6_holds_115 (Nat.le_of_ble_eq_true rfl) (Nat.le_of_ble_eq_true rfl) rfl
        · skip
          refine lv_iconst (v := 1) hx hb dX6_holds_110 (by decide) ?_
          refine lv_goto (tgt := 115) hx hb dX6_holds_111 (by decide) ?_
          have hp_16 : ((1 : Int32).toInt = 0 ∨ (1 : Int32).toInt = 1) := by
            have z_1 := congrArg Int32.toInt c_14
            have y_0 : (0 : Int32).toInt = 0 := by decide
            have y_1 : (1 : Int32).toInt = 1 := by decide
            have yr : (1 : Int32).toInt = 1 := by decide
            omega
          exact retI (v := 1) hx hb hr hlk (rfl) hP hD hS () ⟨_, rfl, hp_16⟩ [] rfl rfl dX6_holds_115 (Nat.le_of_ble_eq_true rfl) (Nat.le_of_ble_eq_true rfl) rfl
      · skip
        by_cases c_17 : x_1 = -8
        · skip
          subst c_17
          refine lv_tableIn (off := 91) (tgt := 92) hx hb dX6_holds_1 (by decide) (by decide) (by decide) (by decide) ?_
          refine lv_lload_n hx hb dX6_holds_92 rfl (lv_at hl 1 rfl) ?_
          refine lv_lload_n hx hb dX6_holds_93 rfl (lv_at hl 2 rfl) ?_
          refine W.lcmp hx hb dX6_holds_94 ?_
          refine lv_topi (fun x_18 ex_18 => ?_)
          refine lv_if_gt (tgt := 102) hx hb dX6_holds_95 (by decide) (fun c_19 => ?_) (fun c_19 => ?_)
          · skip
            refine lv_iconst (v := 0) hx hb dX6_holds_102 (by decide) ?_
            have hp_20 : ((0 : Int32).toInt = 0 ∨ (0 : Int32).toInt = 1) := by
              have z_1 := Int32.lt_iff_toInt_lt.mp c_19
              have y_0 : (0 : Int32).toInt = 0 := by decide
              omega
            exact retI (v := 0) hx hb hr hlk (rfl) hP hD hS () ⟨_, rfl, hp_20⟩ [] rfl rfl dX6_holds_103 (Nat.le_of_ble_eq_true rfl) (Nat.le_of_ble_eq_true rfl) rfl
          · skip
            refine lv_iconst (v := 1) hx hb dX6_holds_98 (by decide) ?_
            refine lv_goto (tgt := 103) hx hb dX6_holds_99 (by decide) ?_
            have hp_21 : ((1 : Int32).toInt = 0 ∨ (1 : Int32).toInt = 1) := by
              have z_1 := Int32.le_iff_toInt_le.mp (Int32.not_lt.mp c_19)
              have y_0 : (0 : Int32).toInt = 0 := by decide
              have y_1 : (1 : Int32).toInt = 1 := by decide
              have yr : (1 : Int32).toInt = 1 := by decide
              omega
            exact retI (v := 1) hx hb hr hlk (rfl) hP hD hS () ⟨_, rfl, hp_21⟩ [] rfl rfl dX6_holds_103 (Nat.le_of_ble_eq_true rfl) (Nat.le_of_ble_eq_true rfl) rfl
        · skip
          by_cases c_22 : x_1 = -7
          · skip
            subst c_22
            refine lv_tableIn (off := 79) (tgt := 80) hx hb dX6_holds_1 (by decide) (by decide) (by decide) (by decide) ?_
            refine lv_lload_n hx hb dX6_holds_80 rfl (lv_at hl 1 rfl) ?_
            refine lv_lload_n hx hb dX6_holds_81 rfl (lv_at hl 2 rfl) ?_
            refine W.lcmp hx hb dX6_holds_82 ?_
            refine lv_topi (fun x_23 ex_23 => ?_)
            refine lv_if_ge (tgt := 90) hx hb dX6_holds_83 (by decide) (fun c_24 => ?_) (fun c_24 => ?_)
            · skip
              refine lv_iconst (v := 0) hx hb dX6_holds_90 (by decide) ?_
              have hp_25 : ((0 : Int32).toInt = 0 ∨ (0 : Int32).toInt = 1) := by
                have z_1 := Int32.le_iff_toInt_le.mp c_24
                have y_0 : (0 : Int32).toInt = 0 := by decide
                omega
              exact retI (v := 0) hx hb hr hlk (rfl) hP hD hS () ⟨_, rfl, hp_25⟩ [] rfl rfl dX6_holds_91 (Nat.le_of_ble_eq_true rfl) (Nat.le_of_ble_eq_true rfl) rfl
            · skip
              refine lv_iconst (v := 1) hx hb dX6_holds_86 (by decide) ?_
              refine lv_goto (tgt := 91) hx hb dX6_holds_87 (by decide) ?_
              have hp_26 : ((1 : Int32).toInt = 0 ∨ (1 : Int32).toInt = 1) := by
                have z_1 := Int32.lt_iff_toInt_lt.mp (Int32.not_le.mp c_24)
                have y_0 : (0 : Int32).toInt = 0 := by decide
                have y_1 : (1 : Int32).toInt = 1 := by decide
                have yr : (1 : Int32).toInt = 1 := by decide
                omega
              exact retI (v := 1) hx hb hr hlk (rfl) hP hD hS () ⟨_, rfl, hp_26⟩ [] rfl rfl dX6_holds_91 (Nat.le_of_ble_eq_true rfl) (Nat.le_of_ble_eq_true rfl) rfl
          · skip
            by_cases c_27 : x_1 = -6
            · skip
              subst c_27
              refine lv_tableIn (off := 61) (tgt := 62) hx hb dX6_holds_1 (by decide) (by decide) (by decide) (by decide) ?_
              refine lv_lload_n hx hb dX6_holds_62 rfl (lv_at hl 1 rfl) ?_
              refine lv_lconst (v := 0) hx hb dX6_holds_63 (by decide) ?_
              refine W.lcmp hx hb dX6_holds_64 ?_
              refine lv_topi (fun x_28 ex_28 => ?_)
              refine lv_if_ne (tgt := 74) hx hb dX6_holds_65 (by decide) (fun c_29 => ?_) (fun c_29 => ?_)
              · skip
                refine lv_iconst (v := 1) hx hb dX6_holds_74 (by decide) ?_
                refine lv_goto (tgt := 79) hx hb dX6_holds_75 (by decide) ?_
                have hp_30 : ((1 : Int32).toInt = 0 ∨ (1 : Int32).toInt = 1) := by
                  have z_1 : ¬ (x_28 : Int32).toInt = (0 : Int32).toInt := fun z => c_29 (Int32.toInt_inj.mp z)
                  have y_0 : (0 : Int32).toInt = 0 := by decide
                  have y_1 : (1 : Int32).toInt = 1 := by decide
                  have yr : (1 : Int32).toInt = 1 := by decide
                  omega
                exact retI (v := 1) hx hb hr hlk (rfl) hP hD hS () ⟨_, rfl, hp_30⟩ [] rfl rfl dX6_holds_79 (Nat.le_of_ble_eq_true rfl) (Nat.le_of_ble_eq_true rfl) rfl
              · skip
                refine lv_lload_n hx hb dX6_holds_68 rfl (lv_at hl 2 rfl) ?_
                refine lv_lconst (v := 0) hx hb dX6_holds_69 (by decide) ?_
                refine W.lcmp hx hb dX6_holds_70 ?_
                refine lv_topi (fun x_31 ex_31 => ?_)
                refine lv_if_eq (tgt := 78) hx hb dX6_holds_71 (by decide) (fun c_32 => ?_) (fun c_32 => ?_)
                · skip
                  refine lv_iconst (v := 0) hx hb dX6_holds_78 (by decide) ?_
                  have hp_33 : ((0 : Int32).toInt = 0 ∨ (0 : Int32).toInt = 1) := by
                    have z_1 := congrArg Int32.toInt c_29
                    have z_2 := congrArg Int32.toInt c_32
                    have y_0 : (0 : Int32).toInt = 0 := by decide
                    omega
                  exact retI (v := 0) hx hb hr hlk (rfl) hP hD hS () ⟨_, rfl, hp_33⟩ [] rfl rfl dX6_holds_79 (Nat.le_of_ble_eq_true rfl) (Nat.le_of_ble_eq_true rfl) rfl
                · skip
                  refine lv_iconst (v := 1) hx hb dX6_holds_74 (by decide) ?_
                  refine lv_goto (tgt := 79) hx hb dX6_holds_75 (by decide) ?_
                  have hp_34 : ((1 : Int32).toInt = 0 ∨ (1 : Int32).toInt = 1) := by
                    have z_1 := congrArg Int32.toInt c_29
                    have z_2 : ¬ (x_31 : Int32).toInt = (0 : Int32).toInt := fun z => c_32 (Int32.toInt_inj.mp z)
                    have y_0 : (0 : Int32).toInt = 0 := by decide
                    have y_1 : (1 : Int32).toInt = 1 := by decide
                    have yr : (1 : Int32).toInt = 1 := by decide
                    omega
                  exact retI (v := 1) hx hb hr hlk (rfl) hP hD hS () ⟨_, rfl, hp_34⟩ [] rfl rfl dX6_holds_79 (Nat.le_of_ble_eq_true rfl) (Nat.le_of_ble_eq_true rfl) rfl
            · skip
              by_cases c_35 : x_1 = -5
              · skip
                subst c_35
                refine lv_tableIn (off := 43) (tgt := 44) hx hb dX6_holds_1 (by decide) (by decide) (by decide) (by decide) ?_
                refine lv_lload_n hx hb dX6_holds_44 rfl (lv_at hl 1 rfl) ?_
                refine lv_lconst (v := 0) hx hb dX6_holds_45 (by decide) ?_
                refine W.lcmp hx hb dX6_holds_46 ?_
                refine lv_topi (fun x_36 ex_36 => ?_)
                refine lv_if_eq (tgt := 60) hx hb dX6_holds_47 (by decide) (fun c_37 => ?_) (fun c_37 => ?_)
                · skip
                  refine lv_iconst (v := 0) hx hb dX6_holds_60 (by decide) ?_
                  have hp_38 : ((0 : Int32).toInt = 0 ∨ (0 : Int32).toInt = 1) := by
                    have z_1 := congrArg Int32.toInt c_37
                    have y_0 : (0 : Int32).toInt = 0 := by decide
                    omega
                  exact retI (v := 0) hx hb hr hlk (rfl) hP hD hS () ⟨_, rfl, hp_38⟩ [] rfl rfl dX6_holds_61 (Nat.le_of_ble_eq_true rfl) (Nat.le_of_ble_eq_true rfl) rfl
                · skip
                  refine lv_lload_n hx hb dX6_holds_50 rfl (lv_at hl 2 rfl) ?_
                  refine lv_lconst (v := 0) hx hb dX6_holds_51 (by decide) ?_
                  refine W.lcmp hx hb dX6_holds_52 ?_
                  refine lv_topi (fun x_39 ex_39 => ?_)
                  refine lv_if_eq (tgt := 60) hx hb dX6_holds_53 (by decide) (fun c_40 => ?_) (fun c_40 => ?_)
                  · skip
                    refine lv_iconst (v := 0) hx hb dX6_holds_60 (by decide) ?_
                    have hp_41 : ((0 : Int32).toInt = 0 ∨ (0 : Int32).toInt = 1) := by
                      have z_1 : ¬ (x_36 : Int32).toInt = (0 : Int32).toInt := fun z => c_37 (Int32.toInt_inj.mp z)
                      have z_2 := congrArg Int32.toInt c_40
                      have y_0 : (0 : Int32).toInt = 0 := by decide
                      omega
                    exact retI (v := 0) hx hb hr hlk (rfl) hP hD hS () ⟨_, rfl, hp_41⟩ [] rfl rfl dX6_holds_61 (Nat.le_of_ble_eq_true rfl) (Nat.le_of_ble_eq_true rfl) rfl
                  · skip
                    refine lv_iconst (v := 1) hx hb dX6_holds_56 (by decide) ?_
                    refine lv_goto (tgt := 61) hx hb dX6_holds_57 (by decide) ?_
                    have hp_42 : ((1 : Int32).toInt = 0 ∨ (1 : Int32).toInt = 1) := by
                      have z_1 : ¬ (x_36 : Int32).toInt = (0 : Int32).toInt := fun z => c_37 (Int32.toInt_inj.mp z)
                      have z_2 : ¬ (x_39 : Int32).toInt = (0 : Int32).toInt := fun z => c_40 (Int32.toInt_inj.mp z)
                      have y_0 : (0 : Int32).toInt = 0 := by decide
                      have y_1 : (1 : Int32).toInt = 1 := by decide
                      have yr : (1 : Int32).toInt = 1 := by decide
                      omega
                    exact retI (v := 1) hx hb hr hlk (rfl) hP hD hS () ⟨_, rfl, hp_42⟩ [] rfl rfl dX6_holds_61 (Nat.le_of_ble_eq_true rfl) (Nat.le_of_ble_eq_true rfl) rfl
              · skip
                have ho_43 : (x_1 : Int32).toInt < -11 ∨ -5 < (x_1 : Int32).toInt := by
                  have z_1 : ¬ (x_1 : Int32).toInt = ((-11) : Int32).toInt := fun z => c_2 (Int32.toInt_inj.mp z)
                  have z_2 : ¬ (x_1 : Int32).toInt = ((-10) : Int32).toInt := fun z => c_7 (Int32.toInt_inj.mp z)
                  have z_3 : ¬ (x_1 : Int32).toInt = ((-9) : Int32).toInt := fun z => c_12 (Int32.toInt_inj.mp z)
                  have z_4 : ¬ (x_1 : Int32).toInt = ((-8) : Int32).toInt := fun z => c_17 (Int32.toInt_inj.mp z)
                  have z_5 : ¬ (x_1 : Int32).toInt = ((-7) : Int32).toInt := fun z => c_22 (Int32.toInt_inj.mp z)
                  have z_6 : ¬ (x_1 : Int32).toInt = ((-6) : Int32).toInt := fun z => c_27 (Int32.toInt_inj.mp z)
                  have z_7 : ¬ (x_1 : Int32).toInt = ((-5) : Int32).toInt := fun z => c_35 (Int32.toInt_inj.mp z)
                  have y_m11 : (-11 : Int32).toInt = -11 := by decide
                  have y_m10 : (-10 : Int32).toInt = -10 := by decide
                  have y_m9 : (-9 : Int32).toInt = -9 := by decide
                  have y_m8 : (-8 : Int32).toInt = -8 := by decide
                  have y_m7 : (-7 : Int32).toInt = -7 := by decide
                  have y_m6 : (-6 : Int32).toInt = -6 := by decide
                  have y_m5 : (-5 : Int32).toInt = -5 := by decide
                  omega
                refine lv_tableOut (tgt := 140) hx hb dX6_holds_1 ho_43 (by decide) ?_
                refine lv_iconst (v := 0) hx hb dX6_holds_140 (by decide) ?_
                have hp_44 : ((0 : Int32).toInt = 0 ∨ (0 : Int32).toInt = 1) := by
                  have z_1 : ¬ (x_1 : Int32).toInt = ((-11) : Int32).toInt := fun z => c_2 (Int32.toInt_inj.mp z)
                  have z_2 : ¬ (x_1 : Int32).toInt = ((-10) : Int32).toInt := fun z => c_7 (Int32.toInt_inj.mp z)
                  have z_3 : ¬ (x_1 : Int32).toInt = ((-9) : Int32).toInt := fun z => c_12 (Int32.toInt_inj.mp z)
                  have z_4 : ¬ (x_1 : Int32).toInt = ((-8) : Int32).toInt := fun z => c_17 (Int32.toInt_inj.mp z)
                  have z_5 : ¬ (x_1 : Int32).toInt = ((-7) : Int32).toInt := fun z => c_22 (Int32.toInt_inj.mp z)
                  have z_6 : ¬ (x_1 : Int32).toInt = ((-6) : Int32).toInt := fun z => c_27 (Int32.toInt_inj.mp z)
                  have z_7 : ¬ (x_1 : Int32).toInt = ((-5) : Int32).toInt := fun z => c_35 (Int32.toInt_inj.mp z)
                  have y_m11 : (-11 : Int32).toInt = -11 := by decide
                  have y_m10 : (-10 : Int32).toInt = -10 := by decide
                  have y_m9 : (-9 : Int32).toInt = -9 := by decide
                  have y_m8 : (-8 : Int32).toInt = -8 := by decide
                  have y_m7 : (-7 : Int32).toInt = -7 := by decide
                  have y_m6 : (-6 : Int32).toInt = -6 := by decide
                  have y_m5 : (-5 : Int32).toInt = -5 := by decide
                  have y_0 : (0 : Int32).toInt = 0 := by decide
                  have yr : (0 : Int32).toInt = 0 := by decide
                  omega
                exact retI (v := 0) hx hb hr hlk (rfl) hP hD hS () ⟨_, rfl, hp_44⟩ [] rfl rfl dX6_holds_141 (Nat.le_of_ble_eq_true rfl) (Nat.le_of_ble_eq_true rfl) rfl
set_option maxHeartbeats 4000000 in
set_option maxRecDepth 100000 in
theorem ct_X6_joined (l : Launch) (D : va_G) (tc : Nat → ClassId) (sk : (Nat → Nat) × (Nat → Nat)) (x1 : Int32) (w1 : Int64) (w2 : Int64)  : Ct l yX6_joined cX6_joined 5 (some .long) { frames := 1, cells := 0, slots := 0, locals := 24 } D tc sk [.int x1, .long w1, .long w2] [] (fun (v : Option Value) (_ : Unit) => ∃ r : Int64, v = some (.long r) ∧ (True)) (fun (_ : Unit) => []) 0 0 := by
  refine Ct.start (by decide) (Nat.le_of_ble_eq_true rfl) (fun p e s m below meth c A ls hx hb hr hlk hin hml hown hts hK hX hP hD hA hl hS => ?_)
  have hl : lv_has ls 5 [(0, .int x1), (1, .long w1), (3, .long w2)] := hl
  refine lv_iload_n hx hb dX6_joined_0 rfl (lv_at hl 0 rfl) ?_
  refine lv_topi (fun x_1 ex_1 => ?_)
  by_cases c_2 : x_1 = -16
  · skip
    subst c_2
    refine lv_tableIn (off := 61) (tgt := 62) hx hb dX6_joined_1 (by decide) (by decide) (by decide) (by decide) ?_
    refine lv_lload_n hx hb dX6_joined_62 rfl (lv_at hl 2 rfl) ?_
    refine lv_lconst (v := 0) hx hb dX6_joined_63 (by decide) ?_
    refine W.lcmp hx hb dX6_joined_64 ?_
    refine lv_topi (fun x_3 ex_3 => ?_)
    refine lv_if_ne (tgt := 72) hx hb dX6_joined_65 (by decide) (fun c_4 => ?_) (fun c_4 => ?_)
    · skip
      refine lv_lload_n hx hb dX6_joined_72 rfl (lv_at hl 1 rfl) ?_
      refine lv_lload_n hx hb dX6_joined_73 rfl (lv_at hl 2 rfl) ?_
      have hz_5 : ¬ w2 = 0 := fun z => c_4 (ex_3.trans ((lg_cmp_eq _ _).mpr z))
      refine lv_lrem hx hb dX6_joined_74 hz_5 ?_
      refine lv_topl (fun x_6 ex_6 => ?_)
      exact retL (v := x_6) hx hb hr hlk hP hD hS () ⟨_, rfl, trivial⟩ [] rfl rfl dX6_joined_75 (Nat.le_of_ble_eq_true rfl) (Nat.le_of_ble_eq_true rfl) rfl
    · skip
      refine lv_lconst (v := 0) hx hb dX6_joined_68 (by decide) ?_
      refine lv_goto (tgt := 75) hx hb dX6_joined_69 (by decide) ?_
      exact retL (v := 0) hx hb hr hlk hP hD hS () ⟨_, rfl, trivial⟩ [] rfl rfl dX6_joined_75 (Nat.le_of_ble_eq_true rfl) (Nat.le_of_ble_eq_true rfl) rfl
  · skip
    by_cases c_7 : x_1 = -15
    · skip
      subst c_7
      refine lv_tableIn (off := 47) (tgt := 48) hx hb dX6_joined_1 (by decide) (by decide) (by decide) (by decide) ?_
      refine lv_lload_n hx hb dX6_joined_48 rfl (lv_at hl 2 rfl) ?_
      refine lv_lconst (v := 0) hx hb dX6_joined_49 (by decide) ?_
      refine W.lcmp hx hb dX6_joined_50 ?_
      refine lv_topi (fun x_8 ex_8 => ?_)
      refine lv_if_ne (tgt := 58) hx hb dX6_joined_51 (by decide) (fun c_9 => ?_) (fun c_9 => ?_)
      · skip
        refine lv_lload_n hx hb dX6_joined_58 rfl (lv_at hl 1 rfl) ?_
        refine lv_lload_n hx hb dX6_joined_59 rfl (lv_at hl 2 rfl) ?_
        have hz_10 : ¬ w2 = 0 := fun z => c_9 (ex_8.trans ((lg_cmp_eq _ _).mpr z))
        refine lv_ldiv hx hb dX6_joined_60 hz_10 ?_
        refine lv_topl (fun x_11 ex_11 => ?_)
        exact retL (v := x_11) hx hb hr hlk hP hD hS () ⟨_, rfl, trivial⟩ [] rfl rfl dX6_joined_61 (Nat.le_of_ble_eq_true rfl) (Nat.le_of_ble_eq_true rfl) rfl
      · skip
        refine lv_lconst (v := 0) hx hb dX6_joined_54 (by decide) ?_
        refine lv_goto (tgt := 61) hx hb dX6_joined_55 (by decide) ?_
        exact retL (v := 0) hx hb hr hlk hP hD hS () ⟨_, rfl, trivial⟩ [] rfl rfl dX6_joined_61 (Nat.le_of_ble_eq_true rfl) (Nat.le_of_ble_eq_true rfl) rfl
    · skip
      by_cases c_12 : x_1 = -14
      · skip
        subst c_12
        refine lv_tableIn (off := 43) (tgt := 44) hx hb dX6_joined_1 (by decide) (by decide) (by decide) (by decide) ?_
        refine lv_lload_n hx hb dX6_joined_44 rfl (lv_at hl 1 rfl) ?_
        refine lv_lload_n hx hb dX6_joined_45 rfl (lv_at hl 2 rfl) ?_
        refine lv_lmul hx hb dX6_joined_46 ?_
        refine lv_topl (fun x_13 ex_13 => ?_)
        exact retL (v := x_13) hx hb hr hlk hP hD hS () ⟨_, rfl, trivial⟩ [] rfl rfl dX6_joined_47 (Nat.le_of_ble_eq_true rfl) (Nat.le_of_ble_eq_true rfl) rfl
      · skip
        by_cases c_14 : x_1 = -13
        · skip
          subst c_14
          refine lv_tableIn (off := 39) (tgt := 40) hx hb dX6_joined_1 (by decide) (by decide) (by decide) (by decide) ?_
          refine lv_lload_n hx hb dX6_joined_40 rfl (lv_at hl 1 rfl) ?_
          refine lv_lload_n hx hb dX6_joined_41 rfl (lv_at hl 2 rfl) ?_
          refine lv_lsub hx hb dX6_joined_42 ?_
          refine lv_topl (fun x_15 ex_15 => ?_)
          exact retL (v := x_15) hx hb hr hlk hP hD hS () ⟨_, rfl, trivial⟩ [] rfl rfl dX6_joined_43 (Nat.le_of_ble_eq_true rfl) (Nat.le_of_ble_eq_true rfl) rfl
        · skip
          by_cases c_16 : x_1 = -12
          · skip
            subst c_16
            refine lv_tableIn (off := 35) (tgt := 36) hx hb dX6_joined_1 (by decide) (by decide) (by decide) (by decide) ?_
            refine lv_lload_n hx hb dX6_joined_36 rfl (lv_at hl 1 rfl) ?_
            refine lv_lload_n hx hb dX6_joined_37 rfl (lv_at hl 2 rfl) ?_
            refine lv_ladd hx hb dX6_joined_38 ?_
            refine lv_topl (fun x_17 ex_17 => ?_)
            exact retL (v := x_17) hx hb hr hlk hP hD hS () ⟨_, rfl, trivial⟩ [] rfl rfl dX6_joined_39 (Nat.le_of_ble_eq_true rfl) (Nat.le_of_ble_eq_true rfl) rfl
          · skip
            have ho_18 : (x_1 : Int32).toInt < -16 ∨ -12 < (x_1 : Int32).toInt := by
              have z_1 : ¬ (x_1 : Int32).toInt = ((-16) : Int32).toInt := fun z => c_2 (Int32.toInt_inj.mp z)
              have z_2 : ¬ (x_1 : Int32).toInt = ((-15) : Int32).toInt := fun z => c_7 (Int32.toInt_inj.mp z)
              have z_3 : ¬ (x_1 : Int32).toInt = ((-14) : Int32).toInt := fun z => c_12 (Int32.toInt_inj.mp z)
              have z_4 : ¬ (x_1 : Int32).toInt = ((-13) : Int32).toInt := fun z => c_14 (Int32.toInt_inj.mp z)
              have z_5 : ¬ (x_1 : Int32).toInt = ((-12) : Int32).toInt := fun z => c_16 (Int32.toInt_inj.mp z)
              have y_m16 : (-16 : Int32).toInt = -16 := by decide
              have y_m15 : (-15 : Int32).toInt = -15 := by decide
              have y_m14 : (-14 : Int32).toInt = -14 := by decide
              have y_m13 : (-13 : Int32).toInt = -13 := by decide
              have y_m12 : (-12 : Int32).toInt = -12 := by decide
              omega
            refine lv_tableOut (tgt := 76) hx hb dX6_joined_1 ho_18 (by decide) ?_
            refine lv_iload_n hx hb dX6_joined_76 rfl (lv_at hl 0 rfl) ?_
            refine lv_lload_n hx hb dX6_joined_77 rfl (lv_at hl 1 rfl) ?_
            refine lv_lload_n hx hb dX6_joined_78 rfl (lv_at hl 2 rfl) ?_
            refine cS (As := [.int x1, .long w1, .long w2]) (rest := []) (wr := []) ⟨hx, hb, hml, hown, hts⟩ hK hX hA (ct_X6_holds l D tc sk x1 w1 w2) k_768 k_766 k_767 k_112 pl_X6_holds ⟨Nat.le_of_ble_eq_true rfl, Nat.le_of_ble_eq_true rfl⟩ rfl rfl  hP hD hS [] [] rfl rfl rfl rfl rfl (by decide) rfl hl.1 rfl (Nat.le_of_ble_eq_true rfl) dX6_joined_79 ⟨Nat.le_of_ble_eq_true rfl, Nat.le_of_ble_eq_true rfl⟩ (fun v_19 u_20 H locs hv_21 hP hD hS => ?_)
            obtain ⟨r_22, rfl, he_23⟩ := hv_21
            have he_23 : ((r_22.toInt = 0 ∨ r_22.toInt = 1)) := he_23
            refine W.eq (g2 := F0 m 82 ls [.int r_22]) rfl ?_
            have hP : va_P D classes [] H := hP
            have hD : va_D A [] := hD
            refine lv_if_eq (tgt := 89) hx hb dX6_joined_82 (by decide) (fun c_24 => ?_) (fun c_24 => ?_)
            · skip
              refine lv_lconst (v := 0) hx hb dX6_joined_89 (by decide) ?_
              exact retL (v := 0) hx hb hr hlk hP hD hS () ⟨_, rfl, trivial⟩ [] rfl rfl dX6_joined_90 (Nat.le_of_ble_eq_true rfl) (Nat.le_of_ble_eq_true rfl) rfl
            · skip
              refine lv_lconst (v := 1) hx hb dX6_joined_85 (by decide) ?_
              refine lv_goto (tgt := 90) hx hb dX6_joined_86 (by decide) ?_
              exact retL (v := 1) hx hb hr hlk hP hD hS () ⟨_, rfl, trivial⟩ [] rfl rfl dX6_joined_90 (Nat.le_of_ble_eq_true rfl) (Nat.le_of_ble_eq_true rfl) rfl
set_option maxHeartbeats 4000000 in
set_option maxRecDepth 100000 in
theorem ct_X6_sumFor (l : Launch) (D : va_G) (tc : Nat → ClassId) (sk : (Nat → Nat) × (Nat → Nat)) (Ra : Nat → Nat) (Rf : Nat → Nat → Int32) (Rg : Nat → Nat → Int64) (Rn : Nat) (Aa : Nat → Nat) (Av : Nat → Int32) (Af : Nat → Nat → Int32) (x1 : Int32) (hRn : Rn ≤ 400) : Ct l yX6_sumFor cX6_sumFor 6 (some .long) { frames := 3, cells := 0, slots := 0, locals := 64 } D tc sk [.ref (Ra 0), .ref (Aa 0), .int x1] [((Ra 0), .inr (6, [.ref (Ra 1), .ref (Ra 2)])), ((Ra 1), .inl (tc 0, Rn, .inl (Rf 1))), ((Ra 2), .inl (tc 1, 64, .inr (.inl (Rg 2)))), ((Aa 0), .inr (9, [.int (Av 0), .int (Av 1), .int (Av 2), .int (Av 3), .int (Av 4), .int (Av 5), .ref (Aa 1), .ref (Aa 2), .ref (Aa 3), .ref (Aa 4), .ref (Aa 5), .ref (Aa 6), .ref (Aa 7), .ref (Aa 8)])), ((Aa 1), .inl (tc 0, 10, .inl (Af 1))), ((Aa 2), .inl (tc 0, 10, .inl (Af 2))), ((Aa 3), .inl (tc 0, 6, .inl (Af 3))), ((Aa 4), .inl (tc 0, 6, .inl (Af 4))), ((Aa 5), .inl (tc 0, 6, .inl (Af 5))), ((Aa 6), .inl (tc 0, 6, .inl (Af 6))), ((Aa 7), .inl (tc 0, 6, .inl (Af 7))), ((Aa 8), .inl (tc 0, 6, .inl (Af 8)))] (fun (v : Option Value) (o1 : Nat → Int64) => ∃ r : Int64, v = some (.long r) ∧ (True)) (fun (o1 : Nat → Int64) => [((Ra 0), .inr (6, [.ref (Ra 1), .ref (Ra 2)])), ((Ra 1), .inl (tc 0, Rn, .inl (Rf 1))), ((Ra 2), .inl (tc 1, 64, .inr (.inl o1))), ((Aa 0), .inr (9, [.int (Av 0), .int (Av 1), .int (Av 2), .int (Av 3), .int (Av 4), .int (Av 5), .ref (Aa 1), .ref (Aa 2), .ref (Aa 3), .ref (Aa 4), .ref (Aa 5), .ref (Aa 6), .ref (Aa 7), .ref (Aa 8)])), ((Aa 1), .inl (tc 0, 10, .inl (Af 1))), ((Aa 2), .inl (tc 0, 10, .inl (Af 2))), ((Aa 3), .inl (tc 0, 6, .inl (Af 3))), ((Aa 4), .inl (tc 0, 6, .inl (Af 4))), ((Aa 5), .inl (tc 0, 6, .inl (Af 5))), ((Aa 6), .inl (tc 0, 6, .inl (Af 6))), ((Aa 7), .inl (tc 0, 6, .inl (Af 7))), ((Aa 8), .inl (tc 0, 6, .inl (Af 8)))]) 0 0 := by
  refine Ct.start (by decide) (Nat.le_of_ble_eq_true rfl) (fun p e s m below meth c A ls hx hb hr hlk hin hml hown hts hK hX hP hD hA hl hS => ?_)
  have hl : lv_has ls 6 [(0, .ref (Ra 0)), (1, .ref (Aa 0)), (2, .int x1)] := hl
  refine lv_iconst (v := 0) hx hb dX6_sumFor_0 (by decide) ?_
  refine lv_istore_n (lv' := [(3, .int 0), (0, .ref (Ra 0)), (1, .ref (Aa 0)), (2, .int x1)]) hx hb dX6_sumFor_1 rfl hl (by decide) rfl (fun ls hl => ?_)
  refine lv_iconst (v := 0) hx hb dX6_sumFor_2 (by decide) ?_
  refine lv_istore (lv' := [(4, .int 0), (3, .int 0), (0, .ref (Ra 0)), (1, .ref (Aa 0)), (2, .int x1)]) hx hb dX6_sumFor_3 hl (by decide) rfl (fun ls hl => ?_)
  have loop_10 : ∀ (n_8 : Nat) (vy_5 : Int32) (vy_6 : Int32) (vy_7 : Nat → Int64) (H : Heap) (locs : List Loc) (ls : Array Slot), 0 ≤ (vy_5 : Int32).toInt → (400 - (vy_5 : Int32).toInt).toNat < n_8 → va_P D classes [((Ra 0), .inr (6, [.ref (Ra 1), .ref (Ra 2)])), ((Ra 1), .inl (tc 0, Rn, .inl (Rf 1))), ((Ra 2), .inl (tc 1, 64, .inr (.inl vy_7))), ((Aa 0), .inr (9, [.int (Av 0), .int (Av 1), .int (Av 2), .int (Av 3), .int (Av 4), .int (Av 5), .ref (Aa 1), .ref (Aa 2), .ref (Aa 3), .ref (Aa 4), .ref (Aa 5), .ref (Aa 6), .ref (Aa 7), .ref (Aa 8)])), ((Aa 1), .inl (tc 0, 10, .inl (Af 1))), ((Aa 2), .inl (tc 0, 10, .inl (Af 2))), ((Aa 3), .inl (tc 0, 6, .inl (Af 3))), ((Aa 4), .inl (tc 0, 6, .inl (Af 4))), ((Aa 5), .inl (tc 0, 6, .inl (Af 5))), ((Aa 6), .inl (tc 0, 6, .inl (Af 6))), ((Aa 7), .inl (tc 0, 6, .inl (Af 7))), ((Aa 8), .inl (tc 0, 6, .inl (Af 8)))] H → va_D A [((Ra 0), .inr (6, [.ref (Ra 1), .ref (Ra 2)])), ((Ra 1), .inl (tc 0, Rn, .inl (Rf 1))), ((Ra 2), .inl (tc 1, 64, .inr (.inl vy_7))), ((Aa 0), .inr (9, [.int (Av 0), .int (Av 1), .int (Av 2), .int (Av 3), .int (Av 4), .int (Av 5), .ref (Aa 1), .ref (Aa 2), .ref (Aa 3), .ref (Aa 4), .ref (Aa 5), .ref (Aa 6), .ref (Aa 7), .ref (Aa 8)])), ((Aa 1), .inl (tc 0, 10, .inl (Af 1))), ((Aa 2), .inl (tc 0, 10, .inl (Af 2))), ((Aa 3), .inl (tc 0, 6, .inl (Af 3))), ((Aa 4), .inl (tc 0, 6, .inl (Af 4))), ((Aa 5), .inl (tc 0, 6, .inl (Af 5))), ((Aa 6), .inl (tc 0, 6, .inl (Af 6))), ((Aa 7), .inl (tc 0, 6, .inl (Af 7))), ((Aa 8), .inl (tc 0, 6, .inl (Af 8)))] → va_S A s.heap H locs → lv_has ls 6 [(4, .int vy_5), (3, .int vy_6), (0, .ref (Ra 0)), (1, .ref (Aa 0)), (2, .int x1)] → W p l e ({ frames := 3, cells := 0, slots := 0, locals := 64 }) s m ([.ref (Ra 0), .ref (Aa 0), .int x1].toArray) below meth c H locs 0 0 (MQ below (QW (fun (v : Option Value) (o1 : Nat → Int64) => ∃ r : Int64, v = some (.long r) ∧ (True)) (BW D (fun (o1 : Nat → Int64) => [((Ra 0), .inr (6, [.ref (Ra 1), .ref (Ra 2)])), ((Ra 1), .inl (tc 0, Rn, .inl (Rf 1))), ((Ra 2), .inl (tc 1, 64, .inr (.inl o1))), ((Aa 0), .inr (9, [.int (Av 0), .int (Av 1), .int (Av 2), .int (Av 3), .int (Av 4), .int (Av 5), .ref (Aa 1), .ref (Aa 2), .ref (Aa 3), .ref (Aa 4), .ref (Aa 5), .ref (Aa 6), .ref (Aa 7), .ref (Aa 8)])), ((Aa 1), .inl (tc 0, 10, .inl (Af 1))), ((Aa 2), .inl (tc 0, 10, .inl (Af 2))), ((Aa 3), .inl (tc 0, 6, .inl (Af 3))), ((Aa 4), .inl (tc 0, 6, .inl (Af 4))), ((Aa 5), .inl (tc 0, 6, .inl (Af 5))), ((Aa 6), .inl (tc 0, 6, .inl (Af 6))), ((Aa 7), .inl (tc 0, 6, .inl (Af 7))), ((Aa 8), .inl (tc 0, 6, .inl (Af 8)))]) A) A) ([.ref (Ra 0), .ref (Aa 0), .int x1].toArray) s 0 0 A) (F0 m 5 ls []) := by
    intro n_8
    induction n_8 with
    | zero =>
      intro vy_5 vy_6 vy_7 H locs ls h1 h2
      exact absurd h2 (Nat.not_lt_zero _)
    | succ n_8 ih_9 =>
      intro vy_5 vy_6 vy_7 H locs ls hi_12 hn_13 hP hD hS hl
      refine lv_iload hx hb dX6_sumFor_5 (lv_at hl 0 rfl) ?_
      refine lv_aload_n hx hb dX6_sumFor_7 rfl (lv_at hl 2 rfl) ?_
      refine gf_X6_13 hx hb hts hown hK hP 0 rfl rfl dX6_sumFor_8 ?_
      refine va_alen hx hb hK hP 1 0 rfl rfl (v := nI Rn) rfl dX6_sumFor_11 ?_
      refine lv_icmp_ge (tgt := 252) hx hb dX6_sumFor_12 (by decide) (fun c_14 => ?_) (fun c_14 => ?_)
      · skip
        refine lv_lconst (v := 0) hx hb dX6_sumFor_252 (by decide) ?_
        exact retL (v := 0) hx hb hr hlk hP hD hS vy_7 ⟨_, rfl, trivial⟩ [0, 1, 2, 3, 4, 5, 6, 7, 8, 9, 10, 11] rfl rfl dX6_sumFor_253 (Nat.le_of_ble_eq_true rfl) (Nat.le_of_ble_eq_true rfl) rfl
      · skip
        refine lv_aload_n hx hb dX6_sumFor_15 rfl (lv_at hl 2 rfl) ?_
        refine gf_X6_13 hx hb hts hown hK hP 0 rfl rfl dX6_sumFor_16 ?_
        refine lv_iload hx hb dX6_sumFor_19 (lv_at hl 0 rfl) ?_
        have hi_15 : vp_in vy_5 Rn := by
          have z_1 := Int32.lt_iff_toInt_lt.mp (Int32.not_le.mp c_14)
          have n_0 : (nI Rn).toInt = ((Rn : Nat) : Int) := nI_toInt (by omega)
          refine vp_in_iff.mpr ⟨?_, ?_⟩ <;> omega
        refine va_iald hx hb hK hP 1 0 rfl rfl hi_15 dX6_sumFor_21 ?_
        refine lv_topi (fun x_16 ex_16 => ?_)
        refine lv_istore (lv' := [(5, .int x_16), (4, .int vy_5), (3, .int vy_6), (0, .ref (Ra 0)), (1, .ref (Aa 0)), (2, .int x1)]) hx hb dX6_sumFor_22 hl (by decide) rfl (fun ls hl => ?_)
        refine lv_iload hx hb dX6_sumFor_24 (lv_at hl 0 rfl) ?_
        refine lv_if_lt (tgt := 79) hx hb dX6_sumFor_26 (by decide) (fun c_17 => ?_) (fun c_17 => ?_)
        · skip
          refine lv_iload hx hb dX6_sumFor_79 (lv_at hl 0 rfl) ?_
          refine lv_bipush (v := (-2)) hx hb dX6_sumFor_81 (by decide) ?_
          refine lv_icmp_ne (tgt := 113) hx hb dX6_sumFor_83 (by decide) (fun c_18 => ?_) (fun c_18 => ?_)
          · skip
            refine lv_iload hx hb dX6_sumFor_113 (lv_at hl 0 rfl) ?_
            refine lv_bipush (v := (-4)) hx hb dX6_sumFor_115 (by decide) ?_
            refine lv_icmp_ne (tgt := 163) hx hb dX6_sumFor_117 (by decide) (fun c_19 => ?_) (fun c_19 => ?_)
            · skip
              refine lv_iload_n hx hb dX6_sumFor_163 rfl (lv_at hl 2 rfl) ?_
              refine lv_iconst (v := 2) hx hb dX6_sumFor_164 (by decide) ?_
              refine lv_icmp_lt (tgt := 177) hx hb dX6_sumFor_165 (by decide) (fun c_20 => ?_) (fun c_20 => ?_)
              · skip
                refine lv_lconst (v := 0) hx hb dX6_sumFor_177 (by decide) ?_
                exact retL (v := 0) hx hb hr hlk hP hD hS vy_7 ⟨_, rfl, trivial⟩ [0, 1, 2, 3, 4, 5, 6, 7, 8, 9, 10, 11] rfl rfl dX6_sumFor_178 (Nat.le_of_ble_eq_true rfl) (Nat.le_of_ble_eq_true rfl) rfl
              · skip
                refine lv_iload_n hx hb dX6_sumFor_168 rfl (lv_at hl 2 rfl) ?_
                refine lv_aload_n hx hb dX6_sumFor_169 rfl (lv_at hl 3 rfl) ?_
                refine gf_X6_9 hx hb hts hown hK hP 0 rfl rfl dX6_sumFor_170 ?_
                refine va_alen hx hb hK hP 2 1 rfl rfl (v := 64) rfl dX6_sumFor_173 ?_
                refine lv_icmp_le (tgt := 179) hx hb dX6_sumFor_174 (by decide) (fun c_21 => ?_) (fun c_21 => ?_)
                · skip
                  refine lv_iload hx hb dX6_sumFor_179 (lv_at hl 0 rfl) ?_
                  refine lv_bipush (v := (-3)) hx hb dX6_sumFor_181 (by decide) ?_
                  refine lv_icmp_ne (tgt := 214) hx hb dX6_sumFor_183 (by decide) (fun c_22 => ?_) (fun c_22 => ?_)
                  · skip
                    refine lv_aload_n hx hb dX6_sumFor_214 rfl (lv_at hl 3 rfl) ?_
                    refine gf_X6_9 hx hb hts hown hK hP 0 rfl rfl dX6_sumFor_215 ?_
                    refine lv_iload_n hx hb dX6_sumFor_218 rfl (lv_at hl 2 rfl) ?_
                    refine lv_iconst (v := 2) hx hb dX6_sumFor_219 (by decide) ?_
                    refine lv_isub hx hb dX6_sumFor_220 ?_
                    refine lv_topi (fun x_23 ex_23 => ?_)
                    refine lv_iload hx hb dX6_sumFor_221 (lv_at hl 0 rfl) ?_
                    refine lv_aload_n hx hb dX6_sumFor_223 rfl (lv_at hl 3 rfl) ?_
                    refine gf_X6_9 hx hb hts hown hK hP 0 rfl rfl dX6_sumFor_224 ?_
                    refine lv_iload_n hx hb dX6_sumFor_227 rfl (lv_at hl 2 rfl) ?_
                    refine lv_iconst (v := 2) hx hb dX6_sumFor_228 (by decide) ?_
                    refine lv_isub hx hb dX6_sumFor_229 ?_
                    refine lv_topi (fun x_24 ex_24 => ?_)
                    have hi_25 : vp_in x_24 64 := by
                      have z_1 := Int32.lt_iff_toInt_lt.mp (Int32.not_le.mp c_14)
                      have z_2 := Int32.lt_iff_toInt_lt.mp c_17
                      have z_3 : ¬ (x_16 : Int32).toInt = ((-2) : Int32).toInt := fun z => c_18 (Int32.toInt_inj.mp z)
                      have z_4 : ¬ (x_16 : Int32).toInt = ((-4) : Int32).toInt := fun z => c_19 (Int32.toInt_inj.mp z)
                      have z_5 := Int32.le_iff_toInt_le.mp (Int32.not_lt.mp c_20)
                      have z_6 := Int32.le_iff_toInt_le.mp c_21
                      have z_7 : ¬ (x_16 : Int32).toInt = ((-3) : Int32).toInt := fun z => c_22 (Int32.toInt_inj.mp z)
                      have y_m4 : (-4 : Int32).toInt = -4 := by decide
                      have y_m3 : (-3 : Int32).toInt = -3 := by decide
                      have y_m2 : (-2 : Int32).toInt = -2 := by decide
                      have y_0 : (0 : Int32).toInt = 0 := by decide
                      have y_2 : (2 : Int32).toInt = 2 := by decide
                      have y_64 : (64 : Int32).toInt = 64 := by decide
                      have n_0 : (nI Rn).toInt = ((Rn : Nat) : Int) := nI_toInt (by omega)
                      have t_x_24 : x_24.toInt = (vy_6 : Int32).toInt - (2 : Int32).toInt := by rw [ex_24]; exact sub_toInt (by omega) (by omega)
                      refine vp_in_iff.mpr ⟨?_, ?_⟩ <;> omega
                    refine va_lald hx hb hK hP 2 1 rfl rfl hi_25 dX6_sumFor_230 ?_
                    refine lv_topl (fun x_26 ex_26 => ?_)
                    refine lv_aload_n hx hb dX6_sumFor_231 rfl (lv_at hl 3 rfl) ?_
                    refine gf_X6_9 hx hb hts hown hK hP 0 rfl rfl dX6_sumFor_232 ?_
                    refine lv_iload_n hx hb dX6_sumFor_235 rfl (lv_at hl 2 rfl) ?_
                    refine lv_iconst (v := 1) hx hb dX6_sumFor_236 (by decide) ?_
                    refine lv_isub hx hb dX6_sumFor_237 ?_
                    refine lv_topi (fun x_27 ex_27 => ?_)
                    have hi_28 : vp_in x_27 64 := by
                      have z_1 := Int32.lt_iff_toInt_lt.mp (Int32.not_le.mp c_14)
                      have z_2 := Int32.lt_iff_toInt_lt.mp c_17
                      have z_3 : ¬ (x_16 : Int32).toInt = ((-2) : Int32).toInt := fun z => c_18 (Int32.toInt_inj.mp z)
                      have z_4 : ¬ (x_16 : Int32).toInt = ((-4) : Int32).toInt := fun z => c_19 (Int32.toInt_inj.mp z)
                      have z_5 := Int32.le_iff_toInt_le.mp (Int32.not_lt.mp c_20)
                      have z_6 := Int32.le_iff_toInt_le.mp c_21
                      have z_7 : ¬ (x_16 : Int32).toInt = ((-3) : Int32).toInt := fun z => c_22 (Int32.toInt_inj.mp z)
                      have y_m4 : (-4 : Int32).toInt = -4 := by decide
                      have y_m3 : (-3 : Int32).toInt = -3 := by decide
                      have y_m2 : (-2 : Int32).toInt = -2 := by decide
                      have y_0 : (0 : Int32).toInt = 0 := by decide
                      have y_2 : (2 : Int32).toInt = 2 := by decide
                      have y_64 : (64 : Int32).toInt = 64 := by decide
                      have n_0 : (nI Rn).toInt = ((Rn : Nat) : Int) := nI_toInt (by omega)
                      have y_1 : (1 : Int32).toInt = 1 := by decide
                      have t_x_27 : x_27.toInt = (vy_6 : Int32).toInt - (1 : Int32).toInt := by rw [ex_27]; exact sub_toInt (by omega) (by omega)
                      refine vp_in_iff.mpr ⟨?_, ?_⟩ <;> omega
                    refine va_lald hx hb hK hP 2 1 rfl rfl hi_28 dX6_sumFor_238 ?_
                    refine lv_topl (fun x_29 ex_29 => ?_)
                    refine cS (As := [.int x_16, .long x_26, .long x_29]) (rest := [.int x_23, .ref (Ra 2)]) (wr := [((Ra 0), .inr (6, [.ref (Ra 1), .ref (Ra 2)])), ((Ra 1), .inl (tc 0, Rn, .inl (Rf 1))), ((Ra 2), .inl (tc 1, 64, .inr (.inl vy_7))), ((Aa 0), .inr (9, [.int (Av 0), .int (Av 1), .int (Av 2), .int (Av 3), .int (Av 4), .int (Av 5), .ref (Aa 1), .ref (Aa 2), .ref (Aa 3), .ref (Aa 4), .ref (Aa 5), .ref (Aa 6), .ref (Aa 7), .ref (Aa 8)])), ((Aa 1), .inl (tc 0, 10, .inl (Af 1))), ((Aa 2), .inl (tc 0, 10, .inl (Af 2))), ((Aa 3), .inl (tc 0, 6, .inl (Af 3))), ((Aa 4), .inl (tc 0, 6, .inl (Af 4))), ((Aa 5), .inl (tc 0, 6, .inl (Af 5))), ((Aa 6), .inl (tc 0, 6, .inl (Af 6))), ((Aa 7), .inl (tc 0, 6, .inl (Af 7))), ((Aa 8), .inl (tc 0, 6, .inl (Af 8)))]) ⟨hx, hb, hml, hown, hts⟩ hK hX hA (ct_X6_joined l D tc sk x_16 x_26 x_29) k_765 k_763 k_764 k_112 pl_X6_joined ⟨Nat.le_of_ble_eq_true rfl, Nat.le_of_ble_eq_true rfl⟩ rfl rfl  hP hD hS [] [0, 1, 2, 3, 4, 5, 6, 7, 8, 9, 10, 11] rfl rfl rfl rfl rfl (by decide) rfl hl.1 rfl (Nat.le_of_ble_eq_true rfl) dX6_sumFor_239 ⟨Nat.le_of_ble_eq_true rfl, Nat.le_of_ble_eq_true rfl⟩ (fun v_30 u_31 H locs hv_32 hP hD hS => ?_)
                    obtain ⟨r_33, rfl, he_34⟩ := hv_32
                    have he_34 : (True) := he_34
                    refine W.eq (g2 := F0 m 242 ls [.long r_33, .int x_23, .ref (Ra 2)]) rfl ?_
                    have hP : va_P D classes [((Ra 0), .inr (6, [.ref (Ra 1), .ref (Ra 2)])), ((Ra 1), .inl (tc 0, Rn, .inl (Rf 1))), ((Ra 2), .inl (tc 1, 64, .inr (.inl vy_7))), ((Aa 0), .inr (9, [.int (Av 0), .int (Av 1), .int (Av 2), .int (Av 3), .int (Av 4), .int (Av 5), .ref (Aa 1), .ref (Aa 2), .ref (Aa 3), .ref (Aa 4), .ref (Aa 5), .ref (Aa 6), .ref (Aa 7), .ref (Aa 8)])), ((Aa 1), .inl (tc 0, 10, .inl (Af 1))), ((Aa 2), .inl (tc 0, 10, .inl (Af 2))), ((Aa 3), .inl (tc 0, 6, .inl (Af 3))), ((Aa 4), .inl (tc 0, 6, .inl (Af 4))), ((Aa 5), .inl (tc 0, 6, .inl (Af 5))), ((Aa 6), .inl (tc 0, 6, .inl (Af 6))), ((Aa 7), .inl (tc 0, 6, .inl (Af 7))), ((Aa 8), .inl (tc 0, 6, .inl (Af 8)))] H := hP
                    have hD : va_D A [((Ra 0), .inr (6, [.ref (Ra 1), .ref (Ra 2)])), ((Ra 1), .inl (tc 0, Rn, .inl (Rf 1))), ((Ra 2), .inl (tc 1, 64, .inr (.inl vy_7))), ((Aa 0), .inr (9, [.int (Av 0), .int (Av 1), .int (Av 2), .int (Av 3), .int (Av 4), .int (Av 5), .ref (Aa 1), .ref (Aa 2), .ref (Aa 3), .ref (Aa 4), .ref (Aa 5), .ref (Aa 6), .ref (Aa 7), .ref (Aa 8)])), ((Aa 1), .inl (tc 0, 10, .inl (Af 1))), ((Aa 2), .inl (tc 0, 10, .inl (Af 2))), ((Aa 3), .inl (tc 0, 6, .inl (Af 3))), ((Aa 4), .inl (tc 0, 6, .inl (Af 4))), ((Aa 5), .inl (tc 0, 6, .inl (Af 5))), ((Aa 6), .inl (tc 0, 6, .inl (Af 6))), ((Aa 7), .inl (tc 0, 6, .inl (Af 7))), ((Aa 8), .inl (tc 0, 6, .inl (Af 8)))] := hD
                    have hi_35 : vp_in x_23 64 := by
                      have z_1 := Int32.lt_iff_toInt_lt.mp (Int32.not_le.mp c_14)
                      have z_2 := Int32.lt_iff_toInt_lt.mp c_17
                      have z_3 : ¬ (x_16 : Int32).toInt = ((-2) : Int32).toInt := fun z => c_18 (Int32.toInt_inj.mp z)
                      have z_4 : ¬ (x_16 : Int32).toInt = ((-4) : Int32).toInt := fun z => c_19 (Int32.toInt_inj.mp z)
                      have z_5 := Int32.le_iff_toInt_le.mp (Int32.not_lt.mp c_20)
                      have z_6 := Int32.le_iff_toInt_le.mp c_21
                      have z_7 : ¬ (x_16 : Int32).toInt = ((-3) : Int32).toInt := fun z => c_22 (Int32.toInt_inj.mp z)
                      have y_m4 : (-4 : Int32).toInt = -4 := by decide
                      have y_m3 : (-3 : Int32).toInt = -3 := by decide
                      have y_m2 : (-2 : Int32).toInt = -2 := by decide
                      have y_0 : (0 : Int32).toInt = 0 := by decide
                      have y_2 : (2 : Int32).toInt = 2 := by decide
                      have y_64 : (64 : Int32).toInt = 64 := by decide
                      have n_0 : (nI Rn).toInt = ((Rn : Nat) : Int) := nI_toInt (by omega)
                      have t_x_23 : x_23.toInt = (vy_6 : Int32).toInt - (2 : Int32).toInt := by rw [ex_23]; exact sub_toInt (by omega) (by omega)
                      refine vp_in_iff.mpr ⟨?_, ?_⟩ <;> omega
                    refine st_long hx hb hK hP hD hS 2 1 rfl rfl hi_35 dX6_sumFor_242 (fun g_36 H locs eg_36 hP hD hS => ?_)
                    have hP : va_P D classes [((Ra 0), .inr (6, [.ref (Ra 1), .ref (Ra 2)])), ((Ra 1), .inl (tc 0, Rn, .inl (Rf 1))), ((Ra 2), .inl (tc 1, 64, .inr (.inl g_36))), ((Aa 0), .inr (9, [.int (Av 0), .int (Av 1), .int (Av 2), .int (Av 3), .int (Av 4), .int (Av 5), .ref (Aa 1), .ref (Aa 2), .ref (Aa 3), .ref (Aa 4), .ref (Aa 5), .ref (Aa 6), .ref (Aa 7), .ref (Aa 8)])), ((Aa 1), .inl (tc 0, 10, .inl (Af 1))), ((Aa 2), .inl (tc 0, 10, .inl (Af 2))), ((Aa 3), .inl (tc 0, 6, .inl (Af 3))), ((Aa 4), .inl (tc 0, 6, .inl (Af 4))), ((Aa 5), .inl (tc 0, 6, .inl (Af 5))), ((Aa 6), .inl (tc 0, 6, .inl (Af 6))), ((Aa 7), .inl (tc 0, 6, .inl (Af 7))), ((Aa 8), .inl (tc 0, 6, .inl (Af 8)))] H := hP
                    have hD : va_D A [((Ra 0), .inr (6, [.ref (Ra 1), .ref (Ra 2)])), ((Ra 1), .inl (tc 0, Rn, .inl (Rf 1))), ((Ra 2), .inl (tc 1, 64, .inr (.inl g_36))), ((Aa 0), .inr (9, [.int (Av 0), .int (Av 1), .int (Av 2), .int (Av 3), .int (Av 4), .int (Av 5), .ref (Aa 1), .ref (Aa 2), .ref (Aa 3), .ref (Aa 4), .ref (Aa 5), .ref (Aa 6), .ref (Aa 7), .ref (Aa 8)])), ((Aa 1), .inl (tc 0, 10, .inl (Af 1))), ((Aa 2), .inl (tc 0, 10, .inl (Af 2))), ((Aa 3), .inl (tc 0, 6, .inl (Af 3))), ((Aa 4), .inl (tc 0, 6, .inl (Af 4))), ((Aa 5), .inl (tc 0, 6, .inl (Af 5))), ((Aa 6), .inl (tc 0, 6, .inl (Af 6))), ((Aa 7), .inl (tc 0, 6, .inl (Af 7))), ((Aa 8), .inl (tc 0, 6, .inl (Af 8)))] := hD
                    obtain ⟨x_37, ex_37⟩ : ∃ y : Int32, y = vy_6 + (-1) := ⟨_, rfl⟩
                    refine lv_iinc (v := x_37) (lv' := [(3, .int x_37), (5, .int x_16), (4, .int vy_5), (0, .ref (Ra 0)), (1, .ref (Aa 0)), (2, .int x1)]) hx hb dX6_sumFor_243 hl (k := 2) rfl (by rw [ex_37]; rfl) (by decide) rfl (fun ls hl => ?_)
                    obtain ⟨x_38, ex_38⟩ : ∃ y : Int32, y = vy_5 + 1 := ⟨_, rfl⟩
                    refine lv_iinc (v := x_38) (lv' := [(4, .int x_38), (3, .int x_37), (5, .int x_16), (0, .ref (Ra 0)), (1, .ref (Aa 0)), (2, .int x1)]) hx hb dX6_sumFor_246 hl (k := 2) rfl (by rw [ex_38]; rfl) (by decide) rfl (fun ls hl => ?_)
                    refine lv_goto (tgt := 5) hx hb dX6_sumFor_249 (by decide) ?_
                    have hb_39 : 0 ≤ (x_38 : Int32).toInt ∧ (400 - (x_38 : Int32).toInt).toNat < n_8 := by
                      have z_1 := Int32.lt_iff_toInt_lt.mp (Int32.not_le.mp c_14)
                      have z_2 := Int32.lt_iff_toInt_lt.mp c_17
                      have z_3 : ¬ (x_16 : Int32).toInt = ((-2) : Int32).toInt := fun z => c_18 (Int32.toInt_inj.mp z)
                      have z_4 : ¬ (x_16 : Int32).toInt = ((-4) : Int32).toInt := fun z => c_19 (Int32.toInt_inj.mp z)
                      have z_5 := Int32.le_iff_toInt_le.mp (Int32.not_lt.mp c_20)
                      have z_6 := Int32.le_iff_toInt_le.mp c_21
                      have z_7 : ¬ (x_16 : Int32).toInt = ((-3) : Int32).toInt := fun z => c_22 (Int32.toInt_inj.mp z)
                      have y_m4 : (-4 : Int32).toInt = -4 := by decide
                      have y_m3 : (-3 : Int32).toInt = -3 := by decide
                      have y_m2 : (-2 : Int32).toInt = -2 := by decide
                      have y_0 : (0 : Int32).toInt = 0 := by decide
                      have y_2 : (2 : Int32).toInt = 2 := by decide
                      have y_64 : (64 : Int32).toInt = 64 := by decide
                      have n_0 : (nI Rn).toInt = ((Rn : Nat) : Int) := nI_toInt (by omega)
                      have y_1 : (1 : Int32).toInt = 1 := by decide
                      have t_x_38 : x_38.toInt = (vy_5 : Int32).toInt + (1 : Int32).toInt := by rw [ex_38]; exact add_toInt (by omega) (by omega)
                      omega
                    exact ih_9 x_38 x_37 g_36 _ _ _ hb_39.1 hb_39.2 (hP.sub [0, 1, 2, 3, 4, 5, 6, 7, 8, 9, 10, 11] rfl) (hD.sub [0, 1, 2, 3, 4, 5, 6, 7, 8, 9, 10, 11] rfl rfl) hS (lv_sub hl [0, 1, 3, 4, 5] rfl)
                  · skip
                    refine lv_aload_n hx hb dX6_sumFor_186 rfl (lv_at hl 3 rfl) ?_
                    refine gf_X6_9 hx hb hts hown hK hP 0 rfl rfl dX6_sumFor_187 ?_
                    refine lv_iload_n hx hb dX6_sumFor_190 rfl (lv_at hl 2 rfl) ?_
                    refine lv_iconst (v := 1) hx hb dX6_sumFor_191 (by decide) ?_
                    refine lv_isub hx hb dX6_sumFor_192 ?_
                    refine lv_topi (fun x_40 ex_40 => ?_)
                    have hi_41 : vp_in x_40 64 := by
                      have z_1 := Int32.lt_iff_toInt_lt.mp (Int32.not_le.mp c_14)
                      have z_2 := Int32.lt_iff_toInt_lt.mp c_17
                      have z_3 : ¬ (x_16 : Int32).toInt = ((-2) : Int32).toInt := fun z => c_18 (Int32.toInt_inj.mp z)
                      have z_4 : ¬ (x_16 : Int32).toInt = ((-4) : Int32).toInt := fun z => c_19 (Int32.toInt_inj.mp z)
                      have z_5 := Int32.le_iff_toInt_le.mp (Int32.not_lt.mp c_20)
                      have z_6 := Int32.le_iff_toInt_le.mp c_21
                      have z_7 := congrArg Int32.toInt c_22
                      have y_m4 : (-4 : Int32).toInt = -4 := by decide
                      have y_m3 : (-3 : Int32).toInt = -3 := by decide
                      have y_m2 : (-2 : Int32).toInt = -2 := by decide
                      have y_0 : (0 : Int32).toInt = 0 := by decide
                      have y_2 : (2 : Int32).toInt = 2 := by decide
                      have y_64 : (64 : Int32).toInt = 64 := by decide
                      have n_0 : (nI Rn).toInt = ((Rn : Nat) : Int) := nI_toInt (by omega)
                      have y_1 : (1 : Int32).toInt = 1 := by decide
                      have t_x_40 : x_40.toInt = (vy_6 : Int32).toInt - (1 : Int32).toInt := by rw [ex_40]; exact sub_toInt (by omega) (by omega)
                      refine vp_in_iff.mpr ⟨?_, ?_⟩ <;> omega
                    refine va_lald hx hb hK hP 2 1 rfl rfl hi_41 dX6_sumFor_193 ?_
                    refine lv_topl (fun x_42 ex_42 => ?_)
                    refine lv_lconst (v := 0) hx hb dX6_sumFor_194 (by decide) ?_
                    refine W.lcmp hx hb dX6_sumFor_195 ?_
                    refine lv_topi (fun x_43 ex_43 => ?_)
                    refine lv_if_eq (tgt := 208) hx hb dX6_sumFor_196 (by decide) (fun c_44 => ?_) (fun c_44 => ?_)
                    · skip
                      obtain ⟨x_45, ex_45⟩ : ∃ y : Int32, y = vy_6 + (-2) := ⟨_, rfl⟩
                      refine lv_iinc (v := x_45) (lv' := [(3, .int x_45), (5, .int x_16), (4, .int vy_5), (0, .ref (Ra 0)), (1, .ref (Aa 0)), (2, .int x1)]) hx hb dX6_sumFor_208 hl (k := 2) rfl (by rw [ex_45]; rfl) (by decide) rfl (fun ls hl => ?_)
                      refine lv_goto (tgt := 246) hx hb dX6_sumFor_211 (by decide) ?_
                      obtain ⟨x_46, ex_46⟩ : ∃ y : Int32, y = vy_5 + 1 := ⟨_, rfl⟩
                      refine lv_iinc (v := x_46) (lv' := [(4, .int x_46), (3, .int x_45), (5, .int x_16), (0, .ref (Ra 0)), (1, .ref (Aa 0)), (2, .int x1)]) hx hb dX6_sumFor_246 hl (k := 2) rfl (by rw [ex_46]; rfl) (by decide) rfl (fun ls hl => ?_)
                      refine lv_goto (tgt := 5) hx hb dX6_sumFor_249 (by decide) ?_
                      have hb_47 : 0 ≤ (x_46 : Int32).toInt ∧ (400 - (x_46 : Int32).toInt).toNat < n_8 := by
                        have z_1 := Int32.lt_iff_toInt_lt.mp (Int32.not_le.mp c_14)
                        have z_2 := Int32.lt_iff_toInt_lt.mp c_17
                        have z_3 : ¬ (x_16 : Int32).toInt = ((-2) : Int32).toInt := fun z => c_18 (Int32.toInt_inj.mp z)
                        have z_4 : ¬ (x_16 : Int32).toInt = ((-4) : Int32).toInt := fun z => c_19 (Int32.toInt_inj.mp z)
                        have z_5 := Int32.le_iff_toInt_le.mp (Int32.not_lt.mp c_20)
                        have z_6 := Int32.le_iff_toInt_le.mp c_21
                        have z_7 := congrArg Int32.toInt c_22
                        have z_8 := congrArg Int32.toInt c_44
                        have y_m4 : (-4 : Int32).toInt = -4 := by decide
                        have y_m3 : (-3 : Int32).toInt = -3 := by decide
                        have y_m2 : (-2 : Int32).toInt = -2 := by decide
                        have y_0 : (0 : Int32).toInt = 0 := by decide
                        have y_2 : (2 : Int32).toInt = 2 := by decide
                        have y_64 : (64 : Int32).toInt = 64 := by decide
                        have n_0 : (nI Rn).toInt = ((Rn : Nat) : Int) := nI_toInt (by omega)
                        have y_1 : (1 : Int32).toInt = 1 := by decide
                        have t_x_46 : x_46.toInt = (vy_5 : Int32).toInt + (1 : Int32).toInt := by rw [ex_46]; exact add_toInt (by omega) (by omega)
                        omega
                      exact ih_9 x_46 x_45 vy_7 _ _ _ hb_47.1 hb_47.2 (hP.sub [0, 1, 2, 3, 4, 5, 6, 7, 8, 9, 10, 11] rfl) (hD.sub [0, 1, 2, 3, 4, 5, 6, 7, 8, 9, 10, 11] rfl rfl) hS (lv_sub hl [0, 1, 3, 4, 5] rfl)
                    · skip
                      refine lv_aload_n hx hb dX6_sumFor_199 rfl (lv_at hl 3 rfl) ?_
                      refine gf_X6_9 hx hb hts hown hK hP 0 rfl rfl dX6_sumFor_200 ?_
                      refine lv_iload_n hx hb dX6_sumFor_203 rfl (lv_at hl 2 rfl) ?_
                      refine lv_iconst (v := 2) hx hb dX6_sumFor_204 (by decide) ?_
                      refine lv_isub hx hb dX6_sumFor_205 ?_
                      refine lv_topi (fun x_48 ex_48 => ?_)
                      have hi_49 : vp_in x_48 64 := by
                        have z_1 := Int32.lt_iff_toInt_lt.mp (Int32.not_le.mp c_14)
                        have z_2 := Int32.lt_iff_toInt_lt.mp c_17
                        have z_3 : ¬ (x_16 : Int32).toInt = ((-2) : Int32).toInt := fun z => c_18 (Int32.toInt_inj.mp z)
                        have z_4 : ¬ (x_16 : Int32).toInt = ((-4) : Int32).toInt := fun z => c_19 (Int32.toInt_inj.mp z)
                        have z_5 := Int32.le_iff_toInt_le.mp (Int32.not_lt.mp c_20)
                        have z_6 := Int32.le_iff_toInt_le.mp c_21
                        have z_7 := congrArg Int32.toInt c_22
                        have z_8 : ¬ (x_43 : Int32).toInt = (0 : Int32).toInt := fun z => c_44 (Int32.toInt_inj.mp z)
                        have y_m4 : (-4 : Int32).toInt = -4 := by decide
                        have y_m3 : (-3 : Int32).toInt = -3 := by decide
                        have y_m2 : (-2 : Int32).toInt = -2 := by decide
                        have y_0 : (0 : Int32).toInt = 0 := by decide
                        have y_2 : (2 : Int32).toInt = 2 := by decide
                        have y_64 : (64 : Int32).toInt = 64 := by decide
                        have n_0 : (nI Rn).toInt = ((Rn : Nat) : Int) := nI_toInt (by omega)
                        have t_x_48 : x_48.toInt = (vy_6 : Int32).toInt - (2 : Int32).toInt := by rw [ex_48]; exact sub_toInt (by omega) (by omega)
                        refine vp_in_iff.mpr ⟨?_, ?_⟩ <;> omega
                      refine va_lald hx hb hK hP 2 1 rfl rfl hi_49 dX6_sumFor_206 ?_
                      refine lv_topl (fun x_50 ex_50 => ?_)
                      exact retL (v := x_50) hx hb hr hlk hP hD hS vy_7 ⟨_, rfl, trivial⟩ [0, 1, 2, 3, 4, 5, 6, 7, 8, 9, 10, 11] rfl rfl dX6_sumFor_207 (Nat.le_of_ble_eq_true rfl) (Nat.le_of_ble_eq_true rfl) rfl
                · skip
                  refine lv_lconst (v := 0) hx hb dX6_sumFor_177 (by decide) ?_
                  exact retL (v := 0) hx hb hr hlk hP hD hS vy_7 ⟨_, rfl, trivial⟩ [0, 1, 2, 3, 4, 5, 6, 7, 8, 9, 10, 11] rfl rfl dX6_sumFor_178 (Nat.le_of_ble_eq_true rfl) (Nat.le_of_ble_eq_true rfl) rfl
            · skip
              refine lv_iload_n hx hb dX6_sumFor_120 rfl (lv_at hl 2 rfl) ?_
              refine lv_iconst (v := 1) hx hb dX6_sumFor_121 (by decide) ?_
              refine lv_icmp_lt (tgt := 246) hx hb dX6_sumFor_122 (by decide) (fun c_51 => ?_) (fun c_51 => ?_)
              · skip
                obtain ⟨x_52, ex_52⟩ : ∃ y : Int32, y = vy_5 + 1 := ⟨_, rfl⟩
                refine lv_iinc (v := x_52) (lv' := [(4, .int x_52), (5, .int x_16), (3, .int vy_6), (0, .ref (Ra 0)), (1, .ref (Aa 0)), (2, .int x1)]) hx hb dX6_sumFor_246 hl (k := 1) rfl (by rw [ex_52]; rfl) (by decide) rfl (fun ls hl => ?_)
                refine lv_goto (tgt := 5) hx hb dX6_sumFor_249 (by decide) ?_
                have hb_53 : 0 ≤ (x_52 : Int32).toInt ∧ (400 - (x_52 : Int32).toInt).toNat < n_8 := by
                  have z_1 := Int32.lt_iff_toInt_lt.mp (Int32.not_le.mp c_14)
                  have z_2 := Int32.lt_iff_toInt_lt.mp c_17
                  have z_3 : ¬ (x_16 : Int32).toInt = ((-2) : Int32).toInt := fun z => c_18 (Int32.toInt_inj.mp z)
                  have z_4 := congrArg Int32.toInt c_19
                  have z_5 := Int32.lt_iff_toInt_lt.mp c_51
                  have y_m4 : (-4 : Int32).toInt = -4 := by decide
                  have y_m2 : (-2 : Int32).toInt = -2 := by decide
                  have y_0 : (0 : Int32).toInt = 0 := by decide
                  have y_1 : (1 : Int32).toInt = 1 := by decide
                  have n_0 : (nI Rn).toInt = ((Rn : Nat) : Int) := nI_toInt (by omega)
                  have t_x_52 : x_52.toInt = (vy_5 : Int32).toInt + (1 : Int32).toInt := by rw [ex_52]; exact add_toInt (by omega) (by omega)
                  omega
                exact ih_9 x_52 vy_6 vy_7 _ _ _ hb_53.1 hb_53.2 (hP.sub [0, 1, 2, 3, 4, 5, 6, 7, 8, 9, 10, 11] rfl) (hD.sub [0, 1, 2, 3, 4, 5, 6, 7, 8, 9, 10, 11] rfl rfl) hS (lv_sub hl [0, 2, 3, 4, 5] rfl)
              · skip
                refine lv_iload_n hx hb dX6_sumFor_125 rfl (lv_at hl 2 rfl) ?_
                refine lv_aload_n hx hb dX6_sumFor_126 rfl (lv_at hl 3 rfl) ?_
                refine gf_X6_9 hx hb hts hown hK hP 0 rfl rfl dX6_sumFor_127 ?_
                refine va_alen hx hb hK hP 2 1 rfl rfl (v := 64) rfl dX6_sumFor_130 ?_
                refine lv_icmp_gt (tgt := 246) hx hb dX6_sumFor_131 (by decide) (fun c_54 => ?_) (fun c_54 => ?_)
                · skip
                  obtain ⟨x_55, ex_55⟩ : ∃ y : Int32, y = vy_5 + 1 := ⟨_, rfl⟩
                  refine lv_iinc (v := x_55) (lv' := [(4, .int x_55), (5, .int x_16), (3, .int vy_6), (0, .ref (Ra 0)), (1, .ref (Aa 0)), (2, .int x1)]) hx hb dX6_sumFor_246 hl (k := 1) rfl (by rw [ex_55]; rfl) (by decide) rfl (fun ls hl => ?_)
                  refine lv_goto (tgt := 5) hx hb dX6_sumFor_249 (by decide) ?_
                  have hb_56 : 0 ≤ (x_55 : Int32).toInt ∧ (400 - (x_55 : Int32).toInt).toNat < n_8 := by
                    have z_1 := Int32.lt_iff_toInt_lt.mp (Int32.not_le.mp c_14)
                    have z_2 := Int32.lt_iff_toInt_lt.mp c_17
                    have z_3 : ¬ (x_16 : Int32).toInt = ((-2) : Int32).toInt := fun z => c_18 (Int32.toInt_inj.mp z)
                    have z_4 := congrArg Int32.toInt c_19
                    have z_5 := Int32.le_iff_toInt_le.mp (Int32.not_lt.mp c_51)
                    have z_6 := Int32.lt_iff_toInt_lt.mp c_54
                    have y_m4 : (-4 : Int32).toInt = -4 := by decide
                    have y_m2 : (-2 : Int32).toInt = -2 := by decide
                    have y_0 : (0 : Int32).toInt = 0 := by decide
                    have y_1 : (1 : Int32).toInt = 1 := by decide
                    have y_64 : (64 : Int32).toInt = 64 := by decide
                    have n_0 : (nI Rn).toInt = ((Rn : Nat) : Int) := nI_toInt (by omega)
                    have t_x_55 : x_55.toInt = (vy_5 : Int32).toInt + (1 : Int32).toInt := by rw [ex_55]; exact add_toInt (by omega) (by omega)
                    omega
                  exact ih_9 x_55 vy_6 vy_7 _ _ _ hb_56.1 hb_56.2 (hP.sub [0, 1, 2, 3, 4, 5, 6, 7, 8, 9, 10, 11] rfl) (hD.sub [0, 1, 2, 3, 4, 5, 6, 7, 8, 9, 10, 11] rfl rfl) hS (lv_sub hl [0, 2, 3, 4, 5] rfl)
                · skip
                  refine lv_aload_n hx hb dX6_sumFor_134 rfl (lv_at hl 3 rfl) ?_
                  refine gf_X6_9 hx hb hts hown hK hP 0 rfl rfl dX6_sumFor_135 ?_
                  refine lv_iload_n hx hb dX6_sumFor_138 rfl (lv_at hl 2 rfl) ?_
                  refine lv_iconst (v := 1) hx hb dX6_sumFor_139 (by decide) ?_
                  refine lv_isub hx hb dX6_sumFor_140 ?_
                  refine lv_topi (fun x_57 ex_57 => ?_)
                  refine lv_aload_n hx hb dX6_sumFor_141 rfl (lv_at hl 3 rfl) ?_
                  refine gf_X6_9 hx hb hts hown hK hP 0 rfl rfl dX6_sumFor_142 ?_
                  refine lv_iload_n hx hb dX6_sumFor_145 rfl (lv_at hl 2 rfl) ?_
                  refine lv_iconst (v := 1) hx hb dX6_sumFor_146 (by decide) ?_
                  refine lv_isub hx hb dX6_sumFor_147 ?_
                  refine lv_topi (fun x_58 ex_58 => ?_)
                  have hi_59 : vp_in x_58 64 := by
                    have z_1 := Int32.lt_iff_toInt_lt.mp (Int32.not_le.mp c_14)
                    have z_2 := Int32.lt_iff_toInt_lt.mp c_17
                    have z_3 : ¬ (x_16 : Int32).toInt = ((-2) : Int32).toInt := fun z => c_18 (Int32.toInt_inj.mp z)
                    have z_4 := congrArg Int32.toInt c_19
                    have z_5 := Int32.le_iff_toInt_le.mp (Int32.not_lt.mp c_51)
                    have z_6 := Int32.le_iff_toInt_le.mp (Int32.not_lt.mp c_54)
                    have y_m4 : (-4 : Int32).toInt = -4 := by decide
                    have y_m2 : (-2 : Int32).toInt = -2 := by decide
                    have y_0 : (0 : Int32).toInt = 0 := by decide
                    have y_1 : (1 : Int32).toInt = 1 := by decide
                    have y_64 : (64 : Int32).toInt = 64 := by decide
                    have n_0 : (nI Rn).toInt = ((Rn : Nat) : Int) := nI_toInt (by omega)
                    have t_x_58 : x_58.toInt = (vy_6 : Int32).toInt - (1 : Int32).toInt := by rw [ex_58]; exact sub_toInt (by omega) (by omega)
                    refine vp_in_iff.mpr ⟨?_, ?_⟩ <;> omega
                  refine va_lald hx hb hK hP 2 1 rfl rfl hi_59 dX6_sumFor_148 ?_
                  refine lv_topl (fun x_60 ex_60 => ?_)
                  refine lv_lconst (v := 0) hx hb dX6_sumFor_149 (by decide) ?_
                  refine W.lcmp hx hb dX6_sumFor_150 ?_
                  refine lv_topi (fun x_61 ex_61 => ?_)
                  refine lv_if_ne (tgt := 158) hx hb dX6_sumFor_151 (by decide) (fun c_62 => ?_) (fun c_62 => ?_)
                  · skip
                    refine lv_lconst (v := 0) hx hb dX6_sumFor_158 (by decide) ?_
                    have hi_63 : vp_in x_57 64 := by
                      have z_1 := Int32.lt_iff_toInt_lt.mp (Int32.not_le.mp c_14)
                      have z_2 := Int32.lt_iff_toInt_lt.mp c_17
                      have z_3 : ¬ (x_16 : Int32).toInt = ((-2) : Int32).toInt := fun z => c_18 (Int32.toInt_inj.mp z)
                      have z_4 := congrArg Int32.toInt c_19
                      have z_5 := Int32.le_iff_toInt_le.mp (Int32.not_lt.mp c_51)
                      have z_6 := Int32.le_iff_toInt_le.mp (Int32.not_lt.mp c_54)
                      have z_7 : ¬ (x_61 : Int32).toInt = (0 : Int32).toInt := fun z => c_62 (Int32.toInt_inj.mp z)
                      have y_m4 : (-4 : Int32).toInt = -4 := by decide
                      have y_m2 : (-2 : Int32).toInt = -2 := by decide
                      have y_0 : (0 : Int32).toInt = 0 := by decide
                      have y_1 : (1 : Int32).toInt = 1 := by decide
                      have y_64 : (64 : Int32).toInt = 64 := by decide
                      have n_0 : (nI Rn).toInt = ((Rn : Nat) : Int) := nI_toInt (by omega)
                      have t_x_57 : x_57.toInt = (vy_6 : Int32).toInt - (1 : Int32).toInt := by rw [ex_57]; exact sub_toInt (by omega) (by omega)
                      refine vp_in_iff.mpr ⟨?_, ?_⟩ <;> omega
                    refine st_long hx hb hK hP hD hS 2 1 rfl rfl hi_63 dX6_sumFor_159 (fun g_64 H locs eg_64 hP hD hS => ?_)
                    have hP : va_P D classes [((Ra 0), .inr (6, [.ref (Ra 1), .ref (Ra 2)])), ((Ra 1), .inl (tc 0, Rn, .inl (Rf 1))), ((Ra 2), .inl (tc 1, 64, .inr (.inl g_64))), ((Aa 0), .inr (9, [.int (Av 0), .int (Av 1), .int (Av 2), .int (Av 3), .int (Av 4), .int (Av 5), .ref (Aa 1), .ref (Aa 2), .ref (Aa 3), .ref (Aa 4), .ref (Aa 5), .ref (Aa 6), .ref (Aa 7), .ref (Aa 8)])), ((Aa 1), .inl (tc 0, 10, .inl (Af 1))), ((Aa 2), .inl (tc 0, 10, .inl (Af 2))), ((Aa 3), .inl (tc 0, 6, .inl (Af 3))), ((Aa 4), .inl (tc 0, 6, .inl (Af 4))), ((Aa 5), .inl (tc 0, 6, .inl (Af 5))), ((Aa 6), .inl (tc 0, 6, .inl (Af 6))), ((Aa 7), .inl (tc 0, 6, .inl (Af 7))), ((Aa 8), .inl (tc 0, 6, .inl (Af 8)))] H := hP
                    have hD : va_D A [((Ra 0), .inr (6, [.ref (Ra 1), .ref (Ra 2)])), ((Ra 1), .inl (tc 0, Rn, .inl (Rf 1))), ((Ra 2), .inl (tc 1, 64, .inr (.inl g_64))), ((Aa 0), .inr (9, [.int (Av 0), .int (Av 1), .int (Av 2), .int (Av 3), .int (Av 4), .int (Av 5), .ref (Aa 1), .ref (Aa 2), .ref (Aa 3), .ref (Aa 4), .ref (Aa 5), .ref (Aa 6), .ref (Aa 7), .ref (Aa 8)])), ((Aa 1), .inl (tc 0, 10, .inl (Af 1))), ((Aa 2), .inl (tc 0, 10, .inl (Af 2))), ((Aa 3), .inl (tc 0, 6, .inl (Af 3))), ((Aa 4), .inl (tc 0, 6, .inl (Af 4))), ((Aa 5), .inl (tc 0, 6, .inl (Af 5))), ((Aa 6), .inl (tc 0, 6, .inl (Af 6))), ((Aa 7), .inl (tc 0, 6, .inl (Af 7))), ((Aa 8), .inl (tc 0, 6, .inl (Af 8)))] := hD
                    refine lv_goto (tgt := 246) hx hb dX6_sumFor_160 (by decide) ?_
                    obtain ⟨x_65, ex_65⟩ : ∃ y : Int32, y = vy_5 + 1 := ⟨_, rfl⟩
                    refine lv_iinc (v := x_65) (lv' := [(4, .int x_65), (5, .int x_16), (3, .int vy_6), (0, .ref (Ra 0)), (1, .ref (Aa 0)), (2, .int x1)]) hx hb dX6_sumFor_246 hl (k := 1) rfl (by rw [ex_65]; rfl) (by decide) rfl (fun ls hl => ?_)
                    refine lv_goto (tgt := 5) hx hb dX6_sumFor_249 (by decide) ?_
                    have hb_66 : 0 ≤ (x_65 : Int32).toInt ∧ (400 - (x_65 : Int32).toInt).toNat < n_8 := by
                      have z_1 := Int32.lt_iff_toInt_lt.mp (Int32.not_le.mp c_14)
                      have z_2 := Int32.lt_iff_toInt_lt.mp c_17
                      have z_3 : ¬ (x_16 : Int32).toInt = ((-2) : Int32).toInt := fun z => c_18 (Int32.toInt_inj.mp z)
                      have z_4 := congrArg Int32.toInt c_19
                      have z_5 := Int32.le_iff_toInt_le.mp (Int32.not_lt.mp c_51)
                      have z_6 := Int32.le_iff_toInt_le.mp (Int32.not_lt.mp c_54)
                      have z_7 : ¬ (x_61 : Int32).toInt = (0 : Int32).toInt := fun z => c_62 (Int32.toInt_inj.mp z)
                      have y_m4 : (-4 : Int32).toInt = -4 := by decide
                      have y_m2 : (-2 : Int32).toInt = -2 := by decide
                      have y_0 : (0 : Int32).toInt = 0 := by decide
                      have y_1 : (1 : Int32).toInt = 1 := by decide
                      have y_64 : (64 : Int32).toInt = 64 := by decide
                      have n_0 : (nI Rn).toInt = ((Rn : Nat) : Int) := nI_toInt (by omega)
                      have t_x_65 : x_65.toInt = (vy_5 : Int32).toInt + (1 : Int32).toInt := by rw [ex_65]; exact add_toInt (by omega) (by omega)
                      omega
                    exact ih_9 x_65 vy_6 g_64 _ _ _ hb_66.1 hb_66.2 (hP.sub [0, 1, 2, 3, 4, 5, 6, 7, 8, 9, 10, 11] rfl) (hD.sub [0, 1, 2, 3, 4, 5, 6, 7, 8, 9, 10, 11] rfl rfl) hS (lv_sub hl [0, 2, 3, 4, 5] rfl)
                  · skip
                    refine lv_lconst (v := 1) hx hb dX6_sumFor_154 (by decide) ?_
                    refine lv_goto (tgt := 159) hx hb dX6_sumFor_155 (by decide) ?_
                    have hi_67 : vp_in x_57 64 := by
                      have z_1 := Int32.lt_iff_toInt_lt.mp (Int32.not_le.mp c_14)
                      have z_2 := Int32.lt_iff_toInt_lt.mp c_17
                      have z_3 : ¬ (x_16 : Int32).toInt = ((-2) : Int32).toInt := fun z => c_18 (Int32.toInt_inj.mp z)
                      have z_4 := congrArg Int32.toInt c_19
                      have z_5 := Int32.le_iff_toInt_le.mp (Int32.not_lt.mp c_51)
                      have z_6 := Int32.le_iff_toInt_le.mp (Int32.not_lt.mp c_54)
                      have z_7 := congrArg Int32.toInt c_62
                      have y_m4 : (-4 : Int32).toInt = -4 := by decide
                      have y_m2 : (-2 : Int32).toInt = -2 := by decide
                      have y_0 : (0 : Int32).toInt = 0 := by decide
                      have y_1 : (1 : Int32).toInt = 1 := by decide
                      have y_64 : (64 : Int32).toInt = 64 := by decide
                      have n_0 : (nI Rn).toInt = ((Rn : Nat) : Int) := nI_toInt (by omega)
                      have t_x_57 : x_57.toInt = (vy_6 : Int32).toInt - (1 : Int32).toInt := by rw [ex_57]; exact sub_toInt (by omega) (by omega)
                      refine vp_in_iff.mpr ⟨?_, ?_⟩ <;> omega
                    refine st_long hx hb hK hP hD hS 2 1 rfl rfl hi_67 dX6_sumFor_159 (fun g_68 H locs eg_68 hP hD hS => ?_)
                    have hP : va_P D classes [((Ra 0), .inr (6, [.ref (Ra 1), .ref (Ra 2)])), ((Ra 1), .inl (tc 0, Rn, .inl (Rf 1))), ((Ra 2), .inl (tc 1, 64, .inr (.inl g_68))), ((Aa 0), .inr (9, [.int (Av 0), .int (Av 1), .int (Av 2), .int (Av 3), .int (Av 4), .int (Av 5), .ref (Aa 1), .ref (Aa 2), .ref (Aa 3), .ref (Aa 4), .ref (Aa 5), .ref (Aa 6), .ref (Aa 7), .ref (Aa 8)])), ((Aa 1), .inl (tc 0, 10, .inl (Af 1))), ((Aa 2), .inl (tc 0, 10, .inl (Af 2))), ((Aa 3), .inl (tc 0, 6, .inl (Af 3))), ((Aa 4), .inl (tc 0, 6, .inl (Af 4))), ((Aa 5), .inl (tc 0, 6, .inl (Af 5))), ((Aa 6), .inl (tc 0, 6, .inl (Af 6))), ((Aa 7), .inl (tc 0, 6, .inl (Af 7))), ((Aa 8), .inl (tc 0, 6, .inl (Af 8)))] H := hP
                    have hD : va_D A [((Ra 0), .inr (6, [.ref (Ra 1), .ref (Ra 2)])), ((Ra 1), .inl (tc 0, Rn, .inl (Rf 1))), ((Ra 2), .inl (tc 1, 64, .inr (.inl g_68))), ((Aa 0), .inr (9, [.int (Av 0), .int (Av 1), .int (Av 2), .int (Av 3), .int (Av 4), .int (Av 5), .ref (Aa 1), .ref (Aa 2), .ref (Aa 3), .ref (Aa 4), .ref (Aa 5), .ref (Aa 6), .ref (Aa 7), .ref (Aa 8)])), ((Aa 1), .inl (tc 0, 10, .inl (Af 1))), ((Aa 2), .inl (tc 0, 10, .inl (Af 2))), ((Aa 3), .inl (tc 0, 6, .inl (Af 3))), ((Aa 4), .inl (tc 0, 6, .inl (Af 4))), ((Aa 5), .inl (tc 0, 6, .inl (Af 5))), ((Aa 6), .inl (tc 0, 6, .inl (Af 6))), ((Aa 7), .inl (tc 0, 6, .inl (Af 7))), ((Aa 8), .inl (tc 0, 6, .inl (Af 8)))] := hD
                    refine lv_goto (tgt := 246) hx hb dX6_sumFor_160 (by decide) ?_
                    obtain ⟨x_69, ex_69⟩ : ∃ y : Int32, y = vy_5 + 1 := ⟨_, rfl⟩
                    refine lv_iinc (v := x_69) (lv' := [(4, .int x_69), (5, .int x_16), (3, .int vy_6), (0, .ref (Ra 0)), (1, .ref (Aa 0)), (2, .int x1)]) hx hb dX6_sumFor_246 hl (k := 1) rfl (by rw [ex_69]; rfl) (by decide) rfl (fun ls hl => ?_)
                    refine lv_goto (tgt := 5) hx hb dX6_sumFor_249 (by decide) ?_
                    have hb_70 : 0 ≤ (x_69 : Int32).toInt ∧ (400 - (x_69 : Int32).toInt).toNat < n_8 := by
                      have z_1 := Int32.lt_iff_toInt_lt.mp (Int32.not_le.mp c_14)
                      have z_2 := Int32.lt_iff_toInt_lt.mp c_17
                      have z_3 : ¬ (x_16 : Int32).toInt = ((-2) : Int32).toInt := fun z => c_18 (Int32.toInt_inj.mp z)
                      have z_4 := congrArg Int32.toInt c_19
                      have z_5 := Int32.le_iff_toInt_le.mp (Int32.not_lt.mp c_51)
                      have z_6 := Int32.le_iff_toInt_le.mp (Int32.not_lt.mp c_54)
                      have z_7 := congrArg Int32.toInt c_62
                      have y_m4 : (-4 : Int32).toInt = -4 := by decide
                      have y_m2 : (-2 : Int32).toInt = -2 := by decide
                      have y_0 : (0 : Int32).toInt = 0 := by decide
                      have y_1 : (1 : Int32).toInt = 1 := by decide
                      have y_64 : (64 : Int32).toInt = 64 := by decide
                      have n_0 : (nI Rn).toInt = ((Rn : Nat) : Int) := nI_toInt (by omega)
                      have t_x_69 : x_69.toInt = (vy_5 : Int32).toInt + (1 : Int32).toInt := by rw [ex_69]; exact add_toInt (by omega) (by omega)
                      omega
                    exact ih_9 x_69 vy_6 g_68 _ _ _ hb_70.1 hb_70.2 (hP.sub [0, 1, 2, 3, 4, 5, 6, 7, 8, 9, 10, 11] rfl) (hD.sub [0, 1, 2, 3, 4, 5, 6, 7, 8, 9, 10, 11] rfl rfl) hS (lv_sub hl [0, 2, 3, 4, 5] rfl)
          · skip
            refine lv_iload_n hx hb dX6_sumFor_86 rfl (lv_at hl 2 rfl) ?_
            refine lv_iconst (v := 1) hx hb dX6_sumFor_87 (by decide) ?_
            refine lv_icmp_lt (tgt := 111) hx hb dX6_sumFor_88 (by decide) (fun c_71 => ?_) (fun c_71 => ?_)
            · skip
              refine lv_lconst (v := 0) hx hb dX6_sumFor_111 (by decide) ?_
              exact retL (v := 0) hx hb hr hlk hP hD hS vy_7 ⟨_, rfl, trivial⟩ [0, 1, 2, 3, 4, 5, 6, 7, 8, 9, 10, 11] rfl rfl dX6_sumFor_112 (Nat.le_of_ble_eq_true rfl) (Nat.le_of_ble_eq_true rfl) rfl
            · skip
              refine lv_iload_n hx hb dX6_sumFor_91 rfl (lv_at hl 2 rfl) ?_
              refine lv_aload_n hx hb dX6_sumFor_92 rfl (lv_at hl 3 rfl) ?_
              refine gf_X6_9 hx hb hts hown hK hP 0 rfl rfl dX6_sumFor_93 ?_
              refine va_alen hx hb hK hP 2 1 rfl rfl (v := 64) rfl dX6_sumFor_96 ?_
              refine lv_icmp_gt (tgt := 111) hx hb dX6_sumFor_97 (by decide) (fun c_72 => ?_) (fun c_72 => ?_)
              · skip
                refine lv_lconst (v := 0) hx hb dX6_sumFor_111 (by decide) ?_
                exact retL (v := 0) hx hb hr hlk hP hD hS vy_7 ⟨_, rfl, trivial⟩ [0, 1, 2, 3, 4, 5, 6, 7, 8, 9, 10, 11] rfl rfl dX6_sumFor_112 (Nat.le_of_ble_eq_true rfl) (Nat.le_of_ble_eq_true rfl) rfl
              · skip
                refine lv_aload_n hx hb dX6_sumFor_100 rfl (lv_at hl 3 rfl) ?_
                refine gf_X6_9 hx hb hts hown hK hP 0 rfl rfl dX6_sumFor_101 ?_
                refine lv_iload_n hx hb dX6_sumFor_104 rfl (lv_at hl 2 rfl) ?_
                refine lv_iconst (v := 1) hx hb dX6_sumFor_105 (by decide) ?_
                refine lv_isub hx hb dX6_sumFor_106 ?_
                refine lv_topi (fun x_73 ex_73 => ?_)
                have hi_74 : vp_in x_73 64 := by
                  have z_1 := Int32.lt_iff_toInt_lt.mp (Int32.not_le.mp c_14)
                  have z_2 := Int32.lt_iff_toInt_lt.mp c_17
                  have z_3 := congrArg Int32.toInt c_18
                  have z_4 := Int32.le_iff_toInt_le.mp (Int32.not_lt.mp c_71)
                  have z_5 := Int32.le_iff_toInt_le.mp (Int32.not_lt.mp c_72)
                  have y_m2 : (-2 : Int32).toInt = -2 := by decide
                  have y_0 : (0 : Int32).toInt = 0 := by decide
                  have y_1 : (1 : Int32).toInt = 1 := by decide
                  have y_64 : (64 : Int32).toInt = 64 := by decide
                  have n_0 : (nI Rn).toInt = ((Rn : Nat) : Int) := nI_toInt (by omega)
                  have t_x_73 : x_73.toInt = (vy_6 : Int32).toInt - (1 : Int32).toInt := by rw [ex_73]; exact sub_toInt (by omega) (by omega)
                  refine vp_in_iff.mpr ⟨?_, ?_⟩ <;> omega
                refine va_lald hx hb hK hP 2 1 rfl rfl hi_74 dX6_sumFor_107 ?_
                refine lv_topl (fun x_75 ex_75 => ?_)
                refine lv_goto (tgt := 112) hx hb dX6_sumFor_108 (by decide) ?_
                exact retL (v := x_75) hx hb hr hlk hP hD hS vy_7 ⟨_, rfl, trivial⟩ [0, 1, 2, 3, 4, 5, 6, 7, 8, 9, 10, 11] rfl rfl dX6_sumFor_112 (Nat.le_of_ble_eq_true rfl) (Nat.le_of_ble_eq_true rfl) rfl
        · skip
          refine lv_iload_n hx hb dX6_sumFor_29 rfl (lv_at hl 2 rfl) ?_
          refine lv_if_lt (tgt := 42) hx hb dX6_sumFor_30 (by decide) (fun c_76 => ?_) (fun c_76 => ?_)
          · skip
            refine lv_lconst (v := 0) hx hb dX6_sumFor_42 (by decide) ?_
            exact retL (v := 0) hx hb hr hlk hP hD hS vy_7 ⟨_, rfl, trivial⟩ [0, 1, 2, 3, 4, 5, 6, 7, 8, 9, 10, 11] rfl rfl dX6_sumFor_43 (Nat.le_of_ble_eq_true rfl) (Nat.le_of_ble_eq_true rfl) rfl
          · skip
            refine lv_iload_n hx hb dX6_sumFor_33 rfl (lv_at hl 2 rfl) ?_
            refine lv_aload_n hx hb dX6_sumFor_34 rfl (lv_at hl 3 rfl) ?_
            refine gf_X6_9 hx hb hts hown hK hP 0 rfl rfl dX6_sumFor_35 ?_
            refine va_alen hx hb hK hP 2 1 rfl rfl (v := 64) rfl dX6_sumFor_38 ?_
            refine lv_icmp_lt (tgt := 44) hx hb dX6_sumFor_39 (by decide) (fun c_77 => ?_) (fun c_77 => ?_)
            · skip
              refine lv_aload_n hx hb dX6_sumFor_44 rfl (lv_at hl 3 rfl) ?_
              refine gf_X6_9 hx hb hts hown hK hP 0 rfl rfl dX6_sumFor_45 ?_
              refine lv_iload_n hx hb dX6_sumFor_48 rfl (lv_at hl 2 rfl) ?_
              refine lv_iload hx hb dX6_sumFor_49 (lv_at hl 0 rfl) ?_
              refine lv_ldc hx hb hown (hts _ k_757) dX6_sumFor_51 ?_
              refine lv_icmp_ge (tgt := 62) hx hb dX6_sumFor_53 (by decide) (fun c_78 => ?_) (fun c_78 => ?_)
              · skip
                refine lv_aload_n hx hb dX6_sumFor_62 rfl (lv_at hl 4 rfl) ?_
                refine lv_iload hx hb dX6_sumFor_63 (lv_at hl 0 rfl) ?_
                refine lv_ldc hx hb hown (hts _ k_757) dX6_sumFor_65 ?_
                refine lv_isub hx hb dX6_sumFor_67 ?_
                refine lv_topi (fun x_79 ex_79 => ?_)
                refine lv_iload_n hx hb dX6_sumFor_68 rfl (lv_at hl 5 rfl) ?_
                refine cV (a := (Aa 0)) (As := [.int x_79, .int x1]) (rest := [.int vy_6, .ref (Ra 2)]) (wr := [((Ra 0), .inr (6, [.ref (Ra 1), .ref (Ra 2)])), ((Ra 1), .inl (tc 0, Rn, .inl (Rf 1))), ((Ra 2), .inl (tc 1, 64, .inr (.inl vy_7)))]) ⟨hx, hb, hml, hown, hts⟩ hK hX hA (cu_X9_wordOf l D tc sk (Aa 0) (Aa 1) (Aa 2) (Aa 3) (Aa 4) (Aa 5) (Aa 6) (Aa 7) (Aa 8) (Av 0) (Av 1) (Av 2) (Av 3) (Av 4) (Av 5) (Af 1) (Af 2) (Af 3) (Af 4) (Af 5) (Af 6) (Af 7) (Af 8) x_79 x1) k_761 k_758 k_759 k_760 k_98 pl_X9_wordOf ⟨Nat.le_of_ble_eq_true rfl, Nat.le_of_ble_eq_true rfl⟩ rfl rfl (va_recv hK hP (ci := 9) (q0 := 3) rfl rfl) hP hD hS [3, 4, 5, 6, 7, 8, 9, 10, 11] [0, 1, 2] rfl rfl rfl rfl rfl (by decide) rfl hl.1 rfl (Nat.le_of_ble_eq_true rfl) dX6_sumFor_69 ⟨Nat.le_of_ble_eq_true rfl, Nat.le_of_ble_eq_true rfl⟩ (fun v_80 u_81 H locs hv_82 hP hD hS => ?_)
                obtain ⟨r_83, rfl, he_84⟩ := hv_82
                have he_84 : (True) := he_84
                refine W.eq (g2 := F0 m 72 ls [.long r_83, .int vy_6, .ref (Ra 2)]) rfl ?_
                have hP : va_P D classes [((Ra 0), .inr (6, [.ref (Ra 1), .ref (Ra 2)])), ((Ra 1), .inl (tc 0, Rn, .inl (Rf 1))), ((Ra 2), .inl (tc 1, 64, .inr (.inl vy_7))), ((Aa 0), .inr (9, [.int (Av 0), .int (Av 1), .int (Av 2), .int (Av 3), .int (Av 4), .int (Av 5), .ref (Aa 1), .ref (Aa 2), .ref (Aa 3), .ref (Aa 4), .ref (Aa 5), .ref (Aa 6), .ref (Aa 7), .ref (Aa 8)])), ((Aa 1), .inl (tc 0, 10, .inl (Af 1))), ((Aa 2), .inl (tc 0, 10, .inl (Af 2))), ((Aa 3), .inl (tc 0, 6, .inl (Af 3))), ((Aa 4), .inl (tc 0, 6, .inl (Af 4))), ((Aa 5), .inl (tc 0, 6, .inl (Af 5))), ((Aa 6), .inl (tc 0, 6, .inl (Af 6))), ((Aa 7), .inl (tc 0, 6, .inl (Af 7))), ((Aa 8), .inl (tc 0, 6, .inl (Af 8)))] H := hP
                have hD : va_D A [((Ra 0), .inr (6, [.ref (Ra 1), .ref (Ra 2)])), ((Ra 1), .inl (tc 0, Rn, .inl (Rf 1))), ((Ra 2), .inl (tc 1, 64, .inr (.inl vy_7))), ((Aa 0), .inr (9, [.int (Av 0), .int (Av 1), .int (Av 2), .int (Av 3), .int (Av 4), .int (Av 5), .ref (Aa 1), .ref (Aa 2), .ref (Aa 3), .ref (Aa 4), .ref (Aa 5), .ref (Aa 6), .ref (Aa 7), .ref (Aa 8)])), ((Aa 1), .inl (tc 0, 10, .inl (Af 1))), ((Aa 2), .inl (tc 0, 10, .inl (Af 2))), ((Aa 3), .inl (tc 0, 6, .inl (Af 3))), ((Aa 4), .inl (tc 0, 6, .inl (Af 4))), ((Aa 5), .inl (tc 0, 6, .inl (Af 5))), ((Aa 6), .inl (tc 0, 6, .inl (Af 6))), ((Aa 7), .inl (tc 0, 6, .inl (Af 7))), ((Aa 8), .inl (tc 0, 6, .inl (Af 8)))] := hD
                have hi_85 : vp_in vy_6 64 := by
                  have z_1 := Int32.lt_iff_toInt_lt.mp (Int32.not_le.mp c_14)
                  have z_2 := Int32.le_iff_toInt_le.mp (Int32.not_lt.mp c_17)
                  have z_3 := Int32.le_iff_toInt_le.mp (Int32.not_lt.mp c_76)
                  have z_4 := Int32.lt_iff_toInt_lt.mp c_77
                  have z_5 := Int32.le_iff_toInt_le.mp c_78
                  have y_0 : (0 : Int32).toInt = 0 := by decide
                  have y_64 : (64 : Int32).toInt = 64 := by decide
                  have y_100000 : (100000 : Int32).toInt = 100000 := by decide
                  have n_0 : (nI Rn).toInt = ((Rn : Nat) : Int) := nI_toInt (by omega)
                  refine vp_in_iff.mpr ⟨?_, ?_⟩ <;> omega
                refine st_long hx hb hK hP hD hS 2 1 rfl rfl hi_85 dX6_sumFor_72 (fun g_86 H locs eg_86 hP hD hS => ?_)
                have hP : va_P D classes [((Ra 0), .inr (6, [.ref (Ra 1), .ref (Ra 2)])), ((Ra 1), .inl (tc 0, Rn, .inl (Rf 1))), ((Ra 2), .inl (tc 1, 64, .inr (.inl g_86))), ((Aa 0), .inr (9, [.int (Av 0), .int (Av 1), .int (Av 2), .int (Av 3), .int (Av 4), .int (Av 5), .ref (Aa 1), .ref (Aa 2), .ref (Aa 3), .ref (Aa 4), .ref (Aa 5), .ref (Aa 6), .ref (Aa 7), .ref (Aa 8)])), ((Aa 1), .inl (tc 0, 10, .inl (Af 1))), ((Aa 2), .inl (tc 0, 10, .inl (Af 2))), ((Aa 3), .inl (tc 0, 6, .inl (Af 3))), ((Aa 4), .inl (tc 0, 6, .inl (Af 4))), ((Aa 5), .inl (tc 0, 6, .inl (Af 5))), ((Aa 6), .inl (tc 0, 6, .inl (Af 6))), ((Aa 7), .inl (tc 0, 6, .inl (Af 7))), ((Aa 8), .inl (tc 0, 6, .inl (Af 8)))] H := hP
                have hD : va_D A [((Ra 0), .inr (6, [.ref (Ra 1), .ref (Ra 2)])), ((Ra 1), .inl (tc 0, Rn, .inl (Rf 1))), ((Ra 2), .inl (tc 1, 64, .inr (.inl g_86))), ((Aa 0), .inr (9, [.int (Av 0), .int (Av 1), .int (Av 2), .int (Av 3), .int (Av 4), .int (Av 5), .ref (Aa 1), .ref (Aa 2), .ref (Aa 3), .ref (Aa 4), .ref (Aa 5), .ref (Aa 6), .ref (Aa 7), .ref (Aa 8)])), ((Aa 1), .inl (tc 0, 10, .inl (Af 1))), ((Aa 2), .inl (tc 0, 10, .inl (Af 2))), ((Aa 3), .inl (tc 0, 6, .inl (Af 3))), ((Aa 4), .inl (tc 0, 6, .inl (Af 4))), ((Aa 5), .inl (tc 0, 6, .inl (Af 5))), ((Aa 6), .inl (tc 0, 6, .inl (Af 6))), ((Aa 7), .inl (tc 0, 6, .inl (Af 7))), ((Aa 8), .inl (tc 0, 6, .inl (Af 8)))] := hD
                obtain ⟨x_87, ex_87⟩ : ∃ y : Int32, y = vy_6 + 1 := ⟨_, rfl⟩
                refine lv_iinc (v := x_87) (lv' := [(3, .int x_87), (5, .int x_16), (4, .int vy_5), (0, .ref (Ra 0)), (1, .ref (Aa 0)), (2, .int x1)]) hx hb dX6_sumFor_73 hl (k := 2) rfl (by rw [ex_87]; rfl) (by decide) rfl (fun ls hl => ?_)
                refine lv_goto (tgt := 246) hx hb dX6_sumFor_76 (by decide) ?_
                obtain ⟨x_88, ex_88⟩ : ∃ y : Int32, y = vy_5 + 1 := ⟨_, rfl⟩
                refine lv_iinc (v := x_88) (lv' := [(4, .int x_88), (3, .int x_87), (5, .int x_16), (0, .ref (Ra 0)), (1, .ref (Aa 0)), (2, .int x1)]) hx hb dX6_sumFor_246 hl (k := 2) rfl (by rw [ex_88]; rfl) (by decide) rfl (fun ls hl => ?_)
                refine lv_goto (tgt := 5) hx hb dX6_sumFor_249 (by decide) ?_
                have hb_89 : 0 ≤ (x_88 : Int32).toInt ∧ (400 - (x_88 : Int32).toInt).toNat < n_8 := by
                  have z_1 := Int32.lt_iff_toInt_lt.mp (Int32.not_le.mp c_14)
                  have z_2 := Int32.le_iff_toInt_le.mp (Int32.not_lt.mp c_17)
                  have z_3 := Int32.le_iff_toInt_le.mp (Int32.not_lt.mp c_76)
                  have z_4 := Int32.lt_iff_toInt_lt.mp c_77
                  have z_5 := Int32.le_iff_toInt_le.mp c_78
                  have y_0 : (0 : Int32).toInt = 0 := by decide
                  have y_64 : (64 : Int32).toInt = 64 := by decide
                  have y_100000 : (100000 : Int32).toInt = 100000 := by decide
                  have n_0 : (nI Rn).toInt = ((Rn : Nat) : Int) := nI_toInt (by omega)
                  have y_1 : (1 : Int32).toInt = 1 := by decide
                  have t_x_88 : x_88.toInt = (vy_5 : Int32).toInt + (1 : Int32).toInt := by rw [ex_88]; exact add_toInt (by omega) (by omega)
                  omega
                exact ih_9 x_88 x_87 g_86 _ _ _ hb_89.1 hb_89.2 (hP.sub [0, 1, 2, 3, 4, 5, 6, 7, 8, 9, 10, 11] rfl) (hD.sub [0, 1, 2, 3, 4, 5, 6, 7, 8, 9, 10, 11] rfl rfl) hS (lv_sub hl [0, 1, 3, 4, 5] rfl)
              · skip
                refine lv_iload hx hb dX6_sumFor_56 (lv_at hl 0 rfl) ?_
                refine lv_i2l (v := (x_16).toInt64) hx hb dX6_sumFor_58 rfl ?_
                refine lv_goto (tgt := 72) hx hb dX6_sumFor_59 (by decide) ?_
                have hi_90 : vp_in vy_6 64 := by
                  have z_1 := Int32.lt_iff_toInt_lt.mp (Int32.not_le.mp c_14)
                  have z_2 := Int32.le_iff_toInt_le.mp (Int32.not_lt.mp c_17)
                  have z_3 := Int32.le_iff_toInt_le.mp (Int32.not_lt.mp c_76)
                  have z_4 := Int32.lt_iff_toInt_lt.mp c_77
                  have z_5 := Int32.lt_iff_toInt_lt.mp (Int32.not_le.mp c_78)
                  have y_0 : (0 : Int32).toInt = 0 := by decide
                  have y_64 : (64 : Int32).toInt = 64 := by decide
                  have y_100000 : (100000 : Int32).toInt = 100000 := by decide
                  have n_0 : (nI Rn).toInt = ((Rn : Nat) : Int) := nI_toInt (by omega)
                  refine vp_in_iff.mpr ⟨?_, ?_⟩ <;> omega
                refine st_long hx hb hK hP hD hS 2 1 rfl rfl hi_90 dX6_sumFor_72 (fun g_91 H locs eg_91 hP hD hS => ?_)
                have hP : va_P D classes [((Ra 0), .inr (6, [.ref (Ra 1), .ref (Ra 2)])), ((Ra 1), .inl (tc 0, Rn, .inl (Rf 1))), ((Ra 2), .inl (tc 1, 64, .inr (.inl g_91))), ((Aa 0), .inr (9, [.int (Av 0), .int (Av 1), .int (Av 2), .int (Av 3), .int (Av 4), .int (Av 5), .ref (Aa 1), .ref (Aa 2), .ref (Aa 3), .ref (Aa 4), .ref (Aa 5), .ref (Aa 6), .ref (Aa 7), .ref (Aa 8)])), ((Aa 1), .inl (tc 0, 10, .inl (Af 1))), ((Aa 2), .inl (tc 0, 10, .inl (Af 2))), ((Aa 3), .inl (tc 0, 6, .inl (Af 3))), ((Aa 4), .inl (tc 0, 6, .inl (Af 4))), ((Aa 5), .inl (tc 0, 6, .inl (Af 5))), ((Aa 6), .inl (tc 0, 6, .inl (Af 6))), ((Aa 7), .inl (tc 0, 6, .inl (Af 7))), ((Aa 8), .inl (tc 0, 6, .inl (Af 8)))] H := hP
                have hD : va_D A [((Ra 0), .inr (6, [.ref (Ra 1), .ref (Ra 2)])), ((Ra 1), .inl (tc 0, Rn, .inl (Rf 1))), ((Ra 2), .inl (tc 1, 64, .inr (.inl g_91))), ((Aa 0), .inr (9, [.int (Av 0), .int (Av 1), .int (Av 2), .int (Av 3), .int (Av 4), .int (Av 5), .ref (Aa 1), .ref (Aa 2), .ref (Aa 3), .ref (Aa 4), .ref (Aa 5), .ref (Aa 6), .ref (Aa 7), .ref (Aa 8)])), ((Aa 1), .inl (tc 0, 10, .inl (Af 1))), ((Aa 2), .inl (tc 0, 10, .inl (Af 2))), ((Aa 3), .inl (tc 0, 6, .inl (Af 3))), ((Aa 4), .inl (tc 0, 6, .inl (Af 4))), ((Aa 5), .inl (tc 0, 6, .inl (Af 5))), ((Aa 6), .inl (tc 0, 6, .inl (Af 6))), ((Aa 7), .inl (tc 0, 6, .inl (Af 7))), ((Aa 8), .inl (tc 0, 6, .inl (Af 8)))] := hD
                obtain ⟨x_92, ex_92⟩ : ∃ y : Int32, y = vy_6 + 1 := ⟨_, rfl⟩
                refine lv_iinc (v := x_92) (lv' := [(3, .int x_92), (5, .int x_16), (4, .int vy_5), (0, .ref (Ra 0)), (1, .ref (Aa 0)), (2, .int x1)]) hx hb dX6_sumFor_73 hl (k := 2) rfl (by rw [ex_92]; rfl) (by decide) rfl (fun ls hl => ?_)
                refine lv_goto (tgt := 246) hx hb dX6_sumFor_76 (by decide) ?_
                obtain ⟨x_93, ex_93⟩ : ∃ y : Int32, y = vy_5 + 1 := ⟨_, rfl⟩
                refine lv_iinc (v := x_93) (lv' := [(4, .int x_93), (3, .int x_92), (5, .int x_16), (0, .ref (Ra 0)), (1, .ref (Aa 0)), (2, .int x1)]) hx hb dX6_sumFor_246 hl (k := 2) rfl (by rw [ex_93]; rfl) (by decide) rfl (fun ls hl => ?_)
                refine lv_goto (tgt := 5) hx hb dX6_sumFor_249 (by decide) ?_
                have hb_94 : 0 ≤ (x_93 : Int32).toInt ∧ (400 - (x_93 : Int32).toInt).toNat < n_8 := by
                  have z_1 := Int32.lt_iff_toInt_lt.mp (Int32.not_le.mp c_14)
                  have z_2 := Int32.le_iff_toInt_le.mp (Int32.not_lt.mp c_17)
                  have z_3 := Int32.le_iff_toInt_le.mp (Int32.not_lt.mp c_76)
                  have z_4 := Int32.lt_iff_toInt_lt.mp c_77
                  have z_5 := Int32.lt_iff_toInt_lt.mp (Int32.not_le.mp c_78)
                  have y_0 : (0 : Int32).toInt = 0 := by decide
                  have y_64 : (64 : Int32).toInt = 64 := by decide
                  have y_100000 : (100000 : Int32).toInt = 100000 := by decide
                  have n_0 : (nI Rn).toInt = ((Rn : Nat) : Int) := nI_toInt (by omega)
                  have y_1 : (1 : Int32).toInt = 1 := by decide
                  have t_x_93 : x_93.toInt = (vy_5 : Int32).toInt + (1 : Int32).toInt := by rw [ex_93]; exact add_toInt (by omega) (by omega)
                  omega
                exact ih_9 x_93 x_92 g_91 _ _ _ hb_94.1 hb_94.2 (hP.sub [0, 1, 2, 3, 4, 5, 6, 7, 8, 9, 10, 11] rfl) (hD.sub [0, 1, 2, 3, 4, 5, 6, 7, 8, 9, 10, 11] rfl rfl) hS (lv_sub hl [0, 1, 3, 4, 5] rfl)
            · skip
              refine lv_lconst (v := 0) hx hb dX6_sumFor_42 (by decide) ?_
              exact retL (v := 0) hx hb hr hlk hP hD hS vy_7 ⟨_, rfl, trivial⟩ [0, 1, 2, 3, 4, 5, 6, 7, 8, 9, 10, 11] rfl rfl dX6_sumFor_43 (Nat.le_of_ble_eq_true rfl) (Nat.le_of_ble_eq_true rfl) rfl
  have h0_95 : 0 ≤ (0 : Int32).toInt := by
    have y_0 : (0 : Int32).toInt = 0 := by decide
    decide
  exact loop_10 _ 0 0 (Rg 2) _ _ _ h0_95 (Nat.lt_succ_self _) hP hD hS hl
set_option maxRecDepth 100000 in
theorem cu_X6_sumFor (l : Launch) (D : va_G) (tc : Nat → ClassId) (sk : (Nat → Nat) × (Nat → Nat)) (Ra_0 : Nat) (Ra_1 : Nat) (Ra_2 : Nat) (Rf_1 : Nat → Int32) (Rg_2 : Nat → Int64) (Rn : Nat) (Aa_0 : Nat) (Aa_1 : Nat) (Aa_2 : Nat) (Aa_3 : Nat) (Aa_4 : Nat) (Aa_5 : Nat) (Aa_6 : Nat) (Aa_7 : Nat) (Aa_8 : Nat) (Av_0 : Int32) (Av_1 : Int32) (Av_2 : Int32) (Av_3 : Int32) (Av_4 : Int32) (Av_5 : Int32) (Af_1 : Nat → Int32) (Af_2 : Nat → Int32) (Af_3 : Nat → Int32) (Af_4 : Nat → Int32) (Af_5 : Nat → Int32) (Af_6 : Nat → Int32) (Af_7 : Nat → Int32) (Af_8 : Nat → Int32) (x1 : Int32) (hRn : Rn ≤ 400) : Ct l yX6_sumFor cX6_sumFor 6 (some .long) { frames := 3, cells := 0, slots := 0, locals := 64 } D tc sk [.ref Ra_0, .ref Aa_0, .int x1] [(Ra_0, .inr (6, [.ref Ra_1, .ref Ra_2])), (Ra_1, .inl (tc 0, Rn, .inl Rf_1)), (Ra_2, .inl (tc 1, 64, .inr (.inl Rg_2))), (Aa_0, .inr (9, [.int Av_0, .int Av_1, .int Av_2, .int Av_3, .int Av_4, .int Av_5, .ref Aa_1, .ref Aa_2, .ref Aa_3, .ref Aa_4, .ref Aa_5, .ref Aa_6, .ref Aa_7, .ref Aa_8])), (Aa_1, .inl (tc 0, 10, .inl Af_1)), (Aa_2, .inl (tc 0, 10, .inl Af_2)), (Aa_3, .inl (tc 0, 6, .inl Af_3)), (Aa_4, .inl (tc 0, 6, .inl Af_4)), (Aa_5, .inl (tc 0, 6, .inl Af_5)), (Aa_6, .inl (tc 0, 6, .inl Af_6)), (Aa_7, .inl (tc 0, 6, .inl Af_7)), (Aa_8, .inl (tc 0, 6, .inl Af_8))] (fun (v : Option Value) (o1 : Nat → Int64) => ∃ r : Int64, v = some (.long r) ∧ (True)) (fun (o1 : Nat → Int64) => [(Ra_0, .inr (6, [.ref Ra_1, .ref Ra_2])), (Ra_1, .inl (tc 0, Rn, .inl Rf_1)), (Ra_2, .inl (tc 1, 64, .inr (.inl o1))), (Aa_0, .inr (9, [.int Av_0, .int Av_1, .int Av_2, .int Av_3, .int Av_4, .int Av_5, .ref Aa_1, .ref Aa_2, .ref Aa_3, .ref Aa_4, .ref Aa_5, .ref Aa_6, .ref Aa_7, .ref Aa_8])), (Aa_1, .inl (tc 0, 10, .inl Af_1)), (Aa_2, .inl (tc 0, 10, .inl Af_2)), (Aa_3, .inl (tc 0, 6, .inl Af_3)), (Aa_4, .inl (tc 0, 6, .inl Af_4)), (Aa_5, .inl (tc 0, 6, .inl Af_5)), (Aa_6, .inl (tc 0, 6, .inl Af_6)), (Aa_7, .inl (tc 0, 6, .inl Af_7)), (Aa_8, .inl (tc 0, 6, .inl Af_8))]) 0 0 :=
  ct_X6_sumFor l D tc sk (fun k => ([Ra_0, Ra_1, Ra_2] : List (Nat)).getD k 0) (fun k => ([(fun _ => 0), Rf_1] : List (Nat → Int32)).getD k (fun _ => 0)) (fun k => ([(fun _ => 0), (fun _ => 0), Rg_2] : List (Nat → Int64)).getD k (fun _ => 0)) Rn (fun k => ([Aa_0, Aa_1, Aa_2, Aa_3, Aa_4, Aa_5, Aa_6, Aa_7, Aa_8] : List (Nat)).getD k 0) (fun k => ([Av_0, Av_1, Av_2, Av_3, Av_4, Av_5] : List (Int32)).getD k 0) (fun k => ([(fun _ => 0), Af_1, Af_2, Af_3, Af_4, Af_5, Af_6, Af_7, Af_8] : List (Nat → Int32)).getD k (fun _ => 0)) x1 hRn
set_option maxHeartbeats 4000000 in
set_option maxRecDepth 100000 in
theorem ct_X9_goThroughDay_n (l : Launch) (D : va_G) (tc : Nat → ClassId) (sk : (Nat → Nat) × (Nat → Nat)) (Aa : Nat → Nat) (Av : Nat → Int32) (Af : Nat → Nat → Int32)  : Ct l yX9_goThroughDay cX9_goThroughDay 8 (some .int) { frames := 2, cells := 0, slots := 0, locals := 42 } D tc sk [.ref (Aa 0), .null] [((Aa 0), .inr (9, [.int (Av 0), .int (Av 1), .int (Av 2), .int (Av 3), .int (Av 4), .int (Av 5), .ref (Aa 1), .ref (Aa 2), .ref (Aa 3), .ref (Aa 4), .ref (Aa 5), .ref (Aa 6), .ref (Aa 7), .ref (Aa 8)])), ((Aa 1), .inl (tc 0, 10, .inl (Af 1))), ((Aa 2), .inl (tc 0, 10, .inl (Af 2))), ((Aa 3), .inl (tc 0, 6, .inl (Af 3))), ((Aa 4), .inl (tc 0, 6, .inl (Af 4))), ((Aa 5), .inl (tc 0, 6, .inl (Af 5))), ((Aa 6), .inl (tc 0, 6, .inl (Af 6))), ((Aa 7), .inl (tc 0, 6, .inl (Af 7))), ((Aa 8), .inl (tc 0, 6, .inl (Af 8)))] (fun (v : Option Value) (u : (Int32) × (Int32) × (Int32) × (Nat → Int32) × (Nat → Int32) × (Nat → Int32) × (Nat → Int32)) => match u with | (o1, o2, o3, o4, o5, o6, o7) => ∃ r : Int32, v = some (.int r) ∧ (True)) (fun (u : (Int32) × (Int32) × (Int32) × (Nat → Int32) × (Nat → Int32) × (Nat → Int32) × (Nat → Int32)) => match u with | (o1, o2, o3, o4, o5, o6, o7) => [((Aa 0), .inr (9, [.int o1, .int (Av 1), .int (Av 2), .int (Av 3), .int o2, .int o3, .ref (Aa 1), .ref (Aa 2), .ref (Aa 3), .ref (Aa 4), .ref (Aa 5), .ref (Aa 6), .ref (Aa 7), .ref (Aa 8)])), ((Aa 1), .inl (tc 0, 10, .inl (Af 1))), ((Aa 2), .inl (tc 0, 10, .inl (Af 2))), ((Aa 3), .inl (tc 0, 6, .inl o4)), ((Aa 4), .inl (tc 0, 6, .inl (Af 4))), ((Aa 5), .inl (tc 0, 6, .inl (Af 5))), ((Aa 6), .inl (tc 0, 6, .inl o5)), ((Aa 7), .inl (tc 0, 6, .inl o6)), ((Aa 8), .inl (tc 0, 6, .inl o7))]) 0 0 := by
  refine Ct.start (by decide) (Nat.le_of_ble_eq_true rfl) (fun p e s m below meth c A ls hx hb hr hlk hin hml hown hts hK hX hP hD hA hl hS => ?_)
  have hl : lv_has ls 8 [(0, .ref (Aa 0)), (1, .null)] := hl
  refine lv_aload_n hx hb dX9_goThroughDay_0 rfl (lv_at hl 0 rfl) ?_
  refine lv_aload_n hx hb dX9_goThroughDay_1 rfl (lv_at hl 0 rfl) ?_
  refine gf_X9_24 hx hb hts hown hK hP 0 rfl rfl dX9_goThroughDay_2 ?_
  refine cV (a := (Aa 0)) (As := [.int (Av 4)]) (rest := []) (wr := []) ⟨hx, hb, hml, hown, hts⟩ hK hX hA (cu_X9_stillOn l D tc sk (Aa 0) (Aa 1) (Aa 2) (Aa 3) (Aa 4) (Aa 5) (Aa 6) (Aa 7) (Aa 8) (Av 0) (Av 1) (Av 2) (Av 3) (Av 4) (Av 5) (Af 1) (Af 2) (Af 3) (Af 4) (Af 5) (Af 6) (Af 7) (Af 8) (Av 4)) k_743 k_740 k_741 k_742 k_98 pl_X9_stillOn ⟨Nat.le_of_ble_eq_true rfl, Nat.le_of_ble_eq_true rfl⟩ rfl rfl (va_recv hK hP (ci := 9) (q0 := 0) rfl rfl) hP hD hS [0, 1, 2, 3, 4, 5, 6, 7, 8] [] rfl rfl rfl rfl rfl (by decide) rfl hl.1 rfl (Nat.le_of_ble_eq_true rfl) dX9_goThroughDay_5 ⟨Nat.le_of_ble_eq_true rfl, Nat.le_of_ble_eq_true rfl⟩ (fun v_1 u_2 H locs hv_3 hP hD hS => ?_)
  obtain ⟨r_4, rfl, he_5⟩ := hv_3
  have he_5 : (True) := he_5
  refine W.eq (g2 := F0 m 8 ls [.int r_4]) rfl ?_
  have hP : va_P D classes [((Aa 0), .inr (9, [.int (Av 0), .int (Av 1), .int (Av 2), .int (Av 3), .int (Av 4), .int (Av 5), .ref (Aa 1), .ref (Aa 2), .ref (Aa 3), .ref (Aa 4), .ref (Aa 5), .ref (Aa 6), .ref (Aa 7), .ref (Aa 8)])), ((Aa 1), .inl (tc 0, 10, .inl (Af 1))), ((Aa 2), .inl (tc 0, 10, .inl (Af 2))), ((Aa 3), .inl (tc 0, 6, .inl (Af 3))), ((Aa 4), .inl (tc 0, 6, .inl (Af 4))), ((Aa 5), .inl (tc 0, 6, .inl (Af 5))), ((Aa 6), .inl (tc 0, 6, .inl (Af 6))), ((Aa 7), .inl (tc 0, 6, .inl (Af 7))), ((Aa 8), .inl (tc 0, 6, .inl (Af 8)))] H := hP
  have hD : va_D A [((Aa 0), .inr (9, [.int (Av 0), .int (Av 1), .int (Av 2), .int (Av 3), .int (Av 4), .int (Av 5), .ref (Aa 1), .ref (Aa 2), .ref (Aa 3), .ref (Aa 4), .ref (Aa 5), .ref (Aa 6), .ref (Aa 7), .ref (Aa 8)])), ((Aa 1), .inl (tc 0, 10, .inl (Af 1))), ((Aa 2), .inl (tc 0, 10, .inl (Af 2))), ((Aa 3), .inl (tc 0, 6, .inl (Af 3))), ((Aa 4), .inl (tc 0, 6, .inl (Af 4))), ((Aa 5), .inl (tc 0, 6, .inl (Af 5))), ((Aa 6), .inl (tc 0, 6, .inl (Af 6))), ((Aa 7), .inl (tc 0, 6, .inl (Af 7))), ((Aa 8), .inl (tc 0, 6, .inl (Af 8)))] := hD
  refine lv_istore_n (lv' := [(2, .int r_4), (0, .ref (Aa 0)), (1, .null)]) hx hb dX9_goThroughDay_8 rfl hl (by decide) rfl (fun ls hl => ?_)
  refine lv_aload_n hx hb dX9_goThroughDay_9 rfl (lv_at hl 1 rfl) ?_
  refine lv_aload_n hx hb dX9_goThroughDay_10 rfl (lv_at hl 1 rfl) ?_
  refine gf_X9_24 hx hb hts hown hK hP 0 rfl rfl dX9_goThroughDay_11 ?_
  refine cV (a := (Aa 0)) (As := [.int (Av 4)]) (rest := []) (wr := []) ⟨hx, hb, hml, hown, hts⟩ hK hX hA (cu_X9_clockOn l D tc sk (Aa 0) (Aa 1) (Aa 2) (Aa 3) (Aa 4) (Aa 5) (Aa 6) (Aa 7) (Aa 8) (Av 0) (Av 1) (Av 2) (Av 3) (Av 4) (Av 5) (Af 1) (Af 2) (Af 3) (Af 4) (Af 5) (Af 6) (Af 7) (Af 8) (Av 4)) k_747 k_744 k_745 k_746 k_98 pl_X9_clockOn ⟨Nat.le_of_ble_eq_true rfl, Nat.le_of_ble_eq_true rfl⟩ rfl rfl (va_recv hK hP (ci := 9) (q0 := 0) rfl rfl) hP hD hS [0, 1, 2, 3, 4, 5, 6, 7, 8] [] rfl rfl rfl rfl rfl (by decide) rfl hl.1 rfl (Nat.le_of_ble_eq_true rfl) dX9_goThroughDay_14 ⟨Nat.le_of_ble_eq_true rfl, Nat.le_of_ble_eq_true rfl⟩ (fun v_6 u_7 H locs hv_8 hP hD hS => ?_)
  obtain ⟨r_9, rfl, he_10⟩ := hv_8
  have he_10 : (True) := he_10
  refine W.eq (g2 := F0 m 17 ls [.int r_9]) rfl ?_
  have hP : va_P D classes [((Aa 0), .inr (9, [.int (Av 0), .int (Av 1), .int (Av 2), .int (Av 3), .int (Av 4), .int (Av 5), .ref (Aa 1), .ref (Aa 2), .ref (Aa 3), .ref (Aa 4), .ref (Aa 5), .ref (Aa 6), .ref (Aa 7), .ref (Aa 8)])), ((Aa 1), .inl (tc 0, 10, .inl (Af 1))), ((Aa 2), .inl (tc 0, 10, .inl (Af 2))), ((Aa 3), .inl (tc 0, 6, .inl (Af 3))), ((Aa 4), .inl (tc 0, 6, .inl (Af 4))), ((Aa 5), .inl (tc 0, 6, .inl (Af 5))), ((Aa 6), .inl (tc 0, 6, .inl (Af 6))), ((Aa 7), .inl (tc 0, 6, .inl (Af 7))), ((Aa 8), .inl (tc 0, 6, .inl (Af 8)))] H := hP
  have hD : va_D A [((Aa 0), .inr (9, [.int (Av 0), .int (Av 1), .int (Av 2), .int (Av 3), .int (Av 4), .int (Av 5), .ref (Aa 1), .ref (Aa 2), .ref (Aa 3), .ref (Aa 4), .ref (Aa 5), .ref (Aa 6), .ref (Aa 7), .ref (Aa 8)])), ((Aa 1), .inl (tc 0, 10, .inl (Af 1))), ((Aa 2), .inl (tc 0, 10, .inl (Af 2))), ((Aa 3), .inl (tc 0, 6, .inl (Af 3))), ((Aa 4), .inl (tc 0, 6, .inl (Af 4))), ((Aa 5), .inl (tc 0, 6, .inl (Af 5))), ((Aa 6), .inl (tc 0, 6, .inl (Af 6))), ((Aa 7), .inl (tc 0, 6, .inl (Af 7))), ((Aa 8), .inl (tc 0, 6, .inl (Af 8)))] := hD
  refine lv_istore_n (lv' := [(3, .int r_9), (2, .int r_4), (0, .ref (Aa 0)), (1, .null)]) hx hb dX9_goThroughDay_17 rfl hl (by decide) rfl (fun ls hl => ?_)
  refine lv_aload_n hx hb dX9_goThroughDay_18 rfl (lv_at hl 2 rfl) ?_
  refine lv_iload_n hx hb dX9_goThroughDay_19 rfl (lv_at hl 0 rfl) ?_
  refine cV (a := (Aa 0)) (As := [.int r_9]) (rest := []) (wr := []) ⟨hx, hb, hml, hown, hts⟩ hK hX hA (cu_X9_hasClock l D tc sk (Aa 0) (Aa 1) (Aa 2) (Aa 3) (Aa 4) (Aa 5) (Aa 6) (Aa 7) (Aa 8) (Av 0) (Av 1) (Av 2) (Av 3) (Av 4) (Av 5) (Af 1) (Af 2) (Af 3) (Af 4) (Af 5) (Af 6) (Af 7) (Af 8) r_9) k_579 k_748 k_577 k_578 k_98 pl_X9_hasClock ⟨Nat.le_of_ble_eq_true rfl, Nat.le_of_ble_eq_true rfl⟩ rfl rfl (va_recv hK hP (ci := 9) (q0 := 0) rfl rfl) hP hD hS [0, 1, 2, 3, 4, 5, 6, 7, 8] [] rfl rfl rfl rfl rfl (by decide) rfl hl.1 rfl (Nat.le_of_ble_eq_true rfl) dX9_goThroughDay_20 ⟨Nat.le_of_ble_eq_true rfl, Nat.le_of_ble_eq_true rfl⟩ (fun v_11 u_12 H locs hv_13 hP hD hS => ?_)
  obtain ⟨r_14, rfl, he_15⟩ := hv_13
  have he_15 : ((r_14.toInt = 0 ∨ (r_14.toInt = 1 ∧ 0 ≤ r_9.toInt ∧ r_9.toInt < 10))) := he_15
  refine W.eq (g2 := F0 m 23 ls [.int r_14]) rfl ?_
  have hP : va_P D classes [((Aa 0), .inr (9, [.int (Av 0), .int (Av 1), .int (Av 2), .int (Av 3), .int (Av 4), .int (Av 5), .ref (Aa 1), .ref (Aa 2), .ref (Aa 3), .ref (Aa 4), .ref (Aa 5), .ref (Aa 6), .ref (Aa 7), .ref (Aa 8)])), ((Aa 1), .inl (tc 0, 10, .inl (Af 1))), ((Aa 2), .inl (tc 0, 10, .inl (Af 2))), ((Aa 3), .inl (tc 0, 6, .inl (Af 3))), ((Aa 4), .inl (tc 0, 6, .inl (Af 4))), ((Aa 5), .inl (tc 0, 6, .inl (Af 5))), ((Aa 6), .inl (tc 0, 6, .inl (Af 6))), ((Aa 7), .inl (tc 0, 6, .inl (Af 7))), ((Aa 8), .inl (tc 0, 6, .inl (Af 8)))] H := hP
  have hD : va_D A [((Aa 0), .inr (9, [.int (Av 0), .int (Av 1), .int (Av 2), .int (Av 3), .int (Av 4), .int (Av 5), .ref (Aa 1), .ref (Aa 2), .ref (Aa 3), .ref (Aa 4), .ref (Aa 5), .ref (Aa 6), .ref (Aa 7), .ref (Aa 8)])), ((Aa 1), .inl (tc 0, 10, .inl (Af 1))), ((Aa 2), .inl (tc 0, 10, .inl (Af 2))), ((Aa 3), .inl (tc 0, 6, .inl (Af 3))), ((Aa 4), .inl (tc 0, 6, .inl (Af 4))), ((Aa 5), .inl (tc 0, 6, .inl (Af 5))), ((Aa 6), .inl (tc 0, 6, .inl (Af 6))), ((Aa 7), .inl (tc 0, 6, .inl (Af 7))), ((Aa 8), .inl (tc 0, 6, .inl (Af 8)))] := hD
  refine lv_if_eq (tgt := 35) hx hb dX9_goThroughDay_23 (by decide) (fun c_16 => ?_) (fun c_16 => ?_)
  · skip
    refine lv_iconst (v := 0) hx hb dX9_goThroughDay_35 (by decide) ?_
    refine lv_istore (lv' := [(4, .int 0), (3, .int r_9), (2, .int r_4), (0, .ref (Aa 0)), (1, .null)]) hx hb dX9_goThroughDay_36 hl (by decide) rfl (fun ls hl => ?_)
    refine lv_iconst (v := 0) hx hb dX9_goThroughDay_38 (by decide) ?_
    refine lv_istore (lv' := [(5, .int 0), (4, .int 0), (3, .int r_9), (2, .int r_4), (0, .ref (Aa 0)), (1, .null)]) hx hb dX9_goThroughDay_39 hl (by decide) rfl (fun ls hl => ?_)
    refine lv_iconst (v := 0) hx hb dX9_goThroughDay_41 (by decide) ?_
    refine lv_istore (lv' := [(6, .int 0), (5, .int 0), (4, .int 0), (3, .int r_9), (2, .int r_4), (0, .ref (Aa 0)), (1, .null)]) hx hb dX9_goThroughDay_42 hl (by decide) rfl (fun ls hl => ?_)
    have loop_36 : ∀ (n_34 : Nat) (vy_26 : Int32) (vy_27 : Int32) (vy_28 : Int32) (vy_29 : Int32) (vy_30 : Nat → Int32) (vy_31 : Nat → Int32) (vy_32 : Nat → Int32) (vy_33 : Nat → Int32) (H : Heap) (locs : List Loc) (ls : Array Slot), 0 ≤ (vy_26 : Int32).toInt → (6 - (vy_26 : Int32).toInt).toNat < n_34 → va_P D classes [((Aa 0), .inr (9, [.int vy_28, .int (Av 1), .int (Av 2), .int (Av 3), .int (Av 4), .int vy_29, .ref (Aa 1), .ref (Aa 2), .ref (Aa 3), .ref (Aa 4), .ref (Aa 5), .ref (Aa 6), .ref (Aa 7), .ref (Aa 8)])), ((Aa 1), .inl (tc 0, 10, .inl (Af 1))), ((Aa 2), .inl (tc 0, 10, .inl (Af 2))), ((Aa 3), .inl (tc 0, 6, .inl vy_30)), ((Aa 4), .inl (tc 0, 6, .inl (Af 4))), ((Aa 5), .inl (tc 0, 6, .inl (Af 5))), ((Aa 6), .inl (tc 0, 6, .inl vy_31)), ((Aa 7), .inl (tc 0, 6, .inl vy_33)), ((Aa 8), .inl (tc 0, 6, .inl vy_32))] H → va_D A [((Aa 0), .inr (9, [.int vy_28, .int (Av 1), .int (Av 2), .int (Av 3), .int (Av 4), .int vy_29, .ref (Aa 1), .ref (Aa 2), .ref (Aa 3), .ref (Aa 4), .ref (Aa 5), .ref (Aa 6), .ref (Aa 7), .ref (Aa 8)])), ((Aa 1), .inl (tc 0, 10, .inl (Af 1))), ((Aa 2), .inl (tc 0, 10, .inl (Af 2))), ((Aa 3), .inl (tc 0, 6, .inl vy_30)), ((Aa 4), .inl (tc 0, 6, .inl (Af 4))), ((Aa 5), .inl (tc 0, 6, .inl (Af 5))), ((Aa 6), .inl (tc 0, 6, .inl vy_31)), ((Aa 7), .inl (tc 0, 6, .inl vy_33)), ((Aa 8), .inl (tc 0, 6, .inl vy_32))] → va_S A s.heap H locs → lv_has ls 8 [(6, .int vy_26), (5, .int vy_27), (4, .int 0), (3, .int r_9), (2, .int r_4), (0, .ref (Aa 0)), (1, .null)] → W p l e ({ frames := 2, cells := 0, slots := 0, locals := 42 }) s m ([.ref (Aa 0), .null].toArray) below meth c H locs 0 0 (MQ below (QW (fun (v : Option Value) (u : (Int32) × (Int32) × (Int32) × (Nat → Int32) × (Nat → Int32) × (Nat → Int32) × (Nat → Int32)) => match u with | (o1, o2, o3, o4, o5, o6, o7) => ∃ r : Int32, v = some (.int r) ∧ (True)) (BW D (fun (u : (Int32) × (Int32) × (Int32) × (Nat → Int32) × (Nat → Int32) × (Nat → Int32) × (Nat → Int32)) => match u with | (o1, o2, o3, o4, o5, o6, o7) => [((Aa 0), .inr (9, [.int o1, .int (Av 1), .int (Av 2), .int (Av 3), .int o2, .int o3, .ref (Aa 1), .ref (Aa 2), .ref (Aa 3), .ref (Aa 4), .ref (Aa 5), .ref (Aa 6), .ref (Aa 7), .ref (Aa 8)])), ((Aa 1), .inl (tc 0, 10, .inl (Af 1))), ((Aa 2), .inl (tc 0, 10, .inl (Af 2))), ((Aa 3), .inl (tc 0, 6, .inl o4)), ((Aa 4), .inl (tc 0, 6, .inl (Af 4))), ((Aa 5), .inl (tc 0, 6, .inl (Af 5))), ((Aa 6), .inl (tc 0, 6, .inl o5)), ((Aa 7), .inl (tc 0, 6, .inl o6)), ((Aa 8), .inl (tc 0, 6, .inl o7))]) A) A) ([.ref (Aa 0), .null].toArray) s 0 0 A) (F0 m 44 ls []) := by
      intro n_34
      induction n_34 with
      | zero =>
        intro vy_26 vy_27 vy_28 vy_29 vy_30 vy_31 vy_32 vy_33 H locs ls h1 h2
        exact absurd h2 (Nat.not_lt_zero _)
      | succ n_34 ih_35 =>
        intro vy_26 vy_27 vy_28 vy_29 vy_30 vy_31 vy_32 vy_33 H locs ls hi_38 hn_39 hP hD hS hl
        refine lv_iload hx hb dX9_goThroughDay_44 (lv_at hl 0 rfl) ?_
        refine lv_aload_n hx hb dX9_goThroughDay_46 rfl (lv_at hl 5 rfl) ?_
        refine gf_X9_21 hx hb hts hown hK hP 0 rfl rfl dX9_goThroughDay_47 ?_
        refine lv_icmp_ge (tgt := 183) hx hb dX9_goThroughDay_50 (by decide) (fun c_40 => ?_) (fun c_40 => ?_)
        · skip
          refine lv_aload_n hx hb dX9_goThroughDay_183 rfl (lv_at hl 5 rfl) ?_
          refine lv_iload_n hx hb dX9_goThroughDay_184 rfl (lv_at hl 4 rfl) ?_
          refine cV (a := (Aa 0)) (As := [.int r_4]) (rest := []) (wr := []) ⟨hx, hb, hml, hown, hts⟩ hK hX hA (cu_X9_changeTempers l D tc sk (Aa 0) (Aa 1) (Aa 2) (Aa 3) (Aa 4) (Aa 5) (Aa 6) (Aa 7) (Aa 8) vy_28 (Av 1) (Av 2) (Av 3) (Av 4) vy_29 (Af 1) (Af 2) vy_30 (Af 4) (Af 5) vy_31 vy_33 vy_32 r_4) k_779 k_776 k_778 k_15 k_98 pl_X9_changeTempers ⟨Nat.le_of_ble_eq_true rfl, Nat.le_of_ble_eq_true rfl⟩ rfl rfl (va_recv hK hP (ci := 9) (q0 := 0) rfl rfl) hP hD hS [0, 1, 2, 3, 4, 5, 6, 7, 8] [] rfl rfl rfl rfl rfl (by decide) rfl hl.1 rfl (Nat.le_of_ble_eq_true rfl) dX9_goThroughDay_185 ⟨Nat.le_of_ble_eq_true rfl, Nat.le_of_ble_eq_true rfl⟩ (fun v_41 u_42 H locs hv_43 hP hD hS => ?_)
          obtain ⟨sv_44, rfl⟩ : ∃ z, z = u_42 := ⟨_, rfl⟩
          obtain rfl : v_41 = none := hv_43
          refine W.eq (g2 := F0 m 188 ls []) rfl ?_
          have hP : va_P D classes [((Aa 0), .inr (9, [.int vy_28, .int (Av 1), .int (Av 2), .int (Av 3), .int (Av 4), .int vy_29, .ref (Aa 1), .ref (Aa 2), .ref (Aa 3), .ref (Aa 4), .ref (Aa 5), .ref (Aa 6), .ref (Aa 7), .ref (Aa 8)])), ((Aa 1), .inl (tc 0, 10, .inl (Af 1))), ((Aa 2), .inl (tc 0, 10, .inl (Af 2))), ((Aa 3), .inl (tc 0, 6, .inl sv_44)), ((Aa 4), .inl (tc 0, 6, .inl (Af 4))), ((Aa 5), .inl (tc 0, 6, .inl (Af 5))), ((Aa 6), .inl (tc 0, 6, .inl vy_31)), ((Aa 7), .inl (tc 0, 6, .inl vy_33)), ((Aa 8), .inl (tc 0, 6, .inl vy_32))] H := hP
          have hD : va_D A [((Aa 0), .inr (9, [.int vy_28, .int (Av 1), .int (Av 2), .int (Av 3), .int (Av 4), .int vy_29, .ref (Aa 1), .ref (Aa 2), .ref (Aa 3), .ref (Aa 4), .ref (Aa 5), .ref (Aa 6), .ref (Aa 7), .ref (Aa 8)])), ((Aa 1), .inl (tc 0, 10, .inl (Af 1))), ((Aa 2), .inl (tc 0, 10, .inl (Af 2))), ((Aa 3), .inl (tc 0, 6, .inl sv_44)), ((Aa 4), .inl (tc 0, 6, .inl (Af 4))), ((Aa 5), .inl (tc 0, 6, .inl (Af 5))), ((Aa 6), .inl (tc 0, 6, .inl vy_31)), ((Aa 7), .inl (tc 0, 6, .inl vy_33)), ((Aa 8), .inl (tc 0, 6, .inl vy_32))] := hD
          refine lv_aload_n hx hb dX9_goThroughDay_188 rfl (lv_at hl 5 rfl) ?_
          refine gf_X9_24 hx hb hts hown hK hP 0 rfl rfl dX9_goThroughDay_189 ?_
          refine lv_bipush (v := 7) hx hb dX9_goThroughDay_192 (by decide) ?_
          refine lv_irem hx hb dX9_goThroughDay_194 (by decide) ?_
          refine lv_topi (fun x_45 ex_45 => ?_)
          refine lv_bipush (v := 6) hx hb dX9_goThroughDay_195 (by decide) ?_
          refine lv_icmp_ne (tgt := 218) hx hb dX9_goThroughDay_197 (by decide) (fun c_46 => ?_) (fun c_46 => ?_)
          · skip
            refine lv_aload_n hx hb dX9_goThroughDay_218 rfl (lv_at hl 5 rfl) ?_
            refine lv_dup hx hb dX9_goThroughDay_219 rfl ?_
            refine gf_X9_24 hx hb hts hown hK hP 0 rfl rfl dX9_goThroughDay_220 ?_
            refine lv_iconst (v := 1) hx hb dX9_goThroughDay_223 (by decide) ?_
            refine lv_iadd hx hb dX9_goThroughDay_224 ?_
            refine lv_topi (fun x_47 ex_47 => ?_)
            refine pf_X9_24 hx hb hts hown hK hP hD hS 0 rfl (Nat.le_of_ble_eq_true rfl) rfl rfl dX9_goThroughDay_225 (fun H locs hP hD hS => ?_)
            have hP : va_P D classes [((Aa 0), .inr (9, [.int vy_28, .int (Av 1), .int (Av 2), .int (Av 3), .int x_47, .int vy_29, .ref (Aa 1), .ref (Aa 2), .ref (Aa 3), .ref (Aa 4), .ref (Aa 5), .ref (Aa 6), .ref (Aa 7), .ref (Aa 8)])), ((Aa 1), .inl (tc 0, 10, .inl (Af 1))), ((Aa 2), .inl (tc 0, 10, .inl (Af 2))), ((Aa 3), .inl (tc 0, 6, .inl sv_44)), ((Aa 4), .inl (tc 0, 6, .inl (Af 4))), ((Aa 5), .inl (tc 0, 6, .inl (Af 5))), ((Aa 6), .inl (tc 0, 6, .inl vy_31)), ((Aa 7), .inl (tc 0, 6, .inl vy_33)), ((Aa 8), .inl (tc 0, 6, .inl vy_32))] H := hP
            have hD : va_D A [((Aa 0), .inr (9, [.int vy_28, .int (Av 1), .int (Av 2), .int (Av 3), .int x_47, .int vy_29, .ref (Aa 1), .ref (Aa 2), .ref (Aa 3), .ref (Aa 4), .ref (Aa 5), .ref (Aa 6), .ref (Aa 7), .ref (Aa 8)])), ((Aa 1), .inl (tc 0, 10, .inl (Af 1))), ((Aa 2), .inl (tc 0, 10, .inl (Af 2))), ((Aa 3), .inl (tc 0, 6, .inl sv_44)), ((Aa 4), .inl (tc 0, 6, .inl (Af 4))), ((Aa 5), .inl (tc 0, 6, .inl (Af 5))), ((Aa 6), .inl (tc 0, 6, .inl vy_31)), ((Aa 7), .inl (tc 0, 6, .inl vy_33)), ((Aa 8), .inl (tc 0, 6, .inl vy_32))] := hD
            refine lv_iload hx hb dX9_goThroughDay_228 (lv_at hl 1 rfl) ?_
            exact retI (v := vy_27) hx hb hr hlk (rfl) hP hD hS (vy_28, x_47, vy_29, sv_44, vy_31, vy_33, vy_32) ⟨_, rfl, trivial⟩ [0, 1, 2, 3, 4, 5, 6, 7, 8] rfl rfl dX9_goThroughDay_230 (Nat.le_of_ble_eq_true rfl) (Nat.le_of_ble_eq_true rfl) rfl
          · skip
            refine lv_aload_n hx hb dX9_goThroughDay_200 rfl (lv_at hl 5 rfl) ?_
            refine lv_bipush (v := 99) hx hb dX9_goThroughDay_201 (by decide) ?_
            refine lv_aload_n hx hb dX9_goThroughDay_203 rfl (lv_at hl 5 rfl) ?_
            refine gf_X9_9 hx hb hts hown hK hP 0 rfl rfl dX9_goThroughDay_204 ?_
            refine lv_aload_n hx hb dX9_goThroughDay_207 rfl (lv_at hl 5 rfl) ?_
            refine gf_X9_15 hx hb hts hown hK hP 0 rfl rfl dX9_goThroughDay_208 ?_
            refine lv_iadd hx hb dX9_goThroughDay_211 ?_
            refine lv_topi (fun x_48 ex_48 => ?_)
            refine va_mmin hx hb (hml.trans hl.1.symm) hown (hts _ k_780) (hts _ k_680) (hts _ k_114) (hts _ k_681) (Nat.le_of_ble_eq_true rfl) (Nat.le_of_ble_eq_true rfl) (Nat.le_of_ble_eq_true rfl) (Nat.le_of_ble_eq_true rfl) dX9_goThroughDay_212 ?_
            refine lv_topi (fun x_49 ex_49 => ?_)
            have mx_49 := imin_f ex_49
            rw [show (99 : Int32).toInt = 99 by decide] at mx_49
            refine pf_X9_9 hx hb hts hown hK hP hD hS 0 rfl (Nat.le_of_ble_eq_true rfl) rfl rfl dX9_goThroughDay_215 (fun H locs hP hD hS => ?_)
            have hP : va_P D classes [((Aa 0), .inr (9, [.int x_49, .int (Av 1), .int (Av 2), .int (Av 3), .int (Av 4), .int vy_29, .ref (Aa 1), .ref (Aa 2), .ref (Aa 3), .ref (Aa 4), .ref (Aa 5), .ref (Aa 6), .ref (Aa 7), .ref (Aa 8)])), ((Aa 1), .inl (tc 0, 10, .inl (Af 1))), ((Aa 2), .inl (tc 0, 10, .inl (Af 2))), ((Aa 3), .inl (tc 0, 6, .inl sv_44)), ((Aa 4), .inl (tc 0, 6, .inl (Af 4))), ((Aa 5), .inl (tc 0, 6, .inl (Af 5))), ((Aa 6), .inl (tc 0, 6, .inl vy_31)), ((Aa 7), .inl (tc 0, 6, .inl vy_33)), ((Aa 8), .inl (tc 0, 6, .inl vy_32))] H := hP
            have hD : va_D A [((Aa 0), .inr (9, [.int x_49, .int (Av 1), .int (Av 2), .int (Av 3), .int (Av 4), .int vy_29, .ref (Aa 1), .ref (Aa 2), .ref (Aa 3), .ref (Aa 4), .ref (Aa 5), .ref (Aa 6), .ref (Aa 7), .ref (Aa 8)])), ((Aa 1), .inl (tc 0, 10, .inl (Af 1))), ((Aa 2), .inl (tc 0, 10, .inl (Af 2))), ((Aa 3), .inl (tc 0, 6, .inl sv_44)), ((Aa 4), .inl (tc 0, 6, .inl (Af 4))), ((Aa 5), .inl (tc 0, 6, .inl (Af 5))), ((Aa 6), .inl (tc 0, 6, .inl vy_31)), ((Aa 7), .inl (tc 0, 6, .inl vy_33)), ((Aa 8), .inl (tc 0, 6, .inl vy_32))] := hD
            refine lv_aload_n hx hb dX9_goThroughDay_218 rfl (lv_at hl 5 rfl) ?_
            refine lv_dup hx hb dX9_goThroughDay_219 rfl ?_
            refine gf_X9_24 hx hb hts hown hK hP 0 rfl rfl dX9_goThroughDay_220 ?_
            refine lv_iconst (v := 1) hx hb dX9_goThroughDay_223 (by decide) ?_
            refine lv_iadd hx hb dX9_goThroughDay_224 ?_
            refine lv_topi (fun x_50 ex_50 => ?_)
            refine pf_X9_24 hx hb hts hown hK hP hD hS 0 rfl (Nat.le_of_ble_eq_true rfl) rfl rfl dX9_goThroughDay_225 (fun H locs hP hD hS => ?_)
            have hP : va_P D classes [((Aa 0), .inr (9, [.int x_49, .int (Av 1), .int (Av 2), .int (Av 3), .int x_50, .int vy_29, .ref (Aa 1), .ref (Aa 2), .ref (Aa 3), .ref (Aa 4), .ref (Aa 5), .ref (Aa 6), .ref (Aa 7), .ref (Aa 8)])), ((Aa 1), .inl (tc 0, 10, .inl (Af 1))), ((Aa 2), .inl (tc 0, 10, .inl (Af 2))), ((Aa 3), .inl (tc 0, 6, .inl sv_44)), ((Aa 4), .inl (tc 0, 6, .inl (Af 4))), ((Aa 5), .inl (tc 0, 6, .inl (Af 5))), ((Aa 6), .inl (tc 0, 6, .inl vy_31)), ((Aa 7), .inl (tc 0, 6, .inl vy_33)), ((Aa 8), .inl (tc 0, 6, .inl vy_32))] H := hP
            have hD : va_D A [((Aa 0), .inr (9, [.int x_49, .int (Av 1), .int (Av 2), .int (Av 3), .int x_50, .int vy_29, .ref (Aa 1), .ref (Aa 2), .ref (Aa 3), .ref (Aa 4), .ref (Aa 5), .ref (Aa 6), .ref (Aa 7), .ref (Aa 8)])), ((Aa 1), .inl (tc 0, 10, .inl (Af 1))), ((Aa 2), .inl (tc 0, 10, .inl (Af 2))), ((Aa 3), .inl (tc 0, 6, .inl sv_44)), ((Aa 4), .inl (tc 0, 6, .inl (Af 4))), ((Aa 5), .inl (tc 0, 6, .inl (Af 5))), ((Aa 6), .inl (tc 0, 6, .inl vy_31)), ((Aa 7), .inl (tc 0, 6, .inl vy_33)), ((Aa 8), .inl (tc 0, 6, .inl vy_32))] := hD
            refine lv_iload hx hb dX9_goThroughDay_228 (lv_at hl 1 rfl) ?_
            exact retI (v := vy_27) hx hb hr hlk (rfl) hP hD hS (x_49, x_50, vy_29, sv_44, vy_31, vy_33, vy_32) ⟨_, rfl, trivial⟩ [0, 1, 2, 3, 4, 5, 6, 7, 8] rfl rfl dX9_goThroughDay_230 (Nat.le_of_ble_eq_true rfl) (Nat.le_of_ble_eq_true rfl) rfl
        · skip
          refine lv_iload hx hb dX9_goThroughDay_53 (lv_at hl 0 rfl) ?_
          refine lv_bipush (v := 6) hx hb dX9_goThroughDay_55 (by decide) ?_
          refine lv_icmp_ge (tgt := 183) hx hb dX9_goThroughDay_57 (by decide) (fun c_51 => ?_) (fun c_51 => ?_)
          · skip
            refine lv_aload_n hx hb dX9_goThroughDay_183 rfl (lv_at hl 5 rfl) ?_
            refine lv_iload_n hx hb dX9_goThroughDay_184 rfl (lv_at hl 4 rfl) ?_
            refine cV (a := (Aa 0)) (As := [.int r_4]) (rest := []) (wr := []) ⟨hx, hb, hml, hown, hts⟩ hK hX hA (cu_X9_changeTempers l D tc sk (Aa 0) (Aa 1) (Aa 2) (Aa 3) (Aa 4) (Aa 5) (Aa 6) (Aa 7) (Aa 8) vy_28 (Av 1) (Av 2) (Av 3) (Av 4) vy_29 (Af 1) (Af 2) vy_30 (Af 4) (Af 5) vy_31 vy_33 vy_32 r_4) k_779 k_776 k_778 k_15 k_98 pl_X9_changeTempers ⟨Nat.le_of_ble_eq_true rfl, Nat.le_of_ble_eq_true rfl⟩ rfl rfl (va_recv hK hP (ci := 9) (q0 := 0) rfl rfl) hP hD hS [0, 1, 2, 3, 4, 5, 6, 7, 8] [] rfl rfl rfl rfl rfl (by decide) rfl hl.1 rfl (Nat.le_of_ble_eq_true rfl) dX9_goThroughDay_185 ⟨Nat.le_of_ble_eq_true rfl, Nat.le_of_ble_eq_true rfl⟩ (fun v_52 u_53 H locs hv_54 hP hD hS => ?_)
            obtain ⟨sv_55, rfl⟩ : ∃ z, z = u_53 := ⟨_, rfl⟩
            obtain rfl : v_52 = none := hv_54
            refine W.eq (g2 := F0 m 188 ls []) rfl ?_
            have hP : va_P D classes [((Aa 0), .inr (9, [.int vy_28, .int (Av 1), .int (Av 2), .int (Av 3), .int (Av 4), .int vy_29, .ref (Aa 1), .ref (Aa 2), .ref (Aa 3), .ref (Aa 4), .ref (Aa 5), .ref (Aa 6), .ref (Aa 7), .ref (Aa 8)])), ((Aa 1), .inl (tc 0, 10, .inl (Af 1))), ((Aa 2), .inl (tc 0, 10, .inl (Af 2))), ((Aa 3), .inl (tc 0, 6, .inl sv_55)), ((Aa 4), .inl (tc 0, 6, .inl (Af 4))), ((Aa 5), .inl (tc 0, 6, .inl (Af 5))), ((Aa 6), .inl (tc 0, 6, .inl vy_31)), ((Aa 7), .inl (tc 0, 6, .inl vy_33)), ((Aa 8), .inl (tc 0, 6, .inl vy_32))] H := hP
            have hD : va_D A [((Aa 0), .inr (9, [.int vy_28, .int (Av 1), .int (Av 2), .int (Av 3), .int (Av 4), .int vy_29, .ref (Aa 1), .ref (Aa 2), .ref (Aa 3), .ref (Aa 4), .ref (Aa 5), .ref (Aa 6), .ref (Aa 7), .ref (Aa 8)])), ((Aa 1), .inl (tc 0, 10, .inl (Af 1))), ((Aa 2), .inl (tc 0, 10, .inl (Af 2))), ((Aa 3), .inl (tc 0, 6, .inl sv_55)), ((Aa 4), .inl (tc 0, 6, .inl (Af 4))), ((Aa 5), .inl (tc 0, 6, .inl (Af 5))), ((Aa 6), .inl (tc 0, 6, .inl vy_31)), ((Aa 7), .inl (tc 0, 6, .inl vy_33)), ((Aa 8), .inl (tc 0, 6, .inl vy_32))] := hD
            refine lv_aload_n hx hb dX9_goThroughDay_188 rfl (lv_at hl 5 rfl) ?_
            refine gf_X9_24 hx hb hts hown hK hP 0 rfl rfl dX9_goThroughDay_189 ?_
            refine lv_bipush (v := 7) hx hb dX9_goThroughDay_192 (by decide) ?_
            refine lv_irem hx hb dX9_goThroughDay_194 (by decide) ?_
            refine lv_topi (fun x_56 ex_56 => ?_)
            refine lv_bipush (v := 6) hx hb dX9_goThroughDay_195 (by decide) ?_
            refine lv_icmp_ne (tgt := 218) hx hb dX9_goThroughDay_197 (by decide) (fun c_57 => ?_) (fun c_57 => ?_)
            · skip
              refine lv_aload_n hx hb dX9_goThroughDay_218 rfl (lv_at hl 5 rfl) ?_
              refine lv_dup hx hb dX9_goThroughDay_219 rfl ?_
              refine gf_X9_24 hx hb hts hown hK hP 0 rfl rfl dX9_goThroughDay_220 ?_
              refine lv_iconst (v := 1) hx hb dX9_goThroughDay_223 (by decide) ?_
              refine lv_iadd hx hb dX9_goThroughDay_224 ?_
              refine lv_topi (fun x_58 ex_58 => ?_)
              refine pf_X9_24 hx hb hts hown hK hP hD hS 0 rfl (Nat.le_of_ble_eq_true rfl) rfl rfl dX9_goThroughDay_225 (fun H locs hP hD hS => ?_)
              have hP : va_P D classes [((Aa 0), .inr (9, [.int vy_28, .int (Av 1), .int (Av 2), .int (Av 3), .int x_58, .int vy_29, .ref (Aa 1), .ref (Aa 2), .ref (Aa 3), .ref (Aa 4), .ref (Aa 5), .ref (Aa 6), .ref (Aa 7), .ref (Aa 8)])), ((Aa 1), .inl (tc 0, 10, .inl (Af 1))), ((Aa 2), .inl (tc 0, 10, .inl (Af 2))), ((Aa 3), .inl (tc 0, 6, .inl sv_55)), ((Aa 4), .inl (tc 0, 6, .inl (Af 4))), ((Aa 5), .inl (tc 0, 6, .inl (Af 5))), ((Aa 6), .inl (tc 0, 6, .inl vy_31)), ((Aa 7), .inl (tc 0, 6, .inl vy_33)), ((Aa 8), .inl (tc 0, 6, .inl vy_32))] H := hP
              have hD : va_D A [((Aa 0), .inr (9, [.int vy_28, .int (Av 1), .int (Av 2), .int (Av 3), .int x_58, .int vy_29, .ref (Aa 1), .ref (Aa 2), .ref (Aa 3), .ref (Aa 4), .ref (Aa 5), .ref (Aa 6), .ref (Aa 7), .ref (Aa 8)])), ((Aa 1), .inl (tc 0, 10, .inl (Af 1))), ((Aa 2), .inl (tc 0, 10, .inl (Af 2))), ((Aa 3), .inl (tc 0, 6, .inl sv_55)), ((Aa 4), .inl (tc 0, 6, .inl (Af 4))), ((Aa 5), .inl (tc 0, 6, .inl (Af 5))), ((Aa 6), .inl (tc 0, 6, .inl vy_31)), ((Aa 7), .inl (tc 0, 6, .inl vy_33)), ((Aa 8), .inl (tc 0, 6, .inl vy_32))] := hD
              refine lv_iload hx hb dX9_goThroughDay_228 (lv_at hl 1 rfl) ?_
              exact retI (v := vy_27) hx hb hr hlk (rfl) hP hD hS (vy_28, x_58, vy_29, sv_55, vy_31, vy_33, vy_32) ⟨_, rfl, trivial⟩ [0, 1, 2, 3, 4, 5, 6, 7, 8] rfl rfl dX9_goThroughDay_230 (Nat.le_of_ble_eq_true rfl) (Nat.le_of_ble_eq_true rfl) rfl
            · skip
              refine lv_aload_n hx hb dX9_goThroughDay_200 rfl (lv_at hl 5 rfl) ?_
              refine lv_bipush (v := 99) hx hb dX9_goThroughDay_201 (by decide) ?_
              refine lv_aload_n hx hb dX9_goThroughDay_203 rfl (lv_at hl 5 rfl) ?_
              refine gf_X9_9 hx hb hts hown hK hP 0 rfl rfl dX9_goThroughDay_204 ?_
              refine lv_aload_n hx hb dX9_goThroughDay_207 rfl (lv_at hl 5 rfl) ?_
              refine gf_X9_15 hx hb hts hown hK hP 0 rfl rfl dX9_goThroughDay_208 ?_
              refine lv_iadd hx hb dX9_goThroughDay_211 ?_
              refine lv_topi (fun x_59 ex_59 => ?_)
              refine va_mmin hx hb (hml.trans hl.1.symm) hown (hts _ k_780) (hts _ k_680) (hts _ k_114) (hts _ k_681) (Nat.le_of_ble_eq_true rfl) (Nat.le_of_ble_eq_true rfl) (Nat.le_of_ble_eq_true rfl) (Nat.le_of_ble_eq_true rfl) dX9_goThroughDay_212 ?_
              refine lv_topi (fun x_60 ex_60 => ?_)
              have mx_60 := imin_f ex_60
              rw [show (99 : Int32).toInt = 99 by decide] at mx_60
              refine pf_X9_9 hx hb hts hown hK hP hD hS 0 rfl (Nat.le_of_ble_eq_true rfl) rfl rfl dX9_goThroughDay_215 (fun H locs hP hD hS => ?_)
              have hP : va_P D classes [((Aa 0), .inr (9, [.int x_60, .int (Av 1), .int (Av 2), .int (Av 3), .int (Av 4), .int vy_29, .ref (Aa 1), .ref (Aa 2), .ref (Aa 3), .ref (Aa 4), .ref (Aa 5), .ref (Aa 6), .ref (Aa 7), .ref (Aa 8)])), ((Aa 1), .inl (tc 0, 10, .inl (Af 1))), ((Aa 2), .inl (tc 0, 10, .inl (Af 2))), ((Aa 3), .inl (tc 0, 6, .inl sv_55)), ((Aa 4), .inl (tc 0, 6, .inl (Af 4))), ((Aa 5), .inl (tc 0, 6, .inl (Af 5))), ((Aa 6), .inl (tc 0, 6, .inl vy_31)), ((Aa 7), .inl (tc 0, 6, .inl vy_33)), ((Aa 8), .inl (tc 0, 6, .inl vy_32))] H := hP
              have hD : va_D A [((Aa 0), .inr (9, [.int x_60, .int (Av 1), .int (Av 2), .int (Av 3), .int (Av 4), .int vy_29, .ref (Aa 1), .ref (Aa 2), .ref (Aa 3), .ref (Aa 4), .ref (Aa 5), .ref (Aa 6), .ref (Aa 7), .ref (Aa 8)])), ((Aa 1), .inl (tc 0, 10, .inl (Af 1))), ((Aa 2), .inl (tc 0, 10, .inl (Af 2))), ((Aa 3), .inl (tc 0, 6, .inl sv_55)), ((Aa 4), .inl (tc 0, 6, .inl (Af 4))), ((Aa 5), .inl (tc 0, 6, .inl (Af 5))), ((Aa 6), .inl (tc 0, 6, .inl vy_31)), ((Aa 7), .inl (tc 0, 6, .inl vy_33)), ((Aa 8), .inl (tc 0, 6, .inl vy_32))] := hD
              refine lv_aload_n hx hb dX9_goThroughDay_218 rfl (lv_at hl 5 rfl) ?_
              refine lv_dup hx hb dX9_goThroughDay_219 rfl ?_
              refine gf_X9_24 hx hb hts hown hK hP 0 rfl rfl dX9_goThroughDay_220 ?_
              refine lv_iconst (v := 1) hx hb dX9_goThroughDay_223 (by decide) ?_
              refine lv_iadd hx hb dX9_goThroughDay_224 ?_
              refine lv_topi (fun x_61 ex_61 => ?_)
              refine pf_X9_24 hx hb hts hown hK hP hD hS 0 rfl (Nat.le_of_ble_eq_true rfl) rfl rfl dX9_goThroughDay_225 (fun H locs hP hD hS => ?_)
              have hP : va_P D classes [((Aa 0), .inr (9, [.int x_60, .int (Av 1), .int (Av 2), .int (Av 3), .int x_61, .int vy_29, .ref (Aa 1), .ref (Aa 2), .ref (Aa 3), .ref (Aa 4), .ref (Aa 5), .ref (Aa 6), .ref (Aa 7), .ref (Aa 8)])), ((Aa 1), .inl (tc 0, 10, .inl (Af 1))), ((Aa 2), .inl (tc 0, 10, .inl (Af 2))), ((Aa 3), .inl (tc 0, 6, .inl sv_55)), ((Aa 4), .inl (tc 0, 6, .inl (Af 4))), ((Aa 5), .inl (tc 0, 6, .inl (Af 5))), ((Aa 6), .inl (tc 0, 6, .inl vy_31)), ((Aa 7), .inl (tc 0, 6, .inl vy_33)), ((Aa 8), .inl (tc 0, 6, .inl vy_32))] H := hP
              have hD : va_D A [((Aa 0), .inr (9, [.int x_60, .int (Av 1), .int (Av 2), .int (Av 3), .int x_61, .int vy_29, .ref (Aa 1), .ref (Aa 2), .ref (Aa 3), .ref (Aa 4), .ref (Aa 5), .ref (Aa 6), .ref (Aa 7), .ref (Aa 8)])), ((Aa 1), .inl (tc 0, 10, .inl (Af 1))), ((Aa 2), .inl (tc 0, 10, .inl (Af 2))), ((Aa 3), .inl (tc 0, 6, .inl sv_55)), ((Aa 4), .inl (tc 0, 6, .inl (Af 4))), ((Aa 5), .inl (tc 0, 6, .inl (Af 5))), ((Aa 6), .inl (tc 0, 6, .inl vy_31)), ((Aa 7), .inl (tc 0, 6, .inl vy_33)), ((Aa 8), .inl (tc 0, 6, .inl vy_32))] := hD
              refine lv_iload hx hb dX9_goThroughDay_228 (lv_at hl 1 rfl) ?_
              exact retI (v := vy_27) hx hb hr hlk (rfl) hP hD hS (x_60, x_61, vy_29, sv_55, vy_31, vy_33, vy_32) ⟨_, rfl, trivial⟩ [0, 1, 2, 3, 4, 5, 6, 7, 8] rfl rfl dX9_goThroughDay_230 (Nat.le_of_ble_eq_true rfl) (Nat.le_of_ble_eq_true rfl) rfl
          · skip
            refine lv_aload_n hx hb dX9_goThroughDay_60 rfl (lv_at hl 5 rfl) ?_
            refine lv_iload hx hb dX9_goThroughDay_61 (lv_at hl 0 rfl) ?_
            refine cV (a := (Aa 0)) (As := [.int vy_26]) (rest := []) (wr := []) ⟨hx, hb, hml, hown, hts⟩ hK hX hA (cu_X9_canBuy l D tc sk (Aa 0) (Aa 1) (Aa 2) (Aa 3) (Aa 4) (Aa 5) (Aa 6) (Aa 7) (Aa 8) vy_28 (Av 1) (Av 2) (Av 3) (Av 4) vy_29 (Af 1) (Af 2) vy_30 (Af 4) (Af 5) vy_31 vy_33 vy_32 vy_26) k_752 k_749 k_751 k_14 k_98 pl_X9_canBuy ⟨Nat.le_of_ble_eq_true rfl, Nat.le_of_ble_eq_true rfl⟩ rfl rfl (va_recv hK hP (ci := 9) (q0 := 0) rfl rfl) hP hD hS [0, 1, 2, 3, 4, 5, 6, 7, 8] [] rfl rfl rfl rfl rfl (by decide) rfl hl.1 rfl (Nat.le_of_ble_eq_true rfl) dX9_goThroughDay_63 ⟨Nat.le_of_ble_eq_true rfl, Nat.le_of_ble_eq_true rfl⟩ (fun v_62 u_63 H locs hv_64 hP hD hS => ?_)
            obtain ⟨r_65, rfl, he_66⟩ := hv_64
            have he_66 : ((r_65.toInt = 0 ∨ r_65.toInt = 1)) := he_66
            refine W.eq (g2 := F0 m 66 ls [.int r_65]) rfl ?_
            have hP : va_P D classes [((Aa 0), .inr (9, [.int vy_28, .int (Av 1), .int (Av 2), .int (Av 3), .int (Av 4), .int vy_29, .ref (Aa 1), .ref (Aa 2), .ref (Aa 3), .ref (Aa 4), .ref (Aa 5), .ref (Aa 6), .ref (Aa 7), .ref (Aa 8)])), ((Aa 1), .inl (tc 0, 10, .inl (Af 1))), ((Aa 2), .inl (tc 0, 10, .inl (Af 2))), ((Aa 3), .inl (tc 0, 6, .inl vy_30)), ((Aa 4), .inl (tc 0, 6, .inl (Af 4))), ((Aa 5), .inl (tc 0, 6, .inl (Af 5))), ((Aa 6), .inl (tc 0, 6, .inl vy_31)), ((Aa 7), .inl (tc 0, 6, .inl vy_33)), ((Aa 8), .inl (tc 0, 6, .inl vy_32))] H := hP
            have hD : va_D A [((Aa 0), .inr (9, [.int vy_28, .int (Av 1), .int (Av 2), .int (Av 3), .int (Av 4), .int vy_29, .ref (Aa 1), .ref (Aa 2), .ref (Aa 3), .ref (Aa 4), .ref (Aa 5), .ref (Aa 6), .ref (Aa 7), .ref (Aa 8)])), ((Aa 1), .inl (tc 0, 10, .inl (Af 1))), ((Aa 2), .inl (tc 0, 10, .inl (Af 2))), ((Aa 3), .inl (tc 0, 6, .inl vy_30)), ((Aa 4), .inl (tc 0, 6, .inl (Af 4))), ((Aa 5), .inl (tc 0, 6, .inl (Af 5))), ((Aa 6), .inl (tc 0, 6, .inl vy_31)), ((Aa 7), .inl (tc 0, 6, .inl vy_33)), ((Aa 8), .inl (tc 0, 6, .inl vy_32))] := hD
            refine lv_if_ne (tgt := 72) hx hb dX9_goThroughDay_66 (by decide) (fun c_67 => ?_) (fun c_67 => ?_)
            · skip
              refine lv_aload_nN hx hb dX9_goThroughDay_72 rfl (lv_at hl 6 rfl) ?_
              refine lv_ifnonnullN hx hb dX9_goThroughDay_73 ?_
              refine lv_aload_n hx hb dX9_goThroughDay_76 rfl (lv_at hl 5 rfl) ?_
              refine gf_X9_37 hx hb hts hown hK hP 0 rfl rfl dX9_goThroughDay_77 ?_
              refine lv_iload hx hb dX9_goThroughDay_80 (lv_at hl 0 rfl) ?_
              have hi_68 : vp_in vy_26 6 := by
                have z_1 := congrArg Int32.toInt c_16
                have z_2 := Int32.lt_iff_toInt_lt.mp (Int32.not_le.mp c_40)
                have z_3 := Int32.lt_iff_toInt_lt.mp (Int32.not_le.mp c_51)
                have z_4 : ¬ (r_65 : Int32).toInt = (0 : Int32).toInt := fun z => c_67 (Int32.toInt_inj.mp z)
                have y_0 : (0 : Int32).toInt = 0 := by decide
                have y_6 : (6 : Int32).toInt = 6 := by decide
                refine vp_in_iff.mpr ⟨?_, ?_⟩ <;> omega
              refine va_iald hx hb hK hP 3 0 rfl rfl hi_68 dX9_goThroughDay_82 ?_
              refine lv_topi (fun x_69 ex_69 => ?_)
              refine lv_iload_n hx hb dX9_goThroughDay_83 rfl (lv_at hl 4 rfl) ?_
              refine lv_iadd hx hb dX9_goThroughDay_84 ?_
              refine lv_topi (fun x_70 ex_70 => ?_)
              refine lv_bipush (v := 12) hx hb dX9_goThroughDay_85 (by decide) ?_
              refine lv_icmp_lt (tgt := 94) hx hb dX9_goThroughDay_87 (by decide) (fun c_71 => ?_) (fun c_71 => ?_)
              · skip
                refine lv_iconst (v := 0) hx hb dX9_goThroughDay_94 (by decide) ?_
                refine lv_goto (tgt := 115) hx hb dX9_goThroughDay_95 (by decide) ?_
                refine lv_istore (lv' := [(7, .int 0), (6, .int vy_26), (5, .int vy_27), (4, .int 0), (3, .int r_9), (2, .int r_4), (0, .ref (Aa 0)), (1, .null)]) hx hb dX9_goThroughDay_115 hl (by decide) rfl (fun ls hl => ?_)
                refine lv_iload hx hb dX9_goThroughDay_117 (lv_at hl 0 rfl) ?_
                refine lv_if_eq (tgt := 157) hx hb dX9_goThroughDay_119 (by decide) (fun c_72 => ?_) (fun c_72 => absurd c_72 (by decide))
                refine lv_iload hx hb dX9_goThroughDay_157 (lv_at hl 0 rfl) ?_
                refine lv_if_eq (tgt := 177) hx hb dX9_goThroughDay_159 (by decide) (fun c_73 => ?_) (fun c_73 => absurd c_73 (by decide))
                obtain ⟨x_74, ex_74⟩ : ∃ y : Int32, y = vy_26 + 1 := ⟨_, rfl⟩
                refine lv_iinc (v := x_74) (lv' := [(6, .int x_74), (7, .int 0), (5, .int vy_27), (4, .int 0), (3, .int r_9), (2, .int r_4), (0, .ref (Aa 0)), (1, .null)]) hx hb dX9_goThroughDay_177 hl (k := 1) rfl (by rw [ex_74]; rfl) (by decide) rfl (fun ls hl => ?_)
                refine lv_goto (tgt := 44) hx hb dX9_goThroughDay_180 (by decide) ?_
                have hb_75 : 0 ≤ (x_74 : Int32).toInt ∧ (6 - (x_74 : Int32).toInt).toNat < n_34 := by
                  have z_1 := congrArg Int32.toInt c_16
                  have z_2 := Int32.lt_iff_toInt_lt.mp (Int32.not_le.mp c_40)
                  have z_3 := Int32.lt_iff_toInt_lt.mp (Int32.not_le.mp c_51)
                  have z_4 : ¬ (r_65 : Int32).toInt = (0 : Int32).toInt := fun z => c_67 (Int32.toInt_inj.mp z)
                  have z_5 := Int32.lt_iff_toInt_lt.mp c_71
                  have y_0 : (0 : Int32).toInt = 0 := by decide
                  have y_6 : (6 : Int32).toInt = 6 := by decide
                  have y_12 : (12 : Int32).toInt = 12 := by decide
                  have y_1 : (1 : Int32).toInt = 1 := by decide
                  have t_x_74 : x_74.toInt = (vy_26 : Int32).toInt + (1 : Int32).toInt := by rw [ex_74]; exact add_toInt (by omega) (by omega)
                  omega
                exact ih_35 x_74 vy_27 vy_28 vy_29 vy_30 vy_31 vy_32 vy_33 _ _ _ hb_75.1 hb_75.2 (hP.sub [0, 1, 2, 3, 4, 5, 6, 7, 8] rfl) (hD.sub [0, 1, 2, 3, 4, 5, 6, 7, 8] rfl rfl) hS (lv_sub hl [0, 2, 3, 4, 5, 6, 7] rfl)
              · skip
                refine lv_iconst (v := 1) hx hb dX9_goThroughDay_90 (by decide) ?_
                refine lv_goto (tgt := 115) hx hb dX9_goThroughDay_91 (by decide) ?_
                refine lv_istore (lv' := [(7, .int 1), (6, .int vy_26), (5, .int vy_27), (4, .int 0), (3, .int r_9), (2, .int r_4), (0, .ref (Aa 0)), (1, .null)]) hx hb dX9_goThroughDay_115 hl (by decide) rfl (fun ls hl => ?_)
                refine lv_iload hx hb dX9_goThroughDay_117 (lv_at hl 0 rfl) ?_
                refine lv_if_eq (tgt := 157) hx hb dX9_goThroughDay_119 (by decide) (fun c_76 => absurd c_76 (by decide)) (fun c_76 => ?_)
                refine lv_iload hx hb dX9_goThroughDay_122 (lv_at hl 3 rfl) ?_
                refine lv_iload hx hb dX9_goThroughDay_124 (lv_at hl 1 rfl) ?_
                refine lv_ishr hx hb dX9_goThroughDay_126 ?_
                refine lv_topi (fun x_77 ex_77 => ?_)
                refine lv_iconst (v := 1) hx hb dX9_goThroughDay_127 (by decide) ?_
                refine lv_iand hx hb dX9_goThroughDay_128 ?_
                refine lv_topi (fun x_78 ex_78 => ?_)
                refine lv_if_eq (tgt := 157) hx hb dX9_goThroughDay_129 (by decide) (fun c_79 => ?_) (fun c_79 => ?_)
                · skip
                  refine lv_iload hx hb dX9_goThroughDay_157 (lv_at hl 0 rfl) ?_
                  refine lv_if_eq (tgt := 177) hx hb dX9_goThroughDay_159 (by decide) (fun c_80 => absurd c_80 (by decide)) (fun c_80 => ?_)
                  refine lv_aload_n hx hb dX9_goThroughDay_162 rfl (lv_at hl 6 rfl) ?_
                  refine lv_iload hx hb dX9_goThroughDay_163 (lv_at hl 1 rfl) ?_
                  refine cV (a := (Aa 0)) (As := [.int vy_26]) (rest := []) (wr := []) ⟨hx, hb, hml, hown, hts⟩ hK hX hA (cu_X9_handOver l D tc sk (Aa 0) (Aa 1) (Aa 2) (Aa 3) (Aa 4) (Aa 5) (Aa 6) (Aa 7) (Aa 8) vy_28 (Av 1) (Av 2) (Av 3) (Av 4) vy_29 (Af 1) (Af 2) vy_30 (Af 4) (Af 5) vy_31 vy_33 vy_32 vy_26) k_772 k_769 k_770 k_771 k_98 pl_X9_handOver ⟨Nat.le_of_ble_eq_true rfl, Nat.le_of_ble_eq_true rfl⟩ rfl rfl (va_recv hK hP (ci := 9) (q0 := 0) rfl rfl) hP hD hS [0, 1, 2, 3, 4, 5, 6, 7, 8] [] rfl rfl rfl rfl rfl (by decide) rfl hl.1 rfl (Nat.le_of_ble_eq_true rfl) dX9_goThroughDay_165 ⟨Nat.le_of_ble_eq_true rfl, Nat.le_of_ble_eq_true rfl⟩ (fun v_81 u_82 H locs hv_83 hP hD hS => ?_)
                  obtain ⟨sv_84, sv_85, sv_86, sv_87, sv_88⟩ := u_82
                  obtain rfl : v_81 = none := hv_83
                  refine W.eq (g2 := F0 m 168 ls []) rfl ?_
                  have hP : va_P D classes [((Aa 0), .inr (9, [.int sv_84, .int (Av 1), .int (Av 2), .int (Av 3), .int (Av 4), .int sv_85, .ref (Aa 1), .ref (Aa 2), .ref (Aa 3), .ref (Aa 4), .ref (Aa 5), .ref (Aa 6), .ref (Aa 7), .ref (Aa 8)])), ((Aa 1), .inl (tc 0, 10, .inl (Af 1))), ((Aa 2), .inl (tc 0, 10, .inl (Af 2))), ((Aa 3), .inl (tc 0, 6, .inl sv_86)), ((Aa 4), .inl (tc 0, 6, .inl (Af 4))), ((Aa 5), .inl (tc 0, 6, .inl (Af 5))), ((Aa 6), .inl (tc 0, 6, .inl sv_87)), ((Aa 7), .inl (tc 0, 6, .inl vy_33)), ((Aa 8), .inl (tc 0, 6, .inl sv_88))] H := hP
                  have hD : va_D A [((Aa 0), .inr (9, [.int sv_84, .int (Av 1), .int (Av 2), .int (Av 3), .int (Av 4), .int sv_85, .ref (Aa 1), .ref (Aa 2), .ref (Aa 3), .ref (Aa 4), .ref (Aa 5), .ref (Aa 6), .ref (Aa 7), .ref (Aa 8)])), ((Aa 1), .inl (tc 0, 10, .inl (Af 1))), ((Aa 2), .inl (tc 0, 10, .inl (Af 2))), ((Aa 3), .inl (tc 0, 6, .inl sv_86)), ((Aa 4), .inl (tc 0, 6, .inl (Af 4))), ((Aa 5), .inl (tc 0, 6, .inl (Af 5))), ((Aa 6), .inl (tc 0, 6, .inl sv_87)), ((Aa 7), .inl (tc 0, 6, .inl vy_33)), ((Aa 8), .inl (tc 0, 6, .inl sv_88))] := hD
                  refine lv_iload hx hb dX9_goThroughDay_168 (lv_at hl 2 rfl) ?_
                  refine lv_iconst (v := 1) hx hb dX9_goThroughDay_170 (by decide) ?_
                  refine lv_iload hx hb dX9_goThroughDay_171 (lv_at hl 1 rfl) ?_
                  refine lv_ishl hx hb dX9_goThroughDay_173 ?_
                  refine lv_topi (fun x_89 ex_89 => ?_)
                  refine lv_ior hx hb dX9_goThroughDay_174 ?_
                  refine lv_topi (fun x_90 ex_90 => ?_)
                  refine lv_istore (lv' := [(5, .int x_90), (7, .int 1), (6, .int vy_26), (4, .int 0), (3, .int r_9), (2, .int r_4), (0, .ref (Aa 0)), (1, .null)]) hx hb dX9_goThroughDay_175 hl (by decide) rfl (fun ls hl => ?_)
                  obtain ⟨x_91, ex_91⟩ : ∃ y : Int32, y = vy_26 + 1 := ⟨_, rfl⟩
                  refine lv_iinc (v := x_91) (lv' := [(6, .int x_91), (5, .int x_90), (7, .int 1), (4, .int 0), (3, .int r_9), (2, .int r_4), (0, .ref (Aa 0)), (1, .null)]) hx hb dX9_goThroughDay_177 hl (k := 2) rfl (by rw [ex_91]; rfl) (by decide) rfl (fun ls hl => ?_)
                  refine lv_goto (tgt := 44) hx hb dX9_goThroughDay_180 (by decide) ?_
                  have hb_92 : 0 ≤ (x_91 : Int32).toInt ∧ (6 - (x_91 : Int32).toInt).toNat < n_34 := by
                    have z_1 := congrArg Int32.toInt c_16
                    have z_2 := Int32.lt_iff_toInt_lt.mp (Int32.not_le.mp c_40)
                    have z_3 := Int32.lt_iff_toInt_lt.mp (Int32.not_le.mp c_51)
                    have z_4 : ¬ (r_65 : Int32).toInt = (0 : Int32).toInt := fun z => c_67 (Int32.toInt_inj.mp z)
                    have z_5 := Int32.le_iff_toInt_le.mp (Int32.not_lt.mp c_71)
                    have z_6 := congrArg Int32.toInt c_79
                    have y_0 : (0 : Int32).toInt = 0 := by decide
                    have y_6 : (6 : Int32).toInt = 6 := by decide
                    have y_12 : (12 : Int32).toInt = 12 := by decide
                    have y_1 : (1 : Int32).toInt = 1 := by decide
                    have t_x_91 : x_91.toInt = (vy_26 : Int32).toInt + (1 : Int32).toInt := by rw [ex_91]; exact add_toInt (by omega) (by omega)
                    omega
                  exact ih_35 x_91 x_90 sv_84 sv_85 sv_86 sv_87 sv_88 vy_33 _ _ _ hb_92.1 hb_92.2 (hP.sub [0, 1, 2, 3, 4, 5, 6, 7, 8] rfl) (hD.sub [0, 1, 2, 3, 4, 5, 6, 7, 8] rfl rfl) hS (lv_sub hl [0, 1, 3, 4, 5, 6, 7] rfl)
                · skip
                  refine lv_aload_n hx hb dX9_goThroughDay_132 rfl (lv_at hl 6 rfl) ?_
                  refine gf_X9_49 hx hb hts hown hK hP 0 rfl rfl dX9_goThroughDay_133 ?_
                  refine lv_iload hx hb dX9_goThroughDay_136 (lv_at hl 1 rfl) ?_
                  refine lv_dup2_11 hx hb dX9_goThroughDay_138 rfl rfl ?_
                  have hi_93 : vp_in vy_26 6 := by
                    have z_1 := congrArg Int32.toInt c_16
                    have z_2 := Int32.lt_iff_toInt_lt.mp (Int32.not_le.mp c_40)
                    have z_3 := Int32.lt_iff_toInt_lt.mp (Int32.not_le.mp c_51)
                    have z_4 : ¬ (r_65 : Int32).toInt = (0 : Int32).toInt := fun z => c_67 (Int32.toInt_inj.mp z)
                    have z_5 := Int32.le_iff_toInt_le.mp (Int32.not_lt.mp c_71)
                    have z_6 : ¬ (x_78 : Int32).toInt = (0 : Int32).toInt := fun z => c_79 (Int32.toInt_inj.mp z)
                    have y_0 : (0 : Int32).toInt = 0 := by decide
                    have y_6 : (6 : Int32).toInt = 6 := by decide
                    have y_12 : (12 : Int32).toInt = 12 := by decide
                    refine vp_in_iff.mpr ⟨?_, ?_⟩ <;> omega
                  refine va_iald hx hb hK hP 7 0 rfl rfl hi_93 dX9_goThroughDay_139 ?_
                  refine lv_topi (fun x_94 ex_94 => ?_)
                  refine lv_iconst (v := 1) hx hb dX9_goThroughDay_140 (by decide) ?_
                  refine lv_iadd hx hb dX9_goThroughDay_141 ?_
                  refine lv_topi (fun x_95 ex_95 => ?_)
                  have hi_96 : vp_in vy_26 6 := by
                    have z_1 := congrArg Int32.toInt c_16
                    have z_2 := Int32.lt_iff_toInt_lt.mp (Int32.not_le.mp c_40)
                    have z_3 := Int32.lt_iff_toInt_lt.mp (Int32.not_le.mp c_51)
                    have z_4 : ¬ (r_65 : Int32).toInt = (0 : Int32).toInt := fun z => c_67 (Int32.toInt_inj.mp z)
                    have z_5 := Int32.le_iff_toInt_le.mp (Int32.not_lt.mp c_71)
                    have z_6 : ¬ (x_78 : Int32).toInt = (0 : Int32).toInt := fun z => c_79 (Int32.toInt_inj.mp z)
                    have y_0 : (0 : Int32).toInt = 0 := by decide
                    have y_6 : (6 : Int32).toInt = 6 := by decide
                    have y_12 : (12 : Int32).toInt = 12 := by decide
                    refine vp_in_iff.mpr ⟨?_, ?_⟩ <;> omega
                  refine st_int hx hb hK hP hD hS 7 0 rfl rfl hi_96 dX9_goThroughDay_142 (fun g_97 H locs eg_97 hP hD hS => ?_)
                  have hP : va_P D classes [((Aa 0), .inr (9, [.int vy_28, .int (Av 1), .int (Av 2), .int (Av 3), .int (Av 4), .int vy_29, .ref (Aa 1), .ref (Aa 2), .ref (Aa 3), .ref (Aa 4), .ref (Aa 5), .ref (Aa 6), .ref (Aa 7), .ref (Aa 8)])), ((Aa 1), .inl (tc 0, 10, .inl (Af 1))), ((Aa 2), .inl (tc 0, 10, .inl (Af 2))), ((Aa 3), .inl (tc 0, 6, .inl vy_30)), ((Aa 4), .inl (tc 0, 6, .inl (Af 4))), ((Aa 5), .inl (tc 0, 6, .inl (Af 5))), ((Aa 6), .inl (tc 0, 6, .inl vy_31)), ((Aa 7), .inl (tc 0, 6, .inl g_97)), ((Aa 8), .inl (tc 0, 6, .inl vy_32))] H := hP
                  have hD : va_D A [((Aa 0), .inr (9, [.int vy_28, .int (Av 1), .int (Av 2), .int (Av 3), .int (Av 4), .int vy_29, .ref (Aa 1), .ref (Aa 2), .ref (Aa 3), .ref (Aa 4), .ref (Aa 5), .ref (Aa 6), .ref (Aa 7), .ref (Aa 8)])), ((Aa 1), .inl (tc 0, 10, .inl (Af 1))), ((Aa 2), .inl (tc 0, 10, .inl (Af 2))), ((Aa 3), .inl (tc 0, 6, .inl vy_30)), ((Aa 4), .inl (tc 0, 6, .inl (Af 4))), ((Aa 5), .inl (tc 0, 6, .inl (Af 5))), ((Aa 6), .inl (tc 0, 6, .inl vy_31)), ((Aa 7), .inl (tc 0, 6, .inl g_97)), ((Aa 8), .inl (tc 0, 6, .inl vy_32))] := hD
                  refine lv_aload_n hx hb dX9_goThroughDay_143 rfl (lv_at hl 6 rfl) ?_
                  refine gf_X9_52 hx hb hts hown hK hP 0 rfl rfl dX9_goThroughDay_144 ?_
                  refine lv_iload hx hb dX9_goThroughDay_147 (lv_at hl 1 rfl) ?_
                  refine lv_aload_n hx hb dX9_goThroughDay_149 rfl (lv_at hl 6 rfl) ?_
                  refine gf_X9_24 hx hb hts hown hK hP 0 rfl rfl dX9_goThroughDay_150 ?_
                  have hi_98 : vp_in vy_26 6 := by
                    have z_1 := congrArg Int32.toInt c_16
                    have z_2 := Int32.lt_iff_toInt_lt.mp (Int32.not_le.mp c_40)
                    have z_3 := Int32.lt_iff_toInt_lt.mp (Int32.not_le.mp c_51)
                    have z_4 : ¬ (r_65 : Int32).toInt = (0 : Int32).toInt := fun z => c_67 (Int32.toInt_inj.mp z)
                    have z_5 := Int32.le_iff_toInt_le.mp (Int32.not_lt.mp c_71)
                    have z_6 : ¬ (x_78 : Int32).toInt = (0 : Int32).toInt := fun z => c_79 (Int32.toInt_inj.mp z)
                    have y_0 : (0 : Int32).toInt = 0 := by decide
                    have y_6 : (6 : Int32).toInt = 6 := by decide
                    have y_12 : (12 : Int32).toInt = 12 := by decide
                    refine vp_in_iff.mpr ⟨?_, ?_⟩ <;> omega
                  refine st_int hx hb hK hP hD hS 8 0 rfl rfl hi_98 dX9_goThroughDay_153 (fun g_99 H locs eg_99 hP hD hS => ?_)
                  have hP : va_P D classes [((Aa 0), .inr (9, [.int vy_28, .int (Av 1), .int (Av 2), .int (Av 3), .int (Av 4), .int vy_29, .ref (Aa 1), .ref (Aa 2), .ref (Aa 3), .ref (Aa 4), .ref (Aa 5), .ref (Aa 6), .ref (Aa 7), .ref (Aa 8)])), ((Aa 1), .inl (tc 0, 10, .inl (Af 1))), ((Aa 2), .inl (tc 0, 10, .inl (Af 2))), ((Aa 3), .inl (tc 0, 6, .inl vy_30)), ((Aa 4), .inl (tc 0, 6, .inl (Af 4))), ((Aa 5), .inl (tc 0, 6, .inl (Af 5))), ((Aa 6), .inl (tc 0, 6, .inl vy_31)), ((Aa 7), .inl (tc 0, 6, .inl g_97)), ((Aa 8), .inl (tc 0, 6, .inl g_99))] H := hP
                  have hD : va_D A [((Aa 0), .inr (9, [.int vy_28, .int (Av 1), .int (Av 2), .int (Av 3), .int (Av 4), .int vy_29, .ref (Aa 1), .ref (Aa 2), .ref (Aa 3), .ref (Aa 4), .ref (Aa 5), .ref (Aa 6), .ref (Aa 7), .ref (Aa 8)])), ((Aa 1), .inl (tc 0, 10, .inl (Af 1))), ((Aa 2), .inl (tc 0, 10, .inl (Af 2))), ((Aa 3), .inl (tc 0, 6, .inl vy_30)), ((Aa 4), .inl (tc 0, 6, .inl (Af 4))), ((Aa 5), .inl (tc 0, 6, .inl (Af 5))), ((Aa 6), .inl (tc 0, 6, .inl vy_31)), ((Aa 7), .inl (tc 0, 6, .inl g_97)), ((Aa 8), .inl (tc 0, 6, .inl g_99))] := hD
                  refine lv_goto (tgt := 177) hx hb dX9_goThroughDay_154 (by decide) ?_
                  obtain ⟨x_100, ex_100⟩ : ∃ y : Int32, y = vy_26 + 1 := ⟨_, rfl⟩
                  refine lv_iinc (v := x_100) (lv' := [(6, .int x_100), (7, .int 1), (5, .int vy_27), (4, .int 0), (3, .int r_9), (2, .int r_4), (0, .ref (Aa 0)), (1, .null)]) hx hb dX9_goThroughDay_177 hl (k := 1) rfl (by rw [ex_100]; rfl) (by decide) rfl (fun ls hl => ?_)
                  refine lv_goto (tgt := 44) hx hb dX9_goThroughDay_180 (by decide) ?_
                  have hb_101 : 0 ≤ (x_100 : Int32).toInt ∧ (6 - (x_100 : Int32).toInt).toNat < n_34 := by
                    have z_1 := congrArg Int32.toInt c_16
                    have z_2 := Int32.lt_iff_toInt_lt.mp (Int32.not_le.mp c_40)
                    have z_3 := Int32.lt_iff_toInt_lt.mp (Int32.not_le.mp c_51)
                    have z_4 : ¬ (r_65 : Int32).toInt = (0 : Int32).toInt := fun z => c_67 (Int32.toInt_inj.mp z)
                    have z_5 := Int32.le_iff_toInt_le.mp (Int32.not_lt.mp c_71)
                    have z_6 : ¬ (x_78 : Int32).toInt = (0 : Int32).toInt := fun z => c_79 (Int32.toInt_inj.mp z)
                    have y_0 : (0 : Int32).toInt = 0 := by decide
                    have y_6 : (6 : Int32).toInt = 6 := by decide
                    have y_12 : (12 : Int32).toInt = 12 := by decide
                    have y_1 : (1 : Int32).toInt = 1 := by decide
                    have t_x_100 : x_100.toInt = (vy_26 : Int32).toInt + (1 : Int32).toInt := by rw [ex_100]; exact add_toInt (by omega) (by omega)
                    omega
                  exact ih_35 x_100 vy_27 vy_28 vy_29 vy_30 vy_31 g_99 g_97 _ _ _ hb_101.1 hb_101.2 (hP.sub [0, 1, 2, 3, 4, 5, 6, 7, 8] rfl) (hD.sub [0, 1, 2, 3, 4, 5, 6, 7, 8] rfl rfl) hS (lv_sub hl [0, 2, 3, 4, 5, 6, 7] rfl)
            · skip
              refine lv_goto (tgt := 177) hx hb dX9_goThroughDay_69 (by decide) ?_
              obtain ⟨x_102, ex_102⟩ : ∃ y : Int32, y = vy_26 + 1 := ⟨_, rfl⟩
              refine lv_iinc (v := x_102) (lv' := [(6, .int x_102), (5, .int vy_27), (4, .int 0), (3, .int r_9), (2, .int r_4), (0, .ref (Aa 0)), (1, .null)]) hx hb dX9_goThroughDay_177 hl (k := 0) rfl (by rw [ex_102]; rfl) (by decide) rfl (fun ls hl => ?_)
              refine lv_goto (tgt := 44) hx hb dX9_goThroughDay_180 (by decide) ?_
              have hb_103 : 0 ≤ (x_102 : Int32).toInt ∧ (6 - (x_102 : Int32).toInt).toNat < n_34 := by
                have z_1 := congrArg Int32.toInt c_16
                have z_2 := Int32.lt_iff_toInt_lt.mp (Int32.not_le.mp c_40)
                have z_3 := Int32.lt_iff_toInt_lt.mp (Int32.not_le.mp c_51)
                have z_4 := congrArg Int32.toInt c_67
                have y_0 : (0 : Int32).toInt = 0 := by decide
                have y_6 : (6 : Int32).toInt = 6 := by decide
                have y_1 : (1 : Int32).toInt = 1 := by decide
                have t_x_102 : x_102.toInt = (vy_26 : Int32).toInt + (1 : Int32).toInt := by rw [ex_102]; exact add_toInt (by omega) (by omega)
                omega
              exact ih_35 x_102 vy_27 vy_28 vy_29 vy_30 vy_31 vy_32 vy_33 _ _ _ hb_103.1 hb_103.2 (hP.sub [0, 1, 2, 3, 4, 5, 6, 7, 8] rfl) (hD.sub [0, 1, 2, 3, 4, 5, 6, 7, 8] rfl rfl) hS (lv_sub hl [0, 1, 2, 3, 4, 5, 6] rfl)
    have h0_104 : 0 ≤ (0 : Int32).toInt := by
      have z_1 := congrArg Int32.toInt c_16
      have y_0 : (0 : Int32).toInt = 0 := by decide
      decide
    exact loop_36 _ 0 0 (Av 0) (Av 5) (Af 3) (Af 6) (Af 8) (Af 7) _ _ _ h0_104 (Nat.lt_succ_self _) hP hD hS hl
  · skip
    refine lv_aload_n hx hb dX9_goThroughDay_26 rfl (lv_at hl 2 rfl) ?_
    refine gf_X9_34 hx hb hts hown hK hP 0 rfl rfl dX9_goThroughDay_27 ?_
    refine lv_iload_n hx hb dX9_goThroughDay_30 rfl (lv_at hl 0 rfl) ?_
    have hi_105 : vp_in r_9 10 := by
      have z_1 : ¬ (r_14 : Int32).toInt = (0 : Int32).toInt := fun z => c_16 (Int32.toInt_inj.mp z)
      have y_0 : (0 : Int32).toInt = 0 := by decide
      refine vp_in_iff.mpr ⟨?_, ?_⟩ <;> omega
    refine va_iald hx hb hK hP 2 0 rfl rfl hi_105 dX9_goThroughDay_31 ?_
    refine lv_topi (fun x_106 ex_106 => ?_)
    refine lv_goto (tgt := 36) hx hb dX9_goThroughDay_32 (by decide) ?_
    refine lv_istore (lv' := [(4, .int x_106), (3, .int r_9), (2, .int r_4), (0, .ref (Aa 0)), (1, .null)]) hx hb dX9_goThroughDay_36 hl (by decide) rfl (fun ls hl => ?_)
    refine lv_iconst (v := 0) hx hb dX9_goThroughDay_38 (by decide) ?_
    refine lv_istore (lv' := [(5, .int 0), (4, .int x_106), (3, .int r_9), (2, .int r_4), (0, .ref (Aa 0)), (1, .null)]) hx hb dX9_goThroughDay_39 hl (by decide) rfl (fun ls hl => ?_)
    refine lv_iconst (v := 0) hx hb dX9_goThroughDay_41 (by decide) ?_
    refine lv_istore (lv' := [(6, .int 0), (5, .int 0), (4, .int x_106), (3, .int r_9), (2, .int r_4), (0, .ref (Aa 0)), (1, .null)]) hx hb dX9_goThroughDay_42 hl (by decide) rfl (fun ls hl => ?_)
    have loop_126 : ∀ (n_124 : Nat) (vy_116 : Int32) (vy_117 : Int32) (vy_118 : Int32) (vy_119 : Int32) (vy_120 : Nat → Int32) (vy_121 : Nat → Int32) (vy_122 : Nat → Int32) (vy_123 : Nat → Int32) (H : Heap) (locs : List Loc) (ls : Array Slot), 0 ≤ (vy_116 : Int32).toInt → (6 - (vy_116 : Int32).toInt).toNat < n_124 → va_P D classes [((Aa 0), .inr (9, [.int vy_118, .int (Av 1), .int (Av 2), .int (Av 3), .int (Av 4), .int vy_119, .ref (Aa 1), .ref (Aa 2), .ref (Aa 3), .ref (Aa 4), .ref (Aa 5), .ref (Aa 6), .ref (Aa 7), .ref (Aa 8)])), ((Aa 1), .inl (tc 0, 10, .inl (Af 1))), ((Aa 2), .inl (tc 0, 10, .inl (Af 2))), ((Aa 3), .inl (tc 0, 6, .inl vy_120)), ((Aa 4), .inl (tc 0, 6, .inl (Af 4))), ((Aa 5), .inl (tc 0, 6, .inl (Af 5))), ((Aa 6), .inl (tc 0, 6, .inl vy_121)), ((Aa 7), .inl (tc 0, 6, .inl vy_123)), ((Aa 8), .inl (tc 0, 6, .inl vy_122))] H → va_D A [((Aa 0), .inr (9, [.int vy_118, .int (Av 1), .int (Av 2), .int (Av 3), .int (Av 4), .int vy_119, .ref (Aa 1), .ref (Aa 2), .ref (Aa 3), .ref (Aa 4), .ref (Aa 5), .ref (Aa 6), .ref (Aa 7), .ref (Aa 8)])), ((Aa 1), .inl (tc 0, 10, .inl (Af 1))), ((Aa 2), .inl (tc 0, 10, .inl (Af 2))), ((Aa 3), .inl (tc 0, 6, .inl vy_120)), ((Aa 4), .inl (tc 0, 6, .inl (Af 4))), ((Aa 5), .inl (tc 0, 6, .inl (Af 5))), ((Aa 6), .inl (tc 0, 6, .inl vy_121)), ((Aa 7), .inl (tc 0, 6, .inl vy_123)), ((Aa 8), .inl (tc 0, 6, .inl vy_122))] → va_S A s.heap H locs → lv_has ls 8 [(6, .int vy_116), (5, .int vy_117), (4, .int x_106), (3, .int r_9), (2, .int r_4), (0, .ref (Aa 0)), (1, .null)] → W p l e ({ frames := 2, cells := 0, slots := 0, locals := 42 }) s m ([.ref (Aa 0), .null].toArray) below meth c H locs 0 0 (MQ below (QW (fun (v : Option Value) (u : (Int32) × (Int32) × (Int32) × (Nat → Int32) × (Nat → Int32) × (Nat → Int32) × (Nat → Int32)) => match u with | (o1, o2, o3, o4, o5, o6, o7) => ∃ r : Int32, v = some (.int r) ∧ (True)) (BW D (fun (u : (Int32) × (Int32) × (Int32) × (Nat → Int32) × (Nat → Int32) × (Nat → Int32) × (Nat → Int32)) => match u with | (o1, o2, o3, o4, o5, o6, o7) => [((Aa 0), .inr (9, [.int o1, .int (Av 1), .int (Av 2), .int (Av 3), .int o2, .int o3, .ref (Aa 1), .ref (Aa 2), .ref (Aa 3), .ref (Aa 4), .ref (Aa 5), .ref (Aa 6), .ref (Aa 7), .ref (Aa 8)])), ((Aa 1), .inl (tc 0, 10, .inl (Af 1))), ((Aa 2), .inl (tc 0, 10, .inl (Af 2))), ((Aa 3), .inl (tc 0, 6, .inl o4)), ((Aa 4), .inl (tc 0, 6, .inl (Af 4))), ((Aa 5), .inl (tc 0, 6, .inl (Af 5))), ((Aa 6), .inl (tc 0, 6, .inl o5)), ((Aa 7), .inl (tc 0, 6, .inl o6)), ((Aa 8), .inl (tc 0, 6, .inl o7))]) A) A) ([.ref (Aa 0), .null].toArray) s 0 0 A) (F0 m 44 ls []) := by
      intro n_124
      induction n_124 with
      | zero =>
        intro vy_116 vy_117 vy_118 vy_119 vy_120 vy_121 vy_122 vy_123 H locs ls h1 h2
        exact absurd h2 (Nat.not_lt_zero _)
      | succ n_124 ih_125 =>
        intro vy_116 vy_117 vy_118 vy_119 vy_120 vy_121 vy_122 vy_123 H locs ls hi_128 hn_129 hP hD hS hl
        refine lv_iload hx hb dX9_goThroughDay_44 (lv_at hl 0 rfl) ?_
        refine lv_aload_n hx hb dX9_goThroughDay_46 rfl (lv_at hl 5 rfl) ?_
        refine gf_X9_21 hx hb hts hown hK hP 0 rfl rfl dX9_goThroughDay_47 ?_
        refine lv_icmp_ge (tgt := 183) hx hb dX9_goThroughDay_50 (by decide) (fun c_130 => ?_) (fun c_130 => ?_)
        · skip
          refine lv_aload_n hx hb dX9_goThroughDay_183 rfl (lv_at hl 5 rfl) ?_
          refine lv_iload_n hx hb dX9_goThroughDay_184 rfl (lv_at hl 4 rfl) ?_
          refine cV (a := (Aa 0)) (As := [.int r_4]) (rest := []) (wr := []) ⟨hx, hb, hml, hown, hts⟩ hK hX hA (cu_X9_changeTempers l D tc sk (Aa 0) (Aa 1) (Aa 2) (Aa 3) (Aa 4) (Aa 5) (Aa 6) (Aa 7) (Aa 8) vy_118 (Av 1) (Av 2) (Av 3) (Av 4) vy_119 (Af 1) (Af 2) vy_120 (Af 4) (Af 5) vy_121 vy_123 vy_122 r_4) k_779 k_776 k_778 k_15 k_98 pl_X9_changeTempers ⟨Nat.le_of_ble_eq_true rfl, Nat.le_of_ble_eq_true rfl⟩ rfl rfl (va_recv hK hP (ci := 9) (q0 := 0) rfl rfl) hP hD hS [0, 1, 2, 3, 4, 5, 6, 7, 8] [] rfl rfl rfl rfl rfl (by decide) rfl hl.1 rfl (Nat.le_of_ble_eq_true rfl) dX9_goThroughDay_185 ⟨Nat.le_of_ble_eq_true rfl, Nat.le_of_ble_eq_true rfl⟩ (fun v_131 u_132 H locs hv_133 hP hD hS => ?_)
          obtain ⟨sv_134, rfl⟩ : ∃ z, z = u_132 := ⟨_, rfl⟩
          obtain rfl : v_131 = none := hv_133
          refine W.eq (g2 := F0 m 188 ls []) rfl ?_
          have hP : va_P D classes [((Aa 0), .inr (9, [.int vy_118, .int (Av 1), .int (Av 2), .int (Av 3), .int (Av 4), .int vy_119, .ref (Aa 1), .ref (Aa 2), .ref (Aa 3), .ref (Aa 4), .ref (Aa 5), .ref (Aa 6), .ref (Aa 7), .ref (Aa 8)])), ((Aa 1), .inl (tc 0, 10, .inl (Af 1))), ((Aa 2), .inl (tc 0, 10, .inl (Af 2))), ((Aa 3), .inl (tc 0, 6, .inl sv_134)), ((Aa 4), .inl (tc 0, 6, .inl (Af 4))), ((Aa 5), .inl (tc 0, 6, .inl (Af 5))), ((Aa 6), .inl (tc 0, 6, .inl vy_121)), ((Aa 7), .inl (tc 0, 6, .inl vy_123)), ((Aa 8), .inl (tc 0, 6, .inl vy_122))] H := hP
          have hD : va_D A [((Aa 0), .inr (9, [.int vy_118, .int (Av 1), .int (Av 2), .int (Av 3), .int (Av 4), .int vy_119, .ref (Aa 1), .ref (Aa 2), .ref (Aa 3), .ref (Aa 4), .ref (Aa 5), .ref (Aa 6), .ref (Aa 7), .ref (Aa 8)])), ((Aa 1), .inl (tc 0, 10, .inl (Af 1))), ((Aa 2), .inl (tc 0, 10, .inl (Af 2))), ((Aa 3), .inl (tc 0, 6, .inl sv_134)), ((Aa 4), .inl (tc 0, 6, .inl (Af 4))), ((Aa 5), .inl (tc 0, 6, .inl (Af 5))), ((Aa 6), .inl (tc 0, 6, .inl vy_121)), ((Aa 7), .inl (tc 0, 6, .inl vy_123)), ((Aa 8), .inl (tc 0, 6, .inl vy_122))] := hD
          refine lv_aload_n hx hb dX9_goThroughDay_188 rfl (lv_at hl 5 rfl) ?_
          refine gf_X9_24 hx hb hts hown hK hP 0 rfl rfl dX9_goThroughDay_189 ?_
          refine lv_bipush (v := 7) hx hb dX9_goThroughDay_192 (by decide) ?_
          refine lv_irem hx hb dX9_goThroughDay_194 (by decide) ?_
          refine lv_topi (fun x_135 ex_135 => ?_)
          refine lv_bipush (v := 6) hx hb dX9_goThroughDay_195 (by decide) ?_
          refine lv_icmp_ne (tgt := 218) hx hb dX9_goThroughDay_197 (by decide) (fun c_136 => ?_) (fun c_136 => ?_)
          · skip
            refine lv_aload_n hx hb dX9_goThroughDay_218 rfl (lv_at hl 5 rfl) ?_
            refine lv_dup hx hb dX9_goThroughDay_219 rfl ?_
            refine gf_X9_24 hx hb hts hown hK hP 0 rfl rfl dX9_goThroughDay_220 ?_
            refine lv_iconst (v := 1) hx hb dX9_goThroughDay_223 (by decide) ?_
            refine lv_iadd hx hb dX9_goThroughDay_224 ?_
            refine lv_topi (fun x_137 ex_137 => ?_)
            refine pf_X9_24 hx hb hts hown hK hP hD hS 0 rfl (Nat.le_of_ble_eq_true rfl) rfl rfl dX9_goThroughDay_225 (fun H locs hP hD hS => ?_)
            have hP : va_P D classes [((Aa 0), .inr (9, [.int vy_118, .int (Av 1), .int (Av 2), .int (Av 3), .int x_137, .int vy_119, .ref (Aa 1), .ref (Aa 2), .ref (Aa 3), .ref (Aa 4), .ref (Aa 5), .ref (Aa 6), .ref (Aa 7), .ref (Aa 8)])), ((Aa 1), .inl (tc 0, 10, .inl (Af 1))), ((Aa 2), .inl (tc 0, 10, .inl (Af 2))), ((Aa 3), .inl (tc 0, 6, .inl sv_134)), ((Aa 4), .inl (tc 0, 6, .inl (Af 4))), ((Aa 5), .inl (tc 0, 6, .inl (Af 5))), ((Aa 6), .inl (tc 0, 6, .inl vy_121)), ((Aa 7), .inl (tc 0, 6, .inl vy_123)), ((Aa 8), .inl (tc 0, 6, .inl vy_122))] H := hP
            have hD : va_D A [((Aa 0), .inr (9, [.int vy_118, .int (Av 1), .int (Av 2), .int (Av 3), .int x_137, .int vy_119, .ref (Aa 1), .ref (Aa 2), .ref (Aa 3), .ref (Aa 4), .ref (Aa 5), .ref (Aa 6), .ref (Aa 7), .ref (Aa 8)])), ((Aa 1), .inl (tc 0, 10, .inl (Af 1))), ((Aa 2), .inl (tc 0, 10, .inl (Af 2))), ((Aa 3), .inl (tc 0, 6, .inl sv_134)), ((Aa 4), .inl (tc 0, 6, .inl (Af 4))), ((Aa 5), .inl (tc 0, 6, .inl (Af 5))), ((Aa 6), .inl (tc 0, 6, .inl vy_121)), ((Aa 7), .inl (tc 0, 6, .inl vy_123)), ((Aa 8), .inl (tc 0, 6, .inl vy_122))] := hD
            refine lv_iload hx hb dX9_goThroughDay_228 (lv_at hl 1 rfl) ?_
            exact retI (v := vy_117) hx hb hr hlk (rfl) hP hD hS (vy_118, x_137, vy_119, sv_134, vy_121, vy_123, vy_122) ⟨_, rfl, trivial⟩ [0, 1, 2, 3, 4, 5, 6, 7, 8] rfl rfl dX9_goThroughDay_230 (Nat.le_of_ble_eq_true rfl) (Nat.le_of_ble_eq_true rfl) rfl
          · skip
            refine lv_aload_n hx hb dX9_goThroughDay_200 rfl (lv_at hl 5 rfl) ?_
            refine lv_bipush (v := 99) hx hb dX9_goThroughDay_201 (by decide) ?_
            refine lv_aload_n hx hb dX9_goThroughDay_203 rfl (lv_at hl 5 rfl) ?_
            refine gf_X9_9 hx hb hts hown hK hP 0 rfl rfl dX9_goThroughDay_204 ?_
            refine lv_aload_n hx hb dX9_goThroughDay_207 rfl (lv_at hl 5 rfl) ?_
            refine gf_X9_15 hx hb hts hown hK hP 0 rfl rfl dX9_goThroughDay_208 ?_
            refine lv_iadd hx hb dX9_goThroughDay_211 ?_
            refine lv_topi (fun x_138 ex_138 => ?_)
            refine va_mmin hx hb (hml.trans hl.1.symm) hown (hts _ k_780) (hts _ k_680) (hts _ k_114) (hts _ k_681) (Nat.le_of_ble_eq_true rfl) (Nat.le_of_ble_eq_true rfl) (Nat.le_of_ble_eq_true rfl) (Nat.le_of_ble_eq_true rfl) dX9_goThroughDay_212 ?_
            refine lv_topi (fun x_139 ex_139 => ?_)
            have mx_139 := imin_f ex_139
            rw [show (99 : Int32).toInt = 99 by decide] at mx_139
            refine pf_X9_9 hx hb hts hown hK hP hD hS 0 rfl (Nat.le_of_ble_eq_true rfl) rfl rfl dX9_goThroughDay_215 (fun H locs hP hD hS => ?_)
            have hP : va_P D classes [((Aa 0), .inr (9, [.int x_139, .int (Av 1), .int (Av 2), .int (Av 3), .int (Av 4), .int vy_119, .ref (Aa 1), .ref (Aa 2), .ref (Aa 3), .ref (Aa 4), .ref (Aa 5), .ref (Aa 6), .ref (Aa 7), .ref (Aa 8)])), ((Aa 1), .inl (tc 0, 10, .inl (Af 1))), ((Aa 2), .inl (tc 0, 10, .inl (Af 2))), ((Aa 3), .inl (tc 0, 6, .inl sv_134)), ((Aa 4), .inl (tc 0, 6, .inl (Af 4))), ((Aa 5), .inl (tc 0, 6, .inl (Af 5))), ((Aa 6), .inl (tc 0, 6, .inl vy_121)), ((Aa 7), .inl (tc 0, 6, .inl vy_123)), ((Aa 8), .inl (tc 0, 6, .inl vy_122))] H := hP
            have hD : va_D A [((Aa 0), .inr (9, [.int x_139, .int (Av 1), .int (Av 2), .int (Av 3), .int (Av 4), .int vy_119, .ref (Aa 1), .ref (Aa 2), .ref (Aa 3), .ref (Aa 4), .ref (Aa 5), .ref (Aa 6), .ref (Aa 7), .ref (Aa 8)])), ((Aa 1), .inl (tc 0, 10, .inl (Af 1))), ((Aa 2), .inl (tc 0, 10, .inl (Af 2))), ((Aa 3), .inl (tc 0, 6, .inl sv_134)), ((Aa 4), .inl (tc 0, 6, .inl (Af 4))), ((Aa 5), .inl (tc 0, 6, .inl (Af 5))), ((Aa 6), .inl (tc 0, 6, .inl vy_121)), ((Aa 7), .inl (tc 0, 6, .inl vy_123)), ((Aa 8), .inl (tc 0, 6, .inl vy_122))] := hD
            refine lv_aload_n hx hb dX9_goThroughDay_218 rfl (lv_at hl 5 rfl) ?_
            refine lv_dup hx hb dX9_goThroughDay_219 rfl ?_
            refine gf_X9_24 hx hb hts hown hK hP 0 rfl rfl dX9_goThroughDay_220 ?_
            refine lv_iconst (v := 1) hx hb dX9_goThroughDay_223 (by decide) ?_
            refine lv_iadd hx hb dX9_goThroughDay_224 ?_
            refine lv_topi (fun x_140 ex_140 => ?_)
            refine pf_X9_24 hx hb hts hown hK hP hD hS 0 rfl (Nat.le_of_ble_eq_true rfl) rfl rfl dX9_goThroughDay_225 (fun H locs hP hD hS => ?_)
            have hP : va_P D classes [((Aa 0), .inr (9, [.int x_139, .int (Av 1), .int (Av 2), .int (Av 3), .int x_140, .int vy_119, .ref (Aa 1), .ref (Aa 2), .ref (Aa 3), .ref (Aa 4), .ref (Aa 5), .ref (Aa 6), .ref (Aa 7), .ref (Aa 8)])), ((Aa 1), .inl (tc 0, 10, .inl (Af 1))), ((Aa 2), .inl (tc 0, 10, .inl (Af 2))), ((Aa 3), .inl (tc 0, 6, .inl sv_134)), ((Aa 4), .inl (tc 0, 6, .inl (Af 4))), ((Aa 5), .inl (tc 0, 6, .inl (Af 5))), ((Aa 6), .inl (tc 0, 6, .inl vy_121)), ((Aa 7), .inl (tc 0, 6, .inl vy_123)), ((Aa 8), .inl (tc 0, 6, .inl vy_122))] H := hP
            have hD : va_D A [((Aa 0), .inr (9, [.int x_139, .int (Av 1), .int (Av 2), .int (Av 3), .int x_140, .int vy_119, .ref (Aa 1), .ref (Aa 2), .ref (Aa 3), .ref (Aa 4), .ref (Aa 5), .ref (Aa 6), .ref (Aa 7), .ref (Aa 8)])), ((Aa 1), .inl (tc 0, 10, .inl (Af 1))), ((Aa 2), .inl (tc 0, 10, .inl (Af 2))), ((Aa 3), .inl (tc 0, 6, .inl sv_134)), ((Aa 4), .inl (tc 0, 6, .inl (Af 4))), ((Aa 5), .inl (tc 0, 6, .inl (Af 5))), ((Aa 6), .inl (tc 0, 6, .inl vy_121)), ((Aa 7), .inl (tc 0, 6, .inl vy_123)), ((Aa 8), .inl (tc 0, 6, .inl vy_122))] := hD
            refine lv_iload hx hb dX9_goThroughDay_228 (lv_at hl 1 rfl) ?_
            exact retI (v := vy_117) hx hb hr hlk (rfl) hP hD hS (x_139, x_140, vy_119, sv_134, vy_121, vy_123, vy_122) ⟨_, rfl, trivial⟩ [0, 1, 2, 3, 4, 5, 6, 7, 8] rfl rfl dX9_goThroughDay_230 (Nat.le_of_ble_eq_true rfl) (Nat.le_of_ble_eq_true rfl) rfl
        · skip
          refine lv_iload hx hb dX9_goThroughDay_53 (lv_at hl 0 rfl) ?_
          refine lv_bipush (v := 6) hx hb dX9_goThroughDay_55 (by decide) ?_
          refine lv_icmp_ge (tgt := 183) hx hb dX9_goThroughDay_57 (by decide) (fun c_141 => ?_) (fun c_141 => ?_)
          · skip
            refine lv_aload_n hx hb dX9_goThroughDay_183 rfl (lv_at hl 5 rfl) ?_
            refine lv_iload_n hx hb dX9_goThroughDay_184 rfl (lv_at hl 4 rfl) ?_
            refine cV (a := (Aa 0)) (As := [.int r_4]) (rest := []) (wr := []) ⟨hx, hb, hml, hown, hts⟩ hK hX hA (cu_X9_changeTempers l D tc sk (Aa 0) (Aa 1) (Aa 2) (Aa 3) (Aa 4) (Aa 5) (Aa 6) (Aa 7) (Aa 8) vy_118 (Av 1) (Av 2) (Av 3) (Av 4) vy_119 (Af 1) (Af 2) vy_120 (Af 4) (Af 5) vy_121 vy_123 vy_122 r_4) k_779 k_776 k_778 k_15 k_98 pl_X9_changeTempers ⟨Nat.le_of_ble_eq_true rfl, Nat.le_of_ble_eq_true rfl⟩ rfl rfl (va_recv hK hP (ci := 9) (q0 := 0) rfl rfl) hP hD hS [0, 1, 2, 3, 4, 5, 6, 7, 8] [] rfl rfl rfl rfl rfl (by decide) rfl hl.1 rfl (Nat.le_of_ble_eq_true rfl) dX9_goThroughDay_185 ⟨Nat.le_of_ble_eq_true rfl, Nat.le_of_ble_eq_true rfl⟩ (fun v_142 u_143 H locs hv_144 hP hD hS => ?_)
            obtain ⟨sv_145, rfl⟩ : ∃ z, z = u_143 := ⟨_, rfl⟩
            obtain rfl : v_142 = none := hv_144
            refine W.eq (g2 := F0 m 188 ls []) rfl ?_
            have hP : va_P D classes [((Aa 0), .inr (9, [.int vy_118, .int (Av 1), .int (Av 2), .int (Av 3), .int (Av 4), .int vy_119, .ref (Aa 1), .ref (Aa 2), .ref (Aa 3), .ref (Aa 4), .ref (Aa 5), .ref (Aa 6), .ref (Aa 7), .ref (Aa 8)])), ((Aa 1), .inl (tc 0, 10, .inl (Af 1))), ((Aa 2), .inl (tc 0, 10, .inl (Af 2))), ((Aa 3), .inl (tc 0, 6, .inl sv_145)), ((Aa 4), .inl (tc 0, 6, .inl (Af 4))), ((Aa 5), .inl (tc 0, 6, .inl (Af 5))), ((Aa 6), .inl (tc 0, 6, .inl vy_121)), ((Aa 7), .inl (tc 0, 6, .inl vy_123)), ((Aa 8), .inl (tc 0, 6, .inl vy_122))] H := hP
            have hD : va_D A [((Aa 0), .inr (9, [.int vy_118, .int (Av 1), .int (Av 2), .int (Av 3), .int (Av 4), .int vy_119, .ref (Aa 1), .ref (Aa 2), .ref (Aa 3), .ref (Aa 4), .ref (Aa 5), .ref (Aa 6), .ref (Aa 7), .ref (Aa 8)])), ((Aa 1), .inl (tc 0, 10, .inl (Af 1))), ((Aa 2), .inl (tc 0, 10, .inl (Af 2))), ((Aa 3), .inl (tc 0, 6, .inl sv_145)), ((Aa 4), .inl (tc 0, 6, .inl (Af 4))), ((Aa 5), .inl (tc 0, 6, .inl (Af 5))), ((Aa 6), .inl (tc 0, 6, .inl vy_121)), ((Aa 7), .inl (tc 0, 6, .inl vy_123)), ((Aa 8), .inl (tc 0, 6, .inl vy_122))] := hD
            refine lv_aload_n hx hb dX9_goThroughDay_188 rfl (lv_at hl 5 rfl) ?_
            refine gf_X9_24 hx hb hts hown hK hP 0 rfl rfl dX9_goThroughDay_189 ?_
            refine lv_bipush (v := 7) hx hb dX9_goThroughDay_192 (by decide) ?_
            refine lv_irem hx hb dX9_goThroughDay_194 (by decide) ?_
            refine lv_topi (fun x_146 ex_146 => ?_)
            refine lv_bipush (v := 6) hx hb dX9_goThroughDay_195 (by decide) ?_
            refine lv_icmp_ne (tgt := 218) hx hb dX9_goThroughDay_197 (by decide) (fun c_147 => ?_) (fun c_147 => ?_)
            · skip
              refine lv_aload_n hx hb dX9_goThroughDay_218 rfl (lv_at hl 5 rfl) ?_
              refine lv_dup hx hb dX9_goThroughDay_219 rfl ?_
              refine gf_X9_24 hx hb hts hown hK hP 0 rfl rfl dX9_goThroughDay_220 ?_
              refine lv_iconst (v := 1) hx hb dX9_goThroughDay_223 (by decide) ?_
              refine lv_iadd hx hb dX9_goThroughDay_224 ?_
              refine lv_topi (fun x_148 ex_148 => ?_)
              refine pf_X9_24 hx hb hts hown hK hP hD hS 0 rfl (Nat.le_of_ble_eq_true rfl) rfl rfl dX9_goThroughDay_225 (fun H locs hP hD hS => ?_)
              have hP : va_P D classes [((Aa 0), .inr (9, [.int vy_118, .int (Av 1), .int (Av 2), .int (Av 3), .int x_148, .int vy_119, .ref (Aa 1), .ref (Aa 2), .ref (Aa 3), .ref (Aa 4), .ref (Aa 5), .ref (Aa 6), .ref (Aa 7), .ref (Aa 8)])), ((Aa 1), .inl (tc 0, 10, .inl (Af 1))), ((Aa 2), .inl (tc 0, 10, .inl (Af 2))), ((Aa 3), .inl (tc 0, 6, .inl sv_145)), ((Aa 4), .inl (tc 0, 6, .inl (Af 4))), ((Aa 5), .inl (tc 0, 6, .inl (Af 5))), ((Aa 6), .inl (tc 0, 6, .inl vy_121)), ((Aa 7), .inl (tc 0, 6, .inl vy_123)), ((Aa 8), .inl (tc 0, 6, .inl vy_122))] H := hP
              have hD : va_D A [((Aa 0), .inr (9, [.int vy_118, .int (Av 1), .int (Av 2), .int (Av 3), .int x_148, .int vy_119, .ref (Aa 1), .ref (Aa 2), .ref (Aa 3), .ref (Aa 4), .ref (Aa 5), .ref (Aa 6), .ref (Aa 7), .ref (Aa 8)])), ((Aa 1), .inl (tc 0, 10, .inl (Af 1))), ((Aa 2), .inl (tc 0, 10, .inl (Af 2))), ((Aa 3), .inl (tc 0, 6, .inl sv_145)), ((Aa 4), .inl (tc 0, 6, .inl (Af 4))), ((Aa 5), .inl (tc 0, 6, .inl (Af 5))), ((Aa 6), .inl (tc 0, 6, .inl vy_121)), ((Aa 7), .inl (tc 0, 6, .inl vy_123)), ((Aa 8), .inl (tc 0, 6, .inl vy_122))] := hD
              refine lv_iload hx hb dX9_goThroughDay_228 (lv_at hl 1 rfl) ?_
              exact retI (v := vy_117) hx hb hr hlk (rfl) hP hD hS (vy_118, x_148, vy_119, sv_145, vy_121, vy_123, vy_122) ⟨_, rfl, trivial⟩ [0, 1, 2, 3, 4, 5, 6, 7, 8] rfl rfl dX9_goThroughDay_230 (Nat.le_of_ble_eq_true rfl) (Nat.le_of_ble_eq_true rfl) rfl
            · skip
              refine lv_aload_n hx hb dX9_goThroughDay_200 rfl (lv_at hl 5 rfl) ?_
              refine lv_bipush (v := 99) hx hb dX9_goThroughDay_201 (by decide) ?_
              refine lv_aload_n hx hb dX9_goThroughDay_203 rfl (lv_at hl 5 rfl) ?_
              refine gf_X9_9 hx hb hts hown hK hP 0 rfl rfl dX9_goThroughDay_204 ?_
              refine lv_aload_n hx hb dX9_goThroughDay_207 rfl (lv_at hl 5 rfl) ?_
              refine gf_X9_15 hx hb hts hown hK hP 0 rfl rfl dX9_goThroughDay_208 ?_
              refine lv_iadd hx hb dX9_goThroughDay_211 ?_
              refine lv_topi (fun x_149 ex_149 => ?_)
              refine va_mmin hx hb (hml.trans hl.1.symm) hown (hts _ k_780) (hts _ k_680) (hts _ k_114) (hts _ k_681) (Nat.le_of_ble_eq_true rfl) (Nat.le_of_ble_eq_true rfl) (Nat.le_of_ble_eq_true rfl) (Nat.le_of_ble_eq_true rfl) dX9_goThroughDay_212 ?_
              refine lv_topi (fun x_150 ex_150 => ?_)
              have mx_150 := imin_f ex_150
              rw [show (99 : Int32).toInt = 99 by decide] at mx_150
              refine pf_X9_9 hx hb hts hown hK hP hD hS 0 rfl (Nat.le_of_ble_eq_true rfl) rfl rfl dX9_goThroughDay_215 (fun H locs hP hD hS => ?_)
              have hP : va_P D classes [((Aa 0), .inr (9, [.int x_150, .int (Av 1), .int (Av 2), .int (Av 3), .int (Av 4), .int vy_119, .ref (Aa 1), .ref (Aa 2), .ref (Aa 3), .ref (Aa 4), .ref (Aa 5), .ref (Aa 6), .ref (Aa 7), .ref (Aa 8)])), ((Aa 1), .inl (tc 0, 10, .inl (Af 1))), ((Aa 2), .inl (tc 0, 10, .inl (Af 2))), ((Aa 3), .inl (tc 0, 6, .inl sv_145)), ((Aa 4), .inl (tc 0, 6, .inl (Af 4))), ((Aa 5), .inl (tc 0, 6, .inl (Af 5))), ((Aa 6), .inl (tc 0, 6, .inl vy_121)), ((Aa 7), .inl (tc 0, 6, .inl vy_123)), ((Aa 8), .inl (tc 0, 6, .inl vy_122))] H := hP
              have hD : va_D A [((Aa 0), .inr (9, [.int x_150, .int (Av 1), .int (Av 2), .int (Av 3), .int (Av 4), .int vy_119, .ref (Aa 1), .ref (Aa 2), .ref (Aa 3), .ref (Aa 4), .ref (Aa 5), .ref (Aa 6), .ref (Aa 7), .ref (Aa 8)])), ((Aa 1), .inl (tc 0, 10, .inl (Af 1))), ((Aa 2), .inl (tc 0, 10, .inl (Af 2))), ((Aa 3), .inl (tc 0, 6, .inl sv_145)), ((Aa 4), .inl (tc 0, 6, .inl (Af 4))), ((Aa 5), .inl (tc 0, 6, .inl (Af 5))), ((Aa 6), .inl (tc 0, 6, .inl vy_121)), ((Aa 7), .inl (tc 0, 6, .inl vy_123)), ((Aa 8), .inl (tc 0, 6, .inl vy_122))] := hD
              refine lv_aload_n hx hb dX9_goThroughDay_218 rfl (lv_at hl 5 rfl) ?_
              refine lv_dup hx hb dX9_goThroughDay_219 rfl ?_
              refine gf_X9_24 hx hb hts hown hK hP 0 rfl rfl dX9_goThroughDay_220 ?_
              refine lv_iconst (v := 1) hx hb dX9_goThroughDay_223 (by decide) ?_
              refine lv_iadd hx hb dX9_goThroughDay_224 ?_
              refine lv_topi (fun x_151 ex_151 => ?_)
              refine pf_X9_24 hx hb hts hown hK hP hD hS 0 rfl (Nat.le_of_ble_eq_true rfl) rfl rfl dX9_goThroughDay_225 (fun H locs hP hD hS => ?_)
              have hP : va_P D classes [((Aa 0), .inr (9, [.int x_150, .int (Av 1), .int (Av 2), .int (Av 3), .int x_151, .int vy_119, .ref (Aa 1), .ref (Aa 2), .ref (Aa 3), .ref (Aa 4), .ref (Aa 5), .ref (Aa 6), .ref (Aa 7), .ref (Aa 8)])), ((Aa 1), .inl (tc 0, 10, .inl (Af 1))), ((Aa 2), .inl (tc 0, 10, .inl (Af 2))), ((Aa 3), .inl (tc 0, 6, .inl sv_145)), ((Aa 4), .inl (tc 0, 6, .inl (Af 4))), ((Aa 5), .inl (tc 0, 6, .inl (Af 5))), ((Aa 6), .inl (tc 0, 6, .inl vy_121)), ((Aa 7), .inl (tc 0, 6, .inl vy_123)), ((Aa 8), .inl (tc 0, 6, .inl vy_122))] H := hP
              have hD : va_D A [((Aa 0), .inr (9, [.int x_150, .int (Av 1), .int (Av 2), .int (Av 3), .int x_151, .int vy_119, .ref (Aa 1), .ref (Aa 2), .ref (Aa 3), .ref (Aa 4), .ref (Aa 5), .ref (Aa 6), .ref (Aa 7), .ref (Aa 8)])), ((Aa 1), .inl (tc 0, 10, .inl (Af 1))), ((Aa 2), .inl (tc 0, 10, .inl (Af 2))), ((Aa 3), .inl (tc 0, 6, .inl sv_145)), ((Aa 4), .inl (tc 0, 6, .inl (Af 4))), ((Aa 5), .inl (tc 0, 6, .inl (Af 5))), ((Aa 6), .inl (tc 0, 6, .inl vy_121)), ((Aa 7), .inl (tc 0, 6, .inl vy_123)), ((Aa 8), .inl (tc 0, 6, .inl vy_122))] := hD
              refine lv_iload hx hb dX9_goThroughDay_228 (lv_at hl 1 rfl) ?_
              exact retI (v := vy_117) hx hb hr hlk (rfl) hP hD hS (x_150, x_151, vy_119, sv_145, vy_121, vy_123, vy_122) ⟨_, rfl, trivial⟩ [0, 1, 2, 3, 4, 5, 6, 7, 8] rfl rfl dX9_goThroughDay_230 (Nat.le_of_ble_eq_true rfl) (Nat.le_of_ble_eq_true rfl) rfl
          · skip
            refine lv_aload_n hx hb dX9_goThroughDay_60 rfl (lv_at hl 5 rfl) ?_
            refine lv_iload hx hb dX9_goThroughDay_61 (lv_at hl 0 rfl) ?_
            refine cV (a := (Aa 0)) (As := [.int vy_116]) (rest := []) (wr := []) ⟨hx, hb, hml, hown, hts⟩ hK hX hA (cu_X9_canBuy l D tc sk (Aa 0) (Aa 1) (Aa 2) (Aa 3) (Aa 4) (Aa 5) (Aa 6) (Aa 7) (Aa 8) vy_118 (Av 1) (Av 2) (Av 3) (Av 4) vy_119 (Af 1) (Af 2) vy_120 (Af 4) (Af 5) vy_121 vy_123 vy_122 vy_116) k_752 k_749 k_751 k_14 k_98 pl_X9_canBuy ⟨Nat.le_of_ble_eq_true rfl, Nat.le_of_ble_eq_true rfl⟩ rfl rfl (va_recv hK hP (ci := 9) (q0 := 0) rfl rfl) hP hD hS [0, 1, 2, 3, 4, 5, 6, 7, 8] [] rfl rfl rfl rfl rfl (by decide) rfl hl.1 rfl (Nat.le_of_ble_eq_true rfl) dX9_goThroughDay_63 ⟨Nat.le_of_ble_eq_true rfl, Nat.le_of_ble_eq_true rfl⟩ (fun v_152 u_153 H locs hv_154 hP hD hS => ?_)
            obtain ⟨r_155, rfl, he_156⟩ := hv_154
            have he_156 : ((r_155.toInt = 0 ∨ r_155.toInt = 1)) := he_156
            refine W.eq (g2 := F0 m 66 ls [.int r_155]) rfl ?_
            have hP : va_P D classes [((Aa 0), .inr (9, [.int vy_118, .int (Av 1), .int (Av 2), .int (Av 3), .int (Av 4), .int vy_119, .ref (Aa 1), .ref (Aa 2), .ref (Aa 3), .ref (Aa 4), .ref (Aa 5), .ref (Aa 6), .ref (Aa 7), .ref (Aa 8)])), ((Aa 1), .inl (tc 0, 10, .inl (Af 1))), ((Aa 2), .inl (tc 0, 10, .inl (Af 2))), ((Aa 3), .inl (tc 0, 6, .inl vy_120)), ((Aa 4), .inl (tc 0, 6, .inl (Af 4))), ((Aa 5), .inl (tc 0, 6, .inl (Af 5))), ((Aa 6), .inl (tc 0, 6, .inl vy_121)), ((Aa 7), .inl (tc 0, 6, .inl vy_123)), ((Aa 8), .inl (tc 0, 6, .inl vy_122))] H := hP
            have hD : va_D A [((Aa 0), .inr (9, [.int vy_118, .int (Av 1), .int (Av 2), .int (Av 3), .int (Av 4), .int vy_119, .ref (Aa 1), .ref (Aa 2), .ref (Aa 3), .ref (Aa 4), .ref (Aa 5), .ref (Aa 6), .ref (Aa 7), .ref (Aa 8)])), ((Aa 1), .inl (tc 0, 10, .inl (Af 1))), ((Aa 2), .inl (tc 0, 10, .inl (Af 2))), ((Aa 3), .inl (tc 0, 6, .inl vy_120)), ((Aa 4), .inl (tc 0, 6, .inl (Af 4))), ((Aa 5), .inl (tc 0, 6, .inl (Af 5))), ((Aa 6), .inl (tc 0, 6, .inl vy_121)), ((Aa 7), .inl (tc 0, 6, .inl vy_123)), ((Aa 8), .inl (tc 0, 6, .inl vy_122))] := hD
            refine lv_if_ne (tgt := 72) hx hb dX9_goThroughDay_66 (by decide) (fun c_157 => ?_) (fun c_157 => ?_)
            · skip
              refine lv_aload_nN hx hb dX9_goThroughDay_72 rfl (lv_at hl 6 rfl) ?_
              refine lv_ifnonnullN hx hb dX9_goThroughDay_73 ?_
              refine lv_aload_n hx hb dX9_goThroughDay_76 rfl (lv_at hl 5 rfl) ?_
              refine gf_X9_37 hx hb hts hown hK hP 0 rfl rfl dX9_goThroughDay_77 ?_
              refine lv_iload hx hb dX9_goThroughDay_80 (lv_at hl 0 rfl) ?_
              have hi_158 : vp_in vy_116 6 := by
                have z_1 : ¬ (r_14 : Int32).toInt = (0 : Int32).toInt := fun z => c_16 (Int32.toInt_inj.mp z)
                have z_2 := Int32.lt_iff_toInt_lt.mp (Int32.not_le.mp c_130)
                have z_3 := Int32.lt_iff_toInt_lt.mp (Int32.not_le.mp c_141)
                have z_4 : ¬ (r_155 : Int32).toInt = (0 : Int32).toInt := fun z => c_157 (Int32.toInt_inj.mp z)
                have y_0 : (0 : Int32).toInt = 0 := by decide
                have y_6 : (6 : Int32).toInt = 6 := by decide
                refine vp_in_iff.mpr ⟨?_, ?_⟩ <;> omega
              refine va_iald hx hb hK hP 3 0 rfl rfl hi_158 dX9_goThroughDay_82 ?_
              refine lv_topi (fun x_159 ex_159 => ?_)
              refine lv_iload_n hx hb dX9_goThroughDay_83 rfl (lv_at hl 4 rfl) ?_
              refine lv_iadd hx hb dX9_goThroughDay_84 ?_
              refine lv_topi (fun x_160 ex_160 => ?_)
              refine lv_bipush (v := 12) hx hb dX9_goThroughDay_85 (by decide) ?_
              refine lv_icmp_lt (tgt := 94) hx hb dX9_goThroughDay_87 (by decide) (fun c_161 => ?_) (fun c_161 => ?_)
              · skip
                refine lv_iconst (v := 0) hx hb dX9_goThroughDay_94 (by decide) ?_
                refine lv_goto (tgt := 115) hx hb dX9_goThroughDay_95 (by decide) ?_
                refine lv_istore (lv' := [(7, .int 0), (6, .int vy_116), (5, .int vy_117), (4, .int x_106), (3, .int r_9), (2, .int r_4), (0, .ref (Aa 0)), (1, .null)]) hx hb dX9_goThroughDay_115 hl (by decide) rfl (fun ls hl => ?_)
                refine lv_iload hx hb dX9_goThroughDay_117 (lv_at hl 0 rfl) ?_
                refine lv_if_eq (tgt := 157) hx hb dX9_goThroughDay_119 (by decide) (fun c_162 => ?_) (fun c_162 => absurd c_162 (by decide))
                refine lv_iload hx hb dX9_goThroughDay_157 (lv_at hl 0 rfl) ?_
                refine lv_if_eq (tgt := 177) hx hb dX9_goThroughDay_159 (by decide) (fun c_163 => ?_) (fun c_163 => absurd c_163 (by decide))
                obtain ⟨x_164, ex_164⟩ : ∃ y : Int32, y = vy_116 + 1 := ⟨_, rfl⟩
                refine lv_iinc (v := x_164) (lv' := [(6, .int x_164), (7, .int 0), (5, .int vy_117), (4, .int x_106), (3, .int r_9), (2, .int r_4), (0, .ref (Aa 0)), (1, .null)]) hx hb dX9_goThroughDay_177 hl (k := 1) rfl (by rw [ex_164]; rfl) (by decide) rfl (fun ls hl => ?_)
                refine lv_goto (tgt := 44) hx hb dX9_goThroughDay_180 (by decide) ?_
                have hb_165 : 0 ≤ (x_164 : Int32).toInt ∧ (6 - (x_164 : Int32).toInt).toNat < n_124 := by
                  have z_1 : ¬ (r_14 : Int32).toInt = (0 : Int32).toInt := fun z => c_16 (Int32.toInt_inj.mp z)
                  have z_2 := Int32.lt_iff_toInt_lt.mp (Int32.not_le.mp c_130)
                  have z_3 := Int32.lt_iff_toInt_lt.mp (Int32.not_le.mp c_141)
                  have z_4 : ¬ (r_155 : Int32).toInt = (0 : Int32).toInt := fun z => c_157 (Int32.toInt_inj.mp z)
                  have z_5 := Int32.lt_iff_toInt_lt.mp c_161
                  have y_0 : (0 : Int32).toInt = 0 := by decide
                  have y_6 : (6 : Int32).toInt = 6 := by decide
                  have y_12 : (12 : Int32).toInt = 12 := by decide
                  have y_1 : (1 : Int32).toInt = 1 := by decide
                  have t_x_164 : x_164.toInt = (vy_116 : Int32).toInt + (1 : Int32).toInt := by rw [ex_164]; exact add_toInt (by omega) (by omega)
                  omega
                exact ih_125 x_164 vy_117 vy_118 vy_119 vy_120 vy_121 vy_122 vy_123 _ _ _ hb_165.1 hb_165.2 (hP.sub [0, 1, 2, 3, 4, 5, 6, 7, 8] rfl) (hD.sub [0, 1, 2, 3, 4, 5, 6, 7, 8] rfl rfl) hS (lv_sub hl [0, 2, 3, 4, 5, 6, 7] rfl)
              · skip
                refine lv_iconst (v := 1) hx hb dX9_goThroughDay_90 (by decide) ?_
                refine lv_goto (tgt := 115) hx hb dX9_goThroughDay_91 (by decide) ?_
                refine lv_istore (lv' := [(7, .int 1), (6, .int vy_116), (5, .int vy_117), (4, .int x_106), (3, .int r_9), (2, .int r_4), (0, .ref (Aa 0)), (1, .null)]) hx hb dX9_goThroughDay_115 hl (by decide) rfl (fun ls hl => ?_)
                refine lv_iload hx hb dX9_goThroughDay_117 (lv_at hl 0 rfl) ?_
                refine lv_if_eq (tgt := 157) hx hb dX9_goThroughDay_119 (by decide) (fun c_166 => absurd c_166 (by decide)) (fun c_166 => ?_)
                refine lv_iload hx hb dX9_goThroughDay_122 (lv_at hl 3 rfl) ?_
                refine lv_iload hx hb dX9_goThroughDay_124 (lv_at hl 1 rfl) ?_
                refine lv_ishr hx hb dX9_goThroughDay_126 ?_
                refine lv_topi (fun x_167 ex_167 => ?_)
                refine lv_iconst (v := 1) hx hb dX9_goThroughDay_127 (by decide) ?_
                refine lv_iand hx hb dX9_goThroughDay_128 ?_
                refine lv_topi (fun x_168 ex_168 => ?_)
                refine lv_if_eq (tgt := 157) hx hb dX9_goThroughDay_129 (by decide) (fun c_169 => ?_) (fun c_169 => ?_)
                · skip
                  refine lv_iload hx hb dX9_goThroughDay_157 (lv_at hl 0 rfl) ?_
                  refine lv_if_eq (tgt := 177) hx hb dX9_goThroughDay_159 (by decide) (fun c_170 => absurd c_170 (by decide)) (fun c_170 => ?_)
                  refine lv_aload_n hx hb dX9_goThroughDay_162 rfl (lv_at hl 6 rfl) ?_
                  refine lv_iload hx hb dX9_goThroughDay_163 (lv_at hl 1 rfl) ?_
                  refine cV (a := (Aa 0)) (As := [.int vy_116]) (rest := []) (wr := []) ⟨hx, hb, hml, hown, hts⟩ hK hX hA (cu_X9_handOver l D tc sk (Aa 0) (Aa 1) (Aa 2) (Aa 3) (Aa 4) (Aa 5) (Aa 6) (Aa 7) (Aa 8) vy_118 (Av 1) (Av 2) (Av 3) (Av 4) vy_119 (Af 1) (Af 2) vy_120 (Af 4) (Af 5) vy_121 vy_123 vy_122 vy_116) k_772 k_769 k_770 k_771 k_98 pl_X9_handOver ⟨Nat.le_of_ble_eq_true rfl, Nat.le_of_ble_eq_true rfl⟩ rfl rfl (va_recv hK hP (ci := 9) (q0 := 0) rfl rfl) hP hD hS [0, 1, 2, 3, 4, 5, 6, 7, 8] [] rfl rfl rfl rfl rfl (by decide) rfl hl.1 rfl (Nat.le_of_ble_eq_true rfl) dX9_goThroughDay_165 ⟨Nat.le_of_ble_eq_true rfl, Nat.le_of_ble_eq_true rfl⟩ (fun v_171 u_172 H locs hv_173 hP hD hS => ?_)
                  obtain ⟨sv_174, sv_175, sv_176, sv_177, sv_178⟩ := u_172
                  obtain rfl : v_171 = none := hv_173
                  refine W.eq (g2 := F0 m 168 ls []) rfl ?_
                  have hP : va_P D classes [((Aa 0), .inr (9, [.int sv_174, .int (Av 1), .int (Av 2), .int (Av 3), .int (Av 4), .int sv_175, .ref (Aa 1), .ref (Aa 2), .ref (Aa 3), .ref (Aa 4), .ref (Aa 5), .ref (Aa 6), .ref (Aa 7), .ref (Aa 8)])), ((Aa 1), .inl (tc 0, 10, .inl (Af 1))), ((Aa 2), .inl (tc 0, 10, .inl (Af 2))), ((Aa 3), .inl (tc 0, 6, .inl sv_176)), ((Aa 4), .inl (tc 0, 6, .inl (Af 4))), ((Aa 5), .inl (tc 0, 6, .inl (Af 5))), ((Aa 6), .inl (tc 0, 6, .inl sv_177)), ((Aa 7), .inl (tc 0, 6, .inl vy_123)), ((Aa 8), .inl (tc 0, 6, .inl sv_178))] H := hP
                  have hD : va_D A [((Aa 0), .inr (9, [.int sv_174, .int (Av 1), .int (Av 2), .int (Av 3), .int (Av 4), .int sv_175, .ref (Aa 1), .ref (Aa 2), .ref (Aa 3), .ref (Aa 4), .ref (Aa 5), .ref (Aa 6), .ref (Aa 7), .ref (Aa 8)])), ((Aa 1), .inl (tc 0, 10, .inl (Af 1))), ((Aa 2), .inl (tc 0, 10, .inl (Af 2))), ((Aa 3), .inl (tc 0, 6, .inl sv_176)), ((Aa 4), .inl (tc 0, 6, .inl (Af 4))), ((Aa 5), .inl (tc 0, 6, .inl (Af 5))), ((Aa 6), .inl (tc 0, 6, .inl sv_177)), ((Aa 7), .inl (tc 0, 6, .inl vy_123)), ((Aa 8), .inl (tc 0, 6, .inl sv_178))] := hD
                  refine lv_iload hx hb dX9_goThroughDay_168 (lv_at hl 2 rfl) ?_
                  refine lv_iconst (v := 1) hx hb dX9_goThroughDay_170 (by decide) ?_
                  refine lv_iload hx hb dX9_goThroughDay_171 (lv_at hl 1 rfl) ?_
                  refine lv_ishl hx hb dX9_goThroughDay_173 ?_
                  refine lv_topi (fun x_179 ex_179 => ?_)
                  refine lv_ior hx hb dX9_goThroughDay_174 ?_
                  refine lv_topi (fun x_180 ex_180 => ?_)
                  refine lv_istore (lv' := [(5, .int x_180), (7, .int 1), (6, .int vy_116), (4, .int x_106), (3, .int r_9), (2, .int r_4), (0, .ref (Aa 0)), (1, .null)]) hx hb dX9_goThroughDay_175 hl (by decide) rfl (fun ls hl => ?_)
                  obtain ⟨x_181, ex_181⟩ : ∃ y : Int32, y = vy_116 + 1 := ⟨_, rfl⟩
                  refine lv_iinc (v := x_181) (lv' := [(6, .int x_181), (5, .int x_180), (7, .int 1), (4, .int x_106), (3, .int r_9), (2, .int r_4), (0, .ref (Aa 0)), (1, .null)]) hx hb dX9_goThroughDay_177 hl (k := 2) rfl (by rw [ex_181]; rfl) (by decide) rfl (fun ls hl => ?_)
                  refine lv_goto (tgt := 44) hx hb dX9_goThroughDay_180 (by decide) ?_
                  have hb_182 : 0 ≤ (x_181 : Int32).toInt ∧ (6 - (x_181 : Int32).toInt).toNat < n_124 := by
                    have z_1 : ¬ (r_14 : Int32).toInt = (0 : Int32).toInt := fun z => c_16 (Int32.toInt_inj.mp z)
                    have z_2 := Int32.lt_iff_toInt_lt.mp (Int32.not_le.mp c_130)
                    have z_3 := Int32.lt_iff_toInt_lt.mp (Int32.not_le.mp c_141)
                    have z_4 : ¬ (r_155 : Int32).toInt = (0 : Int32).toInt := fun z => c_157 (Int32.toInt_inj.mp z)
                    have z_5 := Int32.le_iff_toInt_le.mp (Int32.not_lt.mp c_161)
                    have z_6 := congrArg Int32.toInt c_169
                    have y_0 : (0 : Int32).toInt = 0 := by decide
                    have y_6 : (6 : Int32).toInt = 6 := by decide
                    have y_12 : (12 : Int32).toInt = 12 := by decide
                    have y_1 : (1 : Int32).toInt = 1 := by decide
                    have t_x_181 : x_181.toInt = (vy_116 : Int32).toInt + (1 : Int32).toInt := by rw [ex_181]; exact add_toInt (by omega) (by omega)
                    omega
                  exact ih_125 x_181 x_180 sv_174 sv_175 sv_176 sv_177 sv_178 vy_123 _ _ _ hb_182.1 hb_182.2 (hP.sub [0, 1, 2, 3, 4, 5, 6, 7, 8] rfl) (hD.sub [0, 1, 2, 3, 4, 5, 6, 7, 8] rfl rfl) hS (lv_sub hl [0, 1, 3, 4, 5, 6, 7] rfl)
                · skip
                  refine lv_aload_n hx hb dX9_goThroughDay_132 rfl (lv_at hl 6 rfl) ?_
                  refine gf_X9_49 hx hb hts hown hK hP 0 rfl rfl dX9_goThroughDay_133 ?_
                  refine lv_iload hx hb dX9_goThroughDay_136 (lv_at hl 1 rfl) ?_
                  refine lv_dup2_11 hx hb dX9_goThroughDay_138 rfl rfl ?_
                  have hi_183 : vp_in vy_116 6 := by
                    have z_1 : ¬ (r_14 : Int32).toInt = (0 : Int32).toInt := fun z => c_16 (Int32.toInt_inj.mp z)
                    have z_2 := Int32.lt_iff_toInt_lt.mp (Int32.not_le.mp c_130)
                    have z_3 := Int32.lt_iff_toInt_lt.mp (Int32.not_le.mp c_141)
                    have z_4 : ¬ (r_155 : Int32).toInt = (0 : Int32).toInt := fun z => c_157 (Int32.toInt_inj.mp z)
                    have z_5 := Int32.le_iff_toInt_le.mp (Int32.not_lt.mp c_161)
                    have z_6 : ¬ (x_168 : Int32).toInt = (0 : Int32).toInt := fun z => c_169 (Int32.toInt_inj.mp z)
                    have y_0 : (0 : Int32).toInt = 0 := by decide
                    have y_6 : (6 : Int32).toInt = 6 := by decide
                    have y_12 : (12 : Int32).toInt = 12 := by decide
                    refine vp_in_iff.mpr ⟨?_, ?_⟩ <;> omega
                  refine va_iald hx hb hK hP 7 0 rfl rfl hi_183 dX9_goThroughDay_139 ?_
                  refine lv_topi (fun x_184 ex_184 => ?_)
                  refine lv_iconst (v := 1) hx hb dX9_goThroughDay_140 (by decide) ?_
                  refine lv_iadd hx hb dX9_goThroughDay_141 ?_
                  refine lv_topi (fun x_185 ex_185 => ?_)
                  have hi_186 : vp_in vy_116 6 := by
                    have z_1 : ¬ (r_14 : Int32).toInt = (0 : Int32).toInt := fun z => c_16 (Int32.toInt_inj.mp z)
                    have z_2 := Int32.lt_iff_toInt_lt.mp (Int32.not_le.mp c_130)
                    have z_3 := Int32.lt_iff_toInt_lt.mp (Int32.not_le.mp c_141)
                    have z_4 : ¬ (r_155 : Int32).toInt = (0 : Int32).toInt := fun z => c_157 (Int32.toInt_inj.mp z)
                    have z_5 := Int32.le_iff_toInt_le.mp (Int32.not_lt.mp c_161)
                    have z_6 : ¬ (x_168 : Int32).toInt = (0 : Int32).toInt := fun z => c_169 (Int32.toInt_inj.mp z)
                    have y_0 : (0 : Int32).toInt = 0 := by decide
                    have y_6 : (6 : Int32).toInt = 6 := by decide
                    have y_12 : (12 : Int32).toInt = 12 := by decide
                    refine vp_in_iff.mpr ⟨?_, ?_⟩ <;> omega
                  refine st_int hx hb hK hP hD hS 7 0 rfl rfl hi_186 dX9_goThroughDay_142 (fun g_187 H locs eg_187 hP hD hS => ?_)
                  have hP : va_P D classes [((Aa 0), .inr (9, [.int vy_118, .int (Av 1), .int (Av 2), .int (Av 3), .int (Av 4), .int vy_119, .ref (Aa 1), .ref (Aa 2), .ref (Aa 3), .ref (Aa 4), .ref (Aa 5), .ref (Aa 6), .ref (Aa 7), .ref (Aa 8)])), ((Aa 1), .inl (tc 0, 10, .inl (Af 1))), ((Aa 2), .inl (tc 0, 10, .inl (Af 2))), ((Aa 3), .inl (tc 0, 6, .inl vy_120)), ((Aa 4), .inl (tc 0, 6, .inl (Af 4))), ((Aa 5), .inl (tc 0, 6, .inl (Af 5))), ((Aa 6), .inl (tc 0, 6, .inl vy_121)), ((Aa 7), .inl (tc 0, 6, .inl g_187)), ((Aa 8), .inl (tc 0, 6, .inl vy_122))] H := hP
                  have hD : va_D A [((Aa 0), .inr (9, [.int vy_118, .int (Av 1), .int (Av 2), .int (Av 3), .int (Av 4), .int vy_119, .ref (Aa 1), .ref (Aa 2), .ref (Aa 3), .ref (Aa 4), .ref (Aa 5), .ref (Aa 6), .ref (Aa 7), .ref (Aa 8)])), ((Aa 1), .inl (tc 0, 10, .inl (Af 1))), ((Aa 2), .inl (tc 0, 10, .inl (Af 2))), ((Aa 3), .inl (tc 0, 6, .inl vy_120)), ((Aa 4), .inl (tc 0, 6, .inl (Af 4))), ((Aa 5), .inl (tc 0, 6, .inl (Af 5))), ((Aa 6), .inl (tc 0, 6, .inl vy_121)), ((Aa 7), .inl (tc 0, 6, .inl g_187)), ((Aa 8), .inl (tc 0, 6, .inl vy_122))] := hD
                  refine lv_aload_n hx hb dX9_goThroughDay_143 rfl (lv_at hl 6 rfl) ?_
                  refine gf_X9_52 hx hb hts hown hK hP 0 rfl rfl dX9_goThroughDay_144 ?_
                  refine lv_iload hx hb dX9_goThroughDay_147 (lv_at hl 1 rfl) ?_
                  refine lv_aload_n hx hb dX9_goThroughDay_149 rfl (lv_at hl 6 rfl) ?_
                  refine gf_X9_24 hx hb hts hown hK hP 0 rfl rfl dX9_goThroughDay_150 ?_
                  have hi_188 : vp_in vy_116 6 := by
                    have z_1 : ¬ (r_14 : Int32).toInt = (0 : Int32).toInt := fun z => c_16 (Int32.toInt_inj.mp z)
                    have z_2 := Int32.lt_iff_toInt_lt.mp (Int32.not_le.mp c_130)
                    have z_3 := Int32.lt_iff_toInt_lt.mp (Int32.not_le.mp c_141)
                    have z_4 : ¬ (r_155 : Int32).toInt = (0 : Int32).toInt := fun z => c_157 (Int32.toInt_inj.mp z)
                    have z_5 := Int32.le_iff_toInt_le.mp (Int32.not_lt.mp c_161)
                    have z_6 : ¬ (x_168 : Int32).toInt = (0 : Int32).toInt := fun z => c_169 (Int32.toInt_inj.mp z)
                    have y_0 : (0 : Int32).toInt = 0 := by decide
                    have y_6 : (6 : Int32).toInt = 6 := by decide
                    have y_12 : (12 : Int32).toInt = 12 := by decide
                    refine vp_in_iff.mpr ⟨?_, ?_⟩ <;> omega
                  refine st_int hx hb hK hP hD hS 8 0 rfl rfl hi_188 dX9_goThroughDay_153 (fun g_189 H locs eg_189 hP hD hS => ?_)
                  have hP : va_P D classes [((Aa 0), .inr (9, [.int vy_118, .int (Av 1), .int (Av 2), .int (Av 3), .int (Av 4), .int vy_119, .ref (Aa 1), .ref (Aa 2), .ref (Aa 3), .ref (Aa 4), .ref (Aa 5), .ref (Aa 6), .ref (Aa 7), .ref (Aa 8)])), ((Aa 1), .inl (tc 0, 10, .inl (Af 1))), ((Aa 2), .inl (tc 0, 10, .inl (Af 2))), ((Aa 3), .inl (tc 0, 6, .inl vy_120)), ((Aa 4), .inl (tc 0, 6, .inl (Af 4))), ((Aa 5), .inl (tc 0, 6, .inl (Af 5))), ((Aa 6), .inl (tc 0, 6, .inl vy_121)), ((Aa 7), .inl (tc 0, 6, .inl g_187)), ((Aa 8), .inl (tc 0, 6, .inl g_189))] H := hP
                  have hD : va_D A [((Aa 0), .inr (9, [.int vy_118, .int (Av 1), .int (Av 2), .int (Av 3), .int (Av 4), .int vy_119, .ref (Aa 1), .ref (Aa 2), .ref (Aa 3), .ref (Aa 4), .ref (Aa 5), .ref (Aa 6), .ref (Aa 7), .ref (Aa 8)])), ((Aa 1), .inl (tc 0, 10, .inl (Af 1))), ((Aa 2), .inl (tc 0, 10, .inl (Af 2))), ((Aa 3), .inl (tc 0, 6, .inl vy_120)), ((Aa 4), .inl (tc 0, 6, .inl (Af 4))), ((Aa 5), .inl (tc 0, 6, .inl (Af 5))), ((Aa 6), .inl (tc 0, 6, .inl vy_121)), ((Aa 7), .inl (tc 0, 6, .inl g_187)), ((Aa 8), .inl (tc 0, 6, .inl g_189))] := hD
                  refine lv_goto (tgt := 177) hx hb dX9_goThroughDay_154 (by decide) ?_
                  obtain ⟨x_190, ex_190⟩ : ∃ y : Int32, y = vy_116 + 1 := ⟨_, rfl⟩
                  refine lv_iinc (v := x_190) (lv' := [(6, .int x_190), (7, .int 1), (5, .int vy_117), (4, .int x_106), (3, .int r_9), (2, .int r_4), (0, .ref (Aa 0)), (1, .null)]) hx hb dX9_goThroughDay_177 hl (k := 1) rfl (by rw [ex_190]; rfl) (by decide) rfl (fun ls hl => ?_)
                  refine lv_goto (tgt := 44) hx hb dX9_goThroughDay_180 (by decide) ?_
                  have hb_191 : 0 ≤ (x_190 : Int32).toInt ∧ (6 - (x_190 : Int32).toInt).toNat < n_124 := by
                    have z_1 : ¬ (r_14 : Int32).toInt = (0 : Int32).toInt := fun z => c_16 (Int32.toInt_inj.mp z)
                    have z_2 := Int32.lt_iff_toInt_lt.mp (Int32.not_le.mp c_130)
                    have z_3 := Int32.lt_iff_toInt_lt.mp (Int32.not_le.mp c_141)
                    have z_4 : ¬ (r_155 : Int32).toInt = (0 : Int32).toInt := fun z => c_157 (Int32.toInt_inj.mp z)
                    have z_5 := Int32.le_iff_toInt_le.mp (Int32.not_lt.mp c_161)
                    have z_6 : ¬ (x_168 : Int32).toInt = (0 : Int32).toInt := fun z => c_169 (Int32.toInt_inj.mp z)
                    have y_0 : (0 : Int32).toInt = 0 := by decide
                    have y_6 : (6 : Int32).toInt = 6 := by decide
                    have y_12 : (12 : Int32).toInt = 12 := by decide
                    have y_1 : (1 : Int32).toInt = 1 := by decide
                    have t_x_190 : x_190.toInt = (vy_116 : Int32).toInt + (1 : Int32).toInt := by rw [ex_190]; exact add_toInt (by omega) (by omega)
                    omega
                  exact ih_125 x_190 vy_117 vy_118 vy_119 vy_120 vy_121 g_189 g_187 _ _ _ hb_191.1 hb_191.2 (hP.sub [0, 1, 2, 3, 4, 5, 6, 7, 8] rfl) (hD.sub [0, 1, 2, 3, 4, 5, 6, 7, 8] rfl rfl) hS (lv_sub hl [0, 2, 3, 4, 5, 6, 7] rfl)
            · skip
              refine lv_goto (tgt := 177) hx hb dX9_goThroughDay_69 (by decide) ?_
              obtain ⟨x_192, ex_192⟩ : ∃ y : Int32, y = vy_116 + 1 := ⟨_, rfl⟩
              refine lv_iinc (v := x_192) (lv' := [(6, .int x_192), (5, .int vy_117), (4, .int x_106), (3, .int r_9), (2, .int r_4), (0, .ref (Aa 0)), (1, .null)]) hx hb dX9_goThroughDay_177 hl (k := 0) rfl (by rw [ex_192]; rfl) (by decide) rfl (fun ls hl => ?_)
              refine lv_goto (tgt := 44) hx hb dX9_goThroughDay_180 (by decide) ?_
              have hb_193 : 0 ≤ (x_192 : Int32).toInt ∧ (6 - (x_192 : Int32).toInt).toNat < n_124 := by
                have z_1 : ¬ (r_14 : Int32).toInt = (0 : Int32).toInt := fun z => c_16 (Int32.toInt_inj.mp z)
                have z_2 := Int32.lt_iff_toInt_lt.mp (Int32.not_le.mp c_130)
                have z_3 := Int32.lt_iff_toInt_lt.mp (Int32.not_le.mp c_141)
                have z_4 := congrArg Int32.toInt c_157
                have y_0 : (0 : Int32).toInt = 0 := by decide
                have y_6 : (6 : Int32).toInt = 6 := by decide
                have y_1 : (1 : Int32).toInt = 1 := by decide
                have t_x_192 : x_192.toInt = (vy_116 : Int32).toInt + (1 : Int32).toInt := by rw [ex_192]; exact add_toInt (by omega) (by omega)
                omega
              exact ih_125 x_192 vy_117 vy_118 vy_119 vy_120 vy_121 vy_122 vy_123 _ _ _ hb_193.1 hb_193.2 (hP.sub [0, 1, 2, 3, 4, 5, 6, 7, 8] rfl) (hD.sub [0, 1, 2, 3, 4, 5, 6, 7, 8] rfl rfl) hS (lv_sub hl [0, 1, 2, 3, 4, 5, 6] rfl)
    have h0_194 : 0 ≤ (0 : Int32).toInt := by
      have z_1 : ¬ (r_14 : Int32).toInt = (0 : Int32).toInt := fun z => c_16 (Int32.toInt_inj.mp z)
      have y_0 : (0 : Int32).toInt = 0 := by decide
      decide
    exact loop_126 _ 0 0 (Av 0) (Av 5) (Af 3) (Af 6) (Af 8) (Af 7) _ _ _ h0_194 (Nat.lt_succ_self _) hP hD hS hl
set_option maxRecDepth 100000 in
theorem cu_X9_goThroughDay_n (l : Launch) (D : va_G) (tc : Nat → ClassId) (sk : (Nat → Nat) × (Nat → Nat)) (Aa_0 : Nat) (Aa_1 : Nat) (Aa_2 : Nat) (Aa_3 : Nat) (Aa_4 : Nat) (Aa_5 : Nat) (Aa_6 : Nat) (Aa_7 : Nat) (Aa_8 : Nat) (Av_0 : Int32) (Av_1 : Int32) (Av_2 : Int32) (Av_3 : Int32) (Av_4 : Int32) (Av_5 : Int32) (Af_1 : Nat → Int32) (Af_2 : Nat → Int32) (Af_3 : Nat → Int32) (Af_4 : Nat → Int32) (Af_5 : Nat → Int32) (Af_6 : Nat → Int32) (Af_7 : Nat → Int32) (Af_8 : Nat → Int32)  : Ct l yX9_goThroughDay cX9_goThroughDay 8 (some .int) { frames := 2, cells := 0, slots := 0, locals := 42 } D tc sk [.ref Aa_0, .null] [(Aa_0, .inr (9, [.int Av_0, .int Av_1, .int Av_2, .int Av_3, .int Av_4, .int Av_5, .ref Aa_1, .ref Aa_2, .ref Aa_3, .ref Aa_4, .ref Aa_5, .ref Aa_6, .ref Aa_7, .ref Aa_8])), (Aa_1, .inl (tc 0, 10, .inl Af_1)), (Aa_2, .inl (tc 0, 10, .inl Af_2)), (Aa_3, .inl (tc 0, 6, .inl Af_3)), (Aa_4, .inl (tc 0, 6, .inl Af_4)), (Aa_5, .inl (tc 0, 6, .inl Af_5)), (Aa_6, .inl (tc 0, 6, .inl Af_6)), (Aa_7, .inl (tc 0, 6, .inl Af_7)), (Aa_8, .inl (tc 0, 6, .inl Af_8))] (fun (v : Option Value) (u : (Int32) × (Int32) × (Int32) × (Nat → Int32) × (Nat → Int32) × (Nat → Int32) × (Nat → Int32)) => match u with | (o1, o2, o3, o4, o5, o6, o7) => ∃ r : Int32, v = some (.int r) ∧ (True)) (fun (u : (Int32) × (Int32) × (Int32) × (Nat → Int32) × (Nat → Int32) × (Nat → Int32) × (Nat → Int32)) => match u with | (o1, o2, o3, o4, o5, o6, o7) => [(Aa_0, .inr (9, [.int o1, .int Av_1, .int Av_2, .int Av_3, .int o2, .int o3, .ref Aa_1, .ref Aa_2, .ref Aa_3, .ref Aa_4, .ref Aa_5, .ref Aa_6, .ref Aa_7, .ref Aa_8])), (Aa_1, .inl (tc 0, 10, .inl Af_1)), (Aa_2, .inl (tc 0, 10, .inl Af_2)), (Aa_3, .inl (tc 0, 6, .inl o4)), (Aa_4, .inl (tc 0, 6, .inl Af_4)), (Aa_5, .inl (tc 0, 6, .inl Af_5)), (Aa_6, .inl (tc 0, 6, .inl o5)), (Aa_7, .inl (tc 0, 6, .inl o6)), (Aa_8, .inl (tc 0, 6, .inl o7))]) 0 0 :=
  ct_X9_goThroughDay_n l D tc sk (fun k => ([Aa_0, Aa_1, Aa_2, Aa_3, Aa_4, Aa_5, Aa_6, Aa_7, Aa_8] : List (Nat)).getD k 0) (fun k => ([Av_0, Av_1, Av_2, Av_3, Av_4, Av_5] : List (Int32)).getD k 0) (fun k => ([(fun _ => 0), Af_1, Af_2, Af_3, Af_4, Af_5, Af_6, Af_7, Af_8] : List (Nat → Int32)).getD k (fun _ => 0)) 
set_option maxHeartbeats 4000000 in
set_option maxRecDepth 100000 in
theorem ct_X9_soldWithin_n (l : Launch) (D : va_G) (tc : Nat → ClassId) (sk : (Nat → Nat) × (Nat → Nat)) (Aa : Nat → Nat) (Av : Nat → Int32) (Af : Nat → Nat → Int32) (x1 : Int32)  : Ct l yX9_soldWithin cX9_soldWithin 5 (some .int) { frames := 3, cells := 0, slots := 0, locals := 69 } D tc sk [.ref (Aa 0), .int x1, .null] [((Aa 0), .inr (9, [.int (Av 0), .int (Av 1), .int (Av 2), .int (Av 3), .int (Av 4), .int (Av 5), .ref (Aa 1), .ref (Aa 2), .ref (Aa 3), .ref (Aa 4), .ref (Aa 5), .ref (Aa 6), .ref (Aa 7), .ref (Aa 8)])), ((Aa 1), .inl (tc 0, 10, .inl (Af 1))), ((Aa 2), .inl (tc 0, 10, .inl (Af 2))), ((Aa 3), .inl (tc 0, 6, .inl (Af 3))), ((Aa 4), .inl (tc 0, 6, .inl (Af 4))), ((Aa 5), .inl (tc 0, 6, .inl (Af 5))), ((Aa 6), .inl (tc 0, 6, .inl (Af 6))), ((Aa 7), .inl (tc 0, 6, .inl (Af 7))), ((Aa 8), .inl (tc 0, 6, .inl (Af 8)))] (fun (v : Option Value) (u : (Int32) × (Int32) × (Int32) × (Nat → Int32) × (Nat → Int32) × (Nat → Int32) × (Nat → Int32)) => match u with | (o1, o2, o3, o4, o5, o6, o7) => ∃ r : Int32, v = some (.int r) ∧ (True)) (fun (u : (Int32) × (Int32) × (Int32) × (Nat → Int32) × (Nat → Int32) × (Nat → Int32) × (Nat → Int32)) => match u with | (o1, o2, o3, o4, o5, o6, o7) => [((Aa 0), .inr (9, [.int o1, .int (Av 1), .int (Av 2), .int (Av 3), .int o2, .int o3, .ref (Aa 1), .ref (Aa 2), .ref (Aa 3), .ref (Aa 4), .ref (Aa 5), .ref (Aa 6), .ref (Aa 7), .ref (Aa 8)])), ((Aa 1), .inl (tc 0, 10, .inl (Af 1))), ((Aa 2), .inl (tc 0, 10, .inl (Af 2))), ((Aa 3), .inl (tc 0, 6, .inl o4)), ((Aa 4), .inl (tc 0, 6, .inl (Af 4))), ((Aa 5), .inl (tc 0, 6, .inl (Af 5))), ((Aa 6), .inl (tc 0, 6, .inl o5)), ((Aa 7), .inl (tc 0, 6, .inl o6)), ((Aa 8), .inl (tc 0, 6, .inl o7))]) 0 0 := by
  refine Ct.start (by decide) (Nat.le_of_ble_eq_true rfl) (fun p e s m below meth c A ls hx hb hr hlk hin hml hown hts hK hX hP hD hA hl hS => ?_)
  have hl : lv_has ls 5 [(0, .ref (Aa 0)), (1, .int x1), (2, .null)] := hl
  refine lv_aload_n hx hb dX9_soldWithin_0 rfl (lv_at hl 0 rfl) ?_
  refine gf_X9_27 hx hb hts hown hK hP 0 rfl rfl dX9_soldWithin_1 ?_
  refine lv_istore_n (lv' := [(3, .int (Av 5)), (0, .ref (Aa 0)), (1, .int x1), (2, .null)]) hx hb dX9_soldWithin_4 rfl hl (by decide) rfl (fun ls hl => ?_)
  refine lv_iconst (v := 0) hx hb dX9_soldWithin_5 (by decide) ?_
  refine lv_istore (lv' := [(4, .int 0), (3, .int (Av 5)), (0, .ref (Aa 0)), (1, .int x1), (2, .null)]) hx hb dX9_soldWithin_6 hl (by decide) rfl (fun ls hl => ?_)
  have hmx_21 := i32_le x1
  have loop_20 : ∀ (n_18 : Nat) (vy_10 : Int32) (vy_11 : Int32) (vy_12 : Int32) (vy_13 : Int32) (vy_14 : Nat → Int32) (vy_15 : Nat → Int32) (vy_16 : Nat → Int32) (vy_17 : Nat → Int32) (H : Heap) (locs : List Loc) (ls : Array Slot), 0 ≤ (vy_10 : Int32).toInt → (x1.toInt - (vy_10 : Int32).toInt).toNat < n_18 → va_P D classes [((Aa 0), .inr (9, [.int vy_11, .int (Av 1), .int (Av 2), .int (Av 3), .int vy_12, .int vy_13, .ref (Aa 1), .ref (Aa 2), .ref (Aa 3), .ref (Aa 4), .ref (Aa 5), .ref (Aa 6), .ref (Aa 7), .ref (Aa 8)])), ((Aa 1), .inl (tc 0, 10, .inl (Af 1))), ((Aa 2), .inl (tc 0, 10, .inl (Af 2))), ((Aa 3), .inl (tc 0, 6, .inl vy_14)), ((Aa 4), .inl (tc 0, 6, .inl (Af 4))), ((Aa 5), .inl (tc 0, 6, .inl (Af 5))), ((Aa 6), .inl (tc 0, 6, .inl vy_15)), ((Aa 7), .inl (tc 0, 6, .inl vy_16)), ((Aa 8), .inl (tc 0, 6, .inl vy_17))] H → va_D A [((Aa 0), .inr (9, [.int vy_11, .int (Av 1), .int (Av 2), .int (Av 3), .int vy_12, .int vy_13, .ref (Aa 1), .ref (Aa 2), .ref (Aa 3), .ref (Aa 4), .ref (Aa 5), .ref (Aa 6), .ref (Aa 7), .ref (Aa 8)])), ((Aa 1), .inl (tc 0, 10, .inl (Af 1))), ((Aa 2), .inl (tc 0, 10, .inl (Af 2))), ((Aa 3), .inl (tc 0, 6, .inl vy_14)), ((Aa 4), .inl (tc 0, 6, .inl (Af 4))), ((Aa 5), .inl (tc 0, 6, .inl (Af 5))), ((Aa 6), .inl (tc 0, 6, .inl vy_15)), ((Aa 7), .inl (tc 0, 6, .inl vy_16)), ((Aa 8), .inl (tc 0, 6, .inl vy_17))] → va_S A s.heap H locs → lv_has ls 5 [(4, .int vy_10), (3, .int (Av 5)), (0, .ref (Aa 0)), (1, .int x1), (2, .null)] → W p l e ({ frames := 3, cells := 0, slots := 0, locals := 69 }) s m ([.ref (Aa 0), .int x1, .null].toArray) below meth c H locs 0 0 (MQ below (QW (fun (v : Option Value) (u : (Int32) × (Int32) × (Int32) × (Nat → Int32) × (Nat → Int32) × (Nat → Int32) × (Nat → Int32)) => match u with | (o1, o2, o3, o4, o5, o6, o7) => ∃ r : Int32, v = some (.int r) ∧ (True)) (BW D (fun (u : (Int32) × (Int32) × (Int32) × (Nat → Int32) × (Nat → Int32) × (Nat → Int32) × (Nat → Int32)) => match u with | (o1, o2, o3, o4, o5, o6, o7) => [((Aa 0), .inr (9, [.int o1, .int (Av 1), .int (Av 2), .int (Av 3), .int o2, .int o3, .ref (Aa 1), .ref (Aa 2), .ref (Aa 3), .ref (Aa 4), .ref (Aa 5), .ref (Aa 6), .ref (Aa 7), .ref (Aa 8)])), ((Aa 1), .inl (tc 0, 10, .inl (Af 1))), ((Aa 2), .inl (tc 0, 10, .inl (Af 2))), ((Aa 3), .inl (tc 0, 6, .inl o4)), ((Aa 4), .inl (tc 0, 6, .inl (Af 4))), ((Aa 5), .inl (tc 0, 6, .inl (Af 5))), ((Aa 6), .inl (tc 0, 6, .inl o5)), ((Aa 7), .inl (tc 0, 6, .inl o6)), ((Aa 8), .inl (tc 0, 6, .inl o7))]) A) A) ([.ref (Aa 0), .int x1, .null].toArray) s 0 0 A) (F0 m 8 ls []) := by
    intro n_18
    induction n_18 with
    | zero =>
      intro vy_10 vy_11 vy_12 vy_13 vy_14 vy_15 vy_16 vy_17 H locs ls h1 h2
      exact absurd h2 (Nat.not_lt_zero _)
    | succ n_18 ih_19 =>
      intro vy_10 vy_11 vy_12 vy_13 vy_14 vy_15 vy_16 vy_17 H locs ls hi_23 hn_24 hP hD hS hl
      refine lv_iload hx hb dX9_soldWithin_8 (lv_at hl 0 rfl) ?_
      refine lv_iload_n hx hb dX9_soldWithin_10 rfl (lv_at hl 3 rfl) ?_
      refine lv_icmp_ge (tgt := 26) hx hb dX9_soldWithin_11 (by decide) (fun c_25 => ?_) (fun c_25 => ?_)
      · skip
        refine lv_aload_n hx hb dX9_soldWithin_26 rfl (lv_at hl 2 rfl) ?_
        refine gf_X9_27 hx hb hts hown hK hP 0 rfl rfl dX9_soldWithin_27 ?_
        refine lv_iload_n hx hb dX9_soldWithin_30 rfl (lv_at hl 1 rfl) ?_
        refine lv_isub hx hb dX9_soldWithin_31 ?_
        refine lv_topi (fun x_26 ex_26 => ?_)
        exact retI (v := x_26) hx hb hr hlk (rfl) hP hD hS (vy_11, vy_12, vy_13, vy_14, vy_15, vy_16, vy_17) ⟨_, rfl, trivial⟩ [0, 1, 2, 3, 4, 5, 6, 7, 8] rfl rfl dX9_soldWithin_32 (Nat.le_of_ble_eq_true rfl) (Nat.le_of_ble_eq_true rfl) rfl
      · skip
        refine lv_aload_n hx hb dX9_soldWithin_14 rfl (lv_at hl 2 rfl) ?_
        refine lv_aload_nN hx hb dX9_soldWithin_15 rfl (lv_at hl 4 rfl) ?_
        refine cV (a := (Aa 0)) (As := [.null]) (rest := []) (wr := []) ⟨hx, hb, hml, hown, hts⟩ hK hX hA (cu_X9_goThroughDay_n l D tc sk (Aa 0) (Aa 1) (Aa 2) (Aa 3) (Aa 4) (Aa 5) (Aa 6) (Aa 7) (Aa 8) vy_11 (Av 1) (Av 2) (Av 3) vy_12 vy_13 (Af 1) (Af 2) vy_14 (Af 4) (Af 5) vy_15 vy_16 vy_17) k_739 k_819 k_737 k_738 k_98 pl_X9_goThroughDay ⟨Nat.le_of_ble_eq_true rfl, Nat.le_of_ble_eq_true rfl⟩ rfl rfl (va_recv hK hP (ci := 9) (q0 := 0) rfl rfl) hP hD hS [0, 1, 2, 3, 4, 5, 6, 7, 8] [] rfl rfl rfl rfl rfl (by decide) rfl hl.1 rfl (Nat.le_of_ble_eq_true rfl) dX9_soldWithin_16 ⟨Nat.le_of_ble_eq_true rfl, Nat.le_of_ble_eq_true rfl⟩ (fun v_27 u_28 H locs hv_29 hP hD hS => ?_)
        obtain ⟨sv_30, sv_31, sv_32, sv_33, sv_34, sv_35, sv_36⟩ := u_28
        obtain ⟨r_37, rfl, he_38⟩ := hv_29
        have he_38 : (True) := he_38
        refine W.eq (g2 := F0 m 19 ls [.int r_37]) rfl ?_
        have hP : va_P D classes [((Aa 0), .inr (9, [.int sv_30, .int (Av 1), .int (Av 2), .int (Av 3), .int sv_31, .int sv_32, .ref (Aa 1), .ref (Aa 2), .ref (Aa 3), .ref (Aa 4), .ref (Aa 5), .ref (Aa 6), .ref (Aa 7), .ref (Aa 8)])), ((Aa 1), .inl (tc 0, 10, .inl (Af 1))), ((Aa 2), .inl (tc 0, 10, .inl (Af 2))), ((Aa 3), .inl (tc 0, 6, .inl sv_33)), ((Aa 4), .inl (tc 0, 6, .inl (Af 4))), ((Aa 5), .inl (tc 0, 6, .inl (Af 5))), ((Aa 6), .inl (tc 0, 6, .inl sv_34)), ((Aa 7), .inl (tc 0, 6, .inl sv_35)), ((Aa 8), .inl (tc 0, 6, .inl sv_36))] H := hP
        have hD : va_D A [((Aa 0), .inr (9, [.int sv_30, .int (Av 1), .int (Av 2), .int (Av 3), .int sv_31, .int sv_32, .ref (Aa 1), .ref (Aa 2), .ref (Aa 3), .ref (Aa 4), .ref (Aa 5), .ref (Aa 6), .ref (Aa 7), .ref (Aa 8)])), ((Aa 1), .inl (tc 0, 10, .inl (Af 1))), ((Aa 2), .inl (tc 0, 10, .inl (Af 2))), ((Aa 3), .inl (tc 0, 6, .inl sv_33)), ((Aa 4), .inl (tc 0, 6, .inl (Af 4))), ((Aa 5), .inl (tc 0, 6, .inl (Af 5))), ((Aa 6), .inl (tc 0, 6, .inl sv_34)), ((Aa 7), .inl (tc 0, 6, .inl sv_35)), ((Aa 8), .inl (tc 0, 6, .inl sv_36))] := hD
        refine lv_pop hx hb dX9_soldWithin_19 rfl ?_
        obtain ⟨x_39, ex_39⟩ : ∃ y : Int32, y = vy_10 + 1 := ⟨_, rfl⟩
        refine lv_iinc (v := x_39) (lv' := [(4, .int x_39), (3, .int (Av 5)), (0, .ref (Aa 0)), (1, .int x1), (2, .null)]) hx hb dX9_soldWithin_20 hl (k := 0) rfl (by rw [ex_39]; rfl) (by decide) rfl (fun ls hl => ?_)
        refine lv_goto (tgt := 8) hx hb dX9_soldWithin_23 (by decide) ?_
        have hb_40 : 0 ≤ (x_39 : Int32).toInt ∧ (x1.toInt - (x_39 : Int32).toInt).toNat < n_18 := by
          have z_1 := Int32.lt_iff_toInt_lt.mp (Int32.not_le.mp c_25)
          have y_1 : (1 : Int32).toInt = 1 := by decide
          have t_x_39 : x_39.toInt = (vy_10 : Int32).toInt + (1 : Int32).toInt := by rw [ex_39]; exact add_toInt (by omega) (by omega)
          omega
        exact ih_19 x_39 sv_30 sv_31 sv_32 sv_33 sv_34 sv_35 sv_36 _ _ _ hb_40.1 hb_40.2 (hP.sub [0, 1, 2, 3, 4, 5, 6, 7, 8] rfl) (hD.sub [0, 1, 2, 3, 4, 5, 6, 7, 8] rfl rfl) hS (lv_sub hl [0, 1, 2, 3, 4] rfl)
  have h0_41 : 0 ≤ (0 : Int32).toInt := by
    have y_0 : (0 : Int32).toInt = 0 := by decide
    decide
  exact loop_20 _ 0 (Av 0) (Av 4) (Av 5) (Af 3) (Af 6) (Af 7) (Af 8) _ _ _ h0_41 (Nat.lt_succ_self _) hP hD hS hl
set_option maxRecDepth 100000 in
theorem cu_X9_soldWithin_n (l : Launch) (D : va_G) (tc : Nat → ClassId) (sk : (Nat → Nat) × (Nat → Nat)) (Aa_0 : Nat) (Aa_1 : Nat) (Aa_2 : Nat) (Aa_3 : Nat) (Aa_4 : Nat) (Aa_5 : Nat) (Aa_6 : Nat) (Aa_7 : Nat) (Aa_8 : Nat) (Av_0 : Int32) (Av_1 : Int32) (Av_2 : Int32) (Av_3 : Int32) (Av_4 : Int32) (Av_5 : Int32) (Af_1 : Nat → Int32) (Af_2 : Nat → Int32) (Af_3 : Nat → Int32) (Af_4 : Nat → Int32) (Af_5 : Nat → Int32) (Af_6 : Nat → Int32) (Af_7 : Nat → Int32) (Af_8 : Nat → Int32) (x1 : Int32)  : Ct l yX9_soldWithin cX9_soldWithin 5 (some .int) { frames := 3, cells := 0, slots := 0, locals := 69 } D tc sk [.ref Aa_0, .int x1, .null] [(Aa_0, .inr (9, [.int Av_0, .int Av_1, .int Av_2, .int Av_3, .int Av_4, .int Av_5, .ref Aa_1, .ref Aa_2, .ref Aa_3, .ref Aa_4, .ref Aa_5, .ref Aa_6, .ref Aa_7, .ref Aa_8])), (Aa_1, .inl (tc 0, 10, .inl Af_1)), (Aa_2, .inl (tc 0, 10, .inl Af_2)), (Aa_3, .inl (tc 0, 6, .inl Af_3)), (Aa_4, .inl (tc 0, 6, .inl Af_4)), (Aa_5, .inl (tc 0, 6, .inl Af_5)), (Aa_6, .inl (tc 0, 6, .inl Af_6)), (Aa_7, .inl (tc 0, 6, .inl Af_7)), (Aa_8, .inl (tc 0, 6, .inl Af_8))] (fun (v : Option Value) (u : (Int32) × (Int32) × (Int32) × (Nat → Int32) × (Nat → Int32) × (Nat → Int32) × (Nat → Int32)) => match u with | (o1, o2, o3, o4, o5, o6, o7) => ∃ r : Int32, v = some (.int r) ∧ (True)) (fun (u : (Int32) × (Int32) × (Int32) × (Nat → Int32) × (Nat → Int32) × (Nat → Int32) × (Nat → Int32)) => match u with | (o1, o2, o3, o4, o5, o6, o7) => [(Aa_0, .inr (9, [.int o1, .int Av_1, .int Av_2, .int Av_3, .int o2, .int o3, .ref Aa_1, .ref Aa_2, .ref Aa_3, .ref Aa_4, .ref Aa_5, .ref Aa_6, .ref Aa_7, .ref Aa_8])), (Aa_1, .inl (tc 0, 10, .inl Af_1)), (Aa_2, .inl (tc 0, 10, .inl Af_2)), (Aa_3, .inl (tc 0, 6, .inl o4)), (Aa_4, .inl (tc 0, 6, .inl Af_4)), (Aa_5, .inl (tc 0, 6, .inl Af_5)), (Aa_6, .inl (tc 0, 6, .inl o5)), (Aa_7, .inl (tc 0, 6, .inl o6)), (Aa_8, .inl (tc 0, 6, .inl o7))]) 0 0 :=
  ct_X9_soldWithin_n l D tc sk (fun k => ([Aa_0, Aa_1, Aa_2, Aa_3, Aa_4, Aa_5, Aa_6, Aa_7, Aa_8] : List (Nat)).getD k 0) (fun k => ([Av_0, Av_1, Av_2, Av_3, Av_4, Av_5] : List (Int32)).getD k 0) (fun k => ([(fun _ => 0), Af_1, Af_2, Af_3, Af_4, Af_5, Af_6, Af_7, Af_8] : List (Nat → Int32)).getD k (fun _ => 0)) x1 
set_option maxHeartbeats 4000000 in
set_option maxRecDepth 100000 in
theorem ct_X9_goThroughDay_r (l : Launch) (D : va_G) (tc : Nat → ClassId) (sk : (Nat → Nat) × (Nat → Nat)) (Aa : Nat → Nat) (Av : Nat → Int32) (Af : Nat → Nat → Int32) (Ra : Nat → Nat) (Rf : Nat → Nat → Int32) (Rg : Nat → Nat → Int64) (Rn : Nat) (hRn : Rn ≤ 400) : Ct l yX9_goThroughDay cX9_goThroughDay 8 (some .int) { frames := 4, cells := 0, slots := 0, locals := 89 } D tc sk [.ref (Aa 0), .ref (Ra 0)] [((Aa 0), .inr (9, [.int (Av 0), .int (Av 1), .int (Av 2), .int (Av 3), .int (Av 4), .int (Av 5), .ref (Aa 1), .ref (Aa 2), .ref (Aa 3), .ref (Aa 4), .ref (Aa 5), .ref (Aa 6), .ref (Aa 7), .ref (Aa 8)])), ((Aa 1), .inl (tc 0, 10, .inl (Af 1))), ((Aa 2), .inl (tc 0, 10, .inl (Af 2))), ((Aa 3), .inl (tc 0, 6, .inl (Af 3))), ((Aa 4), .inl (tc 0, 6, .inl (Af 4))), ((Aa 5), .inl (tc 0, 6, .inl (Af 5))), ((Aa 6), .inl (tc 0, 6, .inl (Af 6))), ((Aa 7), .inl (tc 0, 6, .inl (Af 7))), ((Aa 8), .inl (tc 0, 6, .inl (Af 8))), ((Ra 0), .inr (6, [.ref (Ra 1), .ref (Ra 2)])), ((Ra 1), .inl (tc 0, Rn, .inl (Rf 1))), ((Ra 2), .inl (tc 1, 64, .inr (.inl (Rg 2))))] (fun (v : Option Value) (u : (Int32) × (Int32) × (Int32) × (Nat → Int32) × (Nat → Int32) × (Nat → Int32) × (Nat → Int32) × (Nat → Int64)) => match u with | (o1, o2, o3, o4, o5, o6, o7, o8) => ∃ r : Int32, v = some (.int r) ∧ (True)) (fun (u : (Int32) × (Int32) × (Int32) × (Nat → Int32) × (Nat → Int32) × (Nat → Int32) × (Nat → Int32) × (Nat → Int64)) => match u with | (o1, o2, o3, o4, o5, o6, o7, o8) => [((Aa 0), .inr (9, [.int o1, .int (Av 1), .int (Av 2), .int (Av 3), .int o2, .int o3, .ref (Aa 1), .ref (Aa 2), .ref (Aa 3), .ref (Aa 4), .ref (Aa 5), .ref (Aa 6), .ref (Aa 7), .ref (Aa 8)])), ((Aa 1), .inl (tc 0, 10, .inl (Af 1))), ((Aa 2), .inl (tc 0, 10, .inl (Af 2))), ((Aa 3), .inl (tc 0, 6, .inl o4)), ((Aa 4), .inl (tc 0, 6, .inl (Af 4))), ((Aa 5), .inl (tc 0, 6, .inl (Af 5))), ((Aa 6), .inl (tc 0, 6, .inl o5)), ((Aa 7), .inl (tc 0, 6, .inl o6)), ((Aa 8), .inl (tc 0, 6, .inl o7)), ((Ra 0), .inr (6, [.ref (Ra 1), .ref (Ra 2)])), ((Ra 1), .inl (tc 0, Rn, .inl (Rf 1))), ((Ra 2), .inl (tc 1, 64, .inr (.inl o8)))]) 0 0 := by
  refine Ct.start (by decide) (Nat.le_of_ble_eq_true rfl) (fun p e s m below meth c A ls hx hb hr hlk hin hml hown hts hK hX hP hD hA hl hS => ?_)
  have hl : lv_has ls 8 [(0, .ref (Aa 0)), (1, .ref (Ra 0))] := hl
  refine lv_aload_n hx hb dX9_goThroughDay_0 rfl (lv_at hl 0 rfl) ?_
  refine lv_aload_n hx hb dX9_goThroughDay_1 rfl (lv_at hl 0 rfl) ?_
  refine gf_X9_24 hx hb hts hown hK hP 0 rfl rfl dX9_goThroughDay_2 ?_
  refine cV (a := (Aa 0)) (As := [.int (Av 4)]) (rest := []) (wr := [((Ra 0), .inr (6, [.ref (Ra 1), .ref (Ra 2)])), ((Ra 1), .inl (tc 0, Rn, .inl (Rf 1))), ((Ra 2), .inl (tc 1, 64, .inr (.inl (Rg 2))))]) ⟨hx, hb, hml, hown, hts⟩ hK hX hA (cu_X9_stillOn l D tc sk (Aa 0) (Aa 1) (Aa 2) (Aa 3) (Aa 4) (Aa 5) (Aa 6) (Aa 7) (Aa 8) (Av 0) (Av 1) (Av 2) (Av 3) (Av 4) (Av 5) (Af 1) (Af 2) (Af 3) (Af 4) (Af 5) (Af 6) (Af 7) (Af 8) (Av 4)) k_743 k_740 k_741 k_742 k_98 pl_X9_stillOn ⟨Nat.le_of_ble_eq_true rfl, Nat.le_of_ble_eq_true rfl⟩ rfl rfl (va_recv hK hP (ci := 9) (q0 := 0) rfl rfl) hP hD hS [0, 1, 2, 3, 4, 5, 6, 7, 8] [9, 10, 11] rfl rfl rfl rfl rfl (by decide) rfl hl.1 rfl (Nat.le_of_ble_eq_true rfl) dX9_goThroughDay_5 ⟨Nat.le_of_ble_eq_true rfl, Nat.le_of_ble_eq_true rfl⟩ (fun v_1 u_2 H locs hv_3 hP hD hS => ?_)
  obtain ⟨r_4, rfl, he_5⟩ := hv_3
  have he_5 : (True) := he_5
  refine W.eq (g2 := F0 m 8 ls [.int r_4]) rfl ?_
  have hP : va_P D classes [((Ra 0), .inr (6, [.ref (Ra 1), .ref (Ra 2)])), ((Ra 1), .inl (tc 0, Rn, .inl (Rf 1))), ((Ra 2), .inl (tc 1, 64, .inr (.inl (Rg 2)))), ((Aa 0), .inr (9, [.int (Av 0), .int (Av 1), .int (Av 2), .int (Av 3), .int (Av 4), .int (Av 5), .ref (Aa 1), .ref (Aa 2), .ref (Aa 3), .ref (Aa 4), .ref (Aa 5), .ref (Aa 6), .ref (Aa 7), .ref (Aa 8)])), ((Aa 1), .inl (tc 0, 10, .inl (Af 1))), ((Aa 2), .inl (tc 0, 10, .inl (Af 2))), ((Aa 3), .inl (tc 0, 6, .inl (Af 3))), ((Aa 4), .inl (tc 0, 6, .inl (Af 4))), ((Aa 5), .inl (tc 0, 6, .inl (Af 5))), ((Aa 6), .inl (tc 0, 6, .inl (Af 6))), ((Aa 7), .inl (tc 0, 6, .inl (Af 7))), ((Aa 8), .inl (tc 0, 6, .inl (Af 8)))] H := hP
  have hD : va_D A [((Ra 0), .inr (6, [.ref (Ra 1), .ref (Ra 2)])), ((Ra 1), .inl (tc 0, Rn, .inl (Rf 1))), ((Ra 2), .inl (tc 1, 64, .inr (.inl (Rg 2)))), ((Aa 0), .inr (9, [.int (Av 0), .int (Av 1), .int (Av 2), .int (Av 3), .int (Av 4), .int (Av 5), .ref (Aa 1), .ref (Aa 2), .ref (Aa 3), .ref (Aa 4), .ref (Aa 5), .ref (Aa 6), .ref (Aa 7), .ref (Aa 8)])), ((Aa 1), .inl (tc 0, 10, .inl (Af 1))), ((Aa 2), .inl (tc 0, 10, .inl (Af 2))), ((Aa 3), .inl (tc 0, 6, .inl (Af 3))), ((Aa 4), .inl (tc 0, 6, .inl (Af 4))), ((Aa 5), .inl (tc 0, 6, .inl (Af 5))), ((Aa 6), .inl (tc 0, 6, .inl (Af 6))), ((Aa 7), .inl (tc 0, 6, .inl (Af 7))), ((Aa 8), .inl (tc 0, 6, .inl (Af 8)))] := hD
  refine lv_istore_n (lv' := [(2, .int r_4), (0, .ref (Aa 0)), (1, .ref (Ra 0))]) hx hb dX9_goThroughDay_8 rfl hl (by decide) rfl (fun ls hl => ?_)
  refine lv_aload_n hx hb dX9_goThroughDay_9 rfl (lv_at hl 1 rfl) ?_
  refine lv_aload_n hx hb dX9_goThroughDay_10 rfl (lv_at hl 1 rfl) ?_
  refine gf_X9_24 hx hb hts hown hK hP 3 rfl rfl dX9_goThroughDay_11 ?_
  refine cV (a := (Aa 0)) (As := [.int (Av 4)]) (rest := []) (wr := [((Ra 0), .inr (6, [.ref (Ra 1), .ref (Ra 2)])), ((Ra 1), .inl (tc 0, Rn, .inl (Rf 1))), ((Ra 2), .inl (tc 1, 64, .inr (.inl (Rg 2))))]) ⟨hx, hb, hml, hown, hts⟩ hK hX hA (cu_X9_clockOn l D tc sk (Aa 0) (Aa 1) (Aa 2) (Aa 3) (Aa 4) (Aa 5) (Aa 6) (Aa 7) (Aa 8) (Av 0) (Av 1) (Av 2) (Av 3) (Av 4) (Av 5) (Af 1) (Af 2) (Af 3) (Af 4) (Af 5) (Af 6) (Af 7) (Af 8) (Av 4)) k_747 k_744 k_745 k_746 k_98 pl_X9_clockOn ⟨Nat.le_of_ble_eq_true rfl, Nat.le_of_ble_eq_true rfl⟩ rfl rfl (va_recv hK hP (ci := 9) (q0 := 3) rfl rfl) hP hD hS [3, 4, 5, 6, 7, 8, 9, 10, 11] [0, 1, 2] rfl rfl rfl rfl rfl (by decide) rfl hl.1 rfl (Nat.le_of_ble_eq_true rfl) dX9_goThroughDay_14 ⟨Nat.le_of_ble_eq_true rfl, Nat.le_of_ble_eq_true rfl⟩ (fun v_6 u_7 H locs hv_8 hP hD hS => ?_)
  obtain ⟨r_9, rfl, he_10⟩ := hv_8
  have he_10 : (True) := he_10
  refine W.eq (g2 := F0 m 17 ls [.int r_9]) rfl ?_
  have hP : va_P D classes [((Ra 0), .inr (6, [.ref (Ra 1), .ref (Ra 2)])), ((Ra 1), .inl (tc 0, Rn, .inl (Rf 1))), ((Ra 2), .inl (tc 1, 64, .inr (.inl (Rg 2)))), ((Aa 0), .inr (9, [.int (Av 0), .int (Av 1), .int (Av 2), .int (Av 3), .int (Av 4), .int (Av 5), .ref (Aa 1), .ref (Aa 2), .ref (Aa 3), .ref (Aa 4), .ref (Aa 5), .ref (Aa 6), .ref (Aa 7), .ref (Aa 8)])), ((Aa 1), .inl (tc 0, 10, .inl (Af 1))), ((Aa 2), .inl (tc 0, 10, .inl (Af 2))), ((Aa 3), .inl (tc 0, 6, .inl (Af 3))), ((Aa 4), .inl (tc 0, 6, .inl (Af 4))), ((Aa 5), .inl (tc 0, 6, .inl (Af 5))), ((Aa 6), .inl (tc 0, 6, .inl (Af 6))), ((Aa 7), .inl (tc 0, 6, .inl (Af 7))), ((Aa 8), .inl (tc 0, 6, .inl (Af 8)))] H := hP
  have hD : va_D A [((Ra 0), .inr (6, [.ref (Ra 1), .ref (Ra 2)])), ((Ra 1), .inl (tc 0, Rn, .inl (Rf 1))), ((Ra 2), .inl (tc 1, 64, .inr (.inl (Rg 2)))), ((Aa 0), .inr (9, [.int (Av 0), .int (Av 1), .int (Av 2), .int (Av 3), .int (Av 4), .int (Av 5), .ref (Aa 1), .ref (Aa 2), .ref (Aa 3), .ref (Aa 4), .ref (Aa 5), .ref (Aa 6), .ref (Aa 7), .ref (Aa 8)])), ((Aa 1), .inl (tc 0, 10, .inl (Af 1))), ((Aa 2), .inl (tc 0, 10, .inl (Af 2))), ((Aa 3), .inl (tc 0, 6, .inl (Af 3))), ((Aa 4), .inl (tc 0, 6, .inl (Af 4))), ((Aa 5), .inl (tc 0, 6, .inl (Af 5))), ((Aa 6), .inl (tc 0, 6, .inl (Af 6))), ((Aa 7), .inl (tc 0, 6, .inl (Af 7))), ((Aa 8), .inl (tc 0, 6, .inl (Af 8)))] := hD
  refine lv_istore_n (lv' := [(3, .int r_9), (2, .int r_4), (0, .ref (Aa 0)), (1, .ref (Ra 0))]) hx hb dX9_goThroughDay_17 rfl hl (by decide) rfl (fun ls hl => ?_)
  refine lv_aload_n hx hb dX9_goThroughDay_18 rfl (lv_at hl 2 rfl) ?_
  refine lv_iload_n hx hb dX9_goThroughDay_19 rfl (lv_at hl 0 rfl) ?_
  refine cV (a := (Aa 0)) (As := [.int r_9]) (rest := []) (wr := [((Ra 0), .inr (6, [.ref (Ra 1), .ref (Ra 2)])), ((Ra 1), .inl (tc 0, Rn, .inl (Rf 1))), ((Ra 2), .inl (tc 1, 64, .inr (.inl (Rg 2))))]) ⟨hx, hb, hml, hown, hts⟩ hK hX hA (cu_X9_hasClock l D tc sk (Aa 0) (Aa 1) (Aa 2) (Aa 3) (Aa 4) (Aa 5) (Aa 6) (Aa 7) (Aa 8) (Av 0) (Av 1) (Av 2) (Av 3) (Av 4) (Av 5) (Af 1) (Af 2) (Af 3) (Af 4) (Af 5) (Af 6) (Af 7) (Af 8) r_9) k_579 k_748 k_577 k_578 k_98 pl_X9_hasClock ⟨Nat.le_of_ble_eq_true rfl, Nat.le_of_ble_eq_true rfl⟩ rfl rfl (va_recv hK hP (ci := 9) (q0 := 3) rfl rfl) hP hD hS [3, 4, 5, 6, 7, 8, 9, 10, 11] [0, 1, 2] rfl rfl rfl rfl rfl (by decide) rfl hl.1 rfl (Nat.le_of_ble_eq_true rfl) dX9_goThroughDay_20 ⟨Nat.le_of_ble_eq_true rfl, Nat.le_of_ble_eq_true rfl⟩ (fun v_11 u_12 H locs hv_13 hP hD hS => ?_)
  obtain ⟨r_14, rfl, he_15⟩ := hv_13
  have he_15 : ((r_14.toInt = 0 ∨ (r_14.toInt = 1 ∧ 0 ≤ r_9.toInt ∧ r_9.toInt < 10))) := he_15
  refine W.eq (g2 := F0 m 23 ls [.int r_14]) rfl ?_
  have hP : va_P D classes [((Ra 0), .inr (6, [.ref (Ra 1), .ref (Ra 2)])), ((Ra 1), .inl (tc 0, Rn, .inl (Rf 1))), ((Ra 2), .inl (tc 1, 64, .inr (.inl (Rg 2)))), ((Aa 0), .inr (9, [.int (Av 0), .int (Av 1), .int (Av 2), .int (Av 3), .int (Av 4), .int (Av 5), .ref (Aa 1), .ref (Aa 2), .ref (Aa 3), .ref (Aa 4), .ref (Aa 5), .ref (Aa 6), .ref (Aa 7), .ref (Aa 8)])), ((Aa 1), .inl (tc 0, 10, .inl (Af 1))), ((Aa 2), .inl (tc 0, 10, .inl (Af 2))), ((Aa 3), .inl (tc 0, 6, .inl (Af 3))), ((Aa 4), .inl (tc 0, 6, .inl (Af 4))), ((Aa 5), .inl (tc 0, 6, .inl (Af 5))), ((Aa 6), .inl (tc 0, 6, .inl (Af 6))), ((Aa 7), .inl (tc 0, 6, .inl (Af 7))), ((Aa 8), .inl (tc 0, 6, .inl (Af 8)))] H := hP
  have hD : va_D A [((Ra 0), .inr (6, [.ref (Ra 1), .ref (Ra 2)])), ((Ra 1), .inl (tc 0, Rn, .inl (Rf 1))), ((Ra 2), .inl (tc 1, 64, .inr (.inl (Rg 2)))), ((Aa 0), .inr (9, [.int (Av 0), .int (Av 1), .int (Av 2), .int (Av 3), .int (Av 4), .int (Av 5), .ref (Aa 1), .ref (Aa 2), .ref (Aa 3), .ref (Aa 4), .ref (Aa 5), .ref (Aa 6), .ref (Aa 7), .ref (Aa 8)])), ((Aa 1), .inl (tc 0, 10, .inl (Af 1))), ((Aa 2), .inl (tc 0, 10, .inl (Af 2))), ((Aa 3), .inl (tc 0, 6, .inl (Af 3))), ((Aa 4), .inl (tc 0, 6, .inl (Af 4))), ((Aa 5), .inl (tc 0, 6, .inl (Af 5))), ((Aa 6), .inl (tc 0, 6, .inl (Af 6))), ((Aa 7), .inl (tc 0, 6, .inl (Af 7))), ((Aa 8), .inl (tc 0, 6, .inl (Af 8)))] := hD
  refine lv_if_eq (tgt := 35) hx hb dX9_goThroughDay_23 (by decide) (fun c_16 => ?_) (fun c_16 => ?_)
  · skip
    refine lv_iconst (v := 0) hx hb dX9_goThroughDay_35 (by decide) ?_
    refine lv_istore (lv' := [(4, .int 0), (3, .int r_9), (2, .int r_4), (0, .ref (Aa 0)), (1, .ref (Ra 0))]) hx hb dX9_goThroughDay_36 hl (by decide) rfl (fun ls hl => ?_)
    refine lv_iconst (v := 0) hx hb dX9_goThroughDay_38 (by decide) ?_
    refine lv_istore (lv' := [(5, .int 0), (4, .int 0), (3, .int r_9), (2, .int r_4), (0, .ref (Aa 0)), (1, .ref (Ra 0))]) hx hb dX9_goThroughDay_39 hl (by decide) rfl (fun ls hl => ?_)
    refine lv_iconst (v := 0) hx hb dX9_goThroughDay_41 (by decide) ?_
    refine lv_istore (lv' := [(6, .int 0), (5, .int 0), (4, .int 0), (3, .int r_9), (2, .int r_4), (0, .ref (Aa 0)), (1, .ref (Ra 0))]) hx hb dX9_goThroughDay_42 hl (by decide) rfl (fun ls hl => ?_)
    have loop_38 : ∀ (n_36 : Nat) (vy_27 : Int32) (vy_28 : Nat → Int64) (vy_29 : Int32) (vy_30 : Int32) (vy_31 : Int32) (vy_32 : Nat → Int32) (vy_33 : Nat → Int32) (vy_34 : Nat → Int32) (vy_35 : Nat → Int32) (H : Heap) (locs : List Loc) (ls : Array Slot), 0 ≤ (vy_27 : Int32).toInt → (6 - (vy_27 : Int32).toInt).toNat < n_36 → va_P D classes [((Ra 0), .inr (6, [.ref (Ra 1), .ref (Ra 2)])), ((Ra 1), .inl (tc 0, Rn, .inl (Rf 1))), ((Ra 2), .inl (tc 1, 64, .inr (.inl vy_28))), ((Aa 0), .inr (9, [.int vy_30, .int (Av 1), .int (Av 2), .int (Av 3), .int (Av 4), .int vy_31, .ref (Aa 1), .ref (Aa 2), .ref (Aa 3), .ref (Aa 4), .ref (Aa 5), .ref (Aa 6), .ref (Aa 7), .ref (Aa 8)])), ((Aa 1), .inl (tc 0, 10, .inl (Af 1))), ((Aa 2), .inl (tc 0, 10, .inl (Af 2))), ((Aa 3), .inl (tc 0, 6, .inl vy_32)), ((Aa 4), .inl (tc 0, 6, .inl (Af 4))), ((Aa 5), .inl (tc 0, 6, .inl (Af 5))), ((Aa 6), .inl (tc 0, 6, .inl vy_33)), ((Aa 7), .inl (tc 0, 6, .inl vy_35)), ((Aa 8), .inl (tc 0, 6, .inl vy_34))] H → va_D A [((Ra 0), .inr (6, [.ref (Ra 1), .ref (Ra 2)])), ((Ra 1), .inl (tc 0, Rn, .inl (Rf 1))), ((Ra 2), .inl (tc 1, 64, .inr (.inl vy_28))), ((Aa 0), .inr (9, [.int vy_30, .int (Av 1), .int (Av 2), .int (Av 3), .int (Av 4), .int vy_31, .ref (Aa 1), .ref (Aa 2), .ref (Aa 3), .ref (Aa 4), .ref (Aa 5), .ref (Aa 6), .ref (Aa 7), .ref (Aa 8)])), ((Aa 1), .inl (tc 0, 10, .inl (Af 1))), ((Aa 2), .inl (tc 0, 10, .inl (Af 2))), ((Aa 3), .inl (tc 0, 6, .inl vy_32)), ((Aa 4), .inl (tc 0, 6, .inl (Af 4))), ((Aa 5), .inl (tc 0, 6, .inl (Af 5))), ((Aa 6), .inl (tc 0, 6, .inl vy_33)), ((Aa 7), .inl (tc 0, 6, .inl vy_35)), ((Aa 8), .inl (tc 0, 6, .inl vy_34))] → va_S A s.heap H locs → lv_has ls 8 [(6, .int vy_27), (5, .int vy_29), (4, .int 0), (3, .int r_9), (2, .int r_4), (0, .ref (Aa 0)), (1, .ref (Ra 0))] → W p l e ({ frames := 4, cells := 0, slots := 0, locals := 89 }) s m ([.ref (Aa 0), .ref (Ra 0)].toArray) below meth c H locs 0 0 (MQ below (QW (fun (v : Option Value) (u : (Int32) × (Int32) × (Int32) × (Nat → Int32) × (Nat → Int32) × (Nat → Int32) × (Nat → Int32) × (Nat → Int64)) => match u with | (o1, o2, o3, o4, o5, o6, o7, o8) => ∃ r : Int32, v = some (.int r) ∧ (True)) (BW D (fun (u : (Int32) × (Int32) × (Int32) × (Nat → Int32) × (Nat → Int32) × (Nat → Int32) × (Nat → Int32) × (Nat → Int64)) => match u with | (o1, o2, o3, o4, o5, o6, o7, o8) => [((Aa 0), .inr (9, [.int o1, .int (Av 1), .int (Av 2), .int (Av 3), .int o2, .int o3, .ref (Aa 1), .ref (Aa 2), .ref (Aa 3), .ref (Aa 4), .ref (Aa 5), .ref (Aa 6), .ref (Aa 7), .ref (Aa 8)])), ((Aa 1), .inl (tc 0, 10, .inl (Af 1))), ((Aa 2), .inl (tc 0, 10, .inl (Af 2))), ((Aa 3), .inl (tc 0, 6, .inl o4)), ((Aa 4), .inl (tc 0, 6, .inl (Af 4))), ((Aa 5), .inl (tc 0, 6, .inl (Af 5))), ((Aa 6), .inl (tc 0, 6, .inl o5)), ((Aa 7), .inl (tc 0, 6, .inl o6)), ((Aa 8), .inl (tc 0, 6, .inl o7)), ((Ra 0), .inr (6, [.ref (Ra 1), .ref (Ra 2)])), ((Ra 1), .inl (tc 0, Rn, .inl (Rf 1))), ((Ra 2), .inl (tc 1, 64, .inr (.inl o8)))]) A) A) ([.ref (Aa 0), .ref (Ra 0)].toArray) s 0 0 A) (F0 m 44 ls []) := by
      intro n_36
      induction n_36 with
      | zero =>
        intro vy_27 vy_28 vy_29 vy_30 vy_31 vy_32 vy_33 vy_34 vy_35 H locs ls h1 h2
        exact absurd h2 (Nat.not_lt_zero _)
      | succ n_36 ih_37 =>
        intro vy_27 vy_28 vy_29 vy_30 vy_31 vy_32 vy_33 vy_34 vy_35 H locs ls hi_40 hn_41 hP hD hS hl
        refine lv_iload hx hb dX9_goThroughDay_44 (lv_at hl 0 rfl) ?_
        refine lv_aload_n hx hb dX9_goThroughDay_46 rfl (lv_at hl 5 rfl) ?_
        refine gf_X9_21 hx hb hts hown hK hP 3 rfl rfl dX9_goThroughDay_47 ?_
        refine lv_icmp_ge (tgt := 183) hx hb dX9_goThroughDay_50 (by decide) (fun c_42 => ?_) (fun c_42 => ?_)
        · skip
          refine lv_aload_n hx hb dX9_goThroughDay_183 rfl (lv_at hl 5 rfl) ?_
          refine lv_iload_n hx hb dX9_goThroughDay_184 rfl (lv_at hl 4 rfl) ?_
          refine cV (a := (Aa 0)) (As := [.int r_4]) (rest := []) (wr := [((Ra 0), .inr (6, [.ref (Ra 1), .ref (Ra 2)])), ((Ra 1), .inl (tc 0, Rn, .inl (Rf 1))), ((Ra 2), .inl (tc 1, 64, .inr (.inl vy_28)))]) ⟨hx, hb, hml, hown, hts⟩ hK hX hA (cu_X9_changeTempers l D tc sk (Aa 0) (Aa 1) (Aa 2) (Aa 3) (Aa 4) (Aa 5) (Aa 6) (Aa 7) (Aa 8) vy_30 (Av 1) (Av 2) (Av 3) (Av 4) vy_31 (Af 1) (Af 2) vy_32 (Af 4) (Af 5) vy_33 vy_35 vy_34 r_4) k_779 k_776 k_778 k_15 k_98 pl_X9_changeTempers ⟨Nat.le_of_ble_eq_true rfl, Nat.le_of_ble_eq_true rfl⟩ rfl rfl (va_recv hK hP (ci := 9) (q0 := 3) rfl rfl) hP hD hS [3, 4, 5, 6, 7, 8, 9, 10, 11] [0, 1, 2] rfl rfl rfl rfl rfl (by decide) rfl hl.1 rfl (Nat.le_of_ble_eq_true rfl) dX9_goThroughDay_185 ⟨Nat.le_of_ble_eq_true rfl, Nat.le_of_ble_eq_true rfl⟩ (fun v_43 u_44 H locs hv_45 hP hD hS => ?_)
          obtain ⟨sv_46, rfl⟩ : ∃ z, z = u_44 := ⟨_, rfl⟩
          obtain rfl : v_43 = none := hv_45
          refine W.eq (g2 := F0 m 188 ls []) rfl ?_
          have hP : va_P D classes [((Ra 0), .inr (6, [.ref (Ra 1), .ref (Ra 2)])), ((Ra 1), .inl (tc 0, Rn, .inl (Rf 1))), ((Ra 2), .inl (tc 1, 64, .inr (.inl vy_28))), ((Aa 0), .inr (9, [.int vy_30, .int (Av 1), .int (Av 2), .int (Av 3), .int (Av 4), .int vy_31, .ref (Aa 1), .ref (Aa 2), .ref (Aa 3), .ref (Aa 4), .ref (Aa 5), .ref (Aa 6), .ref (Aa 7), .ref (Aa 8)])), ((Aa 1), .inl (tc 0, 10, .inl (Af 1))), ((Aa 2), .inl (tc 0, 10, .inl (Af 2))), ((Aa 3), .inl (tc 0, 6, .inl sv_46)), ((Aa 4), .inl (tc 0, 6, .inl (Af 4))), ((Aa 5), .inl (tc 0, 6, .inl (Af 5))), ((Aa 6), .inl (tc 0, 6, .inl vy_33)), ((Aa 7), .inl (tc 0, 6, .inl vy_35)), ((Aa 8), .inl (tc 0, 6, .inl vy_34))] H := hP
          have hD : va_D A [((Ra 0), .inr (6, [.ref (Ra 1), .ref (Ra 2)])), ((Ra 1), .inl (tc 0, Rn, .inl (Rf 1))), ((Ra 2), .inl (tc 1, 64, .inr (.inl vy_28))), ((Aa 0), .inr (9, [.int vy_30, .int (Av 1), .int (Av 2), .int (Av 3), .int (Av 4), .int vy_31, .ref (Aa 1), .ref (Aa 2), .ref (Aa 3), .ref (Aa 4), .ref (Aa 5), .ref (Aa 6), .ref (Aa 7), .ref (Aa 8)])), ((Aa 1), .inl (tc 0, 10, .inl (Af 1))), ((Aa 2), .inl (tc 0, 10, .inl (Af 2))), ((Aa 3), .inl (tc 0, 6, .inl sv_46)), ((Aa 4), .inl (tc 0, 6, .inl (Af 4))), ((Aa 5), .inl (tc 0, 6, .inl (Af 5))), ((Aa 6), .inl (tc 0, 6, .inl vy_33)), ((Aa 7), .inl (tc 0, 6, .inl vy_35)), ((Aa 8), .inl (tc 0, 6, .inl vy_34))] := hD
          refine lv_aload_n hx hb dX9_goThroughDay_188 rfl (lv_at hl 5 rfl) ?_
          refine gf_X9_24 hx hb hts hown hK hP 3 rfl rfl dX9_goThroughDay_189 ?_
          refine lv_bipush (v := 7) hx hb dX9_goThroughDay_192 (by decide) ?_
          refine lv_irem hx hb dX9_goThroughDay_194 (by decide) ?_
          refine lv_topi (fun x_47 ex_47 => ?_)
          refine lv_bipush (v := 6) hx hb dX9_goThroughDay_195 (by decide) ?_
          refine lv_icmp_ne (tgt := 218) hx hb dX9_goThroughDay_197 (by decide) (fun c_48 => ?_) (fun c_48 => ?_)
          · skip
            refine lv_aload_n hx hb dX9_goThroughDay_218 rfl (lv_at hl 5 rfl) ?_
            refine lv_dup hx hb dX9_goThroughDay_219 rfl ?_
            refine gf_X9_24 hx hb hts hown hK hP 3 rfl rfl dX9_goThroughDay_220 ?_
            refine lv_iconst (v := 1) hx hb dX9_goThroughDay_223 (by decide) ?_
            refine lv_iadd hx hb dX9_goThroughDay_224 ?_
            refine lv_topi (fun x_49 ex_49 => ?_)
            refine pf_X9_24 hx hb hts hown hK hP hD hS 3 rfl (Nat.le_of_ble_eq_true rfl) rfl rfl dX9_goThroughDay_225 (fun H locs hP hD hS => ?_)
            have hP : va_P D classes [((Ra 0), .inr (6, [.ref (Ra 1), .ref (Ra 2)])), ((Ra 1), .inl (tc 0, Rn, .inl (Rf 1))), ((Ra 2), .inl (tc 1, 64, .inr (.inl vy_28))), ((Aa 0), .inr (9, [.int vy_30, .int (Av 1), .int (Av 2), .int (Av 3), .int x_49, .int vy_31, .ref (Aa 1), .ref (Aa 2), .ref (Aa 3), .ref (Aa 4), .ref (Aa 5), .ref (Aa 6), .ref (Aa 7), .ref (Aa 8)])), ((Aa 1), .inl (tc 0, 10, .inl (Af 1))), ((Aa 2), .inl (tc 0, 10, .inl (Af 2))), ((Aa 3), .inl (tc 0, 6, .inl sv_46)), ((Aa 4), .inl (tc 0, 6, .inl (Af 4))), ((Aa 5), .inl (tc 0, 6, .inl (Af 5))), ((Aa 6), .inl (tc 0, 6, .inl vy_33)), ((Aa 7), .inl (tc 0, 6, .inl vy_35)), ((Aa 8), .inl (tc 0, 6, .inl vy_34))] H := hP
            have hD : va_D A [((Ra 0), .inr (6, [.ref (Ra 1), .ref (Ra 2)])), ((Ra 1), .inl (tc 0, Rn, .inl (Rf 1))), ((Ra 2), .inl (tc 1, 64, .inr (.inl vy_28))), ((Aa 0), .inr (9, [.int vy_30, .int (Av 1), .int (Av 2), .int (Av 3), .int x_49, .int vy_31, .ref (Aa 1), .ref (Aa 2), .ref (Aa 3), .ref (Aa 4), .ref (Aa 5), .ref (Aa 6), .ref (Aa 7), .ref (Aa 8)])), ((Aa 1), .inl (tc 0, 10, .inl (Af 1))), ((Aa 2), .inl (tc 0, 10, .inl (Af 2))), ((Aa 3), .inl (tc 0, 6, .inl sv_46)), ((Aa 4), .inl (tc 0, 6, .inl (Af 4))), ((Aa 5), .inl (tc 0, 6, .inl (Af 5))), ((Aa 6), .inl (tc 0, 6, .inl vy_33)), ((Aa 7), .inl (tc 0, 6, .inl vy_35)), ((Aa 8), .inl (tc 0, 6, .inl vy_34))] := hD
            refine lv_iload hx hb dX9_goThroughDay_228 (lv_at hl 1 rfl) ?_
            exact retI (v := vy_29) hx hb hr hlk (rfl) hP hD hS (vy_30, x_49, vy_31, sv_46, vy_33, vy_35, vy_34, vy_28) ⟨_, rfl, trivial⟩ [3, 4, 5, 6, 7, 8, 9, 10, 11, 0, 1, 2] rfl rfl dX9_goThroughDay_230 (Nat.le_of_ble_eq_true rfl) (Nat.le_of_ble_eq_true rfl) rfl
          · skip
            refine lv_aload_n hx hb dX9_goThroughDay_200 rfl (lv_at hl 5 rfl) ?_
            refine lv_bipush (v := 99) hx hb dX9_goThroughDay_201 (by decide) ?_
            refine lv_aload_n hx hb dX9_goThroughDay_203 rfl (lv_at hl 5 rfl) ?_
            refine gf_X9_9 hx hb hts hown hK hP 3 rfl rfl dX9_goThroughDay_204 ?_
            refine lv_aload_n hx hb dX9_goThroughDay_207 rfl (lv_at hl 5 rfl) ?_
            refine gf_X9_15 hx hb hts hown hK hP 3 rfl rfl dX9_goThroughDay_208 ?_
            refine lv_iadd hx hb dX9_goThroughDay_211 ?_
            refine lv_topi (fun x_50 ex_50 => ?_)
            refine va_mmin hx hb (hml.trans hl.1.symm) hown (hts _ k_780) (hts _ k_680) (hts _ k_114) (hts _ k_681) (Nat.le_of_ble_eq_true rfl) (Nat.le_of_ble_eq_true rfl) (Nat.le_of_ble_eq_true rfl) (Nat.le_of_ble_eq_true rfl) dX9_goThroughDay_212 ?_
            refine lv_topi (fun x_51 ex_51 => ?_)
            have mx_51 := imin_f ex_51
            rw [show (99 : Int32).toInt = 99 by decide] at mx_51
            refine pf_X9_9 hx hb hts hown hK hP hD hS 3 rfl (Nat.le_of_ble_eq_true rfl) rfl rfl dX9_goThroughDay_215 (fun H locs hP hD hS => ?_)
            have hP : va_P D classes [((Ra 0), .inr (6, [.ref (Ra 1), .ref (Ra 2)])), ((Ra 1), .inl (tc 0, Rn, .inl (Rf 1))), ((Ra 2), .inl (tc 1, 64, .inr (.inl vy_28))), ((Aa 0), .inr (9, [.int x_51, .int (Av 1), .int (Av 2), .int (Av 3), .int (Av 4), .int vy_31, .ref (Aa 1), .ref (Aa 2), .ref (Aa 3), .ref (Aa 4), .ref (Aa 5), .ref (Aa 6), .ref (Aa 7), .ref (Aa 8)])), ((Aa 1), .inl (tc 0, 10, .inl (Af 1))), ((Aa 2), .inl (tc 0, 10, .inl (Af 2))), ((Aa 3), .inl (tc 0, 6, .inl sv_46)), ((Aa 4), .inl (tc 0, 6, .inl (Af 4))), ((Aa 5), .inl (tc 0, 6, .inl (Af 5))), ((Aa 6), .inl (tc 0, 6, .inl vy_33)), ((Aa 7), .inl (tc 0, 6, .inl vy_35)), ((Aa 8), .inl (tc 0, 6, .inl vy_34))] H := hP
            have hD : va_D A [((Ra 0), .inr (6, [.ref (Ra 1), .ref (Ra 2)])), ((Ra 1), .inl (tc 0, Rn, .inl (Rf 1))), ((Ra 2), .inl (tc 1, 64, .inr (.inl vy_28))), ((Aa 0), .inr (9, [.int x_51, .int (Av 1), .int (Av 2), .int (Av 3), .int (Av 4), .int vy_31, .ref (Aa 1), .ref (Aa 2), .ref (Aa 3), .ref (Aa 4), .ref (Aa 5), .ref (Aa 6), .ref (Aa 7), .ref (Aa 8)])), ((Aa 1), .inl (tc 0, 10, .inl (Af 1))), ((Aa 2), .inl (tc 0, 10, .inl (Af 2))), ((Aa 3), .inl (tc 0, 6, .inl sv_46)), ((Aa 4), .inl (tc 0, 6, .inl (Af 4))), ((Aa 5), .inl (tc 0, 6, .inl (Af 5))), ((Aa 6), .inl (tc 0, 6, .inl vy_33)), ((Aa 7), .inl (tc 0, 6, .inl vy_35)), ((Aa 8), .inl (tc 0, 6, .inl vy_34))] := hD
            refine lv_aload_n hx hb dX9_goThroughDay_218 rfl (lv_at hl 5 rfl) ?_
            refine lv_dup hx hb dX9_goThroughDay_219 rfl ?_
            refine gf_X9_24 hx hb hts hown hK hP 3 rfl rfl dX9_goThroughDay_220 ?_
            refine lv_iconst (v := 1) hx hb dX9_goThroughDay_223 (by decide) ?_
            refine lv_iadd hx hb dX9_goThroughDay_224 ?_
            refine lv_topi (fun x_52 ex_52 => ?_)
            refine pf_X9_24 hx hb hts hown hK hP hD hS 3 rfl (Nat.le_of_ble_eq_true rfl) rfl rfl dX9_goThroughDay_225 (fun H locs hP hD hS => ?_)
            have hP : va_P D classes [((Ra 0), .inr (6, [.ref (Ra 1), .ref (Ra 2)])), ((Ra 1), .inl (tc 0, Rn, .inl (Rf 1))), ((Ra 2), .inl (tc 1, 64, .inr (.inl vy_28))), ((Aa 0), .inr (9, [.int x_51, .int (Av 1), .int (Av 2), .int (Av 3), .int x_52, .int vy_31, .ref (Aa 1), .ref (Aa 2), .ref (Aa 3), .ref (Aa 4), .ref (Aa 5), .ref (Aa 6), .ref (Aa 7), .ref (Aa 8)])), ((Aa 1), .inl (tc 0, 10, .inl (Af 1))), ((Aa 2), .inl (tc 0, 10, .inl (Af 2))), ((Aa 3), .inl (tc 0, 6, .inl sv_46)), ((Aa 4), .inl (tc 0, 6, .inl (Af 4))), ((Aa 5), .inl (tc 0, 6, .inl (Af 5))), ((Aa 6), .inl (tc 0, 6, .inl vy_33)), ((Aa 7), .inl (tc 0, 6, .inl vy_35)), ((Aa 8), .inl (tc 0, 6, .inl vy_34))] H := hP
            have hD : va_D A [((Ra 0), .inr (6, [.ref (Ra 1), .ref (Ra 2)])), ((Ra 1), .inl (tc 0, Rn, .inl (Rf 1))), ((Ra 2), .inl (tc 1, 64, .inr (.inl vy_28))), ((Aa 0), .inr (9, [.int x_51, .int (Av 1), .int (Av 2), .int (Av 3), .int x_52, .int vy_31, .ref (Aa 1), .ref (Aa 2), .ref (Aa 3), .ref (Aa 4), .ref (Aa 5), .ref (Aa 6), .ref (Aa 7), .ref (Aa 8)])), ((Aa 1), .inl (tc 0, 10, .inl (Af 1))), ((Aa 2), .inl (tc 0, 10, .inl (Af 2))), ((Aa 3), .inl (tc 0, 6, .inl sv_46)), ((Aa 4), .inl (tc 0, 6, .inl (Af 4))), ((Aa 5), .inl (tc 0, 6, .inl (Af 5))), ((Aa 6), .inl (tc 0, 6, .inl vy_33)), ((Aa 7), .inl (tc 0, 6, .inl vy_35)), ((Aa 8), .inl (tc 0, 6, .inl vy_34))] := hD
            refine lv_iload hx hb dX9_goThroughDay_228 (lv_at hl 1 rfl) ?_
            exact retI (v := vy_29) hx hb hr hlk (rfl) hP hD hS (x_51, x_52, vy_31, sv_46, vy_33, vy_35, vy_34, vy_28) ⟨_, rfl, trivial⟩ [3, 4, 5, 6, 7, 8, 9, 10, 11, 0, 1, 2] rfl rfl dX9_goThroughDay_230 (Nat.le_of_ble_eq_true rfl) (Nat.le_of_ble_eq_true rfl) rfl
        · skip
          refine lv_iload hx hb dX9_goThroughDay_53 (lv_at hl 0 rfl) ?_
          refine lv_bipush (v := 6) hx hb dX9_goThroughDay_55 (by decide) ?_
          refine lv_icmp_ge (tgt := 183) hx hb dX9_goThroughDay_57 (by decide) (fun c_53 => ?_) (fun c_53 => ?_)
          · skip
            refine lv_aload_n hx hb dX9_goThroughDay_183 rfl (lv_at hl 5 rfl) ?_
            refine lv_iload_n hx hb dX9_goThroughDay_184 rfl (lv_at hl 4 rfl) ?_
            refine cV (a := (Aa 0)) (As := [.int r_4]) (rest := []) (wr := [((Ra 0), .inr (6, [.ref (Ra 1), .ref (Ra 2)])), ((Ra 1), .inl (tc 0, Rn, .inl (Rf 1))), ((Ra 2), .inl (tc 1, 64, .inr (.inl vy_28)))]) ⟨hx, hb, hml, hown, hts⟩ hK hX hA (cu_X9_changeTempers l D tc sk (Aa 0) (Aa 1) (Aa 2) (Aa 3) (Aa 4) (Aa 5) (Aa 6) (Aa 7) (Aa 8) vy_30 (Av 1) (Av 2) (Av 3) (Av 4) vy_31 (Af 1) (Af 2) vy_32 (Af 4) (Af 5) vy_33 vy_35 vy_34 r_4) k_779 k_776 k_778 k_15 k_98 pl_X9_changeTempers ⟨Nat.le_of_ble_eq_true rfl, Nat.le_of_ble_eq_true rfl⟩ rfl rfl (va_recv hK hP (ci := 9) (q0 := 3) rfl rfl) hP hD hS [3, 4, 5, 6, 7, 8, 9, 10, 11] [0, 1, 2] rfl rfl rfl rfl rfl (by decide) rfl hl.1 rfl (Nat.le_of_ble_eq_true rfl) dX9_goThroughDay_185 ⟨Nat.le_of_ble_eq_true rfl, Nat.le_of_ble_eq_true rfl⟩ (fun v_54 u_55 H locs hv_56 hP hD hS => ?_)
            obtain ⟨sv_57, rfl⟩ : ∃ z, z = u_55 := ⟨_, rfl⟩
            obtain rfl : v_54 = none := hv_56
            refine W.eq (g2 := F0 m 188 ls []) rfl ?_
            have hP : va_P D classes [((Ra 0), .inr (6, [.ref (Ra 1), .ref (Ra 2)])), ((Ra 1), .inl (tc 0, Rn, .inl (Rf 1))), ((Ra 2), .inl (tc 1, 64, .inr (.inl vy_28))), ((Aa 0), .inr (9, [.int vy_30, .int (Av 1), .int (Av 2), .int (Av 3), .int (Av 4), .int vy_31, .ref (Aa 1), .ref (Aa 2), .ref (Aa 3), .ref (Aa 4), .ref (Aa 5), .ref (Aa 6), .ref (Aa 7), .ref (Aa 8)])), ((Aa 1), .inl (tc 0, 10, .inl (Af 1))), ((Aa 2), .inl (tc 0, 10, .inl (Af 2))), ((Aa 3), .inl (tc 0, 6, .inl sv_57)), ((Aa 4), .inl (tc 0, 6, .inl (Af 4))), ((Aa 5), .inl (tc 0, 6, .inl (Af 5))), ((Aa 6), .inl (tc 0, 6, .inl vy_33)), ((Aa 7), .inl (tc 0, 6, .inl vy_35)), ((Aa 8), .inl (tc 0, 6, .inl vy_34))] H := hP
            have hD : va_D A [((Ra 0), .inr (6, [.ref (Ra 1), .ref (Ra 2)])), ((Ra 1), .inl (tc 0, Rn, .inl (Rf 1))), ((Ra 2), .inl (tc 1, 64, .inr (.inl vy_28))), ((Aa 0), .inr (9, [.int vy_30, .int (Av 1), .int (Av 2), .int (Av 3), .int (Av 4), .int vy_31, .ref (Aa 1), .ref (Aa 2), .ref (Aa 3), .ref (Aa 4), .ref (Aa 5), .ref (Aa 6), .ref (Aa 7), .ref (Aa 8)])), ((Aa 1), .inl (tc 0, 10, .inl (Af 1))), ((Aa 2), .inl (tc 0, 10, .inl (Af 2))), ((Aa 3), .inl (tc 0, 6, .inl sv_57)), ((Aa 4), .inl (tc 0, 6, .inl (Af 4))), ((Aa 5), .inl (tc 0, 6, .inl (Af 5))), ((Aa 6), .inl (tc 0, 6, .inl vy_33)), ((Aa 7), .inl (tc 0, 6, .inl vy_35)), ((Aa 8), .inl (tc 0, 6, .inl vy_34))] := hD
            refine lv_aload_n hx hb dX9_goThroughDay_188 rfl (lv_at hl 5 rfl) ?_
            refine gf_X9_24 hx hb hts hown hK hP 3 rfl rfl dX9_goThroughDay_189 ?_
            refine lv_bipush (v := 7) hx hb dX9_goThroughDay_192 (by decide) ?_
            refine lv_irem hx hb dX9_goThroughDay_194 (by decide) ?_
            refine lv_topi (fun x_58 ex_58 => ?_)
            refine lv_bipush (v := 6) hx hb dX9_goThroughDay_195 (by decide) ?_
            refine lv_icmp_ne (tgt := 218) hx hb dX9_goThroughDay_197 (by decide) (fun c_59 => ?_) (fun c_59 => ?_)
            · skip
              refine lv_aload_n hx hb dX9_goThroughDay_218 rfl (lv_at hl 5 rfl) ?_
              refine lv_dup hx hb dX9_goThroughDay_219 rfl ?_
              refine gf_X9_24 hx hb hts hown hK hP 3 rfl rfl dX9_goThroughDay_220 ?_
              refine lv_iconst (v := 1) hx hb dX9_goThroughDay_223 (by decide) ?_
              refine lv_iadd hx hb dX9_goThroughDay_224 ?_
              refine lv_topi (fun x_60 ex_60 => ?_)
              refine pf_X9_24 hx hb hts hown hK hP hD hS 3 rfl (Nat.le_of_ble_eq_true rfl) rfl rfl dX9_goThroughDay_225 (fun H locs hP hD hS => ?_)
              have hP : va_P D classes [((Ra 0), .inr (6, [.ref (Ra 1), .ref (Ra 2)])), ((Ra 1), .inl (tc 0, Rn, .inl (Rf 1))), ((Ra 2), .inl (tc 1, 64, .inr (.inl vy_28))), ((Aa 0), .inr (9, [.int vy_30, .int (Av 1), .int (Av 2), .int (Av 3), .int x_60, .int vy_31, .ref (Aa 1), .ref (Aa 2), .ref (Aa 3), .ref (Aa 4), .ref (Aa 5), .ref (Aa 6), .ref (Aa 7), .ref (Aa 8)])), ((Aa 1), .inl (tc 0, 10, .inl (Af 1))), ((Aa 2), .inl (tc 0, 10, .inl (Af 2))), ((Aa 3), .inl (tc 0, 6, .inl sv_57)), ((Aa 4), .inl (tc 0, 6, .inl (Af 4))), ((Aa 5), .inl (tc 0, 6, .inl (Af 5))), ((Aa 6), .inl (tc 0, 6, .inl vy_33)), ((Aa 7), .inl (tc 0, 6, .inl vy_35)), ((Aa 8), .inl (tc 0, 6, .inl vy_34))] H := hP
              have hD : va_D A [((Ra 0), .inr (6, [.ref (Ra 1), .ref (Ra 2)])), ((Ra 1), .inl (tc 0, Rn, .inl (Rf 1))), ((Ra 2), .inl (tc 1, 64, .inr (.inl vy_28))), ((Aa 0), .inr (9, [.int vy_30, .int (Av 1), .int (Av 2), .int (Av 3), .int x_60, .int vy_31, .ref (Aa 1), .ref (Aa 2), .ref (Aa 3), .ref (Aa 4), .ref (Aa 5), .ref (Aa 6), .ref (Aa 7), .ref (Aa 8)])), ((Aa 1), .inl (tc 0, 10, .inl (Af 1))), ((Aa 2), .inl (tc 0, 10, .inl (Af 2))), ((Aa 3), .inl (tc 0, 6, .inl sv_57)), ((Aa 4), .inl (tc 0, 6, .inl (Af 4))), ((Aa 5), .inl (tc 0, 6, .inl (Af 5))), ((Aa 6), .inl (tc 0, 6, .inl vy_33)), ((Aa 7), .inl (tc 0, 6, .inl vy_35)), ((Aa 8), .inl (tc 0, 6, .inl vy_34))] := hD
              refine lv_iload hx hb dX9_goThroughDay_228 (lv_at hl 1 rfl) ?_
              exact retI (v := vy_29) hx hb hr hlk (rfl) hP hD hS (vy_30, x_60, vy_31, sv_57, vy_33, vy_35, vy_34, vy_28) ⟨_, rfl, trivial⟩ [3, 4, 5, 6, 7, 8, 9, 10, 11, 0, 1, 2] rfl rfl dX9_goThroughDay_230 (Nat.le_of_ble_eq_true rfl) (Nat.le_of_ble_eq_true rfl) rfl
            · skip
              refine lv_aload_n hx hb dX9_goThroughDay_200 rfl (lv_at hl 5 rfl) ?_
              refine lv_bipush (v := 99) hx hb dX9_goThroughDay_201 (by decide) ?_
              refine lv_aload_n hx hb dX9_goThroughDay_203 rfl (lv_at hl 5 rfl) ?_
              refine gf_X9_9 hx hb hts hown hK hP 3 rfl rfl dX9_goThroughDay_204 ?_
              refine lv_aload_n hx hb dX9_goThroughDay_207 rfl (lv_at hl 5 rfl) ?_
              refine gf_X9_15 hx hb hts hown hK hP 3 rfl rfl dX9_goThroughDay_208 ?_
              refine lv_iadd hx hb dX9_goThroughDay_211 ?_
              refine lv_topi (fun x_61 ex_61 => ?_)
              refine va_mmin hx hb (hml.trans hl.1.symm) hown (hts _ k_780) (hts _ k_680) (hts _ k_114) (hts _ k_681) (Nat.le_of_ble_eq_true rfl) (Nat.le_of_ble_eq_true rfl) (Nat.le_of_ble_eq_true rfl) (Nat.le_of_ble_eq_true rfl) dX9_goThroughDay_212 ?_
              refine lv_topi (fun x_62 ex_62 => ?_)
              have mx_62 := imin_f ex_62
              rw [show (99 : Int32).toInt = 99 by decide] at mx_62
              refine pf_X9_9 hx hb hts hown hK hP hD hS 3 rfl (Nat.le_of_ble_eq_true rfl) rfl rfl dX9_goThroughDay_215 (fun H locs hP hD hS => ?_)
              have hP : va_P D classes [((Ra 0), .inr (6, [.ref (Ra 1), .ref (Ra 2)])), ((Ra 1), .inl (tc 0, Rn, .inl (Rf 1))), ((Ra 2), .inl (tc 1, 64, .inr (.inl vy_28))), ((Aa 0), .inr (9, [.int x_62, .int (Av 1), .int (Av 2), .int (Av 3), .int (Av 4), .int vy_31, .ref (Aa 1), .ref (Aa 2), .ref (Aa 3), .ref (Aa 4), .ref (Aa 5), .ref (Aa 6), .ref (Aa 7), .ref (Aa 8)])), ((Aa 1), .inl (tc 0, 10, .inl (Af 1))), ((Aa 2), .inl (tc 0, 10, .inl (Af 2))), ((Aa 3), .inl (tc 0, 6, .inl sv_57)), ((Aa 4), .inl (tc 0, 6, .inl (Af 4))), ((Aa 5), .inl (tc 0, 6, .inl (Af 5))), ((Aa 6), .inl (tc 0, 6, .inl vy_33)), ((Aa 7), .inl (tc 0, 6, .inl vy_35)), ((Aa 8), .inl (tc 0, 6, .inl vy_34))] H := hP
              have hD : va_D A [((Ra 0), .inr (6, [.ref (Ra 1), .ref (Ra 2)])), ((Ra 1), .inl (tc 0, Rn, .inl (Rf 1))), ((Ra 2), .inl (tc 1, 64, .inr (.inl vy_28))), ((Aa 0), .inr (9, [.int x_62, .int (Av 1), .int (Av 2), .int (Av 3), .int (Av 4), .int vy_31, .ref (Aa 1), .ref (Aa 2), .ref (Aa 3), .ref (Aa 4), .ref (Aa 5), .ref (Aa 6), .ref (Aa 7), .ref (Aa 8)])), ((Aa 1), .inl (tc 0, 10, .inl (Af 1))), ((Aa 2), .inl (tc 0, 10, .inl (Af 2))), ((Aa 3), .inl (tc 0, 6, .inl sv_57)), ((Aa 4), .inl (tc 0, 6, .inl (Af 4))), ((Aa 5), .inl (tc 0, 6, .inl (Af 5))), ((Aa 6), .inl (tc 0, 6, .inl vy_33)), ((Aa 7), .inl (tc 0, 6, .inl vy_35)), ((Aa 8), .inl (tc 0, 6, .inl vy_34))] := hD
              refine lv_aload_n hx hb dX9_goThroughDay_218 rfl (lv_at hl 5 rfl) ?_
              refine lv_dup hx hb dX9_goThroughDay_219 rfl ?_
              refine gf_X9_24 hx hb hts hown hK hP 3 rfl rfl dX9_goThroughDay_220 ?_
              refine lv_iconst (v := 1) hx hb dX9_goThroughDay_223 (by decide) ?_
              refine lv_iadd hx hb dX9_goThroughDay_224 ?_
              refine lv_topi (fun x_63 ex_63 => ?_)
              refine pf_X9_24 hx hb hts hown hK hP hD hS 3 rfl (Nat.le_of_ble_eq_true rfl) rfl rfl dX9_goThroughDay_225 (fun H locs hP hD hS => ?_)
              have hP : va_P D classes [((Ra 0), .inr (6, [.ref (Ra 1), .ref (Ra 2)])), ((Ra 1), .inl (tc 0, Rn, .inl (Rf 1))), ((Ra 2), .inl (tc 1, 64, .inr (.inl vy_28))), ((Aa 0), .inr (9, [.int x_62, .int (Av 1), .int (Av 2), .int (Av 3), .int x_63, .int vy_31, .ref (Aa 1), .ref (Aa 2), .ref (Aa 3), .ref (Aa 4), .ref (Aa 5), .ref (Aa 6), .ref (Aa 7), .ref (Aa 8)])), ((Aa 1), .inl (tc 0, 10, .inl (Af 1))), ((Aa 2), .inl (tc 0, 10, .inl (Af 2))), ((Aa 3), .inl (tc 0, 6, .inl sv_57)), ((Aa 4), .inl (tc 0, 6, .inl (Af 4))), ((Aa 5), .inl (tc 0, 6, .inl (Af 5))), ((Aa 6), .inl (tc 0, 6, .inl vy_33)), ((Aa 7), .inl (tc 0, 6, .inl vy_35)), ((Aa 8), .inl (tc 0, 6, .inl vy_34))] H := hP
              have hD : va_D A [((Ra 0), .inr (6, [.ref (Ra 1), .ref (Ra 2)])), ((Ra 1), .inl (tc 0, Rn, .inl (Rf 1))), ((Ra 2), .inl (tc 1, 64, .inr (.inl vy_28))), ((Aa 0), .inr (9, [.int x_62, .int (Av 1), .int (Av 2), .int (Av 3), .int x_63, .int vy_31, .ref (Aa 1), .ref (Aa 2), .ref (Aa 3), .ref (Aa 4), .ref (Aa 5), .ref (Aa 6), .ref (Aa 7), .ref (Aa 8)])), ((Aa 1), .inl (tc 0, 10, .inl (Af 1))), ((Aa 2), .inl (tc 0, 10, .inl (Af 2))), ((Aa 3), .inl (tc 0, 6, .inl sv_57)), ((Aa 4), .inl (tc 0, 6, .inl (Af 4))), ((Aa 5), .inl (tc 0, 6, .inl (Af 5))), ((Aa 6), .inl (tc 0, 6, .inl vy_33)), ((Aa 7), .inl (tc 0, 6, .inl vy_35)), ((Aa 8), .inl (tc 0, 6, .inl vy_34))] := hD
              refine lv_iload hx hb dX9_goThroughDay_228 (lv_at hl 1 rfl) ?_
              exact retI (v := vy_29) hx hb hr hlk (rfl) hP hD hS (x_62, x_63, vy_31, sv_57, vy_33, vy_35, vy_34, vy_28) ⟨_, rfl, trivial⟩ [3, 4, 5, 6, 7, 8, 9, 10, 11, 0, 1, 2] rfl rfl dX9_goThroughDay_230 (Nat.le_of_ble_eq_true rfl) (Nat.le_of_ble_eq_true rfl) rfl
          · skip
            refine lv_aload_n hx hb dX9_goThroughDay_60 rfl (lv_at hl 5 rfl) ?_
            refine lv_iload hx hb dX9_goThroughDay_61 (lv_at hl 0 rfl) ?_
            refine cV (a := (Aa 0)) (As := [.int vy_27]) (rest := []) (wr := [((Ra 0), .inr (6, [.ref (Ra 1), .ref (Ra 2)])), ((Ra 1), .inl (tc 0, Rn, .inl (Rf 1))), ((Ra 2), .inl (tc 1, 64, .inr (.inl vy_28)))]) ⟨hx, hb, hml, hown, hts⟩ hK hX hA (cu_X9_canBuy l D tc sk (Aa 0) (Aa 1) (Aa 2) (Aa 3) (Aa 4) (Aa 5) (Aa 6) (Aa 7) (Aa 8) vy_30 (Av 1) (Av 2) (Av 3) (Av 4) vy_31 (Af 1) (Af 2) vy_32 (Af 4) (Af 5) vy_33 vy_35 vy_34 vy_27) k_752 k_749 k_751 k_14 k_98 pl_X9_canBuy ⟨Nat.le_of_ble_eq_true rfl, Nat.le_of_ble_eq_true rfl⟩ rfl rfl (va_recv hK hP (ci := 9) (q0 := 3) rfl rfl) hP hD hS [3, 4, 5, 6, 7, 8, 9, 10, 11] [0, 1, 2] rfl rfl rfl rfl rfl (by decide) rfl hl.1 rfl (Nat.le_of_ble_eq_true rfl) dX9_goThroughDay_63 ⟨Nat.le_of_ble_eq_true rfl, Nat.le_of_ble_eq_true rfl⟩ (fun v_64 u_65 H locs hv_66 hP hD hS => ?_)
            obtain ⟨r_67, rfl, he_68⟩ := hv_66
            have he_68 : ((r_67.toInt = 0 ∨ r_67.toInt = 1)) := he_68
            refine W.eq (g2 := F0 m 66 ls [.int r_67]) rfl ?_
            have hP : va_P D classes [((Ra 0), .inr (6, [.ref (Ra 1), .ref (Ra 2)])), ((Ra 1), .inl (tc 0, Rn, .inl (Rf 1))), ((Ra 2), .inl (tc 1, 64, .inr (.inl vy_28))), ((Aa 0), .inr (9, [.int vy_30, .int (Av 1), .int (Av 2), .int (Av 3), .int (Av 4), .int vy_31, .ref (Aa 1), .ref (Aa 2), .ref (Aa 3), .ref (Aa 4), .ref (Aa 5), .ref (Aa 6), .ref (Aa 7), .ref (Aa 8)])), ((Aa 1), .inl (tc 0, 10, .inl (Af 1))), ((Aa 2), .inl (tc 0, 10, .inl (Af 2))), ((Aa 3), .inl (tc 0, 6, .inl vy_32)), ((Aa 4), .inl (tc 0, 6, .inl (Af 4))), ((Aa 5), .inl (tc 0, 6, .inl (Af 5))), ((Aa 6), .inl (tc 0, 6, .inl vy_33)), ((Aa 7), .inl (tc 0, 6, .inl vy_35)), ((Aa 8), .inl (tc 0, 6, .inl vy_34))] H := hP
            have hD : va_D A [((Ra 0), .inr (6, [.ref (Ra 1), .ref (Ra 2)])), ((Ra 1), .inl (tc 0, Rn, .inl (Rf 1))), ((Ra 2), .inl (tc 1, 64, .inr (.inl vy_28))), ((Aa 0), .inr (9, [.int vy_30, .int (Av 1), .int (Av 2), .int (Av 3), .int (Av 4), .int vy_31, .ref (Aa 1), .ref (Aa 2), .ref (Aa 3), .ref (Aa 4), .ref (Aa 5), .ref (Aa 6), .ref (Aa 7), .ref (Aa 8)])), ((Aa 1), .inl (tc 0, 10, .inl (Af 1))), ((Aa 2), .inl (tc 0, 10, .inl (Af 2))), ((Aa 3), .inl (tc 0, 6, .inl vy_32)), ((Aa 4), .inl (tc 0, 6, .inl (Af 4))), ((Aa 5), .inl (tc 0, 6, .inl (Af 5))), ((Aa 6), .inl (tc 0, 6, .inl vy_33)), ((Aa 7), .inl (tc 0, 6, .inl vy_35)), ((Aa 8), .inl (tc 0, 6, .inl vy_34))] := hD
            refine lv_if_ne (tgt := 72) hx hb dX9_goThroughDay_66 (by decide) (fun c_69 => ?_) (fun c_69 => ?_)
            · skip
              refine lv_aload_n hx hb dX9_goThroughDay_72 rfl (lv_at hl 6 rfl) ?_
              refine lv_ifnonnull (tgt := 98) hx hb dX9_goThroughDay_73 (by decide) ?_
              refine lv_aload_n hx hb dX9_goThroughDay_98 rfl (lv_at hl 6 rfl) ?_
              refine lv_aload_n hx hb dX9_goThroughDay_99 rfl (lv_at hl 5 rfl) ?_
              refine lv_iload hx hb dX9_goThroughDay_100 (lv_at hl 0 rfl) ?_
              have hh_70 : Rn ≤ 400 := by
                have z_1 := congrArg Int32.toInt c_16
                have z_2 := Int32.lt_iff_toInt_lt.mp (Int32.not_le.mp c_42)
                have z_3 := Int32.lt_iff_toInt_lt.mp (Int32.not_le.mp c_53)
                have z_4 : ¬ (r_67 : Int32).toInt = (0 : Int32).toInt := fun z => c_69 (Int32.toInt_inj.mp z)
                have y_0 : (0 : Int32).toInt = 0 := by decide
                have y_6 : (6 : Int32).toInt = 6 := by decide
                first | assumption | omega
              refine cV (a := (Ra 0)) (As := [.ref (Aa 0), .int vy_27]) (rest := []) (wr := []) ⟨hx, hb, hml, hown, hts⟩ hK hX hA (cu_X6_sumFor l D tc sk (Ra 0) (Ra 1) (Ra 2) (Rf 1) vy_28 Rn (Aa 0) (Aa 1) (Aa 2) (Aa 3) (Aa 4) (Aa 5) (Aa 6) (Aa 7) (Aa 8) vy_30 (Av 1) (Av 2) (Av 3) (Av 4) vy_31 (Af 1) (Af 2) vy_32 (Af 4) (Af 5) vy_33 vy_35 vy_34 vy_27 hh_70) k_756 k_753 k_754 k_755 k_112 pl_X6_sumFor ⟨Nat.le_of_ble_eq_true rfl, Nat.le_of_ble_eq_true rfl⟩ rfl rfl (va_recv hK hP (ci := 6) (q0 := 0) rfl rfl) hP hD hS [0, 1, 2, 3, 4, 5, 6, 7, 8, 9, 10, 11] [] rfl rfl rfl rfl rfl (by decide) rfl hl.1 rfl (Nat.le_of_ble_eq_true rfl) dX9_goThroughDay_102 ⟨Nat.le_of_ble_eq_true rfl, Nat.le_of_ble_eq_true rfl⟩ (fun v_71 u_72 H locs hv_73 hP hD hS => ?_)
              obtain ⟨sv_74, rfl⟩ : ∃ z, z = u_72 := ⟨_, rfl⟩
              obtain ⟨r_75, rfl, he_76⟩ := hv_73
              have he_76 : (True) := he_76
              refine W.eq (g2 := F0 m 105 ls [.long r_75]) rfl ?_
              have hP : va_P D classes [((Ra 0), .inr (6, [.ref (Ra 1), .ref (Ra 2)])), ((Ra 1), .inl (tc 0, Rn, .inl (Rf 1))), ((Ra 2), .inl (tc 1, 64, .inr (.inl sv_74))), ((Aa 0), .inr (9, [.int vy_30, .int (Av 1), .int (Av 2), .int (Av 3), .int (Av 4), .int vy_31, .ref (Aa 1), .ref (Aa 2), .ref (Aa 3), .ref (Aa 4), .ref (Aa 5), .ref (Aa 6), .ref (Aa 7), .ref (Aa 8)])), ((Aa 1), .inl (tc 0, 10, .inl (Af 1))), ((Aa 2), .inl (tc 0, 10, .inl (Af 2))), ((Aa 3), .inl (tc 0, 6, .inl vy_32)), ((Aa 4), .inl (tc 0, 6, .inl (Af 4))), ((Aa 5), .inl (tc 0, 6, .inl (Af 5))), ((Aa 6), .inl (tc 0, 6, .inl vy_33)), ((Aa 7), .inl (tc 0, 6, .inl vy_35)), ((Aa 8), .inl (tc 0, 6, .inl vy_34))] H := hP
              have hD : va_D A [((Ra 0), .inr (6, [.ref (Ra 1), .ref (Ra 2)])), ((Ra 1), .inl (tc 0, Rn, .inl (Rf 1))), ((Ra 2), .inl (tc 1, 64, .inr (.inl sv_74))), ((Aa 0), .inr (9, [.int vy_30, .int (Av 1), .int (Av 2), .int (Av 3), .int (Av 4), .int vy_31, .ref (Aa 1), .ref (Aa 2), .ref (Aa 3), .ref (Aa 4), .ref (Aa 5), .ref (Aa 6), .ref (Aa 7), .ref (Aa 8)])), ((Aa 1), .inl (tc 0, 10, .inl (Af 1))), ((Aa 2), .inl (tc 0, 10, .inl (Af 2))), ((Aa 3), .inl (tc 0, 6, .inl vy_32)), ((Aa 4), .inl (tc 0, 6, .inl (Af 4))), ((Aa 5), .inl (tc 0, 6, .inl (Af 5))), ((Aa 6), .inl (tc 0, 6, .inl vy_33)), ((Aa 7), .inl (tc 0, 6, .inl vy_35)), ((Aa 8), .inl (tc 0, 6, .inl vy_34))] := hD
              refine lv_lconst (v := 0) hx hb dX9_goThroughDay_105 (by decide) ?_
              refine W.lcmp hx hb dX9_goThroughDay_106 ?_
              refine lv_topi (fun x_77 ex_77 => ?_)
              refine lv_if_le (tgt := 114) hx hb dX9_goThroughDay_107 (by decide) (fun c_78 => ?_) (fun c_78 => ?_)
              · skip
                refine lv_iconst (v := 0) hx hb dX9_goThroughDay_114 (by decide) ?_
                refine lv_istore (lv' := [(7, .int 0), (6, .int vy_27), (5, .int vy_29), (4, .int 0), (3, .int r_9), (2, .int r_4), (0, .ref (Aa 0)), (1, .ref (Ra 0))]) hx hb dX9_goThroughDay_115 hl (by decide) rfl (fun ls hl => ?_)
                refine lv_iload hx hb dX9_goThroughDay_117 (lv_at hl 0 rfl) ?_
                refine lv_if_eq (tgt := 157) hx hb dX9_goThroughDay_119 (by decide) (fun c_79 => ?_) (fun c_79 => absurd c_79 (by decide))
                refine lv_iload hx hb dX9_goThroughDay_157 (lv_at hl 0 rfl) ?_
                refine lv_if_eq (tgt := 177) hx hb dX9_goThroughDay_159 (by decide) (fun c_80 => ?_) (fun c_80 => absurd c_80 (by decide))
                obtain ⟨x_81, ex_81⟩ : ∃ y : Int32, y = vy_27 + 1 := ⟨_, rfl⟩
                refine lv_iinc (v := x_81) (lv' := [(6, .int x_81), (7, .int 0), (5, .int vy_29), (4, .int 0), (3, .int r_9), (2, .int r_4), (0, .ref (Aa 0)), (1, .ref (Ra 0))]) hx hb dX9_goThroughDay_177 hl (k := 1) rfl (by rw [ex_81]; rfl) (by decide) rfl (fun ls hl => ?_)
                refine lv_goto (tgt := 44) hx hb dX9_goThroughDay_180 (by decide) ?_
                have hb_82 : 0 ≤ (x_81 : Int32).toInt ∧ (6 - (x_81 : Int32).toInt).toNat < n_36 := by
                  have z_1 := congrArg Int32.toInt c_16
                  have z_2 := Int32.lt_iff_toInt_lt.mp (Int32.not_le.mp c_42)
                  have z_3 := Int32.lt_iff_toInt_lt.mp (Int32.not_le.mp c_53)
                  have z_4 : ¬ (r_67 : Int32).toInt = (0 : Int32).toInt := fun z => c_69 (Int32.toInt_inj.mp z)
                  have z_5 := Int32.le_iff_toInt_le.mp c_78
                  have y_0 : (0 : Int32).toInt = 0 := by decide
                  have y_6 : (6 : Int32).toInt = 6 := by decide
                  have y_1 : (1 : Int32).toInt = 1 := by decide
                  have t_x_81 : x_81.toInt = (vy_27 : Int32).toInt + (1 : Int32).toInt := by rw [ex_81]; exact add_toInt (by omega) (by omega)
                  omega
                exact ih_37 x_81 sv_74 vy_29 vy_30 vy_31 vy_32 vy_33 vy_34 vy_35 _ _ _ hb_82.1 hb_82.2 (hP.sub [0, 1, 2, 3, 4, 5, 6, 7, 8, 9, 10, 11] rfl) (hD.sub [0, 1, 2, 3, 4, 5, 6, 7, 8, 9, 10, 11] rfl rfl) hS (lv_sub hl [0, 2, 3, 4, 5, 6, 7] rfl)
              · skip
                refine lv_iconst (v := 1) hx hb dX9_goThroughDay_110 (by decide) ?_
                refine lv_goto (tgt := 115) hx hb dX9_goThroughDay_111 (by decide) ?_
                refine lv_istore (lv' := [(7, .int 1), (6, .int vy_27), (5, .int vy_29), (4, .int 0), (3, .int r_9), (2, .int r_4), (0, .ref (Aa 0)), (1, .ref (Ra 0))]) hx hb dX9_goThroughDay_115 hl (by decide) rfl (fun ls hl => ?_)
                refine lv_iload hx hb dX9_goThroughDay_117 (lv_at hl 0 rfl) ?_
                refine lv_if_eq (tgt := 157) hx hb dX9_goThroughDay_119 (by decide) (fun c_83 => absurd c_83 (by decide)) (fun c_83 => ?_)
                refine lv_iload hx hb dX9_goThroughDay_122 (lv_at hl 3 rfl) ?_
                refine lv_iload hx hb dX9_goThroughDay_124 (lv_at hl 1 rfl) ?_
                refine lv_ishr hx hb dX9_goThroughDay_126 ?_
                refine lv_topi (fun x_84 ex_84 => ?_)
                refine lv_iconst (v := 1) hx hb dX9_goThroughDay_127 (by decide) ?_
                refine lv_iand hx hb dX9_goThroughDay_128 ?_
                refine lv_topi (fun x_85 ex_85 => ?_)
                refine lv_if_eq (tgt := 157) hx hb dX9_goThroughDay_129 (by decide) (fun c_86 => ?_) (fun c_86 => ?_)
                · skip
                  refine lv_iload hx hb dX9_goThroughDay_157 (lv_at hl 0 rfl) ?_
                  refine lv_if_eq (tgt := 177) hx hb dX9_goThroughDay_159 (by decide) (fun c_87 => absurd c_87 (by decide)) (fun c_87 => ?_)
                  refine lv_aload_n hx hb dX9_goThroughDay_162 rfl (lv_at hl 6 rfl) ?_
                  refine lv_iload hx hb dX9_goThroughDay_163 (lv_at hl 1 rfl) ?_
                  refine cV (a := (Aa 0)) (As := [.int vy_27]) (rest := []) (wr := [((Ra 0), .inr (6, [.ref (Ra 1), .ref (Ra 2)])), ((Ra 1), .inl (tc 0, Rn, .inl (Rf 1))), ((Ra 2), .inl (tc 1, 64, .inr (.inl sv_74)))]) ⟨hx, hb, hml, hown, hts⟩ hK hX hA (cu_X9_handOver l D tc sk (Aa 0) (Aa 1) (Aa 2) (Aa 3) (Aa 4) (Aa 5) (Aa 6) (Aa 7) (Aa 8) vy_30 (Av 1) (Av 2) (Av 3) (Av 4) vy_31 (Af 1) (Af 2) vy_32 (Af 4) (Af 5) vy_33 vy_35 vy_34 vy_27) k_772 k_769 k_770 k_771 k_98 pl_X9_handOver ⟨Nat.le_of_ble_eq_true rfl, Nat.le_of_ble_eq_true rfl⟩ rfl rfl (va_recv hK hP (ci := 9) (q0 := 3) rfl rfl) hP hD hS [3, 4, 5, 6, 7, 8, 9, 10, 11] [0, 1, 2] rfl rfl rfl rfl rfl (by decide) rfl hl.1 rfl (Nat.le_of_ble_eq_true rfl) dX9_goThroughDay_165 ⟨Nat.le_of_ble_eq_true rfl, Nat.le_of_ble_eq_true rfl⟩ (fun v_88 u_89 H locs hv_90 hP hD hS => ?_)
                  obtain ⟨sv_91, sv_92, sv_93, sv_94, sv_95⟩ := u_89
                  obtain rfl : v_88 = none := hv_90
                  refine W.eq (g2 := F0 m 168 ls []) rfl ?_
                  have hP : va_P D classes [((Ra 0), .inr (6, [.ref (Ra 1), .ref (Ra 2)])), ((Ra 1), .inl (tc 0, Rn, .inl (Rf 1))), ((Ra 2), .inl (tc 1, 64, .inr (.inl sv_74))), ((Aa 0), .inr (9, [.int sv_91, .int (Av 1), .int (Av 2), .int (Av 3), .int (Av 4), .int sv_92, .ref (Aa 1), .ref (Aa 2), .ref (Aa 3), .ref (Aa 4), .ref (Aa 5), .ref (Aa 6), .ref (Aa 7), .ref (Aa 8)])), ((Aa 1), .inl (tc 0, 10, .inl (Af 1))), ((Aa 2), .inl (tc 0, 10, .inl (Af 2))), ((Aa 3), .inl (tc 0, 6, .inl sv_93)), ((Aa 4), .inl (tc 0, 6, .inl (Af 4))), ((Aa 5), .inl (tc 0, 6, .inl (Af 5))), ((Aa 6), .inl (tc 0, 6, .inl sv_94)), ((Aa 7), .inl (tc 0, 6, .inl vy_35)), ((Aa 8), .inl (tc 0, 6, .inl sv_95))] H := hP
                  have hD : va_D A [((Ra 0), .inr (6, [.ref (Ra 1), .ref (Ra 2)])), ((Ra 1), .inl (tc 0, Rn, .inl (Rf 1))), ((Ra 2), .inl (tc 1, 64, .inr (.inl sv_74))), ((Aa 0), .inr (9, [.int sv_91, .int (Av 1), .int (Av 2), .int (Av 3), .int (Av 4), .int sv_92, .ref (Aa 1), .ref (Aa 2), .ref (Aa 3), .ref (Aa 4), .ref (Aa 5), .ref (Aa 6), .ref (Aa 7), .ref (Aa 8)])), ((Aa 1), .inl (tc 0, 10, .inl (Af 1))), ((Aa 2), .inl (tc 0, 10, .inl (Af 2))), ((Aa 3), .inl (tc 0, 6, .inl sv_93)), ((Aa 4), .inl (tc 0, 6, .inl (Af 4))), ((Aa 5), .inl (tc 0, 6, .inl (Af 5))), ((Aa 6), .inl (tc 0, 6, .inl sv_94)), ((Aa 7), .inl (tc 0, 6, .inl vy_35)), ((Aa 8), .inl (tc 0, 6, .inl sv_95))] := hD
                  refine lv_iload hx hb dX9_goThroughDay_168 (lv_at hl 2 rfl) ?_
                  refine lv_iconst (v := 1) hx hb dX9_goThroughDay_170 (by decide) ?_
                  refine lv_iload hx hb dX9_goThroughDay_171 (lv_at hl 1 rfl) ?_
                  refine lv_ishl hx hb dX9_goThroughDay_173 ?_
                  refine lv_topi (fun x_96 ex_96 => ?_)
                  refine lv_ior hx hb dX9_goThroughDay_174 ?_
                  refine lv_topi (fun x_97 ex_97 => ?_)
                  refine lv_istore (lv' := [(5, .int x_97), (7, .int 1), (6, .int vy_27), (4, .int 0), (3, .int r_9), (2, .int r_4), (0, .ref (Aa 0)), (1, .ref (Ra 0))]) hx hb dX9_goThroughDay_175 hl (by decide) rfl (fun ls hl => ?_)
                  obtain ⟨x_98, ex_98⟩ : ∃ y : Int32, y = vy_27 + 1 := ⟨_, rfl⟩
                  refine lv_iinc (v := x_98) (lv' := [(6, .int x_98), (5, .int x_97), (7, .int 1), (4, .int 0), (3, .int r_9), (2, .int r_4), (0, .ref (Aa 0)), (1, .ref (Ra 0))]) hx hb dX9_goThroughDay_177 hl (k := 2) rfl (by rw [ex_98]; rfl) (by decide) rfl (fun ls hl => ?_)
                  refine lv_goto (tgt := 44) hx hb dX9_goThroughDay_180 (by decide) ?_
                  have hb_99 : 0 ≤ (x_98 : Int32).toInt ∧ (6 - (x_98 : Int32).toInt).toNat < n_36 := by
                    have z_1 := congrArg Int32.toInt c_16
                    have z_2 := Int32.lt_iff_toInt_lt.mp (Int32.not_le.mp c_42)
                    have z_3 := Int32.lt_iff_toInt_lt.mp (Int32.not_le.mp c_53)
                    have z_4 : ¬ (r_67 : Int32).toInt = (0 : Int32).toInt := fun z => c_69 (Int32.toInt_inj.mp z)
                    have z_5 := Int32.lt_iff_toInt_lt.mp (Int32.not_le.mp c_78)
                    have z_6 := congrArg Int32.toInt c_86
                    have y_0 : (0 : Int32).toInt = 0 := by decide
                    have y_6 : (6 : Int32).toInt = 6 := by decide
                    have y_1 : (1 : Int32).toInt = 1 := by decide
                    have t_x_98 : x_98.toInt = (vy_27 : Int32).toInt + (1 : Int32).toInt := by rw [ex_98]; exact add_toInt (by omega) (by omega)
                    omega
                  exact ih_37 x_98 sv_74 x_97 sv_91 sv_92 sv_93 sv_94 sv_95 vy_35 _ _ _ hb_99.1 hb_99.2 (hP.sub [0, 1, 2, 3, 4, 5, 6, 7, 8, 9, 10, 11] rfl) (hD.sub [0, 1, 2, 3, 4, 5, 6, 7, 8, 9, 10, 11] rfl rfl) hS (lv_sub hl [0, 1, 3, 4, 5, 6, 7] rfl)
                · skip
                  refine lv_aload_n hx hb dX9_goThroughDay_132 rfl (lv_at hl 6 rfl) ?_
                  refine gf_X9_49 hx hb hts hown hK hP 3 rfl rfl dX9_goThroughDay_133 ?_
                  refine lv_iload hx hb dX9_goThroughDay_136 (lv_at hl 1 rfl) ?_
                  refine lv_dup2_11 hx hb dX9_goThroughDay_138 rfl rfl ?_
                  have hi_100 : vp_in vy_27 6 := by
                    have z_1 := congrArg Int32.toInt c_16
                    have z_2 := Int32.lt_iff_toInt_lt.mp (Int32.not_le.mp c_42)
                    have z_3 := Int32.lt_iff_toInt_lt.mp (Int32.not_le.mp c_53)
                    have z_4 : ¬ (r_67 : Int32).toInt = (0 : Int32).toInt := fun z => c_69 (Int32.toInt_inj.mp z)
                    have z_5 := Int32.lt_iff_toInt_lt.mp (Int32.not_le.mp c_78)
                    have z_6 : ¬ (x_85 : Int32).toInt = (0 : Int32).toInt := fun z => c_86 (Int32.toInt_inj.mp z)
                    have y_0 : (0 : Int32).toInt = 0 := by decide
                    have y_6 : (6 : Int32).toInt = 6 := by decide
                    refine vp_in_iff.mpr ⟨?_, ?_⟩ <;> omega
                  refine va_iald hx hb hK hP 10 0 rfl rfl hi_100 dX9_goThroughDay_139 ?_
                  refine lv_topi (fun x_101 ex_101 => ?_)
                  refine lv_iconst (v := 1) hx hb dX9_goThroughDay_140 (by decide) ?_
                  refine lv_iadd hx hb dX9_goThroughDay_141 ?_
                  refine lv_topi (fun x_102 ex_102 => ?_)
                  have hi_103 : vp_in vy_27 6 := by
                    have z_1 := congrArg Int32.toInt c_16
                    have z_2 := Int32.lt_iff_toInt_lt.mp (Int32.not_le.mp c_42)
                    have z_3 := Int32.lt_iff_toInt_lt.mp (Int32.not_le.mp c_53)
                    have z_4 : ¬ (r_67 : Int32).toInt = (0 : Int32).toInt := fun z => c_69 (Int32.toInt_inj.mp z)
                    have z_5 := Int32.lt_iff_toInt_lt.mp (Int32.not_le.mp c_78)
                    have z_6 : ¬ (x_85 : Int32).toInt = (0 : Int32).toInt := fun z => c_86 (Int32.toInt_inj.mp z)
                    have y_0 : (0 : Int32).toInt = 0 := by decide
                    have y_6 : (6 : Int32).toInt = 6 := by decide
                    refine vp_in_iff.mpr ⟨?_, ?_⟩ <;> omega
                  refine st_int hx hb hK hP hD hS 10 0 rfl rfl hi_103 dX9_goThroughDay_142 (fun g_104 H locs eg_104 hP hD hS => ?_)
                  have hP : va_P D classes [((Ra 0), .inr (6, [.ref (Ra 1), .ref (Ra 2)])), ((Ra 1), .inl (tc 0, Rn, .inl (Rf 1))), ((Ra 2), .inl (tc 1, 64, .inr (.inl sv_74))), ((Aa 0), .inr (9, [.int vy_30, .int (Av 1), .int (Av 2), .int (Av 3), .int (Av 4), .int vy_31, .ref (Aa 1), .ref (Aa 2), .ref (Aa 3), .ref (Aa 4), .ref (Aa 5), .ref (Aa 6), .ref (Aa 7), .ref (Aa 8)])), ((Aa 1), .inl (tc 0, 10, .inl (Af 1))), ((Aa 2), .inl (tc 0, 10, .inl (Af 2))), ((Aa 3), .inl (tc 0, 6, .inl vy_32)), ((Aa 4), .inl (tc 0, 6, .inl (Af 4))), ((Aa 5), .inl (tc 0, 6, .inl (Af 5))), ((Aa 6), .inl (tc 0, 6, .inl vy_33)), ((Aa 7), .inl (tc 0, 6, .inl g_104)), ((Aa 8), .inl (tc 0, 6, .inl vy_34))] H := hP
                  have hD : va_D A [((Ra 0), .inr (6, [.ref (Ra 1), .ref (Ra 2)])), ((Ra 1), .inl (tc 0, Rn, .inl (Rf 1))), ((Ra 2), .inl (tc 1, 64, .inr (.inl sv_74))), ((Aa 0), .inr (9, [.int vy_30, .int (Av 1), .int (Av 2), .int (Av 3), .int (Av 4), .int vy_31, .ref (Aa 1), .ref (Aa 2), .ref (Aa 3), .ref (Aa 4), .ref (Aa 5), .ref (Aa 6), .ref (Aa 7), .ref (Aa 8)])), ((Aa 1), .inl (tc 0, 10, .inl (Af 1))), ((Aa 2), .inl (tc 0, 10, .inl (Af 2))), ((Aa 3), .inl (tc 0, 6, .inl vy_32)), ((Aa 4), .inl (tc 0, 6, .inl (Af 4))), ((Aa 5), .inl (tc 0, 6, .inl (Af 5))), ((Aa 6), .inl (tc 0, 6, .inl vy_33)), ((Aa 7), .inl (tc 0, 6, .inl g_104)), ((Aa 8), .inl (tc 0, 6, .inl vy_34))] := hD
                  refine lv_aload_n hx hb dX9_goThroughDay_143 rfl (lv_at hl 6 rfl) ?_
                  refine gf_X9_52 hx hb hts hown hK hP 3 rfl rfl dX9_goThroughDay_144 ?_
                  refine lv_iload hx hb dX9_goThroughDay_147 (lv_at hl 1 rfl) ?_
                  refine lv_aload_n hx hb dX9_goThroughDay_149 rfl (lv_at hl 6 rfl) ?_
                  refine gf_X9_24 hx hb hts hown hK hP 3 rfl rfl dX9_goThroughDay_150 ?_
                  have hi_105 : vp_in vy_27 6 := by
                    have z_1 := congrArg Int32.toInt c_16
                    have z_2 := Int32.lt_iff_toInt_lt.mp (Int32.not_le.mp c_42)
                    have z_3 := Int32.lt_iff_toInt_lt.mp (Int32.not_le.mp c_53)
                    have z_4 : ¬ (r_67 : Int32).toInt = (0 : Int32).toInt := fun z => c_69 (Int32.toInt_inj.mp z)
                    have z_5 := Int32.lt_iff_toInt_lt.mp (Int32.not_le.mp c_78)
                    have z_6 : ¬ (x_85 : Int32).toInt = (0 : Int32).toInt := fun z => c_86 (Int32.toInt_inj.mp z)
                    have y_0 : (0 : Int32).toInt = 0 := by decide
                    have y_6 : (6 : Int32).toInt = 6 := by decide
                    refine vp_in_iff.mpr ⟨?_, ?_⟩ <;> omega
                  refine st_int hx hb hK hP hD hS 11 0 rfl rfl hi_105 dX9_goThroughDay_153 (fun g_106 H locs eg_106 hP hD hS => ?_)
                  have hP : va_P D classes [((Ra 0), .inr (6, [.ref (Ra 1), .ref (Ra 2)])), ((Ra 1), .inl (tc 0, Rn, .inl (Rf 1))), ((Ra 2), .inl (tc 1, 64, .inr (.inl sv_74))), ((Aa 0), .inr (9, [.int vy_30, .int (Av 1), .int (Av 2), .int (Av 3), .int (Av 4), .int vy_31, .ref (Aa 1), .ref (Aa 2), .ref (Aa 3), .ref (Aa 4), .ref (Aa 5), .ref (Aa 6), .ref (Aa 7), .ref (Aa 8)])), ((Aa 1), .inl (tc 0, 10, .inl (Af 1))), ((Aa 2), .inl (tc 0, 10, .inl (Af 2))), ((Aa 3), .inl (tc 0, 6, .inl vy_32)), ((Aa 4), .inl (tc 0, 6, .inl (Af 4))), ((Aa 5), .inl (tc 0, 6, .inl (Af 5))), ((Aa 6), .inl (tc 0, 6, .inl vy_33)), ((Aa 7), .inl (tc 0, 6, .inl g_104)), ((Aa 8), .inl (tc 0, 6, .inl g_106))] H := hP
                  have hD : va_D A [((Ra 0), .inr (6, [.ref (Ra 1), .ref (Ra 2)])), ((Ra 1), .inl (tc 0, Rn, .inl (Rf 1))), ((Ra 2), .inl (tc 1, 64, .inr (.inl sv_74))), ((Aa 0), .inr (9, [.int vy_30, .int (Av 1), .int (Av 2), .int (Av 3), .int (Av 4), .int vy_31, .ref (Aa 1), .ref (Aa 2), .ref (Aa 3), .ref (Aa 4), .ref (Aa 5), .ref (Aa 6), .ref (Aa 7), .ref (Aa 8)])), ((Aa 1), .inl (tc 0, 10, .inl (Af 1))), ((Aa 2), .inl (tc 0, 10, .inl (Af 2))), ((Aa 3), .inl (tc 0, 6, .inl vy_32)), ((Aa 4), .inl (tc 0, 6, .inl (Af 4))), ((Aa 5), .inl (tc 0, 6, .inl (Af 5))), ((Aa 6), .inl (tc 0, 6, .inl vy_33)), ((Aa 7), .inl (tc 0, 6, .inl g_104)), ((Aa 8), .inl (tc 0, 6, .inl g_106))] := hD
                  refine lv_goto (tgt := 177) hx hb dX9_goThroughDay_154 (by decide) ?_
                  obtain ⟨x_107, ex_107⟩ : ∃ y : Int32, y = vy_27 + 1 := ⟨_, rfl⟩
                  refine lv_iinc (v := x_107) (lv' := [(6, .int x_107), (7, .int 1), (5, .int vy_29), (4, .int 0), (3, .int r_9), (2, .int r_4), (0, .ref (Aa 0)), (1, .ref (Ra 0))]) hx hb dX9_goThroughDay_177 hl (k := 1) rfl (by rw [ex_107]; rfl) (by decide) rfl (fun ls hl => ?_)
                  refine lv_goto (tgt := 44) hx hb dX9_goThroughDay_180 (by decide) ?_
                  have hb_108 : 0 ≤ (x_107 : Int32).toInt ∧ (6 - (x_107 : Int32).toInt).toNat < n_36 := by
                    have z_1 := congrArg Int32.toInt c_16
                    have z_2 := Int32.lt_iff_toInt_lt.mp (Int32.not_le.mp c_42)
                    have z_3 := Int32.lt_iff_toInt_lt.mp (Int32.not_le.mp c_53)
                    have z_4 : ¬ (r_67 : Int32).toInt = (0 : Int32).toInt := fun z => c_69 (Int32.toInt_inj.mp z)
                    have z_5 := Int32.lt_iff_toInt_lt.mp (Int32.not_le.mp c_78)
                    have z_6 : ¬ (x_85 : Int32).toInt = (0 : Int32).toInt := fun z => c_86 (Int32.toInt_inj.mp z)
                    have y_0 : (0 : Int32).toInt = 0 := by decide
                    have y_6 : (6 : Int32).toInt = 6 := by decide
                    have y_1 : (1 : Int32).toInt = 1 := by decide
                    have t_x_107 : x_107.toInt = (vy_27 : Int32).toInt + (1 : Int32).toInt := by rw [ex_107]; exact add_toInt (by omega) (by omega)
                    omega
                  exact ih_37 x_107 sv_74 vy_29 vy_30 vy_31 vy_32 vy_33 g_106 g_104 _ _ _ hb_108.1 hb_108.2 (hP.sub [0, 1, 2, 3, 4, 5, 6, 7, 8, 9, 10, 11] rfl) (hD.sub [0, 1, 2, 3, 4, 5, 6, 7, 8, 9, 10, 11] rfl rfl) hS (lv_sub hl [0, 2, 3, 4, 5, 6, 7] rfl)
            · skip
              refine lv_goto (tgt := 177) hx hb dX9_goThroughDay_69 (by decide) ?_
              obtain ⟨x_109, ex_109⟩ : ∃ y : Int32, y = vy_27 + 1 := ⟨_, rfl⟩
              refine lv_iinc (v := x_109) (lv' := [(6, .int x_109), (5, .int vy_29), (4, .int 0), (3, .int r_9), (2, .int r_4), (0, .ref (Aa 0)), (1, .ref (Ra 0))]) hx hb dX9_goThroughDay_177 hl (k := 0) rfl (by rw [ex_109]; rfl) (by decide) rfl (fun ls hl => ?_)
              refine lv_goto (tgt := 44) hx hb dX9_goThroughDay_180 (by decide) ?_
              have hb_110 : 0 ≤ (x_109 : Int32).toInt ∧ (6 - (x_109 : Int32).toInt).toNat < n_36 := by
                have z_1 := congrArg Int32.toInt c_16
                have z_2 := Int32.lt_iff_toInt_lt.mp (Int32.not_le.mp c_42)
                have z_3 := Int32.lt_iff_toInt_lt.mp (Int32.not_le.mp c_53)
                have z_4 := congrArg Int32.toInt c_69
                have y_0 : (0 : Int32).toInt = 0 := by decide
                have y_6 : (6 : Int32).toInt = 6 := by decide
                have y_1 : (1 : Int32).toInt = 1 := by decide
                have t_x_109 : x_109.toInt = (vy_27 : Int32).toInt + (1 : Int32).toInt := by rw [ex_109]; exact add_toInt (by omega) (by omega)
                omega
              exact ih_37 x_109 vy_28 vy_29 vy_30 vy_31 vy_32 vy_33 vy_34 vy_35 _ _ _ hb_110.1 hb_110.2 (hP.sub [0, 1, 2, 3, 4, 5, 6, 7, 8, 9, 10, 11] rfl) (hD.sub [0, 1, 2, 3, 4, 5, 6, 7, 8, 9, 10, 11] rfl rfl) hS (lv_sub hl [0, 1, 2, 3, 4, 5, 6] rfl)
    have h0_111 : 0 ≤ (0 : Int32).toInt := by
      have z_1 := congrArg Int32.toInt c_16
      have y_0 : (0 : Int32).toInt = 0 := by decide
      decide
    exact loop_38 _ 0 (Rg 2) 0 (Av 0) (Av 5) (Af 3) (Af 6) (Af 8) (Af 7) _ _ _ h0_111 (Nat.lt_succ_self _) hP hD hS hl
  · skip
    refine lv_aload_n hx hb dX9_goThroughDay_26 rfl (lv_at hl 2 rfl) ?_
    refine gf_X9_34 hx hb hts hown hK hP 3 rfl rfl dX9_goThroughDay_27 ?_
    refine lv_iload_n hx hb dX9_goThroughDay_30 rfl (lv_at hl 0 rfl) ?_
    have hi_112 : vp_in r_9 10 := by
      have z_1 : ¬ (r_14 : Int32).toInt = (0 : Int32).toInt := fun z => c_16 (Int32.toInt_inj.mp z)
      have y_0 : (0 : Int32).toInt = 0 := by decide
      refine vp_in_iff.mpr ⟨?_, ?_⟩ <;> omega
    refine va_iald hx hb hK hP 5 0 rfl rfl hi_112 dX9_goThroughDay_31 ?_
    refine lv_topi (fun x_113 ex_113 => ?_)
    refine lv_goto (tgt := 36) hx hb dX9_goThroughDay_32 (by decide) ?_
    refine lv_istore (lv' := [(4, .int x_113), (3, .int r_9), (2, .int r_4), (0, .ref (Aa 0)), (1, .ref (Ra 0))]) hx hb dX9_goThroughDay_36 hl (by decide) rfl (fun ls hl => ?_)
    refine lv_iconst (v := 0) hx hb dX9_goThroughDay_38 (by decide) ?_
    refine lv_istore (lv' := [(5, .int 0), (4, .int x_113), (3, .int r_9), (2, .int r_4), (0, .ref (Aa 0)), (1, .ref (Ra 0))]) hx hb dX9_goThroughDay_39 hl (by decide) rfl (fun ls hl => ?_)
    refine lv_iconst (v := 0) hx hb dX9_goThroughDay_41 (by decide) ?_
    refine lv_istore (lv' := [(6, .int 0), (5, .int 0), (4, .int x_113), (3, .int r_9), (2, .int r_4), (0, .ref (Aa 0)), (1, .ref (Ra 0))]) hx hb dX9_goThroughDay_42 hl (by decide) rfl (fun ls hl => ?_)
    have loop_135 : ∀ (n_133 : Nat) (vy_124 : Int32) (vy_125 : Nat → Int64) (vy_126 : Int32) (vy_127 : Int32) (vy_128 : Int32) (vy_129 : Nat → Int32) (vy_130 : Nat → Int32) (vy_131 : Nat → Int32) (vy_132 : Nat → Int32) (H : Heap) (locs : List Loc) (ls : Array Slot), 0 ≤ (vy_124 : Int32).toInt → (6 - (vy_124 : Int32).toInt).toNat < n_133 → va_P D classes [((Ra 0), .inr (6, [.ref (Ra 1), .ref (Ra 2)])), ((Ra 1), .inl (tc 0, Rn, .inl (Rf 1))), ((Ra 2), .inl (tc 1, 64, .inr (.inl vy_125))), ((Aa 0), .inr (9, [.int vy_127, .int (Av 1), .int (Av 2), .int (Av 3), .int (Av 4), .int vy_128, .ref (Aa 1), .ref (Aa 2), .ref (Aa 3), .ref (Aa 4), .ref (Aa 5), .ref (Aa 6), .ref (Aa 7), .ref (Aa 8)])), ((Aa 1), .inl (tc 0, 10, .inl (Af 1))), ((Aa 2), .inl (tc 0, 10, .inl (Af 2))), ((Aa 3), .inl (tc 0, 6, .inl vy_129)), ((Aa 4), .inl (tc 0, 6, .inl (Af 4))), ((Aa 5), .inl (tc 0, 6, .inl (Af 5))), ((Aa 6), .inl (tc 0, 6, .inl vy_130)), ((Aa 7), .inl (tc 0, 6, .inl vy_132)), ((Aa 8), .inl (tc 0, 6, .inl vy_131))] H → va_D A [((Ra 0), .inr (6, [.ref (Ra 1), .ref (Ra 2)])), ((Ra 1), .inl (tc 0, Rn, .inl (Rf 1))), ((Ra 2), .inl (tc 1, 64, .inr (.inl vy_125))), ((Aa 0), .inr (9, [.int vy_127, .int (Av 1), .int (Av 2), .int (Av 3), .int (Av 4), .int vy_128, .ref (Aa 1), .ref (Aa 2), .ref (Aa 3), .ref (Aa 4), .ref (Aa 5), .ref (Aa 6), .ref (Aa 7), .ref (Aa 8)])), ((Aa 1), .inl (tc 0, 10, .inl (Af 1))), ((Aa 2), .inl (tc 0, 10, .inl (Af 2))), ((Aa 3), .inl (tc 0, 6, .inl vy_129)), ((Aa 4), .inl (tc 0, 6, .inl (Af 4))), ((Aa 5), .inl (tc 0, 6, .inl (Af 5))), ((Aa 6), .inl (tc 0, 6, .inl vy_130)), ((Aa 7), .inl (tc 0, 6, .inl vy_132)), ((Aa 8), .inl (tc 0, 6, .inl vy_131))] → va_S A s.heap H locs → lv_has ls 8 [(6, .int vy_124), (5, .int vy_126), (4, .int x_113), (3, .int r_9), (2, .int r_4), (0, .ref (Aa 0)), (1, .ref (Ra 0))] → W p l e ({ frames := 4, cells := 0, slots := 0, locals := 89 }) s m ([.ref (Aa 0), .ref (Ra 0)].toArray) below meth c H locs 0 0 (MQ below (QW (fun (v : Option Value) (u : (Int32) × (Int32) × (Int32) × (Nat → Int32) × (Nat → Int32) × (Nat → Int32) × (Nat → Int32) × (Nat → Int64)) => match u with | (o1, o2, o3, o4, o5, o6, o7, o8) => ∃ r : Int32, v = some (.int r) ∧ (True)) (BW D (fun (u : (Int32) × (Int32) × (Int32) × (Nat → Int32) × (Nat → Int32) × (Nat → Int32) × (Nat → Int32) × (Nat → Int64)) => match u with | (o1, o2, o3, o4, o5, o6, o7, o8) => [((Aa 0), .inr (9, [.int o1, .int (Av 1), .int (Av 2), .int (Av 3), .int o2, .int o3, .ref (Aa 1), .ref (Aa 2), .ref (Aa 3), .ref (Aa 4), .ref (Aa 5), .ref (Aa 6), .ref (Aa 7), .ref (Aa 8)])), ((Aa 1), .inl (tc 0, 10, .inl (Af 1))), ((Aa 2), .inl (tc 0, 10, .inl (Af 2))), ((Aa 3), .inl (tc 0, 6, .inl o4)), ((Aa 4), .inl (tc 0, 6, .inl (Af 4))), ((Aa 5), .inl (tc 0, 6, .inl (Af 5))), ((Aa 6), .inl (tc 0, 6, .inl o5)), ((Aa 7), .inl (tc 0, 6, .inl o6)), ((Aa 8), .inl (tc 0, 6, .inl o7)), ((Ra 0), .inr (6, [.ref (Ra 1), .ref (Ra 2)])), ((Ra 1), .inl (tc 0, Rn, .inl (Rf 1))), ((Ra 2), .inl (tc 1, 64, .inr (.inl o8)))]) A) A) ([.ref (Aa 0), .ref (Ra 0)].toArray) s 0 0 A) (F0 m 44 ls []) := by
      intro n_133
      induction n_133 with
      | zero =>
        intro vy_124 vy_125 vy_126 vy_127 vy_128 vy_129 vy_130 vy_131 vy_132 H locs ls h1 h2
        exact absurd h2 (Nat.not_lt_zero _)
      | succ n_133 ih_134 =>
        intro vy_124 vy_125 vy_126 vy_127 vy_128 vy_129 vy_130 vy_131 vy_132 H locs ls hi_137 hn_138 hP hD hS hl
        refine lv_iload hx hb dX9_goThroughDay_44 (lv_at hl 0 rfl) ?_
        refine lv_aload_n hx hb dX9_goThroughDay_46 rfl (lv_at hl 5 rfl) ?_
        refine gf_X9_21 hx hb hts hown hK hP 3 rfl rfl dX9_goThroughDay_47 ?_
        refine lv_icmp_ge (tgt := 183) hx hb dX9_goThroughDay_50 (by decide) (fun c_139 => ?_) (fun c_139 => ?_)
        · skip
          refine lv_aload_n hx hb dX9_goThroughDay_183 rfl (lv_at hl 5 rfl) ?_
          refine lv_iload_n hx hb dX9_goThroughDay_184 rfl (lv_at hl 4 rfl) ?_
          refine cV (a := (Aa 0)) (As := [.int r_4]) (rest := []) (wr := [((Ra 0), .inr (6, [.ref (Ra 1), .ref (Ra 2)])), ((Ra 1), .inl (tc 0, Rn, .inl (Rf 1))), ((Ra 2), .inl (tc 1, 64, .inr (.inl vy_125)))]) ⟨hx, hb, hml, hown, hts⟩ hK hX hA (cu_X9_changeTempers l D tc sk (Aa 0) (Aa 1) (Aa 2) (Aa 3) (Aa 4) (Aa 5) (Aa 6) (Aa 7) (Aa 8) vy_127 (Av 1) (Av 2) (Av 3) (Av 4) vy_128 (Af 1) (Af 2) vy_129 (Af 4) (Af 5) vy_130 vy_132 vy_131 r_4) k_779 k_776 k_778 k_15 k_98 pl_X9_changeTempers ⟨Nat.le_of_ble_eq_true rfl, Nat.le_of_ble_eq_true rfl⟩ rfl rfl (va_recv hK hP (ci := 9) (q0 := 3) rfl rfl) hP hD hS [3, 4, 5, 6, 7, 8, 9, 10, 11] [0, 1, 2] rfl rfl rfl rfl rfl (by decide) rfl hl.1 rfl (Nat.le_of_ble_eq_true rfl) dX9_goThroughDay_185 ⟨Nat.le_of_ble_eq_true rfl, Nat.le_of_ble_eq_true rfl⟩ (fun v_140 u_141 H locs hv_142 hP hD hS => ?_)
          obtain ⟨sv_143, rfl⟩ : ∃ z, z = u_141 := ⟨_, rfl⟩
          obtain rfl : v_140 = none := hv_142
          refine W.eq (g2 := F0 m 188 ls []) rfl ?_
          have hP : va_P D classes [((Ra 0), .inr (6, [.ref (Ra 1), .ref (Ra 2)])), ((Ra 1), .inl (tc 0, Rn, .inl (Rf 1))), ((Ra 2), .inl (tc 1, 64, .inr (.inl vy_125))), ((Aa 0), .inr (9, [.int vy_127, .int (Av 1), .int (Av 2), .int (Av 3), .int (Av 4), .int vy_128, .ref (Aa 1), .ref (Aa 2), .ref (Aa 3), .ref (Aa 4), .ref (Aa 5), .ref (Aa 6), .ref (Aa 7), .ref (Aa 8)])), ((Aa 1), .inl (tc 0, 10, .inl (Af 1))), ((Aa 2), .inl (tc 0, 10, .inl (Af 2))), ((Aa 3), .inl (tc 0, 6, .inl sv_143)), ((Aa 4), .inl (tc 0, 6, .inl (Af 4))), ((Aa 5), .inl (tc 0, 6, .inl (Af 5))), ((Aa 6), .inl (tc 0, 6, .inl vy_130)), ((Aa 7), .inl (tc 0, 6, .inl vy_132)), ((Aa 8), .inl (tc 0, 6, .inl vy_131))] H := hP
          have hD : va_D A [((Ra 0), .inr (6, [.ref (Ra 1), .ref (Ra 2)])), ((Ra 1), .inl (tc 0, Rn, .inl (Rf 1))), ((Ra 2), .inl (tc 1, 64, .inr (.inl vy_125))), ((Aa 0), .inr (9, [.int vy_127, .int (Av 1), .int (Av 2), .int (Av 3), .int (Av 4), .int vy_128, .ref (Aa 1), .ref (Aa 2), .ref (Aa 3), .ref (Aa 4), .ref (Aa 5), .ref (Aa 6), .ref (Aa 7), .ref (Aa 8)])), ((Aa 1), .inl (tc 0, 10, .inl (Af 1))), ((Aa 2), .inl (tc 0, 10, .inl (Af 2))), ((Aa 3), .inl (tc 0, 6, .inl sv_143)), ((Aa 4), .inl (tc 0, 6, .inl (Af 4))), ((Aa 5), .inl (tc 0, 6, .inl (Af 5))), ((Aa 6), .inl (tc 0, 6, .inl vy_130)), ((Aa 7), .inl (tc 0, 6, .inl vy_132)), ((Aa 8), .inl (tc 0, 6, .inl vy_131))] := hD
          refine lv_aload_n hx hb dX9_goThroughDay_188 rfl (lv_at hl 5 rfl) ?_
          refine gf_X9_24 hx hb hts hown hK hP 3 rfl rfl dX9_goThroughDay_189 ?_
          refine lv_bipush (v := 7) hx hb dX9_goThroughDay_192 (by decide) ?_
          refine lv_irem hx hb dX9_goThroughDay_194 (by decide) ?_
          refine lv_topi (fun x_144 ex_144 => ?_)
          refine lv_bipush (v := 6) hx hb dX9_goThroughDay_195 (by decide) ?_
          refine lv_icmp_ne (tgt := 218) hx hb dX9_goThroughDay_197 (by decide) (fun c_145 => ?_) (fun c_145 => ?_)
          · skip
            refine lv_aload_n hx hb dX9_goThroughDay_218 rfl (lv_at hl 5 rfl) ?_
            refine lv_dup hx hb dX9_goThroughDay_219 rfl ?_
            refine gf_X9_24 hx hb hts hown hK hP 3 rfl rfl dX9_goThroughDay_220 ?_
            refine lv_iconst (v := 1) hx hb dX9_goThroughDay_223 (by decide) ?_
            refine lv_iadd hx hb dX9_goThroughDay_224 ?_
            refine lv_topi (fun x_146 ex_146 => ?_)
            refine pf_X9_24 hx hb hts hown hK hP hD hS 3 rfl (Nat.le_of_ble_eq_true rfl) rfl rfl dX9_goThroughDay_225 (fun H locs hP hD hS => ?_)
            have hP : va_P D classes [((Ra 0), .inr (6, [.ref (Ra 1), .ref (Ra 2)])), ((Ra 1), .inl (tc 0, Rn, .inl (Rf 1))), ((Ra 2), .inl (tc 1, 64, .inr (.inl vy_125))), ((Aa 0), .inr (9, [.int vy_127, .int (Av 1), .int (Av 2), .int (Av 3), .int x_146, .int vy_128, .ref (Aa 1), .ref (Aa 2), .ref (Aa 3), .ref (Aa 4), .ref (Aa 5), .ref (Aa 6), .ref (Aa 7), .ref (Aa 8)])), ((Aa 1), .inl (tc 0, 10, .inl (Af 1))), ((Aa 2), .inl (tc 0, 10, .inl (Af 2))), ((Aa 3), .inl (tc 0, 6, .inl sv_143)), ((Aa 4), .inl (tc 0, 6, .inl (Af 4))), ((Aa 5), .inl (tc 0, 6, .inl (Af 5))), ((Aa 6), .inl (tc 0, 6, .inl vy_130)), ((Aa 7), .inl (tc 0, 6, .inl vy_132)), ((Aa 8), .inl (tc 0, 6, .inl vy_131))] H := hP
            have hD : va_D A [((Ra 0), .inr (6, [.ref (Ra 1), .ref (Ra 2)])), ((Ra 1), .inl (tc 0, Rn, .inl (Rf 1))), ((Ra 2), .inl (tc 1, 64, .inr (.inl vy_125))), ((Aa 0), .inr (9, [.int vy_127, .int (Av 1), .int (Av 2), .int (Av 3), .int x_146, .int vy_128, .ref (Aa 1), .ref (Aa 2), .ref (Aa 3), .ref (Aa 4), .ref (Aa 5), .ref (Aa 6), .ref (Aa 7), .ref (Aa 8)])), ((Aa 1), .inl (tc 0, 10, .inl (Af 1))), ((Aa 2), .inl (tc 0, 10, .inl (Af 2))), ((Aa 3), .inl (tc 0, 6, .inl sv_143)), ((Aa 4), .inl (tc 0, 6, .inl (Af 4))), ((Aa 5), .inl (tc 0, 6, .inl (Af 5))), ((Aa 6), .inl (tc 0, 6, .inl vy_130)), ((Aa 7), .inl (tc 0, 6, .inl vy_132)), ((Aa 8), .inl (tc 0, 6, .inl vy_131))] := hD
            refine lv_iload hx hb dX9_goThroughDay_228 (lv_at hl 1 rfl) ?_
            exact retI (v := vy_126) hx hb hr hlk (rfl) hP hD hS (vy_127, x_146, vy_128, sv_143, vy_130, vy_132, vy_131, vy_125) ⟨_, rfl, trivial⟩ [3, 4, 5, 6, 7, 8, 9, 10, 11, 0, 1, 2] rfl rfl dX9_goThroughDay_230 (Nat.le_of_ble_eq_true rfl) (Nat.le_of_ble_eq_true rfl) rfl
          · skip
            refine lv_aload_n hx hb dX9_goThroughDay_200 rfl (lv_at hl 5 rfl) ?_
            refine lv_bipush (v := 99) hx hb dX9_goThroughDay_201 (by decide) ?_
            refine lv_aload_n hx hb dX9_goThroughDay_203 rfl (lv_at hl 5 rfl) ?_
            refine gf_X9_9 hx hb hts hown hK hP 3 rfl rfl dX9_goThroughDay_204 ?_
            refine lv_aload_n hx hb dX9_goThroughDay_207 rfl (lv_at hl 5 rfl) ?_
            refine gf_X9_15 hx hb hts hown hK hP 3 rfl rfl dX9_goThroughDay_208 ?_
            refine lv_iadd hx hb dX9_goThroughDay_211 ?_
            refine lv_topi (fun x_147 ex_147 => ?_)
            refine va_mmin hx hb (hml.trans hl.1.symm) hown (hts _ k_780) (hts _ k_680) (hts _ k_114) (hts _ k_681) (Nat.le_of_ble_eq_true rfl) (Nat.le_of_ble_eq_true rfl) (Nat.le_of_ble_eq_true rfl) (Nat.le_of_ble_eq_true rfl) dX9_goThroughDay_212 ?_
            refine lv_topi (fun x_148 ex_148 => ?_)
            have mx_148 := imin_f ex_148
            rw [show (99 : Int32).toInt = 99 by decide] at mx_148
            refine pf_X9_9 hx hb hts hown hK hP hD hS 3 rfl (Nat.le_of_ble_eq_true rfl) rfl rfl dX9_goThroughDay_215 (fun H locs hP hD hS => ?_)
            have hP : va_P D classes [((Ra 0), .inr (6, [.ref (Ra 1), .ref (Ra 2)])), ((Ra 1), .inl (tc 0, Rn, .inl (Rf 1))), ((Ra 2), .inl (tc 1, 64, .inr (.inl vy_125))), ((Aa 0), .inr (9, [.int x_148, .int (Av 1), .int (Av 2), .int (Av 3), .int (Av 4), .int vy_128, .ref (Aa 1), .ref (Aa 2), .ref (Aa 3), .ref (Aa 4), .ref (Aa 5), .ref (Aa 6), .ref (Aa 7), .ref (Aa 8)])), ((Aa 1), .inl (tc 0, 10, .inl (Af 1))), ((Aa 2), .inl (tc 0, 10, .inl (Af 2))), ((Aa 3), .inl (tc 0, 6, .inl sv_143)), ((Aa 4), .inl (tc 0, 6, .inl (Af 4))), ((Aa 5), .inl (tc 0, 6, .inl (Af 5))), ((Aa 6), .inl (tc 0, 6, .inl vy_130)), ((Aa 7), .inl (tc 0, 6, .inl vy_132)), ((Aa 8), .inl (tc 0, 6, .inl vy_131))] H := hP
            have hD : va_D A [((Ra 0), .inr (6, [.ref (Ra 1), .ref (Ra 2)])), ((Ra 1), .inl (tc 0, Rn, .inl (Rf 1))), ((Ra 2), .inl (tc 1, 64, .inr (.inl vy_125))), ((Aa 0), .inr (9, [.int x_148, .int (Av 1), .int (Av 2), .int (Av 3), .int (Av 4), .int vy_128, .ref (Aa 1), .ref (Aa 2), .ref (Aa 3), .ref (Aa 4), .ref (Aa 5), .ref (Aa 6), .ref (Aa 7), .ref (Aa 8)])), ((Aa 1), .inl (tc 0, 10, .inl (Af 1))), ((Aa 2), .inl (tc 0, 10, .inl (Af 2))), ((Aa 3), .inl (tc 0, 6, .inl sv_143)), ((Aa 4), .inl (tc 0, 6, .inl (Af 4))), ((Aa 5), .inl (tc 0, 6, .inl (Af 5))), ((Aa 6), .inl (tc 0, 6, .inl vy_130)), ((Aa 7), .inl (tc 0, 6, .inl vy_132)), ((Aa 8), .inl (tc 0, 6, .inl vy_131))] := hD
            refine lv_aload_n hx hb dX9_goThroughDay_218 rfl (lv_at hl 5 rfl) ?_
            refine lv_dup hx hb dX9_goThroughDay_219 rfl ?_
            refine gf_X9_24 hx hb hts hown hK hP 3 rfl rfl dX9_goThroughDay_220 ?_
            refine lv_iconst (v := 1) hx hb dX9_goThroughDay_223 (by decide) ?_
            refine lv_iadd hx hb dX9_goThroughDay_224 ?_
            refine lv_topi (fun x_149 ex_149 => ?_)
            refine pf_X9_24 hx hb hts hown hK hP hD hS 3 rfl (Nat.le_of_ble_eq_true rfl) rfl rfl dX9_goThroughDay_225 (fun H locs hP hD hS => ?_)
            have hP : va_P D classes [((Ra 0), .inr (6, [.ref (Ra 1), .ref (Ra 2)])), ((Ra 1), .inl (tc 0, Rn, .inl (Rf 1))), ((Ra 2), .inl (tc 1, 64, .inr (.inl vy_125))), ((Aa 0), .inr (9, [.int x_148, .int (Av 1), .int (Av 2), .int (Av 3), .int x_149, .int vy_128, .ref (Aa 1), .ref (Aa 2), .ref (Aa 3), .ref (Aa 4), .ref (Aa 5), .ref (Aa 6), .ref (Aa 7), .ref (Aa 8)])), ((Aa 1), .inl (tc 0, 10, .inl (Af 1))), ((Aa 2), .inl (tc 0, 10, .inl (Af 2))), ((Aa 3), .inl (tc 0, 6, .inl sv_143)), ((Aa 4), .inl (tc 0, 6, .inl (Af 4))), ((Aa 5), .inl (tc 0, 6, .inl (Af 5))), ((Aa 6), .inl (tc 0, 6, .inl vy_130)), ((Aa 7), .inl (tc 0, 6, .inl vy_132)), ((Aa 8), .inl (tc 0, 6, .inl vy_131))] H := hP
            have hD : va_D A [((Ra 0), .inr (6, [.ref (Ra 1), .ref (Ra 2)])), ((Ra 1), .inl (tc 0, Rn, .inl (Rf 1))), ((Ra 2), .inl (tc 1, 64, .inr (.inl vy_125))), ((Aa 0), .inr (9, [.int x_148, .int (Av 1), .int (Av 2), .int (Av 3), .int x_149, .int vy_128, .ref (Aa 1), .ref (Aa 2), .ref (Aa 3), .ref (Aa 4), .ref (Aa 5), .ref (Aa 6), .ref (Aa 7), .ref (Aa 8)])), ((Aa 1), .inl (tc 0, 10, .inl (Af 1))), ((Aa 2), .inl (tc 0, 10, .inl (Af 2))), ((Aa 3), .inl (tc 0, 6, .inl sv_143)), ((Aa 4), .inl (tc 0, 6, .inl (Af 4))), ((Aa 5), .inl (tc 0, 6, .inl (Af 5))), ((Aa 6), .inl (tc 0, 6, .inl vy_130)), ((Aa 7), .inl (tc 0, 6, .inl vy_132)), ((Aa 8), .inl (tc 0, 6, .inl vy_131))] := hD
            refine lv_iload hx hb dX9_goThroughDay_228 (lv_at hl 1 rfl) ?_
            exact retI (v := vy_126) hx hb hr hlk (rfl) hP hD hS (x_148, x_149, vy_128, sv_143, vy_130, vy_132, vy_131, vy_125) ⟨_, rfl, trivial⟩ [3, 4, 5, 6, 7, 8, 9, 10, 11, 0, 1, 2] rfl rfl dX9_goThroughDay_230 (Nat.le_of_ble_eq_true rfl) (Nat.le_of_ble_eq_true rfl) rfl
        · skip
          refine lv_iload hx hb dX9_goThroughDay_53 (lv_at hl 0 rfl) ?_
          refine lv_bipush (v := 6) hx hb dX9_goThroughDay_55 (by decide) ?_
          refine lv_icmp_ge (tgt := 183) hx hb dX9_goThroughDay_57 (by decide) (fun c_150 => ?_) (fun c_150 => ?_)
          · skip
            refine lv_aload_n hx hb dX9_goThroughDay_183 rfl (lv_at hl 5 rfl) ?_
            refine lv_iload_n hx hb dX9_goThroughDay_184 rfl (lv_at hl 4 rfl) ?_
            refine cV (a := (Aa 0)) (As := [.int r_4]) (rest := []) (wr := [((Ra 0), .inr (6, [.ref (Ra 1), .ref (Ra 2)])), ((Ra 1), .inl (tc 0, Rn, .inl (Rf 1))), ((Ra 2), .inl (tc 1, 64, .inr (.inl vy_125)))]) ⟨hx, hb, hml, hown, hts⟩ hK hX hA (cu_X9_changeTempers l D tc sk (Aa 0) (Aa 1) (Aa 2) (Aa 3) (Aa 4) (Aa 5) (Aa 6) (Aa 7) (Aa 8) vy_127 (Av 1) (Av 2) (Av 3) (Av 4) vy_128 (Af 1) (Af 2) vy_129 (Af 4) (Af 5) vy_130 vy_132 vy_131 r_4) k_779 k_776 k_778 k_15 k_98 pl_X9_changeTempers ⟨Nat.le_of_ble_eq_true rfl, Nat.le_of_ble_eq_true rfl⟩ rfl rfl (va_recv hK hP (ci := 9) (q0 := 3) rfl rfl) hP hD hS [3, 4, 5, 6, 7, 8, 9, 10, 11] [0, 1, 2] rfl rfl rfl rfl rfl (by decide) rfl hl.1 rfl (Nat.le_of_ble_eq_true rfl) dX9_goThroughDay_185 ⟨Nat.le_of_ble_eq_true rfl, Nat.le_of_ble_eq_true rfl⟩ (fun v_151 u_152 H locs hv_153 hP hD hS => ?_)
            obtain ⟨sv_154, rfl⟩ : ∃ z, z = u_152 := ⟨_, rfl⟩
            obtain rfl : v_151 = none := hv_153
            refine W.eq (g2 := F0 m 188 ls []) rfl ?_
            have hP : va_P D classes [((Ra 0), .inr (6, [.ref (Ra 1), .ref (Ra 2)])), ((Ra 1), .inl (tc 0, Rn, .inl (Rf 1))), ((Ra 2), .inl (tc 1, 64, .inr (.inl vy_125))), ((Aa 0), .inr (9, [.int vy_127, .int (Av 1), .int (Av 2), .int (Av 3), .int (Av 4), .int vy_128, .ref (Aa 1), .ref (Aa 2), .ref (Aa 3), .ref (Aa 4), .ref (Aa 5), .ref (Aa 6), .ref (Aa 7), .ref (Aa 8)])), ((Aa 1), .inl (tc 0, 10, .inl (Af 1))), ((Aa 2), .inl (tc 0, 10, .inl (Af 2))), ((Aa 3), .inl (tc 0, 6, .inl sv_154)), ((Aa 4), .inl (tc 0, 6, .inl (Af 4))), ((Aa 5), .inl (tc 0, 6, .inl (Af 5))), ((Aa 6), .inl (tc 0, 6, .inl vy_130)), ((Aa 7), .inl (tc 0, 6, .inl vy_132)), ((Aa 8), .inl (tc 0, 6, .inl vy_131))] H := hP
            have hD : va_D A [((Ra 0), .inr (6, [.ref (Ra 1), .ref (Ra 2)])), ((Ra 1), .inl (tc 0, Rn, .inl (Rf 1))), ((Ra 2), .inl (tc 1, 64, .inr (.inl vy_125))), ((Aa 0), .inr (9, [.int vy_127, .int (Av 1), .int (Av 2), .int (Av 3), .int (Av 4), .int vy_128, .ref (Aa 1), .ref (Aa 2), .ref (Aa 3), .ref (Aa 4), .ref (Aa 5), .ref (Aa 6), .ref (Aa 7), .ref (Aa 8)])), ((Aa 1), .inl (tc 0, 10, .inl (Af 1))), ((Aa 2), .inl (tc 0, 10, .inl (Af 2))), ((Aa 3), .inl (tc 0, 6, .inl sv_154)), ((Aa 4), .inl (tc 0, 6, .inl (Af 4))), ((Aa 5), .inl (tc 0, 6, .inl (Af 5))), ((Aa 6), .inl (tc 0, 6, .inl vy_130)), ((Aa 7), .inl (tc 0, 6, .inl vy_132)), ((Aa 8), .inl (tc 0, 6, .inl vy_131))] := hD
            refine lv_aload_n hx hb dX9_goThroughDay_188 rfl (lv_at hl 5 rfl) ?_
            refine gf_X9_24 hx hb hts hown hK hP 3 rfl rfl dX9_goThroughDay_189 ?_
            refine lv_bipush (v := 7) hx hb dX9_goThroughDay_192 (by decide) ?_
            refine lv_irem hx hb dX9_goThroughDay_194 (by decide) ?_
            refine lv_topi (fun x_155 ex_155 => ?_)
            refine lv_bipush (v := 6) hx hb dX9_goThroughDay_195 (by decide) ?_
            refine lv_icmp_ne (tgt := 218) hx hb dX9_goThroughDay_197 (by decide) (fun c_156 => ?_) (fun c_156 => ?_)
            · skip
              refine lv_aload_n hx hb dX9_goThroughDay_218 rfl (lv_at hl 5 rfl) ?_
              refine lv_dup hx hb dX9_goThroughDay_219 rfl ?_
              refine gf_X9_24 hx hb hts hown hK hP 3 rfl rfl dX9_goThroughDay_220 ?_
              refine lv_iconst (v := 1) hx hb dX9_goThroughDay_223 (by decide) ?_
              refine lv_iadd hx hb dX9_goThroughDay_224 ?_
              refine lv_topi (fun x_157 ex_157 => ?_)
              refine pf_X9_24 hx hb hts hown hK hP hD hS 3 rfl (Nat.le_of_ble_eq_true rfl) rfl rfl dX9_goThroughDay_225 (fun H locs hP hD hS => ?_)
              have hP : va_P D classes [((Ra 0), .inr (6, [.ref (Ra 1), .ref (Ra 2)])), ((Ra 1), .inl (tc 0, Rn, .inl (Rf 1))), ((Ra 2), .inl (tc 1, 64, .inr (.inl vy_125))), ((Aa 0), .inr (9, [.int vy_127, .int (Av 1), .int (Av 2), .int (Av 3), .int x_157, .int vy_128, .ref (Aa 1), .ref (Aa 2), .ref (Aa 3), .ref (Aa 4), .ref (Aa 5), .ref (Aa 6), .ref (Aa 7), .ref (Aa 8)])), ((Aa 1), .inl (tc 0, 10, .inl (Af 1))), ((Aa 2), .inl (tc 0, 10, .inl (Af 2))), ((Aa 3), .inl (tc 0, 6, .inl sv_154)), ((Aa 4), .inl (tc 0, 6, .inl (Af 4))), ((Aa 5), .inl (tc 0, 6, .inl (Af 5))), ((Aa 6), .inl (tc 0, 6, .inl vy_130)), ((Aa 7), .inl (tc 0, 6, .inl vy_132)), ((Aa 8), .inl (tc 0, 6, .inl vy_131))] H := hP
              have hD : va_D A [((Ra 0), .inr (6, [.ref (Ra 1), .ref (Ra 2)])), ((Ra 1), .inl (tc 0, Rn, .inl (Rf 1))), ((Ra 2), .inl (tc 1, 64, .inr (.inl vy_125))), ((Aa 0), .inr (9, [.int vy_127, .int (Av 1), .int (Av 2), .int (Av 3), .int x_157, .int vy_128, .ref (Aa 1), .ref (Aa 2), .ref (Aa 3), .ref (Aa 4), .ref (Aa 5), .ref (Aa 6), .ref (Aa 7), .ref (Aa 8)])), ((Aa 1), .inl (tc 0, 10, .inl (Af 1))), ((Aa 2), .inl (tc 0, 10, .inl (Af 2))), ((Aa 3), .inl (tc 0, 6, .inl sv_154)), ((Aa 4), .inl (tc 0, 6, .inl (Af 4))), ((Aa 5), .inl (tc 0, 6, .inl (Af 5))), ((Aa 6), .inl (tc 0, 6, .inl vy_130)), ((Aa 7), .inl (tc 0, 6, .inl vy_132)), ((Aa 8), .inl (tc 0, 6, .inl vy_131))] := hD
              refine lv_iload hx hb dX9_goThroughDay_228 (lv_at hl 1 rfl) ?_
              exact retI (v := vy_126) hx hb hr hlk (rfl) hP hD hS (vy_127, x_157, vy_128, sv_154, vy_130, vy_132, vy_131, vy_125) ⟨_, rfl, trivial⟩ [3, 4, 5, 6, 7, 8, 9, 10, 11, 0, 1, 2] rfl rfl dX9_goThroughDay_230 (Nat.le_of_ble_eq_true rfl) (Nat.le_of_ble_eq_true rfl) rfl
            · skip
              refine lv_aload_n hx hb dX9_goThroughDay_200 rfl (lv_at hl 5 rfl) ?_
              refine lv_bipush (v := 99) hx hb dX9_goThroughDay_201 (by decide) ?_
              refine lv_aload_n hx hb dX9_goThroughDay_203 rfl (lv_at hl 5 rfl) ?_
              refine gf_X9_9 hx hb hts hown hK hP 3 rfl rfl dX9_goThroughDay_204 ?_
              refine lv_aload_n hx hb dX9_goThroughDay_207 rfl (lv_at hl 5 rfl) ?_
              refine gf_X9_15 hx hb hts hown hK hP 3 rfl rfl dX9_goThroughDay_208 ?_
              refine lv_iadd hx hb dX9_goThroughDay_211 ?_
              refine lv_topi (fun x_158 ex_158 => ?_)
              refine va_mmin hx hb (hml.trans hl.1.symm) hown (hts _ k_780) (hts _ k_680) (hts _ k_114) (hts _ k_681) (Nat.le_of_ble_eq_true rfl) (Nat.le_of_ble_eq_true rfl) (Nat.le_of_ble_eq_true rfl) (Nat.le_of_ble_eq_true rfl) dX9_goThroughDay_212 ?_
              refine lv_topi (fun x_159 ex_159 => ?_)
              have mx_159 := imin_f ex_159
              rw [show (99 : Int32).toInt = 99 by decide] at mx_159
              refine pf_X9_9 hx hb hts hown hK hP hD hS 3 rfl (Nat.le_of_ble_eq_true rfl) rfl rfl dX9_goThroughDay_215 (fun H locs hP hD hS => ?_)
              have hP : va_P D classes [((Ra 0), .inr (6, [.ref (Ra 1), .ref (Ra 2)])), ((Ra 1), .inl (tc 0, Rn, .inl (Rf 1))), ((Ra 2), .inl (tc 1, 64, .inr (.inl vy_125))), ((Aa 0), .inr (9, [.int x_159, .int (Av 1), .int (Av 2), .int (Av 3), .int (Av 4), .int vy_128, .ref (Aa 1), .ref (Aa 2), .ref (Aa 3), .ref (Aa 4), .ref (Aa 5), .ref (Aa 6), .ref (Aa 7), .ref (Aa 8)])), ((Aa 1), .inl (tc 0, 10, .inl (Af 1))), ((Aa 2), .inl (tc 0, 10, .inl (Af 2))), ((Aa 3), .inl (tc 0, 6, .inl sv_154)), ((Aa 4), .inl (tc 0, 6, .inl (Af 4))), ((Aa 5), .inl (tc 0, 6, .inl (Af 5))), ((Aa 6), .inl (tc 0, 6, .inl vy_130)), ((Aa 7), .inl (tc 0, 6, .inl vy_132)), ((Aa 8), .inl (tc 0, 6, .inl vy_131))] H := hP
              have hD : va_D A [((Ra 0), .inr (6, [.ref (Ra 1), .ref (Ra 2)])), ((Ra 1), .inl (tc 0, Rn, .inl (Rf 1))), ((Ra 2), .inl (tc 1, 64, .inr (.inl vy_125))), ((Aa 0), .inr (9, [.int x_159, .int (Av 1), .int (Av 2), .int (Av 3), .int (Av 4), .int vy_128, .ref (Aa 1), .ref (Aa 2), .ref (Aa 3), .ref (Aa 4), .ref (Aa 5), .ref (Aa 6), .ref (Aa 7), .ref (Aa 8)])), ((Aa 1), .inl (tc 0, 10, .inl (Af 1))), ((Aa 2), .inl (tc 0, 10, .inl (Af 2))), ((Aa 3), .inl (tc 0, 6, .inl sv_154)), ((Aa 4), .inl (tc 0, 6, .inl (Af 4))), ((Aa 5), .inl (tc 0, 6, .inl (Af 5))), ((Aa 6), .inl (tc 0, 6, .inl vy_130)), ((Aa 7), .inl (tc 0, 6, .inl vy_132)), ((Aa 8), .inl (tc 0, 6, .inl vy_131))] := hD
              refine lv_aload_n hx hb dX9_goThroughDay_218 rfl (lv_at hl 5 rfl) ?_
              refine lv_dup hx hb dX9_goThroughDay_219 rfl ?_
              refine gf_X9_24 hx hb hts hown hK hP 3 rfl rfl dX9_goThroughDay_220 ?_
              refine lv_iconst (v := 1) hx hb dX9_goThroughDay_223 (by decide) ?_
              refine lv_iadd hx hb dX9_goThroughDay_224 ?_
              refine lv_topi (fun x_160 ex_160 => ?_)
              refine pf_X9_24 hx hb hts hown hK hP hD hS 3 rfl (Nat.le_of_ble_eq_true rfl) rfl rfl dX9_goThroughDay_225 (fun H locs hP hD hS => ?_)
              have hP : va_P D classes [((Ra 0), .inr (6, [.ref (Ra 1), .ref (Ra 2)])), ((Ra 1), .inl (tc 0, Rn, .inl (Rf 1))), ((Ra 2), .inl (tc 1, 64, .inr (.inl vy_125))), ((Aa 0), .inr (9, [.int x_159, .int (Av 1), .int (Av 2), .int (Av 3), .int x_160, .int vy_128, .ref (Aa 1), .ref (Aa 2), .ref (Aa 3), .ref (Aa 4), .ref (Aa 5), .ref (Aa 6), .ref (Aa 7), .ref (Aa 8)])), ((Aa 1), .inl (tc 0, 10, .inl (Af 1))), ((Aa 2), .inl (tc 0, 10, .inl (Af 2))), ((Aa 3), .inl (tc 0, 6, .inl sv_154)), ((Aa 4), .inl (tc 0, 6, .inl (Af 4))), ((Aa 5), .inl (tc 0, 6, .inl (Af 5))), ((Aa 6), .inl (tc 0, 6, .inl vy_130)), ((Aa 7), .inl (tc 0, 6, .inl vy_132)), ((Aa 8), .inl (tc 0, 6, .inl vy_131))] H := hP
              have hD : va_D A [((Ra 0), .inr (6, [.ref (Ra 1), .ref (Ra 2)])), ((Ra 1), .inl (tc 0, Rn, .inl (Rf 1))), ((Ra 2), .inl (tc 1, 64, .inr (.inl vy_125))), ((Aa 0), .inr (9, [.int x_159, .int (Av 1), .int (Av 2), .int (Av 3), .int x_160, .int vy_128, .ref (Aa 1), .ref (Aa 2), .ref (Aa 3), .ref (Aa 4), .ref (Aa 5), .ref (Aa 6), .ref (Aa 7), .ref (Aa 8)])), ((Aa 1), .inl (tc 0, 10, .inl (Af 1))), ((Aa 2), .inl (tc 0, 10, .inl (Af 2))), ((Aa 3), .inl (tc 0, 6, .inl sv_154)), ((Aa 4), .inl (tc 0, 6, .inl (Af 4))), ((Aa 5), .inl (tc 0, 6, .inl (Af 5))), ((Aa 6), .inl (tc 0, 6, .inl vy_130)), ((Aa 7), .inl (tc 0, 6, .inl vy_132)), ((Aa 8), .inl (tc 0, 6, .inl vy_131))] := hD
              refine lv_iload hx hb dX9_goThroughDay_228 (lv_at hl 1 rfl) ?_
              exact retI (v := vy_126) hx hb hr hlk (rfl) hP hD hS (x_159, x_160, vy_128, sv_154, vy_130, vy_132, vy_131, vy_125) ⟨_, rfl, trivial⟩ [3, 4, 5, 6, 7, 8, 9, 10, 11, 0, 1, 2] rfl rfl dX9_goThroughDay_230 (Nat.le_of_ble_eq_true rfl) (Nat.le_of_ble_eq_true rfl) rfl
          · skip
            refine lv_aload_n hx hb dX9_goThroughDay_60 rfl (lv_at hl 5 rfl) ?_
            refine lv_iload hx hb dX9_goThroughDay_61 (lv_at hl 0 rfl) ?_
            refine cV (a := (Aa 0)) (As := [.int vy_124]) (rest := []) (wr := [((Ra 0), .inr (6, [.ref (Ra 1), .ref (Ra 2)])), ((Ra 1), .inl (tc 0, Rn, .inl (Rf 1))), ((Ra 2), .inl (tc 1, 64, .inr (.inl vy_125)))]) ⟨hx, hb, hml, hown, hts⟩ hK hX hA (cu_X9_canBuy l D tc sk (Aa 0) (Aa 1) (Aa 2) (Aa 3) (Aa 4) (Aa 5) (Aa 6) (Aa 7) (Aa 8) vy_127 (Av 1) (Av 2) (Av 3) (Av 4) vy_128 (Af 1) (Af 2) vy_129 (Af 4) (Af 5) vy_130 vy_132 vy_131 vy_124) k_752 k_749 k_751 k_14 k_98 pl_X9_canBuy ⟨Nat.le_of_ble_eq_true rfl, Nat.le_of_ble_eq_true rfl⟩ rfl rfl (va_recv hK hP (ci := 9) (q0 := 3) rfl rfl) hP hD hS [3, 4, 5, 6, 7, 8, 9, 10, 11] [0, 1, 2] rfl rfl rfl rfl rfl (by decide) rfl hl.1 rfl (Nat.le_of_ble_eq_true rfl) dX9_goThroughDay_63 ⟨Nat.le_of_ble_eq_true rfl, Nat.le_of_ble_eq_true rfl⟩ (fun v_161 u_162 H locs hv_163 hP hD hS => ?_)
            obtain ⟨r_164, rfl, he_165⟩ := hv_163
            have he_165 : ((r_164.toInt = 0 ∨ r_164.toInt = 1)) := he_165
            refine W.eq (g2 := F0 m 66 ls [.int r_164]) rfl ?_
            have hP : va_P D classes [((Ra 0), .inr (6, [.ref (Ra 1), .ref (Ra 2)])), ((Ra 1), .inl (tc 0, Rn, .inl (Rf 1))), ((Ra 2), .inl (tc 1, 64, .inr (.inl vy_125))), ((Aa 0), .inr (9, [.int vy_127, .int (Av 1), .int (Av 2), .int (Av 3), .int (Av 4), .int vy_128, .ref (Aa 1), .ref (Aa 2), .ref (Aa 3), .ref (Aa 4), .ref (Aa 5), .ref (Aa 6), .ref (Aa 7), .ref (Aa 8)])), ((Aa 1), .inl (tc 0, 10, .inl (Af 1))), ((Aa 2), .inl (tc 0, 10, .inl (Af 2))), ((Aa 3), .inl (tc 0, 6, .inl vy_129)), ((Aa 4), .inl (tc 0, 6, .inl (Af 4))), ((Aa 5), .inl (tc 0, 6, .inl (Af 5))), ((Aa 6), .inl (tc 0, 6, .inl vy_130)), ((Aa 7), .inl (tc 0, 6, .inl vy_132)), ((Aa 8), .inl (tc 0, 6, .inl vy_131))] H := hP
            have hD : va_D A [((Ra 0), .inr (6, [.ref (Ra 1), .ref (Ra 2)])), ((Ra 1), .inl (tc 0, Rn, .inl (Rf 1))), ((Ra 2), .inl (tc 1, 64, .inr (.inl vy_125))), ((Aa 0), .inr (9, [.int vy_127, .int (Av 1), .int (Av 2), .int (Av 3), .int (Av 4), .int vy_128, .ref (Aa 1), .ref (Aa 2), .ref (Aa 3), .ref (Aa 4), .ref (Aa 5), .ref (Aa 6), .ref (Aa 7), .ref (Aa 8)])), ((Aa 1), .inl (tc 0, 10, .inl (Af 1))), ((Aa 2), .inl (tc 0, 10, .inl (Af 2))), ((Aa 3), .inl (tc 0, 6, .inl vy_129)), ((Aa 4), .inl (tc 0, 6, .inl (Af 4))), ((Aa 5), .inl (tc 0, 6, .inl (Af 5))), ((Aa 6), .inl (tc 0, 6, .inl vy_130)), ((Aa 7), .inl (tc 0, 6, .inl vy_132)), ((Aa 8), .inl (tc 0, 6, .inl vy_131))] := hD
            refine lv_if_ne (tgt := 72) hx hb dX9_goThroughDay_66 (by decide) (fun c_166 => ?_) (fun c_166 => ?_)
            · skip
              refine lv_aload_n hx hb dX9_goThroughDay_72 rfl (lv_at hl 6 rfl) ?_
              refine lv_ifnonnull (tgt := 98) hx hb dX9_goThroughDay_73 (by decide) ?_
              refine lv_aload_n hx hb dX9_goThroughDay_98 rfl (lv_at hl 6 rfl) ?_
              refine lv_aload_n hx hb dX9_goThroughDay_99 rfl (lv_at hl 5 rfl) ?_
              refine lv_iload hx hb dX9_goThroughDay_100 (lv_at hl 0 rfl) ?_
              have hh_167 : Rn ≤ 400 := by
                have z_1 : ¬ (r_14 : Int32).toInt = (0 : Int32).toInt := fun z => c_16 (Int32.toInt_inj.mp z)
                have z_2 := Int32.lt_iff_toInt_lt.mp (Int32.not_le.mp c_139)
                have z_3 := Int32.lt_iff_toInt_lt.mp (Int32.not_le.mp c_150)
                have z_4 : ¬ (r_164 : Int32).toInt = (0 : Int32).toInt := fun z => c_166 (Int32.toInt_inj.mp z)
                have y_0 : (0 : Int32).toInt = 0 := by decide
                have y_6 : (6 : Int32).toInt = 6 := by decide
                first | assumption | omega
              refine cV (a := (Ra 0)) (As := [.ref (Aa 0), .int vy_124]) (rest := []) (wr := []) ⟨hx, hb, hml, hown, hts⟩ hK hX hA (cu_X6_sumFor l D tc sk (Ra 0) (Ra 1) (Ra 2) (Rf 1) vy_125 Rn (Aa 0) (Aa 1) (Aa 2) (Aa 3) (Aa 4) (Aa 5) (Aa 6) (Aa 7) (Aa 8) vy_127 (Av 1) (Av 2) (Av 3) (Av 4) vy_128 (Af 1) (Af 2) vy_129 (Af 4) (Af 5) vy_130 vy_132 vy_131 vy_124 hh_167) k_756 k_753 k_754 k_755 k_112 pl_X6_sumFor ⟨Nat.le_of_ble_eq_true rfl, Nat.le_of_ble_eq_true rfl⟩ rfl rfl (va_recv hK hP (ci := 6) (q0 := 0) rfl rfl) hP hD hS [0, 1, 2, 3, 4, 5, 6, 7, 8, 9, 10, 11] [] rfl rfl rfl rfl rfl (by decide) rfl hl.1 rfl (Nat.le_of_ble_eq_true rfl) dX9_goThroughDay_102 ⟨Nat.le_of_ble_eq_true rfl, Nat.le_of_ble_eq_true rfl⟩ (fun v_168 u_169 H locs hv_170 hP hD hS => ?_)
              obtain ⟨sv_171, rfl⟩ : ∃ z, z = u_169 := ⟨_, rfl⟩
              obtain ⟨r_172, rfl, he_173⟩ := hv_170
              have he_173 : (True) := he_173
              refine W.eq (g2 := F0 m 105 ls [.long r_172]) rfl ?_
              have hP : va_P D classes [((Ra 0), .inr (6, [.ref (Ra 1), .ref (Ra 2)])), ((Ra 1), .inl (tc 0, Rn, .inl (Rf 1))), ((Ra 2), .inl (tc 1, 64, .inr (.inl sv_171))), ((Aa 0), .inr (9, [.int vy_127, .int (Av 1), .int (Av 2), .int (Av 3), .int (Av 4), .int vy_128, .ref (Aa 1), .ref (Aa 2), .ref (Aa 3), .ref (Aa 4), .ref (Aa 5), .ref (Aa 6), .ref (Aa 7), .ref (Aa 8)])), ((Aa 1), .inl (tc 0, 10, .inl (Af 1))), ((Aa 2), .inl (tc 0, 10, .inl (Af 2))), ((Aa 3), .inl (tc 0, 6, .inl vy_129)), ((Aa 4), .inl (tc 0, 6, .inl (Af 4))), ((Aa 5), .inl (tc 0, 6, .inl (Af 5))), ((Aa 6), .inl (tc 0, 6, .inl vy_130)), ((Aa 7), .inl (tc 0, 6, .inl vy_132)), ((Aa 8), .inl (tc 0, 6, .inl vy_131))] H := hP
              have hD : va_D A [((Ra 0), .inr (6, [.ref (Ra 1), .ref (Ra 2)])), ((Ra 1), .inl (tc 0, Rn, .inl (Rf 1))), ((Ra 2), .inl (tc 1, 64, .inr (.inl sv_171))), ((Aa 0), .inr (9, [.int vy_127, .int (Av 1), .int (Av 2), .int (Av 3), .int (Av 4), .int vy_128, .ref (Aa 1), .ref (Aa 2), .ref (Aa 3), .ref (Aa 4), .ref (Aa 5), .ref (Aa 6), .ref (Aa 7), .ref (Aa 8)])), ((Aa 1), .inl (tc 0, 10, .inl (Af 1))), ((Aa 2), .inl (tc 0, 10, .inl (Af 2))), ((Aa 3), .inl (tc 0, 6, .inl vy_129)), ((Aa 4), .inl (tc 0, 6, .inl (Af 4))), ((Aa 5), .inl (tc 0, 6, .inl (Af 5))), ((Aa 6), .inl (tc 0, 6, .inl vy_130)), ((Aa 7), .inl (tc 0, 6, .inl vy_132)), ((Aa 8), .inl (tc 0, 6, .inl vy_131))] := hD
              refine lv_lconst (v := 0) hx hb dX9_goThroughDay_105 (by decide) ?_
              refine W.lcmp hx hb dX9_goThroughDay_106 ?_
              refine lv_topi (fun x_174 ex_174 => ?_)
              refine lv_if_le (tgt := 114) hx hb dX9_goThroughDay_107 (by decide) (fun c_175 => ?_) (fun c_175 => ?_)
              · skip
                refine lv_iconst (v := 0) hx hb dX9_goThroughDay_114 (by decide) ?_
                refine lv_istore (lv' := [(7, .int 0), (6, .int vy_124), (5, .int vy_126), (4, .int x_113), (3, .int r_9), (2, .int r_4), (0, .ref (Aa 0)), (1, .ref (Ra 0))]) hx hb dX9_goThroughDay_115 hl (by decide) rfl (fun ls hl => ?_)
                refine lv_iload hx hb dX9_goThroughDay_117 (lv_at hl 0 rfl) ?_
                refine lv_if_eq (tgt := 157) hx hb dX9_goThroughDay_119 (by decide) (fun c_176 => ?_) (fun c_176 => absurd c_176 (by decide))
                refine lv_iload hx hb dX9_goThroughDay_157 (lv_at hl 0 rfl) ?_
                refine lv_if_eq (tgt := 177) hx hb dX9_goThroughDay_159 (by decide) (fun c_177 => ?_) (fun c_177 => absurd c_177 (by decide))
                obtain ⟨x_178, ex_178⟩ : ∃ y : Int32, y = vy_124 + 1 := ⟨_, rfl⟩
                refine lv_iinc (v := x_178) (lv' := [(6, .int x_178), (7, .int 0), (5, .int vy_126), (4, .int x_113), (3, .int r_9), (2, .int r_4), (0, .ref (Aa 0)), (1, .ref (Ra 0))]) hx hb dX9_goThroughDay_177 hl (k := 1) rfl (by rw [ex_178]; rfl) (by decide) rfl (fun ls hl => ?_)
                refine lv_goto (tgt := 44) hx hb dX9_goThroughDay_180 (by decide) ?_
                have hb_179 : 0 ≤ (x_178 : Int32).toInt ∧ (6 - (x_178 : Int32).toInt).toNat < n_133 := by
                  have z_1 : ¬ (r_14 : Int32).toInt = (0 : Int32).toInt := fun z => c_16 (Int32.toInt_inj.mp z)
                  have z_2 := Int32.lt_iff_toInt_lt.mp (Int32.not_le.mp c_139)
                  have z_3 := Int32.lt_iff_toInt_lt.mp (Int32.not_le.mp c_150)
                  have z_4 : ¬ (r_164 : Int32).toInt = (0 : Int32).toInt := fun z => c_166 (Int32.toInt_inj.mp z)
                  have z_5 := Int32.le_iff_toInt_le.mp c_175
                  have y_0 : (0 : Int32).toInt = 0 := by decide
                  have y_6 : (6 : Int32).toInt = 6 := by decide
                  have y_1 : (1 : Int32).toInt = 1 := by decide
                  have t_x_178 : x_178.toInt = (vy_124 : Int32).toInt + (1 : Int32).toInt := by rw [ex_178]; exact add_toInt (by omega) (by omega)
                  omega
                exact ih_134 x_178 sv_171 vy_126 vy_127 vy_128 vy_129 vy_130 vy_131 vy_132 _ _ _ hb_179.1 hb_179.2 (hP.sub [0, 1, 2, 3, 4, 5, 6, 7, 8, 9, 10, 11] rfl) (hD.sub [0, 1, 2, 3, 4, 5, 6, 7, 8, 9, 10, 11] rfl rfl) hS (lv_sub hl [0, 2, 3, 4, 5, 6, 7] rfl)
              · skip
                refine lv_iconst (v := 1) hx hb dX9_goThroughDay_110 (by decide) ?_
                refine lv_goto (tgt := 115) hx hb dX9_goThroughDay_111 (by decide) ?_
                refine lv_istore (lv' := [(7, .int 1), (6, .int vy_124), (5, .int vy_126), (4, .int x_113), (3, .int r_9), (2, .int r_4), (0, .ref (Aa 0)), (1, .ref (Ra 0))]) hx hb dX9_goThroughDay_115 hl (by decide) rfl (fun ls hl => ?_)
                refine lv_iload hx hb dX9_goThroughDay_117 (lv_at hl 0 rfl) ?_
                refine lv_if_eq (tgt := 157) hx hb dX9_goThroughDay_119 (by decide) (fun c_180 => absurd c_180 (by decide)) (fun c_180 => ?_)
                refine lv_iload hx hb dX9_goThroughDay_122 (lv_at hl 3 rfl) ?_
                refine lv_iload hx hb dX9_goThroughDay_124 (lv_at hl 1 rfl) ?_
                refine lv_ishr hx hb dX9_goThroughDay_126 ?_
                refine lv_topi (fun x_181 ex_181 => ?_)
                refine lv_iconst (v := 1) hx hb dX9_goThroughDay_127 (by decide) ?_
                refine lv_iand hx hb dX9_goThroughDay_128 ?_
                refine lv_topi (fun x_182 ex_182 => ?_)
                refine lv_if_eq (tgt := 157) hx hb dX9_goThroughDay_129 (by decide) (fun c_183 => ?_) (fun c_183 => ?_)
                · skip
                  refine lv_iload hx hb dX9_goThroughDay_157 (lv_at hl 0 rfl) ?_
                  refine lv_if_eq (tgt := 177) hx hb dX9_goThroughDay_159 (by decide) (fun c_184 => absurd c_184 (by decide)) (fun c_184 => ?_)
                  refine lv_aload_n hx hb dX9_goThroughDay_162 rfl (lv_at hl 6 rfl) ?_
                  refine lv_iload hx hb dX9_goThroughDay_163 (lv_at hl 1 rfl) ?_
                  refine cV (a := (Aa 0)) (As := [.int vy_124]) (rest := []) (wr := [((Ra 0), .inr (6, [.ref (Ra 1), .ref (Ra 2)])), ((Ra 1), .inl (tc 0, Rn, .inl (Rf 1))), ((Ra 2), .inl (tc 1, 64, .inr (.inl sv_171)))]) ⟨hx, hb, hml, hown, hts⟩ hK hX hA (cu_X9_handOver l D tc sk (Aa 0) (Aa 1) (Aa 2) (Aa 3) (Aa 4) (Aa 5) (Aa 6) (Aa 7) (Aa 8) vy_127 (Av 1) (Av 2) (Av 3) (Av 4) vy_128 (Af 1) (Af 2) vy_129 (Af 4) (Af 5) vy_130 vy_132 vy_131 vy_124) k_772 k_769 k_770 k_771 k_98 pl_X9_handOver ⟨Nat.le_of_ble_eq_true rfl, Nat.le_of_ble_eq_true rfl⟩ rfl rfl (va_recv hK hP (ci := 9) (q0 := 3) rfl rfl) hP hD hS [3, 4, 5, 6, 7, 8, 9, 10, 11] [0, 1, 2] rfl rfl rfl rfl rfl (by decide) rfl hl.1 rfl (Nat.le_of_ble_eq_true rfl) dX9_goThroughDay_165 ⟨Nat.le_of_ble_eq_true rfl, Nat.le_of_ble_eq_true rfl⟩ (fun v_185 u_186 H locs hv_187 hP hD hS => ?_)
                  obtain ⟨sv_188, sv_189, sv_190, sv_191, sv_192⟩ := u_186
                  obtain rfl : v_185 = none := hv_187
                  refine W.eq (g2 := F0 m 168 ls []) rfl ?_
                  have hP : va_P D classes [((Ra 0), .inr (6, [.ref (Ra 1), .ref (Ra 2)])), ((Ra 1), .inl (tc 0, Rn, .inl (Rf 1))), ((Ra 2), .inl (tc 1, 64, .inr (.inl sv_171))), ((Aa 0), .inr (9, [.int sv_188, .int (Av 1), .int (Av 2), .int (Av 3), .int (Av 4), .int sv_189, .ref (Aa 1), .ref (Aa 2), .ref (Aa 3), .ref (Aa 4), .ref (Aa 5), .ref (Aa 6), .ref (Aa 7), .ref (Aa 8)])), ((Aa 1), .inl (tc 0, 10, .inl (Af 1))), ((Aa 2), .inl (tc 0, 10, .inl (Af 2))), ((Aa 3), .inl (tc 0, 6, .inl sv_190)), ((Aa 4), .inl (tc 0, 6, .inl (Af 4))), ((Aa 5), .inl (tc 0, 6, .inl (Af 5))), ((Aa 6), .inl (tc 0, 6, .inl sv_191)), ((Aa 7), .inl (tc 0, 6, .inl vy_132)), ((Aa 8), .inl (tc 0, 6, .inl sv_192))] H := hP
                  have hD : va_D A [((Ra 0), .inr (6, [.ref (Ra 1), .ref (Ra 2)])), ((Ra 1), .inl (tc 0, Rn, .inl (Rf 1))), ((Ra 2), .inl (tc 1, 64, .inr (.inl sv_171))), ((Aa 0), .inr (9, [.int sv_188, .int (Av 1), .int (Av 2), .int (Av 3), .int (Av 4), .int sv_189, .ref (Aa 1), .ref (Aa 2), .ref (Aa 3), .ref (Aa 4), .ref (Aa 5), .ref (Aa 6), .ref (Aa 7), .ref (Aa 8)])), ((Aa 1), .inl (tc 0, 10, .inl (Af 1))), ((Aa 2), .inl (tc 0, 10, .inl (Af 2))), ((Aa 3), .inl (tc 0, 6, .inl sv_190)), ((Aa 4), .inl (tc 0, 6, .inl (Af 4))), ((Aa 5), .inl (tc 0, 6, .inl (Af 5))), ((Aa 6), .inl (tc 0, 6, .inl sv_191)), ((Aa 7), .inl (tc 0, 6, .inl vy_132)), ((Aa 8), .inl (tc 0, 6, .inl sv_192))] := hD
                  refine lv_iload hx hb dX9_goThroughDay_168 (lv_at hl 2 rfl) ?_
                  refine lv_iconst (v := 1) hx hb dX9_goThroughDay_170 (by decide) ?_
                  refine lv_iload hx hb dX9_goThroughDay_171 (lv_at hl 1 rfl) ?_
                  refine lv_ishl hx hb dX9_goThroughDay_173 ?_
                  refine lv_topi (fun x_193 ex_193 => ?_)
                  refine lv_ior hx hb dX9_goThroughDay_174 ?_
                  refine lv_topi (fun x_194 ex_194 => ?_)
                  refine lv_istore (lv' := [(5, .int x_194), (7, .int 1), (6, .int vy_124), (4, .int x_113), (3, .int r_9), (2, .int r_4), (0, .ref (Aa 0)), (1, .ref (Ra 0))]) hx hb dX9_goThroughDay_175 hl (by decide) rfl (fun ls hl => ?_)
                  obtain ⟨x_195, ex_195⟩ : ∃ y : Int32, y = vy_124 + 1 := ⟨_, rfl⟩
                  refine lv_iinc (v := x_195) (lv' := [(6, .int x_195), (5, .int x_194), (7, .int 1), (4, .int x_113), (3, .int r_9), (2, .int r_4), (0, .ref (Aa 0)), (1, .ref (Ra 0))]) hx hb dX9_goThroughDay_177 hl (k := 2) rfl (by rw [ex_195]; rfl) (by decide) rfl (fun ls hl => ?_)
                  refine lv_goto (tgt := 44) hx hb dX9_goThroughDay_180 (by decide) ?_
                  have hb_196 : 0 ≤ (x_195 : Int32).toInt ∧ (6 - (x_195 : Int32).toInt).toNat < n_133 := by
                    have z_1 : ¬ (r_14 : Int32).toInt = (0 : Int32).toInt := fun z => c_16 (Int32.toInt_inj.mp z)
                    have z_2 := Int32.lt_iff_toInt_lt.mp (Int32.not_le.mp c_139)
                    have z_3 := Int32.lt_iff_toInt_lt.mp (Int32.not_le.mp c_150)
                    have z_4 : ¬ (r_164 : Int32).toInt = (0 : Int32).toInt := fun z => c_166 (Int32.toInt_inj.mp z)
                    have z_5 := Int32.lt_iff_toInt_lt.mp (Int32.not_le.mp c_175)
                    have z_6 := congrArg Int32.toInt c_183
                    have y_0 : (0 : Int32).toInt = 0 := by decide
                    have y_6 : (6 : Int32).toInt = 6 := by decide
                    have y_1 : (1 : Int32).toInt = 1 := by decide
                    have t_x_195 : x_195.toInt = (vy_124 : Int32).toInt + (1 : Int32).toInt := by rw [ex_195]; exact add_toInt (by omega) (by omega)
                    omega
                  exact ih_134 x_195 sv_171 x_194 sv_188 sv_189 sv_190 sv_191 sv_192 vy_132 _ _ _ hb_196.1 hb_196.2 (hP.sub [0, 1, 2, 3, 4, 5, 6, 7, 8, 9, 10, 11] rfl) (hD.sub [0, 1, 2, 3, 4, 5, 6, 7, 8, 9, 10, 11] rfl rfl) hS (lv_sub hl [0, 1, 3, 4, 5, 6, 7] rfl)
                · skip
                  refine lv_aload_n hx hb dX9_goThroughDay_132 rfl (lv_at hl 6 rfl) ?_
                  refine gf_X9_49 hx hb hts hown hK hP 3 rfl rfl dX9_goThroughDay_133 ?_
                  refine lv_iload hx hb dX9_goThroughDay_136 (lv_at hl 1 rfl) ?_
                  refine lv_dup2_11 hx hb dX9_goThroughDay_138 rfl rfl ?_
                  have hi_197 : vp_in vy_124 6 := by
                    have z_1 : ¬ (r_14 : Int32).toInt = (0 : Int32).toInt := fun z => c_16 (Int32.toInt_inj.mp z)
                    have z_2 := Int32.lt_iff_toInt_lt.mp (Int32.not_le.mp c_139)
                    have z_3 := Int32.lt_iff_toInt_lt.mp (Int32.not_le.mp c_150)
                    have z_4 : ¬ (r_164 : Int32).toInt = (0 : Int32).toInt := fun z => c_166 (Int32.toInt_inj.mp z)
                    have z_5 := Int32.lt_iff_toInt_lt.mp (Int32.not_le.mp c_175)
                    have z_6 : ¬ (x_182 : Int32).toInt = (0 : Int32).toInt := fun z => c_183 (Int32.toInt_inj.mp z)
                    have y_0 : (0 : Int32).toInt = 0 := by decide
                    have y_6 : (6 : Int32).toInt = 6 := by decide
                    refine vp_in_iff.mpr ⟨?_, ?_⟩ <;> omega
                  refine va_iald hx hb hK hP 10 0 rfl rfl hi_197 dX9_goThroughDay_139 ?_
                  refine lv_topi (fun x_198 ex_198 => ?_)
                  refine lv_iconst (v := 1) hx hb dX9_goThroughDay_140 (by decide) ?_
                  refine lv_iadd hx hb dX9_goThroughDay_141 ?_
                  refine lv_topi (fun x_199 ex_199 => ?_)
                  have hi_200 : vp_in vy_124 6 := by
                    have z_1 : ¬ (r_14 : Int32).toInt = (0 : Int32).toInt := fun z => c_16 (Int32.toInt_inj.mp z)
                    have z_2 := Int32.lt_iff_toInt_lt.mp (Int32.not_le.mp c_139)
                    have z_3 := Int32.lt_iff_toInt_lt.mp (Int32.not_le.mp c_150)
                    have z_4 : ¬ (r_164 : Int32).toInt = (0 : Int32).toInt := fun z => c_166 (Int32.toInt_inj.mp z)
                    have z_5 := Int32.lt_iff_toInt_lt.mp (Int32.not_le.mp c_175)
                    have z_6 : ¬ (x_182 : Int32).toInt = (0 : Int32).toInt := fun z => c_183 (Int32.toInt_inj.mp z)
                    have y_0 : (0 : Int32).toInt = 0 := by decide
                    have y_6 : (6 : Int32).toInt = 6 := by decide
                    refine vp_in_iff.mpr ⟨?_, ?_⟩ <;> omega
                  refine st_int hx hb hK hP hD hS 10 0 rfl rfl hi_200 dX9_goThroughDay_142 (fun g_201 H locs eg_201 hP hD hS => ?_)
                  have hP : va_P D classes [((Ra 0), .inr (6, [.ref (Ra 1), .ref (Ra 2)])), ((Ra 1), .inl (tc 0, Rn, .inl (Rf 1))), ((Ra 2), .inl (tc 1, 64, .inr (.inl sv_171))), ((Aa 0), .inr (9, [.int vy_127, .int (Av 1), .int (Av 2), .int (Av 3), .int (Av 4), .int vy_128, .ref (Aa 1), .ref (Aa 2), .ref (Aa 3), .ref (Aa 4), .ref (Aa 5), .ref (Aa 6), .ref (Aa 7), .ref (Aa 8)])), ((Aa 1), .inl (tc 0, 10, .inl (Af 1))), ((Aa 2), .inl (tc 0, 10, .inl (Af 2))), ((Aa 3), .inl (tc 0, 6, .inl vy_129)), ((Aa 4), .inl (tc 0, 6, .inl (Af 4))), ((Aa 5), .inl (tc 0, 6, .inl (Af 5))), ((Aa 6), .inl (tc 0, 6, .inl vy_130)), ((Aa 7), .inl (tc 0, 6, .inl g_201)), ((Aa 8), .inl (tc 0, 6, .inl vy_131))] H := hP
                  have hD : va_D A [((Ra 0), .inr (6, [.ref (Ra 1), .ref (Ra 2)])), ((Ra 1), .inl (tc 0, Rn, .inl (Rf 1))), ((Ra 2), .inl (tc 1, 64, .inr (.inl sv_171))), ((Aa 0), .inr (9, [.int vy_127, .int (Av 1), .int (Av 2), .int (Av 3), .int (Av 4), .int vy_128, .ref (Aa 1), .ref (Aa 2), .ref (Aa 3), .ref (Aa 4), .ref (Aa 5), .ref (Aa 6), .ref (Aa 7), .ref (Aa 8)])), ((Aa 1), .inl (tc 0, 10, .inl (Af 1))), ((Aa 2), .inl (tc 0, 10, .inl (Af 2))), ((Aa 3), .inl (tc 0, 6, .inl vy_129)), ((Aa 4), .inl (tc 0, 6, .inl (Af 4))), ((Aa 5), .inl (tc 0, 6, .inl (Af 5))), ((Aa 6), .inl (tc 0, 6, .inl vy_130)), ((Aa 7), .inl (tc 0, 6, .inl g_201)), ((Aa 8), .inl (tc 0, 6, .inl vy_131))] := hD
                  refine lv_aload_n hx hb dX9_goThroughDay_143 rfl (lv_at hl 6 rfl) ?_
                  refine gf_X9_52 hx hb hts hown hK hP 3 rfl rfl dX9_goThroughDay_144 ?_
                  refine lv_iload hx hb dX9_goThroughDay_147 (lv_at hl 1 rfl) ?_
                  refine lv_aload_n hx hb dX9_goThroughDay_149 rfl (lv_at hl 6 rfl) ?_
                  refine gf_X9_24 hx hb hts hown hK hP 3 rfl rfl dX9_goThroughDay_150 ?_
                  have hi_202 : vp_in vy_124 6 := by
                    have z_1 : ¬ (r_14 : Int32).toInt = (0 : Int32).toInt := fun z => c_16 (Int32.toInt_inj.mp z)
                    have z_2 := Int32.lt_iff_toInt_lt.mp (Int32.not_le.mp c_139)
                    have z_3 := Int32.lt_iff_toInt_lt.mp (Int32.not_le.mp c_150)
                    have z_4 : ¬ (r_164 : Int32).toInt = (0 : Int32).toInt := fun z => c_166 (Int32.toInt_inj.mp z)
                    have z_5 := Int32.lt_iff_toInt_lt.mp (Int32.not_le.mp c_175)
                    have z_6 : ¬ (x_182 : Int32).toInt = (0 : Int32).toInt := fun z => c_183 (Int32.toInt_inj.mp z)
                    have y_0 : (0 : Int32).toInt = 0 := by decide
                    have y_6 : (6 : Int32).toInt = 6 := by decide
                    refine vp_in_iff.mpr ⟨?_, ?_⟩ <;> omega
                  refine st_int hx hb hK hP hD hS 11 0 rfl rfl hi_202 dX9_goThroughDay_153 (fun g_203 H locs eg_203 hP hD hS => ?_)
                  have hP : va_P D classes [((Ra 0), .inr (6, [.ref (Ra 1), .ref (Ra 2)])), ((Ra 1), .inl (tc 0, Rn, .inl (Rf 1))), ((Ra 2), .inl (tc 1, 64, .inr (.inl sv_171))), ((Aa 0), .inr (9, [.int vy_127, .int (Av 1), .int (Av 2), .int (Av 3), .int (Av 4), .int vy_128, .ref (Aa 1), .ref (Aa 2), .ref (Aa 3), .ref (Aa 4), .ref (Aa 5), .ref (Aa 6), .ref (Aa 7), .ref (Aa 8)])), ((Aa 1), .inl (tc 0, 10, .inl (Af 1))), ((Aa 2), .inl (tc 0, 10, .inl (Af 2))), ((Aa 3), .inl (tc 0, 6, .inl vy_129)), ((Aa 4), .inl (tc 0, 6, .inl (Af 4))), ((Aa 5), .inl (tc 0, 6, .inl (Af 5))), ((Aa 6), .inl (tc 0, 6, .inl vy_130)), ((Aa 7), .inl (tc 0, 6, .inl g_201)), ((Aa 8), .inl (tc 0, 6, .inl g_203))] H := hP
                  have hD : va_D A [((Ra 0), .inr (6, [.ref (Ra 1), .ref (Ra 2)])), ((Ra 1), .inl (tc 0, Rn, .inl (Rf 1))), ((Ra 2), .inl (tc 1, 64, .inr (.inl sv_171))), ((Aa 0), .inr (9, [.int vy_127, .int (Av 1), .int (Av 2), .int (Av 3), .int (Av 4), .int vy_128, .ref (Aa 1), .ref (Aa 2), .ref (Aa 3), .ref (Aa 4), .ref (Aa 5), .ref (Aa 6), .ref (Aa 7), .ref (Aa 8)])), ((Aa 1), .inl (tc 0, 10, .inl (Af 1))), ((Aa 2), .inl (tc 0, 10, .inl (Af 2))), ((Aa 3), .inl (tc 0, 6, .inl vy_129)), ((Aa 4), .inl (tc 0, 6, .inl (Af 4))), ((Aa 5), .inl (tc 0, 6, .inl (Af 5))), ((Aa 6), .inl (tc 0, 6, .inl vy_130)), ((Aa 7), .inl (tc 0, 6, .inl g_201)), ((Aa 8), .inl (tc 0, 6, .inl g_203))] := hD
                  refine lv_goto (tgt := 177) hx hb dX9_goThroughDay_154 (by decide) ?_
                  obtain ⟨x_204, ex_204⟩ : ∃ y : Int32, y = vy_124 + 1 := ⟨_, rfl⟩
                  refine lv_iinc (v := x_204) (lv' := [(6, .int x_204), (7, .int 1), (5, .int vy_126), (4, .int x_113), (3, .int r_9), (2, .int r_4), (0, .ref (Aa 0)), (1, .ref (Ra 0))]) hx hb dX9_goThroughDay_177 hl (k := 1) rfl (by rw [ex_204]; rfl) (by decide) rfl (fun ls hl => ?_)
                  refine lv_goto (tgt := 44) hx hb dX9_goThroughDay_180 (by decide) ?_
                  have hb_205 : 0 ≤ (x_204 : Int32).toInt ∧ (6 - (x_204 : Int32).toInt).toNat < n_133 := by
                    have z_1 : ¬ (r_14 : Int32).toInt = (0 : Int32).toInt := fun z => c_16 (Int32.toInt_inj.mp z)
                    have z_2 := Int32.lt_iff_toInt_lt.mp (Int32.not_le.mp c_139)
                    have z_3 := Int32.lt_iff_toInt_lt.mp (Int32.not_le.mp c_150)
                    have z_4 : ¬ (r_164 : Int32).toInt = (0 : Int32).toInt := fun z => c_166 (Int32.toInt_inj.mp z)
                    have z_5 := Int32.lt_iff_toInt_lt.mp (Int32.not_le.mp c_175)
                    have z_6 : ¬ (x_182 : Int32).toInt = (0 : Int32).toInt := fun z => c_183 (Int32.toInt_inj.mp z)
                    have y_0 : (0 : Int32).toInt = 0 := by decide
                    have y_6 : (6 : Int32).toInt = 6 := by decide
                    have y_1 : (1 : Int32).toInt = 1 := by decide
                    have t_x_204 : x_204.toInt = (vy_124 : Int32).toInt + (1 : Int32).toInt := by rw [ex_204]; exact add_toInt (by omega) (by omega)
                    omega
                  exact ih_134 x_204 sv_171 vy_126 vy_127 vy_128 vy_129 vy_130 g_203 g_201 _ _ _ hb_205.1 hb_205.2 (hP.sub [0, 1, 2, 3, 4, 5, 6, 7, 8, 9, 10, 11] rfl) (hD.sub [0, 1, 2, 3, 4, 5, 6, 7, 8, 9, 10, 11] rfl rfl) hS (lv_sub hl [0, 2, 3, 4, 5, 6, 7] rfl)
            · skip
              refine lv_goto (tgt := 177) hx hb dX9_goThroughDay_69 (by decide) ?_
              obtain ⟨x_206, ex_206⟩ : ∃ y : Int32, y = vy_124 + 1 := ⟨_, rfl⟩
              refine lv_iinc (v := x_206) (lv' := [(6, .int x_206), (5, .int vy_126), (4, .int x_113), (3, .int r_9), (2, .int r_4), (0, .ref (Aa 0)), (1, .ref (Ra 0))]) hx hb dX9_goThroughDay_177 hl (k := 0) rfl (by rw [ex_206]; rfl) (by decide) rfl (fun ls hl => ?_)
              refine lv_goto (tgt := 44) hx hb dX9_goThroughDay_180 (by decide) ?_
              have hb_207 : 0 ≤ (x_206 : Int32).toInt ∧ (6 - (x_206 : Int32).toInt).toNat < n_133 := by
                have z_1 : ¬ (r_14 : Int32).toInt = (0 : Int32).toInt := fun z => c_16 (Int32.toInt_inj.mp z)
                have z_2 := Int32.lt_iff_toInt_lt.mp (Int32.not_le.mp c_139)
                have z_3 := Int32.lt_iff_toInt_lt.mp (Int32.not_le.mp c_150)
                have z_4 := congrArg Int32.toInt c_166
                have y_0 : (0 : Int32).toInt = 0 := by decide
                have y_6 : (6 : Int32).toInt = 6 := by decide
                have y_1 : (1 : Int32).toInt = 1 := by decide
                have t_x_206 : x_206.toInt = (vy_124 : Int32).toInt + (1 : Int32).toInt := by rw [ex_206]; exact add_toInt (by omega) (by omega)
                omega
              exact ih_134 x_206 vy_125 vy_126 vy_127 vy_128 vy_129 vy_130 vy_131 vy_132 _ _ _ hb_207.1 hb_207.2 (hP.sub [0, 1, 2, 3, 4, 5, 6, 7, 8, 9, 10, 11] rfl) (hD.sub [0, 1, 2, 3, 4, 5, 6, 7, 8, 9, 10, 11] rfl rfl) hS (lv_sub hl [0, 1, 2, 3, 4, 5, 6] rfl)
    have h0_208 : 0 ≤ (0 : Int32).toInt := by
      have z_1 : ¬ (r_14 : Int32).toInt = (0 : Int32).toInt := fun z => c_16 (Int32.toInt_inj.mp z)
      have y_0 : (0 : Int32).toInt = 0 := by decide
      decide
    exact loop_135 _ 0 (Rg 2) 0 (Av 0) (Av 5) (Af 3) (Af 6) (Af 8) (Af 7) _ _ _ h0_208 (Nat.lt_succ_self _) hP hD hS hl
set_option maxRecDepth 100000 in
theorem cu_X9_goThroughDay_r (l : Launch) (D : va_G) (tc : Nat → ClassId) (sk : (Nat → Nat) × (Nat → Nat)) (Aa_0 : Nat) (Aa_1 : Nat) (Aa_2 : Nat) (Aa_3 : Nat) (Aa_4 : Nat) (Aa_5 : Nat) (Aa_6 : Nat) (Aa_7 : Nat) (Aa_8 : Nat) (Av_0 : Int32) (Av_1 : Int32) (Av_2 : Int32) (Av_3 : Int32) (Av_4 : Int32) (Av_5 : Int32) (Af_1 : Nat → Int32) (Af_2 : Nat → Int32) (Af_3 : Nat → Int32) (Af_4 : Nat → Int32) (Af_5 : Nat → Int32) (Af_6 : Nat → Int32) (Af_7 : Nat → Int32) (Af_8 : Nat → Int32) (Ra_0 : Nat) (Ra_1 : Nat) (Ra_2 : Nat) (Rf_1 : Nat → Int32) (Rg_2 : Nat → Int64) (Rn : Nat) (hRn : Rn ≤ 400) : Ct l yX9_goThroughDay cX9_goThroughDay 8 (some .int) { frames := 4, cells := 0, slots := 0, locals := 89 } D tc sk [.ref Aa_0, .ref Ra_0] [(Aa_0, .inr (9, [.int Av_0, .int Av_1, .int Av_2, .int Av_3, .int Av_4, .int Av_5, .ref Aa_1, .ref Aa_2, .ref Aa_3, .ref Aa_4, .ref Aa_5, .ref Aa_6, .ref Aa_7, .ref Aa_8])), (Aa_1, .inl (tc 0, 10, .inl Af_1)), (Aa_2, .inl (tc 0, 10, .inl Af_2)), (Aa_3, .inl (tc 0, 6, .inl Af_3)), (Aa_4, .inl (tc 0, 6, .inl Af_4)), (Aa_5, .inl (tc 0, 6, .inl Af_5)), (Aa_6, .inl (tc 0, 6, .inl Af_6)), (Aa_7, .inl (tc 0, 6, .inl Af_7)), (Aa_8, .inl (tc 0, 6, .inl Af_8)), (Ra_0, .inr (6, [.ref Ra_1, .ref Ra_2])), (Ra_1, .inl (tc 0, Rn, .inl Rf_1)), (Ra_2, .inl (tc 1, 64, .inr (.inl Rg_2)))] (fun (v : Option Value) (u : (Int32) × (Int32) × (Int32) × (Nat → Int32) × (Nat → Int32) × (Nat → Int32) × (Nat → Int32) × (Nat → Int64)) => match u with | (o1, o2, o3, o4, o5, o6, o7, o8) => ∃ r : Int32, v = some (.int r) ∧ (True)) (fun (u : (Int32) × (Int32) × (Int32) × (Nat → Int32) × (Nat → Int32) × (Nat → Int32) × (Nat → Int32) × (Nat → Int64)) => match u with | (o1, o2, o3, o4, o5, o6, o7, o8) => [(Aa_0, .inr (9, [.int o1, .int Av_1, .int Av_2, .int Av_3, .int o2, .int o3, .ref Aa_1, .ref Aa_2, .ref Aa_3, .ref Aa_4, .ref Aa_5, .ref Aa_6, .ref Aa_7, .ref Aa_8])), (Aa_1, .inl (tc 0, 10, .inl Af_1)), (Aa_2, .inl (tc 0, 10, .inl Af_2)), (Aa_3, .inl (tc 0, 6, .inl o4)), (Aa_4, .inl (tc 0, 6, .inl Af_4)), (Aa_5, .inl (tc 0, 6, .inl Af_5)), (Aa_6, .inl (tc 0, 6, .inl o5)), (Aa_7, .inl (tc 0, 6, .inl o6)), (Aa_8, .inl (tc 0, 6, .inl o7)), (Ra_0, .inr (6, [.ref Ra_1, .ref Ra_2])), (Ra_1, .inl (tc 0, Rn, .inl Rf_1)), (Ra_2, .inl (tc 1, 64, .inr (.inl o8)))]) 0 0 :=
  ct_X9_goThroughDay_r l D tc sk (fun k => ([Aa_0, Aa_1, Aa_2, Aa_3, Aa_4, Aa_5, Aa_6, Aa_7, Aa_8] : List (Nat)).getD k 0) (fun k => ([Av_0, Av_1, Av_2, Av_3, Av_4, Av_5] : List (Int32)).getD k 0) (fun k => ([(fun _ => 0), Af_1, Af_2, Af_3, Af_4, Af_5, Af_6, Af_7, Af_8] : List (Nat → Int32)).getD k (fun _ => 0)) (fun k => ([Ra_0, Ra_1, Ra_2] : List (Nat)).getD k 0) (fun k => ([(fun _ => 0), Rf_1] : List (Nat → Int32)).getD k (fun _ => 0)) (fun k => ([(fun _ => 0), (fun _ => 0), Rg_2] : List (Nat → Int64)).getD k (fun _ => 0)) Rn hRn
set_option maxHeartbeats 4000000 in
set_option maxRecDepth 100000 in
theorem ct_X9_soldWithin_r (l : Launch) (D : va_G) (tc : Nat → ClassId) (sk : (Nat → Nat) × (Nat → Nat)) (Aa : Nat → Nat) (Av : Nat → Int32) (Af : Nat → Nat → Int32) (Ra : Nat → Nat) (Rf : Nat → Nat → Int32) (Rg : Nat → Nat → Int64) (Rn : Nat) (x1 : Int32) (hRn : Rn ≤ 400) : Ct l yX9_soldWithin cX9_soldWithin 5 (some .int) { frames := 5, cells := 0, slots := 0, locals := 116 } D tc sk [.ref (Aa 0), .int x1, .ref (Ra 0)] [((Aa 0), .inr (9, [.int (Av 0), .int (Av 1), .int (Av 2), .int (Av 3), .int (Av 4), .int (Av 5), .ref (Aa 1), .ref (Aa 2), .ref (Aa 3), .ref (Aa 4), .ref (Aa 5), .ref (Aa 6), .ref (Aa 7), .ref (Aa 8)])), ((Aa 1), .inl (tc 0, 10, .inl (Af 1))), ((Aa 2), .inl (tc 0, 10, .inl (Af 2))), ((Aa 3), .inl (tc 0, 6, .inl (Af 3))), ((Aa 4), .inl (tc 0, 6, .inl (Af 4))), ((Aa 5), .inl (tc 0, 6, .inl (Af 5))), ((Aa 6), .inl (tc 0, 6, .inl (Af 6))), ((Aa 7), .inl (tc 0, 6, .inl (Af 7))), ((Aa 8), .inl (tc 0, 6, .inl (Af 8))), ((Ra 0), .inr (6, [.ref (Ra 1), .ref (Ra 2)])), ((Ra 1), .inl (tc 0, Rn, .inl (Rf 1))), ((Ra 2), .inl (tc 1, 64, .inr (.inl (Rg 2))))] (fun (v : Option Value) (u : (Int32) × (Int32) × (Int32) × (Nat → Int32) × (Nat → Int32) × (Nat → Int32) × (Nat → Int32) × (Nat → Int64)) => match u with | (o1, o2, o3, o4, o5, o6, o7, o8) => ∃ r : Int32, v = some (.int r) ∧ (True)) (fun (u : (Int32) × (Int32) × (Int32) × (Nat → Int32) × (Nat → Int32) × (Nat → Int32) × (Nat → Int32) × (Nat → Int64)) => match u with | (o1, o2, o3, o4, o5, o6, o7, o8) => [((Aa 0), .inr (9, [.int o1, .int (Av 1), .int (Av 2), .int (Av 3), .int o2, .int o3, .ref (Aa 1), .ref (Aa 2), .ref (Aa 3), .ref (Aa 4), .ref (Aa 5), .ref (Aa 6), .ref (Aa 7), .ref (Aa 8)])), ((Aa 1), .inl (tc 0, 10, .inl (Af 1))), ((Aa 2), .inl (tc 0, 10, .inl (Af 2))), ((Aa 3), .inl (tc 0, 6, .inl o4)), ((Aa 4), .inl (tc 0, 6, .inl (Af 4))), ((Aa 5), .inl (tc 0, 6, .inl (Af 5))), ((Aa 6), .inl (tc 0, 6, .inl o5)), ((Aa 7), .inl (tc 0, 6, .inl o6)), ((Aa 8), .inl (tc 0, 6, .inl o7)), ((Ra 0), .inr (6, [.ref (Ra 1), .ref (Ra 2)])), ((Ra 1), .inl (tc 0, Rn, .inl (Rf 1))), ((Ra 2), .inl (tc 1, 64, .inr (.inl o8)))]) 0 0 := by
  refine Ct.start (by decide) (Nat.le_of_ble_eq_true rfl) (fun p e s m below meth c A ls hx hb hr hlk hin hml hown hts hK hX hP hD hA hl hS => ?_)
  have hl : lv_has ls 5 [(0, .ref (Aa 0)), (1, .int x1), (2, .ref (Ra 0))] := hl
  refine lv_aload_n hx hb dX9_soldWithin_0 rfl (lv_at hl 0 rfl) ?_
  refine gf_X9_27 hx hb hts hown hK hP 0 rfl rfl dX9_soldWithin_1 ?_
  refine lv_istore_n (lv' := [(3, .int (Av 5)), (0, .ref (Aa 0)), (1, .int x1), (2, .ref (Ra 0))]) hx hb dX9_soldWithin_4 rfl hl (by decide) rfl (fun ls hl => ?_)
  refine lv_iconst (v := 0) hx hb dX9_soldWithin_5 (by decide) ?_
  refine lv_istore (lv' := [(4, .int 0), (3, .int (Av 5)), (0, .ref (Aa 0)), (1, .int x1), (2, .ref (Ra 0))]) hx hb dX9_soldWithin_6 hl (by decide) rfl (fun ls hl => ?_)
  have hmx_23 := i32_le x1
  have loop_22 : ∀ (n_20 : Nat) (vy_11 : Int32) (vy_12 : Int32) (vy_13 : Int32) (vy_14 : Int32) (vy_15 : Nat → Int32) (vy_16 : Nat → Int32) (vy_17 : Nat → Int32) (vy_18 : Nat → Int32) (vy_19 : Nat → Int64) (H : Heap) (locs : List Loc) (ls : Array Slot), 0 ≤ (vy_11 : Int32).toInt → (x1.toInt - (vy_11 : Int32).toInt).toNat < n_20 → va_P D classes [((Aa 0), .inr (9, [.int vy_12, .int (Av 1), .int (Av 2), .int (Av 3), .int vy_13, .int vy_14, .ref (Aa 1), .ref (Aa 2), .ref (Aa 3), .ref (Aa 4), .ref (Aa 5), .ref (Aa 6), .ref (Aa 7), .ref (Aa 8)])), ((Aa 1), .inl (tc 0, 10, .inl (Af 1))), ((Aa 2), .inl (tc 0, 10, .inl (Af 2))), ((Aa 3), .inl (tc 0, 6, .inl vy_15)), ((Aa 4), .inl (tc 0, 6, .inl (Af 4))), ((Aa 5), .inl (tc 0, 6, .inl (Af 5))), ((Aa 6), .inl (tc 0, 6, .inl vy_16)), ((Aa 7), .inl (tc 0, 6, .inl vy_17)), ((Aa 8), .inl (tc 0, 6, .inl vy_18)), ((Ra 0), .inr (6, [.ref (Ra 1), .ref (Ra 2)])), ((Ra 1), .inl (tc 0, Rn, .inl (Rf 1))), ((Ra 2), .inl (tc 1, 64, .inr (.inl vy_19)))] H → va_D A [((Aa 0), .inr (9, [.int vy_12, .int (Av 1), .int (Av 2), .int (Av 3), .int vy_13, .int vy_14, .ref (Aa 1), .ref (Aa 2), .ref (Aa 3), .ref (Aa 4), .ref (Aa 5), .ref (Aa 6), .ref (Aa 7), .ref (Aa 8)])), ((Aa 1), .inl (tc 0, 10, .inl (Af 1))), ((Aa 2), .inl (tc 0, 10, .inl (Af 2))), ((Aa 3), .inl (tc 0, 6, .inl vy_15)), ((Aa 4), .inl (tc 0, 6, .inl (Af 4))), ((Aa 5), .inl (tc 0, 6, .inl (Af 5))), ((Aa 6), .inl (tc 0, 6, .inl vy_16)), ((Aa 7), .inl (tc 0, 6, .inl vy_17)), ((Aa 8), .inl (tc 0, 6, .inl vy_18)), ((Ra 0), .inr (6, [.ref (Ra 1), .ref (Ra 2)])), ((Ra 1), .inl (tc 0, Rn, .inl (Rf 1))), ((Ra 2), .inl (tc 1, 64, .inr (.inl vy_19)))] → va_S A s.heap H locs → lv_has ls 5 [(4, .int vy_11), (3, .int (Av 5)), (0, .ref (Aa 0)), (1, .int x1), (2, .ref (Ra 0))] → W p l e ({ frames := 5, cells := 0, slots := 0, locals := 116 }) s m ([.ref (Aa 0), .int x1, .ref (Ra 0)].toArray) below meth c H locs 0 0 (MQ below (QW (fun (v : Option Value) (u : (Int32) × (Int32) × (Int32) × (Nat → Int32) × (Nat → Int32) × (Nat → Int32) × (Nat → Int32) × (Nat → Int64)) => match u with | (o1, o2, o3, o4, o5, o6, o7, o8) => ∃ r : Int32, v = some (.int r) ∧ (True)) (BW D (fun (u : (Int32) × (Int32) × (Int32) × (Nat → Int32) × (Nat → Int32) × (Nat → Int32) × (Nat → Int32) × (Nat → Int64)) => match u with | (o1, o2, o3, o4, o5, o6, o7, o8) => [((Aa 0), .inr (9, [.int o1, .int (Av 1), .int (Av 2), .int (Av 3), .int o2, .int o3, .ref (Aa 1), .ref (Aa 2), .ref (Aa 3), .ref (Aa 4), .ref (Aa 5), .ref (Aa 6), .ref (Aa 7), .ref (Aa 8)])), ((Aa 1), .inl (tc 0, 10, .inl (Af 1))), ((Aa 2), .inl (tc 0, 10, .inl (Af 2))), ((Aa 3), .inl (tc 0, 6, .inl o4)), ((Aa 4), .inl (tc 0, 6, .inl (Af 4))), ((Aa 5), .inl (tc 0, 6, .inl (Af 5))), ((Aa 6), .inl (tc 0, 6, .inl o5)), ((Aa 7), .inl (tc 0, 6, .inl o6)), ((Aa 8), .inl (tc 0, 6, .inl o7)), ((Ra 0), .inr (6, [.ref (Ra 1), .ref (Ra 2)])), ((Ra 1), .inl (tc 0, Rn, .inl (Rf 1))), ((Ra 2), .inl (tc 1, 64, .inr (.inl o8)))]) A) A) ([.ref (Aa 0), .int x1, .ref (Ra 0)].toArray) s 0 0 A) (F0 m 8 ls []) := by
    intro n_20
    induction n_20 with
    | zero =>
      intro vy_11 vy_12 vy_13 vy_14 vy_15 vy_16 vy_17 vy_18 vy_19 H locs ls h1 h2
      exact absurd h2 (Nat.not_lt_zero _)
    | succ n_20 ih_21 =>
      intro vy_11 vy_12 vy_13 vy_14 vy_15 vy_16 vy_17 vy_18 vy_19 H locs ls hi_25 hn_26 hP hD hS hl
      refine lv_iload hx hb dX9_soldWithin_8 (lv_at hl 0 rfl) ?_
      refine lv_iload_n hx hb dX9_soldWithin_10 rfl (lv_at hl 3 rfl) ?_
      refine lv_icmp_ge (tgt := 26) hx hb dX9_soldWithin_11 (by decide) (fun c_27 => ?_) (fun c_27 => ?_)
      · skip
        refine lv_aload_n hx hb dX9_soldWithin_26 rfl (lv_at hl 2 rfl) ?_
        refine gf_X9_27 hx hb hts hown hK hP 0 rfl rfl dX9_soldWithin_27 ?_
        refine lv_iload_n hx hb dX9_soldWithin_30 rfl (lv_at hl 1 rfl) ?_
        refine lv_isub hx hb dX9_soldWithin_31 ?_
        refine lv_topi (fun x_28 ex_28 => ?_)
        exact retI (v := x_28) hx hb hr hlk (rfl) hP hD hS (vy_12, vy_13, vy_14, vy_15, vy_16, vy_17, vy_18, vy_19) ⟨_, rfl, trivial⟩ [0, 1, 2, 3, 4, 5, 6, 7, 8, 9, 10, 11] rfl rfl dX9_soldWithin_32 (Nat.le_of_ble_eq_true rfl) (Nat.le_of_ble_eq_true rfl) rfl
      · skip
        refine lv_aload_n hx hb dX9_soldWithin_14 rfl (lv_at hl 2 rfl) ?_
        refine lv_aload_n hx hb dX9_soldWithin_15 rfl (lv_at hl 4 rfl) ?_
        have hh_29 : Rn ≤ 400 := by
          have z_1 := Int32.lt_iff_toInt_lt.mp (Int32.not_le.mp c_27)
          first | assumption | omega
        refine cV (a := (Aa 0)) (As := [.ref (Ra 0)]) (rest := []) (wr := []) ⟨hx, hb, hml, hown, hts⟩ hK hX hA (cu_X9_goThroughDay_r l D tc sk (Aa 0) (Aa 1) (Aa 2) (Aa 3) (Aa 4) (Aa 5) (Aa 6) (Aa 7) (Aa 8) vy_12 (Av 1) (Av 2) (Av 3) vy_13 vy_14 (Af 1) (Af 2) vy_15 (Af 4) (Af 5) vy_16 vy_17 vy_18 (Ra 0) (Ra 1) (Ra 2) (Rf 1) vy_19 Rn hh_29) k_739 k_819 k_737 k_738 k_98 pl_X9_goThroughDay ⟨Nat.le_of_ble_eq_true rfl, Nat.le_of_ble_eq_true rfl⟩ rfl rfl (va_recv hK hP (ci := 9) (q0 := 0) rfl rfl) hP hD hS [0, 1, 2, 3, 4, 5, 6, 7, 8, 9, 10, 11] [] rfl rfl rfl rfl rfl (by decide) rfl hl.1 rfl (Nat.le_of_ble_eq_true rfl) dX9_soldWithin_16 ⟨Nat.le_of_ble_eq_true rfl, Nat.le_of_ble_eq_true rfl⟩ (fun v_30 u_31 H locs hv_32 hP hD hS => ?_)
        obtain ⟨sv_33, sv_34, sv_35, sv_36, sv_37, sv_38, sv_39, sv_40⟩ := u_31
        obtain ⟨r_41, rfl, he_42⟩ := hv_32
        have he_42 : (True) := he_42
        refine W.eq (g2 := F0 m 19 ls [.int r_41]) rfl ?_
        have hP : va_P D classes [((Aa 0), .inr (9, [.int sv_33, .int (Av 1), .int (Av 2), .int (Av 3), .int sv_34, .int sv_35, .ref (Aa 1), .ref (Aa 2), .ref (Aa 3), .ref (Aa 4), .ref (Aa 5), .ref (Aa 6), .ref (Aa 7), .ref (Aa 8)])), ((Aa 1), .inl (tc 0, 10, .inl (Af 1))), ((Aa 2), .inl (tc 0, 10, .inl (Af 2))), ((Aa 3), .inl (tc 0, 6, .inl sv_36)), ((Aa 4), .inl (tc 0, 6, .inl (Af 4))), ((Aa 5), .inl (tc 0, 6, .inl (Af 5))), ((Aa 6), .inl (tc 0, 6, .inl sv_37)), ((Aa 7), .inl (tc 0, 6, .inl sv_38)), ((Aa 8), .inl (tc 0, 6, .inl sv_39)), ((Ra 0), .inr (6, [.ref (Ra 1), .ref (Ra 2)])), ((Ra 1), .inl (tc 0, Rn, .inl (Rf 1))), ((Ra 2), .inl (tc 1, 64, .inr (.inl sv_40)))] H := hP
        have hD : va_D A [((Aa 0), .inr (9, [.int sv_33, .int (Av 1), .int (Av 2), .int (Av 3), .int sv_34, .int sv_35, .ref (Aa 1), .ref (Aa 2), .ref (Aa 3), .ref (Aa 4), .ref (Aa 5), .ref (Aa 6), .ref (Aa 7), .ref (Aa 8)])), ((Aa 1), .inl (tc 0, 10, .inl (Af 1))), ((Aa 2), .inl (tc 0, 10, .inl (Af 2))), ((Aa 3), .inl (tc 0, 6, .inl sv_36)), ((Aa 4), .inl (tc 0, 6, .inl (Af 4))), ((Aa 5), .inl (tc 0, 6, .inl (Af 5))), ((Aa 6), .inl (tc 0, 6, .inl sv_37)), ((Aa 7), .inl (tc 0, 6, .inl sv_38)), ((Aa 8), .inl (tc 0, 6, .inl sv_39)), ((Ra 0), .inr (6, [.ref (Ra 1), .ref (Ra 2)])), ((Ra 1), .inl (tc 0, Rn, .inl (Rf 1))), ((Ra 2), .inl (tc 1, 64, .inr (.inl sv_40)))] := hD
        refine lv_pop hx hb dX9_soldWithin_19 rfl ?_
        obtain ⟨x_43, ex_43⟩ : ∃ y : Int32, y = vy_11 + 1 := ⟨_, rfl⟩
        refine lv_iinc (v := x_43) (lv' := [(4, .int x_43), (3, .int (Av 5)), (0, .ref (Aa 0)), (1, .int x1), (2, .ref (Ra 0))]) hx hb dX9_soldWithin_20 hl (k := 0) rfl (by rw [ex_43]; rfl) (by decide) rfl (fun ls hl => ?_)
        refine lv_goto (tgt := 8) hx hb dX9_soldWithin_23 (by decide) ?_
        have hb_44 : 0 ≤ (x_43 : Int32).toInt ∧ (x1.toInt - (x_43 : Int32).toInt).toNat < n_20 := by
          have z_1 := Int32.lt_iff_toInt_lt.mp (Int32.not_le.mp c_27)
          have y_1 : (1 : Int32).toInt = 1 := by decide
          have t_x_43 : x_43.toInt = (vy_11 : Int32).toInt + (1 : Int32).toInt := by rw [ex_43]; exact add_toInt (by omega) (by omega)
          omega
        exact ih_21 x_43 sv_33 sv_34 sv_35 sv_36 sv_37 sv_38 sv_39 sv_40 _ _ _ hb_44.1 hb_44.2 (hP.sub [0, 1, 2, 3, 4, 5, 6, 7, 8, 9, 10, 11] rfl) (hD.sub [0, 1, 2, 3, 4, 5, 6, 7, 8, 9, 10, 11] rfl rfl) hS (lv_sub hl [0, 1, 2, 3, 4] rfl)
  have h0_45 : 0 ≤ (0 : Int32).toInt := by
    have y_0 : (0 : Int32).toInt = 0 := by decide
    decide
  exact loop_22 _ 0 (Av 0) (Av 4) (Av 5) (Af 3) (Af 6) (Af 7) (Af 8) (Rg 2) _ _ _ h0_45 (Nat.lt_succ_self _) hP hD hS hl
set_option maxRecDepth 100000 in
theorem cu_X9_soldWithin_r (l : Launch) (D : va_G) (tc : Nat → ClassId) (sk : (Nat → Nat) × (Nat → Nat)) (Aa_0 : Nat) (Aa_1 : Nat) (Aa_2 : Nat) (Aa_3 : Nat) (Aa_4 : Nat) (Aa_5 : Nat) (Aa_6 : Nat) (Aa_7 : Nat) (Aa_8 : Nat) (Av_0 : Int32) (Av_1 : Int32) (Av_2 : Int32) (Av_3 : Int32) (Av_4 : Int32) (Av_5 : Int32) (Af_1 : Nat → Int32) (Af_2 : Nat → Int32) (Af_3 : Nat → Int32) (Af_4 : Nat → Int32) (Af_5 : Nat → Int32) (Af_6 : Nat → Int32) (Af_7 : Nat → Int32) (Af_8 : Nat → Int32) (Ra_0 : Nat) (Ra_1 : Nat) (Ra_2 : Nat) (Rf_1 : Nat → Int32) (Rg_2 : Nat → Int64) (Rn : Nat) (x1 : Int32) (hRn : Rn ≤ 400) : Ct l yX9_soldWithin cX9_soldWithin 5 (some .int) { frames := 5, cells := 0, slots := 0, locals := 116 } D tc sk [.ref Aa_0, .int x1, .ref Ra_0] [(Aa_0, .inr (9, [.int Av_0, .int Av_1, .int Av_2, .int Av_3, .int Av_4, .int Av_5, .ref Aa_1, .ref Aa_2, .ref Aa_3, .ref Aa_4, .ref Aa_5, .ref Aa_6, .ref Aa_7, .ref Aa_8])), (Aa_1, .inl (tc 0, 10, .inl Af_1)), (Aa_2, .inl (tc 0, 10, .inl Af_2)), (Aa_3, .inl (tc 0, 6, .inl Af_3)), (Aa_4, .inl (tc 0, 6, .inl Af_4)), (Aa_5, .inl (tc 0, 6, .inl Af_5)), (Aa_6, .inl (tc 0, 6, .inl Af_6)), (Aa_7, .inl (tc 0, 6, .inl Af_7)), (Aa_8, .inl (tc 0, 6, .inl Af_8)), (Ra_0, .inr (6, [.ref Ra_1, .ref Ra_2])), (Ra_1, .inl (tc 0, Rn, .inl Rf_1)), (Ra_2, .inl (tc 1, 64, .inr (.inl Rg_2)))] (fun (v : Option Value) (u : (Int32) × (Int32) × (Int32) × (Nat → Int32) × (Nat → Int32) × (Nat → Int32) × (Nat → Int32) × (Nat → Int64)) => match u with | (o1, o2, o3, o4, o5, o6, o7, o8) => ∃ r : Int32, v = some (.int r) ∧ (True)) (fun (u : (Int32) × (Int32) × (Int32) × (Nat → Int32) × (Nat → Int32) × (Nat → Int32) × (Nat → Int32) × (Nat → Int64)) => match u with | (o1, o2, o3, o4, o5, o6, o7, o8) => [(Aa_0, .inr (9, [.int o1, .int Av_1, .int Av_2, .int Av_3, .int o2, .int o3, .ref Aa_1, .ref Aa_2, .ref Aa_3, .ref Aa_4, .ref Aa_5, .ref Aa_6, .ref Aa_7, .ref Aa_8])), (Aa_1, .inl (tc 0, 10, .inl Af_1)), (Aa_2, .inl (tc 0, 10, .inl Af_2)), (Aa_3, .inl (tc 0, 6, .inl o4)), (Aa_4, .inl (tc 0, 6, .inl Af_4)), (Aa_5, .inl (tc 0, 6, .inl Af_5)), (Aa_6, .inl (tc 0, 6, .inl o5)), (Aa_7, .inl (tc 0, 6, .inl o6)), (Aa_8, .inl (tc 0, 6, .inl o7)), (Ra_0, .inr (6, [.ref Ra_1, .ref Ra_2])), (Ra_1, .inl (tc 0, Rn, .inl Rf_1)), (Ra_2, .inl (tc 1, 64, .inr (.inl o8)))]) 0 0 :=
  ct_X9_soldWithin_r l D tc sk (fun k => ([Aa_0, Aa_1, Aa_2, Aa_3, Aa_4, Aa_5, Aa_6, Aa_7, Aa_8] : List (Nat)).getD k 0) (fun k => ([Av_0, Av_1, Av_2, Av_3, Av_4, Av_5] : List (Int32)).getD k 0) (fun k => ([(fun _ => 0), Af_1, Af_2, Af_3, Af_4, Af_5, Af_6, Af_7, Af_8] : List (Nat → Int32)).getD k (fun _ => 0)) (fun k => ([Ra_0, Ra_1, Ra_2] : List (Nat)).getD k 0) (fun k => ([(fun _ => 0), Rf_1] : List (Nat → Int32)).getD k (fun _ => 0)) (fun k => ([(fun _ => 0), (fun _ => 0), Rg_2] : List (Nat → Int64)).getD k (fun _ => 0)) Rn x1 hRn
