theorem dX10_keyAt_43 : decode cX10_keyAt 43 = .ok (.goto 4, 3) := by decide +kernel
theorem dX10_keyAt_46 : decode cX10_keyAt 46 = .ok (.iconst 0, 1) := by decide +kernel
theorem dX10_keyAt_47 : decode cX10_keyAt 47 = .ok (.istore 6, 2) := by decide +kernel
theorem dX10_keyAt_49 : decode cX10_keyAt 49 = .ok (.iconst 0, 1) := by decide +kernel
theorem dX10_keyAt_50 : decode cX10_keyAt 50 = .ok (.istore 7, 2) := by decide +kernel
theorem dX10_keyAt_52 : decode cX10_keyAt 52 = .ok (.iload 7, 2) := by decide +kernel
theorem dX10_keyAt_54 : decode cX10_keyAt 54 = .ok (.iload_n 2, 1) := by decide +kernel
theorem dX10_keyAt_55 : decode cX10_keyAt 55 = .ok (.if_icmp .ge 42, 3) := by decide +kernel
theorem dX10_keyAt_58 : decode cX10_keyAt 58 = .ok (.iload 6, 2) := by decide +kernel
theorem dX10_keyAt_60 : decode cX10_keyAt 60 = .ok (.ifCond .eq 37, 3) := by decide +kernel
theorem dX10_keyAt_63 : decode cX10_keyAt 63 = .ok (.ldc 128, 2) := by decide +kernel
theorem dX10_keyAt_65 : decode cX10_keyAt 65 = .ok (.iload 4, 2) := by decide +kernel
theorem dX10_keyAt_67 : decode cX10_keyAt 67 = .ok (.iload 7, 2) := by decide +kernel
theorem dX10_keyAt_69 : decode cX10_keyAt 69 = .ok (.iadd, 1) := by decide +kernel
theorem dX10_keyAt_70 : decode cX10_keyAt 70 = .ok (.invokevirtual 136, 3) := by decide +kernel
theorem dX10_keyAt_73 : decode cX10_keyAt 73 = .ok (.aload_n 0, 1) := by decide +kernel
theorem dX10_keyAt_74 : decode cX10_keyAt 74 = .ok (.iload_n 1, 1) := by decide +kernel
theorem dX10_keyAt_75 : decode cX10_keyAt 75 = .ok (.iload 7, 2) := by decide +kernel
theorem dX10_keyAt_77 : decode cX10_keyAt 77 = .ok (.iadd, 1) := by decide +kernel
theorem dX10_keyAt_78 : decode cX10_keyAt 78 = .ok (.invokevirtual 140, 3) := by decide +kernel
theorem dX10_keyAt_81 : decode cX10_keyAt 81 = .ok (.if_icmp .ne 7, 3) := by decide +kernel
theorem dX10_keyAt_84 : decode cX10_keyAt 84 = .ok (.iconst 1, 1) := by decide +kernel
theorem dX10_keyAt_85 : decode cX10_keyAt 85 = .ok (.goto 4, 3) := by decide +kernel
theorem dX10_keyAt_88 : decode cX10_keyAt 88 = .ok (.iconst 0, 1) := by decide +kernel
theorem dX10_keyAt_89 : decode cX10_keyAt 89 = .ok (.istore 6, 2) := by decide +kernel
theorem dX10_keyAt_91 : decode cX10_keyAt 91 = .ok (.iinc 7 1, 3) := by decide +kernel
theorem dX10_keyAt_94 : decode cX10_keyAt 94 = .ok (.goto (-42), 3) := by decide +kernel
theorem dX10_keyAt_97 : decode cX10_keyAt 97 = .ok (.iload 6, 2) := by decide +kernel
theorem dX10_keyAt_99 : decode cX10_keyAt 99 = .ok (.ifCond .eq 5, 3) := by decide +kernel
theorem dX10_keyAt_102 : decode cX10_keyAt 102 = .ok (.iload_n 3, 1) := by decide +kernel
theorem dX10_keyAt_103 : decode cX10_keyAt 103 = .ok (.ireturn, 1) := by decide +kernel
theorem dX10_keyAt_104 : decode cX10_keyAt 104 = .ok (.iinc 3 1, 3) := by decide +kernel
theorem dX10_keyAt_107 : decode cX10_keyAt 107 = .ok (.iload 5, 2) := by decide +kernel
theorem dX10_keyAt_109 : decode cX10_keyAt 109 = .ok (.iconst 1, 1) := by decide +kernel
theorem dX10_keyAt_110 : decode cX10_keyAt 110 = .ok (.iadd, 1) := by decide +kernel
theorem dX10_keyAt_111 : decode cX10_keyAt 111 = .ok (.istore 4, 2) := by decide +kernel
theorem dX10_keyAt_113 : decode cX10_keyAt 113 = .ok (.iinc 5 1, 3) := by decide +kernel
theorem dX10_keyAt_116 : decode cX10_keyAt 116 = .ok (.goto (-108), 3) := by decide +kernel
theorem dX10_keyAt_119 : decode cX10_keyAt 119 = .ok (.iconst (-1), 1) := by decide +kernel
theorem dX10_keyAt_120 : decode cX10_keyAt 120 = .ok (.ireturn, 1) := by decide +kernel
set_option maxRecDepth 20000 in
theorem ggX10_scan_X10_see : GoodIn wsX10_scan wsX10_see := goodIn_r _ [10, 11, 12, 72, 73, 74, 75, 76, 77, 78, 79, 80, 81, 82, 83, 84, 85, 86, 87, 88, 89, 90, 91, 92, 93, 94, 95, 96, 97, 98, 99, 100, 101, 102, 103, 104, 105, 106, 107, 108, 109, 110, 111, 112, 113, 114, 115, 116, 117, 118, 119, 120, 121] (by decide +kernel) (by decide +kernel)
set_option maxRecDepth 20000 in
theorem gX10_scan_X10_see : GoodIn wsX10_scan (wsV RX10 140 RX10 yX10_see wsX10_see) := goodIn_app (goodIn_of _ (by decide +kernel)) ggX10_scan_X10_see
set_option maxRecDepth 20000 in
theorem ggX10_scan_X10_isSmall : GoodIn wsX10_scan wsX10_isSmall := goodIn_r _ [15] (by decide +kernel) (by decide +kernel)
set_option maxRecDepth 20000 in
theorem gX10_scan_X10_isSmall : GoodIn wsX10_scan (va_wsS RX10 153 yX10_isSmall wsX10_isSmall) := goodIn_app (goodIn_of _ (by decide +kernel)) ggX10_scan_X10_isSmall
set_option maxRecDepth 20000 in
theorem ggX10_scan_X10_keyAt : GoodIn wsX10_scan wsX10_keyAt := goodIn_r _ [19, 20, 21, 22, 23, 24, 25, 26, 27, 28, 29, 30, 31, 32, 33, 34, 35, 36, 37, 38, 39, 40, 41, 42, 43, 44, 45, 46, 47, 48, 49, 50, 51, 52, 53, 54, 55, 56, 57, 58, 59, 60, 61, 62, 63, 64, 65, 66, 67, 68, 6, 7, 8, 9, 10, 11, 12, 72, 73, 74, 75, 76, 77, 78, 79, 80, 81, 82, 83, 84, 85, 86, 87, 88, 89, 90, 91, 92, 93, 94, 95, 96, 97, 98, 99, 100, 101, 102, 103, 104, 105, 106, 107, 108, 109, 110, 111, 112, 113, 114, 115, 116, 117, 118, 119, 120, 121] (by decide +kernel) (by decide +kernel)
set_option maxRecDepth 20000 in
theorem gX10_scan_X10_keyAt : GoodIn wsX10_scan (wsV RX10 157 RX10 yX10_keyAt wsX10_keyAt) := goodIn_app (goodIn_of _ (by decide +kernel)) ggX10_scan_X10_keyAt
set_option maxRecDepth 20000 in
theorem ggX10_scan_X10_isDigit : GoodIn wsX10_scan wsX10_isDigit := goodIn_r _ [71] (by decide +kernel) (by decide +kernel)
set_option maxRecDepth 20000 in
theorem gX10_scan_X10_isDigit : GoodIn wsX10_scan (va_wsS RX10 164 yX10_isDigit wsX10_isDigit) := goodIn_app (goodIn_of _ (by decide +kernel)) ggX10_scan_X10_isDigit
theorem dX10_scan_0 : decode cX10_scan 0 = .ok (.aload_n 0, 1) := by decide +kernel
theorem dX10_scan_1 : decode cX10_scan 1 = .ok (.getfield 144, 3) := by decide +kernel
theorem dX10_scan_4 : decode cX10_scan 4 = .ok (.istore_n 1, 1) := by decide +kernel
theorem dX10_scan_5 : decode cX10_scan 5 = .ok (.aload_n 0, 1) := by decide +kernel
theorem dX10_scan_6 : decode cX10_scan 6 = .ok (.iload_n 1, 1) := by decide +kernel
theorem dX10_scan_7 : decode cX10_scan 7 = .ok (.invokevirtual 140, 3) := by decide +kernel
theorem dX10_scan_10 : decode cX10_scan 10 = .ok (.bipush 32, 2) := by decide +kernel
theorem dX10_scan_12 : decode cX10_scan 12 = .ok (.if_icmp .eq 13, 3) := by decide +kernel
theorem dX10_scan_15 : decode cX10_scan 15 = .ok (.aload_n 0, 1) := by decide +kernel
theorem dX10_scan_16 : decode cX10_scan 16 = .ok (.iload_n 1, 1) := by decide +kernel
theorem dX10_scan_17 : decode cX10_scan 17 = .ok (.invokevirtual 140, 3) := by decide +kernel
theorem dX10_scan_20 : decode cX10_scan 20 = .ok (.bipush 10, 2) := by decide +kernel
theorem dX10_scan_22 : decode cX10_scan 22 = .ok (.if_icmp .ne 9, 3) := by decide +kernel
theorem dX10_scan_25 : decode cX10_scan 25 = .ok (.iinc 1 1, 3) := by decide +kernel
theorem dX10_scan_28 : decode cX10_scan 28 = .ok (.goto (-23), 3) := by decide +kernel
theorem dX10_scan_31 : decode cX10_scan 31 = .ok (.aload_n 0, 1) := by decide +kernel
theorem dX10_scan_32 : decode cX10_scan 32 = .ok (.iload_n 1, 1) := by decide +kernel
theorem dX10_scan_33 : decode cX10_scan 33 = .ok (.putfield 147, 3) := by decide +kernel
theorem dX10_scan_36 : decode cX10_scan 36 = .ok (.aload_n 0, 1) := by decide +kernel
theorem dX10_scan_37 : decode cX10_scan 37 = .ok (.iload_n 1, 1) := by decide +kernel
theorem dX10_scan_38 : decode cX10_scan 38 = .ok (.invokevirtual 140, 3) := by decide +kernel
theorem dX10_scan_41 : decode cX10_scan 41 = .ok (.istore_n 2, 1) := by decide +kernel
theorem dX10_scan_42 : decode cX10_scan 42 = .ok (.iload_n 2, 1) := by decide +kernel
theorem dX10_scan_43 : decode cX10_scan 43 = .ok (.iconst (-1), 1) := by decide +kernel
theorem dX10_scan_44 : decode cX10_scan 44 = .ok (.if_icmp .ne 14, 3) := by decide +kernel
theorem dX10_scan_47 : decode cX10_scan 47 = .ok (.aload_n 0, 1) := by decide +kernel
theorem dX10_scan_48 : decode cX10_scan 48 = .ok (.iconst 4, 1) := by decide +kernel
theorem dX10_scan_49 : decode cX10_scan 49 = .ok (.putfield 150, 3) := by decide +kernel
theorem dX10_scan_52 : decode cX10_scan 52 = .ok (.aload_n 0, 1) := by decide +kernel
theorem dX10_scan_53 : decode cX10_scan 53 = .ok (.iload_n 1, 1) := by decide +kernel
theorem dX10_scan_54 : decode cX10_scan 54 = .ok (.putfield 144, 3) := by decide +kernel
theorem dX10_scan_57 : decode cX10_scan 57 = .ok (.return_, 1) := by decide +kernel
theorem dX10_scan_58 : decode cX10_scan 58 = .ok (.iload_n 1, 1) := by decide +kernel
theorem dX10_scan_59 : decode cX10_scan 59 = .ok (.iconst 1, 1) := by decide +kernel
theorem dX10_scan_60 : decode cX10_scan 60 = .ok (.iadd, 1) := by decide +kernel
theorem dX10_scan_61 : decode cX10_scan 61 = .ok (.istore_n 3, 1) := by decide +kernel
theorem dX10_scan_62 : decode cX10_scan 62 = .ok (.iload_n 2, 1) := by decide +kernel
theorem dX10_scan_63 : decode cX10_scan 63 = .ok (.invokestatic 153, 3) := by decide +kernel
theorem dX10_scan_66 : decode cX10_scan 66 = .ok (.ifCond .eq 52, 3) := by decide +kernel
theorem dX10_scan_69 : decode cX10_scan 69 = .ok (.aload_n 0, 1) := by decide +kernel
theorem dX10_scan_70 : decode cX10_scan 70 = .ok (.iload_n 3, 1) := by decide +kernel
theorem dX10_scan_71 : decode cX10_scan 71 = .ok (.invokevirtual 140, 3) := by decide +kernel
theorem dX10_scan_74 : decode cX10_scan 74 = .ok (.invokestatic 153, 3) := by decide +kernel
theorem dX10_scan_77 : decode cX10_scan 77 = .ok (.ifCond .eq 9, 3) := by decide +kernel
theorem dX10_scan_80 : decode cX10_scan 80 = .ok (.iinc 3 1, 3) := by decide +kernel
theorem dX10_scan_83 : decode cX10_scan 83 = .ok (.goto (-14), 3) := by decide +kernel
theorem dX10_scan_86 : decode cX10_scan 86 = .ok (.aload_n 0, 1) := by decide +kernel
theorem dX10_scan_87 : decode cX10_scan 87 = .ok (.aload_n 0, 1) := by decide +kernel
theorem dX10_scan_88 : decode cX10_scan 88 = .ok (.iload_n 1, 1) := by decide +kernel
theorem dX10_scan_89 : decode cX10_scan 89 = .ok (.iload_n 3, 1) := by decide +kernel
theorem dX10_scan_90 : decode cX10_scan 90 = .ok (.iload_n 1, 1) := by decide +kernel
theorem dX10_scan_91 : decode cX10_scan 91 = .ok (.isub, 1) := by decide +kernel
theorem dX10_scan_92 : decode cX10_scan 92 = .ok (.invokevirtual 157, 3) := by decide +kernel
theorem dX10_scan_95 : decode cX10_scan 95 = .ok (.putfield 161, 3) := by decide +kernel
theorem dX10_scan_98 : decode cX10_scan 98 = .ok (.aload_n 0, 1) := by decide +kernel
theorem dX10_scan_99 : decode cX10_scan 99 = .ok (.aload_n 0, 1) := by decide +kernel
theorem dX10_scan_100 : decode cX10_scan 100 = .ok (.getfield 161, 3) := by decide +kernel
theorem dX10_scan_103 : decode cX10_scan 103 = .ok (.iconst (-1), 1) := by decide +kernel
theorem dX10_scan_104 : decode cX10_scan 104 = .ok (.if_icmp .ne 7, 3) := by decide +kernel
theorem dX10_scan_107 : decode cX10_scan 107 = .ok (.iconst 0, 1) := by decide +kernel
theorem dX10_scan_108 : decode cX10_scan 108 = .ok (.goto 4, 3) := by decide +kernel
theorem dX10_scan_111 : decode cX10_scan 111 = .ok (.iconst 1, 1) := by decide +kernel
theorem dX10_scan_112 : decode cX10_scan 112 = .ok (.putfield 150, 3) := by decide +kernel
theorem dX10_scan_115 : decode cX10_scan 115 = .ok (.goto 103, 3) := by decide +kernel
theorem dX10_scan_118 : decode cX10_scan 118 = .ok (.iload_n 2, 1) := by decide +kernel
theorem dX10_scan_119 : decode cX10_scan 119 = .ok (.invokestatic 164, 3) := by decide +kernel
theorem dX10_scan_122 : decode cX10_scan 122 = .ok (.ifCond .eq 81, 3) := by decide +kernel
theorem dX10_scan_125 : decode cX10_scan 125 = .ok (.aload_n 0, 1) := by decide +kernel
theorem dX10_scan_126 : decode cX10_scan 126 = .ok (.iload_n 2, 1) := by decide +kernel
theorem dX10_scan_127 : decode cX10_scan 127 = .ok (.bipush 48, 2) := by decide +kernel
theorem dX10_scan_129 : decode cX10_scan 129 = .ok (.isub, 1) := by decide +kernel
theorem dX10_scan_130 : decode cX10_scan 130 = .ok (.putfield 167, 3) := by decide +kernel
theorem dX10_scan_133 : decode cX10_scan 133 = .ok (.aload_n 0, 1) := by decide +kernel
theorem dX10_scan_134 : decode cX10_scan 134 = .ok (.iload_n 3, 1) := by decide +kernel
theorem dX10_scan_135 : decode cX10_scan 135 = .ok (.invokevirtual 140, 3) := by decide +kernel
theorem dX10_scan_138 : decode cX10_scan 138 = .ok (.invokestatic 164, 3) := by decide +kernel
theorem dX10_scan_141 : decode cX10_scan 141 = .ok (.ifCond .eq 43, 3) := by decide +kernel
theorem dX10_scan_144 : decode cX10_scan 144 = .ok (.aload_n 0, 1) := by decide +kernel
theorem dX10_scan_145 : decode cX10_scan 145 = .ok (.iload_n 3, 1) := by decide +kernel
theorem dX10_scan_146 : decode cX10_scan 146 = .ok (.iload_n 1, 1) := by decide +kernel
theorem dX10_scan_147 : decode cX10_scan 147 = .ok (.isub, 1) := by decide +kernel
theorem dX10_scan_148 : decode cX10_scan 148 = .ok (.iconst 5, 1) := by decide +kernel
theorem dX10_scan_149 : decode cX10_scan 149 = .ok (.if_icmp .ge 22, 3) := by decide +kernel
theorem dX10_scan_152 : decode cX10_scan 152 = .ok (.bipush 10, 2) := by decide +kernel
theorem dX10_scan_154 : decode cX10_scan 154 = .ok (.aload_n 0, 1) := by decide +kernel
theorem dX10_scan_155 : decode cX10_scan 155 = .ok (.getfield 167, 3) := by decide +kernel
theorem dX10_scan_158 : decode cX10_scan 158 = .ok (.imul, 1) := by decide +kernel
theorem dX10_scan_159 : decode cX10_scan 159 = .ok (.aload_n 0, 1) := by decide +kernel
theorem dX10_scan_160 : decode cX10_scan 160 = .ok (.iload_n 3, 1) := by decide +kernel
theorem dX10_scan_161 : decode cX10_scan 161 = .ok (.invokevirtual 140, 3) := by decide +kernel
theorem dX10_scan_164 : decode cX10_scan 164 = .ok (.iadd, 1) := by decide +kernel
theorem dX10_scan_165 : decode cX10_scan 165 = .ok (.bipush 48, 2) := by decide +kernel
theorem dX10_scan_167 : decode cX10_scan 167 = .ok (.isub, 1) := by decide +kernel
theorem dX10_scan_168 : decode cX10_scan 168 = .ok (.goto 7, 3) := by decide +kernel
theorem dX10_scan_171 : decode cX10_scan 171 = .ok (.aload_n 0, 1) := by decide +kernel
theorem dX10_scan_172 : decode cX10_scan 172 = .ok (.getfield 167, 3) := by decide +kernel
theorem dX10_scan_175 : decode cX10_scan 175 = .ok (.putfield 167, 3) := by decide +kernel
theorem dX10_scan_178 : decode cX10_scan 178 = .ok (.iinc 3 1, 3) := by decide +kernel
theorem dX10_scan_181 : decode cX10_scan 181 = .ok (.goto (-48), 3) := by decide +kernel
theorem dX10_scan_184 : decode cX10_scan 184 = .ok (.aload_n 0, 1) := by decide +kernel
theorem dX10_scan_185 : decode cX10_scan 185 = .ok (.iload_n 3, 1) := by decide +kernel
theorem dX10_scan_186 : decode cX10_scan 186 = .ok (.iload_n 1, 1) := by decide +kernel
theorem dX10_scan_187 : decode cX10_scan 187 = .ok (.isub, 1) := by decide +kernel
theorem dX10_scan_188 : decode cX10_scan 188 = .ok (.iconst 5, 1) := by decide +kernel
theorem dX10_scan_189 : decode cX10_scan 189 = .ok (.if_icmp .le 7, 3) := by decide +kernel
theorem dX10_scan_192 : decode cX10_scan 192 = .ok (.iconst 0, 1) := by decide +kernel
theorem dX10_scan_193 : decode cX10_scan 193 = .ok (.goto 4, 3) := by decide +kernel
theorem dX10_scan_196 : decode cX10_scan 196 = .ok (.iconst 2, 1) := by decide +kernel
theorem dX10_scan_197 : decode cX10_scan 197 = .ok (.putfield 150, 3) := by decide +kernel
theorem dX10_scan_200 : decode cX10_scan 200 = .ok (.goto 18, 3) := by decide +kernel
theorem dX10_scan_203 : decode cX10_scan 203 = .ok (.aload_n 0, 1) := by decide +kernel
theorem dX10_scan_204 : decode cX10_scan 204 = .ok (.iload_n 2, 1) := by decide +kernel
theorem dX10_scan_205 : decode cX10_scan 205 = .ok (.bipush 59, 2) := by decide +kernel
theorem dX10_scan_207 : decode cX10_scan 207 = .ok (.if_icmp .ne 7, 3) := by decide +kernel
theorem dX10_scan_210 : decode cX10_scan 210 = .ok (.iconst 3, 1) := by decide +kernel
theorem dX10_scan_211 : decode cX10_scan 211 = .ok (.goto 4, 3) := by decide +kernel
theorem dX10_scan_214 : decode cX10_scan 214 = .ok (.iconst 0, 1) := by decide +kernel
theorem dX10_scan_215 : decode cX10_scan 215 = .ok (.putfield 150, 3) := by decide +kernel
theorem dX10_scan_218 : decode cX10_scan 218 = .ok (.aload_n 0, 1) := by decide +kernel
theorem dX10_scan_219 : decode cX10_scan 219 = .ok (.iload_n 3, 1) := by decide +kernel
theorem dX10_scan_220 : decode cX10_scan 220 = .ok (.putfield 144, 3) := by decide +kernel
theorem dX10_scan_223 : decode cX10_scan 223 = .ok (.return_, 1) := by decide +kernel
theorem dX10_wrong_0 : decode cX10_wrong 0 = .ok (.aload_n 0, 1) := by decide +kernel
theorem dX10_wrong_1 : decode cX10_wrong 1 = .ok (.iload_n 1, 1) := by decide +kernel
theorem dX10_wrong_2 : decode cX10_wrong 2 = .ok (.putfield 170, 3) := by decide +kernel
theorem dX10_wrong_5 : decode cX10_wrong 5 = .ok (.aload_n 0, 1) := by decide +kernel
theorem dX10_wrong_6 : decode cX10_wrong 6 = .ok (.aload_n 0, 1) := by decide +kernel
theorem dX10_wrong_7 : decode cX10_wrong 7 = .ok (.getfield 147, 3) := by decide +kernel
theorem dX10_wrong_10 : decode cX10_wrong 10 = .ok (.putfield 13, 3) := by decide +kernel
theorem dX10_wrong_13 : decode cX10_wrong 13 = .ok (.iconst 0, 1) := by decide +kernel
theorem dX10_wrong_14 : decode cX10_wrong 14 = .ok (.ireturn, 1) := by decide +kernel
theorem dX10_plain_0 : decode cX10_plain 0 = .ok (.iload_n 0, 1) := by decide +kernel
theorem dX10_plain_1 : decode cX10_plain 1 = .ok (.ifCond .ne 9, 3) := by decide +kernel
theorem dX10_plain_4 : decode cX10_plain 4 = .ok (.sipush 10950, 3) := by decide +kernel
theorem dX10_plain_7 : decode cX10_plain 7 = .ok (.goto 65, 3) := by decide +kernel
theorem dX10_plain_10 : decode cX10_plain 10 = .ok (.iload_n 0, 1) := by decide +kernel
theorem dX10_plain_11 : decode cX10_plain 11 = .ok (.iconst 1, 1) := by decide +kernel
theorem dX10_plain_12 : decode cX10_plain 12 = .ok (.if_icmp .ne 7, 3) := by decide +kernel
theorem dX10_plain_15 : decode cX10_plain 15 = .ok (.iconst 3, 1) := by decide +kernel
theorem dX10_plain_16 : decode cX10_plain 16 = .ok (.goto 56, 3) := by decide +kernel
theorem dX10_plain_19 : decode cX10_plain 19 = .ok (.iload_n 0, 1) := by decide +kernel
theorem dX10_plain_20 : decode cX10_plain 20 = .ok (.iconst 2, 1) := by decide +kernel
theorem dX10_plain_21 : decode cX10_plain 21 = .ok (.if_icmp .ne 9, 3) := by decide +kernel
theorem dX10_plain_24 : decode cX10_plain 24 = .ok (.sipush 1000, 3) := by decide +kernel
theorem dX10_plain_27 : decode cX10_plain 27 = .ok (.goto 45, 3) := by decide +kernel
theorem dX10_plain_30 : decode cX10_plain 30 = .ok (.iload_n 0, 1) := by decide +kernel
theorem dX10_plain_31 : decode cX10_plain 31 = .ok (.iconst 3, 1) := by decide +kernel
theorem dX10_plain_32 : decode cX10_plain 32 = .ok (.if_icmp .ne 7, 3) := by decide +kernel
theorem dX10_plain_35 : decode cX10_plain 35 = .ok (.iconst 0, 1) := by decide +kernel
theorem dX10_plain_36 : decode cX10_plain 36 = .ok (.goto 36, 3) := by decide +kernel
theorem dX10_plain_39 : decode cX10_plain 39 = .ok (.iload_n 0, 1) := by decide +kernel
theorem dX10_plain_40 : decode cX10_plain 40 = .ok (.bipush 10, 2) := by decide +kernel
theorem dX10_plain_42 : decode cX10_plain 42 = .ok (.if_icmp .ge 8, 3) := by decide +kernel
theorem dX10_plain_45 : decode cX10_plain 45 = .ok (.bipush 10, 2) := by decide +kernel
theorem dX10_plain_47 : decode cX10_plain 47 = .ok (.goto 25, 3) := by decide +kernel
theorem dX10_plain_50 : decode cX10_plain 50 = .ok (.iload_n 0, 1) := by decide +kernel
theorem dX10_plain_51 : decode cX10_plain 51 = .ok (.bipush 16, 2) := by decide +kernel
theorem dX10_plain_53 : decode cX10_plain 53 = .ok (.if_icmp .ge 7, 3) := by decide +kernel
theorem dX10_plain_56 : decode cX10_plain 56 = .ok (.iconst (-1), 1) := by decide +kernel
theorem dX10_plain_57 : decode cX10_plain 57 = .ok (.goto 15, 3) := by decide +kernel
theorem dX10_plain_60 : decode cX10_plain 60 = .ok (.iload_n 0, 1) := by decide +kernel
theorem dX10_plain_61 : decode cX10_plain 61 = .ok (.bipush 22, 2) := by decide +kernel
theorem dX10_plain_63 : decode cX10_plain 63 = .ok (.if_icmp .ge 8, 3) := by decide +kernel
theorem dX10_plain_66 : decode cX10_plain 66 = .ok (.bipush 10, 2) := by decide +kernel
theorem dX10_plain_68 : decode cX10_plain 68 = .ok (.goto 4, 3) := by decide +kernel
theorem dX10_plain_71 : decode cX10_plain 71 = .ok (.iconst 0, 1) := by decide +kernel
theorem dX10_plain_72 : decode cX10_plain 72 = .ok (.ireturn, 1) := by decide +kernel
set_option maxRecDepth 20000 in
theorem ggX10_word_X10_wrong : GoodIn wsX10_word wsX10_wrong := goodIn_r _ [7, 8, 9, 10, 82, 83, 84, 85, 86, 87, 88, 89, 90, 91, 92, 93, 94, 95, 96, 97, 98, 99, 100, 101, 102, 103, 104, 105, 106, 107, 108, 109, 110, 111, 112, 113, 114, 115, 116, 117, 118, 119, 120, 121, 122, 123, 124, 125, 126, 127, 128, 129, 130, 131] (by decide +kernel) (by decide +kernel)
set_option maxRecDepth 20000 in
theorem gX10_word_X10_wrong : GoodIn wsX10_word (wsV RX10 173 RX10 yX10_wrong wsX10_wrong) := goodIn_app (goodIn_of _ (by decide +kernel)) ggX10_word_X10_wrong
set_option maxRecDepth 20000 in
theorem ggX10_word_X10_scan : GoodIn wsX10_word wsX10_scan := goodIn_r _ [14, 15, 9, 1, 2, 16, 17, 18, 19, 6, 20, 21, 22, 23, 24, 25, 26, 27, 28, 29, 30, 31, 32, 33, 34, 35, 36, 37, 38, 39, 40, 41, 42, 43, 44, 45, 46, 47, 48, 49, 50, 51, 52, 53, 54, 55, 56, 57, 58, 59, 60, 61, 62, 63, 64, 65, 66, 67, 68, 69, 70, 71, 72, 73, 74, 75, 76, 77, 78, 79, 80, 81, 82, 83, 84, 85, 86, 87, 88, 89, 90, 91, 92, 93, 94, 95, 96, 97, 98, 99, 100, 101, 102, 103, 104, 105, 106, 107, 108, 109, 110, 111, 112, 113, 114, 115, 116, 117, 118, 119, 120, 121, 122, 123, 124, 125, 126, 127, 128, 129, 130, 131] (by decide +kernel) (by decide +kernel)
set_option maxRecDepth 20000 in
theorem gX10_word_X10_scan : GoodIn wsX10_word (wsV RX10 176 RX10 yX10_scan wsX10_scan) := goodIn_app (goodIn_of _ (by decide +kernel)) ggX10_word_X10_scan
theorem dX10_word_0 : decode cX10_word 0 = .ok (.aload_n 0, 1) := by decide +kernel
theorem dX10_word_1 : decode cX10_word 1 = .ok (.getfield 150, 3) := by decide +kernel
theorem dX10_word_4 : decode cX10_word 4 = .ok (.iconst 1, 1) := by decide +kernel
theorem dX10_word_5 : decode cX10_word 5 = .ok (.if_icmp .ne 11, 3) := by decide +kernel
theorem dX10_word_8 : decode cX10_word 8 = .ok (.aload_n 0, 1) := by decide +kernel
theorem dX10_word_9 : decode cX10_word 9 = .ok (.getfield 161, 3) := by decide +kernel
theorem dX10_word_12 : decode cX10_word 12 = .ok (.iload_n 1, 1) := by decide +kernel
theorem dX10_word_13 : decode cX10_word 13 = .ok (.if_icmp .eq 9, 3) := by decide +kernel
theorem dX10_word_16 : decode cX10_word 16 = .ok (.aload_n 0, 1) := by decide +kernel
theorem dX10_word_17 : decode cX10_word 17 = .ok (.iconst 1, 1) := by decide +kernel
theorem dX10_word_18 : decode cX10_word 18 = .ok (.invokevirtual 173, 3) := by decide +kernel
theorem dX10_word_21 : decode cX10_word 21 = .ok (.ireturn, 1) := by decide +kernel
theorem dX10_word_22 : decode cX10_word 22 = .ok (.aload_n 0, 1) := by decide +kernel
theorem dX10_word_23 : decode cX10_word 23 = .ok (.invokevirtual 176, 3) := by decide +kernel
theorem dX10_word_26 : decode cX10_word 26 = .ok (.iconst 1, 1) := by decide +kernel
theorem dX10_word_27 : decode cX10_word 27 = .ok (.ireturn, 1) := by decide +kernel
set_option maxRecDepth 20000 in
theorem ggX10_number_X10_wrong : GoodIn wsX10_number wsX10_wrong := goodIn_r _ [8, 9, 10, 11, 83, 84, 85, 86, 87, 88, 89, 90, 91, 92, 93, 94, 95, 96, 97, 98, 99, 100, 101, 102, 103, 104, 105, 106, 107, 108, 109, 110, 111, 112, 113, 114, 115, 116, 117, 118, 119, 120, 121, 122, 123, 124, 125, 126, 127, 128, 129, 130, 131, 132] (by decide +kernel) (by decide +kernel)
set_option maxRecDepth 20000 in
theorem gX10_number_X10_wrong : GoodIn wsX10_number (wsV RX10 173 RX10 yX10_wrong wsX10_wrong) := goodIn_app (goodIn_of _ (by decide +kernel)) ggX10_number_X10_wrong
set_option maxRecDepth 20000 in
theorem ggX10_number_X10_scan : GoodIn wsX10_number wsX10_scan := goodIn_r _ [15, 16, 10, 1, 17, 3, 18, 19, 20, 7, 21, 22, 23, 24, 25, 26, 27, 28, 29, 30, 31, 32, 33, 34, 35, 36, 37, 38, 39, 40, 41, 42, 43, 44, 45, 46, 47, 48, 49, 50, 51, 52, 53, 54, 55, 56, 57, 58, 59, 60, 61, 62, 63, 64, 65, 66, 67, 68, 69, 70, 71, 72, 73, 74, 75, 76, 77, 78, 79, 80, 81, 82, 83, 84, 85, 86, 87, 88, 89, 90, 91, 92, 93, 94, 95, 96, 97, 98, 99, 100, 101, 102, 103, 104, 105, 106, 107, 108, 109, 110, 111, 112, 113, 114, 115, 116, 117, 118, 119, 120, 121, 122, 123, 124, 125, 126, 127, 128, 129, 130, 131, 132] (by decide +kernel) (by decide +kernel)
set_option maxRecDepth 20000 in
theorem gX10_number_X10_scan : GoodIn wsX10_number (wsV RX10 176 RX10 yX10_scan wsX10_scan) := goodIn_app (goodIn_of _ (by decide +kernel)) ggX10_number_X10_scan
theorem dX10_number_0 : decode cX10_number 0 = .ok (.aload_n 0, 1) := by decide +kernel
theorem dX10_number_1 : decode cX10_number 1 = .ok (.getfield 150, 3) := by decide +kernel
theorem dX10_number_4 : decode cX10_number 4 = .ok (.iconst 2, 1) := by decide +kernel
theorem dX10_number_5 : decode cX10_number 5 = .ok (.if_icmp .eq 9, 3) := by decide +kernel
theorem dX10_number_8 : decode cX10_number 8 = .ok (.aload_n 0, 1) := by decide +kernel
theorem dX10_number_9 : decode cX10_number 9 = .ok (.iconst 1, 1) := by decide +kernel
theorem dX10_number_10 : decode cX10_number 10 = .ok (.invokevirtual 173, 3) := by decide +kernel
theorem dX10_number_13 : decode cX10_number 13 = .ok (.ireturn, 1) := by decide +kernel
theorem dX10_number_14 : decode cX10_number 14 = .ok (.aload_n 0, 1) := by decide +kernel
theorem dX10_number_15 : decode cX10_number 15 = .ok (.getfield 17, 3) := by decide +kernel
theorem dX10_number_18 : decode cX10_number 18 = .ok (.sipush 420, 3) := by decide +kernel
theorem dX10_number_21 : decode cX10_number 21 = .ok (.iload_n 1, 1) := by decide +kernel
theorem dX10_number_22 : decode cX10_number 22 = .ok (.iadd, 1) := by decide +kernel
theorem dX10_number_23 : decode cX10_number 23 = .ok (.aload_n 0, 1) := by decide +kernel
theorem dX10_number_24 : decode cX10_number 24 = .ok (.getfield 167, 3) := by decide +kernel
theorem dX10_number_27 : decode cX10_number 27 = .ok (.iastore, 1) := by decide +kernel
theorem dX10_number_28 : decode cX10_number 28 = .ok (.aload_n 0, 1) := by decide +kernel
theorem dX10_number_29 : decode cX10_number 29 = .ok (.invokevirtual 176, 3) := by decide +kernel
theorem dX10_number_32 : decode cX10_number 32 = .ok (.iconst 1, 1) := by decide +kernel
theorem dX10_number_33 : decode cX10_number 33 = .ok (.ireturn, 1) := by decide +kernel
set_option maxRecDepth 20000 in
theorem ggX10_readSuit_X10_scan : GoodIn wsX10_readSuit wsX10_scan := goodIn_r _ [9, 10, 11, 1, 4, 2, 12, 13, 14, 8, 15, 16, 17, 18, 19, 20, 21, 22, 23, 24, 25, 26, 27, 28, 29, 30, 31, 32, 33, 34, 35, 36, 37, 38, 39, 40, 41, 42, 43, 44, 45, 46, 47, 48, 49, 50, 51, 52, 53, 54, 55, 56, 57, 58, 59, 60, 61, 62, 63, 64, 65, 66, 67, 68, 69, 70, 71, 72, 73, 74, 75, 76, 91, 92, 93, 94, 95, 96, 97, 98, 99, 100, 101, 102, 103, 104, 105, 106, 107, 108, 109, 110, 111, 112, 113, 114, 115, 116, 117, 118, 119, 120, 121, 122, 123, 124, 125, 126, 127, 128, 129, 130, 131, 132, 133, 134, 135, 136, 137, 138, 139, 140] (by decide +kernel) (by decide +kernel)
set_option maxRecDepth 20000 in
theorem gX10_readSuit_X10_scan : GoodIn wsX10_readSuit (wsV RX10 176 RX10 yX10_scan wsX10_scan) := goodIn_app (goodIn_of _ (by decide +kernel)) ggX10_readSuit_X10_scan
set_option maxRecDepth 20000 in
theorem ggX10_readSuit_X10_wrong : GoodIn wsX10_readSuit wsX10_wrong := goodIn_r _ [80, 81, 11, 82, 91, 92, 93, 94, 95, 96, 97, 98, 99, 100, 101, 102, 103, 104, 105, 106, 107, 108, 109, 110, 111, 112, 113, 114, 115, 116, 117, 118, 119, 120, 121, 122, 123, 124, 125, 126, 127, 128, 129, 130, 131, 132, 133, 134, 135, 136, 137, 138, 139, 140] (by decide +kernel) (by decide +kernel)
set_option maxRecDepth 20000 in
theorem gX10_readSuit_X10_wrong : GoodIn wsX10_readSuit (wsV RX10 173 RX10 yX10_wrong wsX10_wrong) := goodIn_app (goodIn_of _ (by decide +kernel)) ggX10_readSuit_X10_wrong
set_option maxRecDepth 20000 in
theorem ggX10_readSuit_X10_word : GoodIn wsX10_readSuit wsX10_word := goodIn_r _ [86, 1, 4, 77, 78, 79, 8, 80, 81, 11, 82, 5, 6, 7, 9, 10, 2, 12, 13, 14, 15, 16, 17, 18, 19, 20, 21, 22, 23, 24, 25, 26, 27, 28, 29, 30, 31, 32, 33, 34, 35, 36, 37, 38, 39, 40, 41, 42, 43, 44, 45, 46, 47, 48, 49, 50, 51, 52, 53, 54, 55, 56, 57, 58, 59, 60, 61, 62, 63, 64, 65, 66, 67, 68, 69, 70, 71, 72, 73, 74, 75, 76, 91, 92, 93, 94, 95, 96, 97, 98, 99, 100, 101, 102, 103, 104, 105, 106, 107, 108, 109, 110, 111, 112, 113, 114, 115, 116, 117, 118, 119, 120, 121, 122, 123, 124, 125, 126, 127, 128, 129, 130, 131, 132, 133, 134, 135, 136, 137, 138, 139, 140] (by decide +kernel) (by decide +kernel)
set_option maxRecDepth 20000 in
theorem gX10_readSuit_X10_word : GoodIn wsX10_readSuit (wsV RX10 179 RX10 yX10_word wsX10_word) := goodIn_app (goodIn_of _ (by decide +kernel)) ggX10_readSuit_X10_word
set_option maxRecDepth 20000 in
theorem ggX10_readSuit_X10_number : GoodIn wsX10_readSuit wsX10_number := goodIn_r _ [90, 1, 3, 2, 77, 78, 79, 8, 80, 81, 11, 82, 5, 6, 7, 9, 10, 4, 12, 13, 14, 15, 16, 17, 18, 19, 20, 21, 22, 23, 24, 25, 26, 27, 28, 29, 30, 31, 32, 33, 34, 35, 36, 37, 38, 39, 40, 41, 42, 43, 44, 45, 46, 47, 48, 49, 50, 51, 52, 53, 54, 55, 56, 57, 58, 59, 60, 61, 62, 63, 64, 65, 66, 67, 68, 69, 70, 71, 72, 73, 74, 75, 76, 91, 92, 93, 94, 95, 96, 97, 98, 99, 100, 101, 102, 103, 104, 105, 106, 107, 108, 109, 110, 111, 112, 113, 114, 115, 116, 117, 118, 119, 120, 121, 122, 123, 124, 125, 126, 127, 128, 129, 130, 131, 132, 133, 134, 135, 136, 137, 138, 139, 140] (by decide +kernel) (by decide +kernel)
set_option maxRecDepth 20000 in
theorem gX10_readSuit_X10_number : GoodIn wsX10_readSuit (wsV RX10 182 RX10 yX10_number wsX10_number) := goodIn_app (goodIn_of _ (by decide +kernel)) ggX10_readSuit_X10_number
theorem dX10_readSuit_0 : decode cX10_readSuit 0 = .ok (.aload_n 0, 1) := by decide +kernel
theorem dX10_readSuit_1 : decode cX10_readSuit 1 = .ok (.invokevirtual 176, 3) := by decide +kernel
theorem dX10_readSuit_4 : decode cX10_readSuit 4 = .ok (.aload_n 0, 1) := by decide +kernel
theorem dX10_readSuit_5 : decode cX10_readSuit 5 = .ok (.getfield 150, 3) := by decide +kernel
theorem dX10_readSuit_8 : decode cX10_readSuit 8 = .ok (.iconst 2, 1) := by decide +kernel
theorem dX10_readSuit_9 : decode cX10_readSuit 9 = .ok (.if_icmp .eq 9, 3) := by decide +kernel
theorem dX10_readSuit_12 : decode cX10_readSuit 12 = .ok (.aload_n 0, 1) := by decide +kernel
theorem dX10_readSuit_13 : decode cX10_readSuit 13 = .ok (.iconst 1, 1) := by decide +kernel
theorem dX10_readSuit_14 : decode cX10_readSuit 14 = .ok (.invokevirtual 173, 3) := by decide +kernel
theorem dX10_readSuit_17 : decode cX10_readSuit 17 = .ok (.ireturn, 1) := by decide +kernel
theorem dX10_readSuit_18 : decode cX10_readSuit 18 = .ok (.aload_n 0, 1) := by decide +kernel
theorem dX10_readSuit_19 : decode cX10_readSuit 19 = .ok (.getfield 167, 3) := by decide +kernel
theorem dX10_readSuit_22 : decode cX10_readSuit 22 = .ok (.iconst 5, 1) := by decide +kernel
theorem dX10_readSuit_23 : decode cX10_readSuit 23 = .ok (.if_icmp .le 9, 3) := by decide +kernel
theorem dX10_readSuit_26 : decode cX10_readSuit 26 = .ok (.aload_n 0, 1) := by decide +kernel
theorem dX10_readSuit_27 : decode cX10_readSuit 27 = .ok (.iconst 2, 1) := by decide +kernel
theorem dX10_readSuit_28 : decode cX10_readSuit 28 = .ok (.invokevirtual 173, 3) := by decide +kernel
theorem dX10_readSuit_31 : decode cX10_readSuit 31 = .ok (.ireturn, 1) := by decide +kernel
theorem dX10_readSuit_32 : decode cX10_readSuit 32 = .ok (.aload_n 0, 1) := by decide +kernel
theorem dX10_readSuit_33 : decode cX10_readSuit 33 = .ok (.getfield 167, 3) := by decide +kernel
theorem dX10_readSuit_36 : decode cX10_readSuit 36 = .ok (.istore_n 2, 1) := by decide +kernel
theorem dX10_readSuit_37 : decode cX10_readSuit 37 = .ok (.aload_n 1, 1) := by decide +kernel
theorem dX10_readSuit_38 : decode cX10_readSuit 38 = .ok (.iconst 4, 1) := by decide +kernel
theorem dX10_readSuit_39 : decode cX10_readSuit 39 = .ok (.iload_n 2, 1) := by decide +kernel
theorem dX10_readSuit_40 : decode cX10_readSuit 40 = .ok (.iadd, 1) := by decide +kernel
theorem dX10_readSuit_41 : decode cX10_readSuit 41 = .ok (.baload, 1) := by decide +kernel
theorem dX10_readSuit_42 : decode cX10_readSuit 42 = .ok (.ifCond .eq 9, 3) := by decide +kernel
theorem dX10_readSuit_45 : decode cX10_readSuit 45 = .ok (.aload_n 0, 1) := by decide +kernel
theorem dX10_readSuit_46 : decode cX10_readSuit 46 = .ok (.iconst 3, 1) := by decide +kernel
theorem dX10_readSuit_47 : decode cX10_readSuit 47 = .ok (.invokevirtual 173, 3) := by decide +kernel
theorem dX10_readSuit_50 : decode cX10_readSuit 50 = .ok (.ireturn, 1) := by decide +kernel
theorem dX10_readSuit_51 : decode cX10_readSuit 51 = .ok (.aload_n 1, 1) := by decide +kernel
theorem dX10_readSuit_52 : decode cX10_readSuit 52 = .ok (.iconst 4, 1) := by decide +kernel
theorem dX10_readSuit_53 : decode cX10_readSuit 53 = .ok (.iload_n 2, 1) := by decide +kernel
theorem dX10_readSuit_54 : decode cX10_readSuit 54 = .ok (.iadd, 1) := by decide +kernel
theorem dX10_readSuit_55 : decode cX10_readSuit 55 = .ok (.iconst 1, 1) := by decide +kernel
theorem dX10_readSuit_56 : decode cX10_readSuit 56 = .ok (.bastore, 1) := by decide +kernel
theorem dX10_readSuit_57 : decode cX10_readSuit 57 = .ok (.aload_n 0, 1) := by decide +kernel
theorem dX10_readSuit_58 : decode cX10_readSuit 58 = .ok (.invokevirtual 176, 3) := by decide +kernel
theorem dX10_readSuit_61 : decode cX10_readSuit 61 = .ok (.aload_n 0, 1) := by decide +kernel
theorem dX10_readSuit_62 : decode cX10_readSuit 62 = .ok (.bipush 7, 2) := by decide +kernel
theorem dX10_readSuit_64 : decode cX10_readSuit 64 = .ok (.invokevirtual 179, 3) := by decide +kernel
theorem dX10_readSuit_67 : decode cX10_readSuit 67 = .ok (.ifCond .eq 13, 3) := by decide +kernel
theorem dX10_readSuit_70 : decode cX10_readSuit 70 = .ok (.aload_n 0, 1) := by decide +kernel
theorem dX10_readSuit_71 : decode cX10_readSuit 71 = .ok (.iconst 4, 1) := by decide +kernel
theorem dX10_readSuit_72 : decode cX10_readSuit 72 = .ok (.iload_n 2, 1) := by decide +kernel
theorem dX10_readSuit_73 : decode cX10_readSuit 73 = .ok (.iadd, 1) := by decide +kernel
theorem dX10_readSuit_74 : decode cX10_readSuit 74 = .ok (.invokevirtual 182, 3) := by decide +kernel
theorem dX10_readSuit_77 : decode cX10_readSuit 77 = .ok (.ifCond .ne 5, 3) := by decide +kernel
theorem dX10_readSuit_80 : decode cX10_readSuit 80 = .ok (.iconst 0, 1) := by decide +kernel
theorem dX10_readSuit_81 : decode cX10_readSuit 81 = .ok (.ireturn, 1) := by decide +kernel
theorem dX10_readSuit_82 : decode cX10_readSuit 82 = .ok (.aload_n 0, 1) := by decide +kernel
theorem dX10_readSuit_83 : decode cX10_readSuit 83 = .ok (.getfield 17, 3) := by decide +kernel
theorem dX10_readSuit_86 : decode cX10_readSuit 86 = .ok (.sipush 436, 3) := by decide +kernel
theorem dX10_readSuit_89 : decode cX10_readSuit 89 = .ok (.iload_n 2, 1) := by decide +kernel
theorem dX10_readSuit_90 : decode cX10_readSuit 90 = .ok (.iadd, 1) := by decide +kernel
theorem dX10_readSuit_91 : decode cX10_readSuit 91 = .ok (.aload_n 0, 1) := by decide +kernel
theorem dX10_readSuit_92 : decode cX10_readSuit 92 = .ok (.getfield 17, 3) := by decide +kernel
theorem dX10_readSuit_95 : decode cX10_readSuit 95 = .ok (.sipush 424, 3) := by decide +kernel
theorem dX10_readSuit_98 : decode cX10_readSuit 98 = .ok (.iload_n 2, 1) := by decide +kernel
theorem dX10_readSuit_99 : decode cX10_readSuit 99 = .ok (.iadd, 1) := by decide +kernel
theorem dX10_readSuit_100 : decode cX10_readSuit 100 = .ok (.iaload, 1) := by decide +kernel
theorem dX10_readSuit_101 : decode cX10_readSuit 101 = .ok (.iastore, 1) := by decide +kernel
theorem dX10_readSuit_102 : decode cX10_readSuit 102 = .ok (.aload_n 0, 1) := by decide +kernel
theorem dX10_readSuit_103 : decode cX10_readSuit 103 = .ok (.getfield 150, 3) := by decide +kernel
theorem dX10_readSuit_106 : decode cX10_readSuit 106 = .ok (.iconst 1, 1) := by decide +kernel
theorem dX10_readSuit_107 : decode cX10_readSuit 107 = .ok (.if_icmp .ne 49, 3) := by decide +kernel
theorem dX10_readSuit_110 : decode cX10_readSuit 110 = .ok (.aload_n 0, 1) := by decide +kernel
theorem dX10_readSuit_111 : decode cX10_readSuit 111 = .ok (.getfield 161, 3) := by decide +kernel
theorem dX10_readSuit_114 : decode cX10_readSuit 114 = .ok (.bipush 8, 2) := by decide +kernel
theorem dX10_readSuit_116 : decode cX10_readSuit 116 = .ok (.if_icmp .ne 40, 3) := by decide +kernel
theorem dX10_readSuit_119 : decode cX10_readSuit 119 = .ok (.aload_n 0, 1) := by decide +kernel
theorem dX10_readSuit_120 : decode cX10_readSuit 120 = .ok (.invokevirtual 176, 3) := by decide +kernel
theorem dX10_readSuit_123 : decode cX10_readSuit 123 = .ok (.aload_n 0, 1) := by decide +kernel
theorem dX10_readSuit_124 : decode cX10_readSuit 124 = .ok (.bipush 10, 2) := by decide +kernel
theorem dX10_readSuit_126 : decode cX10_readSuit 126 = .ok (.iload_n 2, 1) := by decide +kernel
theorem dX10_readSuit_127 : decode cX10_readSuit 127 = .ok (.iadd, 1) := by decide +kernel
theorem dX10_readSuit_128 : decode cX10_readSuit 128 = .ok (.invokevirtual 182, 3) := by decide +kernel
theorem dX10_readSuit_131 : decode cX10_readSuit 131 = .ok (.ifCond .eq 23, 3) := by decide +kernel
theorem dX10_readSuit_134 : decode cX10_readSuit 134 = .ok (.aload_n 0, 1) := by decide +kernel
theorem dX10_readSuit_135 : decode cX10_readSuit 135 = .ok (.bipush 7, 2) := by decide +kernel
theorem dX10_readSuit_137 : decode cX10_readSuit 137 = .ok (.invokevirtual 179, 3) := by decide +kernel
theorem dX10_readSuit_140 : decode cX10_readSuit 140 = .ok (.ifCond .eq 14, 3) := by decide +kernel
theorem dX10_readSuit_143 : decode cX10_readSuit 143 = .ok (.aload_n 0, 1) := by decide +kernel
theorem dX10_readSuit_144 : decode cX10_readSuit 144 = .ok (.bipush 16, 2) := by decide +kernel
theorem dX10_readSuit_146 : decode cX10_readSuit 146 = .ok (.iload_n 2, 1) := by decide +kernel
theorem dX10_readSuit_147 : decode cX10_readSuit 147 = .ok (.iadd, 1) := by decide +kernel
theorem dX10_readSuit_148 : decode cX10_readSuit 148 = .ok (.invokevirtual 182, 3) := by decide +kernel
theorem dX10_readSuit_151 : decode cX10_readSuit 151 = .ok (.ifCond .ne 5, 3) := by decide +kernel
theorem dX10_readSuit_154 : decode cX10_readSuit 154 = .ok (.iconst 0, 1) := by decide +kernel
theorem dX10_readSuit_155 : decode cX10_readSuit 155 = .ok (.ireturn, 1) := by decide +kernel
theorem dX10_readSuit_156 : decode cX10_readSuit 156 = .ok (.aload_n 0, 1) := by decide +kernel
theorem dX10_readSuit_157 : decode cX10_readSuit 157 = .ok (.bipush 9, 2) := by decide +kernel
theorem dX10_readSuit_159 : decode cX10_readSuit 159 = .ok (.invokevirtual 179, 3) := by decide +kernel
theorem dX10_readSuit_162 : decode cX10_readSuit 162 = .ok (.ifCond .eq 18, 3) := by decide +kernel
theorem dX10_readSuit_165 : decode cX10_readSuit 165 = .ok (.aload_n 0, 1) := by decide +kernel
theorem dX10_readSuit_166 : decode cX10_readSuit 166 = .ok (.bipush 22, 2) := by decide +kernel
theorem dX10_readSuit_168 : decode cX10_readSuit 168 = .ok (.iload_n 2, 1) := by decide +kernel
theorem dX10_readSuit_169 : decode cX10_readSuit 169 = .ok (.iadd, 1) := by decide +kernel
theorem dX10_readSuit_170 : decode cX10_readSuit 170 = .ok (.invokevirtual 182, 3) := by decide +kernel
theorem dX10_readSuit_173 : decode cX10_readSuit 173 = .ok (.ifCond .eq 7, 3) := by decide +kernel
theorem dX10_readSuit_176 : decode cX10_readSuit 176 = .ok (.iconst 1, 1) := by decide +kernel
theorem dX10_readSuit_177 : decode cX10_readSuit 177 = .ok (.goto 4, 3) := by decide +kernel
theorem dX10_readSuit_180 : decode cX10_readSuit 180 = .ok (.iconst 0, 1) := by decide +kernel
theorem dX10_readSuit_181 : decode cX10_readSuit 181 = .ok (.ireturn, 1) := by decide +kernel
set_option maxRecDepth 20000 in
theorem ggX10_readLine_X10_wrong : GoodIn wsX10_readLine wsX10_wrong := goodIn_r _ [8, 9, 10, 11, 95, 96, 97, 98, 99, 100, 101, 102, 103, 104, 105, 106, 107, 108, 109, 110, 111, 112, 113, 114, 115, 116, 117, 118, 119, 120, 121, 122, 123, 124, 125, 126, 127, 128, 129, 130, 131, 132, 133, 134, 135, 136, 137, 138, 139, 140, 141, 142, 143, 144] (by decide +kernel) (by decide +kernel)
set_option maxRecDepth 20000 in
theorem gX10_readLine_X10_wrong : GoodIn wsX10_readLine (wsV RX10 173 RX10 yX10_wrong wsX10_wrong) := goodIn_app (goodIn_of _ (by decide +kernel)) ggX10_readLine_X10_wrong
set_option maxRecDepth 20000 in
theorem ggX10_readLine_X10_readSuit : GoodIn wsX10_readLine wsX10_readSuit := goodIn_r _ [15, 1, 16, 3, 2, 17, 18, 19, 7, 20, 21, 10, 22, 23, 24, 25, 26, 27, 28, 29, 30, 31, 32, 33, 34, 35, 36, 37, 38, 39, 40, 41, 42, 43, 44, 45, 46, 47, 48, 49, 50, 51, 52, 53, 54, 55, 56, 57, 58, 59, 60, 61, 62, 63, 64, 65, 66, 67, 68, 69, 70, 71, 72, 73, 74, 75, 76, 77, 78, 79, 80, 81, 82, 83, 84, 85, 86, 4, 5, 6, 8, 9, 11, 87, 88, 89, 90, 91, 92, 93, 94, 95, 96, 97, 98, 99, 100, 101, 102, 103, 104, 105, 106, 107, 108, 109, 110, 111, 112, 113, 114, 115, 116, 117, 118, 119, 120, 121, 122, 123, 124, 125, 126, 127, 128, 129, 130, 131, 132, 133, 134, 135, 136, 137, 138, 139, 140, 141, 142, 143, 144] (by decide +kernel) (by decide +kernel)
set_option maxRecDepth 20000 in
theorem gX10_readLine_X10_readSuit : GoodIn wsX10_readLine (wsV RX10 185 RX10 yX10_readSuit wsX10_readSuit) := goodIn_app (goodIn_of _ (by decide +kernel)) ggX10_readLine_X10_readSuit
set_option maxRecDepth 20000 in
theorem ggX10_readLine_X10_scan : GoodIn wsX10_readLine wsX10_scan := goodIn_r _ [20, 21, 10, 1, 2, 16, 22, 23, 24, 7, 25, 26, 27, 28, 29, 30, 31, 32, 33, 34, 35, 36, 37, 38, 39, 40, 41, 42, 43, 44, 45, 46, 47, 48, 49, 50, 51, 52, 53, 54, 55, 56, 57, 58, 59, 60, 61, 62, 63, 64, 65, 66, 67, 68, 69, 70, 71, 72, 73, 74, 75, 76, 77, 78, 79, 80, 81, 82, 83, 84, 85, 86, 95, 96, 97, 98, 99, 100, 101, 102, 103, 104, 105, 106, 107, 108, 109, 110, 111, 112, 113, 114, 115, 116, 117, 118, 119, 120, 121, 122, 123, 124, 125, 126, 127, 128, 129, 130, 131, 132, 133, 134, 135, 136, 137, 138, 139, 140, 141, 142, 143, 144] (by decide +kernel) (by decide +kernel)
set_option maxRecDepth 20000 in
theorem gX10_readLine_X10_scan : GoodIn wsX10_readLine (wsV RX10 176 RX10 yX10_scan wsX10_scan) := goodIn_app (goodIn_of _ (by decide +kernel)) ggX10_readLine_X10_scan
set_option maxRecDepth 20000 in
theorem ggX10_readLine_X10_number : GoodIn wsX10_readLine wsX10_number := goodIn_r _ [94, 1, 3, 16, 4, 5, 6, 7, 8, 9, 10, 11, 17, 18, 19, 20, 21, 2, 22, 23, 24, 25, 26, 27, 28, 29, 30, 31, 32, 33, 34, 35, 36, 37, 38, 39, 40, 41, 42, 43, 44, 45, 46, 47, 48, 49, 50, 51, 52, 53, 54, 55, 56, 57, 58, 59, 60, 61, 62, 63, 64, 65, 66, 67, 68, 69, 70, 71, 72, 73, 74, 75, 76, 77, 78, 79, 80, 81, 82, 83, 84, 85, 86, 95, 96, 97, 98, 99, 100, 101, 102, 103, 104, 105, 106, 107, 108, 109, 110, 111, 112, 113, 114, 115, 116, 117, 118, 119, 120, 121, 122, 123, 124, 125, 126, 127, 128, 129, 130, 131, 132, 133, 134, 135, 136, 137, 138, 139, 140, 141, 142, 143, 144] (by decide +kernel) (by decide +kernel)
set_option maxRecDepth 20000 in
theorem gX10_readLine_X10_number : GoodIn wsX10_readLine (wsV RX10 182 RX10 yX10_number wsX10_number) := goodIn_app (goodIn_of _ (by decide +kernel)) ggX10_readLine_X10_number
theorem dX10_readLine_0 : decode cX10_readLine 0 = .ok (.aload_n 0, 1) := by decide +kernel
theorem dX10_readLine_1 : decode cX10_readLine 1 = .ok (.getfield 150, 3) := by decide +kernel
theorem dX10_readLine_4 : decode cX10_readLine 4 = .ok (.iconst 1, 1) := by decide +kernel
theorem dX10_readLine_5 : decode cX10_readLine 5 = .ok (.if_icmp .ne 11, 3) := by decide +kernel
theorem dX10_readLine_8 : decode cX10_readLine 8 = .ok (.aload_n 0, 1) := by decide +kernel
theorem dX10_readLine_9 : decode cX10_readLine 9 = .ok (.getfield 161, 3) := by decide +kernel
theorem dX10_readLine_12 : decode cX10_readLine 12 = .ok (.iconst 4, 1) := by decide +kernel
theorem dX10_readLine_13 : decode cX10_readLine 13 = .ok (.if_icmp .le 9, 3) := by decide +kernel
theorem dX10_readLine_16 : decode cX10_readLine 16 = .ok (.aload_n 0, 1) := by decide +kernel
theorem dX10_readLine_17 : decode cX10_readLine 17 = .ok (.iconst 1, 1) := by decide +kernel
theorem dX10_readLine_18 : decode cX10_readLine 18 = .ok (.invokevirtual 173, 3) := by decide +kernel
theorem dX10_readLine_21 : decode cX10_readLine 21 = .ok (.ireturn, 1) := by decide +kernel
theorem dX10_readLine_22 : decode cX10_readLine 22 = .ok (.aload_n 0, 1) := by decide +kernel
theorem dX10_readLine_23 : decode cX10_readLine 23 = .ok (.getfield 161, 3) := by decide +kernel
theorem dX10_readLine_26 : decode cX10_readLine 26 = .ok (.istore_n 2, 1) := by decide +kernel
theorem dX10_readLine_27 : decode cX10_readLine 27 = .ok (.iload_n 2, 1) := by decide +kernel
theorem dX10_readLine_28 : decode cX10_readLine 28 = .ok (.iconst 4, 1) := by decide +kernel
theorem dX10_readLine_29 : decode cX10_readLine 29 = .ok (.if_icmp .ne 12, 3) := by decide +kernel
theorem dX10_readLine_32 : decode cX10_readLine 32 = .ok (.aload_n 0, 1) := by decide +kernel
theorem dX10_readLine_33 : decode cX10_readLine 33 = .ok (.aload_n 1, 1) := by decide +kernel
theorem dX10_readLine_34 : decode cX10_readLine 34 = .ok (.invokevirtual 185, 3) := by decide +kernel
theorem dX10_readLine_37 : decode cX10_readLine 37 = .ok (.istore_n 3, 1) := by decide +kernel
theorem dX10_readLine_38 : decode cX10_readLine 38 = .ok (.goto 96, 3) := by decide +kernel
theorem dX10_readLine_41 : decode cX10_readLine 41 = .ok (.aload_n 1, 1) := by decide +kernel
theorem dX10_readLine_42 : decode cX10_readLine 42 = .ok (.iload_n 2, 1) := by decide +kernel
theorem dX10_readLine_43 : decode cX10_readLine 43 = .ok (.baload, 1) := by decide +kernel
theorem dX10_readLine_44 : decode cX10_readLine 44 = .ok (.ifCond .eq 9, 3) := by decide +kernel
theorem dX10_readLine_47 : decode cX10_readLine 47 = .ok (.aload_n 0, 1) := by decide +kernel
theorem dX10_readLine_48 : decode cX10_readLine 48 = .ok (.iconst 3, 1) := by decide +kernel
theorem dX10_readLine_49 : decode cX10_readLine 49 = .ok (.invokevirtual 173, 3) := by decide +kernel
theorem dX10_readLine_52 : decode cX10_readLine 52 = .ok (.ireturn, 1) := by decide +kernel
theorem dX10_readLine_53 : decode cX10_readLine 53 = .ok (.aload_n 1, 1) := by decide +kernel
theorem dX10_readLine_54 : decode cX10_readLine 54 = .ok (.iload_n 2, 1) := by decide +kernel
theorem dX10_readLine_55 : decode cX10_readLine 55 = .ok (.iconst 1, 1) := by decide +kernel
theorem dX10_readLine_56 : decode cX10_readLine 56 = .ok (.bastore, 1) := by decide +kernel
theorem dX10_readLine_57 : decode cX10_readLine 57 = .ok (.aload_n 0, 1) := by decide +kernel
theorem dX10_readLine_58 : decode cX10_readLine 58 = .ok (.invokevirtual 176, 3) := by decide +kernel
theorem dX10_readLine_61 : decode cX10_readLine 61 = .ok (.iload_n 2, 1) := by decide +kernel
theorem dX10_readLine_62 : decode cX10_readLine 62 = .ok (.iconst 3, 1) := by decide +kernel
theorem dX10_readLine_63 : decode cX10_readLine 63 = .ok (.if_icmp .ne 65, 3) := by decide +kernel
theorem dX10_readLine_66 : decode cX10_readLine 66 = .ok (.aload_n 0, 1) := by decide +kernel
theorem dX10_readLine_67 : decode cX10_readLine 67 = .ok (.getfield 150, 3) := by decide +kernel
theorem dX10_readLine_70 : decode cX10_readLine 70 = .ok (.iconst 1, 1) := by decide +kernel
theorem dX10_readLine_71 : decode cX10_readLine 71 = .ok (.if_icmp .ne 20, 3) := by decide +kernel
theorem dX10_readLine_74 : decode cX10_readLine 74 = .ok (.aload_n 0, 1) := by decide +kernel
theorem dX10_readLine_75 : decode cX10_readLine 75 = .ok (.getfield 161, 3) := by decide +kernel
theorem dX10_readLine_78 : decode cX10_readLine 78 = .ok (.iconst 5, 1) := by decide +kernel
theorem dX10_readLine_79 : decode cX10_readLine 79 = .ok (.if_icmp .eq 18, 3) := by decide +kernel
theorem dX10_readLine_82 : decode cX10_readLine 82 = .ok (.aload_n 0, 1) := by decide +kernel
theorem dX10_readLine_83 : decode cX10_readLine 83 = .ok (.getfield 161, 3) := by decide +kernel
theorem dX10_readLine_86 : decode cX10_readLine 86 = .ok (.bipush 6, 2) := by decide +kernel
theorem dX10_readLine_88 : decode cX10_readLine 88 = .ok (.if_icmp .eq 9, 3) := by decide +kernel
theorem dX10_readLine_91 : decode cX10_readLine 91 = .ok (.aload_n 0, 1) := by decide +kernel
theorem dX10_readLine_92 : decode cX10_readLine 92 = .ok (.iconst 1, 1) := by decide +kernel
theorem dX10_readLine_93 : decode cX10_readLine 93 = .ok (.invokevirtual 173, 3) := by decide +kernel
theorem dX10_readLine_96 : decode cX10_readLine 96 = .ok (.ireturn, 1) := by decide +kernel
theorem dX10_readLine_97 : decode cX10_readLine 97 = .ok (.aload_n 0, 1) := by decide +kernel
theorem dX10_readLine_98 : decode cX10_readLine 98 = .ok (.getfield 17, 3) := by decide +kernel
theorem dX10_readLine_101 : decode cX10_readLine 101 = .ok (.sipush 423, 3) := by decide +kernel
theorem dX10_readLine_104 : decode cX10_readLine 104 = .ok (.aload_n 0, 1) := by decide +kernel
theorem dX10_readLine_105 : decode cX10_readLine 105 = .ok (.getfield 161, 3) := by decide +kernel
theorem dX10_readLine_108 : decode cX10_readLine 108 = .ok (.bipush 6, 2) := by decide +kernel
theorem dX10_readLine_110 : decode cX10_readLine 110 = .ok (.if_icmp .ne 7, 3) := by decide +kernel
theorem dX10_readLine_113 : decode cX10_readLine 113 = .ok (.iconst 1, 1) := by decide +kernel
theorem dX10_readLine_114 : decode cX10_readLine 114 = .ok (.goto 4, 3) := by decide +kernel
theorem dX10_readLine_117 : decode cX10_readLine 117 = .ok (.iconst 0, 1) := by decide +kernel
theorem dX10_readLine_118 : decode cX10_readLine 118 = .ok (.iastore, 1) := by decide +kernel
theorem dX10_readLine_119 : decode cX10_readLine 119 = .ok (.aload_n 0, 1) := by decide +kernel
theorem dX10_readLine_120 : decode cX10_readLine 120 = .ok (.invokevirtual 176, 3) := by decide +kernel
theorem dX10_readLine_123 : decode cX10_readLine 123 = .ok (.iconst 1, 1) := by decide +kernel
theorem dX10_readLine_124 : decode cX10_readLine 124 = .ok (.istore_n 3, 1) := by decide +kernel
theorem dX10_readLine_125 : decode cX10_readLine 125 = .ok (.goto 9, 3) := by decide +kernel
theorem dX10_readLine_128 : decode cX10_readLine 128 = .ok (.aload_n 0, 1) := by decide +kernel
theorem dX10_readLine_129 : decode cX10_readLine 129 = .ok (.iload_n 2, 1) := by decide +kernel
theorem dX10_readLine_130 : decode cX10_readLine 130 = .ok (.invokevirtual 182, 3) := by decide +kernel
theorem dX10_readLine_133 : decode cX10_readLine 133 = .ok (.istore_n 3, 1) := by decide +kernel
theorem dX10_readLine_134 : decode cX10_readLine 134 = .ok (.iload_n 3, 1) := by decide +kernel
theorem dX10_readLine_135 : decode cX10_readLine 135 = .ok (.ifCond .ne 5, 3) := by decide +kernel
theorem dX10_readLine_138 : decode cX10_readLine 138 = .ok (.iconst 0, 1) := by decide +kernel
theorem dX10_readLine_139 : decode cX10_readLine 139 = .ok (.ireturn, 1) := by decide +kernel
theorem dX10_readLine_140 : decode cX10_readLine 140 = .ok (.aload_n 0, 1) := by decide +kernel
theorem dX10_readLine_141 : decode cX10_readLine 141 = .ok (.getfield 150, 3) := by decide +kernel
theorem dX10_readLine_144 : decode cX10_readLine 144 = .ok (.iconst 3, 1) := by decide +kernel
theorem dX10_readLine_145 : decode cX10_readLine 145 = .ok (.if_icmp .eq 9, 3) := by decide +kernel
theorem dX10_readLine_148 : decode cX10_readLine 148 = .ok (.aload_n 0, 1) := by decide +kernel
theorem dX10_readLine_149 : decode cX10_readLine 149 = .ok (.iconst 1, 1) := by decide +kernel
theorem dX10_readLine_150 : decode cX10_readLine 150 = .ok (.invokevirtual 173, 3) := by decide +kernel
theorem dX10_readLine_153 : decode cX10_readLine 153 = .ok (.ireturn, 1) := by decide +kernel
theorem dX10_readLine_154 : decode cX10_readLine 154 = .ok (.aload_n 0, 1) := by decide +kernel
theorem dX10_readLine_155 : decode cX10_readLine 155 = .ok (.invokevirtual 176, 3) := by decide +kernel
theorem dX10_readLine_158 : decode cX10_readLine 158 = .ok (.iconst 1, 1) := by decide +kernel
theorem dX10_readLine_159 : decode cX10_readLine 159 = .ok (.ireturn, 1) := by decide +kernel
set_option maxRecDepth 20000 in
theorem ggX10_laws_X10_in : GoodIn wsX10_laws wsX10_in := goodIn_r _ [16] (by decide +kernel) (by decide +kernel)
set_option maxRecDepth 20000 in
theorem gX10_laws_X10_in : GoodIn wsX10_laws (va_wsS RX10 194 yX10_in wsX10_in) := goodIn_app (goodIn_of _ (by decide +kernel)) ggX10_laws_X10_in
set_option maxRecDepth 20000 in
theorem ggX10_laws_X10_plain : GoodIn wsX10_laws wsX10_plain := goodIn_r _ [19] (by decide +kernel) (by decide +kernel)
set_option maxRecDepth 20000 in
theorem gX10_laws_X10_plain : GoodIn wsX10_laws (va_wsS RX10 198 yX10_plain wsX10_plain) := goodIn_app (goodIn_of _ (by decide +kernel)) ggX10_laws_X10_plain
set_option maxRecDepth 20000 in
theorem ggX10_laws_X10_scan : GoodIn wsX10_laws wsX10_scan := goodIn_r _ [23, 7, 24, 10, 25, 26, 27, 28, 29, 15, 30, 2, 31, 32, 33, 34, 35, 36, 37, 38, 39, 40, 41, 42, 43, 44, 45, 46, 47, 48, 49, 50, 51, 52, 53, 54, 55, 56, 57, 58, 59, 60, 61, 62, 63, 64, 65, 66, 67, 68, 69, 70, 71, 72, 73, 74, 75, 76, 77, 78, 79, 80, 81, 82, 83, 84, 85, 86, 87, 88, 89, 90, 111, 112, 113, 114, 115, 116, 117, 118, 119, 120, 121, 122, 123, 124, 125, 126, 127, 128, 129, 130, 131, 132, 133, 134, 135, 136, 137, 138, 139, 140, 141, 142, 143, 144, 145, 146, 147, 148, 149, 150, 151, 152, 153, 154, 155, 156, 157, 158, 159, 160] (by decide +kernel) (by decide +kernel)
set_option maxRecDepth 20000 in
theorem gX10_laws_X10_scan : GoodIn wsX10_laws (wsV RX10 176 RX10 yX10_scan wsX10_scan) := goodIn_app (goodIn_of _ (by decide +kernel)) ggX10_laws_X10_scan
set_option maxRecDepth 20000 in
theorem ggX10_laws_X10_readLine : GoodIn wsX10_laws wsX10_readLine := goodIn_r _ [94, 10, 25, 8, 95, 96, 97, 15, 98, 5, 24, 6, 99, 100, 101, 102, 26, 20, 21, 22, 23, 7, 27, 28, 29, 30, 2, 31, 32, 33, 34, 35, 36, 37, 38, 39, 40, 41, 42, 43, 44, 45, 46, 47, 48, 49, 50, 51, 52, 53, 54, 55, 56, 57, 58, 59, 60, 61, 62, 63, 64, 65, 66, 67, 68, 69, 70, 71, 72, 73, 74, 75, 76, 77, 78, 79, 80, 81, 82, 83, 84, 85, 86, 87, 88, 89, 90, 103, 104, 105, 106, 107, 108, 109, 110, 111, 112, 113, 114, 115, 116, 117, 118, 119, 120, 121, 122, 123, 124, 125, 126, 127, 128, 129, 130, 131, 132, 133, 134, 135, 136, 137, 138, 139, 140, 141, 142, 143, 144, 145, 146, 147, 148, 149, 150, 151, 152, 153, 154, 155, 156, 157, 158, 159, 160] (by decide +kernel) (by decide +kernel)
set_option maxRecDepth 20000 in
theorem gX10_laws_X10_readLine : GoodIn wsX10_laws (wsV RX10 201 RX10 yX10_readLine wsX10_readLine) := goodIn_app (goodIn_of _ (by decide +kernel)) ggX10_laws_X10_readLine
theorem dX10_laws_0 : decode cX10_laws 0 = .ok (.aload_n 0, 1) := by decide +kernel
theorem dX10_laws_1 : decode cX10_laws 1 = .ok (.aload_n 0, 1) := by decide +kernel
theorem dX10_laws_2 : decode cX10_laws 2 = .ok (.getfield 122, 3) := by decide +kernel
theorem dX10_laws_5 : decode cX10_laws 5 = .ok (.putfield 125, 3) := by decide +kernel
theorem dX10_laws_8 : decode cX10_laws 8 = .ok (.aload_n 0, 1) := by decide +kernel
theorem dX10_laws_9 : decode cX10_laws 9 = .ok (.iconst 0, 1) := by decide +kernel
theorem dX10_laws_10 : decode cX10_laws 10 = .ok (.putfield 122, 3) := by decide +kernel
theorem dX10_laws_13 : decode cX10_laws 13 = .ok (.iload_n 1, 1) := by decide +kernel
theorem dX10_laws_14 : decode cX10_laws 14 = .ok (.i2l, 1) := by decide +kernel
theorem dX10_laws_15 : decode cX10_laws 15 = .ok (.aload_n 0, 1) := by decide +kernel
theorem dX10_laws_16 : decode cX10_laws 16 = .ok (.getfield 189, 3) := by decide +kernel
theorem dX10_laws_19 : decode cX10_laws 19 = .ok (.i2l, 1) := by decide +kernel
theorem dX10_laws_20 : decode cX10_laws 20 = .ok (.ldc2_w 192, 3) := by decide +kernel
theorem dX10_laws_23 : decode cX10_laws 23 = .ok (.invokestatic 194, 3) := by decide +kernel
theorem dX10_laws_26 : decode cX10_laws 26 = .ok (.ifCond .ne 6, 3) := by decide +kernel
theorem dX10_laws_29 : decode cX10_laws 29 = .ok (.bipush (-2), 2) := by decide +kernel
theorem dX10_laws_31 : decode cX10_laws 31 = .ok (.ireturn, 1) := by decide +kernel
theorem dX10_laws_32 : decode cX10_laws 32 = .ok (.aload_n 0, 1) := by decide +kernel
theorem dX10_laws_33 : decode cX10_laws 33 = .ok (.iconst 0, 1) := by decide +kernel
theorem dX10_laws_34 : decode cX10_laws 34 = .ok (.putfield 170, 3) := by decide +kernel
theorem dX10_laws_37 : decode cX10_laws 37 = .ok (.aload_n 0, 1) := by decide +kernel
theorem dX10_laws_38 : decode cX10_laws 38 = .ok (.iconst (-1), 1) := by decide +kernel
theorem dX10_laws_39 : decode cX10_laws 39 = .ok (.putfield 13, 3) := by decide +kernel
theorem dX10_laws_42 : decode cX10_laws 42 = .ok (.aload_n 0, 1) := by decide +kernel
theorem dX10_laws_43 : decode cX10_laws 43 = .ok (.iconst 0, 1) := by decide +kernel
theorem dX10_laws_44 : decode cX10_laws 44 = .ok (.putfield 144, 3) := by decide +kernel
theorem dX10_laws_47 : decode cX10_laws 47 = .ok (.iconst 0, 1) := by decide +kernel
theorem dX10_laws_48 : decode cX10_laws 48 = .ok (.istore_n 2, 1) := by decide +kernel
theorem dX10_laws_49 : decode cX10_laws 49 = .ok (.iload_n 2, 1) := by decide +kernel
theorem dX10_laws_50 : decode cX10_laws 50 = .ok (.bipush 28, 2) := by decide +kernel
theorem dX10_laws_52 : decode cX10_laws 52 = .ok (.if_icmp .ge 23, 3) := by decide +kernel
theorem dX10_laws_55 : decode cX10_laws 55 = .ok (.aload_n 0, 1) := by decide +kernel
theorem dX10_laws_56 : decode cX10_laws 56 = .ok (.getfield 17, 3) := by decide +kernel
theorem dX10_laws_59 : decode cX10_laws 59 = .ok (.sipush 420, 3) := by decide +kernel
theorem dX10_laws_62 : decode cX10_laws 62 = .ok (.iload_n 2, 1) := by decide +kernel
theorem dX10_laws_63 : decode cX10_laws 63 = .ok (.iadd, 1) := by decide +kernel
theorem dX10_laws_64 : decode cX10_laws 64 = .ok (.iload_n 2, 1) := by decide +kernel
theorem dX10_laws_65 : decode cX10_laws 65 = .ok (.invokestatic 198, 3) := by decide +kernel
theorem dX10_laws_68 : decode cX10_laws 68 = .ok (.iastore, 1) := by decide +kernel
theorem dX10_laws_69 : decode cX10_laws 69 = .ok (.iinc 2 1, 3) := by decide +kernel
theorem dX10_laws_72 : decode cX10_laws 72 = .ok (.goto (-23), 3) := by decide +kernel
theorem dX10_laws_75 : decode cX10_laws 75 = .ok (.iconst 0, 1) := by decide +kernel
theorem dX10_laws_76 : decode cX10_laws 76 = .ok (.istore_n 2, 1) := by decide +kernel
theorem dX10_laws_77 : decode cX10_laws 77 = .ok (.iload_n 2, 1) := by decide +kernel
theorem dX10_laws_78 : decode cX10_laws 78 = .ok (.bipush 10, 2) := by decide +kernel
theorem dX10_laws_80 : decode cX10_laws 80 = .ok (.if_icmp .ge 16, 3) := by decide +kernel
theorem dX10_laws_83 : decode cX10_laws 83 = .ok (.aload_n 0, 1) := by decide +kernel
theorem dX10_laws_84 : decode cX10_laws 84 = .ok (.getfield 24, 3) := by decide +kernel
theorem dX10_laws_87 : decode cX10_laws 87 = .ok (.iload_n 2, 1) := by decide +kernel
theorem dX10_laws_88 : decode cX10_laws 88 = .ok (.iconst 0, 1) := by decide +kernel
theorem dX10_laws_89 : decode cX10_laws 89 = .ok (.bastore, 1) := by decide +kernel
theorem dX10_laws_90 : decode cX10_laws 90 = .ok (.iinc 2 1, 3) := by decide +kernel
theorem dX10_laws_93 : decode cX10_laws 93 = .ok (.goto (-16), 3) := by decide +kernel
theorem dX10_laws_96 : decode cX10_laws 96 = .ok (.aload_n 0, 1) := by decide +kernel
theorem dX10_laws_97 : decode cX10_laws 97 = .ok (.invokevirtual 176, 3) := by decide +kernel
theorem dX10_laws_100 : decode cX10_laws 100 = .ok (.aload_n 0, 1) := by decide +kernel
theorem dX10_laws_101 : decode cX10_laws 101 = .ok (.getfield 150, 3) := by decide +kernel
theorem dX10_laws_104 : decode cX10_laws 104 = .ok (.iconst 4, 1) := by decide +kernel
theorem dX10_laws_105 : decode cX10_laws 105 = .ok (.if_icmp .eq 16, 3) := by decide +kernel
theorem dX10_laws_108 : decode cX10_laws 108 = .ok (.aload_n 0, 1) := by decide +kernel
theorem dX10_laws_109 : decode cX10_laws 109 = .ok (.aload_n 0, 1) := by decide +kernel
theorem dX10_laws_110 : decode cX10_laws 110 = .ok (.getfield 24, 3) := by decide +kernel
theorem dX10_laws_113 : decode cX10_laws 113 = .ok (.invokevirtual 201, 3) := by decide +kernel
theorem dX10_laws_116 : decode cX10_laws 116 = .ok (.ifCond .ne (-16), 3) := by decide +kernel
theorem dX10_laws_119 : decode cX10_laws 119 = .ok (.iconst (-1), 1) := by decide +kernel
theorem dX10_laws_120 : decode cX10_laws 120 = .ok (.ireturn, 1) := by decide +kernel
theorem dX10_laws_121 : decode cX10_laws 121 = .ok (.aload_n 0, 1) := by decide +kernel
theorem dX10_laws_122 : decode cX10_laws 122 = .ok (.getfield 204, 3) := by decide +kernel
theorem dX10_laws_125 : decode cX10_laws 125 = .ok (.bipush 15, 2) := by decide +kernel
theorem dX10_laws_127 : decode cX10_laws 127 = .ok (.if_icmp .ne 6, 3) := by decide +kernel
theorem dX10_laws_130 : decode cX10_laws 130 = .ok (.bipush (-3), 2) := by decide +kernel
theorem dX10_laws_132 : decode cX10_laws 132 = .ok (.ireturn, 1) := by decide +kernel
theorem dX10_laws_133 : decode cX10_laws 133 = .ok (.iconst 0, 1) := by decide +kernel
theorem dX10_laws_134 : decode cX10_laws 134 = .ok (.istore_n 2, 1) := by decide +kernel
theorem dX10_laws_135 : decode cX10_laws 135 = .ok (.iload_n 2, 1) := by decide +kernel
theorem dX10_laws_136 : decode cX10_laws 136 = .ok (.bipush 28, 2) := by decide +kernel
theorem dX10_laws_138 : decode cX10_laws 138 = .ok (.if_icmp .ge 33, 3) := by decide +kernel
theorem dX10_laws_141 : decode cX10_laws 141 = .ok (.aload_n 0, 1) := by decide +kernel
theorem dX10_laws_142 : decode cX10_laws 142 = .ok (.getfield 17, 3) := by decide +kernel
theorem dX10_laws_145 : decode cX10_laws 145 = .ok (.bipush 28, 2) := by decide +kernel
theorem dX10_laws_147 : decode cX10_laws 147 = .ok (.aload_n 0, 1) := by decide +kernel
theorem dX10_laws_148 : decode cX10_laws 148 = .ok (.getfield 204, 3) := by decide +kernel
theorem dX10_laws_151 : decode cX10_laws 151 = .ok (.imul, 1) := by decide +kernel
theorem dX10_laws_152 : decode cX10_laws 152 = .ok (.iload_n 2, 1) := by decide +kernel
theorem dX10_laws_153 : decode cX10_laws 153 = .ok (.iadd, 1) := by decide +kernel
theorem dX10_laws_154 : decode cX10_laws 154 = .ok (.aload_n 0, 1) := by decide +kernel
theorem dX10_laws_155 : decode cX10_laws 155 = .ok (.getfield 17, 3) := by decide +kernel
theorem dX10_laws_158 : decode cX10_laws 158 = .ok (.sipush 420, 3) := by decide +kernel
theorem dX10_laws_161 : decode cX10_laws 161 = .ok (.iload_n 2, 1) := by decide +kernel
theorem dX10_laws_162 : decode cX10_laws 162 = .ok (.iadd, 1) := by decide +kernel
theorem dX10_laws_163 : decode cX10_laws 163 = .ok (.iaload, 1) := by decide +kernel
theorem dX10_laws_164 : decode cX10_laws 164 = .ok (.iastore, 1) := by decide +kernel
theorem dX10_laws_165 : decode cX10_laws 165 = .ok (.iinc 2 1, 3) := by decide +kernel
theorem dX10_laws_168 : decode cX10_laws 168 = .ok (.goto (-33), 3) := by decide +kernel
theorem dX10_laws_171 : decode cX10_laws 171 = .ok (.aload_n 0, 1) := by decide +kernel
theorem dX10_laws_172 : decode cX10_laws 172 = .ok (.getfield 21, 3) := by decide +kernel
theorem dX10_laws_175 : decode cX10_laws 175 = .ok (.aload_n 0, 1) := by decide +kernel
theorem dX10_laws_176 : decode cX10_laws 176 = .ok (.getfield 204, 3) := by decide +kernel
theorem dX10_laws_179 : decode cX10_laws 179 = .ok (.iload_n 1, 1) := by decide +kernel
theorem dX10_laws_180 : decode cX10_laws 180 = .ok (.iastore, 1) := by decide +kernel
theorem dX10_laws_181 : decode cX10_laws 181 = .ok (.aload_n 0, 1) := by decide +kernel
theorem dX10_laws_182 : decode cX10_laws 182 = .ok (.dup, 1) := by decide +kernel
theorem dX10_laws_183 : decode cX10_laws 183 = .ok (.getfield 204, 3) := by decide +kernel
theorem dX10_laws_186 : decode cX10_laws 186 = .ok (.iconst 1, 1) := by decide +kernel
theorem dX10_laws_187 : decode cX10_laws 187 = .ok (.iadd, 1) := by decide +kernel
theorem dX10_laws_188 : decode cX10_laws 188 = .ok (.putfield 204, 3) := by decide +kernel
theorem dX10_laws_191 : decode cX10_laws 191 = .ok (.aload_n 0, 1) := by decide +kernel
theorem dX10_laws_192 : decode cX10_laws 192 = .ok (.getfield 204, 3) := by decide +kernel
theorem dX10_laws_195 : decode cX10_laws 195 = .ok (.iconst 1, 1) := by decide +kernel
theorem dX10_laws_196 : decode cX10_laws 196 = .ok (.isub, 1) := by decide +kernel
theorem dX10_laws_197 : decode cX10_laws 197 = .ok (.ireturn, 1) := by decide +kernel
theorem dX10_fault_0 : decode cX10_fault 0 = .ok (.iload_n 1, 1) := by decide +kernel
theorem dX10_fault_1 : decode cX10_fault 1 = .ok (.ifCond .ne 10, 3) := by decide +kernel
theorem dX10_fault_4 : decode cX10_fault 4 = .ok (.aload_n 0, 1) := by decide +kernel
theorem dX10_fault_5 : decode cX10_fault 5 = .ok (.getfield 170, 3) := by decide +kernel
theorem dX10_fault_8 : decode cX10_fault 8 = .ok (.goto 16, 3) := by decide +kernel
theorem dX10_fault_11 : decode cX10_fault 11 = .ok (.iload_n 1, 1) := by decide +kernel
theorem dX10_fault_12 : decode cX10_fault 12 = .ok (.iconst 1, 1) := by decide +kernel
theorem dX10_fault_13 : decode cX10_fault 13 = .ok (.if_icmp .ne 10, 3) := by decide +kernel
theorem dX10_fault_16 : decode cX10_fault 16 = .ok (.aload_n 0, 1) := by decide +kernel
theorem dX10_fault_17 : decode cX10_fault 17 = .ok (.getfield 13, 3) := by decide +kernel
theorem dX10_fault_20 : decode cX10_fault 20 = .ok (.goto 4, 3) := by decide +kernel
theorem dX10_fault_23 : decode cX10_fault 23 = .ok (.iconst (-1), 1) := by decide +kernel
theorem dX10_fault_24 : decode cX10_fault 24 = .ok (.ireturn, 1) := by decide +kernel
theorem dX10_force_0 : decode cX10_force 0 = .ok (.iconst (-1), 1) := by decide +kernel
theorem dX10_force_1 : decode cX10_force 1 = .ok (.istore_n 2, 1) := by decide +kernel
theorem dX10_force_2 : decode cX10_force 2 = .ok (.iconst 0, 1) := by decide +kernel
theorem dX10_force_3 : decode cX10_force 3 = .ok (.istore_n 3, 1) := by decide +kernel
theorem dX10_force_4 : decode cX10_force 4 = .ok (.iload_n 3, 1) := by decide +kernel
theorem dX10_force_5 : decode cX10_force 5 = .ok (.aload_n 0, 1) := by decide +kernel
theorem dX10_force_6 : decode cX10_force 6 = .ok (.getfield 204, 3) := by decide +kernel
theorem dX10_force_9 : decode cX10_force 9 = .ok (.if_icmp .ge 41, 3) := by decide +kernel
theorem dX10_force_12 : decode cX10_force 12 = .ok (.aload_n 0, 1) := by decide +kernel
theorem dX10_force_13 : decode cX10_force 13 = .ok (.getfield 21, 3) := by decide +kernel
theorem dX10_force_16 : decode cX10_force 16 = .ok (.iload_n 3, 1) := by decide +kernel
theorem dX10_force_17 : decode cX10_force 17 = .ok (.iaload, 1) := by decide +kernel
theorem dX10_force_18 : decode cX10_force 18 = .ok (.iload_n 1, 1) := by decide +kernel
theorem dX10_force_19 : decode cX10_force 19 = .ok (.if_icmp .gt 25, 3) := by decide +kernel
theorem dX10_force_22 : decode cX10_force 22 = .ok (.iload_n 2, 1) := by decide +kernel
theorem dX10_force_23 : decode cX10_force 23 = .ok (.iconst (-1), 1) := by decide +kernel
theorem dX10_force_24 : decode cX10_force 24 = .ok (.if_icmp .eq 18, 3) := by decide +kernel
theorem dX10_force_27 : decode cX10_force 27 = .ok (.aload_n 0, 1) := by decide +kernel
theorem dX10_force_28 : decode cX10_force 28 = .ok (.getfield 21, 3) := by decide +kernel
theorem dX10_force_31 : decode cX10_force 31 = .ok (.iload_n 3, 1) := by decide +kernel
theorem dX10_force_32 : decode cX10_force 32 = .ok (.iaload, 1) := by decide +kernel
theorem dX10_force_33 : decode cX10_force 33 = .ok (.aload_n 0, 1) := by decide +kernel
theorem dX10_force_34 : decode cX10_force 34 = .ok (.getfield 21, 3) := by decide +kernel
theorem dX10_force_37 : decode cX10_force 37 = .ok (.iload_n 2, 1) := by decide +kernel
theorem dX10_force_38 : decode cX10_force 38 = .ok (.iaload, 1) := by decide +kernel
theorem dX10_force_39 : decode cX10_force 39 = .ok (.if_icmp .lt 5, 3) := by decide +kernel
theorem dX10_force_42 : decode cX10_force 42 = .ok (.iload_n 3, 1) := by decide +kernel
theorem dX10_force_43 : decode cX10_force 43 = .ok (.istore_n 2, 1) := by decide +kernel
theorem dX10_force_44 : decode cX10_force 44 = .ok (.iinc 3 1, 3) := by decide +kernel
theorem dX10_force_47 : decode cX10_force 47 = .ok (.goto (-43), 3) := by decide +kernel
theorem dX10_force_50 : decode cX10_force 50 = .ok (.iload_n 2, 1) := by decide +kernel
theorem dX10_force_51 : decode cX10_force 51 = .ok (.ireturn, 1) := by decide +kernel
set_option maxRecDepth 20000 in
theorem ggX10_lawOf_X10_force : GoodIn wsX10_lawOf wsX10_force := goodIn_r _ [6, 7, 8, 12, 13, 14, 15, 16, 17, 18, 19, 20, 21, 22, 23, 24, 25, 26, 27, 28, 29, 30, 31, 32, 33, 34, 35, 36, 37, 38, 39, 40, 41, 42, 43, 44, 45, 46, 47, 48, 49, 50, 51, 52, 53, 54, 55, 56, 57, 58, 59, 60, 61] (by decide +kernel) (by decide +kernel)
set_option maxRecDepth 20000 in
theorem gX10_lawOf_X10_force : GoodIn wsX10_lawOf (wsV RX10 207 RX10 yX10_force wsX10_force) := goodIn_app (goodIn_of _ (by decide +kernel)) ggX10_lawOf_X10_force
set_option maxRecDepth 20000 in
theorem ggX10_lawOf_X10_plain : GoodIn wsX10_lawOf wsX10_plain := goodIn_r _ [11] (by decide +kernel) (by decide +kernel)
set_option maxRecDepth 20000 in
theorem gX10_lawOf_X10_plain : GoodIn wsX10_lawOf (va_wsS RX10 198 yX10_plain wsX10_plain) := goodIn_app (goodIn_of _ (by decide +kernel)) ggX10_lawOf_X10_plain
theorem dX10_lawOf_0 : decode cX10_lawOf 0 = .ok (.aload_n 0, 1) := by decide +kernel
theorem dX10_lawOf_1 : decode cX10_lawOf 1 = .ok (.iload_n 1, 1) := by decide +kernel
theorem dX10_lawOf_2 : decode cX10_lawOf 2 = .ok (.invokevirtual 207, 3) := by decide +kernel
theorem dX10_lawOf_5 : decode cX10_lawOf 5 = .ok (.iconst (-1), 1) := by decide +kernel
theorem dX10_lawOf_6 : decode cX10_lawOf 6 = .ok (.if_icmp .ne 10, 3) := by decide +kernel
theorem dX10_lawOf_9 : decode cX10_lawOf 9 = .ok (.iload_n 2, 1) := by decide +kernel
theorem dX10_lawOf_10 : decode cX10_lawOf 10 = .ok (.invokestatic 198, 3) := by decide +kernel
theorem dX10_lawOf_13 : decode cX10_lawOf 13 = .ok (.goto 18, 3) := by decide +kernel
theorem dX10_lawOf_16 : decode cX10_lawOf 16 = .ok (.aload_n 0, 1) := by decide +kernel
theorem dX10_lawOf_17 : decode cX10_lawOf 17 = .ok (.getfield 17, 3) := by decide +kernel
theorem dX10_lawOf_20 : decode cX10_lawOf 20 = .ok (.bipush 28, 2) := by decide +kernel
theorem dX10_lawOf_22 : decode cX10_lawOf 22 = .ok (.aload_n 0, 1) := by decide +kernel
theorem dX10_lawOf_23 : decode cX10_lawOf 23 = .ok (.iload_n 1, 1) := by decide +kernel
theorem dX10_lawOf_24 : decode cX10_lawOf 24 = .ok (.invokevirtual 207, 3) := by decide +kernel
theorem dX10_lawOf_27 : decode cX10_lawOf 27 = .ok (.imul, 1) := by decide +kernel
theorem dX10_lawOf_28 : decode cX10_lawOf 28 = .ok (.iload_n 2, 1) := by decide +kernel
theorem dX10_lawOf_29 : decode cX10_lawOf 29 = .ok (.iadd, 1) := by decide +kernel
theorem dX10_lawOf_30 : decode cX10_lawOf 30 = .ok (.iaload, 1) := by decide +kernel
theorem dX10_lawOf_31 : decode cX10_lawOf 31 = .ok (.ireturn, 1) := by decide +kernel
set_option maxRecDepth 20000 in
theorem ggX10_law_X10_in : GoodIn wsX10_law wsX10_in := goodIn_r _ [14] (by decide +kernel) (by decide +kernel)
set_option maxRecDepth 20000 in
theorem gX10_law_X10_in : GoodIn wsX10_law (va_wsS RX10 194 yX10_in wsX10_in) := goodIn_app (goodIn_of _ (by decide +kernel)) ggX10_law_X10_in
set_option maxRecDepth 20000 in
theorem ggX10_law_X10_lawOf : GoodIn wsX10_law wsX10_lawOf := goodIn_r _ [18, 19, 20, 21, 22, 13, 23, 24, 25, 26, 27, 28, 29, 30, 31, 32, 33, 34, 35, 36, 37, 38, 39, 40, 41, 42, 43, 44, 45, 46, 47, 48, 49, 50, 51, 52, 53, 54, 55, 56, 57, 58, 59, 60, 61, 62, 63, 64, 65, 66, 67, 68, 69, 70, 71, 72, 73, 74, 75, 76, 77, 78] (by decide +kernel) (by decide +kernel)
set_option maxRecDepth 20000 in
theorem gX10_law_X10_lawOf : GoodIn wsX10_law (wsV RX10 212 RX10 yX10_lawOf wsX10_lawOf) := goodIn_app (goodIn_of _ (by decide +kernel)) ggX10_law_X10_lawOf
set_option maxRecDepth 20000 in
theorem ggX10_law_X10_force : GoodIn wsX10_law wsX10_force := goodIn_r _ [23, 24, 25, 29, 30, 31, 32, 33, 34, 35, 36, 37, 38, 39, 40, 41, 42, 43, 44, 45, 46, 47, 48, 49, 50, 51, 52, 53, 54, 55, 56, 57, 58, 59, 60, 61, 62, 63, 64, 65, 66, 67, 68, 69, 70, 71, 72, 73, 74, 75, 76, 77, 78] (by decide +kernel) (by decide +kernel)
set_option maxRecDepth 20000 in
theorem gX10_law_X10_force : GoodIn wsX10_law (wsV RX10 207 RX10 yX10_force wsX10_force) := goodIn_app (goodIn_of _ (by decide +kernel)) ggX10_law_X10_force
theorem dX10_law_0 : decode cX10_law 0 = .ok (.iload_n 1, 1) := by decide +kernel
theorem dX10_law_1 : decode cX10_law 1 = .ok (.i2l, 1) := by decide +kernel
theorem dX10_law_2 : decode cX10_law 2 = .ok (.lconst 0, 1) := by decide +kernel
theorem dX10_law_3 : decode cX10_law 3 = .ok (.ldc2_w 192, 3) := by decide +kernel
theorem dX10_law_6 : decode cX10_law 6 = .ok (.invokestatic 194, 3) := by decide +kernel
theorem dX10_law_9 : decode cX10_law 9 = .ok (.ifCond .ne 6, 3) := by decide +kernel
theorem dX10_law_12 : decode cX10_law 12 = .ok (.bipush (-9), 2) := by decide +kernel
theorem dX10_law_14 : decode cX10_law 14 = .ok (.ireturn, 1) := by decide +kernel
theorem dX10_law_15 : decode cX10_law 15 = .ok (.iload_n 2, 1) := by decide +kernel
theorem dX10_law_16 : decode cX10_law 16 = .ok (.i2l, 1) := by decide +kernel
theorem dX10_law_17 : decode cX10_law 17 = .ok (.lconst 0, 1) := by decide +kernel
theorem dX10_law_18 : decode cX10_law 18 = .ok (.ldc2_w 210, 3) := by decide +kernel
theorem dX10_law_21 : decode cX10_law 21 = .ok (.invokestatic 194, 3) := by decide +kernel
theorem dX10_law_24 : decode cX10_law 24 = .ok (.ifCond .eq 10, 3) := by decide +kernel
theorem dX10_law_27 : decode cX10_law 27 = .ok (.aload_n 0, 1) := by decide +kernel
theorem dX10_law_28 : decode cX10_law 28 = .ok (.iload_n 1, 1) := by decide +kernel
theorem dX10_law_29 : decode cX10_law 29 = .ok (.iload_n 2, 1) := by decide +kernel
theorem dX10_law_30 : decode cX10_law 30 = .ok (.invokevirtual 212, 3) := by decide +kernel
theorem dX10_law_33 : decode cX10_law 33 = .ok (.ireturn, 1) := by decide +kernel
theorem dX10_law_34 : decode cX10_law 34 = .ok (.iload_n 2, 1) := by decide +kernel
theorem dX10_law_35 : decode cX10_law 35 = .ok (.i2l, 1) := by decide +kernel
theorem dX10_law_36 : decode cX10_law 36 = .ok (.ldc2_w 215, 3) := by decide +kernel
theorem dX10_law_39 : decode cX10_law 39 = .ok (.ldc2_w 217, 3) := by decide +kernel
theorem dX10_law_42 : decode cX10_law 42 = .ok (.invokestatic 194, 3) := by decide +kernel
theorem dX10_law_45 : decode cX10_law 45 = .ok (.ifCond .eq 13, 3) := by decide +kernel
theorem dX10_law_48 : decode cX10_law 48 = .ok (.aload_n 0, 1) := by decide +kernel
theorem dX10_law_49 : decode cX10_law 49 = .ok (.iload_n 1, 1) := by decide +kernel
theorem dX10_law_50 : decode cX10_law 50 = .ok (.iload_n 2, 1) := by decide +kernel
theorem dX10_law_51 : decode cX10_law 51 = .ok (.bipush 6, 2) := by decide +kernel
theorem dX10_law_53 : decode cX10_law 53 = .ok (.isub, 1) := by decide +kernel
theorem dX10_law_54 : decode cX10_law 54 = .ok (.invokevirtual 212, 3) := by decide +kernel
theorem dX10_law_57 : decode cX10_law 57 = .ok (.ireturn, 1) := by decide +kernel
theorem dX10_law_58 : decode cX10_law 58 = .ok (.iload_n 2, 1) := by decide +kernel
theorem dX10_law_59 : decode cX10_law 59 = .ok (.i2l, 1) := by decide +kernel
theorem dX10_law_60 : decode cX10_law 60 = .ok (.ldc2_w 219, 3) := by decide +kernel
theorem dX10_law_63 : decode cX10_law 63 = .ok (.ldc2_w 221, 3) := by decide +kernel
theorem dX10_law_66 : decode cX10_law 66 = .ok (.invokestatic 194, 3) := by decide +kernel
theorem dX10_law_69 : decode cX10_law 69 = .ok (.ifCond .eq 13, 3) := by decide +kernel
theorem dX10_law_72 : decode cX10_law 72 = .ok (.aload_n 0, 1) := by decide +kernel
theorem dX10_law_73 : decode cX10_law 73 = .ok (.iload_n 1, 1) := by decide +kernel
theorem dX10_law_74 : decode cX10_law 74 = .ok (.iload_n 2, 1) := by decide +kernel
theorem dX10_law_75 : decode cX10_law 75 = .ok (.bipush 10, 2) := by decide +kernel
theorem dX10_law_77 : decode cX10_law 77 = .ok (.isub, 1) := by decide +kernel
theorem dX10_law_78 : decode cX10_law 78 = .ok (.invokevirtual 212, 3) := by decide +kernel
theorem dX10_law_81 : decode cX10_law 81 = .ok (.ireturn, 1) := by decide +kernel
theorem dX10_law_82 : decode cX10_law 82 = .ok (.iload_n 2, 1) := by decide +kernel
theorem dX10_law_83 : decode cX10_law 83 = .ok (.i2l, 1) := by decide +kernel
theorem dX10_law_84 : decode cX10_law 84 = .ok (.ldc2_w 223, 3) := by decide +kernel
theorem dX10_law_87 : decode cX10_law 87 = .ok (.ldc2_w 225, 3) := by decide +kernel
theorem dX10_law_90 : decode cX10_law 90 = .ok (.invokestatic 194, 3) := by decide +kernel
theorem dX10_law_93 : decode cX10_law 93 = .ok (.ifCond .eq 13, 3) := by decide +kernel
theorem dX10_law_96 : decode cX10_law 96 = .ok (.aload_n 0, 1) := by decide +kernel
theorem dX10_law_97 : decode cX10_law 97 = .ok (.iload_n 1, 1) := by decide +kernel
theorem dX10_law_98 : decode cX10_law 98 = .ok (.iload_n 2, 1) := by decide +kernel
theorem dX10_law_99 : decode cX10_law 99 = .ok (.bipush 14, 2) := by decide +kernel
theorem dX10_law_101 : decode cX10_law 101 = .ok (.isub, 1) := by decide +kernel
theorem dX10_law_102 : decode cX10_law 102 = .ok (.invokevirtual 212, 3) := by decide +kernel
theorem dX10_law_105 : decode cX10_law 105 = .ok (.ireturn, 1) := by decide +kernel
theorem dX10_law_106 : decode cX10_law 106 = .ok (.iload_n 2, 1) := by decide +kernel
theorem dX10_law_107 : decode cX10_law 107 = .ok (.i2l, 1) := by decide +kernel
theorem dX10_law_108 : decode cX10_law 108 = .ok (.ldc2_w 227, 3) := by decide +kernel
theorem dX10_law_111 : decode cX10_law 111 = .ok (.ldc2_w 229, 3) := by decide +kernel
theorem dX10_law_114 : decode cX10_law 114 = .ok (.invokestatic 194, 3) := by decide +kernel
theorem dX10_law_117 : decode cX10_law 117 = .ok (.ifCond .eq 13, 3) := by decide +kernel
theorem dX10_law_120 : decode cX10_law 120 = .ok (.aload_n 0, 1) := by decide +kernel
theorem dX10_law_121 : decode cX10_law 121 = .ok (.iload_n 1, 1) := by decide +kernel
theorem dX10_law_122 : decode cX10_law 122 = .ok (.iload_n 2, 1) := by decide +kernel
theorem dX10_law_123 : decode cX10_law 123 = .ok (.bipush 18, 2) := by decide +kernel
theorem dX10_law_125 : decode cX10_law 125 = .ok (.isub, 1) := by decide +kernel
theorem dX10_law_126 : decode cX10_law 126 = .ok (.invokevirtual 212, 3) := by decide +kernel
theorem dX10_law_129 : decode cX10_law 129 = .ok (.ireturn, 1) := by decide +kernel
theorem dX10_law_130 : decode cX10_law 130 = .ok (.iload_n 2, 1) := by decide +kernel
theorem dX10_law_131 : decode cX10_law 131 = .ok (.bipush 50, 2) := by decide +kernel
theorem dX10_law_133 : decode cX10_law 133 = .ok (.if_icmp .ne 11, 3) := by decide +kernel
theorem dX10_law_136 : decode cX10_law 136 = .ok (.aload_n 0, 1) := by decide +kernel
theorem dX10_law_137 : decode cX10_law 137 = .ok (.iload_n 1, 1) := by decide +kernel
theorem dX10_law_138 : decode cX10_law 138 = .ok (.invokevirtual 207, 3) := by decide +kernel
theorem dX10_law_141 : decode cX10_law 141 = .ok (.goto 5, 3) := by decide +kernel
theorem dX10_law_144 : decode cX10_law 144 = .ok (.bipush (-9), 2) := by decide +kernel
theorem dX10_law_146 : decode cX10_law 146 = .ok (.ireturn, 1) := by decide +kernel
set_option maxRecDepth 20000 in
theorem ggX10_isCitizen_X10_in : GoodIn wsX10_isCitizen wsX10_in := goodIn_r _ [5] (by decide +kernel) (by decide +kernel)
set_option maxRecDepth 20000 in
theorem gX10_isCitizen_X10_in : GoodIn wsX10_isCitizen (va_wsS RX10 194 yX10_in wsX10_in) := goodIn_app (goodIn_of _ (by decide +kernel)) ggX10_isCitizen_X10_in
theorem dX10_isCitizen_0 : decode cX10_isCitizen 0 = .ok (.iload_n 1, 1) := by decide +kernel
