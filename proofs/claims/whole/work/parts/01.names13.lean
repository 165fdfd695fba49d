theorem dX10_chances_12 : decode cX10_chances 12 = .ok (.aload_n 0, 1) := by decide +kernel
theorem dX10_chances_13 : decode cX10_chances 13 = .ok (.getfield 28, 3) := by decide +kernel
theorem dX10_chances_16 : decode cX10_chances 16 = .ok (.iload_n 1, 1) := by decide +kernel
theorem dX10_chances_17 : decode cX10_chances 17 = .ok (.iaload, 1) := by decide +kernel
theorem dX10_chances_18 : decode cX10_chances 18 = .ok (.invokevirtual 266, 3) := by decide +kernel
theorem dX10_chances_21 : decode cX10_chances 21 = .ok (.i2l, 1) := by decide +kernel
theorem dX10_chances_22 : decode cX10_chances 22 = .ok (.invokestatic 194, 3) := by decide +kernel
theorem dX10_chances_25 : decode cX10_chances 25 = .ok (.ifCond .ne 7, 3) := by decide +kernel
theorem dX10_chances_28 : decode cX10_chances 28 = .ok (.ldc2_w 269, 3) := by decide +kernel
theorem dX10_chances_31 : decode cX10_chances 31 = .ok (.lreturn, 1) := by decide +kernel
theorem dX10_chances_32 : decode cX10_chances 32 = .ok (.aload_n 0, 1) := by decide +kernel
theorem dX10_chances_33 : decode cX10_chances 33 = .ok (.getfield 46, 3) := by decide +kernel
theorem dX10_chances_36 : decode cX10_chances 36 = .ok (.iload_n 1, 1) := by decide +kernel
theorem dX10_chances_37 : decode cX10_chances 37 = .ok (.iaload, 1) := by decide +kernel
theorem dX10_chances_38 : decode cX10_chances 38 = .ok (.iconst (-1), 1) := by decide +kernel
theorem dX10_chances_39 : decode cX10_chances 39 = .ok (.if_icmp .ne 7, 3) := by decide +kernel
theorem dX10_chances_42 : decode cX10_chances 42 = .ok (.ldc2_w 274, 3) := by decide +kernel
theorem dX10_chances_45 : decode cX10_chances 45 = .ok (.lreturn, 1) := by decide +kernel
theorem dX10_chances_46 : decode cX10_chances 46 = .ok (.aload_n 0, 1) := by decide +kernel
theorem dX10_chances_47 : decode cX10_chances 47 = .ok (.aload_n 0, 1) := by decide +kernel
theorem dX10_chances_48 : decode cX10_chances 48 = .ok (.getfield 28, 3) := by decide +kernel
theorem dX10_chances_51 : decode cX10_chances 51 = .ok (.iload_n 1, 1) := by decide +kernel
theorem dX10_chances_52 : decode cX10_chances 52 = .ok (.iaload, 1) := by decide +kernel
theorem dX10_chances_53 : decode cX10_chances 53 = .ok (.invokevirtual 266, 3) := by decide +kernel
theorem dX10_chances_56 : decode cX10_chances 56 = .ok (.istore_n 3, 1) := by decide +kernel
theorem dX10_chances_57 : decode cX10_chances 57 = .ok (.aload_n 0, 1) := by decide +kernel
theorem dX10_chances_58 : decode cX10_chances 58 = .ok (.getfield 46, 3) := by decide +kernel
theorem dX10_chances_61 : decode cX10_chances 61 = .ok (.iload_n 1, 1) := by decide +kernel
theorem dX10_chances_62 : decode cX10_chances 62 = .ok (.iaload, 1) := by decide +kernel
theorem dX10_chances_63 : decode cX10_chances 63 = .ok (.iload_n 3, 1) := by decide +kernel
theorem dX10_chances_64 : decode cX10_chances 64 = .ok (.if_icmp .ge 7, 3) := by decide +kernel
theorem dX10_chances_67 : decode cX10_chances 67 = .ok (.iload_n 2, 1) := by decide +kernel
theorem dX10_chances_68 : decode cX10_chances 68 = .ok (.ifCond .ne 7, 3) := by decide +kernel
theorem dX10_chances_71 : decode cX10_chances 71 = .ok (.lconst 0, 1) := by decide +kernel
theorem dX10_chances_72 : decode cX10_chances 72 = .ok (.goto 18, 3) := by decide +kernel
theorem dX10_chances_75 : decode cX10_chances 75 = .ok (.aload_n 0, 1) := by decide +kernel
theorem dX10_chances_76 : decode cX10_chances 76 = .ok (.getfield 61, 3) := by decide +kernel
theorem dX10_chances_79 : decode cX10_chances 79 = .ok (.bipush 32, 2) := by decide +kernel
theorem dX10_chances_81 : decode cX10_chances 81 = .ok (.iload_n 3, 1) := by decide +kernel
theorem dX10_chances_82 : decode cX10_chances 82 = .ok (.iconst 1, 1) := by decide +kernel
theorem dX10_chances_83 : decode cX10_chances 83 = .ok (.isub, 1) := by decide +kernel
theorem dX10_chances_84 : decode cX10_chances 84 = .ok (.imul, 1) := by decide +kernel
theorem dX10_chances_85 : decode cX10_chances 85 = .ok (.iload_n 2, 1) := by decide +kernel
theorem dX10_chances_86 : decode cX10_chances 86 = .ok (.iadd, 1) := by decide +kernel
theorem dX10_chances_87 : decode cX10_chances 87 = .ok (.iconst 1, 1) := by decide +kernel
theorem dX10_chances_88 : decode cX10_chances 88 = .ok (.isub, 1) := by decide +kernel
theorem dX10_chances_89 : decode cX10_chances 89 = .ok (.laload, 1) := by decide +kernel
theorem dX10_chances_90 : decode cX10_chances 90 = .ok (.lreturn, 1) := by decide +kernel
set_option maxRecDepth 20000 in
theorem ggX10_bribed_X10_isTribe : GoodIn wsX10_bribed wsX10_isTribe := goodIn_r _ [6, 7, 8, 9, 5, 10] (by decide +kernel) (by decide +kernel)
set_option maxRecDepth 20000 in
theorem gX10_bribed_X10_isTribe : GoodIn wsX10_bribed (va_wsS RX10 263 yX10_isTribe wsX10_isTribe) := goodIn_app (goodIn_of _ (by decide +kernel)) ggX10_bribed_X10_isTribe
set_option maxRecDepth 20000 in
theorem ggX10_bribed_X10_rowsOf : GoodIn wsX10_bribed wsX10_rowsOf := goodIn_r _ [14, 15, 16, 17, 5, 18, 19, 20, 21, 22, 23, 24, 25, 26, 27, 28, 29, 30, 31, 32, 33, 34, 35, 36, 37, 38, 39, 40, 41, 42, 43, 44, 45, 46, 47, 48, 49, 50, 51, 52, 53, 54, 55, 56, 57, 58, 59, 60, 61, 62, 63, 64, 65, 66, 67, 68, 69, 70, 71, 72] (by decide +kernel) (by decide +kernel)
set_option maxRecDepth 20000 in
theorem gX10_bribed_X10_rowsOf : GoodIn wsX10_bribed (wsV RX10 266 RX10 yX10_rowsOf wsX10_rowsOf) := goodIn_app (goodIn_of _ (by decide +kernel)) ggX10_bribed_X10_rowsOf
set_option maxRecDepth 20000 in
theorem ggX10_bribed_X10_in : GoodIn wsX10_bribed wsX10_in := goodIn_r _ [10] (by decide +kernel) (by decide +kernel)
set_option maxRecDepth 20000 in
theorem gX10_bribed_X10_in : GoodIn wsX10_bribed (va_wsS RX10 194 yX10_in wsX10_in) := goodIn_app (goodIn_of _ (by decide +kernel)) ggX10_bribed_X10_in
theorem dX10_bribed_0 : decode cX10_bribed 0 = .ok (.iload_n 1, 1) := by decide +kernel
theorem dX10_bribed_1 : decode cX10_bribed 1 = .ok (.invokestatic 263, 3) := by decide +kernel
theorem dX10_bribed_4 : decode cX10_bribed 4 = .ok (.ifCond .ne 7, 3) := by decide +kernel
theorem dX10_bribed_7 : decode cX10_bribed 7 = .ok (.ldc2_w 269, 3) := by decide +kernel
theorem dX10_bribed_10 : decode cX10_bribed 10 = .ok (.lreturn, 1) := by decide +kernel
theorem dX10_bribed_11 : decode cX10_bribed 11 = .ok (.aload_n 0, 1) := by decide +kernel
theorem dX10_bribed_12 : decode cX10_bribed 12 = .ok (.iload_n 1, 1) := by decide +kernel
theorem dX10_bribed_13 : decode cX10_bribed 13 = .ok (.invokevirtual 266, 3) := by decide +kernel
theorem dX10_bribed_16 : decode cX10_bribed 16 = .ok (.istore 6, 2) := by decide +kernel
theorem dX10_bribed_18 : decode cX10_bribed 18 = .ok (.iload 6, 2) := by decide +kernel
theorem dX10_bribed_20 : decode cX10_bribed 20 = .ok (.bipush 12, 2) := by decide +kernel
theorem dX10_bribed_22 : decode cX10_bribed 22 = .ok (.if_icmp .ge 8, 3) := by decide +kernel
theorem dX10_bribed_25 : decode cX10_bribed 25 = .ok (.iload 6, 2) := by decide +kernel
theorem dX10_bribed_27 : decode cX10_bribed 27 = .ok (.goto 5, 3) := by decide +kernel
theorem dX10_bribed_30 : decode cX10_bribed 30 = .ok (.bipush 12, 2) := by decide +kernel
theorem dX10_bribed_32 : decode cX10_bribed 32 = .ok (.istore 7, 2) := by decide +kernel
theorem dX10_bribed_34 : decode cX10_bribed 34 = .ok (.iload_n 2, 1) := by decide +kernel
theorem dX10_bribed_35 : decode cX10_bribed 35 = .ok (.i2l, 1) := by decide +kernel
theorem dX10_bribed_36 : decode cX10_bribed 36 = .ok (.lconst 0, 1) := by decide +kernel
theorem dX10_bribed_37 : decode cX10_bribed 37 = .ok (.iload 6, 2) := by decide +kernel
theorem dX10_bribed_39 : decode cX10_bribed 39 = .ok (.i2l, 1) := by decide +kernel
theorem dX10_bribed_40 : decode cX10_bribed 40 = .ok (.invokestatic 194, 3) := by decide +kernel
theorem dX10_bribed_43 : decode cX10_bribed 43 = .ok (.ifCond .eq 19, 3) := by decide +kernel
theorem dX10_bribed_46 : decode cX10_bribed 46 = .ok (.iload 5, 2) := by decide +kernel
theorem dX10_bribed_48 : decode cX10_bribed 48 = .ok (.ifCond .lt 14, 3) := by decide +kernel
theorem dX10_bribed_51 : decode cX10_bribed 51 = .ok (.lload_n 3, 1) := by decide +kernel
theorem dX10_bribed_52 : decode cX10_bribed 52 = .ok (.iconst 5, 1) := by decide +kernel
theorem dX10_bribed_53 : decode cX10_bribed 53 = .ok (.iload 7, 2) := by decide +kernel
theorem dX10_bribed_55 : decode cX10_bribed 55 = .ok (.imul, 1) := by decide +kernel
theorem dX10_bribed_56 : decode cX10_bribed 56 = .ok (.lushr, 1) := by decide +kernel
theorem dX10_bribed_57 : decode cX10_bribed 57 = .ok (.lconst 0, 1) := by decide +kernel
theorem dX10_bribed_58 : decode cX10_bribed 58 = .ok (.lcmp, 1) := by decide +kernel
theorem dX10_bribed_59 : decode cX10_bribed 59 = .ok (.ifCond .eq 7, 3) := by decide +kernel
theorem dX10_bribed_62 : decode cX10_bribed 62 = .ok (.ldc2_w 269, 3) := by decide +kernel
theorem dX10_bribed_65 : decode cX10_bribed 65 = .ok (.lreturn, 1) := by decide +kernel
theorem dX10_bribed_66 : decode cX10_bribed 66 = .ok (.iconst 0, 1) := by decide +kernel
theorem dX10_bribed_67 : decode cX10_bribed 67 = .ok (.istore 8, 2) := by decide +kernel
theorem dX10_bribed_69 : decode cX10_bribed 69 = .ok (.iload 8, 2) := by decide +kernel
theorem dX10_bribed_71 : decode cX10_bribed 71 = .ok (.sipush 1891, 3) := by decide +kernel
theorem dX10_bribed_74 : decode cX10_bribed 74 = .ok (.if_icmp .ge 17, 3) := by decide +kernel
theorem dX10_bribed_77 : decode cX10_bribed 77 = .ok (.aload_n 0, 1) := by decide +kernel
theorem dX10_bribed_78 : decode cX10_bribed 78 = .ok (.getfield 65, 3) := by decide +kernel
theorem dX10_bribed_81 : decode cX10_bribed 81 = .ok (.iload 8, 2) := by decide +kernel
theorem dX10_bribed_83 : decode cX10_bribed 83 = .ok (.lconst 0, 1) := by decide +kernel
theorem dX10_bribed_84 : decode cX10_bribed 84 = .ok (.lastore, 1) := by decide +kernel
theorem dX10_bribed_85 : decode cX10_bribed 85 = .ok (.iinc 8 1, 3) := by decide +kernel
theorem dX10_bribed_88 : decode cX10_bribed 88 = .ok (.goto (-19), 3) := by decide +kernel
theorem dX10_bribed_91 : decode cX10_bribed 91 = .ok (.aload_n 0, 1) := by decide +kernel
theorem dX10_bribed_92 : decode cX10_bribed 92 = .ok (.getfield 65, 3) := by decide +kernel
theorem dX10_bribed_95 : decode cX10_bribed 95 = .ok (.iconst 0, 1) := by decide +kernel
theorem dX10_bribed_96 : decode cX10_bribed 96 = .ok (.lconst 1, 1) := by decide +kernel
theorem dX10_bribed_97 : decode cX10_bribed 97 = .ok (.lastore, 1) := by decide +kernel
theorem dX10_bribed_98 : decode cX10_bribed 98 = .ok (.iconst 0, 1) := by decide +kernel
theorem dX10_bribed_99 : decode cX10_bribed 99 = .ok (.istore 8, 2) := by decide +kernel
theorem dX10_bribed_101 : decode cX10_bribed 101 = .ok (.iload 8, 2) := by decide +kernel
theorem dX10_bribed_103 : decode cX10_bribed 103 = .ok (.iload 6, 2) := by decide +kernel
theorem dX10_bribed_105 : decode cX10_bribed 105 = .ok (.if_icmp .ge 116, 3) := by decide +kernel
theorem dX10_bribed_108 : decode cX10_bribed 108 = .ok (.iconst 0, 1) := by decide +kernel
theorem dX10_bribed_109 : decode cX10_bribed 109 = .ok (.istore 9, 2) := by decide +kernel
theorem dX10_bribed_111 : decode cX10_bribed 111 = .ok (.iconst 0, 1) := by decide +kernel
theorem dX10_bribed_112 : decode cX10_bribed 112 = .ok (.istore 10, 2) := by decide +kernel
theorem dX10_bribed_114 : decode cX10_bribed 114 = .ok (.iload 10, 2) := by decide +kernel
theorem dX10_bribed_116 : decode cX10_bribed 116 = .ok (.iconst 5, 1) := by decide +kernel
theorem dX10_bribed_117 : decode cX10_bribed 117 = .ok (.if_icmp .ge 33, 3) := by decide +kernel
theorem dX10_bribed_120 : decode cX10_bribed 120 = .ok (.iload 8, 2) := by decide +kernel
theorem dX10_bribed_122 : decode cX10_bribed 122 = .ok (.bipush 12, 2) := by decide +kernel
theorem dX10_bribed_124 : decode cX10_bribed 124 = .ok (.if_icmp .ge 26, 3) := by decide +kernel
theorem dX10_bribed_127 : decode cX10_bribed 127 = .ok (.iload 9, 2) := by decide +kernel
theorem dX10_bribed_129 : decode cX10_bribed 129 = .ok (.lload_n 3, 1) := by decide +kernel
theorem dX10_bribed_130 : decode cX10_bribed 130 = .ok (.iconst 5, 1) := by decide +kernel
theorem dX10_bribed_131 : decode cX10_bribed 131 = .ok (.iload 8, 2) := by decide +kernel
theorem dX10_bribed_133 : decode cX10_bribed 133 = .ok (.imul, 1) := by decide +kernel
theorem dX10_bribed_134 : decode cX10_bribed 134 = .ok (.iload 10, 2) := by decide +kernel
theorem dX10_bribed_136 : decode cX10_bribed 136 = .ok (.iadd, 1) := by decide +kernel
theorem dX10_bribed_137 : decode cX10_bribed 137 = .ok (.lushr, 1) := by decide +kernel
theorem dX10_bribed_138 : decode cX10_bribed 138 = .ok (.lconst 1, 1) := by decide +kernel
theorem dX10_bribed_139 : decode cX10_bribed 139 = .ok (.land, 1) := by decide +kernel
theorem dX10_bribed_140 : decode cX10_bribed 140 = .ok (.l2i, 1) := by decide +kernel
theorem dX10_bribed_141 : decode cX10_bribed 141 = .ok (.iadd, 1) := by decide +kernel
theorem dX10_bribed_142 : decode cX10_bribed 142 = .ok (.istore 9, 2) := by decide +kernel
theorem dX10_bribed_144 : decode cX10_bribed 144 = .ok (.iinc 10 1, 3) := by decide +kernel
theorem dX10_bribed_147 : decode cX10_bribed 147 = .ok (.goto (-33), 3) := by decide +kernel
theorem dX10_bribed_150 : decode cX10_bribed 150 = .ok (.iload_n 2, 1) := by decide +kernel
theorem dX10_bribed_151 : decode cX10_bribed 151 = .ok (.istore 10, 2) := by decide +kernel
theorem dX10_bribed_153 : decode cX10_bribed 153 = .ok (.iload 10, 2) := by decide +kernel
theorem dX10_bribed_155 : decode cX10_bribed 155 = .ok (.ifCond .le 60, 3) := by decide +kernel
theorem dX10_bribed_158 : decode cX10_bribed 158 = .ok (.bipush 60, 2) := by decide +kernel
theorem dX10_bribed_160 : decode cX10_bribed 160 = .ok (.istore 11, 2) := by decide +kernel
theorem dX10_bribed_162 : decode cX10_bribed 162 = .ok (.iload 11, 2) := by decide +kernel
theorem dX10_bribed_164 : decode cX10_bribed 164 = .ok (.iload 9, 2) := by decide +kernel
theorem dX10_bribed_166 : decode cX10_bribed 166 = .ok (.if_icmp .lt 43, 3) := by decide +kernel
theorem dX10_bribed_169 : decode cX10_bribed 169 = .ok (.aload_n 0, 1) := by decide +kernel
theorem dX10_bribed_170 : decode cX10_bribed 170 = .ok (.getfield 65, 3) := by decide +kernel
theorem dX10_bribed_173 : decode cX10_bribed 173 = .ok (.bipush 61, 2) := by decide +kernel
theorem dX10_bribed_175 : decode cX10_bribed 175 = .ok (.iload 10, 2) := by decide +kernel
theorem dX10_bribed_177 : decode cX10_bribed 177 = .ok (.imul, 1) := by decide +kernel
theorem dX10_bribed_178 : decode cX10_bribed 178 = .ok (.iload 11, 2) := by decide +kernel
theorem dX10_bribed_180 : decode cX10_bribed 180 = .ok (.iadd, 1) := by decide +kernel
theorem dX10_bribed_181 : decode cX10_bribed 181 = .ok (.dup2, 1) := by decide +kernel
theorem dX10_bribed_182 : decode cX10_bribed 182 = .ok (.laload, 1) := by decide +kernel
theorem dX10_bribed_183 : decode cX10_bribed 183 = .ok (.aload_n 0, 1) := by decide +kernel
theorem dX10_bribed_184 : decode cX10_bribed 184 = .ok (.getfield 65, 3) := by decide +kernel
theorem dX10_bribed_187 : decode cX10_bribed 187 = .ok (.bipush 61, 2) := by decide +kernel
theorem dX10_bribed_189 : decode cX10_bribed 189 = .ok (.iload 10, 2) := by decide +kernel
theorem dX10_bribed_191 : decode cX10_bribed 191 = .ok (.iconst 1, 1) := by decide +kernel
theorem dX10_bribed_192 : decode cX10_bribed 192 = .ok (.isub, 1) := by decide +kernel
theorem dX10_bribed_193 : decode cX10_bribed 193 = .ok (.imul, 1) := by decide +kernel
theorem dX10_bribed_194 : decode cX10_bribed 194 = .ok (.iload 11, 2) := by decide +kernel
theorem dX10_bribed_196 : decode cX10_bribed 196 = .ok (.iadd, 1) := by decide +kernel
theorem dX10_bribed_197 : decode cX10_bribed 197 = .ok (.iload 9, 2) := by decide +kernel
theorem dX10_bribed_199 : decode cX10_bribed 199 = .ok (.isub, 1) := by decide +kernel
theorem dX10_bribed_200 : decode cX10_bribed 200 = .ok (.laload, 1) := by decide +kernel
theorem dX10_bribed_201 : decode cX10_bribed 201 = .ok (.ladd, 1) := by decide +kernel
theorem dX10_bribed_202 : decode cX10_bribed 202 = .ok (.lastore, 1) := by decide +kernel
theorem dX10_bribed_203 : decode cX10_bribed 203 = .ok (.iinc 11 (-1), 3) := by decide +kernel
theorem dX10_bribed_206 : decode cX10_bribed 206 = .ok (.goto (-44), 3) := by decide +kernel
theorem dX10_bribed_209 : decode cX10_bribed 209 = .ok (.iinc 10 (-1), 3) := by decide +kernel
theorem dX10_bribed_212 : decode cX10_bribed 212 = .ok (.goto (-59), 3) := by decide +kernel
theorem dX10_bribed_215 : decode cX10_bribed 215 = .ok (.iinc 8 1, 3) := by decide +kernel
theorem dX10_bribed_218 : decode cX10_bribed 218 = .ok (.goto (-117), 3) := by decide +kernel
theorem dX10_bribed_221 : decode cX10_bribed 221 = .ok (.lconst 0, 1) := by decide +kernel
theorem dX10_bribed_222 : decode cX10_bribed 222 = .ok (.lstore 8, 2) := by decide +kernel
theorem dX10_bribed_224 : decode cX10_bribed 224 = .ok (.iload 5, 2) := by decide +kernel
theorem dX10_bribed_226 : decode cX10_bribed 226 = .ok (.istore 10, 2) := by decide +kernel
theorem dX10_bribed_228 : decode cX10_bribed 228 = .ok (.iload 10, 2) := by decide +kernel
theorem dX10_bribed_230 : decode cX10_bribed 230 = .ok (.bipush 60, 2) := by decide +kernel
theorem dX10_bribed_232 : decode cX10_bribed 232 = .ok (.if_icmp .gt 26, 3) := by decide +kernel
theorem dX10_bribed_235 : decode cX10_bribed 235 = .ok (.lload 8, 2) := by decide +kernel
theorem dX10_bribed_237 : decode cX10_bribed 237 = .ok (.aload_n 0, 1) := by decide +kernel
theorem dX10_bribed_238 : decode cX10_bribed 238 = .ok (.getfield 65, 3) := by decide +kernel
theorem dX10_bribed_241 : decode cX10_bribed 241 = .ok (.bipush 61, 2) := by decide +kernel
theorem dX10_bribed_243 : decode cX10_bribed 243 = .ok (.iload_n 2, 1) := by decide +kernel
theorem dX10_bribed_244 : decode cX10_bribed 244 = .ok (.imul, 1) := by decide +kernel
theorem dX10_bribed_245 : decode cX10_bribed 245 = .ok (.iload 10, 2) := by decide +kernel
theorem dX10_bribed_247 : decode cX10_bribed 247 = .ok (.iadd, 1) := by decide +kernel
theorem dX10_bribed_248 : decode cX10_bribed 248 = .ok (.laload, 1) := by decide +kernel
theorem dX10_bribed_249 : decode cX10_bribed 249 = .ok (.ladd, 1) := by decide +kernel
theorem dX10_bribed_250 : decode cX10_bribed 250 = .ok (.lstore 8, 2) := by decide +kernel
theorem dX10_bribed_252 : decode cX10_bribed 252 = .ok (.iinc 10 1, 3) := by decide +kernel
theorem dX10_bribed_255 : decode cX10_bribed 255 = .ok (.goto (-27), 3) := by decide +kernel
theorem dX10_bribed_258 : decode cX10_bribed 258 = .ok (.lload 8, 2) := by decide +kernel
theorem dX10_bribed_260 : decode cX10_bribed 260 = .ok (.lreturn, 1) := by decide +kernel
set_option maxRecDepth 20000 in
theorem ggX10_chosen_X10_in : GoodIn wsX10_chosen wsX10_in := goodIn_r _ [6] (by decide +kernel) (by decide +kernel)
set_option maxRecDepth 20000 in
theorem gX10_chosen_X10_in : GoodIn wsX10_chosen (va_wsS RX10 194 yX10_in wsX10_in) := goodIn_app (goodIn_of _ (by decide +kernel)) ggX10_chosen_X10_in
theorem dX10_chosen_0 : decode cX10_chosen 0 = .ok (.iload_n 1, 1) := by decide +kernel
theorem dX10_chosen_1 : decode cX10_chosen 1 = .ok (.i2l, 1) := by decide +kernel
theorem dX10_chosen_2 : decode cX10_chosen 2 = .ok (.lconst 0, 1) := by decide +kernel
theorem dX10_chosen_3 : decode cX10_chosen 3 = .ok (.aload_n 0, 1) := by decide +kernel
theorem dX10_chosen_4 : decode cX10_chosen 4 = .ok (.getfield 254, 3) := by decide +kernel
theorem dX10_chosen_7 : decode cX10_chosen 7 = .ok (.iconst 1, 1) := by decide +kernel
theorem dX10_chosen_8 : decode cX10_chosen 8 = .ok (.isub, 1) := by decide +kernel
theorem dX10_chosen_9 : decode cX10_chosen 9 = .ok (.i2l, 1) := by decide +kernel
theorem dX10_chosen_10 : decode cX10_chosen 10 = .ok (.invokestatic 194, 3) := by decide +kernel
theorem dX10_chosen_13 : decode cX10_chosen 13 = .ok (.ifCond .eq 12, 3) := by decide +kernel
theorem dX10_chosen_16 : decode cX10_chosen 16 = .ok (.aload_n 0, 1) := by decide +kernel
theorem dX10_chosen_17 : decode cX10_chosen 17 = .ok (.getfield 58, 3) := by decide +kernel
theorem dX10_chosen_20 : decode cX10_chosen 20 = .ok (.iload_n 1, 1) := by decide +kernel
theorem dX10_chosen_21 : decode cX10_chosen 21 = .ok (.iaload, 1) := by decide +kernel
theorem dX10_chosen_22 : decode cX10_chosen 22 = .ok (.goto 4, 3) := by decide +kernel
theorem dX10_chosen_25 : decode cX10_chosen 25 = .ok (.iconst (-1), 1) := by decide +kernel
theorem dX10_chosen_26 : decode cX10_chosen 26 = .ok (.ireturn, 1) := by decide +kernel
theorem dX10_shutAll_0 : decode cX10_shutAll 0 = .ok (.iconst 0, 1) := by decide +kernel
theorem dX10_shutAll_1 : decode cX10_shutAll 1 = .ok (.istore_n 1, 1) := by decide +kernel
theorem dX10_shutAll_2 : decode cX10_shutAll 2 = .ok (.iload_n 1, 1) := by decide +kernel
theorem dX10_shutAll_3 : decode cX10_shutAll 3 = .ok (.iconst 5, 1) := by decide +kernel
theorem dX10_shutAll_4 : decode cX10_shutAll 4 = .ok (.if_icmp .ge 37, 3) := by decide +kernel
theorem dX10_shutAll_7 : decode cX10_shutAll 7 = .ok (.aload_n 0, 1) := by decide +kernel
theorem dX10_shutAll_8 : decode cX10_shutAll 8 = .ok (.getfield 68, 3) := by decide +kernel
theorem dX10_shutAll_11 : decode cX10_shutAll 11 = .ok (.iload_n 1, 1) := by decide +kernel
theorem dX10_shutAll_12 : decode cX10_shutAll 12 = .ok (.iconst 0, 1) := by decide +kernel
theorem dX10_shutAll_13 : decode cX10_shutAll 13 = .ok (.iastore, 1) := by decide +kernel
theorem dX10_shutAll_14 : decode cX10_shutAll 14 = .ok (.aload_n 0, 1) := by decide +kernel
theorem dX10_shutAll_15 : decode cX10_shutAll 15 = .ok (.getfield 71, 3) := by decide +kernel
theorem dX10_shutAll_18 : decode cX10_shutAll 18 = .ok (.iload_n 1, 1) := by decide +kernel
theorem dX10_shutAll_19 : decode cX10_shutAll 19 = .ok (.iconst 0, 1) := by decide +kernel
theorem dX10_shutAll_20 : decode cX10_shutAll 20 = .ok (.iastore, 1) := by decide +kernel
theorem dX10_shutAll_21 : decode cX10_shutAll 21 = .ok (.aload_n 0, 1) := by decide +kernel
theorem dX10_shutAll_22 : decode cX10_shutAll 22 = .ok (.getfield 83, 3) := by decide +kernel
theorem dX10_shutAll_25 : decode cX10_shutAll 25 = .ok (.iload_n 1, 1) := by decide +kernel
theorem dX10_shutAll_26 : decode cX10_shutAll 26 = .ok (.iconst 0, 1) := by decide +kernel
theorem dX10_shutAll_27 : decode cX10_shutAll 27 = .ok (.bastore, 1) := by decide +kernel
theorem dX10_shutAll_28 : decode cX10_shutAll 28 = .ok (.aload_n 0, 1) := by decide +kernel
theorem dX10_shutAll_29 : decode cX10_shutAll 29 = .ok (.getfield 86, 3) := by decide +kernel
theorem dX10_shutAll_32 : decode cX10_shutAll 32 = .ok (.iload_n 1, 1) := by decide +kernel
theorem dX10_shutAll_33 : decode cX10_shutAll 33 = .ok (.iconst 0, 1) := by decide +kernel
theorem dX10_shutAll_34 : decode cX10_shutAll 34 = .ok (.bastore, 1) := by decide +kernel
theorem dX10_shutAll_35 : decode cX10_shutAll 35 = .ok (.iinc 1 1, 3) := by decide +kernel
theorem dX10_shutAll_38 : decode cX10_shutAll 38 = .ok (.goto (-36), 3) := by decide +kernel
theorem dX10_shutAll_41 : decode cX10_shutAll 41 = .ok (.return_, 1) := by decide +kernel
set_option maxRecDepth 20000 in
theorem ggX10_isCourt_X10_in : GoodIn wsX10_isCourt wsX10_in := goodIn_r _ [5] (by decide +kernel) (by decide +kernel)
set_option maxRecDepth 20000 in
theorem gX10_isCourt_X10_in : GoodIn wsX10_isCourt (va_wsS RX10 194 yX10_in wsX10_in) := goodIn_app (goodIn_of _ (by decide +kernel)) ggX10_isCourt_X10_in
theorem dX10_isCourt_0 : decode cX10_isCourt 0 = .ok (.iload_n 0, 1) := by decide +kernel
theorem dX10_isCourt_1 : decode cX10_isCourt 1 = .ok (.i2l, 1) := by decide +kernel
theorem dX10_isCourt_2 : decode cX10_isCourt 2 = .ok (.lconst 0, 1) := by decide +kernel
theorem dX10_isCourt_3 : decode cX10_isCourt 3 = .ok (.ldc2_w 236, 3) := by decide +kernel
theorem dX10_isCourt_6 : decode cX10_isCourt 6 = .ok (.invokestatic 194, 3) := by decide +kernel
theorem dX10_isCourt_9 : decode cX10_isCourt 9 = .ok (.ireturn, 1) := by decide +kernel
set_option maxRecDepth 20000 in
theorem ggX10_open_X10_isCourt : GoodIn wsX10_open wsX10_isCourt := goodIn_r _ [6, 7, 8, 9, 5, 10] (by decide +kernel) (by decide +kernel)
set_option maxRecDepth 20000 in
theorem gX10_open_X10_isCourt : GoodIn wsX10_open (va_wsS RX10 276 yX10_isCourt wsX10_isCourt) := goodIn_app (goodIn_of _ (by decide +kernel)) ggX10_open_X10_isCourt
set_option maxRecDepth 20000 in
theorem ggX10_open_X10_in : GoodIn wsX10_open wsX10_in := goodIn_r _ [10] (by decide +kernel) (by decide +kernel)
set_option maxRecDepth 20000 in
theorem gX10_open_X10_in : GoodIn wsX10_open (va_wsS RX10 194 yX10_in wsX10_in) := goodIn_app (goodIn_of _ (by decide +kernel)) ggX10_open_X10_in
theorem dX10_open_0 : decode cX10_open 0 = .ok (.iload_n 1, 1) := by decide +kernel
theorem dX10_open_1 : decode cX10_open 1 = .ok (.invokestatic 276, 3) := by decide +kernel
theorem dX10_open_4 : decode cX10_open 4 = .ok (.ifCond .eq 21, 3) := by decide +kernel
theorem dX10_open_7 : decode cX10_open 7 = .ok (.iload_n 2, 1) := by decide +kernel
theorem dX10_open_8 : decode cX10_open 8 = .ok (.i2l, 1) := by decide +kernel
theorem dX10_open_9 : decode cX10_open 9 = .ok (.lconst 1, 1) := by decide +kernel
theorem dX10_open_10 : decode cX10_open 10 = .ok (.ldc2_w 221, 3) := by decide +kernel
theorem dX10_open_13 : decode cX10_open 13 = .ok (.invokestatic 194, 3) := by decide +kernel
theorem dX10_open_16 : decode cX10_open 16 = .ok (.ifCond .eq 9, 3) := by decide +kernel
theorem dX10_open_19 : decode cX10_open 19 = .ok (.iload_n 2, 1) := by decide +kernel
theorem dX10_open_20 : decode cX10_open 20 = .ok (.iconst 2, 1) := by decide +kernel
theorem dX10_open_21 : decode cX10_open 21 = .ok (.irem, 1) := by decide +kernel
theorem dX10_open_22 : decode cX10_open 22 = .ok (.ifCond .ne 6, 3) := by decide +kernel
theorem dX10_open_25 : decode cX10_open 25 = .ok (.bipush (-2), 2) := by decide +kernel
theorem dX10_open_27 : decode cX10_open 27 = .ok (.ireturn, 1) := by decide +kernel
theorem dX10_open_28 : decode cX10_open 28 = .ok (.aload_n 0, 1) := by decide +kernel
theorem dX10_open_29 : decode cX10_open 29 = .ok (.getfield 68, 3) := by decide +kernel
theorem dX10_open_32 : decode cX10_open 32 = .ok (.iload_n 1, 1) := by decide +kernel
theorem dX10_open_33 : decode cX10_open 33 = .ok (.iaload, 1) := by decide +kernel
theorem dX10_open_34 : decode cX10_open 34 = .ok (.ifCond .le 6, 3) := by decide +kernel
theorem dX10_open_37 : decode cX10_open 37 = .ok (.bipush (-4), 2) := by decide +kernel
theorem dX10_open_39 : decode cX10_open 39 = .ok (.ireturn, 1) := by decide +kernel
theorem dX10_open_40 : decode cX10_open 40 = .ok (.aload_n 0, 1) := by decide +kernel
theorem dX10_open_41 : decode cX10_open 41 = .ok (.getfield 68, 3) := by decide +kernel
theorem dX10_open_44 : decode cX10_open 44 = .ok (.iload_n 1, 1) := by decide +kernel
theorem dX10_open_45 : decode cX10_open 45 = .ok (.iload_n 2, 1) := by decide +kernel
theorem dX10_open_46 : decode cX10_open 46 = .ok (.iastore, 1) := by decide +kernel
theorem dX10_open_47 : decode cX10_open 47 = .ok (.iload_n 2, 1) := by decide +kernel
theorem dX10_open_48 : decode cX10_open 48 = .ok (.ireturn, 1) := by decide +kernel
set_option maxRecDepth 20000 in
theorem ggX10_lot_X10_isCourt : GoodIn wsX10_lot wsX10_isCourt := goodIn_r _ [11, 12, 13, 14, 10, 15] (by decide +kernel) (by decide +kernel)
set_option maxRecDepth 20000 in
theorem gX10_lot_X10_isCourt : GoodIn wsX10_lot (va_wsS RX10 276 yX10_isCourt wsX10_isCourt) := goodIn_app (goodIn_of _ (by decide +kernel)) ggX10_lot_X10_isCourt
theorem dX10_lot_0 : decode cX10_lot 0 = .ok (.iload_n 1, 1) := by decide +kernel
theorem dX10_lot_1 : decode cX10_lot 1 = .ok (.invokestatic 276, 3) := by decide +kernel
theorem dX10_lot_4 : decode cX10_lot 4 = .ok (.ifCond .ne 6, 3) := by decide +kernel
theorem dX10_lot_7 : decode cX10_lot 7 = .ok (.bipush (-2), 2) := by decide +kernel
theorem dX10_lot_9 : decode cX10_lot 9 = .ok (.ireturn, 1) := by decide +kernel
theorem dX10_lot_10 : decode cX10_lot 10 = .ok (.aload_n 0, 1) := by decide +kernel
theorem dX10_lot_11 : decode cX10_lot 11 = .ok (.getfield 68, 3) := by decide +kernel
theorem dX10_lot_14 : decode cX10_lot 14 = .ok (.iload_n 1, 1) := by decide +kernel
theorem dX10_lot_15 : decode cX10_lot 15 = .ok (.iaload, 1) := by decide +kernel
theorem dX10_lot_16 : decode cX10_lot 16 = .ok (.ifCond .eq 18, 3) := by decide +kernel
theorem dX10_lot_19 : decode cX10_lot 19 = .ok (.aload_n 0, 1) := by decide +kernel
theorem dX10_lot_20 : decode cX10_lot 20 = .ok (.getfield 71, 3) := by decide +kernel
theorem dX10_lot_23 : decode cX10_lot 23 = .ok (.iload_n 1, 1) := by decide +kernel
theorem dX10_lot_24 : decode cX10_lot 24 = .ok (.iaload, 1) := by decide +kernel
theorem dX10_lot_25 : decode cX10_lot 25 = .ok (.aload_n 0, 1) := by decide +kernel
theorem dX10_lot_26 : decode cX10_lot 26 = .ok (.getfield 68, 3) := by decide +kernel
theorem dX10_lot_29 : decode cX10_lot 29 = .ok (.iload_n 1, 1) := by decide +kernel
theorem dX10_lot_30 : decode cX10_lot 30 = .ok (.iaload, 1) := by decide +kernel
theorem dX10_lot_31 : decode cX10_lot 31 = .ok (.if_icmp .ne 6, 3) := by decide +kernel
theorem dX10_lot_34 : decode cX10_lot 34 = .ok (.bipush (-4), 2) := by decide +kernel
theorem dX10_lot_36 : decode cX10_lot 36 = .ok (.ireturn, 1) := by decide +kernel
theorem dX10_lot_37 : decode cX10_lot 37 = .ok (.aload_n 0, 1) := by decide +kernel
theorem dX10_lot_38 : decode cX10_lot 38 = .ok (.getfield 257, 3) := by decide +kernel
theorem dX10_lot_41 : decode cX10_lot 41 = .ok (.aload_n 0, 1) := by decide +kernel
theorem dX10_lot_42 : decode cX10_lot 42 = .ok (.getfield 254, 3) := by decide +kernel
theorem dX10_lot_45 : decode cX10_lot 45 = .ok (.if_icmp .ne 5, 3) := by decide +kernel
theorem dX10_lot_48 : decode cX10_lot 48 = .ok (.iconst (-1), 1) := by decide +kernel
theorem dX10_lot_49 : decode cX10_lot 49 = .ok (.ireturn, 1) := by decide +kernel
theorem dX10_lot_50 : decode cX10_lot 50 = .ok (.aload_n 0, 1) := by decide +kernel
theorem dX10_lot_51 : decode cX10_lot 51 = .ok (.getfield 58, 3) := by decide +kernel
theorem dX10_lot_54 : decode cX10_lot 54 = .ok (.aload_n 0, 1) := by decide +kernel
theorem dX10_lot_55 : decode cX10_lot 55 = .ok (.getfield 257, 3) := by decide +kernel
theorem dX10_lot_58 : decode cX10_lot 58 = .ok (.iaload, 1) := by decide +kernel
theorem dX10_lot_59 : decode cX10_lot 59 = .ok (.istore_n 2, 1) := by decide +kernel
theorem dX10_lot_60 : decode cX10_lot 60 = .ok (.aload_n 0, 1) := by decide +kernel
theorem dX10_lot_61 : decode cX10_lot 61 = .ok (.dup, 1) := by decide +kernel
theorem dX10_lot_62 : decode cX10_lot 62 = .ok (.getfield 257, 3) := by decide +kernel
theorem dX10_lot_65 : decode cX10_lot 65 = .ok (.iconst 1, 1) := by decide +kernel
theorem dX10_lot_66 : decode cX10_lot 66 = .ok (.iadd, 1) := by decide +kernel
theorem dX10_lot_67 : decode cX10_lot 67 = .ok (.putfield 257, 3) := by decide +kernel
theorem dX10_lot_70 : decode cX10_lot 70 = .ok (.aload_n 0, 1) := by decide +kernel
theorem dX10_lot_71 : decode cX10_lot 71 = .ok (.getfield 52, 3) := by decide +kernel
theorem dX10_lot_74 : decode cX10_lot 74 = .ok (.iload_n 2, 1) := by decide +kernel
theorem dX10_lot_75 : decode cX10_lot 75 = .ok (.iload_n 1, 1) := by decide +kernel
theorem dX10_lot_76 : decode cX10_lot 76 = .ok (.iastore, 1) := by decide +kernel
theorem dX10_lot_77 : decode cX10_lot 77 = .ok (.aload_n 0, 1) := by decide +kernel
theorem dX10_lot_78 : decode cX10_lot 78 = .ok (.getfield 74, 3) := by decide +kernel
theorem dX10_lot_81 : decode cX10_lot 81 = .ok (.bipush 25, 2) := by decide +kernel
theorem dX10_lot_83 : decode cX10_lot 83 = .ok (.iload_n 1, 1) := by decide +kernel
theorem dX10_lot_84 : decode cX10_lot 84 = .ok (.imul, 1) := by decide +kernel
theorem dX10_lot_85 : decode cX10_lot 85 = .ok (.aload_n 0, 1) := by decide +kernel
theorem dX10_lot_86 : decode cX10_lot 86 = .ok (.getfield 71, 3) := by decide +kernel
theorem dX10_lot_89 : decode cX10_lot 89 = .ok (.iload_n 1, 1) := by decide +kernel
theorem dX10_lot_90 : decode cX10_lot 90 = .ok (.iaload, 1) := by decide +kernel
theorem dX10_lot_91 : decode cX10_lot 91 = .ok (.iadd, 1) := by decide +kernel
theorem dX10_lot_92 : decode cX10_lot 92 = .ok (.iload_n 2, 1) := by decide +kernel
theorem dX10_lot_93 : decode cX10_lot 93 = .ok (.iastore, 1) := by decide +kernel
theorem dX10_lot_94 : decode cX10_lot 94 = .ok (.aload_n 0, 1) := by decide +kernel
theorem dX10_lot_95 : decode cX10_lot 95 = .ok (.getfield 71, 3) := by decide +kernel
theorem dX10_lot_98 : decode cX10_lot 98 = .ok (.iload_n 1, 1) := by decide +kernel
theorem dX10_lot_99 : decode cX10_lot 99 = .ok (.dup2, 1) := by decide +kernel
theorem dX10_lot_100 : decode cX10_lot 100 = .ok (.iaload, 1) := by decide +kernel
theorem dX10_lot_101 : decode cX10_lot 101 = .ok (.iconst 1, 1) := by decide +kernel
theorem dX10_lot_102 : decode cX10_lot 102 = .ok (.iadd, 1) := by decide +kernel
theorem dX10_lot_103 : decode cX10_lot 103 = .ok (.iastore, 1) := by decide +kernel
theorem dX10_lot_104 : decode cX10_lot 104 = .ok (.iload_n 2, 1) := by decide +kernel
theorem dX10_lot_105 : decode cX10_lot 105 = .ok (.ireturn, 1) := by decide +kernel
set_option maxRecDepth 20000 in
theorem ggX10_seat_X10_isCourt : GoodIn wsX10_seat wsX10_isCourt := goodIn_r _ [6, 7, 8, 9, 5, 10] (by decide +kernel) (by decide +kernel)
set_option maxRecDepth 20000 in
theorem gX10_seat_X10_isCourt : GoodIn wsX10_seat (va_wsS RX10 276 yX10_isCourt wsX10_isCourt) := goodIn_app (goodIn_of _ (by decide +kernel)) ggX10_seat_X10_isCourt
set_option maxRecDepth 20000 in
theorem ggX10_seat_X10_in : GoodIn wsX10_seat wsX10_in := goodIn_r _ [10] (by decide +kernel) (by decide +kernel)
set_option maxRecDepth 20000 in
theorem gX10_seat_X10_in : GoodIn wsX10_seat (va_wsS RX10 194 yX10_in wsX10_in) := goodIn_app (goodIn_of _ (by decide +kernel)) ggX10_seat_X10_in
theorem dX10_seat_0 : decode cX10_seat 0 = .ok (.iload_n 1, 1) := by decide +kernel
theorem dX10_seat_1 : decode cX10_seat 1 = .ok (.invokestatic 276, 3) := by decide +kernel
theorem dX10_seat_4 : decode cX10_seat 4 = .ok (.ifCond .eq 35, 3) := by decide +kernel
theorem dX10_seat_7 : decode cX10_seat 7 = .ok (.iload_n 2, 1) := by decide +kernel
theorem dX10_seat_8 : decode cX10_seat 8 = .ok (.i2l, 1) := by decide +kernel
theorem dX10_seat_9 : decode cX10_seat 9 = .ok (.lconst 0, 1) := by decide +kernel
theorem dX10_seat_10 : decode cX10_seat 10 = .ok (.aload_n 0, 1) := by decide +kernel
theorem dX10_seat_11 : decode cX10_seat 11 = .ok (.getfield 71, 3) := by decide +kernel
theorem dX10_seat_14 : decode cX10_seat 14 = .ok (.iload_n 1, 1) := by decide +kernel
theorem dX10_seat_15 : decode cX10_seat 15 = .ok (.iaload, 1) := by decide +kernel
theorem dX10_seat_16 : decode cX10_seat 16 = .ok (.iconst 1, 1) := by decide +kernel
theorem dX10_seat_17 : decode cX10_seat 17 = .ok (.isub, 1) := by decide +kernel
theorem dX10_seat_18 : decode cX10_seat 18 = .ok (.i2l, 1) := by decide +kernel
theorem dX10_seat_19 : decode cX10_seat 19 = .ok (.invokestatic 194, 3) := by decide +kernel
theorem dX10_seat_22 : decode cX10_seat 22 = .ok (.ifCond .eq 17, 3) := by decide +kernel
theorem dX10_seat_25 : decode cX10_seat 25 = .ok (.aload_n 0, 1) := by decide +kernel
theorem dX10_seat_26 : decode cX10_seat 26 = .ok (.getfield 74, 3) := by decide +kernel
theorem dX10_seat_29 : decode cX10_seat 29 = .ok (.bipush 25, 2) := by decide +kernel
theorem dX10_seat_31 : decode cX10_seat 31 = .ok (.iload_n 1, 1) := by decide +kernel
theorem dX10_seat_32 : decode cX10_seat 32 = .ok (.imul, 1) := by decide +kernel
theorem dX10_seat_33 : decode cX10_seat 33 = .ok (.iload_n 2, 1) := by decide +kernel
theorem dX10_seat_34 : decode cX10_seat 34 = .ok (.iadd, 1) := by decide +kernel
theorem dX10_seat_35 : decode cX10_seat 35 = .ok (.iaload, 1) := by decide +kernel
theorem dX10_seat_36 : decode cX10_seat 36 = .ok (.goto 4, 3) := by decide +kernel
theorem dX10_seat_39 : decode cX10_seat 39 = .ok (.iconst (-1), 1) := by decide +kernel
theorem dX10_seat_40 : decode cX10_seat 40 = .ok (.ireturn, 1) := by decide +kernel
theorem dX10_seatOf_0 : decode cX10_seatOf 0 = .ok (.iconst 0, 1) := by decide +kernel
theorem dX10_seatOf_1 : decode cX10_seatOf 1 = .ok (.istore_n 3, 1) := by decide +kernel
theorem dX10_seatOf_2 : decode cX10_seatOf 2 = .ok (.iload_n 3, 1) := by decide +kernel
theorem dX10_seatOf_3 : decode cX10_seatOf 3 = .ok (.aload_n 0, 1) := by decide +kernel
theorem dX10_seatOf_4 : decode cX10_seatOf 4 = .ok (.getfield 71, 3) := by decide +kernel
theorem dX10_seatOf_7 : decode cX10_seatOf 7 = .ok (.iload_n 1, 1) := by decide +kernel
theorem dX10_seatOf_8 : decode cX10_seatOf 8 = .ok (.iaload, 1) := by decide +kernel
theorem dX10_seatOf_9 : decode cX10_seatOf 9 = .ok (.if_icmp .ge 26, 3) := by decide +kernel
theorem dX10_seatOf_12 : decode cX10_seatOf 12 = .ok (.aload_n 0, 1) := by decide +kernel
theorem dX10_seatOf_13 : decode cX10_seatOf 13 = .ok (.getfield 74, 3) := by decide +kernel
theorem dX10_seatOf_16 : decode cX10_seatOf 16 = .ok (.bipush 25, 2) := by decide +kernel
theorem dX10_seatOf_18 : decode cX10_seatOf 18 = .ok (.iload_n 1, 1) := by decide +kernel
theorem dX10_seatOf_19 : decode cX10_seatOf 19 = .ok (.imul, 1) := by decide +kernel
theorem dX10_seatOf_20 : decode cX10_seatOf 20 = .ok (.iload_n 3, 1) := by decide +kernel
theorem dX10_seatOf_21 : decode cX10_seatOf 21 = .ok (.iadd, 1) := by decide +kernel
theorem dX10_seatOf_22 : decode cX10_seatOf 22 = .ok (.iaload, 1) := by decide +kernel
theorem dX10_seatOf_23 : decode cX10_seatOf 23 = .ok (.iload_n 2, 1) := by decide +kernel
theorem dX10_seatOf_24 : decode cX10_seatOf 24 = .ok (.if_icmp .ne 5, 3) := by decide +kernel
theorem dX10_seatOf_27 : decode cX10_seatOf 27 = .ok (.iload_n 3, 1) := by decide +kernel
theorem dX10_seatOf_28 : decode cX10_seatOf 28 = .ok (.ireturn, 1) := by decide +kernel
theorem dX10_seatOf_29 : decode cX10_seatOf 29 = .ok (.iinc 3 1, 3) := by decide +kernel
theorem dX10_seatOf_32 : decode cX10_seatOf 32 = .ok (.goto (-30), 3) := by decide +kernel
theorem dX10_seatOf_35 : decode cX10_seatOf 35 = .ok (.iconst (-1), 1) := by decide +kernel
theorem dX10_seatOf_36 : decode cX10_seatOf 36 = .ok (.ireturn, 1) := by decide +kernel
set_option maxRecDepth 20000 in
theorem ggX10_suit_X10_isCourt : GoodIn wsX10_suit wsX10_isCourt := goodIn_r _ [23, 24, 25, 26, 22, 27] (by decide +kernel) (by decide +kernel)
set_option maxRecDepth 20000 in
theorem gX10_suit_X10_isCourt : GoodIn wsX10_suit (va_wsS RX10 276 yX10_isCourt wsX10_isCourt) := goodIn_app (goodIn_of _ (by decide +kernel)) ggX10_suit_X10_isCourt
set_option maxRecDepth 20000 in
theorem ggX10_suit_X10_in : GoodIn wsX10_suit wsX10_in := goodIn_r _ [27] (by decide +kernel) (by decide +kernel)
set_option maxRecDepth 20000 in
theorem gX10_suit_X10_in : GoodIn wsX10_suit (va_wsS RX10 194 yX10_in wsX10_in) := goodIn_app (goodIn_of _ (by decide +kernel)) ggX10_suit_X10_in
set_option maxRecDepth 20000 in
theorem ggX10_suit_X10_isCitizen : GoodIn wsX10_suit wsX10_isCitizen := goodIn_r _ [31, 32, 25, 26, 22, 27, 52, 53, 54, 55, 56, 57, 58, 59, 60, 61, 62, 63, 64, 65, 66, 67, 68, 69, 70, 71, 72, 73, 74, 75, 76, 77, 78, 79, 80, 81, 82, 83, 84, 85, 86, 87, 88, 89, 90, 91, 92, 93, 94, 95, 96, 97, 98, 99, 100, 101] (by decide +kernel) (by decide +kernel)
set_option maxRecDepth 20000 in
theorem gX10_suit_X10_isCitizen : GoodIn wsX10_suit (wsV RX10 240 RX10 yX10_isCitizen wsX10_isCitizen) := goodIn_app (goodIn_of _ (by decide +kernel)) ggX10_suit_X10_isCitizen
set_option maxRecDepth 20000 in
theorem ggX10_suit_X10_seatOf : GoodIn wsX10_suit wsX10_seatOf := goodIn_r _ [36, 4, 37, 52, 53, 54, 55, 56, 57, 58, 59, 60, 61, 62, 63, 64, 65, 66, 67, 68, 69, 70, 71, 72, 73, 74, 75, 76, 77, 78, 79, 80, 81, 82, 83, 84, 85, 86, 87, 88, 89, 90, 91, 92, 93, 94, 95, 96, 97, 98, 99, 100, 101] (by decide +kernel) (by decide +kernel)
set_option maxRecDepth 20000 in
theorem gX10_suit_X10_seatOf : GoodIn wsX10_suit (wsV RX10 283 RX10 yX10_seatOf wsX10_seatOf) := goodIn_app (goodIn_of _ (by decide +kernel)) ggX10_suit_X10_seatOf
set_option maxRecDepth 20000 in
theorem ggX10_suit_X10_lawOf : GoodIn wsX10_suit wsX10_lawOf := goodIn_r _ [41, 42, 43, 44, 45, 22, 46, 47, 48, 49, 50, 51, 52, 53, 54, 55, 56, 57, 58, 59, 60, 61, 62, 63, 64, 65, 66, 67, 68, 69, 70, 71, 72, 73, 74, 75, 76, 77, 78, 79, 80, 81, 82, 83, 84, 85, 86, 87, 88, 89, 90, 91, 92, 93, 94, 95, 96, 97, 98, 99, 100, 101] (by decide +kernel) (by decide +kernel)
set_option maxRecDepth 20000 in
theorem gX10_suit_X10_lawOf : GoodIn wsX10_suit (wsV RX10 212 RX10 yX10_lawOf wsX10_lawOf) := goodIn_app (goodIn_of _ (by decide +kernel)) ggX10_suit_X10_lawOf
theorem dX10_suit_0 : decode cX10_suit 0 = .ok (.iload_n 1, 1) := by decide +kernel
theorem dX10_suit_1 : decode cX10_suit 1 = .ok (.invokestatic 276, 3) := by decide +kernel
theorem dX10_suit_4 : decode cX10_suit 4 = .ok (.ifCond .eq 72, 3) := by decide +kernel
theorem dX10_suit_7 : decode cX10_suit 7 = .ok (.iload_n 2, 1) := by decide +kernel
theorem dX10_suit_8 : decode cX10_suit 8 = .ok (.i2l, 1) := by decide +kernel
theorem dX10_suit_9 : decode cX10_suit 9 = .ok (.lconst 0, 1) := by decide +kernel
theorem dX10_suit_10 : decode cX10_suit 10 = .ok (.ldc2_w 279, 3) := by decide +kernel
theorem dX10_suit_13 : decode cX10_suit 13 = .ok (.invokestatic 194, 3) := by decide +kernel
theorem dX10_suit_16 : decode cX10_suit 16 = .ok (.ifCond .eq 60, 3) := by decide +kernel
theorem dX10_suit_19 : decode cX10_suit 19 = .ok (.aload_n 0, 1) := by decide +kernel
theorem dX10_suit_20 : decode cX10_suit 20 = .ok (.iload_n 3, 1) := by decide +kernel
theorem dX10_suit_21 : decode cX10_suit 21 = .ok (.invokevirtual 240, 3) := by decide +kernel
theorem dX10_suit_24 : decode cX10_suit 24 = .ok (.ifCond .eq 52, 3) := by decide +kernel
theorem dX10_suit_27 : decode cX10_suit 27 = .ok (.aload_n 0, 1) := by decide +kernel
theorem dX10_suit_28 : decode cX10_suit 28 = .ok (.iload 4, 2) := by decide +kernel
theorem dX10_suit_30 : decode cX10_suit 30 = .ok (.invokevirtual 240, 3) := by decide +kernel
theorem dX10_suit_33 : decode cX10_suit 33 = .ok (.ifCond .eq 43, 3) := by decide +kernel
theorem dX10_suit_36 : decode cX10_suit 36 = .ok (.iload_n 3, 1) := by decide +kernel
theorem dX10_suit_37 : decode cX10_suit 37 = .ok (.iload 4, 2) := by decide +kernel
theorem dX10_suit_39 : decode cX10_suit 39 = .ok (.if_icmp .eq 37, 3) := by decide +kernel
theorem dX10_suit_42 : decode cX10_suit 42 = .ok (.iload 5, 2) := by decide +kernel
theorem dX10_suit_44 : decode cX10_suit 44 = .ok (.i2l, 1) := by decide +kernel
theorem dX10_suit_45 : decode cX10_suit 45 = .ok (.lconst 0, 1) := by decide +kernel
theorem dX10_suit_46 : decode cX10_suit 46 = .ok (.ldc2_w 281, 3) := by decide +kernel
theorem dX10_suit_49 : decode cX10_suit 49 = .ok (.invokestatic 194, 3) := by decide +kernel
theorem dX10_suit_52 : decode cX10_suit 52 = .ok (.ifCond .eq 24, 3) := by decide +kernel
theorem dX10_suit_55 : decode cX10_suit 55 = .ok (.aload_n 0, 1) := by decide +kernel
theorem dX10_suit_56 : decode cX10_suit 56 = .ok (.iload_n 1, 1) := by decide +kernel
theorem dX10_suit_57 : decode cX10_suit 57 = .ok (.iload_n 3, 1) := by decide +kernel
theorem dX10_suit_58 : decode cX10_suit 58 = .ok (.invokevirtual 283, 3) := by decide +kernel
theorem dX10_suit_61 : decode cX10_suit 61 = .ok (.iconst (-1), 1) := by decide +kernel
theorem dX10_suit_62 : decode cX10_suit 62 = .ok (.if_icmp .ne 14, 3) := by decide +kernel
theorem dX10_suit_65 : decode cX10_suit 65 = .ok (.aload_n 0, 1) := by decide +kernel
theorem dX10_suit_66 : decode cX10_suit 66 = .ok (.iload_n 1, 1) := by decide +kernel
theorem dX10_suit_67 : decode cX10_suit 67 = .ok (.iload 4, 2) := by decide +kernel
theorem dX10_suit_69 : decode cX10_suit 69 = .ok (.invokevirtual 283, 3) := by decide +kernel
theorem dX10_suit_72 : decode cX10_suit 72 = .ok (.iconst (-1), 1) := by decide +kernel
theorem dX10_suit_73 : decode cX10_suit 73 = .ok (.if_icmp .eq 6, 3) := by decide +kernel
theorem dX10_suit_76 : decode cX10_suit 76 = .ok (.bipush (-2), 2) := by decide +kernel
theorem dX10_suit_78 : decode cX10_suit 78 = .ok (.ireturn, 1) := by decide +kernel
theorem dX10_suit_79 : decode cX10_suit 79 = .ok (.aload_n 0, 1) := by decide +kernel
theorem dX10_suit_80 : decode cX10_suit 80 = .ok (.getfield 68, 3) := by decide +kernel
theorem dX10_suit_83 : decode cX10_suit 83 = .ok (.iload_n 1, 1) := by decide +kernel
theorem dX10_suit_84 : decode cX10_suit 84 = .ok (.iaload, 1) := by decide +kernel
theorem dX10_suit_85 : decode cX10_suit 85 = .ok (.ifCond .eq 27, 3) := by decide +kernel
theorem dX10_suit_88 : decode cX10_suit 88 = .ok (.aload_n 0, 1) := by decide +kernel
theorem dX10_suit_89 : decode cX10_suit 89 = .ok (.getfield 71, 3) := by decide +kernel
theorem dX10_suit_92 : decode cX10_suit 92 = .ok (.iload_n 1, 1) := by decide +kernel
theorem dX10_suit_93 : decode cX10_suit 93 = .ok (.iaload, 1) := by decide +kernel
theorem dX10_suit_94 : decode cX10_suit 94 = .ok (.aload_n 0, 1) := by decide +kernel
theorem dX10_suit_95 : decode cX10_suit 95 = .ok (.getfield 68, 3) := by decide +kernel
theorem dX10_suit_98 : decode cX10_suit 98 = .ok (.iload_n 1, 1) := by decide +kernel
theorem dX10_suit_99 : decode cX10_suit 99 = .ok (.iaload, 1) := by decide +kernel
theorem dX10_suit_100 : decode cX10_suit 100 = .ok (.if_icmp .lt 12, 3) := by decide +kernel
theorem dX10_suit_103 : decode cX10_suit 103 = .ok (.aload_n 0, 1) := by decide +kernel
theorem dX10_suit_104 : decode cX10_suit 104 = .ok (.getfield 83, 3) := by decide +kernel
theorem dX10_suit_107 : decode cX10_suit 107 = .ok (.iload_n 1, 1) := by decide +kernel
theorem dX10_suit_108 : decode cX10_suit 108 = .ok (.baload, 1) := by decide +kernel
theorem dX10_suit_109 : decode cX10_suit 109 = .ok (.ifCond .eq 6, 3) := by decide +kernel
theorem dX10_suit_112 : decode cX10_suit 112 = .ok (.bipush (-4), 2) := by decide +kernel
theorem dX10_suit_114 : decode cX10_suit 114 = .ok (.ireturn, 1) := by decide +kernel
theorem dX10_suit_115 : decode cX10_suit 115 = .ok (.aload_n 0, 1) := by decide +kernel
theorem dX10_suit_116 : decode cX10_suit 116 = .ok (.getfield 83, 3) := by decide +kernel
theorem dX10_suit_119 : decode cX10_suit 119 = .ok (.iload_n 1, 1) := by decide +kernel
theorem dX10_suit_120 : decode cX10_suit 120 = .ok (.iconst 1, 1) := by decide +kernel
theorem dX10_suit_121 : decode cX10_suit 121 = .ok (.bastore, 1) := by decide +kernel
theorem dX10_suit_122 : decode cX10_suit 122 = .ok (.aload_n 0, 1) := by decide +kernel
theorem dX10_suit_123 : decode cX10_suit 123 = .ok (.getfield 86, 3) := by decide +kernel
theorem dX10_suit_126 : decode cX10_suit 126 = .ok (.iload_n 1, 1) := by decide +kernel
theorem dX10_suit_127 : decode cX10_suit 127 = .ok (.iconst 1, 1) := by decide +kernel
theorem dX10_suit_128 : decode cX10_suit 128 = .ok (.bastore, 1) := by decide +kernel
theorem dX10_suit_129 : decode cX10_suit 129 = .ok (.aload_n 0, 1) := by decide +kernel
theorem dX10_suit_130 : decode cX10_suit 130 = .ok (.getfield 89, 3) := by decide +kernel
theorem dX10_suit_133 : decode cX10_suit 133 = .ok (.iload_n 1, 1) := by decide +kernel
theorem dX10_suit_134 : decode cX10_suit 134 = .ok (.iload_n 2, 1) := by decide +kernel
theorem dX10_suit_135 : decode cX10_suit 135 = .ok (.iastore, 1) := by decide +kernel
theorem dX10_suit_136 : decode cX10_suit 136 = .ok (.aload_n 0, 1) := by decide +kernel
theorem dX10_suit_137 : decode cX10_suit 137 = .ok (.getfield 92, 3) := by decide +kernel
theorem dX10_suit_140 : decode cX10_suit 140 = .ok (.iload_n 1, 1) := by decide +kernel
theorem dX10_suit_141 : decode cX10_suit 141 = .ok (.iload_n 3, 1) := by decide +kernel
theorem dX10_suit_142 : decode cX10_suit 142 = .ok (.iastore, 1) := by decide +kernel
theorem dX10_suit_143 : decode cX10_suit 143 = .ok (.aload_n 0, 1) := by decide +kernel
theorem dX10_suit_144 : decode cX10_suit 144 = .ok (.getfield 95, 3) := by decide +kernel
theorem dX10_suit_147 : decode cX10_suit 147 = .ok (.iload_n 1, 1) := by decide +kernel
theorem dX10_suit_148 : decode cX10_suit 148 = .ok (.iload 4, 2) := by decide +kernel
theorem dX10_suit_150 : decode cX10_suit 150 = .ok (.iastore, 1) := by decide +kernel
theorem dX10_suit_151 : decode cX10_suit 151 = .ok (.aload_n 0, 1) := by decide +kernel
theorem dX10_suit_152 : decode cX10_suit 152 = .ok (.getfield 98, 3) := by decide +kernel
theorem dX10_suit_155 : decode cX10_suit 155 = .ok (.iload_n 1, 1) := by decide +kernel
theorem dX10_suit_156 : decode cX10_suit 156 = .ok (.iload 5, 2) := by decide +kernel
theorem dX10_suit_158 : decode cX10_suit 158 = .ok (.iastore, 1) := by decide +kernel
theorem dX10_suit_159 : decode cX10_suit 159 = .ok (.aload_n 0, 1) := by decide +kernel
theorem dX10_suit_160 : decode cX10_suit 160 = .ok (.aload_n 0, 1) := by decide +kernel
theorem dX10_suit_161 : decode cX10_suit 161 = .ok (.getfield 189, 3) := by decide +kernel
theorem dX10_suit_164 : decode cX10_suit 164 = .ok (.bipush 10, 2) := by decide +kernel
theorem dX10_suit_166 : decode cX10_suit 166 = .ok (.iload_n 2, 1) := by decide +kernel
theorem dX10_suit_167 : decode cX10_suit 167 = .ok (.iadd, 1) := by decide +kernel
theorem dX10_suit_168 : decode cX10_suit 168 = .ok (.invokevirtual 212, 3) := by decide +kernel
theorem dX10_suit_171 : decode cX10_suit 171 = .ok (.istore 6, 2) := by decide +kernel
theorem dX10_suit_173 : decode cX10_suit 173 = .ok (.iload 6, 2) := by decide +kernel
theorem dX10_suit_175 : decode cX10_suit 175 = .ok (.iconst (-1), 1) := by decide +kernel
theorem dX10_suit_176 : decode cX10_suit 176 = .ok (.if_icmp .eq 25, 3) := by decide +kernel
theorem dX10_suit_179 : decode cX10_suit 179 = .ok (.iload 5, 2) := by decide +kernel
theorem dX10_suit_181 : decode cX10_suit 181 = .ok (.iload 6, 2) := by decide +kernel
theorem dX10_suit_183 : decode cX10_suit 183 = .ok (.if_icmp .le 18, 3) := by decide +kernel
theorem dX10_suit_186 : decode cX10_suit 186 = .ok (.aload_n 0, 1) := by decide +kernel
theorem dX10_suit_187 : decode cX10_suit 187 = .ok (.aload_n 0, 1) := by decide +kernel
theorem dX10_suit_188 : decode cX10_suit 188 = .ok (.getfield 189, 3) := by decide +kernel
theorem dX10_suit_191 : decode cX10_suit 191 = .ok (.bipush 16, 2) := by decide +kernel
theorem dX10_suit_193 : decode cX10_suit 193 = .ok (.iload_n 2, 1) := by decide +kernel
theorem dX10_suit_194 : decode cX10_suit 194 = .ok (.iadd, 1) := by decide +kernel
theorem dX10_suit_195 : decode cX10_suit 195 = .ok (.invokevirtual 212, 3) := by decide +kernel
theorem dX10_suit_198 : decode cX10_suit 198 = .ok (.goto 14, 3) := by decide +kernel
theorem dX10_suit_201 : decode cX10_suit 201 = .ok (.aload_n 0, 1) := by decide +kernel
theorem dX10_suit_202 : decode cX10_suit 202 = .ok (.aload_n 0, 1) := by decide +kernel
theorem dX10_suit_203 : decode cX10_suit 203 = .ok (.getfield 189, 3) := by decide +kernel
theorem dX10_suit_206 : decode cX10_suit 206 = .ok (.iconst 4, 1) := by decide +kernel
theorem dX10_suit_207 : decode cX10_suit 207 = .ok (.iload_n 2, 1) := by decide +kernel
theorem dX10_suit_208 : decode cX10_suit 208 = .ok (.iadd, 1) := by decide +kernel
theorem dX10_suit_209 : decode cX10_suit 209 = .ok (.invokevirtual 212, 3) := by decide +kernel
theorem dX10_suit_212 : decode cX10_suit 212 = .ok (.istore 7, 2) := by decide +kernel
theorem dX10_suit_214 : decode cX10_suit 214 = .ok (.aload_n 0, 1) := by decide +kernel
theorem dX10_suit_215 : decode cX10_suit 215 = .ok (.getfield 101, 3) := by decide +kernel
theorem dX10_suit_218 : decode cX10_suit 218 = .ok (.iconst 2, 1) := by decide +kernel
theorem dX10_suit_219 : decode cX10_suit 219 = .ok (.iload_n 1, 1) := by decide +kernel
theorem dX10_suit_220 : decode cX10_suit 220 = .ok (.imul, 1) := by decide +kernel
theorem dX10_suit_221 : decode cX10_suit 221 = .ok (.iload 7, 2) := by decide +kernel
theorem dX10_suit_223 : decode cX10_suit 223 = .ok (.iastore, 1) := by decide +kernel
theorem dX10_suit_224 : decode cX10_suit 224 = .ok (.aload_n 0, 1) := by decide +kernel
theorem dX10_suit_225 : decode cX10_suit 225 = .ok (.getfield 101, 3) := by decide +kernel
theorem dX10_suit_228 : decode cX10_suit 228 = .ok (.iconst 2, 1) := by decide +kernel
theorem dX10_suit_229 : decode cX10_suit 229 = .ok (.iload_n 1, 1) := by decide +kernel
theorem dX10_suit_230 : decode cX10_suit 230 = .ok (.imul, 1) := by decide +kernel
theorem dX10_suit_231 : decode cX10_suit 231 = .ok (.iconst 1, 1) := by decide +kernel
theorem dX10_suit_232 : decode cX10_suit 232 = .ok (.iadd, 1) := by decide +kernel
theorem dX10_suit_233 : decode cX10_suit 233 = .ok (.iload 7, 2) := by decide +kernel
theorem dX10_suit_235 : decode cX10_suit 235 = .ok (.iastore, 1) := by decide +kernel
theorem dX10_suit_236 : decode cX10_suit 236 = .ok (.aload_n 0, 1) := by decide +kernel
theorem dX10_suit_237 : decode cX10_suit 237 = .ok (.getfield 104, 3) := by decide +kernel
theorem dX10_suit_240 : decode cX10_suit 240 = .ok (.iload_n 1, 1) := by decide +kernel
theorem dX10_suit_241 : decode cX10_suit 241 = .ok (.iconst 0, 1) := by decide +kernel
theorem dX10_suit_242 : decode cX10_suit 242 = .ok (.bastore, 1) := by decide +kernel
theorem dX10_suit_243 : decode cX10_suit 243 = .ok (.aload_n 0, 1) := by decide +kernel
theorem dX10_suit_244 : decode cX10_suit 244 = .ok (.getfield 107, 3) := by decide +kernel
theorem dX10_suit_247 : decode cX10_suit 247 = .ok (.iload_n 1, 1) := by decide +kernel
theorem dX10_suit_248 : decode cX10_suit 248 = .ok (.iconst 0, 1) := by decide +kernel
theorem dX10_suit_249 : decode cX10_suit 249 = .ok (.bastore, 1) := by decide +kernel
theorem dX10_suit_250 : decode cX10_suit 250 = .ok (.aload_n 0, 1) := by decide +kernel
theorem dX10_suit_251 : decode cX10_suit 251 = .ok (.getfield 110, 3) := by decide +kernel
theorem dX10_suit_254 : decode cX10_suit 254 = .ok (.iload_n 1, 1) := by decide +kernel
theorem dX10_suit_255 : decode cX10_suit 255 = .ok (.iconst (-1), 1) := by decide +kernel
theorem dX10_suit_256 : decode cX10_suit 256 = .ok (.iastore, 1) := by decide +kernel
theorem dX10_suit_257 : decode cX10_suit 257 = .ok (.aload_n 0, 1) := by decide +kernel
theorem dX10_suit_258 : decode cX10_suit 258 = .ok (.getfield 113, 3) := by decide +kernel
theorem dX10_suit_261 : decode cX10_suit 261 = .ok (.iload_n 1, 1) := by decide +kernel
theorem dX10_suit_262 : decode cX10_suit 262 = .ok (.iconst (-1), 1) := by decide +kernel
theorem dX10_suit_263 : decode cX10_suit 263 = .ok (.iastore, 1) := by decide +kernel
theorem dX10_suit_264 : decode cX10_suit 264 = .ok (.aload_n 0, 1) := by decide +kernel
theorem dX10_suit_265 : decode cX10_suit 265 = .ok (.getfield 116, 3) := by decide +kernel
theorem dX10_suit_268 : decode cX10_suit 268 = .ok (.iload_n 1, 1) := by decide +kernel
theorem dX10_suit_269 : decode cX10_suit 269 = .ok (.iconst (-1), 1) := by decide +kernel
theorem dX10_suit_270 : decode cX10_suit 270 = .ok (.iastore, 1) := by decide +kernel
theorem dX10_suit_271 : decode cX10_suit 271 = .ok (.bipush 25, 2) := by decide +kernel
theorem dX10_suit_273 : decode cX10_suit 273 = .ok (.iload_n 1, 1) := by decide +kernel
theorem dX10_suit_274 : decode cX10_suit 274 = .ok (.imul, 1) := by decide +kernel
theorem dX10_suit_275 : decode cX10_suit 275 = .ok (.istore 8, 2) := by decide +kernel
theorem dX10_suit_277 : decode cX10_suit 277 = .ok (.iload 8, 2) := by decide +kernel
theorem dX10_suit_279 : decode cX10_suit 279 = .ok (.bipush 25, 2) := by decide +kernel
theorem dX10_suit_281 : decode cX10_suit 281 = .ok (.iload_n 1, 1) := by decide +kernel
theorem dX10_suit_282 : decode cX10_suit 282 = .ok (.imul, 1) := by decide +kernel
theorem dX10_suit_283 : decode cX10_suit 283 = .ok (.bipush 25, 2) := by decide +kernel
theorem dX10_suit_285 : decode cX10_suit 285 = .ok (.iadd, 1) := by decide +kernel
theorem dX10_suit_286 : decode cX10_suit 286 = .ok (.if_icmp .ge 25, 3) := by decide +kernel
theorem dX10_suit_289 : decode cX10_suit 289 = .ok (.aload_n 0, 1) := by decide +kernel
theorem dX10_suit_290 : decode cX10_suit 290 = .ok (.getfield 77, 3) := by decide +kernel
theorem dX10_suit_293 : decode cX10_suit 293 = .ok (.iload 8, 2) := by decide +kernel
theorem dX10_suit_295 : decode cX10_suit 295 = .ok (.iconst (-1), 1) := by decide +kernel
theorem dX10_suit_296 : decode cX10_suit 296 = .ok (.iastore, 1) := by decide +kernel
theorem dX10_suit_297 : decode cX10_suit 297 = .ok (.aload_n 0, 1) := by decide +kernel
theorem dX10_suit_298 : decode cX10_suit 298 = .ok (.getfield 80, 3) := by decide +kernel
theorem dX10_suit_301 : decode cX10_suit 301 = .ok (.iload 8, 2) := by decide +kernel
theorem dX10_suit_303 : decode cX10_suit 303 = .ok (.iconst 0, 1) := by decide +kernel
theorem dX10_suit_304 : decode cX10_suit 304 = .ok (.bastore, 1) := by decide +kernel
theorem dX10_suit_305 : decode cX10_suit 305 = .ok (.iinc 8 1, 3) := by decide +kernel
theorem dX10_suit_308 : decode cX10_suit 308 = .ok (.goto (-31), 3) := by decide +kernel
theorem dX10_suit_311 : decode cX10_suit 311 = .ok (.iload 7, 2) := by decide +kernel
theorem dX10_suit_313 : decode cX10_suit 313 = .ok (.ireturn, 1) := by decide +kernel
theorem dX10_hasDisc_0 : decode cX10_hasDisc 0 = .ok (.iconst 0, 1) := by decide +kernel
theorem dX10_hasDisc_1 : decode cX10_hasDisc 1 = .ok (.istore_n 2, 1) := by decide +kernel
theorem dX10_hasDisc_2 : decode cX10_hasDisc 2 = .ok (.iload_n 2, 1) := by decide +kernel
theorem dX10_hasDisc_3 : decode cX10_hasDisc 3 = .ok (.aload_n 0, 1) := by decide +kernel
theorem dX10_hasDisc_4 : decode cX10_hasDisc 4 = .ok (.getfield 71, 3) := by decide +kernel
theorem dX10_hasDisc_7 : decode cX10_hasDisc 7 = .ok (.iload_n 1, 1) := by decide +kernel
theorem dX10_hasDisc_8 : decode cX10_hasDisc 8 = .ok (.iaload, 1) := by decide +kernel
theorem dX10_hasDisc_9 : decode cX10_hasDisc 9 = .ok (.if_icmp .ge 26, 3) := by decide +kernel
theorem dX10_hasDisc_12 : decode cX10_hasDisc 12 = .ok (.aload_n 0, 1) := by decide +kernel
theorem dX10_hasDisc_13 : decode cX10_hasDisc 13 = .ok (.getfield 77, 3) := by decide +kernel
theorem dX10_hasDisc_16 : decode cX10_hasDisc 16 = .ok (.bipush 25, 2) := by decide +kernel
theorem dX10_hasDisc_18 : decode cX10_hasDisc 18 = .ok (.iload_n 1, 1) := by decide +kernel
theorem dX10_hasDisc_19 : decode cX10_hasDisc 19 = .ok (.imul, 1) := by decide +kernel
theorem dX10_hasDisc_20 : decode cX10_hasDisc 20 = .ok (.iload_n 2, 1) := by decide +kernel
theorem dX10_hasDisc_21 : decode cX10_hasDisc 21 = .ok (.iadd, 1) := by decide +kernel
theorem dX10_hasDisc_22 : decode cX10_hasDisc 22 = .ok (.iaload, 1) := by decide +kernel
theorem dX10_hasDisc_23 : decode cX10_hasDisc 23 = .ok (.iconst (-1), 1) := by decide +kernel
theorem dX10_hasDisc_24 : decode cX10_hasDisc 24 = .ok (.if_icmp .eq 5, 3) := by decide +kernel
theorem dX10_hasDisc_27 : decode cX10_hasDisc 27 = .ok (.iconst 1, 1) := by decide +kernel
theorem dX10_hasDisc_28 : decode cX10_hasDisc 28 = .ok (.ireturn, 1) := by decide +kernel
theorem dX10_hasDisc_29 : decode cX10_hasDisc 29 = .ok (.iinc 2 1, 3) := by decide +kernel
theorem dX10_hasDisc_32 : decode cX10_hasDisc 32 = .ok (.goto (-30), 3) := by decide +kernel
theorem dX10_hasDisc_35 : decode cX10_hasDisc 35 = .ok (.iconst 0, 1) := by decide +kernel
theorem dX10_hasDisc_36 : decode cX10_hasDisc 36 = .ok (.ireturn, 1) := by decide +kernel
set_option maxRecDepth 20000 in
theorem ggX10_speak_X10_isCourt : GoodIn wsX10_speak wsX10_isCourt := goodIn_r _ [9, 10, 11, 12, 8, 13] (by decide +kernel) (by decide +kernel)
set_option maxRecDepth 20000 in
theorem gX10_speak_X10_isCourt : GoodIn wsX10_speak (va_wsS RX10 276 yX10_isCourt wsX10_isCourt) := goodIn_app (goodIn_of _ (by decide +kernel)) ggX10_speak_X10_isCourt
set_option maxRecDepth 20000 in
theorem ggX10_speak_X10_in : GoodIn wsX10_speak wsX10_in := goodIn_r _ [13] (by decide +kernel) (by decide +kernel)
set_option maxRecDepth 20000 in
theorem gX10_speak_X10_in : GoodIn wsX10_speak (va_wsS RX10 194 yX10_in wsX10_in) := goodIn_app (goodIn_of _ (by decide +kernel)) ggX10_speak_X10_in
set_option maxRecDepth 20000 in
theorem ggX10_speak_X10_hasDisc : GoodIn wsX10_speak wsX10_hasDisc := goodIn_r _ [17, 18, 19, 20, 21, 22, 23, 24, 25, 26, 27, 28, 29, 30, 31, 32, 33, 34, 35, 36, 37, 38, 39, 40, 41, 42, 43, 44, 45, 46, 47, 48, 49, 50, 51, 52, 53, 54, 55, 56, 57, 58, 59, 60, 61, 62, 63, 64, 65, 66, 67, 68, 69] (by decide +kernel) (by decide +kernel)
set_option maxRecDepth 20000 in
theorem gX10_speak_X10_hasDisc : GoodIn wsX10_speak (wsV RX10 288 RX10 yX10_hasDisc wsX10_hasDisc) := goodIn_app (goodIn_of _ (by decide +kernel)) ggX10_speak_X10_hasDisc
theorem dX10_speak_0 : decode cX10_speak 0 = .ok (.iload_n 1, 1) := by decide +kernel
theorem dX10_speak_1 : decode cX10_speak 1 = .ok (.invokestatic 276, 3) := by decide +kernel
theorem dX10_speak_4 : decode cX10_speak 4 = .ok (.ifCond .eq 25, 3) := by decide +kernel
theorem dX10_speak_7 : decode cX10_speak 7 = .ok (.iload_n 2, 1) := by decide +kernel
theorem dX10_speak_8 : decode cX10_speak 8 = .ok (.i2l, 1) := by decide +kernel
theorem dX10_speak_9 : decode cX10_speak 9 = .ok (.lconst 0, 1) := by decide +kernel
theorem dX10_speak_10 : decode cX10_speak 10 = .ok (.lconst 1, 1) := by decide +kernel
theorem dX10_speak_11 : decode cX10_speak 11 = .ok (.invokestatic 194, 3) := by decide +kernel
theorem dX10_speak_14 : decode cX10_speak 14 = .ok (.ifCond .eq 15, 3) := by decide +kernel
theorem dX10_speak_17 : decode cX10_speak 17 = .ok (.iload_n 3, 1) := by decide +kernel
theorem dX10_speak_18 : decode cX10_speak 18 = .ok (.i2l, 1) := by decide +kernel
theorem dX10_speak_19 : decode cX10_speak 19 = .ok (.lconst 1, 1) := by decide +kernel
theorem dX10_speak_20 : decode cX10_speak 20 = .ok (.ldc2_w 286, 3) := by decide +kernel
theorem dX10_speak_23 : decode cX10_speak 23 = .ok (.invokestatic 194, 3) := by decide +kernel
theorem dX10_speak_26 : decode cX10_speak 26 = .ok (.ifCond .ne 6, 3) := by decide +kernel
theorem dX10_speak_29 : decode cX10_speak 29 = .ok (.bipush (-2), 2) := by decide +kernel
theorem dX10_speak_31 : decode cX10_speak 31 = .ok (.ireturn, 1) := by decide +kernel
theorem dX10_speak_32 : decode cX10_speak 32 = .ok (.aload_n 0, 1) := by decide +kernel
theorem dX10_speak_33 : decode cX10_speak 33 = .ok (.getfield 83, 3) := by decide +kernel
theorem dX10_speak_36 : decode cX10_speak 36 = .ok (.iload_n 1, 1) := by decide +kernel
theorem dX10_speak_37 : decode cX10_speak 37 = .ok (.baload, 1) := by decide +kernel
theorem dX10_speak_38 : decode cX10_speak 38 = .ok (.ifCond .eq 48, 3) := by decide +kernel
theorem dX10_speak_41 : decode cX10_speak 41 = .ok (.iload_n 2, 1) := by decide +kernel
theorem dX10_speak_42 : decode cX10_speak 42 = .ok (.iconst 1, 1) := by decide +kernel
theorem dX10_speak_43 : decode cX10_speak 43 = .ok (.if_icmp .ne 12, 3) := by decide +kernel
theorem dX10_speak_46 : decode cX10_speak 46 = .ok (.aload_n 0, 1) := by decide +kernel
theorem dX10_speak_47 : decode cX10_speak 47 = .ok (.getfield 104, 3) := by decide +kernel
theorem dX10_speak_50 : decode cX10_speak 50 = .ok (.iload_n 1, 1) := by decide +kernel
theorem dX10_speak_51 : decode cX10_speak 51 = .ok (.baload, 1) := by decide +kernel
theorem dX10_speak_52 : decode cX10_speak 52 = .ok (.ifCond .eq 34, 3) := by decide +kernel
theorem dX10_speak_55 : decode cX10_speak 55 = .ok (.aload_n 0, 1) := by decide +kernel
theorem dX10_speak_56 : decode cX10_speak 56 = .ok (.getfield 107, 3) := by decide +kernel
theorem dX10_speak_59 : decode cX10_speak 59 = .ok (.iload_n 1, 1) := by decide +kernel
theorem dX10_speak_60 : decode cX10_speak 60 = .ok (.baload, 1) := by decide +kernel
theorem dX10_speak_61 : decode cX10_speak 61 = .ok (.ifCond .ne 25, 3) := by decide +kernel
theorem dX10_speak_64 : decode cX10_speak 64 = .ok (.aload_n 0, 1) := by decide +kernel
theorem dX10_speak_65 : decode cX10_speak 65 = .ok (.iload_n 1, 1) := by decide +kernel
theorem dX10_speak_66 : decode cX10_speak 66 = .ok (.invokevirtual 288, 3) := by decide +kernel
theorem dX10_speak_69 : decode cX10_speak 69 = .ok (.ifCond .ne 17, 3) := by decide +kernel
theorem dX10_speak_72 : decode cX10_speak 72 = .ok (.aload_n 0, 1) := by decide +kernel
theorem dX10_speak_73 : decode cX10_speak 73 = .ok (.getfield 101, 3) := by decide +kernel
theorem dX10_speak_76 : decode cX10_speak 76 = .ok (.iconst 2, 1) := by decide +kernel
theorem dX10_speak_77 : decode cX10_speak 77 = .ok (.iload_n 1, 1) := by decide +kernel
theorem dX10_speak_78 : decode cX10_speak 78 = .ok (.imul, 1) := by decide +kernel
theorem dX10_speak_79 : decode cX10_speak 79 = .ok (.iload_n 2, 1) := by decide +kernel
theorem dX10_speak_80 : decode cX10_speak 80 = .ok (.iadd, 1) := by decide +kernel
theorem dX10_speak_81 : decode cX10_speak 81 = .ok (.iaload, 1) := by decide +kernel
theorem dX10_speak_82 : decode cX10_speak 82 = .ok (.iload_n 3, 1) := by decide +kernel
theorem dX10_speak_83 : decode cX10_speak 83 = .ok (.if_icmp .ge 6, 3) := by decide +kernel
theorem dX10_speak_86 : decode cX10_speak 86 = .ok (.bipush (-4), 2) := by decide +kernel
theorem dX10_speak_88 : decode cX10_speak 88 = .ok (.ireturn, 1) := by decide +kernel
theorem dX10_speak_89 : decode cX10_speak 89 = .ok (.aload_n 0, 1) := by decide +kernel
theorem dX10_speak_90 : decode cX10_speak 90 = .ok (.getfield 104, 3) := by decide +kernel
theorem dX10_speak_93 : decode cX10_speak 93 = .ok (.iload_n 1, 1) := by decide +kernel
theorem dX10_speak_94 : decode cX10_speak 94 = .ok (.iconst 1, 1) := by decide +kernel
theorem dX10_speak_95 : decode cX10_speak 95 = .ok (.bastore, 1) := by decide +kernel
theorem dX10_speak_96 : decode cX10_speak 96 = .ok (.aload_n 0, 1) := by decide +kernel
theorem dX10_speak_97 : decode cX10_speak 97 = .ok (.getfield 101, 3) := by decide +kernel
theorem dX10_speak_100 : decode cX10_speak 100 = .ok (.iconst 2, 1) := by decide +kernel
theorem dX10_speak_101 : decode cX10_speak 101 = .ok (.iload_n 1, 1) := by decide +kernel
theorem dX10_speak_102 : decode cX10_speak 102 = .ok (.imul, 1) := by decide +kernel
theorem dX10_speak_103 : decode cX10_speak 103 = .ok (.iload_n 2, 1) := by decide +kernel
theorem dX10_speak_104 : decode cX10_speak 104 = .ok (.iadd, 1) := by decide +kernel
theorem dX10_speak_105 : decode cX10_speak 105 = .ok (.dup2, 1) := by decide +kernel
theorem dX10_speak_106 : decode cX10_speak 106 = .ok (.iaload, 1) := by decide +kernel
theorem dX10_speak_107 : decode cX10_speak 107 = .ok (.iload_n 3, 1) := by decide +kernel
theorem dX10_speak_108 : decode cX10_speak 108 = .ok (.isub, 1) := by decide +kernel
theorem dX10_speak_109 : decode cX10_speak 109 = .ok (.iastore, 1) := by decide +kernel
theorem dX10_speak_110 : decode cX10_speak 110 = .ok (.aload_n 0, 1) := by decide +kernel
theorem dX10_speak_111 : decode cX10_speak 111 = .ok (.getfield 101, 3) := by decide +kernel
theorem dX10_speak_114 : decode cX10_speak 114 = .ok (.iconst 2, 1) := by decide +kernel
theorem dX10_speak_115 : decode cX10_speak 115 = .ok (.iload_n 1, 1) := by decide +kernel
theorem dX10_speak_116 : decode cX10_speak 116 = .ok (.imul, 1) := by decide +kernel
theorem dX10_speak_117 : decode cX10_speak 117 = .ok (.iload_n 2, 1) := by decide +kernel
theorem dX10_speak_118 : decode cX10_speak 118 = .ok (.iadd, 1) := by decide +kernel
theorem dX10_speak_119 : decode cX10_speak 119 = .ok (.iaload, 1) := by decide +kernel
theorem dX10_speak_120 : decode cX10_speak 120 = .ok (.ireturn, 1) := by decide +kernel
set_option maxRecDepth 20000 in
theorem ggX10_witness_X10_isCourt : GoodIn wsX10_witness wsX10_isCourt := goodIn_r _ [6, 7, 8, 9, 5, 10] (by decide +kernel) (by decide +kernel)
set_option maxRecDepth 20000 in
theorem gX10_witness_X10_isCourt : GoodIn wsX10_witness (va_wsS RX10 276 yX10_isCourt wsX10_isCourt) := goodIn_app (goodIn_of _ (by decide +kernel)) ggX10_witness_X10_isCourt
set_option maxRecDepth 20000 in
theorem ggX10_witness_X10_hasDisc : GoodIn wsX10_witness wsX10_hasDisc := goodIn_r _ [14, 15, 16, 17, 18, 19, 20, 21, 22, 23, 24, 25, 26, 27, 28, 29, 30, 31, 32, 33, 34, 35, 36, 37, 38, 39, 40, 41, 42, 43, 44, 45, 46, 47, 48, 49, 50, 51, 52, 53, 54, 55, 56, 57, 58, 59, 60, 61, 62, 63, 64, 65, 66] (by decide +kernel) (by decide +kernel)
set_option maxRecDepth 20000 in
theorem gX10_witness_X10_hasDisc : GoodIn wsX10_witness (wsV RX10 288 RX10 yX10_hasDisc wsX10_hasDisc) := goodIn_app (goodIn_of _ (by decide +kernel)) ggX10_witness_X10_hasDisc
theorem dX10_witness_0 : decode cX10_witness 0 = .ok (.iload_n 1, 1) := by decide +kernel
theorem dX10_witness_1 : decode cX10_witness 1 = .ok (.invokestatic 276, 3) := by decide +kernel
theorem dX10_witness_4 : decode cX10_witness 4 = .ok (.ifCond .ne 6, 3) := by decide +kernel
theorem dX10_witness_7 : decode cX10_witness 7 = .ok (.bipush (-2), 2) := by decide +kernel
theorem dX10_witness_9 : decode cX10_witness 9 = .ok (.ireturn, 1) := by decide +kernel
theorem dX10_witness_10 : decode cX10_witness 10 = .ok (.aload_n 0, 1) := by decide +kernel
theorem dX10_witness_11 : decode cX10_witness 11 = .ok (.getfield 83, 3) := by decide +kernel
theorem dX10_witness_14 : decode cX10_witness 14 = .ok (.iload_n 1, 1) := by decide +kernel
theorem dX10_witness_15 : decode cX10_witness 15 = .ok (.baload, 1) := by decide +kernel
theorem dX10_witness_16 : decode cX10_witness 16 = .ok (.ifCond .eq 11, 3) := by decide +kernel
theorem dX10_witness_19 : decode cX10_witness 19 = .ok (.aload_n 0, 1) := by decide +kernel
theorem dX10_witness_20 : decode cX10_witness 20 = .ok (.iload_n 1, 1) := by decide +kernel
theorem dX10_witness_21 : decode cX10_witness 21 = .ok (.invokevirtual 288, 3) := by decide +kernel
theorem dX10_witness_24 : decode cX10_witness 24 = .ok (.ifCond .eq 6, 3) := by decide +kernel
theorem dX10_witness_27 : decode cX10_witness 27 = .ok (.bipush (-4), 2) := by decide +kernel
theorem dX10_witness_29 : decode cX10_witness 29 = .ok (.ireturn, 1) := by decide +kernel
theorem dX10_witness_30 : decode cX10_witness 30 = .ok (.aload_n 0, 1) := by decide +kernel
theorem dX10_witness_31 : decode cX10_witness 31 = .ok (.getfield 107, 3) := by decide +kernel
theorem dX10_witness_34 : decode cX10_witness 34 = .ok (.iload_n 1, 1) := by decide +kernel
theorem dX10_witness_35 : decode cX10_witness 35 = .ok (.aload_n 0, 1) := by decide +kernel
theorem dX10_witness_36 : decode cX10_witness 36 = .ok (.getfield 107, 3) := by decide +kernel
theorem dX10_witness_39 : decode cX10_witness 39 = .ok (.iload_n 1, 1) := by decide +kernel
theorem dX10_witness_40 : decode cX10_witness 40 = .ok (.baload, 1) := by decide +kernel
theorem dX10_witness_41 : decode cX10_witness 41 = .ok (.ifCond .ne 7, 3) := by decide +kernel
theorem dX10_witness_44 : decode cX10_witness 44 = .ok (.iconst 1, 1) := by decide +kernel
theorem dX10_witness_45 : decode cX10_witness 45 = .ok (.goto 4, 3) := by decide +kernel
theorem dX10_witness_48 : decode cX10_witness 48 = .ok (.iconst 0, 1) := by decide +kernel
theorem dX10_witness_49 : decode cX10_witness 49 = .ok (.bastore, 1) := by decide +kernel
theorem dX10_witness_50 : decode cX10_witness 50 = .ok (.aload_n 0, 1) := by decide +kernel
theorem dX10_witness_51 : decode cX10_witness 51 = .ok (.getfield 107, 3) := by decide +kernel
theorem dX10_witness_54 : decode cX10_witness 54 = .ok (.iload_n 1, 1) := by decide +kernel
theorem dX10_witness_55 : decode cX10_witness 55 = .ok (.baload, 1) := by decide +kernel
theorem dX10_witness_56 : decode cX10_witness 56 = .ok (.ifCond .eq 7, 3) := by decide +kernel
theorem dX10_witness_59 : decode cX10_witness 59 = .ok (.iconst 1, 1) := by decide +kernel
theorem dX10_witness_60 : decode cX10_witness 60 = .ok (.goto 4, 3) := by decide +kernel
theorem dX10_witness_63 : decode cX10_witness 63 = .ok (.iconst 0, 1) := by decide +kernel
theorem dX10_witness_64 : decode cX10_witness 64 = .ok (.ireturn, 1) := by decide +kernel
theorem dX10_discsOf_0 : decode cX10_discsOf 0 = .ok (.iconst 0, 1) := by decide +kernel
theorem dX10_discsOf_1 : decode cX10_discsOf 1 = .ok (.istore_n 3, 1) := by decide +kernel
theorem dX10_discsOf_2 : decode cX10_discsOf 2 = .ok (.bipush 25, 2) := by decide +kernel
theorem dX10_discsOf_4 : decode cX10_discsOf 4 = .ok (.iload_n 1, 1) := by decide +kernel
theorem dX10_discsOf_5 : decode cX10_discsOf 5 = .ok (.imul, 1) := by decide +kernel
theorem dX10_discsOf_6 : decode cX10_discsOf 6 = .ok (.istore 4, 2) := by decide +kernel
theorem dX10_discsOf_8 : decode cX10_discsOf 8 = .ok (.iload 4, 2) := by decide +kernel
theorem dX10_discsOf_10 : decode cX10_discsOf 10 = .ok (.bipush 25, 2) := by decide +kernel
