theorem dX8_died_162 : decode cX8_died 162 = .ok (.getfield 41, 3) := by decide +kernel
theorem dX8_died_165 : decode cX8_died 165 = .ok (.iload 4, 2) := by decide +kernel
theorem dX8_died_167 : decode cX8_died 167 = .ok (.laload, 1) := by decide +kernel
theorem dX8_died_168 : decode cX8_died 168 = .ok (.lconst 0, 1) := by decide +kernel
theorem dX8_died_169 : decode cX8_died 169 = .ok (.lcmp, 1) := by decide +kernel
theorem dX8_died_170 : decode cX8_died 170 = .ok (.ifCond .eq 94, 3) := by decide +kernel
theorem dX8_died_173 : decode cX8_died 173 = .ok (.aload_n 0, 1) := by decide +kernel
theorem dX8_died_174 : decode cX8_died 174 = .ok (.getfield 35, 3) := by decide +kernel
theorem dX8_died_177 : decode cX8_died 177 = .ok (.iload 4, 2) := by decide +kernel
theorem dX8_died_179 : decode cX8_died 179 = .ok (.iaload, 1) := by decide +kernel
theorem dX8_died_180 : decode cX8_died 180 = .ok (.iload_n 1, 1) := by decide +kernel
theorem dX8_died_181 : decode cX8_died 181 = .ok (.if_icmp .eq 17, 3) := by decide +kernel
theorem dX8_died_184 : decode cX8_died 184 = .ok (.aload_n 0, 1) := by decide +kernel
theorem dX8_died_185 : decode cX8_died 185 = .ok (.getfield 38, 3) := by decide +kernel
theorem dX8_died_188 : decode cX8_died 188 = .ok (.iload 4, 2) := by decide +kernel
theorem dX8_died_190 : decode cX8_died 190 = .ok (.iaload, 1) := by decide +kernel
theorem dX8_died_191 : decode cX8_died 191 = .ok (.iload_n 1, 1) := by decide +kernel
theorem dX8_died_192 : decode cX8_died 192 = .ok (.if_icmp .eq 6, 3) := by decide +kernel
theorem dX8_died_195 : decode cX8_died 195 = .ok (.goto 69, 3) := by decide +kernel
theorem dX8_died_198 : decode cX8_died 198 = .ok (.aload_n 0, 1) := by decide +kernel
theorem dX8_died_199 : decode cX8_died 199 = .ok (.getfield 35, 3) := by decide +kernel
theorem dX8_died_202 : decode cX8_died 202 = .ok (.iload 4, 2) := by decide +kernel
theorem dX8_died_204 : decode cX8_died 204 = .ok (.iaload, 1) := by decide +kernel
theorem dX8_died_205 : decode cX8_died 205 = .ok (.iload_n 2, 1) := by decide +kernel
theorem dX8_died_206 : decode cX8_died 206 = .ok (.if_icmp .eq 14, 3) := by decide +kernel
theorem dX8_died_209 : decode cX8_died 209 = .ok (.aload_n 0, 1) := by decide +kernel
theorem dX8_died_210 : decode cX8_died 210 = .ok (.getfield 38, 3) := by decide +kernel
theorem dX8_died_213 : decode cX8_died 213 = .ok (.iload 4, 2) := by decide +kernel
theorem dX8_died_215 : decode cX8_died 215 = .ok (.iaload, 1) := by decide +kernel
theorem dX8_died_216 : decode cX8_died 216 = .ok (.iload_n 2, 1) := by decide +kernel
theorem dX8_died_217 : decode cX8_died 217 = .ok (.if_icmp .ne 14, 3) := by decide +kernel
theorem dX8_died_220 : decode cX8_died 220 = .ok (.aload_n 0, 1) := by decide +kernel
theorem dX8_died_221 : decode cX8_died 221 = .ok (.getfield 41, 3) := by decide +kernel
theorem dX8_died_224 : decode cX8_died 224 = .ok (.iload 4, 2) := by decide +kernel
theorem dX8_died_226 : decode cX8_died 226 = .ok (.lconst 0, 1) := by decide +kernel
theorem dX8_died_227 : decode cX8_died 227 = .ok (.lastore, 1) := by decide +kernel
theorem dX8_died_228 : decode cX8_died 228 = .ok (.goto 36, 3) := by decide +kernel
theorem dX8_died_231 : decode cX8_died 231 = .ok (.aload_n 0, 1) := by decide +kernel
theorem dX8_died_232 : decode cX8_died 232 = .ok (.getfield 35, 3) := by decide +kernel
theorem dX8_died_235 : decode cX8_died 235 = .ok (.iload 4, 2) := by decide +kernel
theorem dX8_died_237 : decode cX8_died 237 = .ok (.iaload, 1) := by decide +kernel
theorem dX8_died_238 : decode cX8_died 238 = .ok (.iload_n 1, 1) := by decide +kernel
theorem dX8_died_239 : decode cX8_died 239 = .ok (.if_icmp .ne 14, 3) := by decide +kernel
theorem dX8_died_242 : decode cX8_died 242 = .ok (.aload_n 0, 1) := by decide +kernel
theorem dX8_died_243 : decode cX8_died 243 = .ok (.getfield 35, 3) := by decide +kernel
theorem dX8_died_246 : decode cX8_died 246 = .ok (.iload 4, 2) := by decide +kernel
theorem dX8_died_248 : decode cX8_died 248 = .ok (.iload_n 2, 1) := by decide +kernel
theorem dX8_died_249 : decode cX8_died 249 = .ok (.iastore, 1) := by decide +kernel
theorem dX8_died_250 : decode cX8_died 250 = .ok (.goto 11, 3) := by decide +kernel
theorem dX8_died_253 : decode cX8_died 253 = .ok (.aload_n 0, 1) := by decide +kernel
theorem dX8_died_254 : decode cX8_died 254 = .ok (.getfield 38, 3) := by decide +kernel
theorem dX8_died_257 : decode cX8_died 257 = .ok (.iload 4, 2) := by decide +kernel
theorem dX8_died_259 : decode cX8_died 259 = .ok (.iload_n 2, 1) := by decide +kernel
theorem dX8_died_260 : decode cX8_died 260 = .ok (.iastore, 1) := by decide +kernel
theorem dX8_died_261 : decode cX8_died 261 = .ok (.iinc 3 1, 3) := by decide +kernel
theorem dX8_died_264 : decode cX8_died 264 = .ok (.iinc 4 1, 3) := by decide +kernel
theorem dX8_died_267 : decode cX8_died 267 = .ok (.goto (-115), 3) := by decide +kernel
theorem dX8_died_270 : decode cX8_died 270 = .ok (.iload_n 3, 1) := by decide +kernel
theorem dX8_died_271 : decode cX8_died 271 = .ok (.ireturn, 1) := by decide +kernel
set_option maxRecDepth 20000 in
theorem ggX8_wait_X8_bad : GoodIn wsX8_wait wsX8_bad := goodIn_r _ [11, 1, 23, 24, 25, 26, 27, 28, 29, 30, 31, 32, 33, 34, 35, 36, 37, 38, 39, 40, 41, 42, 43, 44, 45, 46, 47, 48, 49, 50, 51, 52, 53] (by decide +kernel) (by decide +kernel)
set_option maxRecDepth 20000 in
theorem gX8_wait_X8_bad : GoodIn wsX8_wait (wsV RX8 78 RX8 yX8_bad wsX8_bad) := goodIn_app (goodIn_of _ (by decide +kernel)) ggX8_wait_X8_bad
set_option maxRecDepth 20000 in
theorem ggX8_wait_X8_term : GoodIn wsX8_wait wsX8_term := goodIn_r _ [15, 2, 16, 17, 18, 19, 10, 20, 21, 22, 23, 24, 25, 26, 27, 28, 29, 30, 31, 32, 33, 34, 35, 36, 37, 38, 39, 40, 41, 42, 43, 44, 45, 46, 47, 48, 49, 50, 51, 52, 53] (by decide +kernel) (by decide +kernel)
set_option maxRecDepth 20000 in
theorem gX8_wait_X8_term : GoodIn wsX8_wait (wsV RX8 167 RX8 yX8_term wsX8_term) := goodIn_app (goodIn_of _ (by decide +kernel)) ggX8_wait_X8_term
theorem dX8_wait_0 : decode cX8_wait 0 = .ok (.aload_n 0, 1) := by decide +kernel
theorem dX8_wait_1 : decode cX8_wait 1 = .ok (.iconst 0, 1) := by decide +kernel
theorem dX8_wait_2 : decode cX8_wait 2 = .ok (.putfield 74, 3) := by decide +kernel
theorem dX8_wait_5 : decode cX8_wait 5 = .ok (.aload_n 0, 1) := by decide +kernel
theorem dX8_wait_6 : decode cX8_wait 6 = .ok (.iload_n 1, 1) := by decide +kernel
theorem dX8_wait_7 : decode cX8_wait 7 = .ok (.ifCond .lt 21, 3) := by decide +kernel
theorem dX8_wait_10 : decode cX8_wait 10 = .ok (.iload_n 1, 1) := by decide +kernel
theorem dX8_wait_11 : decode cX8_wait 11 = .ok (.bipush 100, 2) := by decide +kernel
theorem dX8_wait_13 : decode cX8_wait 13 = .ok (.if_icmp .gt 15, 3) := by decide +kernel
theorem dX8_wait_16 : decode cX8_wait 16 = .ok (.aload_n 0, 1) := by decide +kernel
theorem dX8_wait_17 : decode cX8_wait 17 = .ok (.getfield 157, 3) := by decide +kernel
theorem dX8_wait_20 : decode cX8_wait 20 = .ok (.iload_n 1, 1) := by decide +kernel
theorem dX8_wait_21 : decode cX8_wait 21 = .ok (.iadd, 1) := by decide +kernel
theorem dX8_wait_22 : decode cX8_wait 22 = .ok (.sipush 1000, 3) := by decide +kernel
theorem dX8_wait_25 : decode cX8_wait 25 = .ok (.if_icmp .le 7, 3) := by decide +kernel
theorem dX8_wait_28 : decode cX8_wait 28 = .ok (.iconst 1, 1) := by decide +kernel
theorem dX8_wait_29 : decode cX8_wait 29 = .ok (.goto 4, 3) := by decide +kernel
theorem dX8_wait_32 : decode cX8_wait 32 = .ok (.iconst 0, 1) := by decide +kernel
theorem dX8_wait_33 : decode cX8_wait 33 = .ok (.iconst 1, 1) := by decide +kernel
theorem dX8_wait_34 : decode cX8_wait 34 = .ok (.invokevirtual 78, 3) := by decide +kernel
theorem dX8_wait_37 : decode cX8_wait 37 = .ok (.ifCond .eq 5, 3) := by decide +kernel
theorem dX8_wait_40 : decode cX8_wait 40 = .ok (.iconst 0, 1) := by decide +kernel
theorem dX8_wait_41 : decode cX8_wait 41 = .ok (.ireturn, 1) := by decide +kernel
theorem dX8_wait_42 : decode cX8_wait 42 = .ok (.iconst 0, 1) := by decide +kernel
theorem dX8_wait_43 : decode cX8_wait 43 = .ok (.istore_n 2, 1) := by decide +kernel
theorem dX8_wait_44 : decode cX8_wait 44 = .ok (.iload_n 2, 1) := by decide +kernel
theorem dX8_wait_45 : decode cX8_wait 45 = .ok (.iload_n 1, 1) := by decide +kernel
theorem dX8_wait_46 : decode cX8_wait 46 = .ok (.if_icmp .ge 126, 3) := by decide +kernel
theorem dX8_wait_49 : decode cX8_wait 49 = .ok (.aload_n 0, 1) := by decide +kernel
theorem dX8_wait_50 : decode cX8_wait 50 = .ok (.iconst 3, 1) := by decide +kernel
theorem dX8_wait_51 : decode cX8_wait 51 = .ok (.invokevirtual 167, 3) := by decide +kernel
theorem dX8_wait_54 : decode cX8_wait 54 = .ok (.istore_n 3, 1) := by decide +kernel
theorem dX8_wait_55 : decode cX8_wait 55 = .ok (.aload_n 0, 1) := by decide +kernel
theorem dX8_wait_56 : decode cX8_wait 56 = .ok (.iconst 4, 1) := by decide +kernel
theorem dX8_wait_57 : decode cX8_wait 57 = .ok (.invokevirtual 167, 3) := by decide +kernel
theorem dX8_wait_60 : decode cX8_wait 60 = .ok (.istore 4, 2) := by decide +kernel
theorem dX8_wait_62 : decode cX8_wait 62 = .ok (.iconst 0, 1) := by decide +kernel
theorem dX8_wait_63 : decode cX8_wait 63 = .ok (.istore 5, 2) := by decide +kernel
theorem dX8_wait_65 : decode cX8_wait 65 = .ok (.iload 5, 2) := by decide +kernel
theorem dX8_wait_67 : decode cX8_wait 67 = .ok (.aload_n 0, 1) := by decide +kernel
theorem dX8_wait_68 : decode cX8_wait 68 = .ok (.getfield 160, 3) := by decide +kernel
theorem dX8_wait_71 : decode cX8_wait 71 = .ok (.if_icmp .ge 85, 3) := by decide +kernel
theorem dX8_wait_74 : decode cX8_wait 74 = .ok (.iload 4, 2) := by decide +kernel
theorem dX8_wait_76 : decode cX8_wait 76 = .ok (.ifCond .le 80, 3) := by decide +kernel
theorem dX8_wait_79 : decode cX8_wait 79 = .ok (.aload_n 0, 1) := by decide +kernel
theorem dX8_wait_80 : decode cX8_wait 80 = .ok (.getfield 44, 3) := by decide +kernel
theorem dX8_wait_83 : decode cX8_wait 83 = .ok (.iload 5, 2) := by decide +kernel
theorem dX8_wait_85 : decode cX8_wait 85 = .ok (.baload, 1) := by decide +kernel
theorem dX8_wait_86 : decode cX8_wait 86 = .ok (.ifCond .ne 6, 3) := by decide +kernel
theorem dX8_wait_89 : decode cX8_wait 89 = .ok (.goto 61, 3) := by decide +kernel
theorem dX8_wait_92 : decode cX8_wait 92 = .ok (.aload_n 0, 1) := by decide +kernel
theorem dX8_wait_93 : decode cX8_wait 93 = .ok (.getfield 41, 3) := by decide +kernel
theorem dX8_wait_96 : decode cX8_wait 96 = .ok (.iload 5, 2) := by decide +kernel
theorem dX8_wait_98 : decode cX8_wait 98 = .ok (.dup2, 1) := by decide +kernel
theorem dX8_wait_99 : decode cX8_wait 99 = .ok (.laload, 1) := by decide +kernel
theorem dX8_wait_100 : decode cX8_wait 100 = .ok (.aload_n 0, 1) := by decide +kernel
theorem dX8_wait_101 : decode cX8_wait 101 = .ok (.getfield 41, 3) := by decide +kernel
theorem dX8_wait_104 : decode cX8_wait 104 = .ok (.iload 5, 2) := by decide +kernel
theorem dX8_wait_106 : decode cX8_wait 106 = .ok (.laload, 1) := by decide +kernel
theorem dX8_wait_107 : decode cX8_wait 107 = .ok (.iload_n 3, 1) := by decide +kernel
theorem dX8_wait_108 : decode cX8_wait 108 = .ok (.i2l, 1) := by decide +kernel
theorem dX8_wait_109 : decode cX8_wait 109 = .ok (.lmul, 1) := by decide +kernel
theorem dX8_wait_110 : decode cX8_wait 110 = .ok (.iload 4, 2) := by decide +kernel
theorem dX8_wait_112 : decode cX8_wait 112 = .ok (.i2l, 1) := by decide +kernel
theorem dX8_wait_113 : decode cX8_wait 113 = .ok (.ldiv, 1) := by decide +kernel
theorem dX8_wait_114 : decode cX8_wait 114 = .ok (.ladd, 1) := by decide +kernel
theorem dX8_wait_115 : decode cX8_wait 115 = .ok (.lastore, 1) := by decide +kernel
theorem dX8_wait_116 : decode cX8_wait 116 = .ok (.aload_n 0, 1) := by decide +kernel
theorem dX8_wait_117 : decode cX8_wait 117 = .ok (.getfield 41, 3) := by decide +kernel
theorem dX8_wait_120 : decode cX8_wait 120 = .ok (.iload 5, 2) := by decide +kernel
theorem dX8_wait_122 : decode cX8_wait 122 = .ok (.aload_n 0, 1) := by decide +kernel
theorem dX8_wait_123 : decode cX8_wait 123 = .ok (.getfield 41, 3) := by decide +kernel
theorem dX8_wait_126 : decode cX8_wait 126 = .ok (.iload 5, 2) := by decide +kernel
theorem dX8_wait_128 : decode cX8_wait 128 = .ok (.laload, 1) := by decide +kernel
theorem dX8_wait_129 : decode cX8_wait 129 = .ok (.ldc2_w 170, 3) := by decide +kernel
theorem dX8_wait_132 : decode cX8_wait 132 = .ok (.lcmp, 1) := by decide +kernel
theorem dX8_wait_133 : decode cX8_wait 133 = .ok (.ifCond .le 9, 3) := by decide +kernel
theorem dX8_wait_136 : decode cX8_wait 136 = .ok (.ldc2_w 170, 3) := by decide +kernel
theorem dX8_wait_139 : decode cX8_wait 139 = .ok (.goto 10, 3) := by decide +kernel
theorem dX8_wait_142 : decode cX8_wait 142 = .ok (.aload_n 0, 1) := by decide +kernel
theorem dX8_wait_143 : decode cX8_wait 143 = .ok (.getfield 41, 3) := by decide +kernel
theorem dX8_wait_146 : decode cX8_wait 146 = .ok (.iload 5, 2) := by decide +kernel
theorem dX8_wait_148 : decode cX8_wait 148 = .ok (.laload, 1) := by decide +kernel
theorem dX8_wait_149 : decode cX8_wait 149 = .ok (.lastore, 1) := by decide +kernel
theorem dX8_wait_150 : decode cX8_wait 150 = .ok (.iinc 5 1, 3) := by decide +kernel
theorem dX8_wait_153 : decode cX8_wait 153 = .ok (.goto (-88), 3) := by decide +kernel
theorem dX8_wait_156 : decode cX8_wait 156 = .ok (.aload_n 0, 1) := by decide +kernel
theorem dX8_wait_157 : decode cX8_wait 157 = .ok (.dup, 1) := by decide +kernel
theorem dX8_wait_158 : decode cX8_wait 158 = .ok (.getfield 157, 3) := by decide +kernel
theorem dX8_wait_161 : decode cX8_wait 161 = .ok (.iconst 1, 1) := by decide +kernel
theorem dX8_wait_162 : decode cX8_wait 162 = .ok (.iadd, 1) := by decide +kernel
theorem dX8_wait_163 : decode cX8_wait 163 = .ok (.putfield 157, 3) := by decide +kernel
theorem dX8_wait_166 : decode cX8_wait 166 = .ok (.iinc 2 1, 3) := by decide +kernel
theorem dX8_wait_169 : decode cX8_wait 169 = .ok (.goto (-125), 3) := by decide +kernel
theorem dX8_wait_172 : decode cX8_wait 172 = .ok (.aload_n 0, 1) := by decide +kernel
theorem dX8_wait_173 : decode cX8_wait 173 = .ok (.getfield 157, 3) := by decide +kernel
theorem dX8_wait_176 : decode cX8_wait 176 = .ok (.ireturn, 1) := by decide +kernel
set_option maxRecDepth 20000 in
theorem ggX8_debt_X8_bad : GoodIn wsX8_debt wsX8_bad := goodIn_r _ [12, 1, 13, 14, 15, 16, 17, 18, 19, 20, 21, 22, 23, 24, 25, 26, 27, 28, 29, 30, 31, 32, 33, 34, 35, 36, 37, 38, 39, 40, 41, 42, 43] (by decide +kernel) (by decide +kernel)
set_option maxRecDepth 20000 in
theorem gX8_debt_X8_bad : GoodIn wsX8_debt (wsV RX8 78 RX8 yX8_bad wsX8_bad) := goodIn_app (goodIn_of _ (by decide +kernel)) ggX8_debt_X8_bad
theorem dX8_debt_0 : decode cX8_debt 0 = .ok (.aload_n 0, 1) := by decide +kernel
theorem dX8_debt_1 : decode cX8_debt 1 = .ok (.iconst 0, 1) := by decide +kernel
theorem dX8_debt_2 : decode cX8_debt 2 = .ok (.putfield 74, 3) := by decide +kernel
theorem dX8_debt_5 : decode cX8_debt 5 = .ok (.aload_n 0, 1) := by decide +kernel
theorem dX8_debt_6 : decode cX8_debt 6 = .ok (.iload_n 1, 1) := by decide +kernel
theorem dX8_debt_7 : decode cX8_debt 7 = .ok (.ifCond .lt 11, 3) := by decide +kernel
theorem dX8_debt_10 : decode cX8_debt 10 = .ok (.iload_n 1, 1) := by decide +kernel
theorem dX8_debt_11 : decode cX8_debt 11 = .ok (.aload_n 0, 1) := by decide +kernel
theorem dX8_debt_12 : decode cX8_debt 12 = .ok (.getfield 160, 3) := by decide +kernel
theorem dX8_debt_15 : decode cX8_debt 15 = .ok (.if_icmp .lt 7, 3) := by decide +kernel
theorem dX8_debt_18 : decode cX8_debt 18 = .ok (.iconst 1, 1) := by decide +kernel
theorem dX8_debt_19 : decode cX8_debt 19 = .ok (.goto 4, 3) := by decide +kernel
theorem dX8_debt_22 : decode cX8_debt 22 = .ok (.iconst 0, 1) := by decide +kernel
theorem dX8_debt_23 : decode cX8_debt 23 = .ok (.iconst 1, 1) := by decide +kernel
theorem dX8_debt_24 : decode cX8_debt 24 = .ok (.invokevirtual 78, 3) := by decide +kernel
theorem dX8_debt_27 : decode cX8_debt 27 = .ok (.ifCond .ne 25, 3) := by decide +kernel
theorem dX8_debt_30 : decode cX8_debt 30 = .ok (.aload_n 0, 1) := by decide +kernel
theorem dX8_debt_31 : decode cX8_debt 31 = .ok (.iload_n 2, 1) := by decide +kernel
theorem dX8_debt_32 : decode cX8_debt 32 = .ok (.ifCond .lt 8, 3) := by decide +kernel
theorem dX8_debt_35 : decode cX8_debt 35 = .ok (.iload_n 2, 1) := by decide +kernel
theorem dX8_debt_36 : decode cX8_debt 36 = .ok (.iconst 4, 1) := by decide +kernel
theorem dX8_debt_37 : decode cX8_debt 37 = .ok (.if_icmp .le 7, 3) := by decide +kernel
theorem dX8_debt_40 : decode cX8_debt 40 = .ok (.iconst 1, 1) := by decide +kernel
theorem dX8_debt_41 : decode cX8_debt 41 = .ok (.goto 4, 3) := by decide +kernel
theorem dX8_debt_44 : decode cX8_debt 44 = .ok (.iconst 0, 1) := by decide +kernel
theorem dX8_debt_45 : decode cX8_debt 45 = .ok (.iconst 2, 1) := by decide +kernel
theorem dX8_debt_46 : decode cX8_debt 46 = .ok (.invokevirtual 78, 3) := by decide +kernel
theorem dX8_debt_49 : decode cX8_debt 49 = .ok (.ifCond .eq 5, 3) := by decide +kernel
theorem dX8_debt_52 : decode cX8_debt 52 = .ok (.iconst 0, 1) := by decide +kernel
theorem dX8_debt_53 : decode cX8_debt 53 = .ok (.ireturn, 1) := by decide +kernel
theorem dX8_debt_54 : decode cX8_debt 54 = .ok (.iload_n 2, 1) := by decide +kernel
theorem dX8_debt_55 : decode cX8_debt 55 = .ok (.ifCond .ne 12, 3) := by decide +kernel
theorem dX8_debt_58 : decode cX8_debt 58 = .ok (.aload_n 0, 1) := by decide +kernel
theorem dX8_debt_59 : decode cX8_debt 59 = .ok (.getfield 35, 3) := by decide +kernel
theorem dX8_debt_62 : decode cX8_debt 62 = .ok (.iload_n 1, 1) := by decide +kernel
theorem dX8_debt_63 : decode cX8_debt 63 = .ok (.iaload, 1) := by decide +kernel
theorem dX8_debt_64 : decode cX8_debt 64 = .ok (.goto 60, 3) := by decide +kernel
theorem dX8_debt_67 : decode cX8_debt 67 = .ok (.iload_n 2, 1) := by decide +kernel
theorem dX8_debt_68 : decode cX8_debt 68 = .ok (.iconst 1, 1) := by decide +kernel
theorem dX8_debt_69 : decode cX8_debt 69 = .ok (.if_icmp .ne 12, 3) := by decide +kernel
theorem dX8_debt_72 : decode cX8_debt 72 = .ok (.aload_n 0, 1) := by decide +kernel
theorem dX8_debt_73 : decode cX8_debt 73 = .ok (.getfield 38, 3) := by decide +kernel
theorem dX8_debt_76 : decode cX8_debt 76 = .ok (.iload_n 1, 1) := by decide +kernel
theorem dX8_debt_77 : decode cX8_debt 77 = .ok (.iaload, 1) := by decide +kernel
theorem dX8_debt_78 : decode cX8_debt 78 = .ok (.goto 46, 3) := by decide +kernel
theorem dX8_debt_81 : decode cX8_debt 81 = .ok (.iload_n 2, 1) := by decide +kernel
theorem dX8_debt_82 : decode cX8_debt 82 = .ok (.iconst 2, 1) := by decide +kernel
theorem dX8_debt_83 : decode cX8_debt 83 = .ok (.if_icmp .ne 13, 3) := by decide +kernel
theorem dX8_debt_86 : decode cX8_debt 86 = .ok (.aload_n 0, 1) := by decide +kernel
theorem dX8_debt_87 : decode cX8_debt 87 = .ok (.getfield 41, 3) := by decide +kernel
theorem dX8_debt_90 : decode cX8_debt 90 = .ok (.iload_n 1, 1) := by decide +kernel
theorem dX8_debt_91 : decode cX8_debt 91 = .ok (.laload, 1) := by decide +kernel
theorem dX8_debt_92 : decode cX8_debt 92 = .ok (.l2i, 1) := by decide +kernel
theorem dX8_debt_93 : decode cX8_debt 93 = .ok (.goto 31, 3) := by decide +kernel
theorem dX8_debt_96 : decode cX8_debt 96 = .ok (.iload_n 2, 1) := by decide +kernel
theorem dX8_debt_97 : decode cX8_debt 97 = .ok (.iconst 3, 1) := by decide +kernel
theorem dX8_debt_98 : decode cX8_debt 98 = .ok (.if_icmp .ne 20, 3) := by decide +kernel
theorem dX8_debt_101 : decode cX8_debt 101 = .ok (.aload_n 0, 1) := by decide +kernel
theorem dX8_debt_102 : decode cX8_debt 102 = .ok (.getfield 44, 3) := by decide +kernel
theorem dX8_debt_105 : decode cX8_debt 105 = .ok (.iload_n 1, 1) := by decide +kernel
theorem dX8_debt_106 : decode cX8_debt 106 = .ok (.baload, 1) := by decide +kernel
theorem dX8_debt_107 : decode cX8_debt 107 = .ok (.ifCond .eq 7, 3) := by decide +kernel
theorem dX8_debt_110 : decode cX8_debt 110 = .ok (.iconst 1, 1) := by decide +kernel
theorem dX8_debt_111 : decode cX8_debt 111 = .ok (.goto 13, 3) := by decide +kernel
theorem dX8_debt_114 : decode cX8_debt 114 = .ok (.iconst 0, 1) := by decide +kernel
theorem dX8_debt_115 : decode cX8_debt 115 = .ok (.goto 9, 3) := by decide +kernel
theorem dX8_debt_118 : decode cX8_debt 118 = .ok (.aload_n 0, 1) := by decide +kernel
theorem dX8_debt_119 : decode cX8_debt 119 = .ok (.getfield 47, 3) := by decide +kernel
theorem dX8_debt_122 : decode cX8_debt 122 = .ok (.iload_n 1, 1) := by decide +kernel
theorem dX8_debt_123 : decode cX8_debt 123 = .ok (.iaload, 1) := by decide +kernel
theorem dX8_debt_124 : decode cX8_debt 124 = .ok (.ireturn, 1) := by decide +kernel
theorem dX8_late_0 : decode cX8_late 0 = .ok (.aload_n 0, 1) := by decide +kernel
theorem dX8_late_1 : decode cX8_late 1 = .ok (.iconst 0, 1) := by decide +kernel
theorem dX8_late_2 : decode cX8_late 2 = .ok (.putfield 74, 3) := by decide +kernel
theorem dX8_late_5 : decode cX8_late 5 = .ok (.iload_n 1, 1) := by decide +kernel
theorem dX8_late_6 : decode cX8_late 6 = .ok (.istore_n 2, 1) := by decide +kernel
theorem dX8_late_7 : decode cX8_late 7 = .ok (.iconst 0, 1) := by decide +kernel
theorem dX8_late_8 : decode cX8_late 8 = .ok (.istore_n 3, 1) := by decide +kernel
theorem dX8_late_9 : decode cX8_late 9 = .ok (.iload_n 3, 1) := by decide +kernel
theorem dX8_late_10 : decode cX8_late 10 = .ok (.aload_n 0, 1) := by decide +kernel
theorem dX8_late_11 : decode cX8_late 11 = .ok (.getfield 160, 3) := by decide +kernel
theorem dX8_late_14 : decode cX8_late 14 = .ok (.if_icmp .ge 58, 3) := by decide +kernel
theorem dX8_late_17 : decode cX8_late 17 = .ok (.iload_n 1, 1) := by decide +kernel
theorem dX8_late_18 : decode cX8_late 18 = .ok (.ifCond .lt 54, 3) := by decide +kernel
theorem dX8_late_21 : decode cX8_late 21 = .ok (.aload_n 0, 1) := by decide +kernel
theorem dX8_late_22 : decode cX8_late 22 = .ok (.getfield 44, 3) := by decide +kernel
theorem dX8_late_25 : decode cX8_late 25 = .ok (.iload_n 3, 1) := by decide +kernel
theorem dX8_late_26 : decode cX8_late 26 = .ok (.baload, 1) := by decide +kernel
theorem dX8_late_27 : decode cX8_late 27 = .ok (.ifCond .ne 39, 3) := by decide +kernel
theorem dX8_late_30 : decode cX8_late 30 = .ok (.aload_n 0, 1) := by decide +kernel
theorem dX8_late_31 : decode cX8_late 31 = .ok (.getfield 41, 3) := by decide +kernel
theorem dX8_late_34 : decode cX8_late 34 = .ok (.iload_n 3, 1) := by decide +kernel
theorem dX8_late_35 : decode cX8_late 35 = .ok (.laload, 1) := by decide +kernel
theorem dX8_late_36 : decode cX8_late 36 = .ok (.lconst 0, 1) := by decide +kernel
theorem dX8_late_37 : decode cX8_late 37 = .ok (.lcmp, 1) := by decide +kernel
theorem dX8_late_38 : decode cX8_late 38 = .ok (.ifCond .eq 28, 3) := by decide +kernel
theorem dX8_late_41 : decode cX8_late 41 = .ok (.aload_n 0, 1) := by decide +kernel
theorem dX8_late_42 : decode cX8_late 42 = .ok (.getfield 47, 3) := by decide +kernel
theorem dX8_late_45 : decode cX8_late 45 = .ok (.iload_n 3, 1) := by decide +kernel
theorem dX8_late_46 : decode cX8_late 46 = .ok (.iaload, 1) := by decide +kernel
theorem dX8_late_47 : decode cX8_late 47 = .ok (.aload_n 0, 1) := by decide +kernel
theorem dX8_late_48 : decode cX8_late 48 = .ok (.getfield 157, 3) := by decide +kernel
theorem dX8_late_51 : decode cX8_late 51 = .ok (.if_icmp .lt 6, 3) := by decide +kernel
theorem dX8_late_54 : decode cX8_late 54 = .ok (.goto 12, 3) := by decide +kernel
theorem dX8_late_57 : decode cX8_late 57 = .ok (.iload_n 2, 1) := by decide +kernel
theorem dX8_late_58 : decode cX8_late 58 = .ok (.ifCond .ne 5, 3) := by decide +kernel
theorem dX8_late_61 : decode cX8_late 61 = .ok (.iload_n 3, 1) := by decide +kernel
theorem dX8_late_62 : decode cX8_late 62 = .ok (.ireturn, 1) := by decide +kernel
theorem dX8_late_63 : decode cX8_late 63 = .ok (.iinc 2 (-1), 3) := by decide +kernel
theorem dX8_late_66 : decode cX8_late 66 = .ok (.iinc 3 1, 3) := by decide +kernel
theorem dX8_late_69 : decode cX8_late 69 = .ok (.goto (-60), 3) := by decide +kernel
theorem dX8_late_72 : decode cX8_late 72 = .ok (.iconst (-1), 1) := by decide +kernel
theorem dX8_late_73 : decode cX8_late 73 = .ok (.ireturn, 1) := by decide +kernel
set_option maxRecDepth 20000 in
theorem ggX8_about_X8_isChief : GoodIn wsX8_about wsX8_isChief := goodIn_r _ [10, 4, 15, 16, 17, 18, 19, 20, 21, 22, 23, 24, 25, 26, 27, 28, 29, 30, 31, 32, 33, 34, 35, 36, 37, 38, 39, 40, 41, 42, 43, 44, 45] (by decide +kernel) (by decide +kernel)
set_option maxRecDepth 20000 in
theorem gX8_about_X8_isChief : GoodIn wsX8_about (wsV RX8 184 RX8 yX8_isChief wsX8_isChief) := goodIn_app (goodIn_of _ (by decide +kernel)) ggX8_about_X8_isChief
set_option maxRecDepth 20000 in
theorem ggX8_about_X8_bad : GoodIn wsX8_about wsX8_bad := goodIn_r _ [14, 1, 15, 16, 17, 18, 19, 20, 21, 22, 23, 24, 25, 26, 27, 28, 29, 30, 31, 32, 33, 34, 35, 36, 37, 38, 39, 40, 41, 42, 43, 44, 45] (by decide +kernel) (by decide +kernel)
set_option maxRecDepth 20000 in
theorem gX8_about_X8_bad : GoodIn wsX8_about (wsV RX8 78 RX8 yX8_bad wsX8_bad) := goodIn_app (goodIn_of _ (by decide +kernel)) ggX8_about_X8_bad
theorem dX8_about_0 : decode cX8_about 0 = .ok (.aload_n 0, 1) := by decide +kernel
theorem dX8_about_1 : decode cX8_about 1 = .ok (.iconst 0, 1) := by decide +kernel
theorem dX8_about_2 : decode cX8_about 2 = .ok (.putfield 74, 3) := by decide +kernel
theorem dX8_about_5 : decode cX8_about 5 = .ok (.aload_n 0, 1) := by decide +kernel
theorem dX8_about_6 : decode cX8_about 6 = .ok (.aload_n 0, 1) := by decide +kernel
theorem dX8_about_7 : decode cX8_about 7 = .ok (.iload_n 1, 1) := by decide +kernel
theorem dX8_about_8 : decode cX8_about 8 = .ok (.invokevirtual 184, 3) := by decide +kernel
theorem dX8_about_11 : decode cX8_about 11 = .ok (.ifCond .ne 7, 3) := by decide +kernel
theorem dX8_about_14 : decode cX8_about 14 = .ok (.iconst 1, 1) := by decide +kernel
theorem dX8_about_15 : decode cX8_about 15 = .ok (.goto 4, 3) := by decide +kernel
theorem dX8_about_18 : decode cX8_about 18 = .ok (.iconst 0, 1) := by decide +kernel
theorem dX8_about_19 : decode cX8_about 19 = .ok (.iconst 1, 1) := by decide +kernel
theorem dX8_about_20 : decode cX8_about 20 = .ok (.invokevirtual 78, 3) := by decide +kernel
theorem dX8_about_23 : decode cX8_about 23 = .ok (.ifCond .ne 25, 3) := by decide +kernel
theorem dX8_about_26 : decode cX8_about 26 = .ok (.aload_n 0, 1) := by decide +kernel
theorem dX8_about_27 : decode cX8_about 27 = .ok (.iload_n 2, 1) := by decide +kernel
theorem dX8_about_28 : decode cX8_about 28 = .ok (.ifCond .lt 8, 3) := by decide +kernel
theorem dX8_about_31 : decode cX8_about 31 = .ok (.iload_n 2, 1) := by decide +kernel
theorem dX8_about_32 : decode cX8_about 32 = .ok (.iconst 2, 1) := by decide +kernel
theorem dX8_about_33 : decode cX8_about 33 = .ok (.if_icmp .le 7, 3) := by decide +kernel
theorem dX8_about_36 : decode cX8_about 36 = .ok (.iconst 1, 1) := by decide +kernel
theorem dX8_about_37 : decode cX8_about 37 = .ok (.goto 4, 3) := by decide +kernel
theorem dX8_about_40 : decode cX8_about 40 = .ok (.iconst 0, 1) := by decide +kernel
theorem dX8_about_41 : decode cX8_about 41 = .ok (.iconst 2, 1) := by decide +kernel
theorem dX8_about_42 : decode cX8_about 42 = .ok (.invokevirtual 78, 3) := by decide +kernel
theorem dX8_about_45 : decode cX8_about 45 = .ok (.ifCond .eq 5, 3) := by decide +kernel
theorem dX8_about_48 : decode cX8_about 48 = .ok (.iconst 0, 1) := by decide +kernel
theorem dX8_about_49 : decode cX8_about 49 = .ok (.ireturn, 1) := by decide +kernel
theorem dX8_about_50 : decode cX8_about 50 = .ok (.iload_n 2, 1) := by decide +kernel
theorem dX8_about_51 : decode cX8_about 51 = .ok (.iconst 2, 1) := by decide +kernel
theorem dX8_about_52 : decode cX8_about 52 = .ok (.if_icmp .ge 31, 3) := by decide +kernel
theorem dX8_about_55 : decode cX8_about 55 = .ok (.iload_n 2, 1) := by decide +kernel
theorem dX8_about_56 : decode cX8_about 56 = .ok (.ifCond .ne 12, 3) := by decide +kernel
theorem dX8_about_59 : decode cX8_about 59 = .ok (.aload_n 0, 1) := by decide +kernel
theorem dX8_about_60 : decode cX8_about 60 = .ok (.getfield 9, 3) := by decide +kernel
theorem dX8_about_63 : decode cX8_about 63 = .ok (.iload_n 1, 1) := by decide +kernel
theorem dX8_about_64 : decode cX8_about 64 = .ok (.iaload, 1) := by decide +kernel
theorem dX8_about_65 : decode cX8_about 65 = .ok (.goto 17, 3) := by decide +kernel
theorem dX8_about_68 : decode cX8_about 68 = .ok (.aload_n 0, 1) := by decide +kernel
theorem dX8_about_69 : decode cX8_about 69 = .ok (.getfield 17, 3) := by decide +kernel
theorem dX8_about_72 : decode cX8_about 72 = .ok (.iload_n 1, 1) := by decide +kernel
theorem dX8_about_73 : decode cX8_about 73 = .ok (.baload, 1) := by decide +kernel
theorem dX8_about_74 : decode cX8_about 74 = .ok (.ifCond .eq 7, 3) := by decide +kernel
theorem dX8_about_77 : decode cX8_about 77 = .ok (.iconst 0, 1) := by decide +kernel
theorem dX8_about_78 : decode cX8_about 78 = .ok (.goto 4, 3) := by decide +kernel
theorem dX8_about_81 : decode cX8_about 81 = .ok (.iconst 1, 1) := by decide +kernel
theorem dX8_about_82 : decode cX8_about 82 = .ok (.ireturn, 1) := by decide +kernel
theorem dX8_about_83 : decode cX8_about 83 = .ok (.aload_n 0, 1) := by decide +kernel
theorem dX8_about_84 : decode cX8_about 84 = .ok (.getfield 17, 3) := by decide +kernel
theorem dX8_about_87 : decode cX8_about 87 = .ok (.iload_n 1, 1) := by decide +kernel
theorem dX8_about_88 : decode cX8_about 88 = .ok (.baload, 1) := by decide +kernel
theorem dX8_about_89 : decode cX8_about 89 = .ok (.ifCond .eq 5, 3) := by decide +kernel
theorem dX8_about_92 : decode cX8_about 92 = .ok (.iconst (-1), 1) := by decide +kernel
theorem dX8_about_93 : decode cX8_about 93 = .ok (.ireturn, 1) := by decide +kernel
theorem dX8_about_94 : decode cX8_about 94 = .ok (.iconst 0, 1) := by decide +kernel
theorem dX8_about_95 : decode cX8_about 95 = .ok (.istore_n 3, 1) := by decide +kernel
theorem dX8_about_96 : decode cX8_about 96 = .ok (.iconst 0, 1) := by decide +kernel
theorem dX8_about_97 : decode cX8_about 97 = .ok (.istore 4, 2) := by decide +kernel
theorem dX8_about_99 : decode cX8_about 99 = .ok (.iload 4, 2) := by decide +kernel
theorem dX8_about_101 : decode cX8_about 101 = .ok (.aload_n 0, 1) := by decide +kernel
theorem dX8_about_102 : decode cX8_about 102 = .ok (.getfield 82, 3) := by decide +kernel
theorem dX8_about_105 : decode cX8_about 105 = .ok (.if_icmp .ge 67, 3) := by decide +kernel
theorem dX8_about_108 : decode cX8_about 108 = .ok (.iload_n 3, 1) := by decide +kernel
theorem dX8_about_109 : decode cX8_about 109 = .ok (.aload_n 0, 1) := by decide +kernel
theorem dX8_about_110 : decode cX8_about 110 = .ok (.getfield 17, 3) := by decide +kernel
theorem dX8_about_113 : decode cX8_about 113 = .ok (.iload 4, 2) := by decide +kernel
theorem dX8_about_115 : decode cX8_about 115 = .ok (.baload, 1) := by decide +kernel
theorem dX8_about_116 : decode cX8_about 116 = .ok (.ifCond .ne 47, 3) := by decide +kernel
theorem dX8_about_119 : decode cX8_about 119 = .ok (.aload_n 0, 1) := by decide +kernel
theorem dX8_about_120 : decode cX8_about 120 = .ok (.getfield 13, 3) := by decide +kernel
theorem dX8_about_123 : decode cX8_about 123 = .ok (.iload 4, 2) := by decide +kernel
theorem dX8_about_125 : decode cX8_about 125 = .ok (.laload, 1) := by decide +kernel
theorem dX8_about_126 : decode cX8_about 126 = .ok (.aload_n 0, 1) := by decide +kernel
theorem dX8_about_127 : decode cX8_about 127 = .ok (.getfield 13, 3) := by decide +kernel
theorem dX8_about_130 : decode cX8_about 130 = .ok (.iload_n 1, 1) := by decide +kernel
theorem dX8_about_131 : decode cX8_about 131 = .ok (.laload, 1) := by decide +kernel
theorem dX8_about_132 : decode cX8_about 132 = .ok (.lcmp, 1) := by decide +kernel
theorem dX8_about_133 : decode cX8_about 133 = .ok (.ifCond .gt 26, 3) := by decide +kernel
theorem dX8_about_136 : decode cX8_about 136 = .ok (.aload_n 0, 1) := by decide +kernel
theorem dX8_about_137 : decode cX8_about 137 = .ok (.getfield 13, 3) := by decide +kernel
theorem dX8_about_140 : decode cX8_about 140 = .ok (.iload 4, 2) := by decide +kernel
theorem dX8_about_142 : decode cX8_about 142 = .ok (.laload, 1) := by decide +kernel
theorem dX8_about_143 : decode cX8_about 143 = .ok (.aload_n 0, 1) := by decide +kernel
theorem dX8_about_144 : decode cX8_about 144 = .ok (.getfield 13, 3) := by decide +kernel
theorem dX8_about_147 : decode cX8_about 147 = .ok (.iload_n 1, 1) := by decide +kernel
theorem dX8_about_148 : decode cX8_about 148 = .ok (.laload, 1) := by decide +kernel
theorem dX8_about_149 : decode cX8_about 149 = .ok (.lcmp, 1) := by decide +kernel
theorem dX8_about_150 : decode cX8_about 150 = .ok (.ifCond .ne 13, 3) := by decide +kernel
theorem dX8_about_153 : decode cX8_about 153 = .ok (.iload 4, 2) := by decide +kernel
theorem dX8_about_155 : decode cX8_about 155 = .ok (.iload_n 1, 1) := by decide +kernel
theorem dX8_about_156 : decode cX8_about 156 = .ok (.if_icmp .ge 7, 3) := by decide +kernel
theorem dX8_about_159 : decode cX8_about 159 = .ok (.iconst 1, 1) := by decide +kernel
theorem dX8_about_160 : decode cX8_about 160 = .ok (.goto 4, 3) := by decide +kernel
theorem dX8_about_163 : decode cX8_about 163 = .ok (.iconst 0, 1) := by decide +kernel
theorem dX8_about_164 : decode cX8_about 164 = .ok (.iadd, 1) := by decide +kernel
theorem dX8_about_165 : decode cX8_about 165 = .ok (.istore_n 3, 1) := by decide +kernel
theorem dX8_about_166 : decode cX8_about 166 = .ok (.iinc 4 1, 3) := by decide +kernel
theorem dX8_about_169 : decode cX8_about 169 = .ok (.goto (-70), 3) := by decide +kernel
theorem dX8_about_172 : decode cX8_about 172 = .ok (.iload_n 3, 1) := by decide +kernel
theorem dX8_about_173 : decode cX8_about 173 = .ok (.ireturn, 1) := by decide +kernel
set_option maxRecDepth 20000 in
theorem ggX8_fame_X8_isChief : GoodIn wsX8_fame wsX8_isChief := goodIn_r _ [7, 8, 13, 14, 15, 16, 17, 18, 19, 20, 21, 22, 23, 24, 25, 26, 27, 28, 29, 30, 31, 32, 33, 34, 35, 36, 37, 38, 39, 40, 41, 42, 43] (by decide +kernel) (by decide +kernel)
set_option maxRecDepth 20000 in
theorem gX8_fame_X8_isChief : GoodIn wsX8_fame (wsV RX8 184 RX8 yX8_isChief wsX8_isChief) := goodIn_app (goodIn_of _ (by decide +kernel)) ggX8_fame_X8_isChief
set_option maxRecDepth 20000 in
theorem ggX8_fame_X8_bad : GoodIn wsX8_fame wsX8_bad := goodIn_r _ [12, 1, 13, 14, 15, 16, 17, 18, 19, 20, 21, 22, 23, 24, 25, 26, 27, 28, 29, 30, 31, 32, 33, 34, 35, 36, 37, 38, 39, 40, 41, 42, 43] (by decide +kernel) (by decide +kernel)
set_option maxRecDepth 20000 in
theorem gX8_fame_X8_bad : GoodIn wsX8_fame (wsV RX8 78 RX8 yX8_bad wsX8_bad) := goodIn_app (goodIn_of _ (by decide +kernel)) ggX8_fame_X8_bad
theorem dX8_fame_0 : decode cX8_fame 0 = .ok (.aload_n 0, 1) := by decide +kernel
theorem dX8_fame_1 : decode cX8_fame 1 = .ok (.iconst 0, 1) := by decide +kernel
theorem dX8_fame_2 : decode cX8_fame 2 = .ok (.putfield 74, 3) := by decide +kernel
theorem dX8_fame_5 : decode cX8_fame 5 = .ok (.aload_n 0, 1) := by decide +kernel
theorem dX8_fame_6 : decode cX8_fame 6 = .ok (.aload_n 0, 1) := by decide +kernel
theorem dX8_fame_7 : decode cX8_fame 7 = .ok (.iload_n 1, 1) := by decide +kernel
theorem dX8_fame_8 : decode cX8_fame 8 = .ok (.invokevirtual 184, 3) := by decide +kernel
theorem dX8_fame_11 : decode cX8_fame 11 = .ok (.ifCond .ne 7, 3) := by decide +kernel
theorem dX8_fame_14 : decode cX8_fame 14 = .ok (.iconst 1, 1) := by decide +kernel
theorem dX8_fame_15 : decode cX8_fame 15 = .ok (.goto 4, 3) := by decide +kernel
theorem dX8_fame_18 : decode cX8_fame 18 = .ok (.iconst 0, 1) := by decide +kernel
theorem dX8_fame_19 : decode cX8_fame 19 = .ok (.iconst 1, 1) := by decide +kernel
theorem dX8_fame_20 : decode cX8_fame 20 = .ok (.invokevirtual 78, 3) := by decide +kernel
theorem dX8_fame_23 : decode cX8_fame 23 = .ok (.ifCond .eq 7, 3) := by decide +kernel
theorem dX8_fame_26 : decode cX8_fame 26 = .ok (.lconst 0, 1) := by decide +kernel
theorem dX8_fame_27 : decode cX8_fame 27 = .ok (.goto 9, 3) := by decide +kernel
theorem dX8_fame_30 : decode cX8_fame 30 = .ok (.aload_n 0, 1) := by decide +kernel
theorem dX8_fame_31 : decode cX8_fame 31 = .ok (.getfield 13, 3) := by decide +kernel
theorem dX8_fame_34 : decode cX8_fame 34 = .ok (.iload_n 1, 1) := by decide +kernel
theorem dX8_fame_35 : decode cX8_fame 35 = .ok (.laload, 1) := by decide +kernel
theorem dX8_fame_36 : decode cX8_fame 36 = .ok (.lreturn, 1) := by decide +kernel
theorem dX8_ways_0 : decode cX8_ways 0 = .ok (.iconst 0, 1) := by decide +kernel
theorem dX8_ways_1 : decode cX8_ways 1 = .ok (.istore_n 2, 1) := by decide +kernel
theorem dX8_ways_2 : decode cX8_ways 2 = .ok (.iload_n 2, 1) := by decide +kernel
theorem dX8_ways_3 : decode cX8_ways 3 = .ok (.aload_n 0, 1) := by decide +kernel
theorem dX8_ways_4 : decode cX8_ways 4 = .ok (.getfield 82, 3) := by decide +kernel
theorem dX8_ways_7 : decode cX8_ways 7 = .ok (.if_icmp .ge 16, 3) := by decide +kernel
theorem dX8_ways_10 : decode cX8_ways 10 = .ok (.aload_n 0, 1) := by decide +kernel
theorem dX8_ways_11 : decode cX8_ways 11 = .ok (.getfield 68, 3) := by decide +kernel
theorem dX8_ways_14 : decode cX8_ways 14 = .ok (.iload_n 2, 1) := by decide +kernel
theorem dX8_ways_15 : decode cX8_ways 15 = .ok (.iconst 0, 1) := by decide +kernel
theorem dX8_ways_16 : decode cX8_ways 16 = .ok (.bastore, 1) := by decide +kernel
theorem dX8_ways_17 : decode cX8_ways 17 = .ok (.iinc 2 1, 3) := by decide +kernel
theorem dX8_ways_20 : decode cX8_ways 20 = .ok (.goto (-18), 3) := by decide +kernel
theorem dX8_ways_23 : decode cX8_ways 23 = .ok (.aload_n 0, 1) := by decide +kernel
theorem dX8_ways_24 : decode cX8_ways 24 = .ok (.getfield 68, 3) := by decide +kernel
theorem dX8_ways_27 : decode cX8_ways 27 = .ok (.iload_n 1, 1) := by decide +kernel
theorem dX8_ways_28 : decode cX8_ways 28 = .ok (.iconst 1, 1) := by decide +kernel
theorem dX8_ways_29 : decode cX8_ways 29 = .ok (.bastore, 1) := by decide +kernel
theorem dX8_ways_30 : decode cX8_ways 30 = .ok (.aload_n 0, 1) := by decide +kernel
theorem dX8_ways_31 : decode cX8_ways 31 = .ok (.getfield 65, 3) := by decide +kernel
theorem dX8_ways_34 : decode cX8_ways 34 = .ok (.iload_n 1, 1) := by decide +kernel
theorem dX8_ways_35 : decode cX8_ways 35 = .ok (.iconst (-1), 1) := by decide +kernel
theorem dX8_ways_36 : decode cX8_ways 36 = .ok (.iastore, 1) := by decide +kernel
theorem dX8_ways_37 : decode cX8_ways 37 = .ok (.aload_n 0, 1) := by decide +kernel
theorem dX8_ways_38 : decode cX8_ways 38 = .ok (.getfield 71, 3) := by decide +kernel
theorem dX8_ways_41 : decode cX8_ways 41 = .ok (.iconst 0, 1) := by decide +kernel
theorem dX8_ways_42 : decode cX8_ways 42 = .ok (.iload_n 1, 1) := by decide +kernel
theorem dX8_ways_43 : decode cX8_ways 43 = .ok (.iastore, 1) := by decide +kernel
theorem dX8_ways_44 : decode cX8_ways 44 = .ok (.aload_n 0, 1) := by decide +kernel
theorem dX8_ways_45 : decode cX8_ways 45 = .ok (.iconst 1, 1) := by decide +kernel
theorem dX8_ways_46 : decode cX8_ways 46 = .ok (.putfield 206, 3) := by decide +kernel
theorem dX8_ways_49 : decode cX8_ways 49 = .ok (.iconst 0, 1) := by decide +kernel
theorem dX8_ways_50 : decode cX8_ways 50 = .ok (.istore_n 2, 1) := by decide +kernel
theorem dX8_ways_51 : decode cX8_ways 51 = .ok (.iload_n 2, 1) := by decide +kernel
theorem dX8_ways_52 : decode cX8_ways 52 = .ok (.aload_n 0, 1) := by decide +kernel
theorem dX8_ways_53 : decode cX8_ways 53 = .ok (.getfield 206, 3) := by decide +kernel
theorem dX8_ways_56 : decode cX8_ways 56 = .ok (.if_icmp .ge 97, 3) := by decide +kernel
theorem dX8_ways_59 : decode cX8_ways 59 = .ok (.iconst 0, 1) := by decide +kernel
theorem dX8_ways_60 : decode cX8_ways 60 = .ok (.istore_n 3, 1) := by decide +kernel
theorem dX8_ways_61 : decode cX8_ways 61 = .ok (.iload_n 3, 1) := by decide +kernel
theorem dX8_ways_62 : decode cX8_ways 62 = .ok (.aload_n 0, 1) := by decide +kernel
theorem dX8_ways_63 : decode cX8_ways 63 = .ok (.getfield 82, 3) := by decide +kernel
theorem dX8_ways_66 : decode cX8_ways 66 = .ok (.if_icmp .ge 81, 3) := by decide +kernel
theorem dX8_ways_69 : decode cX8_ways 69 = .ok (.aload_n 0, 1) := by decide +kernel
theorem dX8_ways_70 : decode cX8_ways 70 = .ok (.getfield 68, 3) := by decide +kernel
theorem dX8_ways_73 : decode cX8_ways 73 = .ok (.iload_n 3, 1) := by decide +kernel
theorem dX8_ways_74 : decode cX8_ways 74 = .ok (.baload, 1) := by decide +kernel
theorem dX8_ways_75 : decode cX8_ways 75 = .ok (.ifCond .ne 66, 3) := by decide +kernel
theorem dX8_ways_78 : decode cX8_ways 78 = .ok (.aload_n 0, 1) := by decide +kernel
theorem dX8_ways_79 : decode cX8_ways 79 = .ok (.getfield 59, 3) := by decide +kernel
theorem dX8_ways_82 : decode cX8_ways 82 = .ok (.bipush 12, 2) := by decide +kernel
theorem dX8_ways_84 : decode cX8_ways 84 = .ok (.iload_n 3, 1) := by decide +kernel
theorem dX8_ways_85 : decode cX8_ways 85 = .ok (.imul, 1) := by decide +kernel
theorem dX8_ways_86 : decode cX8_ways 86 = .ok (.aload_n 0, 1) := by decide +kernel
theorem dX8_ways_87 : decode cX8_ways 87 = .ok (.getfield 71, 3) := by decide +kernel
theorem dX8_ways_90 : decode cX8_ways 90 = .ok (.iload_n 2, 1) := by decide +kernel
theorem dX8_ways_91 : decode cX8_ways 91 = .ok (.iaload, 1) := by decide +kernel
theorem dX8_ways_92 : decode cX8_ways 92 = .ok (.iadd, 1) := by decide +kernel
theorem dX8_ways_93 : decode cX8_ways 93 = .ok (.laload, 1) := by decide +kernel
theorem dX8_ways_94 : decode cX8_ways 94 = .ok (.lconst 0, 1) := by decide +kernel
theorem dX8_ways_95 : decode cX8_ways 95 = .ok (.lcmp, 1) := by decide +kernel
theorem dX8_ways_96 : decode cX8_ways 96 = .ok (.ifCond .ne 6, 3) := by decide +kernel
theorem dX8_ways_99 : decode cX8_ways 99 = .ok (.goto 42, 3) := by decide +kernel
theorem dX8_ways_102 : decode cX8_ways 102 = .ok (.aload_n 0, 1) := by decide +kernel
theorem dX8_ways_103 : decode cX8_ways 103 = .ok (.getfield 68, 3) := by decide +kernel
theorem dX8_ways_106 : decode cX8_ways 106 = .ok (.iload_n 3, 1) := by decide +kernel
theorem dX8_ways_107 : decode cX8_ways 107 = .ok (.iconst 1, 1) := by decide +kernel
theorem dX8_ways_108 : decode cX8_ways 108 = .ok (.bastore, 1) := by decide +kernel
theorem dX8_ways_109 : decode cX8_ways 109 = .ok (.aload_n 0, 1) := by decide +kernel
theorem dX8_ways_110 : decode cX8_ways 110 = .ok (.getfield 65, 3) := by decide +kernel
theorem dX8_ways_113 : decode cX8_ways 113 = .ok (.iload_n 3, 1) := by decide +kernel
theorem dX8_ways_114 : decode cX8_ways 114 = .ok (.aload_n 0, 1) := by decide +kernel
theorem dX8_ways_115 : decode cX8_ways 115 = .ok (.getfield 71, 3) := by decide +kernel
theorem dX8_ways_118 : decode cX8_ways 118 = .ok (.iload_n 2, 1) := by decide +kernel
theorem dX8_ways_119 : decode cX8_ways 119 = .ok (.iaload, 1) := by decide +kernel
theorem dX8_ways_120 : decode cX8_ways 120 = .ok (.iastore, 1) := by decide +kernel
theorem dX8_ways_121 : decode cX8_ways 121 = .ok (.aload_n 0, 1) := by decide +kernel
theorem dX8_ways_122 : decode cX8_ways 122 = .ok (.getfield 71, 3) := by decide +kernel
theorem dX8_ways_125 : decode cX8_ways 125 = .ok (.aload_n 0, 1) := by decide +kernel
theorem dX8_ways_126 : decode cX8_ways 126 = .ok (.getfield 206, 3) := by decide +kernel
theorem dX8_ways_129 : decode cX8_ways 129 = .ok (.iload_n 3, 1) := by decide +kernel
theorem dX8_ways_130 : decode cX8_ways 130 = .ok (.iastore, 1) := by decide +kernel
theorem dX8_ways_131 : decode cX8_ways 131 = .ok (.aload_n 0, 1) := by decide +kernel
theorem dX8_ways_132 : decode cX8_ways 132 = .ok (.dup, 1) := by decide +kernel
theorem dX8_ways_133 : decode cX8_ways 133 = .ok (.getfield 206, 3) := by decide +kernel
theorem dX8_ways_136 : decode cX8_ways 136 = .ok (.iconst 1, 1) := by decide +kernel
theorem dX8_ways_137 : decode cX8_ways 137 = .ok (.iadd, 1) := by decide +kernel
theorem dX8_ways_138 : decode cX8_ways 138 = .ok (.putfield 206, 3) := by decide +kernel
theorem dX8_ways_141 : decode cX8_ways 141 = .ok (.iinc 3 1, 3) := by decide +kernel
theorem dX8_ways_144 : decode cX8_ways 144 = .ok (.goto (-83), 3) := by decide +kernel
theorem dX8_ways_147 : decode cX8_ways 147 = .ok (.iinc 2 1, 3) := by decide +kernel
theorem dX8_ways_150 : decode cX8_ways 150 = .ok (.goto (-99), 3) := by decide +kernel
theorem dX8_ways_153 : decode cX8_ways 153 = .ok (.return_, 1) := by decide +kernel
set_option maxRecDepth 20000 in
theorem ggX8_gathers_X8_ways : GoodIn wsX8_gathers wsX8_ways := goodIn_r _ [18, 2, 19, 13, 12, 11, 1, 20, 21, 22, 23, 24, 25, 26, 27, 28, 29, 30, 31, 32, 33, 34, 35, 36, 37, 38, 39, 40, 41, 42, 43, 44, 45, 46, 47, 48, 49, 50] (by decide +kernel) (by decide +kernel)
set_option maxRecDepth 20000 in
theorem gX8_gathers_X8_ways : GoodIn wsX8_gathers (wsV RX8 209 RX8 yX8_ways wsX8_ways) := goodIn_app (goodIn_of _ (by decide +kernel)) ggX8_gathers_X8_ways
theorem dX8_gathers_0 : decode cX8_gathers 0 = .ok (.iconst 0, 1) := by decide +kernel
theorem dX8_gathers_1 : decode cX8_gathers 1 = .ok (.istore_n 3, 1) := by decide +kernel
theorem dX8_gathers_2 : decode cX8_gathers 2 = .ok (.iload_n 3, 1) := by decide +kernel
theorem dX8_gathers_3 : decode cX8_gathers 3 = .ok (.sipush 144, 3) := by decide +kernel
theorem dX8_gathers_6 : decode cX8_gathers 6 = .ok (.if_icmp .ge 16, 3) := by decide +kernel
theorem dX8_gathers_9 : decode cX8_gathers 9 = .ok (.aload_n 0, 1) := by decide +kernel
theorem dX8_gathers_10 : decode cX8_gathers 10 = .ok (.getfield 59, 3) := by decide +kernel
theorem dX8_gathers_13 : decode cX8_gathers 13 = .ok (.iload_n 3, 1) := by decide +kernel
theorem dX8_gathers_14 : decode cX8_gathers 14 = .ok (.lconst 0, 1) := by decide +kernel
theorem dX8_gathers_15 : decode cX8_gathers 15 = .ok (.lastore, 1) := by decide +kernel
theorem dX8_gathers_16 : decode cX8_gathers 16 = .ok (.iinc 3 1, 3) := by decide +kernel
theorem dX8_gathers_19 : decode cX8_gathers 19 = .ok (.goto (-17), 3) := by decide +kernel
theorem dX8_gathers_22 : decode cX8_gathers 22 = .ok (.iconst 0, 1) := by decide +kernel
theorem dX8_gathers_23 : decode cX8_gathers 23 = .ok (.istore_n 3, 1) := by decide +kernel
theorem dX8_gathers_24 : decode cX8_gathers 24 = .ok (.iload_n 3, 1) := by decide +kernel
theorem dX8_gathers_25 : decode cX8_gathers 25 = .ok (.aload_n 0, 1) := by decide +kernel
theorem dX8_gathers_26 : decode cX8_gathers 26 = .ok (.getfield 82, 3) := by decide +kernel
theorem dX8_gathers_29 : decode cX8_gathers 29 = .ok (.if_icmp .ge 22, 3) := by decide +kernel
theorem dX8_gathers_32 : decode cX8_gathers 32 = .ok (.aload_n 0, 1) := by decide +kernel
theorem dX8_gathers_33 : decode cX8_gathers 33 = .ok (.getfield 62, 3) := by decide +kernel
theorem dX8_gathers_36 : decode cX8_gathers 36 = .ok (.iload_n 3, 1) := by decide +kernel
theorem dX8_gathers_37 : decode cX8_gathers 37 = .ok (.aload_n 0, 1) := by decide +kernel
theorem dX8_gathers_38 : decode cX8_gathers 38 = .ok (.getfield 9, 3) := by decide +kernel
theorem dX8_gathers_41 : decode cX8_gathers 41 = .ok (.iload_n 3, 1) := by decide +kernel
theorem dX8_gathers_42 : decode cX8_gathers 42 = .ok (.iaload, 1) := by decide +kernel
theorem dX8_gathers_43 : decode cX8_gathers 43 = .ok (.i2l, 1) := by decide +kernel
theorem dX8_gathers_44 : decode cX8_gathers 44 = .ok (.lastore, 1) := by decide +kernel
theorem dX8_gathers_45 : decode cX8_gathers 45 = .ok (.iinc 3 1, 3) := by decide +kernel
theorem dX8_gathers_48 : decode cX8_gathers 48 = .ok (.goto (-24), 3) := by decide +kernel
theorem dX8_gathers_51 : decode cX8_gathers 51 = .ok (.iconst 0, 1) := by decide +kernel
theorem dX8_gathers_52 : decode cX8_gathers 52 = .ok (.istore_n 3, 1) := by decide +kernel
theorem dX8_gathers_53 : decode cX8_gathers 53 = .ok (.iload_n 3, 1) := by decide +kernel
theorem dX8_gathers_54 : decode cX8_gathers 54 = .ok (.aload_n 0, 1) := by decide +kernel
theorem dX8_gathers_55 : decode cX8_gathers 55 = .ok (.getfield 160, 3) := by decide +kernel
theorem dX8_gathers_58 : decode cX8_gathers 58 = .ok (.if_icmp .ge 58, 3) := by decide +kernel
theorem dX8_gathers_61 : decode cX8_gathers 61 = .ok (.aload_n 0, 1) := by decide +kernel
theorem dX8_gathers_62 : decode cX8_gathers 62 = .ok (.getfield 44, 3) := by decide +kernel
theorem dX8_gathers_65 : decode cX8_gathers 65 = .ok (.iload_n 3, 1) := by decide +kernel
theorem dX8_gathers_66 : decode cX8_gathers 66 = .ok (.baload, 1) := by decide +kernel
theorem dX8_gathers_67 : decode cX8_gathers 67 = .ok (.ifCond .ne 13, 3) := by decide +kernel
theorem dX8_gathers_70 : decode cX8_gathers 70 = .ok (.aload_n 0, 1) := by decide +kernel
theorem dX8_gathers_71 : decode cX8_gathers 71 = .ok (.getfield 47, 3) := by decide +kernel
theorem dX8_gathers_74 : decode cX8_gathers 74 = .ok (.iload_n 3, 1) := by decide +kernel
theorem dX8_gathers_75 : decode cX8_gathers 75 = .ok (.iaload, 1) := by decide +kernel
theorem dX8_gathers_76 : decode cX8_gathers 76 = .ok (.iload_n 2, 1) := by decide +kernel
theorem dX8_gathers_77 : decode cX8_gathers 77 = .ok (.if_icmp .gt 33, 3) := by decide +kernel
theorem dX8_gathers_80 : decode cX8_gathers 80 = .ok (.aload_n 0, 1) := by decide +kernel
theorem dX8_gathers_81 : decode cX8_gathers 81 = .ok (.getfield 59, 3) := by decide +kernel
theorem dX8_gathers_84 : decode cX8_gathers 84 = .ok (.bipush 12, 2) := by decide +kernel
theorem dX8_gathers_86 : decode cX8_gathers 86 = .ok (.aload_n 0, 1) := by decide +kernel
theorem dX8_gathers_87 : decode cX8_gathers 87 = .ok (.getfield 35, 3) := by decide +kernel
theorem dX8_gathers_90 : decode cX8_gathers 90 = .ok (.iload_n 3, 1) := by decide +kernel
theorem dX8_gathers_91 : decode cX8_gathers 91 = .ok (.iaload, 1) := by decide +kernel
theorem dX8_gathers_92 : decode cX8_gathers 92 = .ok (.imul, 1) := by decide +kernel
theorem dX8_gathers_93 : decode cX8_gathers 93 = .ok (.aload_n 0, 1) := by decide +kernel
theorem dX8_gathers_94 : decode cX8_gathers 94 = .ok (.getfield 38, 3) := by decide +kernel
theorem dX8_gathers_97 : decode cX8_gathers 97 = .ok (.iload_n 3, 1) := by decide +kernel
theorem dX8_gathers_98 : decode cX8_gathers 98 = .ok (.iaload, 1) := by decide +kernel
theorem dX8_gathers_99 : decode cX8_gathers 99 = .ok (.iadd, 1) := by decide +kernel
theorem dX8_gathers_100 : decode cX8_gathers 100 = .ok (.dup2, 1) := by decide +kernel
theorem dX8_gathers_101 : decode cX8_gathers 101 = .ok (.laload, 1) := by decide +kernel
theorem dX8_gathers_102 : decode cX8_gathers 102 = .ok (.aload_n 0, 1) := by decide +kernel
theorem dX8_gathers_103 : decode cX8_gathers 103 = .ok (.getfield 41, 3) := by decide +kernel
theorem dX8_gathers_106 : decode cX8_gathers 106 = .ok (.iload_n 3, 1) := by decide +kernel
theorem dX8_gathers_107 : decode cX8_gathers 107 = .ok (.laload, 1) := by decide +kernel
theorem dX8_gathers_108 : decode cX8_gathers 108 = .ok (.ladd, 1) := by decide +kernel
theorem dX8_gathers_109 : decode cX8_gathers 109 = .ok (.lastore, 1) := by decide +kernel
theorem dX8_gathers_110 : decode cX8_gathers 110 = .ok (.iinc 3 1, 3) := by decide +kernel
theorem dX8_gathers_113 : decode cX8_gathers 113 = .ok (.goto (-60), 3) := by decide +kernel
theorem dX8_gathers_116 : decode cX8_gathers 116 = .ok (.aload_n 0, 1) := by decide +kernel
theorem dX8_gathers_117 : decode cX8_gathers 117 = .ok (.getfield 62, 3) := by decide +kernel
theorem dX8_gathers_120 : decode cX8_gathers 120 = .ok (.iload_n 1, 1) := by decide +kernel
theorem dX8_gathers_121 : decode cX8_gathers 121 = .ok (.laload, 1) := by decide +kernel
theorem dX8_gathers_122 : decode cX8_gathers 122 = .ok (.lstore_n 3, 1) := by decide +kernel
theorem dX8_gathers_123 : decode cX8_gathers 123 = .ok (.aload_n 0, 1) := by decide +kernel
theorem dX8_gathers_124 : decode cX8_gathers 124 = .ok (.getfield 62, 3) := by decide +kernel
theorem dX8_gathers_127 : decode cX8_gathers 127 = .ok (.iload_n 1, 1) := by decide +kernel
theorem dX8_gathers_128 : decode cX8_gathers 128 = .ok (.lconst 0, 1) := by decide +kernel
theorem dX8_gathers_129 : decode cX8_gathers 129 = .ok (.lastore, 1) := by decide +kernel
theorem dX8_gathers_130 : decode cX8_gathers 130 = .ok (.iconst 1, 1) := by decide +kernel
theorem dX8_gathers_131 : decode cX8_gathers 131 = .ok (.istore 5, 2) := by decide +kernel
theorem dX8_gathers_133 : decode cX8_gathers 133 = .ok (.iload 5, 2) := by decide +kernel
theorem dX8_gathers_135 : decode cX8_gathers 135 = .ok (.ifCond .eq 244, 3) := by decide +kernel
theorem dX8_gathers_138 : decode cX8_gathers 138 = .ok (.aload_n 0, 1) := by decide +kernel
theorem dX8_gathers_139 : decode cX8_gathers 139 = .ok (.iload_n 1, 1) := by decide +kernel
theorem dX8_gathers_140 : decode cX8_gathers 140 = .ok (.invokevirtual 209, 3) := by decide +kernel
theorem dX8_gathers_143 : decode cX8_gathers 143 = .ok (.iconst 0, 1) := by decide +kernel
theorem dX8_gathers_144 : decode cX8_gathers 144 = .ok (.istore 6, 2) := by decide +kernel
theorem dX8_gathers_146 : decode cX8_gathers 146 = .ok (.iload 6, 2) := by decide +kernel
theorem dX8_gathers_148 : decode cX8_gathers 148 = .ok (.aload_n 0, 1) := by decide +kernel
theorem dX8_gathers_149 : decode cX8_gathers 149 = .ok (.getfield 206, 3) := by decide +kernel
theorem dX8_gathers_152 : decode cX8_gathers 152 = .ok (.if_icmp .ge 26, 3) := by decide +kernel
theorem dX8_gathers_155 : decode cX8_gathers 155 = .ok (.aload_n 0, 1) := by decide +kernel
theorem dX8_gathers_156 : decode cX8_gathers 156 = .ok (.getfield 62, 3) := by decide +kernel
theorem dX8_gathers_159 : decode cX8_gathers 159 = .ok (.aload_n 0, 1) := by decide +kernel
theorem dX8_gathers_160 : decode cX8_gathers 160 = .ok (.getfield 71, 3) := by decide +kernel
theorem dX8_gathers_163 : decode cX8_gathers 163 = .ok (.iload 6, 2) := by decide +kernel
theorem dX8_gathers_165 : decode cX8_gathers 165 = .ok (.iaload, 1) := by decide +kernel
theorem dX8_gathers_166 : decode cX8_gathers 166 = .ok (.laload, 1) := by decide +kernel
theorem dX8_gathers_167 : decode cX8_gathers 167 = .ok (.lconst 0, 1) := by decide +kernel
theorem dX8_gathers_168 : decode cX8_gathers 168 = .ok (.lcmp, 1) := by decide +kernel
theorem dX8_gathers_169 : decode cX8_gathers 169 = .ok (.ifCond .ne 9, 3) := by decide +kernel
theorem dX8_gathers_172 : decode cX8_gathers 172 = .ok (.iinc 6 1, 3) := by decide +kernel
theorem dX8_gathers_175 : decode cX8_gathers 175 = .ok (.goto (-29), 3) := by decide +kernel
theorem dX8_gathers_178 : decode cX8_gathers 178 = .ok (.iload 6, 2) := by decide +kernel
theorem dX8_gathers_180 : decode cX8_gathers 180 = .ok (.aload_n 0, 1) := by decide +kernel
theorem dX8_gathers_181 : decode cX8_gathers 181 = .ok (.getfield 206, 3) := by decide +kernel
theorem dX8_gathers_184 : decode cX8_gathers 184 = .ok (.if_icmp .ge 7, 3) := by decide +kernel
theorem dX8_gathers_187 : decode cX8_gathers 187 = .ok (.iconst 1, 1) := by decide +kernel
theorem dX8_gathers_188 : decode cX8_gathers 188 = .ok (.goto 4, 3) := by decide +kernel
theorem dX8_gathers_191 : decode cX8_gathers 191 = .ok (.iconst 0, 1) := by decide +kernel
theorem dX8_gathers_192 : decode cX8_gathers 192 = .ok (.istore 5, 2) := by decide +kernel
theorem dX8_gathers_194 : decode cX8_gathers 194 = .ok (.iload 5, 2) := by decide +kernel
theorem dX8_gathers_196 : decode cX8_gathers 196 = .ok (.ifCond .ne 6, 3) := by decide +kernel
theorem dX8_gathers_199 : decode cX8_gathers 199 = .ok (.goto (-66), 3) := by decide +kernel
theorem dX8_gathers_202 : decode cX8_gathers 202 = .ok (.aload_n 0, 1) := by decide +kernel
theorem dX8_gathers_203 : decode cX8_gathers 203 = .ok (.getfield 71, 3) := by decide +kernel
theorem dX8_gathers_206 : decode cX8_gathers 206 = .ok (.iload 6, 2) := by decide +kernel
theorem dX8_gathers_208 : decode cX8_gathers 208 = .ok (.iaload, 1) := by decide +kernel
theorem dX8_gathers_209 : decode cX8_gathers 209 = .ok (.istore 7, 2) := by decide +kernel
theorem dX8_gathers_211 : decode cX8_gathers 211 = .ok (.aload_n 0, 1) := by decide +kernel
theorem dX8_gathers_212 : decode cX8_gathers 212 = .ok (.getfield 62, 3) := by decide +kernel
theorem dX8_gathers_215 : decode cX8_gathers 215 = .ok (.iload 7, 2) := by decide +kernel
theorem dX8_gathers_217 : decode cX8_gathers 217 = .ok (.laload, 1) := by decide +kernel
theorem dX8_gathers_218 : decode cX8_gathers 218 = .ok (.lstore 8, 2) := by decide +kernel
theorem dX8_gathers_220 : decode cX8_gathers 220 = .ok (.iload 7, 2) := by decide +kernel
theorem dX8_gathers_222 : decode cX8_gathers 222 = .ok (.istore 10, 2) := by decide +kernel
theorem dX8_gathers_224 : decode cX8_gathers 224 = .ok (.iload 10, 2) := by decide +kernel
theorem dX8_gathers_226 : decode cX8_gathers 226 = .ok (.iload_n 1, 1) := by decide +kernel
theorem dX8_gathers_227 : decode cX8_gathers 227 = .ok (.if_icmp .eq 64, 3) := by decide +kernel
theorem dX8_gathers_230 : decode cX8_gathers 230 = .ok (.aload_n 0, 1) := by decide +kernel
theorem dX8_gathers_231 : decode cX8_gathers 231 = .ok (.getfield 59, 3) := by decide +kernel
theorem dX8_gathers_234 : decode cX8_gathers 234 = .ok (.bipush 12, 2) := by decide +kernel
theorem dX8_gathers_236 : decode cX8_gathers 236 = .ok (.iload 10, 2) := by decide +kernel
theorem dX8_gathers_238 : decode cX8_gathers 238 = .ok (.imul, 1) := by decide +kernel
theorem dX8_gathers_239 : decode cX8_gathers 239 = .ok (.aload_n 0, 1) := by decide +kernel
theorem dX8_gathers_240 : decode cX8_gathers 240 = .ok (.getfield 65, 3) := by decide +kernel
theorem dX8_gathers_243 : decode cX8_gathers 243 = .ok (.iload 10, 2) := by decide +kernel
theorem dX8_gathers_245 : decode cX8_gathers 245 = .ok (.iaload, 1) := by decide +kernel
theorem dX8_gathers_246 : decode cX8_gathers 246 = .ok (.iadd, 1) := by decide +kernel
theorem dX8_gathers_247 : decode cX8_gathers 247 = .ok (.laload, 1) := by decide +kernel
theorem dX8_gathers_248 : decode cX8_gathers 248 = .ok (.lload 8, 2) := by decide +kernel
theorem dX8_gathers_250 : decode cX8_gathers 250 = .ok (.lcmp, 1) := by decide +kernel
theorem dX8_gathers_251 : decode cX8_gathers 251 = .ok (.ifCond .ge 24, 3) := by decide +kernel
theorem dX8_gathers_254 : decode cX8_gathers 254 = .ok (.aload_n 0, 1) := by decide +kernel
theorem dX8_gathers_255 : decode cX8_gathers 255 = .ok (.getfield 59, 3) := by decide +kernel
theorem dX8_gathers_258 : decode cX8_gathers 258 = .ok (.bipush 12, 2) := by decide +kernel
theorem dX8_gathers_260 : decode cX8_gathers 260 = .ok (.iload 10, 2) := by decide +kernel
theorem dX8_gathers_262 : decode cX8_gathers 262 = .ok (.imul, 1) := by decide +kernel
theorem dX8_gathers_263 : decode cX8_gathers 263 = .ok (.aload_n 0, 1) := by decide +kernel
theorem dX8_gathers_264 : decode cX8_gathers 264 = .ok (.getfield 65, 3) := by decide +kernel
theorem dX8_gathers_267 : decode cX8_gathers 267 = .ok (.iload 10, 2) := by decide +kernel
theorem dX8_gathers_269 : decode cX8_gathers 269 = .ok (.iaload, 1) := by decide +kernel
theorem dX8_gathers_270 : decode cX8_gathers 270 = .ok (.iadd, 1) := by decide +kernel
theorem dX8_gathers_271 : decode cX8_gathers 271 = .ok (.laload, 1) := by decide +kernel
theorem dX8_gathers_272 : decode cX8_gathers 272 = .ok (.goto 5, 3) := by decide +kernel
theorem dX8_gathers_275 : decode cX8_gathers 275 = .ok (.lload 8, 2) := by decide +kernel
theorem dX8_gathers_277 : decode cX8_gathers 277 = .ok (.lstore 8, 2) := by decide +kernel
theorem dX8_gathers_279 : decode cX8_gathers 279 = .ok (.aload_n 0, 1) := by decide +kernel
theorem dX8_gathers_280 : decode cX8_gathers 280 = .ok (.getfield 65, 3) := by decide +kernel
theorem dX8_gathers_283 : decode cX8_gathers 283 = .ok (.iload 10, 2) := by decide +kernel
theorem dX8_gathers_285 : decode cX8_gathers 285 = .ok (.iaload, 1) := by decide +kernel
theorem dX8_gathers_286 : decode cX8_gathers 286 = .ok (.istore 10, 2) := by decide +kernel
theorem dX8_gathers_288 : decode cX8_gathers 288 = .ok (.goto (-64), 3) := by decide +kernel
theorem dX8_gathers_291 : decode cX8_gathers 291 = .ok (.iload 7, 2) := by decide +kernel
theorem dX8_gathers_293 : decode cX8_gathers 293 = .ok (.istore 10, 2) := by decide +kernel
theorem dX8_gathers_295 : decode cX8_gathers 295 = .ok (.iload 10, 2) := by decide +kernel
theorem dX8_gathers_297 : decode cX8_gathers 297 = .ok (.iload_n 1, 1) := by decide +kernel
theorem dX8_gathers_298 : decode cX8_gathers 298 = .ok (.if_icmp .eq 61, 3) := by decide +kernel
theorem dX8_gathers_301 : decode cX8_gathers 301 = .ok (.aload_n 0, 1) := by decide +kernel
theorem dX8_gathers_302 : decode cX8_gathers 302 = .ok (.getfield 59, 3) := by decide +kernel
theorem dX8_gathers_305 : decode cX8_gathers 305 = .ok (.bipush 12, 2) := by decide +kernel
theorem dX8_gathers_307 : decode cX8_gathers 307 = .ok (.iload 10, 2) := by decide +kernel
theorem dX8_gathers_309 : decode cX8_gathers 309 = .ok (.imul, 1) := by decide +kernel
theorem dX8_gathers_310 : decode cX8_gathers 310 = .ok (.aload_n 0, 1) := by decide +kernel
theorem dX8_gathers_311 : decode cX8_gathers 311 = .ok (.getfield 65, 3) := by decide +kernel
theorem dX8_gathers_314 : decode cX8_gathers 314 = .ok (.iload 10, 2) := by decide +kernel
theorem dX8_gathers_316 : decode cX8_gathers 316 = .ok (.iaload, 1) := by decide +kernel
theorem dX8_gathers_317 : decode cX8_gathers 317 = .ok (.iadd, 1) := by decide +kernel
theorem dX8_gathers_318 : decode cX8_gathers 318 = .ok (.dup2, 1) := by decide +kernel
theorem dX8_gathers_319 : decode cX8_gathers 319 = .ok (.laload, 1) := by decide +kernel
theorem dX8_gathers_320 : decode cX8_gathers 320 = .ok (.lload 8, 2) := by decide +kernel
theorem dX8_gathers_322 : decode cX8_gathers 322 = .ok (.lsub, 1) := by decide +kernel
theorem dX8_gathers_323 : decode cX8_gathers 323 = .ok (.lastore, 1) := by decide +kernel
theorem dX8_gathers_324 : decode cX8_gathers 324 = .ok (.aload_n 0, 1) := by decide +kernel
theorem dX8_gathers_325 : decode cX8_gathers 325 = .ok (.getfield 59, 3) := by decide +kernel
theorem dX8_gathers_328 : decode cX8_gathers 328 = .ok (.bipush 12, 2) := by decide +kernel
theorem dX8_gathers_330 : decode cX8_gathers 330 = .ok (.aload_n 0, 1) := by decide +kernel
theorem dX8_gathers_331 : decode cX8_gathers 331 = .ok (.getfield 65, 3) := by decide +kernel
theorem dX8_gathers_334 : decode cX8_gathers 334 = .ok (.iload 10, 2) := by decide +kernel
theorem dX8_gathers_336 : decode cX8_gathers 336 = .ok (.iaload, 1) := by decide +kernel
theorem dX8_gathers_337 : decode cX8_gathers 337 = .ok (.imul, 1) := by decide +kernel
theorem dX8_gathers_338 : decode cX8_gathers 338 = .ok (.iload 10, 2) := by decide +kernel
theorem dX8_gathers_340 : decode cX8_gathers 340 = .ok (.iadd, 1) := by decide +kernel
theorem dX8_gathers_341 : decode cX8_gathers 341 = .ok (.dup2, 1) := by decide +kernel
theorem dX8_gathers_342 : decode cX8_gathers 342 = .ok (.laload, 1) := by decide +kernel
theorem dX8_gathers_343 : decode cX8_gathers 343 = .ok (.lload 8, 2) := by decide +kernel
theorem dX8_gathers_345 : decode cX8_gathers 345 = .ok (.ladd, 1) := by decide +kernel
theorem dX8_gathers_346 : decode cX8_gathers 346 = .ok (.lastore, 1) := by decide +kernel
theorem dX8_gathers_347 : decode cX8_gathers 347 = .ok (.aload_n 0, 1) := by decide +kernel
theorem dX8_gathers_348 : decode cX8_gathers 348 = .ok (.getfield 65, 3) := by decide +kernel
theorem dX8_gathers_351 : decode cX8_gathers 351 = .ok (.iload 10, 2) := by decide +kernel
theorem dX8_gathers_353 : decode cX8_gathers 353 = .ok (.iaload, 1) := by decide +kernel
theorem dX8_gathers_354 : decode cX8_gathers 354 = .ok (.istore 10, 2) := by decide +kernel
theorem dX8_gathers_356 : decode cX8_gathers 356 = .ok (.goto (-61), 3) := by decide +kernel
theorem dX8_gathers_359 : decode cX8_gathers 359 = .ok (.aload_n 0, 1) := by decide +kernel
theorem dX8_gathers_360 : decode cX8_gathers 360 = .ok (.getfield 62, 3) := by decide +kernel
theorem dX8_gathers_363 : decode cX8_gathers 363 = .ok (.iload 7, 2) := by decide +kernel
theorem dX8_gathers_365 : decode cX8_gathers 365 = .ok (.dup2, 1) := by decide +kernel
theorem dX8_gathers_366 : decode cX8_gathers 366 = .ok (.laload, 1) := by decide +kernel
theorem dX8_gathers_367 : decode cX8_gathers 367 = .ok (.lload 8, 2) := by decide +kernel
theorem dX8_gathers_369 : decode cX8_gathers 369 = .ok (.lsub, 1) := by decide +kernel
theorem dX8_gathers_370 : decode cX8_gathers 370 = .ok (.lastore, 1) := by decide +kernel
theorem dX8_gathers_371 : decode cX8_gathers 371 = .ok (.lload_n 3, 1) := by decide +kernel
theorem dX8_gathers_372 : decode cX8_gathers 372 = .ok (.lload 8, 2) := by decide +kernel
theorem dX8_gathers_374 : decode cX8_gathers 374 = .ok (.ladd, 1) := by decide +kernel
theorem dX8_gathers_375 : decode cX8_gathers 375 = .ok (.lstore_n 3, 1) := by decide +kernel
theorem dX8_gathers_376 : decode cX8_gathers 376 = .ok (.goto (-243), 3) := by decide +kernel
theorem dX8_gathers_379 : decode cX8_gathers 379 = .ok (.lload_n 3, 1) := by decide +kernel
theorem dX8_gathers_380 : decode cX8_gathers 380 = .ok (.lreturn, 1) := by decide +kernel
set_option maxRecDepth 20000 in
theorem ggX8_gather_X8_isChief : GoodIn wsX8_gather wsX8_isChief := goodIn_r _ [8, 9, 35, 36, 37, 38, 39, 40, 41, 42, 43, 44, 45, 46, 47, 48, 49, 50, 51, 52, 53, 54, 55, 56, 57, 58, 59, 60, 61, 62, 63, 64, 65] (by decide +kernel) (by decide +kernel)
set_option maxRecDepth 20000 in
theorem gX8_gather_X8_isChief : GoodIn wsX8_gather (wsV RX8 184 RX8 yX8_isChief wsX8_isChief) := goodIn_app (goodIn_of _ (by decide +kernel)) ggX8_gather_X8_isChief
set_option maxRecDepth 20000 in
theorem ggX8_gather_X8_bad : GoodIn wsX8_gather wsX8_bad := goodIn_r _ [13, 1, 35, 36, 37, 38, 39, 40, 41, 42, 43, 44, 45, 46, 47, 48, 49, 50, 51, 52, 53, 54, 55, 56, 57, 58, 59, 60, 61, 62, 63, 64, 65] (by decide +kernel) (by decide +kernel)
set_option maxRecDepth 20000 in
theorem gX8_gather_X8_bad : GoodIn wsX8_gather (wsV RX8 78 RX8 yX8_bad wsX8_bad) := goodIn_app (goodIn_of _ (by decide +kernel)) ggX8_gather_X8_bad
set_option maxRecDepth 20000 in
theorem ggX8_gather_X8_gathers : GoodIn wsX8_gather wsX8_gathers := goodIn_r _ [17, 18, 9, 19, 20, 21, 22, 23, 24, 25, 26, 27, 28, 29, 30, 31, 32, 7, 33, 34, 35, 36, 37, 38, 39, 40, 41, 42, 43, 44, 45, 46, 47, 48, 49, 50, 51, 52, 53, 54, 55, 56, 57, 58, 59, 60, 61, 62, 63, 64, 65] (by decide +kernel) (by decide +kernel)
set_option maxRecDepth 20000 in
theorem gX8_gather_X8_gathers : GoodIn wsX8_gather (wsV RX8 214 RX8 yX8_gathers wsX8_gathers) := goodIn_app (goodIn_of _ (by decide +kernel)) ggX8_gather_X8_gathers
theorem dX8_gather_0 : decode cX8_gather 0 = .ok (.aload_n 0, 1) := by decide +kernel
theorem dX8_gather_1 : decode cX8_gather 1 = .ok (.iconst 0, 1) := by decide +kernel
theorem dX8_gather_2 : decode cX8_gather 2 = .ok (.putfield 74, 3) := by decide +kernel
theorem dX8_gather_5 : decode cX8_gather 5 = .ok (.aload_n 0, 1) := by decide +kernel
theorem dX8_gather_6 : decode cX8_gather 6 = .ok (.aload_n 0, 1) := by decide +kernel
theorem dX8_gather_7 : decode cX8_gather 7 = .ok (.iload_n 1, 1) := by decide +kernel
theorem dX8_gather_8 : decode cX8_gather 8 = .ok (.invokevirtual 184, 3) := by decide +kernel
theorem dX8_gather_11 : decode cX8_gather 11 = .ok (.ifCond .ne 7, 3) := by decide +kernel
theorem dX8_gather_14 : decode cX8_gather 14 = .ok (.iconst 1, 1) := by decide +kernel
theorem dX8_gather_15 : decode cX8_gather 15 = .ok (.goto 4, 3) := by decide +kernel
theorem dX8_gather_18 : decode cX8_gather 18 = .ok (.iconst 0, 1) := by decide +kernel
theorem dX8_gather_19 : decode cX8_gather 19 = .ok (.iconst 1, 1) := by decide +kernel
theorem dX8_gather_20 : decode cX8_gather 20 = .ok (.invokevirtual 78, 3) := by decide +kernel
theorem dX8_gather_23 : decode cX8_gather 23 = .ok (.ifCond .eq 5, 3) := by decide +kernel
theorem dX8_gather_26 : decode cX8_gather 26 = .ok (.lconst 0, 1) := by decide +kernel
theorem dX8_gather_27 : decode cX8_gather 27 = .ok (.lreturn, 1) := by decide +kernel
theorem dX8_gather_28 : decode cX8_gather 28 = .ok (.aload_n 0, 1) := by decide +kernel
theorem dX8_gather_29 : decode cX8_gather 29 = .ok (.getfield 17, 3) := by decide +kernel
theorem dX8_gather_32 : decode cX8_gather 32 = .ok (.iload_n 1, 1) := by decide +kernel
theorem dX8_gather_33 : decode cX8_gather 33 = .ok (.baload, 1) := by decide +kernel
theorem dX8_gather_34 : decode cX8_gather 34 = .ok (.ifCond .eq 9, 3) := by decide +kernel
theorem dX8_gather_37 : decode cX8_gather 37 = .ok (.ldc2_w 212, 3) := by decide +kernel
theorem dX8_gather_40 : decode cX8_gather 40 = .ok (.goto 9, 3) := by decide +kernel
theorem dX8_gather_43 : decode cX8_gather 43 = .ok (.aload_n 0, 1) := by decide +kernel
theorem dX8_gather_44 : decode cX8_gather 44 = .ok (.iload_n 1, 1) := by decide +kernel
theorem dX8_gather_45 : decode cX8_gather 45 = .ok (.iload_n 2, 1) := by decide +kernel
theorem dX8_gather_46 : decode cX8_gather 46 = .ok (.invokevirtual 214, 3) := by decide +kernel
theorem dX8_gather_49 : decode cX8_gather 49 = .ok (.lreturn, 1) := by decide +kernel
set_option maxRecDepth 20000 in
theorem ggX8_hold_X8_isChief : GoodIn wsX8_hold wsX8_isChief := goodIn_r _ [9, 3, 34, 35, 36, 37, 38, 39, 40, 41, 42, 43, 44, 45, 46, 47, 48, 49, 50, 51, 52, 53, 54, 55, 56, 57, 58, 59, 60, 61, 62, 63, 64] (by decide +kernel) (by decide +kernel)
set_option maxRecDepth 20000 in
theorem gX8_hold_X8_isChief : GoodIn wsX8_hold (wsV RX8 184 RX8 yX8_isChief wsX8_isChief) := goodIn_app (goodIn_of _ (by decide +kernel)) ggX8_hold_X8_isChief
set_option maxRecDepth 20000 in
theorem ggX8_hold_X8_bad : GoodIn wsX8_hold wsX8_bad := goodIn_r _ [13, 1, 34, 35, 36, 37, 38, 39, 40, 41, 42, 43, 44, 45, 46, 47, 48, 49, 50, 51, 52, 53, 54, 55, 56, 57, 58, 59, 60, 61, 62, 63, 64] (by decide +kernel) (by decide +kernel)
set_option maxRecDepth 20000 in
theorem gX8_hold_X8_bad : GoodIn wsX8_hold (wsV RX8 78 RX8 yX8_bad wsX8_bad) := goodIn_app (goodIn_of _ (by decide +kernel)) ggX8_hold_X8_bad
set_option maxRecDepth 20000 in
theorem ggX8_hold_X8_gathers : GoodIn wsX8_hold wsX8_gathers := goodIn_r _ [17, 18, 3, 19, 20, 21, 22, 23, 24, 25, 26, 27, 28, 29, 30, 31, 32, 8, 33, 4, 34, 35, 36, 37, 38, 39, 40, 41, 42, 43, 44, 45, 46, 47, 48, 49, 50, 51, 52, 53, 54, 55, 56, 57, 58, 59, 60, 61, 62, 63, 64] (by decide +kernel) (by decide +kernel)
set_option maxRecDepth 20000 in
theorem gX8_hold_X8_gathers : GoodIn wsX8_hold (wsV RX8 214 RX8 yX8_gathers wsX8_gathers) := goodIn_app (goodIn_of _ (by decide +kernel)) ggX8_hold_X8_gathers
theorem dX8_hold_0 : decode cX8_hold 0 = .ok (.aload_n 0, 1) := by decide +kernel
theorem dX8_hold_1 : decode cX8_hold 1 = .ok (.iconst 0, 1) := by decide +kernel
theorem dX8_hold_2 : decode cX8_hold 2 = .ok (.putfield 74, 3) := by decide +kernel
theorem dX8_hold_5 : decode cX8_hold 5 = .ok (.aload_n 0, 1) := by decide +kernel
theorem dX8_hold_6 : decode cX8_hold 6 = .ok (.aload_n 0, 1) := by decide +kernel
theorem dX8_hold_7 : decode cX8_hold 7 = .ok (.iload_n 1, 1) := by decide +kernel
theorem dX8_hold_8 : decode cX8_hold 8 = .ok (.invokevirtual 184, 3) := by decide +kernel
theorem dX8_hold_11 : decode cX8_hold 11 = .ok (.ifCond .ne 7, 3) := by decide +kernel
theorem dX8_hold_14 : decode cX8_hold 14 = .ok (.iconst 1, 1) := by decide +kernel
theorem dX8_hold_15 : decode cX8_hold 15 = .ok (.goto 4, 3) := by decide +kernel
theorem dX8_hold_18 : decode cX8_hold 18 = .ok (.iconst 0, 1) := by decide +kernel
theorem dX8_hold_19 : decode cX8_hold 19 = .ok (.iconst 1, 1) := by decide +kernel
theorem dX8_hold_20 : decode cX8_hold 20 = .ok (.invokevirtual 78, 3) := by decide +kernel
theorem dX8_hold_23 : decode cX8_hold 23 = .ok (.ifCond .eq 5, 3) := by decide +kernel
theorem dX8_hold_26 : decode cX8_hold 26 = .ok (.iconst 0, 1) := by decide +kernel
theorem dX8_hold_27 : decode cX8_hold 27 = .ok (.ireturn, 1) := by decide +kernel
theorem dX8_hold_28 : decode cX8_hold 28 = .ok (.aload_n 0, 1) := by decide +kernel
theorem dX8_hold_29 : decode cX8_hold 29 = .ok (.getfield 17, 3) := by decide +kernel
theorem dX8_hold_32 : decode cX8_hold 32 = .ok (.iload_n 1, 1) := by decide +kernel
theorem dX8_hold_33 : decode cX8_hold 33 = .ok (.baload, 1) := by decide +kernel
theorem dX8_hold_34 : decode cX8_hold 34 = .ok (.ifCond .eq 5, 3) := by decide +kernel
theorem dX8_hold_37 : decode cX8_hold 37 = .ok (.iconst (-1), 1) := by decide +kernel
theorem dX8_hold_38 : decode cX8_hold 38 = .ok (.ireturn, 1) := by decide +kernel
theorem dX8_hold_39 : decode cX8_hold 39 = .ok (.aload_n 0, 1) := by decide +kernel
theorem dX8_hold_40 : decode cX8_hold 40 = .ok (.iload_n 1, 1) := by decide +kernel
theorem dX8_hold_41 : decode cX8_hold 41 = .ok (.iload_n 2, 1) := by decide +kernel
theorem dX8_hold_42 : decode cX8_hold 42 = .ok (.invokevirtual 214, 3) := by decide +kernel
theorem dX8_hold_45 : decode cX8_hold 45 = .ok (.lstore_n 3, 1) := by decide +kernel
theorem dX8_hold_46 : decode cX8_hold 46 = .ok (.iconst 0, 1) := by decide +kernel
theorem dX8_hold_47 : decode cX8_hold 47 = .ok (.istore 5, 2) := by decide +kernel
theorem dX8_hold_49 : decode cX8_hold 49 = .ok (.iconst 0, 1) := by decide +kernel
theorem dX8_hold_50 : decode cX8_hold 50 = .ok (.istore 6, 2) := by decide +kernel
theorem dX8_hold_52 : decode cX8_hold 52 = .ok (.iload 6, 2) := by decide +kernel
theorem dX8_hold_54 : decode cX8_hold 54 = .ok (.aload_n 0, 1) := by decide +kernel
theorem dX8_hold_55 : decode cX8_hold 55 = .ok (.getfield 82, 3) := by decide +kernel
theorem dX8_hold_58 : decode cX8_hold 58 = .ok (.if_icmp .ge 38, 3) := by decide +kernel
theorem dX8_hold_61 : decode cX8_hold 61 = .ok (.iload 5, 2) := by decide +kernel
theorem dX8_hold_63 : decode cX8_hold 63 = .ok (.aload_n 0, 1) := by decide +kernel
theorem dX8_hold_64 : decode cX8_hold 64 = .ok (.getfield 68, 3) := by decide +kernel
theorem dX8_hold_67 : decode cX8_hold 67 = .ok (.iload 6, 2) := by decide +kernel
theorem dX8_hold_69 : decode cX8_hold 69 = .ok (.baload, 1) := by decide +kernel
theorem dX8_hold_70 : decode cX8_hold 70 = .ok (.ifCond .eq 16, 3) := by decide +kernel
theorem dX8_hold_73 : decode cX8_hold 73 = .ok (.lload_n 3, 1) := by decide +kernel
theorem dX8_hold_74 : decode cX8_hold 74 = .ok (.lconst 0, 1) := by decide +kernel
theorem dX8_hold_75 : decode cX8_hold 75 = .ok (.lcmp, 1) := by decide +kernel
theorem dX8_hold_76 : decode cX8_hold 76 = .ok (.ifCond .lt 10, 3) := by decide +kernel
theorem dX8_hold_79 : decode cX8_hold 79 = .ok (.iconst 1, 1) := by decide +kernel
theorem dX8_hold_80 : decode cX8_hold 80 = .ok (.iload 6, 2) := by decide +kernel
theorem dX8_hold_82 : decode cX8_hold 82 = .ok (.ishl, 1) := by decide +kernel
theorem dX8_hold_83 : decode cX8_hold 83 = .ok (.goto 4, 3) := by decide +kernel
theorem dX8_hold_86 : decode cX8_hold 86 = .ok (.iconst 0, 1) := by decide +kernel
theorem dX8_hold_87 : decode cX8_hold 87 = .ok (.ior, 1) := by decide +kernel
theorem dX8_hold_88 : decode cX8_hold 88 = .ok (.istore 5, 2) := by decide +kernel
theorem dX8_hold_90 : decode cX8_hold 90 = .ok (.iinc 6 1, 3) := by decide +kernel
theorem dX8_hold_93 : decode cX8_hold 93 = .ok (.goto (-41), 3) := by decide +kernel
theorem dX8_hold_96 : decode cX8_hold 96 = .ok (.iload 5, 2) := by decide +kernel
theorem dX8_hold_98 : decode cX8_hold 98 = .ok (.ireturn, 1) := by decide +kernel
theorem dX8_count_0 : decode cX8_count 0 = .ok (.aload_n 0, 1) := by decide +kernel
theorem dX8_count_1 : decode cX8_count 1 = .ok (.iconst 0, 1) := by decide +kernel
theorem dX8_count_2 : decode cX8_count 2 = .ok (.putfield 74, 3) := by decide +kernel
theorem dX8_count_5 : decode cX8_count 5 = .ok (.iload_n 1, 1) := by decide +kernel
theorem dX8_count_6 : decode cX8_count 6 = .ok (.tableswitch 111 0 6 #[42, 47, 52, 57, 96, 101, 106], 42) := by decide +kernel
theorem dX8_count_48 : decode cX8_count 48 = .ok (.aload_n 0, 1) := by decide +kernel
theorem dX8_count_49 : decode cX8_count 49 = .ok (.getfield 82, 3) := by decide +kernel
theorem dX8_count_52 : decode cX8_count 52 = .ok (.ireturn, 1) := by decide +kernel
theorem dX8_count_53 : decode cX8_count 53 = .ok (.aload_n 0, 1) := by decide +kernel
theorem dX8_count_54 : decode cX8_count 54 = .ok (.getfield 148, 3) := by decide +kernel
theorem dX8_count_57 : decode cX8_count 57 = .ok (.ireturn, 1) := by decide +kernel
theorem dX8_count_58 : decode cX8_count 58 = .ok (.aload_n 0, 1) := by decide +kernel
theorem dX8_count_59 : decode cX8_count 59 = .ok (.getfield 160, 3) := by decide +kernel
theorem dX8_count_62 : decode cX8_count 62 = .ok (.ireturn, 1) := by decide +kernel
theorem dX8_count_63 : decode cX8_count 63 = .ok (.iconst 0, 1) := by decide +kernel
theorem dX8_count_64 : decode cX8_count 64 = .ok (.istore_n 2, 1) := by decide +kernel
theorem dX8_count_65 : decode cX8_count 65 = .ok (.iconst 0, 1) := by decide +kernel
theorem dX8_count_66 : decode cX8_count 66 = .ok (.istore_n 3, 1) := by decide +kernel
theorem dX8_count_67 : decode cX8_count 67 = .ok (.iload_n 3, 1) := by decide +kernel
theorem dX8_count_68 : decode cX8_count 68 = .ok (.aload_n 0, 1) := by decide +kernel
theorem dX8_count_69 : decode cX8_count 69 = .ok (.getfield 160, 3) := by decide +kernel
theorem dX8_count_72 : decode cX8_count 72 = .ok (.if_icmp .ge 28, 3) := by decide +kernel
theorem dX8_count_75 : decode cX8_count 75 = .ok (.iload_n 2, 1) := by decide +kernel
theorem dX8_count_76 : decode cX8_count 76 = .ok (.aload_n 0, 1) := by decide +kernel
theorem dX8_count_77 : decode cX8_count 77 = .ok (.getfield 41, 3) := by decide +kernel
theorem dX8_count_80 : decode cX8_count 80 = .ok (.iload_n 3, 1) := by decide +kernel
theorem dX8_count_81 : decode cX8_count 81 = .ok (.laload, 1) := by decide +kernel
theorem dX8_count_82 : decode cX8_count 82 = .ok (.lconst 0, 1) := by decide +kernel
theorem dX8_count_83 : decode cX8_count 83 = .ok (.lcmp, 1) := by decide +kernel
theorem dX8_count_84 : decode cX8_count 84 = .ok (.ifCond .le 7, 3) := by decide +kernel
theorem dX8_count_87 : decode cX8_count 87 = .ok (.iconst 1, 1) := by decide +kernel
theorem dX8_count_88 : decode cX8_count 88 = .ok (.goto 4, 3) := by decide +kernel
theorem dX8_count_91 : decode cX8_count 91 = .ok (.iconst 0, 1) := by decide +kernel
theorem dX8_count_92 : decode cX8_count 92 = .ok (.iadd, 1) := by decide +kernel
theorem dX8_count_93 : decode cX8_count 93 = .ok (.istore_n 2, 1) := by decide +kernel
theorem dX8_count_94 : decode cX8_count 94 = .ok (.iinc 3 1, 3) := by decide +kernel
theorem dX8_count_97 : decode cX8_count 97 = .ok (.goto (-30), 3) := by decide +kernel
theorem dX8_count_100 : decode cX8_count 100 = .ok (.iload_n 2, 1) := by decide +kernel
theorem dX8_count_101 : decode cX8_count 101 = .ok (.ireturn, 1) := by decide +kernel
theorem dX8_count_102 : decode cX8_count 102 = .ok (.aload_n 0, 1) := by decide +kernel
theorem dX8_count_103 : decode cX8_count 103 = .ok (.getfield 195, 3) := by decide +kernel
theorem dX8_count_106 : decode cX8_count 106 = .ok (.ireturn, 1) := by decide +kernel
theorem dX8_count_107 : decode cX8_count 107 = .ok (.aload_n 0, 1) := by decide +kernel
theorem dX8_count_108 : decode cX8_count 108 = .ok (.getfield 157, 3) := by decide +kernel
theorem dX8_count_111 : decode cX8_count 111 = .ok (.ireturn, 1) := by decide +kernel
theorem dX8_count_112 : decode cX8_count 112 = .ok (.aload_n 0, 1) := by decide +kernel
theorem dX8_count_113 : decode cX8_count 113 = .ok (.getfield 85, 3) := by decide +kernel
theorem dX8_count_116 : decode cX8_count 116 = .ok (.ireturn, 1) := by decide +kernel
theorem dX8_count_117 : decode cX8_count 117 = .ok (.iconst (-1), 1) := by decide +kernel
theorem dX8_count_118 : decode cX8_count 118 = .ok (.ireturn, 1) := by decide +kernel
theorem dJ6_bitCount_0f7a4_0 : decode cJ6_bitCount_0f7a4 0 = .ok (.iload_n 0, 1) := by decide +kernel
theorem dJ6_bitCount_0f7a4_1 : decode cJ6_bitCount_0f7a4 1 = .ok (.iload_n 0, 1) := by decide +kernel
theorem dJ6_bitCount_0f7a4_2 : decode cJ6_bitCount_0f7a4 2 = .ok (.iconst 1, 1) := by decide +kernel
theorem dJ6_bitCount_0f7a4_3 : decode cJ6_bitCount_0f7a4 3 = .ok (.iushr, 1) := by decide +kernel
theorem dJ6_bitCount_0f7a4_4 : decode cJ6_bitCount_0f7a4 4 = .ok (.ldc_w 265, 3) := by decide +kernel
theorem dJ6_bitCount_0f7a4_7 : decode cJ6_bitCount_0f7a4 7 = .ok (.iand, 1) := by decide +kernel
theorem dJ6_bitCount_0f7a4_8 : decode cJ6_bitCount_0f7a4 8 = .ok (.isub, 1) := by decide +kernel
theorem dJ6_bitCount_0f7a4_9 : decode cJ6_bitCount_0f7a4 9 = .ok (.istore_n 0, 1) := by decide +kernel
theorem dJ6_bitCount_0f7a4_10 : decode cJ6_bitCount_0f7a4 10 = .ok (.iload_n 0, 1) := by decide +kernel
theorem dJ6_bitCount_0f7a4_11 : decode cJ6_bitCount_0f7a4 11 = .ok (.ldc_w 266, 3) := by decide +kernel
theorem dJ6_bitCount_0f7a4_14 : decode cJ6_bitCount_0f7a4 14 = .ok (.iand, 1) := by decide +kernel
theorem dJ6_bitCount_0f7a4_15 : decode cJ6_bitCount_0f7a4 15 = .ok (.iload_n 0, 1) := by decide +kernel
theorem dJ6_bitCount_0f7a4_16 : decode cJ6_bitCount_0f7a4 16 = .ok (.iconst 2, 1) := by decide +kernel
theorem dJ6_bitCount_0f7a4_17 : decode cJ6_bitCount_0f7a4 17 = .ok (.iushr, 1) := by decide +kernel
theorem dJ6_bitCount_0f7a4_18 : decode cJ6_bitCount_0f7a4 18 = .ok (.ldc_w 266, 3) := by decide +kernel
theorem dJ6_bitCount_0f7a4_21 : decode cJ6_bitCount_0f7a4 21 = .ok (.iand, 1) := by decide +kernel
theorem dJ6_bitCount_0f7a4_22 : decode cJ6_bitCount_0f7a4 22 = .ok (.iadd, 1) := by decide +kernel
theorem dJ6_bitCount_0f7a4_23 : decode cJ6_bitCount_0f7a4 23 = .ok (.istore_n 0, 1) := by decide +kernel
theorem dJ6_bitCount_0f7a4_24 : decode cJ6_bitCount_0f7a4 24 = .ok (.iload_n 0, 1) := by decide +kernel
theorem dJ6_bitCount_0f7a4_25 : decode cJ6_bitCount_0f7a4 25 = .ok (.iload_n 0, 1) := by decide +kernel
theorem dJ6_bitCount_0f7a4_26 : decode cJ6_bitCount_0f7a4 26 = .ok (.iconst 4, 1) := by decide +kernel
theorem dJ6_bitCount_0f7a4_27 : decode cJ6_bitCount_0f7a4 27 = .ok (.iushr, 1) := by decide +kernel
theorem dJ6_bitCount_0f7a4_28 : decode cJ6_bitCount_0f7a4 28 = .ok (.iadd, 1) := by decide +kernel
theorem dJ6_bitCount_0f7a4_29 : decode cJ6_bitCount_0f7a4 29 = .ok (.ldc_w 267, 3) := by decide +kernel
theorem dJ6_bitCount_0f7a4_32 : decode cJ6_bitCount_0f7a4 32 = .ok (.iand, 1) := by decide +kernel
theorem dJ6_bitCount_0f7a4_33 : decode cJ6_bitCount_0f7a4 33 = .ok (.istore_n 0, 1) := by decide +kernel
theorem dJ6_bitCount_0f7a4_34 : decode cJ6_bitCount_0f7a4 34 = .ok (.iload_n 0, 1) := by decide +kernel
theorem dJ6_bitCount_0f7a4_35 : decode cJ6_bitCount_0f7a4 35 = .ok (.iload_n 0, 1) := by decide +kernel
theorem dJ6_bitCount_0f7a4_36 : decode cJ6_bitCount_0f7a4 36 = .ok (.bipush 8, 2) := by decide +kernel
theorem dJ6_bitCount_0f7a4_38 : decode cJ6_bitCount_0f7a4 38 = .ok (.iushr, 1) := by decide +kernel
theorem dJ6_bitCount_0f7a4_39 : decode cJ6_bitCount_0f7a4 39 = .ok (.iadd, 1) := by decide +kernel
theorem dJ6_bitCount_0f7a4_40 : decode cJ6_bitCount_0f7a4 40 = .ok (.istore_n 0, 1) := by decide +kernel
theorem dJ6_bitCount_0f7a4_41 : decode cJ6_bitCount_0f7a4 41 = .ok (.iload_n 0, 1) := by decide +kernel
theorem dJ6_bitCount_0f7a4_42 : decode cJ6_bitCount_0f7a4 42 = .ok (.iload_n 0, 1) := by decide +kernel
