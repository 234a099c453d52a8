set_option maxRecDepth 20000 in
theorem gX11_maximumAmbiguity_X11_isNewRow : GoodIn wsX11_maximumAmbiguity (wsV RX11 305 RX11 yX11_isNewRow wsX11_isNewRow) := goodIn_app (goodIn_of _ (by decide +kernel)) ggX11_maximumAmbiguity_X11_isNewRow
theorem dX11_maximumAmbiguity_0 : decode cX11_maximumAmbiguity 0 = .ok (.aload_n 0, 1) := by decide +kernel
theorem dX11_maximumAmbiguity_1 : decode cX11_maximumAmbiguity 1 = .ok (.invokevirtual 297, 3) := by decide +kernel
theorem dX11_maximumAmbiguity_4 : decode cX11_maximumAmbiguity 4 = .ok (.iconst 1, 1) := by decide +kernel
theorem dX11_maximumAmbiguity_5 : decode cX11_maximumAmbiguity 5 = .ok (.if_icmp .le 7, 3) := by decide +kernel
theorem dX11_maximumAmbiguity_8 : decode cX11_maximumAmbiguity 8 = .ok (.ldc2_w 300, 3) := by decide +kernel
theorem dX11_maximumAmbiguity_11 : decode cX11_maximumAmbiguity 11 = .ok (.lreturn, 1) := by decide +kernel
theorem dX11_maximumAmbiguity_12 : decode cX11_maximumAmbiguity 12 = .ok (.aload_n 0, 1) := by decide +kernel
theorem dX11_maximumAmbiguity_13 : decode cX11_maximumAmbiguity 13 = .ok (.invokevirtual 151, 3) := by decide +kernel
theorem dX11_maximumAmbiguity_16 : decode cX11_maximumAmbiguity 16 = .ok (.istore_n 1, 1) := by decide +kernel
theorem dX11_maximumAmbiguity_17 : decode cX11_maximumAmbiguity 17 = .ok (.iconst 0, 1) := by decide +kernel
theorem dX11_maximumAmbiguity_18 : decode cX11_maximumAmbiguity 18 = .ok (.istore_n 2, 1) := by decide +kernel
theorem dX11_maximumAmbiguity_19 : decode cX11_maximumAmbiguity 19 = .ok (.iload_n 2, 1) := by decide +kernel
theorem dX11_maximumAmbiguity_20 : decode cX11_maximumAmbiguity 20 = .ok (.bipush 6, 2) := by decide +kernel
theorem dX11_maximumAmbiguity_22 : decode cX11_maximumAmbiguity 22 = .ok (.if_icmp .ge 34, 3) := by decide +kernel
theorem dX11_maximumAmbiguity_25 : decode cX11_maximumAmbiguity 25 = .ok (.aload_n 0, 1) := by decide +kernel
theorem dX11_maximumAmbiguity_26 : decode cX11_maximumAmbiguity 26 = .ok (.getfield 70, 3) := by decide +kernel
theorem dX11_maximumAmbiguity_29 : decode cX11_maximumAmbiguity 29 = .ok (.iload_n 2, 1) := by decide +kernel
theorem dX11_maximumAmbiguity_30 : decode cX11_maximumAmbiguity 30 = .ok (.iload_n 1, 1) := by decide +kernel
theorem dX11_maximumAmbiguity_31 : decode cX11_maximumAmbiguity 31 = .ok (.aload_n 0, 1) := by decide +kernel
theorem dX11_maximumAmbiguity_32 : decode cX11_maximumAmbiguity 32 = .ok (.getfield 112, 3) := by decide +kernel
theorem dX11_maximumAmbiguity_35 : decode cX11_maximumAmbiguity 35 = .ok (.iand, 1) := by decide +kernel
theorem dX11_maximumAmbiguity_36 : decode cX11_maximumAmbiguity 36 = .ok (.i2l, 1) := by decide +kernel
theorem dX11_maximumAmbiguity_37 : decode cX11_maximumAmbiguity 37 = .ok (.iload_n 2, 1) := by decide +kernel
theorem dX11_maximumAmbiguity_38 : decode cX11_maximumAmbiguity 38 = .ok (.invokestatic 139, 3) := by decide +kernel
theorem dX11_maximumAmbiguity_41 : decode cX11_maximumAmbiguity 41 = .ok (.ifCond .eq 7, 3) := by decide +kernel
theorem dX11_maximumAmbiguity_44 : decode cX11_maximumAmbiguity 44 = .ok (.lconst 1, 1) := by decide +kernel
theorem dX11_maximumAmbiguity_45 : decode cX11_maximumAmbiguity 45 = .ok (.goto 4, 3) := by decide +kernel
theorem dX11_maximumAmbiguity_48 : decode cX11_maximumAmbiguity 48 = .ok (.lconst 0, 1) := by decide +kernel
theorem dX11_maximumAmbiguity_49 : decode cX11_maximumAmbiguity 49 = .ok (.lastore, 1) := by decide +kernel
theorem dX11_maximumAmbiguity_50 : decode cX11_maximumAmbiguity 50 = .ok (.iinc 2 1, 3) := by decide +kernel
theorem dX11_maximumAmbiguity_53 : decode cX11_maximumAmbiguity 53 = .ok (.goto (-34), 3) := by decide +kernel
theorem dX11_maximumAmbiguity_56 : decode cX11_maximumAmbiguity 56 = .ok (.aload_n 0, 1) := by decide +kernel
theorem dX11_maximumAmbiguity_57 : decode cX11_maximumAmbiguity 57 = .ok (.iconst 0, 1) := by decide +kernel
theorem dX11_maximumAmbiguity_58 : decode cX11_maximumAmbiguity 58 = .ok (.invokevirtual 302, 3) := by decide +kernel
theorem dX11_maximumAmbiguity_61 : decode cX11_maximumAmbiguity 61 = .ok (.iconst 1, 1) := by decide +kernel
theorem dX11_maximumAmbiguity_62 : decode cX11_maximumAmbiguity 62 = .ok (.istore_n 2, 1) := by decide +kernel
theorem dX11_maximumAmbiguity_63 : decode cX11_maximumAmbiguity 63 = .ok (.lconst 0, 1) := by decide +kernel
theorem dX11_maximumAmbiguity_64 : decode cX11_maximumAmbiguity 64 = .ok (.lstore_n 3, 1) := by decide +kernel
theorem dX11_maximumAmbiguity_65 : decode cX11_maximumAmbiguity 65 = .ok (.iconst 0, 1) := by decide +kernel
theorem dX11_maximumAmbiguity_66 : decode cX11_maximumAmbiguity 66 = .ok (.istore 5, 2) := by decide +kernel
theorem dX11_maximumAmbiguity_68 : decode cX11_maximumAmbiguity 68 = .ok (.iload 5, 2) := by decide +kernel
theorem dX11_maximumAmbiguity_70 : decode cX11_maximumAmbiguity 70 = .ok (.iload_n 2, 1) := by decide +kernel
theorem dX11_maximumAmbiguity_71 : decode cX11_maximumAmbiguity 71 = .ok (.if_icmp .ge 223, 3) := by decide +kernel
theorem dX11_maximumAmbiguity_74 : decode cX11_maximumAmbiguity 74 = .ok (.lconst 0, 1) := by decide +kernel
theorem dX11_maximumAmbiguity_75 : decode cX11_maximumAmbiguity 75 = .ok (.lstore 6, 2) := by decide +kernel
theorem dX11_maximumAmbiguity_77 : decode cX11_maximumAmbiguity 77 = .ok (.iconst 0, 1) := by decide +kernel
theorem dX11_maximumAmbiguity_78 : decode cX11_maximumAmbiguity 78 = .ok (.istore 8, 2) := by decide +kernel
theorem dX11_maximumAmbiguity_80 : decode cX11_maximumAmbiguity 80 = .ok (.iload 8, 2) := by decide +kernel
theorem dX11_maximumAmbiguity_82 : decode cX11_maximumAmbiguity 82 = .ok (.bipush 6, 2) := by decide +kernel
theorem dX11_maximumAmbiguity_84 : decode cX11_maximumAmbiguity 84 = .ok (.if_icmp .ge 44, 3) := by decide +kernel
theorem dX11_maximumAmbiguity_87 : decode cX11_maximumAmbiguity 87 = .ok (.lload 6, 2) := by decide +kernel
theorem dX11_maximumAmbiguity_89 : decode cX11_maximumAmbiguity 89 = .ok (.aload_n 0, 1) := by decide +kernel
theorem dX11_maximumAmbiguity_90 : decode cX11_maximumAmbiguity 90 = .ok (.getfield 115, 3) := by decide +kernel
theorem dX11_maximumAmbiguity_93 : decode cX11_maximumAmbiguity 93 = .ok (.i2l, 1) := by decide +kernel
theorem dX11_maximumAmbiguity_94 : decode cX11_maximumAmbiguity 94 = .ok (.iload 8, 2) := by decide +kernel
theorem dX11_maximumAmbiguity_96 : decode cX11_maximumAmbiguity 96 = .ok (.invokestatic 139, 3) := by decide +kernel
theorem dX11_maximumAmbiguity_99 : decode cX11_maximumAmbiguity 99 = .ok (.ifCond .eq 19, 3) := by decide +kernel
theorem dX11_maximumAmbiguity_102 : decode cX11_maximumAmbiguity 102 = .ok (.aload_n 0, 1) := by decide +kernel
theorem dX11_maximumAmbiguity_103 : decode cX11_maximumAmbiguity 103 = .ok (.getfield 67, 3) := by decide +kernel
theorem dX11_maximumAmbiguity_106 : decode cX11_maximumAmbiguity 106 = .ok (.bipush 6, 2) := by decide +kernel
theorem dX11_maximumAmbiguity_108 : decode cX11_maximumAmbiguity 108 = .ok (.iload 5, 2) := by decide +kernel
theorem dX11_maximumAmbiguity_110 : decode cX11_maximumAmbiguity 110 = .ok (.imul, 1) := by decide +kernel
theorem dX11_maximumAmbiguity_111 : decode cX11_maximumAmbiguity 111 = .ok (.iload 8, 2) := by decide +kernel
theorem dX11_maximumAmbiguity_113 : decode cX11_maximumAmbiguity 113 = .ok (.iadd, 1) := by decide +kernel
theorem dX11_maximumAmbiguity_114 : decode cX11_maximumAmbiguity 114 = .ok (.laload, 1) := by decide +kernel
theorem dX11_maximumAmbiguity_115 : decode cX11_maximumAmbiguity 115 = .ok (.goto 4, 3) := by decide +kernel
theorem dX11_maximumAmbiguity_118 : decode cX11_maximumAmbiguity 118 = .ok (.lconst 0, 1) := by decide +kernel
theorem dX11_maximumAmbiguity_119 : decode cX11_maximumAmbiguity 119 = .ok (.ladd, 1) := by decide +kernel
theorem dX11_maximumAmbiguity_120 : decode cX11_maximumAmbiguity 120 = .ok (.lstore 6, 2) := by decide +kernel
theorem dX11_maximumAmbiguity_122 : decode cX11_maximumAmbiguity 122 = .ok (.iinc 8 1, 3) := by decide +kernel
theorem dX11_maximumAmbiguity_125 : decode cX11_maximumAmbiguity 125 = .ok (.goto (-45), 3) := by decide +kernel
theorem dX11_maximumAmbiguity_128 : decode cX11_maximumAmbiguity 128 = .ok (.lload 6, 2) := by decide +kernel
theorem dX11_maximumAmbiguity_130 : decode cX11_maximumAmbiguity 130 = .ok (.lload_n 3, 1) := by decide +kernel
theorem dX11_maximumAmbiguity_131 : decode cX11_maximumAmbiguity 131 = .ok (.lcmp, 1) := by decide +kernel
theorem dX11_maximumAmbiguity_132 : decode cX11_maximumAmbiguity 132 = .ok (.ifCond .le 8, 3) := by decide +kernel
theorem dX11_maximumAmbiguity_135 : decode cX11_maximumAmbiguity 135 = .ok (.lload 6, 2) := by decide +kernel
theorem dX11_maximumAmbiguity_137 : decode cX11_maximumAmbiguity 137 = .ok (.goto 4, 3) := by decide +kernel
theorem dX11_maximumAmbiguity_140 : decode cX11_maximumAmbiguity 140 = .ok (.lload_n 3, 1) := by decide +kernel
theorem dX11_maximumAmbiguity_141 : decode cX11_maximumAmbiguity 141 = .ok (.lstore_n 3, 1) := by decide +kernel
theorem dX11_maximumAmbiguity_142 : decode cX11_maximumAmbiguity 142 = .ok (.iconst 0, 1) := by decide +kernel
theorem dX11_maximumAmbiguity_143 : decode cX11_maximumAmbiguity 143 = .ok (.istore 8, 2) := by decide +kernel
theorem dX11_maximumAmbiguity_145 : decode cX11_maximumAmbiguity 145 = .ok (.iload 8, 2) := by decide +kernel
theorem dX11_maximumAmbiguity_147 : decode cX11_maximumAmbiguity 147 = .ok (.iconst 3, 1) := by decide +kernel
theorem dX11_maximumAmbiguity_148 : decode cX11_maximumAmbiguity 148 = .ok (.if_icmp .ge 140, 3) := by decide +kernel
theorem dX11_maximumAmbiguity_151 : decode cX11_maximumAmbiguity 151 = .ok (.iconst 0, 1) := by decide +kernel
theorem dX11_maximumAmbiguity_152 : decode cX11_maximumAmbiguity 152 = .ok (.istore 9, 2) := by decide +kernel
theorem dX11_maximumAmbiguity_154 : decode cX11_maximumAmbiguity 154 = .ok (.iload 9, 2) := by decide +kernel
theorem dX11_maximumAmbiguity_156 : decode cX11_maximumAmbiguity 156 = .ok (.bipush 6, 2) := by decide +kernel
theorem dX11_maximumAmbiguity_158 : decode cX11_maximumAmbiguity 158 = .ok (.if_icmp .ge 94, 3) := by decide +kernel
theorem dX11_maximumAmbiguity_161 : decode cX11_maximumAmbiguity 161 = .ok (.aload_n 0, 1) := by decide +kernel
theorem dX11_maximumAmbiguity_162 : decode cX11_maximumAmbiguity 162 = .ok (.getfield 70, 3) := by decide +kernel
theorem dX11_maximumAmbiguity_165 : decode cX11_maximumAmbiguity 165 = .ok (.iload 9, 2) := by decide +kernel
theorem dX11_maximumAmbiguity_167 : decode cX11_maximumAmbiguity 167 = .ok (.lconst 0, 1) := by decide +kernel
theorem dX11_maximumAmbiguity_168 : decode cX11_maximumAmbiguity 168 = .ok (.lastore, 1) := by decide +kernel
theorem dX11_maximumAmbiguity_169 : decode cX11_maximumAmbiguity 169 = .ok (.iconst 0, 1) := by decide +kernel
theorem dX11_maximumAmbiguity_170 : decode cX11_maximumAmbiguity 170 = .ok (.istore 10, 2) := by decide +kernel
theorem dX11_maximumAmbiguity_172 : decode cX11_maximumAmbiguity 172 = .ok (.iload 10, 2) := by decide +kernel
theorem dX11_maximumAmbiguity_174 : decode cX11_maximumAmbiguity 174 = .ok (.aload_n 0, 1) := by decide +kernel
theorem dX11_maximumAmbiguity_175 : decode cX11_maximumAmbiguity 175 = .ok (.getfield 19, 3) := by decide +kernel
theorem dX11_maximumAmbiguity_178 : decode cX11_maximumAmbiguity 178 = .ok (.if_icmp .ge 68, 3) := by decide +kernel
theorem dX11_maximumAmbiguity_181 : decode cX11_maximumAmbiguity 181 = .ok (.iload_n 1, 1) := by decide +kernel
theorem dX11_maximumAmbiguity_182 : decode cX11_maximumAmbiguity 182 = .ok (.i2l, 1) := by decide +kernel
theorem dX11_maximumAmbiguity_183 : decode cX11_maximumAmbiguity 183 = .ok (.iload 9, 2) := by decide +kernel
theorem dX11_maximumAmbiguity_185 : decode cX11_maximumAmbiguity 185 = .ok (.invokestatic 139, 3) := by decide +kernel
theorem dX11_maximumAmbiguity_188 : decode cX11_maximumAmbiguity 188 = .ok (.ifCond .eq 58, 3) := by decide +kernel
theorem dX11_maximumAmbiguity_191 : decode cX11_maximumAmbiguity 191 = .ok (.aload_n 0, 1) := by decide +kernel
theorem dX11_maximumAmbiguity_192 : decode cX11_maximumAmbiguity 192 = .ok (.getfield 70, 3) := by decide +kernel
theorem dX11_maximumAmbiguity_195 : decode cX11_maximumAmbiguity 195 = .ok (.iload 9, 2) := by decide +kernel
theorem dX11_maximumAmbiguity_197 : decode cX11_maximumAmbiguity 197 = .ok (.dup2, 1) := by decide +kernel
theorem dX11_maximumAmbiguity_198 : decode cX11_maximumAmbiguity 198 = .ok (.laload, 1) := by decide +kernel
theorem dX11_maximumAmbiguity_199 : decode cX11_maximumAmbiguity 199 = .ok (.aload_n 0, 1) := by decide +kernel
theorem dX11_maximumAmbiguity_200 : decode cX11_maximumAmbiguity 200 = .ok (.getfield 7, 3) := by decide +kernel
theorem dX11_maximumAmbiguity_203 : decode cX11_maximumAmbiguity 203 = .ok (.bipush 6, 2) := by decide +kernel
theorem dX11_maximumAmbiguity_205 : decode cX11_maximumAmbiguity 205 = .ok (.iload 8, 2) := by decide +kernel
theorem dX11_maximumAmbiguity_207 : decode cX11_maximumAmbiguity 207 = .ok (.imul, 1) := by decide +kernel
theorem dX11_maximumAmbiguity_208 : decode cX11_maximumAmbiguity 208 = .ok (.iload 10, 2) := by decide +kernel
theorem dX11_maximumAmbiguity_210 : decode cX11_maximumAmbiguity 210 = .ok (.iadd, 1) := by decide +kernel
theorem dX11_maximumAmbiguity_211 : decode cX11_maximumAmbiguity 211 = .ok (.iaload, 1) := by decide +kernel
theorem dX11_maximumAmbiguity_212 : decode cX11_maximumAmbiguity 212 = .ok (.i2l, 1) := by decide +kernel
theorem dX11_maximumAmbiguity_213 : decode cX11_maximumAmbiguity 213 = .ok (.iload 9, 2) := by decide +kernel
theorem dX11_maximumAmbiguity_215 : decode cX11_maximumAmbiguity 215 = .ok (.invokestatic 139, 3) := by decide +kernel
theorem dX11_maximumAmbiguity_218 : decode cX11_maximumAmbiguity 218 = .ok (.ifCond .eq 19, 3) := by decide +kernel
theorem dX11_maximumAmbiguity_221 : decode cX11_maximumAmbiguity 221 = .ok (.aload_n 0, 1) := by decide +kernel
theorem dX11_maximumAmbiguity_222 : decode cX11_maximumAmbiguity 222 = .ok (.getfield 67, 3) := by decide +kernel
theorem dX11_maximumAmbiguity_225 : decode cX11_maximumAmbiguity 225 = .ok (.bipush 6, 2) := by decide +kernel
theorem dX11_maximumAmbiguity_227 : decode cX11_maximumAmbiguity 227 = .ok (.iload 5, 2) := by decide +kernel
theorem dX11_maximumAmbiguity_229 : decode cX11_maximumAmbiguity 229 = .ok (.imul, 1) := by decide +kernel
theorem dX11_maximumAmbiguity_230 : decode cX11_maximumAmbiguity 230 = .ok (.iload 10, 2) := by decide +kernel
theorem dX11_maximumAmbiguity_232 : decode cX11_maximumAmbiguity 232 = .ok (.iadd, 1) := by decide +kernel
theorem dX11_maximumAmbiguity_233 : decode cX11_maximumAmbiguity 233 = .ok (.laload, 1) := by decide +kernel
theorem dX11_maximumAmbiguity_234 : decode cX11_maximumAmbiguity 234 = .ok (.goto 4, 3) := by decide +kernel
theorem dX11_maximumAmbiguity_237 : decode cX11_maximumAmbiguity 237 = .ok (.lconst 0, 1) := by decide +kernel
theorem dX11_maximumAmbiguity_238 : decode cX11_maximumAmbiguity 238 = .ok (.ladd, 1) := by decide +kernel
theorem dX11_maximumAmbiguity_239 : decode cX11_maximumAmbiguity 239 = .ok (.lastore, 1) := by decide +kernel
theorem dX11_maximumAmbiguity_240 : decode cX11_maximumAmbiguity 240 = .ok (.iinc 10 1, 3) := by decide +kernel
theorem dX11_maximumAmbiguity_243 : decode cX11_maximumAmbiguity 243 = .ok (.goto (-71), 3) := by decide +kernel
theorem dX11_maximumAmbiguity_246 : decode cX11_maximumAmbiguity 246 = .ok (.iinc 9 1, 3) := by decide +kernel
theorem dX11_maximumAmbiguity_249 : decode cX11_maximumAmbiguity 249 = .ok (.goto (-95), 3) := by decide +kernel
theorem dX11_maximumAmbiguity_252 : decode cX11_maximumAmbiguity 252 = .ok (.aload_n 0, 1) := by decide +kernel
theorem dX11_maximumAmbiguity_253 : decode cX11_maximumAmbiguity 253 = .ok (.iload_n 2, 1) := by decide +kernel
theorem dX11_maximumAmbiguity_254 : decode cX11_maximumAmbiguity 254 = .ok (.invokevirtual 305, 3) := by decide +kernel
theorem dX11_maximumAmbiguity_257 : decode cX11_maximumAmbiguity 257 = .ok (.ifCond .ne 6, 3) := by decide +kernel
theorem dX11_maximumAmbiguity_260 : decode cX11_maximumAmbiguity 260 = .ok (.goto 22, 3) := by decide +kernel
theorem dX11_maximumAmbiguity_263 : decode cX11_maximumAmbiguity 263 = .ok (.iload_n 2, 1) := by decide +kernel
theorem dX11_maximumAmbiguity_264 : decode cX11_maximumAmbiguity 264 = .ok (.sipush 1000, 3) := by decide +kernel
theorem dX11_maximumAmbiguity_267 : decode cX11_maximumAmbiguity 267 = .ok (.if_icmp .ne 7, 3) := by decide +kernel
theorem dX11_maximumAmbiguity_270 : decode cX11_maximumAmbiguity 270 = .ok (.ldc2_w 308, 3) := by decide +kernel
theorem dX11_maximumAmbiguity_273 : decode cX11_maximumAmbiguity 273 = .ok (.lreturn, 1) := by decide +kernel
theorem dX11_maximumAmbiguity_274 : decode cX11_maximumAmbiguity 274 = .ok (.aload_n 0, 1) := by decide +kernel
theorem dX11_maximumAmbiguity_275 : decode cX11_maximumAmbiguity 275 = .ok (.iload_n 2, 1) := by decide +kernel
theorem dX11_maximumAmbiguity_276 : decode cX11_maximumAmbiguity 276 = .ok (.invokevirtual 302, 3) := by decide +kernel
theorem dX11_maximumAmbiguity_279 : decode cX11_maximumAmbiguity 279 = .ok (.iinc 2 1, 3) := by decide +kernel
theorem dX11_maximumAmbiguity_282 : decode cX11_maximumAmbiguity 282 = .ok (.iinc 8 1, 3) := by decide +kernel
theorem dX11_maximumAmbiguity_285 : decode cX11_maximumAmbiguity 285 = .ok (.goto (-140), 3) := by decide +kernel
theorem dX11_maximumAmbiguity_288 : decode cX11_maximumAmbiguity 288 = .ok (.iinc 5 1, 3) := by decide +kernel
theorem dX11_maximumAmbiguity_291 : decode cX11_maximumAmbiguity 291 = .ok (.goto (-223), 3) := by decide +kernel
theorem dX11_maximumAmbiguity_294 : decode cX11_maximumAmbiguity 294 = .ok (.lload_n 3, 1) := by decide +kernel
theorem dX11_maximumAmbiguity_295 : decode cX11_maximumAmbiguity 295 = .ok (.lreturn, 1) := by decide +kernel
set_option maxRecDepth 20000 in
theorem ggX11_isLoopState_X11_isState : GoodIn wsX11_isLoopState wsX11_isState := goodIn_r _ [6, 7, 96, 97, 98, 99, 100, 101, 102, 103, 104, 105, 106, 107, 108, 109, 110, 111, 112, 113, 114, 115, 116, 117, 118, 119, 120, 121, 122, 123, 124, 125, 126, 127, 128, 129, 130, 131, 132, 133, 134, 135, 136, 137, 138, 139, 140, 141, 142, 143, 144, 145] (by decide +kernel) (by decide +kernel)
set_option maxRecDepth 20000 in
theorem gX11_isLoopState_X11_isState : GoodIn wsX11_isLoopState (wsV RX11 132 RX11 yX11_isState wsX11_isState) := goodIn_app (goodIn_of _ (by decide +kernel)) ggX11_isLoopState_X11_isState
set_option maxRecDepth 20000 in
theorem ggX11_isLoopState_X11_finds : GoodIn wsX11_isLoopState wsX11_finds := goodIn_r _ [11, 12, 13, 1, 14, 15, 16, 17, 18, 5, 19, 20, 7, 21, 22, 23, 24, 25, 26, 27, 28, 29, 30, 31, 32, 33, 34, 35, 36, 37, 38, 39, 40, 41, 42, 43, 44, 45, 46, 47, 48, 49, 50, 51, 52, 53, 54, 55, 56, 57, 58, 59, 60, 61, 62, 63, 64, 65, 66, 67, 68, 69, 70, 71, 72, 73, 74, 75, 76, 77, 78, 79, 80, 81, 82, 83, 84, 85, 86, 87, 88, 89, 90, 91, 92, 93, 94, 95, 96, 97, 98, 99, 100, 101, 102, 103, 104, 105, 106, 107, 108, 109, 110, 111, 112, 113, 114, 115, 116, 117, 118, 119, 120, 121, 122, 123, 124, 125, 126, 127, 128, 129, 130, 131, 132, 133, 134, 135, 136, 137, 138, 139, 140, 141, 142, 143, 144, 145] (by rfl) (by decide +kernel)
set_option maxRecDepth 20000 in
theorem gX11_isLoopState_X11_finds : GoodIn wsX11_isLoopState (wsV RX11 294 RX11 yX11_finds wsX11_finds) := goodIn_app (goodIn_of _ (by decide +kernel)) ggX11_isLoopState_X11_finds
theorem dX11_isLoopState_0 : decode cX11_isLoopState 0 = .ok (.aload_n 0, 1) := by decide +kernel
theorem dX11_isLoopState_1 : decode cX11_isLoopState 1 = .ok (.iload_n 1, 1) := by decide +kernel
theorem dX11_isLoopState_2 : decode cX11_isLoopState 2 = .ok (.invokevirtual 132, 3) := by decide +kernel
theorem dX11_isLoopState_5 : decode cX11_isLoopState 5 = .ok (.ifCond .ne 5, 3) := by decide +kernel
theorem dX11_isLoopState_8 : decode cX11_isLoopState 8 = .ok (.iconst (-1), 1) := by decide +kernel
theorem dX11_isLoopState_9 : decode cX11_isLoopState 9 = .ok (.ireturn, 1) := by decide +kernel
theorem dX11_isLoopState_10 : decode cX11_isLoopState 10 = .ok (.aload_n 0, 1) := by decide +kernel
theorem dX11_isLoopState_11 : decode cX11_isLoopState 11 = .ok (.invokevirtual 294, 3) := by decide +kernel
theorem dX11_isLoopState_14 : decode cX11_isLoopState 14 = .ok (.aload_n 0, 1) := by decide +kernel
theorem dX11_isLoopState_15 : decode cX11_isLoopState 15 = .ok (.getfield 282, 3) := by decide +kernel
theorem dX11_isLoopState_18 : decode cX11_isLoopState 18 = .ok (.iload_n 1, 1) := by decide +kernel
theorem dX11_isLoopState_19 : decode cX11_isLoopState 19 = .ok (.ishr, 1) := by decide +kernel
theorem dX11_isLoopState_20 : decode cX11_isLoopState 20 = .ok (.iconst 1, 1) := by decide +kernel
theorem dX11_isLoopState_21 : decode cX11_isLoopState 21 = .ok (.iand, 1) := by decide +kernel
theorem dX11_isLoopState_22 : decode cX11_isLoopState 22 = .ok (.ireturn, 1) := by decide +kernel
set_option maxRecDepth 20000 in
theorem ggX11_isSplitPair_X11_isState : GoodIn wsX11_isSplitPair wsX11_isState := goodIn_r _ [6, 7, 96, 97, 98, 99, 100, 101, 102, 103, 104, 105, 106, 107, 108, 109, 110, 111, 112, 113, 114, 115, 116, 117, 118, 119, 120, 121, 122, 123, 124, 125, 126, 127, 128, 129, 130, 131, 132, 133, 134, 135, 136, 137, 138, 139, 140, 141, 142, 143, 144, 145] (by decide +kernel) (by decide +kernel)
set_option maxRecDepth 20000 in
theorem gX11_isSplitPair_X11_isState : GoodIn wsX11_isSplitPair (wsV RX11 132 RX11 yX11_isState wsX11_isState) := goodIn_app (goodIn_of _ (by decide +kernel)) ggX11_isSplitPair_X11_isState
set_option maxRecDepth 20000 in
theorem ggX11_isSplitPair_X11_finds : GoodIn wsX11_isSplitPair wsX11_finds := goodIn_r _ [11, 12, 13, 14, 15, 1, 16, 17, 18, 5, 19, 20, 7, 21, 22, 23, 24, 25, 26, 27, 28, 29, 30, 31, 32, 33, 34, 35, 36, 37, 38, 39, 40, 41, 42, 43, 44, 45, 46, 47, 48, 49, 50, 51, 52, 53, 54, 55, 56, 57, 58, 59, 60, 61, 62, 63, 64, 65, 66, 67, 68, 69, 70, 71, 72, 73, 74, 75, 76, 77, 78, 79, 80, 81, 82, 83, 84, 85, 86, 87, 88, 89, 90, 91, 92, 93, 94, 95, 96, 97, 98, 99, 100, 101, 102, 103, 104, 105, 106, 107, 108, 109, 110, 111, 112, 113, 114, 115, 116, 117, 118, 119, 120, 121, 122, 123, 124, 125, 126, 127, 128, 129, 130, 131, 132, 133, 134, 135, 136, 137, 138, 139, 140, 141, 142, 143, 144, 145] (by rfl) (by decide +kernel)
set_option maxRecDepth 20000 in
theorem gX11_isSplitPair_X11_finds : GoodIn wsX11_isSplitPair (wsV RX11 294 RX11 yX11_finds wsX11_finds) := goodIn_app (goodIn_of _ (by decide +kernel)) ggX11_isSplitPair_X11_finds
theorem dX11_isSplitPair_0 : decode cX11_isSplitPair 0 = .ok (.aload_n 0, 1) := by decide +kernel
theorem dX11_isSplitPair_1 : decode cX11_isSplitPair 1 = .ok (.iload_n 1, 1) := by decide +kernel
theorem dX11_isSplitPair_2 : decode cX11_isSplitPair 2 = .ok (.invokevirtual 132, 3) := by decide +kernel
theorem dX11_isSplitPair_5 : decode cX11_isSplitPair 5 = .ok (.ifCond .eq 11, 3) := by decide +kernel
theorem dX11_isSplitPair_8 : decode cX11_isSplitPair 8 = .ok (.aload_n 0, 1) := by decide +kernel
theorem dX11_isSplitPair_9 : decode cX11_isSplitPair 9 = .ok (.iload_n 2, 1) := by decide +kernel
theorem dX11_isSplitPair_10 : decode cX11_isSplitPair 10 = .ok (.invokevirtual 132, 3) := by decide +kernel
theorem dX11_isSplitPair_13 : decode cX11_isSplitPair 13 = .ok (.ifCond .ne 5, 3) := by decide +kernel
theorem dX11_isSplitPair_16 : decode cX11_isSplitPair 16 = .ok (.iconst (-1), 1) := by decide +kernel
theorem dX11_isSplitPair_17 : decode cX11_isSplitPair 17 = .ok (.ireturn, 1) := by decide +kernel
theorem dX11_isSplitPair_18 : decode cX11_isSplitPair 18 = .ok (.aload_n 0, 1) := by decide +kernel
theorem dX11_isSplitPair_19 : decode cX11_isSplitPair 19 = .ok (.invokevirtual 294, 3) := by decide +kernel
theorem dX11_isSplitPair_22 : decode cX11_isSplitPair 22 = .ok (.aload_n 0, 1) := by decide +kernel
theorem dX11_isSplitPair_23 : decode cX11_isSplitPair 23 = .ok (.getfield 61, 3) := by decide +kernel
theorem dX11_isSplitPair_26 : decode cX11_isSplitPair 26 = .ok (.bipush 6, 2) := by decide +kernel
theorem dX11_isSplitPair_28 : decode cX11_isSplitPair 28 = .ok (.iload_n 1, 1) := by decide +kernel
theorem dX11_isSplitPair_29 : decode cX11_isSplitPair 29 = .ok (.imul, 1) := by decide +kernel
theorem dX11_isSplitPair_30 : decode cX11_isSplitPair 30 = .ok (.iload_n 2, 1) := by decide +kernel
theorem dX11_isSplitPair_31 : decode cX11_isSplitPair 31 = .ok (.iadd, 1) := by decide +kernel
theorem dX11_isSplitPair_32 : decode cX11_isSplitPair 32 = .ok (.baload, 1) := by decide +kernel
theorem dX11_isSplitPair_33 : decode cX11_isSplitPair 33 = .ok (.ifCond .eq 7, 3) := by decide +kernel
theorem dX11_isSplitPair_36 : decode cX11_isSplitPair 36 = .ok (.iconst 1, 1) := by decide +kernel
theorem dX11_isSplitPair_37 : decode cX11_isSplitPair 37 = .ok (.goto 4, 3) := by decide +kernel
theorem dX11_isSplitPair_40 : decode cX11_isSplitPair 40 = .ok (.iconst 0, 1) := by decide +kernel
theorem dX11_isSplitPair_41 : decode cX11_isSplitPair 41 = .ok (.ireturn, 1) := by decide +kernel
set_option maxRecDepth 20000 in
theorem ggX11_lowest_X11_has : GoodIn wsX11_lowest wsX11_has := goodIn_r _ [4] (by decide +kernel) (by decide +kernel)
set_option maxRecDepth 20000 in
theorem gX11_lowest_X11_has : GoodIn wsX11_lowest (va_wsS RX11 139 yX11_has wsX11_has) := goodIn_app (goodIn_of _ (by decide +kernel)) ggX11_lowest_X11_has
theorem dX11_lowest_0 : decode cX11_lowest 0 = .ok (.iconst 0, 1) := by decide +kernel
theorem dX11_lowest_1 : decode cX11_lowest 1 = .ok (.istore_n 1, 1) := by decide +kernel
theorem dX11_lowest_2 : decode cX11_lowest 2 = .ok (.iload_n 0, 1) := by decide +kernel
theorem dX11_lowest_3 : decode cX11_lowest 3 = .ok (.i2l, 1) := by decide +kernel
theorem dX11_lowest_4 : decode cX11_lowest 4 = .ok (.iload_n 1, 1) := by decide +kernel
theorem dX11_lowest_5 : decode cX11_lowest 5 = .ok (.invokestatic 139, 3) := by decide +kernel
theorem dX11_lowest_8 : decode cX11_lowest 8 = .ok (.ifCond .ne 9, 3) := by decide +kernel
theorem dX11_lowest_11 : decode cX11_lowest 11 = .ok (.iinc 1 1, 3) := by decide +kernel
theorem dX11_lowest_14 : decode cX11_lowest 14 = .ok (.goto (-12), 3) := by decide +kernel
theorem dX11_lowest_17 : decode cX11_lowest 17 = .ok (.iload_n 1, 1) := by decide +kernel
theorem dX11_lowest_18 : decode cX11_lowest 18 = .ok (.ireturn, 1) := by decide +kernel
theorem dX11_firstSplit_0 : decode cX11_firstSplit 0 = .ok (.iconst 0, 1) := by decide +kernel
theorem dX11_firstSplit_1 : decode cX11_firstSplit 1 = .ok (.istore_n 1, 1) := by decide +kernel
theorem dX11_firstSplit_2 : decode cX11_firstSplit 2 = .ok (.aload_n 0, 1) := by decide +kernel
theorem dX11_firstSplit_3 : decode cX11_firstSplit 3 = .ok (.getfield 61, 3) := by decide +kernel
theorem dX11_firstSplit_6 : decode cX11_firstSplit 6 = .ok (.iload_n 1, 1) := by decide +kernel
theorem dX11_firstSplit_7 : decode cX11_firstSplit 7 = .ok (.baload, 1) := by decide +kernel
theorem dX11_firstSplit_8 : decode cX11_firstSplit 8 = .ok (.ifCond .ne 9, 3) := by decide +kernel
theorem dX11_firstSplit_11 : decode cX11_firstSplit 11 = .ok (.iinc 1 1, 3) := by decide +kernel
theorem dX11_firstSplit_14 : decode cX11_firstSplit 14 = .ok (.goto (-12), 3) := by decide +kernel
theorem dX11_firstSplit_17 : decode cX11_firstSplit 17 = .ok (.iload_n 1, 1) := by decide +kernel
theorem dX11_firstSplit_18 : decode cX11_firstSplit 18 = .ok (.ireturn, 1) := by decide +kernel
set_option maxRecDepth 20000 in
theorem ggX11_witnessState_X11_isBetween : GoodIn wsX11_witnessState wsX11_isBetween := goodIn_r _ [7] (by decide +kernel) (by decide +kernel)
set_option maxRecDepth 20000 in
theorem gX11_witnessState_X11_isBetween : GoodIn wsX11_witnessState (va_wsS RX11 124 yX11_isBetween wsX11_isBetween) := goodIn_app (goodIn_of _ (by decide +kernel)) ggX11_witnessState_X11_isBetween
set_option maxRecDepth 20000 in
theorem ggX11_witnessState_X11_finds : GoodIn wsX11_witnessState wsX11_finds := goodIn_r _ [11, 12, 13, 2, 3, 14, 15, 16, 17, 6, 18, 19, 20, 21, 22, 23, 24, 25, 26, 27, 28, 29, 30, 31, 32, 33, 34, 35, 36, 37, 38, 39, 40, 41, 42, 43, 44, 45, 46, 47, 48, 49, 50, 51, 52, 53, 54, 55, 56, 57, 58, 59, 60, 61, 62, 63, 64, 65, 66, 67, 68, 69, 70, 71, 72, 73, 74, 75, 76, 77, 78, 79, 80, 81, 82, 83, 84, 85, 86, 87, 88, 89, 90, 91, 92, 93, 94, 95, 103, 104, 105, 106, 107, 108, 109, 110, 111, 112, 113, 114, 115, 116, 117, 118, 119, 120, 121, 122, 123, 124, 125, 126, 127, 128, 129, 130, 131, 132, 133, 134, 135, 136, 137, 138, 139, 140, 141, 142, 143, 144, 145, 146, 147, 148, 149, 150, 151, 152] (by rfl) (by decide +kernel)
