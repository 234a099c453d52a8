set_option maxRecDepth 20000 in
theorem gX11_build_X11_buildsPairs : GoodIn wsX11_build (wsV RX11 344 RX11 yX11_buildsPairs wsX11_buildsPairs) := goodIn_app (goodIn_of _ (by decide +kernel)) ggX11_build_X11_buildsPairs
set_option maxRecDepth 20000 in
theorem ggX11_build_X11_has : GoodIn wsX11_build wsX11_has := goodIn_r _ [33] (by decide +kernel) (by decide +kernel)
set_option maxRecDepth 20000 in
theorem gX11_build_X11_has : GoodIn wsX11_build (va_wsS RX11 139 yX11_has wsX11_has) := goodIn_app (goodIn_of _ (by decide +kernel)) ggX11_build_X11_has
theorem dX11_build_0 : decode cX11_build 0 = .ok (.iload_n 1, 1) := by decide +kernel
theorem dX11_build_1 : decode cX11_build 1 = .ok (.i2l, 1) := by decide +kernel
theorem dX11_build_2 : decode cX11_build 2 = .ok (.lconst 0, 1) := by decide +kernel
theorem dX11_build_3 : decode cX11_build 3 = .ok (.lconst 1, 1) := by decide +kernel
theorem dX11_build_4 : decode cX11_build 4 = .ok (.invokestatic 124, 3) := by decide +kernel
theorem dX11_build_7 : decode cX11_build 7 = .ok (.ifCond .ne 5, 3) := by decide +kernel
theorem dX11_build_10 : decode cX11_build 10 = .ok (.iconst (-1), 1) := by decide +kernel
theorem dX11_build_11 : decode cX11_build 11 = .ok (.ireturn, 1) := by decide +kernel
theorem dX11_build_12 : decode cX11_build 12 = .ok (.aload_n 0, 1) := by decide +kernel
theorem dX11_build_13 : decode cX11_build 13 = .ok (.iconst 0, 1) := by decide +kernel
theorem dX11_build_14 : decode cX11_build 14 = .ok (.putfield 335, 3) := by decide +kernel
theorem dX11_build_17 : decode cX11_build 17 = .ok (.iload_n 1, 1) := by decide +kernel
theorem dX11_build_18 : decode cX11_build 18 = .ok (.ifCond .ne 13, 3) := by decide +kernel
theorem dX11_build_21 : decode cX11_build 21 = .ok (.aload_n 0, 1) := by decide +kernel
theorem dX11_build_22 : decode cX11_build 22 = .ok (.invokevirtual 341, 3) := by decide +kernel
theorem dX11_build_25 : decode cX11_build 25 = .ok (.ifCond .eq 13, 3) := by decide +kernel
theorem dX11_build_28 : decode cX11_build 28 = .ok (.goto 13, 3) := by decide +kernel
theorem dX11_build_31 : decode cX11_build 31 = .ok (.aload_n 0, 1) := by decide +kernel
theorem dX11_build_32 : decode cX11_build 32 = .ok (.invokevirtual 344, 3) := by decide +kernel
theorem dX11_build_35 : decode cX11_build 35 = .ok (.ifCond .ne 6, 3) := by decide +kernel
theorem dX11_build_38 : decode cX11_build 38 = .ok (.bipush (-5), 2) := by decide +kernel
theorem dX11_build_40 : decode cX11_build 40 = .ok (.ireturn, 1) := by decide +kernel
theorem dX11_build_41 : decode cX11_build 41 = .ok (.aload_n 0, 1) := by decide +kernel
theorem dX11_build_42 : decode cX11_build 42 = .ok (.aload_n 0, 1) := by decide +kernel
theorem dX11_build_43 : decode cX11_build 43 = .ok (.getfield 335, 3) := by decide +kernel
theorem dX11_build_46 : decode cX11_build 46 = .ok (.putfield 94, 3) := by decide +kernel
theorem dX11_build_49 : decode cX11_build 49 = .ok (.aload_n 0, 1) := by decide +kernel
theorem dX11_build_50 : decode cX11_build 50 = .ok (.lconst 0, 1) := by decide +kernel
theorem dX11_build_51 : decode cX11_build 51 = .ok (.putfield 347, 3) := by decide +kernel
theorem dX11_build_54 : decode cX11_build 54 = .ok (.aload_n 0, 1) := by decide +kernel
theorem dX11_build_55 : decode cX11_build 55 = .ok (.lconst 0, 1) := by decide +kernel
theorem dX11_build_56 : decode cX11_build 56 = .ok (.putfield 351, 3) := by decide +kernel
theorem dX11_build_59 : decode cX11_build 59 = .ok (.iconst 0, 1) := by decide +kernel
theorem dX11_build_60 : decode cX11_build 60 = .ok (.istore_n 2, 1) := by decide +kernel
theorem dX11_build_61 : decode cX11_build 61 = .ok (.iload_n 2, 1) := by decide +kernel
theorem dX11_build_62 : decode cX11_build 62 = .ok (.aload_n 0, 1) := by decide +kernel
theorem dX11_build_63 : decode cX11_build 63 = .ok (.getfield 335, 3) := by decide +kernel
theorem dX11_build_66 : decode cX11_build 66 = .ok (.if_icmp .ge 149, 3) := by decide +kernel
theorem dX11_build_69 : decode cX11_build 69 = .ok (.aload_n 0, 1) := by decide +kernel
theorem dX11_build_70 : decode cX11_build 70 = .ok (.getfield 76, 3) := by decide +kernel
theorem dX11_build_73 : decode cX11_build 73 = .ok (.iload_n 2, 1) := by decide +kernel
theorem dX11_build_74 : decode cX11_build 74 = .ok (.aload_n 0, 1) := by decide +kernel
theorem dX11_build_75 : decode cX11_build 75 = .ok (.getfield 82, 3) := by decide +kernel
theorem dX11_build_78 : decode cX11_build 78 = .ok (.iload_n 2, 1) := by decide +kernel
theorem dX11_build_79 : decode cX11_build 79 = .ok (.iaload, 1) := by decide +kernel
theorem dX11_build_80 : decode cX11_build 80 = .ok (.iastore, 1) := by decide +kernel
theorem dX11_build_81 : decode cX11_build 81 = .ok (.aload_n 0, 1) := by decide +kernel
theorem dX11_build_82 : decode cX11_build 82 = .ok (.getfield 79, 3) := by decide +kernel
theorem dX11_build_85 : decode cX11_build 85 = .ok (.iload_n 2, 1) := by decide +kernel
theorem dX11_build_86 : decode cX11_build 86 = .ok (.aload_n 0, 1) := by decide +kernel
theorem dX11_build_87 : decode cX11_build 87 = .ok (.getfield 85, 3) := by decide +kernel
theorem dX11_build_90 : decode cX11_build 90 = .ok (.iload_n 2, 1) := by decide +kernel
theorem dX11_build_91 : decode cX11_build 91 = .ok (.iaload, 1) := by decide +kernel
theorem dX11_build_92 : decode cX11_build 92 = .ok (.iastore, 1) := by decide +kernel
theorem dX11_build_93 : decode cX11_build 93 = .ok (.iconst 0, 1) := by decide +kernel
theorem dX11_build_94 : decode cX11_build 94 = .ok (.istore_n 3, 1) := by decide +kernel
theorem dX11_build_95 : decode cX11_build 95 = .ok (.iload_n 3, 1) := by decide +kernel
theorem dX11_build_96 : decode cX11_build 96 = .ok (.iconst 3, 1) := by decide +kernel
theorem dX11_build_97 : decode cX11_build 97 = .ok (.if_icmp .ge 29, 3) := by decide +kernel
theorem dX11_build_100 : decode cX11_build 100 = .ok (.aload_n 0, 1) := by decide +kernel
theorem dX11_build_101 : decode cX11_build 101 = .ok (.getfield 88, 3) := by decide +kernel
theorem dX11_build_104 : decode cX11_build 104 = .ok (.iconst 3, 1) := by decide +kernel
theorem dX11_build_105 : decode cX11_build 105 = .ok (.iload_n 2, 1) := by decide +kernel
theorem dX11_build_106 : decode cX11_build 106 = .ok (.imul, 1) := by decide +kernel
theorem dX11_build_107 : decode cX11_build 107 = .ok (.iload_n 3, 1) := by decide +kernel
theorem dX11_build_108 : decode cX11_build 108 = .ok (.iadd, 1) := by decide +kernel
theorem dX11_build_109 : decode cX11_build 109 = .ok (.aload_n 0, 1) := by decide +kernel
theorem dX11_build_110 : decode cX11_build 110 = .ok (.getfield 91, 3) := by decide +kernel
theorem dX11_build_113 : decode cX11_build 113 = .ok (.iconst 3, 1) := by decide +kernel
theorem dX11_build_114 : decode cX11_build 114 = .ok (.iload_n 2, 1) := by decide +kernel
theorem dX11_build_115 : decode cX11_build 115 = .ok (.imul, 1) := by decide +kernel
theorem dX11_build_116 : decode cX11_build 116 = .ok (.iload_n 3, 1) := by decide +kernel
theorem dX11_build_117 : decode cX11_build 117 = .ok (.iadd, 1) := by decide +kernel
theorem dX11_build_118 : decode cX11_build 118 = .ok (.laload, 1) := by decide +kernel
theorem dX11_build_119 : decode cX11_build 119 = .ok (.lastore, 1) := by decide +kernel
theorem dX11_build_120 : decode cX11_build 120 = .ok (.iinc 3 1, 3) := by decide +kernel
theorem dX11_build_123 : decode cX11_build 123 = .ok (.goto (-28), 3) := by decide +kernel
theorem dX11_build_126 : decode cX11_build 126 = .ok (.iload_n 1, 1) := by decide +kernel
theorem dX11_build_127 : decode cX11_build 127 = .ok (.ifCond .ne 25, 3) := by decide +kernel
theorem dX11_build_130 : decode cX11_build 130 = .ok (.aload_n 0, 1) := by decide +kernel
theorem dX11_build_131 : decode cX11_build 131 = .ok (.getfield 79, 3) := by decide +kernel
theorem dX11_build_134 : decode cX11_build 134 = .ok (.iload_n 2, 1) := by decide +kernel
theorem dX11_build_135 : decode cX11_build 135 = .ok (.iaload, 1) := by decide +kernel
theorem dX11_build_136 : decode cX11_build 136 = .ok (.aload_n 0, 1) := by decide +kernel
theorem dX11_build_137 : decode cX11_build 137 = .ok (.getfield 115, 3) := by decide +kernel
theorem dX11_build_140 : decode cX11_build 140 = .ok (.iand, 1) := by decide +kernel
theorem dX11_build_141 : decode cX11_build 141 = .ok (.ifCond .eq 7, 3) := by decide +kernel
theorem dX11_build_144 : decode cX11_build 144 = .ok (.iconst 1, 1) := by decide +kernel
theorem dX11_build_145 : decode cX11_build 145 = .ok (.goto 43, 3) := by decide +kernel
theorem dX11_build_148 : decode cX11_build 148 = .ok (.iconst 0, 1) := by decide +kernel
theorem dX11_build_149 : decode cX11_build 149 = .ok (.goto 39, 3) := by decide +kernel
theorem dX11_build_152 : decode cX11_build 152 = .ok (.aload_n 0, 1) := by decide +kernel
theorem dX11_build_153 : decode cX11_build 153 = .ok (.getfield 115, 3) := by decide +kernel
theorem dX11_build_156 : decode cX11_build 156 = .ok (.i2l, 1) := by decide +kernel
theorem dX11_build_157 : decode cX11_build 157 = .ok (.aload_n 0, 1) := by decide +kernel
theorem dX11_build_158 : decode cX11_build 158 = .ok (.getfield 76, 3) := by decide +kernel
theorem dX11_build_161 : decode cX11_build 161 = .ok (.iload_n 2, 1) := by decide +kernel
theorem dX11_build_162 : decode cX11_build 162 = .ok (.iaload, 1) := by decide +kernel
theorem dX11_build_163 : decode cX11_build 163 = .ok (.invokestatic 139, 3) := by decide +kernel
theorem dX11_build_166 : decode cX11_build 166 = .ok (.ifCond .eq 21, 3) := by decide +kernel
theorem dX11_build_169 : decode cX11_build 169 = .ok (.aload_n 0, 1) := by decide +kernel
theorem dX11_build_170 : decode cX11_build 170 = .ok (.getfield 79, 3) := by decide +kernel
theorem dX11_build_173 : decode cX11_build 173 = .ok (.iload_n 2, 1) := by decide +kernel
theorem dX11_build_174 : decode cX11_build 174 = .ok (.iaload, 1) := by decide +kernel
theorem dX11_build_175 : decode cX11_build 175 = .ok (.aload_n 0, 1) := by decide +kernel
theorem dX11_build_176 : decode cX11_build 176 = .ok (.getfield 115, 3) := by decide +kernel
theorem dX11_build_179 : decode cX11_build 179 = .ok (.iand, 1) := by decide +kernel
theorem dX11_build_180 : decode cX11_build 180 = .ok (.ifCond .ne 7, 3) := by decide +kernel
theorem dX11_build_183 : decode cX11_build 183 = .ok (.iconst 1, 1) := by decide +kernel
theorem dX11_build_184 : decode cX11_build 184 = .ok (.goto 4, 3) := by decide +kernel
theorem dX11_build_187 : decode cX11_build 187 = .ok (.iconst 0, 1) := by decide +kernel
theorem dX11_build_188 : decode cX11_build 188 = .ok (.istore_n 3, 1) := by decide +kernel
theorem dX11_build_189 : decode cX11_build 189 = .ok (.aload_n 0, 1) := by decide +kernel
theorem dX11_build_190 : decode cX11_build 190 = .ok (.dup, 1) := by decide +kernel
theorem dX11_build_191 : decode cX11_build 191 = .ok (.getfield 351, 3) := by decide +kernel
theorem dX11_build_194 : decode cX11_build 194 = .ok (.iload_n 3, 1) := by decide +kernel
theorem dX11_build_195 : decode cX11_build 195 = .ok (.ifCond .eq 9, 3) := by decide +kernel
theorem dX11_build_198 : decode cX11_build 198 = .ok (.lconst 1, 1) := by decide +kernel
theorem dX11_build_199 : decode cX11_build 199 = .ok (.iload_n 2, 1) := by decide +kernel
theorem dX11_build_200 : decode cX11_build 200 = .ok (.lshl, 1) := by decide +kernel
theorem dX11_build_201 : decode cX11_build 201 = .ok (.goto 4, 3) := by decide +kernel
theorem dX11_build_204 : decode cX11_build 204 = .ok (.lconst 0, 1) := by decide +kernel
theorem dX11_build_205 : decode cX11_build 205 = .ok (.lor, 1) := by decide +kernel
theorem dX11_build_206 : decode cX11_build 206 = .ok (.putfield 351, 3) := by decide +kernel
theorem dX11_build_209 : decode cX11_build 209 = .ok (.iinc 2 1, 3) := by decide +kernel
theorem dX11_build_212 : decode cX11_build 212 = .ok (.goto (-151), 3) := by decide +kernel
theorem dX11_build_215 : decode cX11_build 215 = .ok (.iconst 0, 1) := by decide +kernel
theorem dX11_build_216 : decode cX11_build 216 = .ok (.istore_n 2, 1) := by decide +kernel
theorem dX11_build_217 : decode cX11_build 217 = .ok (.iconst 0, 1) := by decide +kernel
theorem dX11_build_218 : decode cX11_build 218 = .ok (.istore_n 3, 1) := by decide +kernel
theorem dX11_build_219 : decode cX11_build 219 = .ok (.iload_n 3, 1) := by decide +kernel
theorem dX11_build_220 : decode cX11_build 220 = .ok (.aload_n 0, 1) := by decide +kernel
theorem dX11_build_221 : decode cX11_build 221 = .ok (.getfield 19, 3) := by decide +kernel
theorem dX11_build_224 : decode cX11_build 224 = .ok (.if_icmp .ge 20, 3) := by decide +kernel
theorem dX11_build_227 : decode cX11_build 227 = .ok (.iload_n 2, 1) := by decide +kernel
theorem dX11_build_228 : decode cX11_build 228 = .ok (.aload_n 0, 1) := by decide +kernel
theorem dX11_build_229 : decode cX11_build 229 = .ok (.getfield 112, 3) := by decide +kernel
theorem dX11_build_232 : decode cX11_build 232 = .ok (.iload_n 3, 1) := by decide +kernel
theorem dX11_build_233 : decode cX11_build 233 = .ok (.ishr, 1) := by decide +kernel
theorem dX11_build_234 : decode cX11_build 234 = .ok (.iconst 1, 1) := by decide +kernel
theorem dX11_build_235 : decode cX11_build 235 = .ok (.iand, 1) := by decide +kernel
theorem dX11_build_236 : decode cX11_build 236 = .ok (.iadd, 1) := by decide +kernel
theorem dX11_build_237 : decode cX11_build 237 = .ok (.istore_n 2, 1) := by decide +kernel
theorem dX11_build_238 : decode cX11_build 238 = .ok (.iinc 3 1, 3) := by decide +kernel
theorem dX11_build_241 : decode cX11_build 241 = .ok (.goto (-22), 3) := by decide +kernel
theorem dX11_build_244 : decode cX11_build 244 = .ok (.iload_n 1, 1) := by decide +kernel
theorem dX11_build_245 : decode cX11_build 245 = .ok (.ifCond .ne 10, 3) := by decide +kernel
theorem dX11_build_248 : decode cX11_build 248 = .ok (.iload_n 2, 1) := by decide +kernel
theorem dX11_build_249 : decode cX11_build 249 = .ok (.iconst 1, 1) := by decide +kernel
theorem dX11_build_250 : decode cX11_build 250 = .ok (.if_icmp .le 5, 3) := by decide +kernel
theorem dX11_build_253 : decode cX11_build 253 = .ok (.iconst 1, 1) := by decide +kernel
theorem dX11_build_254 : decode cX11_build 254 = .ok (.istore_n 2, 1) := by decide +kernel
theorem dX11_build_255 : decode cX11_build 255 = .ok (.iconst 0, 1) := by decide +kernel
theorem dX11_build_256 : decode cX11_build 256 = .ok (.istore_n 3, 1) := by decide +kernel
theorem dX11_build_257 : decode cX11_build 257 = .ok (.iload_n 3, 1) := by decide +kernel
theorem dX11_build_258 : decode cX11_build 258 = .ok (.iload_n 2, 1) := by decide +kernel
theorem dX11_build_259 : decode cX11_build 259 = .ok (.if_icmp .ge 21, 3) := by decide +kernel
theorem dX11_build_262 : decode cX11_build 262 = .ok (.aload_n 0, 1) := by decide +kernel
theorem dX11_build_263 : decode cX11_build 263 = .ok (.dup, 1) := by decide +kernel
theorem dX11_build_264 : decode cX11_build 264 = .ok (.getfield 347, 3) := by decide +kernel
theorem dX11_build_267 : decode cX11_build 267 = .ok (.lconst 1, 1) := by decide +kernel
theorem dX11_build_268 : decode cX11_build 268 = .ok (.iload_n 3, 1) := by decide +kernel
theorem dX11_build_269 : decode cX11_build 269 = .ok (.lshl, 1) := by decide +kernel
theorem dX11_build_270 : decode cX11_build 270 = .ok (.lor, 1) := by decide +kernel
theorem dX11_build_271 : decode cX11_build 271 = .ok (.putfield 347, 3) := by decide +kernel
theorem dX11_build_274 : decode cX11_build 274 = .ok (.iinc 3 1, 3) := by decide +kernel
theorem dX11_build_277 : decode cX11_build 277 = .ok (.goto (-20), 3) := by decide +kernel
theorem dX11_build_280 : decode cX11_build 280 = .ok (.aload_n 0, 1) := by decide +kernel
theorem dX11_build_281 : decode cX11_build 281 = .ok (.getfield 335, 3) := by decide +kernel
theorem dX11_build_284 : decode cX11_build 284 = .ok (.ireturn, 1) := by decide +kernel
theorem dX11_resultStateCount_0 : decode cX11_resultStateCount 0 = .ok (.aload_n 0, 1) := by decide +kernel
theorem dX11_resultStateCount_1 : decode cX11_resultStateCount 1 = .ok (.getfield 94, 3) := by decide +kernel
theorem dX11_resultStateCount_4 : decode cX11_resultStateCount 4 = .ok (.ireturn, 1) := by decide +kernel
theorem dX11_resultInitials_0 : decode cX11_resultInitials 0 = .ok (.aload_n 0, 1) := by decide +kernel
theorem dX11_resultInitials_1 : decode cX11_resultInitials 1 = .ok (.getfield 347, 3) := by decide +kernel
theorem dX11_resultInitials_4 : decode cX11_resultInitials 4 = .ok (.lreturn, 1) := by decide +kernel
theorem dX11_resultFinals_0 : decode cX11_resultFinals 0 = .ok (.aload_n 0, 1) := by decide +kernel
theorem dX11_resultFinals_1 : decode cX11_resultFinals 1 = .ok (.getfield 351, 3) := by decide +kernel
theorem dX11_resultFinals_4 : decode cX11_resultFinals 4 = .ok (.lreturn, 1) := by decide +kernel
set_option maxRecDepth 20000 in
theorem ggX11_resultSuccessors_X11_isLetter : GoodIn wsX11_resultSuccessors wsX11_isLetter := goodIn_r _ [6] (by decide +kernel) (by decide +kernel)
set_option maxRecDepth 20000 in
theorem gX11_resultSuccessors_X11_isLetter : GoodIn wsX11_resultSuccessors (va_wsS RX11 136 yX11_isLetter wsX11_isLetter) := goodIn_app (goodIn_of _ (by decide +kernel)) ggX11_resultSuccessors_X11_isLetter
set_option maxRecDepth 20000 in
theorem ggX11_resultSuccessors_X11_isBetween : GoodIn wsX11_resultSuccessors wsX11_isBetween := goodIn_r _ [9] (by decide +kernel) (by decide +kernel)
set_option maxRecDepth 20000 in
theorem gX11_resultSuccessors_X11_isBetween : GoodIn wsX11_resultSuccessors (va_wsS RX11 124 yX11_isBetween wsX11_isBetween) := goodIn_app (goodIn_of _ (by decide +kernel)) ggX11_resultSuccessors_X11_isBetween
theorem dX11_resultSuccessors_0 : decode cX11_resultSuccessors 0 = .ok (.iload_n 2, 1) := by decide +kernel
theorem dX11_resultSuccessors_1 : decode cX11_resultSuccessors 1 = .ok (.invokestatic 136, 3) := by decide +kernel
theorem dX11_resultSuccessors_4 : decode cX11_resultSuccessors 4 = .ok (.ifCond .eq 32, 3) := by decide +kernel
theorem dX11_resultSuccessors_7 : decode cX11_resultSuccessors 7 = .ok (.iload_n 1, 1) := by decide +kernel
theorem dX11_resultSuccessors_8 : decode cX11_resultSuccessors 8 = .ok (.i2l, 1) := by decide +kernel
theorem dX11_resultSuccessors_9 : decode cX11_resultSuccessors 9 = .ok (.lconst 0, 1) := by decide +kernel
theorem dX11_resultSuccessors_10 : decode cX11_resultSuccessors 10 = .ok (.aload_n 0, 1) := by decide +kernel
theorem dX11_resultSuccessors_11 : decode cX11_resultSuccessors 11 = .ok (.getfield 94, 3) := by decide +kernel
theorem dX11_resultSuccessors_14 : decode cX11_resultSuccessors 14 = .ok (.iconst 1, 1) := by decide +kernel
theorem dX11_resultSuccessors_15 : decode cX11_resultSuccessors 15 = .ok (.isub, 1) := by decide +kernel
theorem dX11_resultSuccessors_16 : decode cX11_resultSuccessors 16 = .ok (.i2l, 1) := by decide +kernel
theorem dX11_resultSuccessors_17 : decode cX11_resultSuccessors 17 = .ok (.invokestatic 124, 3) := by decide +kernel
theorem dX11_resultSuccessors_20 : decode cX11_resultSuccessors 20 = .ok (.ifCond .eq 16, 3) := by decide +kernel
theorem dX11_resultSuccessors_23 : decode cX11_resultSuccessors 23 = .ok (.aload_n 0, 1) := by decide +kernel
theorem dX11_resultSuccessors_24 : decode cX11_resultSuccessors 24 = .ok (.getfield 88, 3) := by decide +kernel
theorem dX11_resultSuccessors_27 : decode cX11_resultSuccessors 27 = .ok (.iconst 3, 1) := by decide +kernel
theorem dX11_resultSuccessors_28 : decode cX11_resultSuccessors 28 = .ok (.iload_n 1, 1) := by decide +kernel
theorem dX11_resultSuccessors_29 : decode cX11_resultSuccessors 29 = .ok (.imul, 1) := by decide +kernel
theorem dX11_resultSuccessors_30 : decode cX11_resultSuccessors 30 = .ok (.iload_n 2, 1) := by decide +kernel
theorem dX11_resultSuccessors_31 : decode cX11_resultSuccessors 31 = .ok (.iadd, 1) := by decide +kernel
theorem dX11_resultSuccessors_32 : decode cX11_resultSuccessors 32 = .ok (.laload, 1) := by decide +kernel
theorem dX11_resultSuccessors_33 : decode cX11_resultSuccessors 33 = .ok (.goto 4, 3) := by decide +kernel
theorem dX11_resultSuccessors_36 : decode cX11_resultSuccessors 36 = .ok (.lconst 0, 1) := by decide +kernel
theorem dX11_resultSuccessors_37 : decode cX11_resultSuccessors 37 = .ok (.lreturn, 1) := by decide +kernel
set_option maxRecDepth 20000 in
theorem ggX11_resultAmbiguity_X11_has : GoodIn wsX11_resultAmbiguity wsX11_has := goodIn_r _ [13] (by decide +kernel) (by decide +kernel)
set_option maxRecDepth 20000 in
theorem gX11_resultAmbiguity_X11_has : GoodIn wsX11_resultAmbiguity (va_wsS RX11 139 yX11_has wsX11_has) := goodIn_app (goodIn_of _ (by decide +kernel)) ggX11_resultAmbiguity_X11_has
theorem dX11_resultAmbiguity_0 : decode cX11_resultAmbiguity 0 = .ok (.aload_n 0, 1) := by decide +kernel
theorem dX11_resultAmbiguity_1 : decode cX11_resultAmbiguity 1 = .ok (.getfield 94, 3) := by decide +kernel
theorem dX11_resultAmbiguity_4 : decode cX11_resultAmbiguity 4 = .ok (.ifCond .ge 7, 3) := by decide +kernel
theorem dX11_resultAmbiguity_7 : decode cX11_resultAmbiguity 7 = .ok (.ldc2_w 300, 3) := by decide +kernel
theorem dX11_resultAmbiguity_10 : decode cX11_resultAmbiguity 10 = .ok (.lreturn, 1) := by decide +kernel
theorem dX11_resultAmbiguity_11 : decode cX11_resultAmbiguity 11 = .ok (.iconst 0, 1) := by decide +kernel
theorem dX11_resultAmbiguity_12 : decode cX11_resultAmbiguity 12 = .ok (.istore_n 1, 1) := by decide +kernel
theorem dX11_resultAmbiguity_13 : decode cX11_resultAmbiguity 13 = .ok (.iload_n 1, 1) := by decide +kernel
theorem dX11_resultAmbiguity_14 : decode cX11_resultAmbiguity 14 = .ok (.aload_n 0, 1) := by decide +kernel
theorem dX11_resultAmbiguity_15 : decode cX11_resultAmbiguity 15 = .ok (.getfield 94, 3) := by decide +kernel
theorem dX11_resultAmbiguity_18 : decode cX11_resultAmbiguity 18 = .ok (.if_icmp .ge 31, 3) := by decide +kernel
theorem dX11_resultAmbiguity_21 : decode cX11_resultAmbiguity 21 = .ok (.aload_n 0, 1) := by decide +kernel
theorem dX11_resultAmbiguity_22 : decode cX11_resultAmbiguity 22 = .ok (.getfield 38, 3) := by decide +kernel
theorem dX11_resultAmbiguity_25 : decode cX11_resultAmbiguity 25 = .ok (.iload_n 1, 1) := by decide +kernel
theorem dX11_resultAmbiguity_26 : decode cX11_resultAmbiguity 26 = .ok (.aload_n 0, 1) := by decide +kernel
theorem dX11_resultAmbiguity_27 : decode cX11_resultAmbiguity 27 = .ok (.getfield 347, 3) := by decide +kernel
theorem dX11_resultAmbiguity_30 : decode cX11_resultAmbiguity 30 = .ok (.iload_n 1, 1) := by decide +kernel
theorem dX11_resultAmbiguity_31 : decode cX11_resultAmbiguity 31 = .ok (.invokestatic 139, 3) := by decide +kernel
theorem dX11_resultAmbiguity_34 : decode cX11_resultAmbiguity 34 = .ok (.ifCond .eq 7, 3) := by decide +kernel
theorem dX11_resultAmbiguity_37 : decode cX11_resultAmbiguity 37 = .ok (.lconst 1, 1) := by decide +kernel
theorem dX11_resultAmbiguity_38 : decode cX11_resultAmbiguity 38 = .ok (.goto 4, 3) := by decide +kernel
theorem dX11_resultAmbiguity_41 : decode cX11_resultAmbiguity 41 = .ok (.lconst 0, 1) := by decide +kernel
theorem dX11_resultAmbiguity_42 : decode cX11_resultAmbiguity 42 = .ok (.lastore, 1) := by decide +kernel
theorem dX11_resultAmbiguity_43 : decode cX11_resultAmbiguity 43 = .ok (.iinc 1 1, 3) := by decide +kernel
theorem dX11_resultAmbiguity_46 : decode cX11_resultAmbiguity 46 = .ok (.goto (-33), 3) := by decide +kernel
theorem dX11_resultAmbiguity_49 : decode cX11_resultAmbiguity 49 = .ok (.iconst 0, 1) := by decide +kernel
theorem dX11_resultAmbiguity_50 : decode cX11_resultAmbiguity 50 = .ok (.istore_n 1, 1) := by decide +kernel
theorem dX11_resultAmbiguity_51 : decode cX11_resultAmbiguity 51 = .ok (.iload_n 1, 1) := by decide +kernel
theorem dX11_resultAmbiguity_52 : decode cX11_resultAmbiguity 52 = .ok (.aload_n 0, 1) := by decide +kernel
theorem dX11_resultAmbiguity_53 : decode cX11_resultAmbiguity 53 = .ok (.getfield 197, 3) := by decide +kernel
theorem dX11_resultAmbiguity_56 : decode cX11_resultAmbiguity 56 = .ok (.if_icmp .ge 117, 3) := by decide +kernel
theorem dX11_resultAmbiguity_59 : decode cX11_resultAmbiguity 59 = .ok (.iconst 0, 1) := by decide +kernel
theorem dX11_resultAmbiguity_60 : decode cX11_resultAmbiguity 60 = .ok (.istore_n 2, 1) := by decide +kernel
theorem dX11_resultAmbiguity_61 : decode cX11_resultAmbiguity 61 = .ok (.iload_n 2, 1) := by decide +kernel
theorem dX11_resultAmbiguity_62 : decode cX11_resultAmbiguity 62 = .ok (.aload_n 0, 1) := by decide +kernel
theorem dX11_resultAmbiguity_63 : decode cX11_resultAmbiguity 63 = .ok (.getfield 94, 3) := by decide +kernel
theorem dX11_resultAmbiguity_66 : decode cX11_resultAmbiguity 66 = .ok (.if_icmp .ge 73, 3) := by decide +kernel
theorem dX11_resultAmbiguity_69 : decode cX11_resultAmbiguity 69 = .ok (.aload_n 0, 1) := by decide +kernel
theorem dX11_resultAmbiguity_70 : decode cX11_resultAmbiguity 70 = .ok (.getfield 42, 3) := by decide +kernel
theorem dX11_resultAmbiguity_73 : decode cX11_resultAmbiguity 73 = .ok (.iload_n 2, 1) := by decide +kernel
theorem dX11_resultAmbiguity_74 : decode cX11_resultAmbiguity 74 = .ok (.lconst 0, 1) := by decide +kernel
theorem dX11_resultAmbiguity_75 : decode cX11_resultAmbiguity 75 = .ok (.lastore, 1) := by decide +kernel
theorem dX11_resultAmbiguity_76 : decode cX11_resultAmbiguity 76 = .ok (.iconst 0, 1) := by decide +kernel
theorem dX11_resultAmbiguity_77 : decode cX11_resultAmbiguity 77 = .ok (.istore_n 3, 1) := by decide +kernel
theorem dX11_resultAmbiguity_78 : decode cX11_resultAmbiguity 78 = .ok (.iload_n 3, 1) := by decide +kernel
theorem dX11_resultAmbiguity_79 : decode cX11_resultAmbiguity 79 = .ok (.aload_n 0, 1) := by decide +kernel
theorem dX11_resultAmbiguity_80 : decode cX11_resultAmbiguity 80 = .ok (.getfield 94, 3) := by decide +kernel
theorem dX11_resultAmbiguity_83 : decode cX11_resultAmbiguity 83 = .ok (.if_icmp .ge 50, 3) := by decide +kernel
theorem dX11_resultAmbiguity_86 : decode cX11_resultAmbiguity 86 = .ok (.aload_n 0, 1) := by decide +kernel
theorem dX11_resultAmbiguity_87 : decode cX11_resultAmbiguity 87 = .ok (.getfield 42, 3) := by decide +kernel
theorem dX11_resultAmbiguity_90 : decode cX11_resultAmbiguity 90 = .ok (.iload_n 2, 1) := by decide +kernel
theorem dX11_resultAmbiguity_91 : decode cX11_resultAmbiguity 91 = .ok (.dup2, 1) := by decide +kernel
theorem dX11_resultAmbiguity_92 : decode cX11_resultAmbiguity 92 = .ok (.laload, 1) := by decide +kernel
theorem dX11_resultAmbiguity_93 : decode cX11_resultAmbiguity 93 = .ok (.aload_n 0, 1) := by decide +kernel
theorem dX11_resultAmbiguity_94 : decode cX11_resultAmbiguity 94 = .ok (.getfield 88, 3) := by decide +kernel
theorem dX11_resultAmbiguity_97 : decode cX11_resultAmbiguity 97 = .ok (.iconst 3, 1) := by decide +kernel
theorem dX11_resultAmbiguity_98 : decode cX11_resultAmbiguity 98 = .ok (.iload_n 3, 1) := by decide +kernel
theorem dX11_resultAmbiguity_99 : decode cX11_resultAmbiguity 99 = .ok (.imul, 1) := by decide +kernel
theorem dX11_resultAmbiguity_100 : decode cX11_resultAmbiguity 100 = .ok (.aload_n 0, 1) := by decide +kernel
theorem dX11_resultAmbiguity_101 : decode cX11_resultAmbiguity 101 = .ok (.getfield 35, 3) := by decide +kernel
theorem dX11_resultAmbiguity_104 : decode cX11_resultAmbiguity 104 = .ok (.iload_n 1, 1) := by decide +kernel
theorem dX11_resultAmbiguity_105 : decode cX11_resultAmbiguity 105 = .ok (.iaload, 1) := by decide +kernel
theorem dX11_resultAmbiguity_106 : decode cX11_resultAmbiguity 106 = .ok (.iadd, 1) := by decide +kernel
theorem dX11_resultAmbiguity_107 : decode cX11_resultAmbiguity 107 = .ok (.laload, 1) := by decide +kernel
theorem dX11_resultAmbiguity_108 : decode cX11_resultAmbiguity 108 = .ok (.iload_n 2, 1) := by decide +kernel
theorem dX11_resultAmbiguity_109 : decode cX11_resultAmbiguity 109 = .ok (.invokestatic 139, 3) := by decide +kernel
theorem dX11_resultAmbiguity_112 : decode cX11_resultAmbiguity 112 = .ok (.ifCond .eq 12, 3) := by decide +kernel
theorem dX11_resultAmbiguity_115 : decode cX11_resultAmbiguity 115 = .ok (.aload_n 0, 1) := by decide +kernel
theorem dX11_resultAmbiguity_116 : decode cX11_resultAmbiguity 116 = .ok (.getfield 38, 3) := by decide +kernel
theorem dX11_resultAmbiguity_119 : decode cX11_resultAmbiguity 119 = .ok (.iload_n 3, 1) := by decide +kernel
theorem dX11_resultAmbiguity_120 : decode cX11_resultAmbiguity 120 = .ok (.laload, 1) := by decide +kernel
theorem dX11_resultAmbiguity_121 : decode cX11_resultAmbiguity 121 = .ok (.goto 4, 3) := by decide +kernel
theorem dX11_resultAmbiguity_124 : decode cX11_resultAmbiguity 124 = .ok (.lconst 0, 1) := by decide +kernel
theorem dX11_resultAmbiguity_125 : decode cX11_resultAmbiguity 125 = .ok (.ladd, 1) := by decide +kernel
theorem dX11_resultAmbiguity_126 : decode cX11_resultAmbiguity 126 = .ok (.lastore, 1) := by decide +kernel
theorem dX11_resultAmbiguity_127 : decode cX11_resultAmbiguity 127 = .ok (.iinc 3 1, 3) := by decide +kernel
theorem dX11_resultAmbiguity_130 : decode cX11_resultAmbiguity 130 = .ok (.goto (-52), 3) := by decide +kernel
theorem dX11_resultAmbiguity_133 : decode cX11_resultAmbiguity 133 = .ok (.iinc 2 1, 3) := by decide +kernel
theorem dX11_resultAmbiguity_136 : decode cX11_resultAmbiguity 136 = .ok (.goto (-75), 3) := by decide +kernel
theorem dX11_resultAmbiguity_139 : decode cX11_resultAmbiguity 139 = .ok (.iconst 0, 1) := by decide +kernel
theorem dX11_resultAmbiguity_140 : decode cX11_resultAmbiguity 140 = .ok (.istore_n 2, 1) := by decide +kernel
theorem dX11_resultAmbiguity_141 : decode cX11_resultAmbiguity 141 = .ok (.iload_n 2, 1) := by decide +kernel
theorem dX11_resultAmbiguity_142 : decode cX11_resultAmbiguity 142 = .ok (.aload_n 0, 1) := by decide +kernel
theorem dX11_resultAmbiguity_143 : decode cX11_resultAmbiguity 143 = .ok (.getfield 94, 3) := by decide +kernel
theorem dX11_resultAmbiguity_146 : decode cX11_resultAmbiguity 146 = .ok (.if_icmp .ge 21, 3) := by decide +kernel
theorem dX11_resultAmbiguity_149 : decode cX11_resultAmbiguity 149 = .ok (.aload_n 0, 1) := by decide +kernel
theorem dX11_resultAmbiguity_150 : decode cX11_resultAmbiguity 150 = .ok (.getfield 38, 3) := by decide +kernel
theorem dX11_resultAmbiguity_153 : decode cX11_resultAmbiguity 153 = .ok (.iload_n 2, 1) := by decide +kernel
theorem dX11_resultAmbiguity_154 : decode cX11_resultAmbiguity 154 = .ok (.aload_n 0, 1) := by decide +kernel
theorem dX11_resultAmbiguity_155 : decode cX11_resultAmbiguity 155 = .ok (.getfield 42, 3) := by decide +kernel
theorem dX11_resultAmbiguity_158 : decode cX11_resultAmbiguity 158 = .ok (.iload_n 2, 1) := by decide +kernel
theorem dX11_resultAmbiguity_159 : decode cX11_resultAmbiguity 159 = .ok (.laload, 1) := by decide +kernel
theorem dX11_resultAmbiguity_160 : decode cX11_resultAmbiguity 160 = .ok (.lastore, 1) := by decide +kernel
theorem dX11_resultAmbiguity_161 : decode cX11_resultAmbiguity 161 = .ok (.iinc 2 1, 3) := by decide +kernel
theorem dX11_resultAmbiguity_164 : decode cX11_resultAmbiguity 164 = .ok (.goto (-23), 3) := by decide +kernel
theorem dX11_resultAmbiguity_167 : decode cX11_resultAmbiguity 167 = .ok (.iinc 1 1, 3) := by decide +kernel
theorem dX11_resultAmbiguity_170 : decode cX11_resultAmbiguity 170 = .ok (.goto (-119), 3) := by decide +kernel
theorem dX11_resultAmbiguity_173 : decode cX11_resultAmbiguity 173 = .ok (.lconst 0, 1) := by decide +kernel
theorem dX11_resultAmbiguity_174 : decode cX11_resultAmbiguity 174 = .ok (.lstore_n 1, 1) := by decide +kernel
theorem dX11_resultAmbiguity_175 : decode cX11_resultAmbiguity 175 = .ok (.iconst 0, 1) := by decide +kernel
theorem dX11_resultAmbiguity_176 : decode cX11_resultAmbiguity 176 = .ok (.istore_n 3, 1) := by decide +kernel
theorem dX11_resultAmbiguity_177 : decode cX11_resultAmbiguity 177 = .ok (.iload_n 3, 1) := by decide +kernel
theorem dX11_resultAmbiguity_178 : decode cX11_resultAmbiguity 178 = .ok (.aload_n 0, 1) := by decide +kernel
theorem dX11_resultAmbiguity_179 : decode cX11_resultAmbiguity 179 = .ok (.getfield 94, 3) := by decide +kernel
theorem dX11_resultAmbiguity_182 : decode cX11_resultAmbiguity 182 = .ok (.if_icmp .ge 33, 3) := by decide +kernel
theorem dX11_resultAmbiguity_185 : decode cX11_resultAmbiguity 185 = .ok (.lload_n 1, 1) := by decide +kernel
theorem dX11_resultAmbiguity_186 : decode cX11_resultAmbiguity 186 = .ok (.aload_n 0, 1) := by decide +kernel
theorem dX11_resultAmbiguity_187 : decode cX11_resultAmbiguity 187 = .ok (.getfield 351, 3) := by decide +kernel
theorem dX11_resultAmbiguity_190 : decode cX11_resultAmbiguity 190 = .ok (.iload_n 3, 1) := by decide +kernel
theorem dX11_resultAmbiguity_191 : decode cX11_resultAmbiguity 191 = .ok (.invokestatic 139, 3) := by decide +kernel
theorem dX11_resultAmbiguity_194 : decode cX11_resultAmbiguity 194 = .ok (.ifCond .eq 12, 3) := by decide +kernel
theorem dX11_resultAmbiguity_197 : decode cX11_resultAmbiguity 197 = .ok (.aload_n 0, 1) := by decide +kernel
theorem dX11_resultAmbiguity_198 : decode cX11_resultAmbiguity 198 = .ok (.getfield 38, 3) := by decide +kernel
theorem dX11_resultAmbiguity_201 : decode cX11_resultAmbiguity 201 = .ok (.iload_n 3, 1) := by decide +kernel
theorem dX11_resultAmbiguity_202 : decode cX11_resultAmbiguity 202 = .ok (.laload, 1) := by decide +kernel
theorem dX11_resultAmbiguity_203 : decode cX11_resultAmbiguity 203 = .ok (.goto 4, 3) := by decide +kernel
theorem dX11_resultAmbiguity_206 : decode cX11_resultAmbiguity 206 = .ok (.lconst 0, 1) := by decide +kernel
theorem dX11_resultAmbiguity_207 : decode cX11_resultAmbiguity 207 = .ok (.ladd, 1) := by decide +kernel
theorem dX11_resultAmbiguity_208 : decode cX11_resultAmbiguity 208 = .ok (.lstore_n 1, 1) := by decide +kernel
theorem dX11_resultAmbiguity_209 : decode cX11_resultAmbiguity 209 = .ok (.iinc 3 1, 3) := by decide +kernel
theorem dX11_resultAmbiguity_212 : decode cX11_resultAmbiguity 212 = .ok (.goto (-35), 3) := by decide +kernel
theorem dX11_resultAmbiguity_215 : decode cX11_resultAmbiguity 215 = .ok (.lload_n 1, 1) := by decide +kernel
theorem dX11_resultAmbiguity_216 : decode cX11_resultAmbiguity 216 = .ok (.lreturn, 1) := by decide +kernel
theorem dX11_isShelf_0 : decode cX11_isShelf 0 = .ok (.iload_n 0, 1) := by decide +kernel
theorem dX11_isShelf_1 : decode cX11_isShelf 1 = .ok (.ifCond .lt 12, 3) := by decide +kernel
theorem dX11_isShelf_4 : decode cX11_isShelf 4 = .ok (.iload_n 0, 1) := by decide +kernel
theorem dX11_isShelf_5 : decode cX11_isShelf 5 = .ok (.iconst 4, 1) := by decide +kernel
theorem dX11_isShelf_6 : decode cX11_isShelf 6 = .ok (.if_icmp .ge 7, 3) := by decide +kernel
theorem dX11_isShelf_9 : decode cX11_isShelf 9 = .ok (.iconst 1, 1) := by decide +kernel
theorem dX11_isShelf_10 : decode cX11_isShelf 10 = .ok (.goto 4, 3) := by decide +kernel
theorem dX11_isShelf_13 : decode cX11_isShelf 13 = .ok (.iconst 0, 1) := by decide +kernel
theorem dX11_isShelf_14 : decode cX11_isShelf 14 = .ok (.ireturn, 1) := by decide +kernel
set_option maxRecDepth 20000 in
theorem ggX11_keepWord_X11_isShelf : GoodIn wsX11_keepWord wsX11_isShelf := goodIn_r _ [9] (by decide +kernel) (by decide +kernel)
set_option maxRecDepth 20000 in
theorem gX11_keepWord_X11_isShelf : GoodIn wsX11_keepWord (va_wsS RX11 354 yX11_isShelf wsX11_isShelf) := goodIn_app (goodIn_of _ (by decide +kernel)) ggX11_keepWord_X11_isShelf
theorem dX11_keepWord_0 : decode cX11_keepWord 0 = .ok (.iload_n 1, 1) := by decide +kernel
theorem dX11_keepWord_1 : decode cX11_keepWord 1 = .ok (.invokestatic 354, 3) := by decide +kernel
theorem dX11_keepWord_4 : decode cX11_keepWord 4 = .ok (.ifCond .ne 5, 3) := by decide +kernel
theorem dX11_keepWord_7 : decode cX11_keepWord 7 = .ok (.iconst (-1), 1) := by decide +kernel
theorem dX11_keepWord_8 : decode cX11_keepWord 8 = .ok (.ireturn, 1) := by decide +kernel
theorem dX11_keepWord_9 : decode cX11_keepWord 9 = .ok (.aload_n 0, 1) := by decide +kernel
theorem dX11_keepWord_10 : decode cX11_keepWord 10 = .ok (.getfield 97, 3) := by decide +kernel
theorem dX11_keepWord_13 : decode cX11_keepWord 13 = .ok (.iload_n 1, 1) := by decide +kernel
theorem dX11_keepWord_14 : decode cX11_keepWord 14 = .ok (.iconst 1, 1) := by decide +kernel
theorem dX11_keepWord_15 : decode cX11_keepWord 15 = .ok (.iastore, 1) := by decide +kernel
theorem dX11_keepWord_16 : decode cX11_keepWord 16 = .ok (.aload_n 0, 1) := by decide +kernel
theorem dX11_keepWord_17 : decode cX11_keepWord 17 = .ok (.getfield 100, 3) := by decide +kernel
theorem dX11_keepWord_20 : decode cX11_keepWord 20 = .ok (.iload_n 1, 1) := by decide +kernel
theorem dX11_keepWord_21 : decode cX11_keepWord 21 = .ok (.aload_n 0, 1) := by decide +kernel
theorem dX11_keepWord_22 : decode cX11_keepWord 22 = .ok (.getfield 197, 3) := by decide +kernel
theorem dX11_keepWord_25 : decode cX11_keepWord 25 = .ok (.iastore, 1) := by decide +kernel
theorem dX11_keepWord_26 : decode cX11_keepWord 26 = .ok (.iconst 0, 1) := by decide +kernel
theorem dX11_keepWord_27 : decode cX11_keepWord 27 = .ok (.istore_n 2, 1) := by decide +kernel
theorem dX11_keepWord_28 : decode cX11_keepWord 28 = .ok (.iload_n 2, 1) := by decide +kernel
theorem dX11_keepWord_29 : decode cX11_keepWord 29 = .ok (.aload_n 0, 1) := by decide +kernel
theorem dX11_keepWord_30 : decode cX11_keepWord 30 = .ok (.getfield 197, 3) := by decide +kernel
theorem dX11_keepWord_33 : decode cX11_keepWord 33 = .ok (.if_icmp .ge 27, 3) := by decide +kernel
theorem dX11_keepWord_36 : decode cX11_keepWord 36 = .ok (.aload_n 0, 1) := by decide +kernel
theorem dX11_keepWord_37 : decode cX11_keepWord 37 = .ok (.getfield 103, 3) := by decide +kernel
theorem dX11_keepWord_40 : decode cX11_keepWord 40 = .ok (.bipush 31, 2) := by decide +kernel
theorem dX11_keepWord_42 : decode cX11_keepWord 42 = .ok (.iload_n 1, 1) := by decide +kernel
theorem dX11_keepWord_43 : decode cX11_keepWord 43 = .ok (.imul, 1) := by decide +kernel
theorem dX11_keepWord_44 : decode cX11_keepWord 44 = .ok (.iload_n 2, 1) := by decide +kernel
theorem dX11_keepWord_45 : decode cX11_keepWord 45 = .ok (.iadd, 1) := by decide +kernel
theorem dX11_keepWord_46 : decode cX11_keepWord 46 = .ok (.aload_n 0, 1) := by decide +kernel
theorem dX11_keepWord_47 : decode cX11_keepWord 47 = .ok (.getfield 35, 3) := by decide +kernel
theorem dX11_keepWord_50 : decode cX11_keepWord 50 = .ok (.iload_n 2, 1) := by decide +kernel
theorem dX11_keepWord_51 : decode cX11_keepWord 51 = .ok (.iaload, 1) := by decide +kernel
theorem dX11_keepWord_52 : decode cX11_keepWord 52 = .ok (.i2l, 1) := by decide +kernel
theorem dX11_keepWord_53 : decode cX11_keepWord 53 = .ok (.lastore, 1) := by decide +kernel
theorem dX11_keepWord_54 : decode cX11_keepWord 54 = .ok (.iinc 2 1, 3) := by decide +kernel
theorem dX11_keepWord_57 : decode cX11_keepWord 57 = .ok (.goto (-29), 3) := by decide +kernel
theorem dX11_keepWord_60 : decode cX11_keepWord 60 = .ok (.aload_n 0, 1) := by decide +kernel
theorem dX11_keepWord_61 : decode cX11_keepWord 61 = .ok (.getfield 197, 3) := by decide +kernel
theorem dX11_keepWord_64 : decode cX11_keepWord 64 = .ok (.ireturn, 1) := by decide +kernel
set_option maxRecDepth 20000 in
theorem ggX11_keepCounts_X11_isShelf : GoodIn wsX11_keepCounts wsX11_isShelf := goodIn_r _ [9] (by decide +kernel) (by decide +kernel)
set_option maxRecDepth 20000 in
theorem gX11_keepCounts_X11_isShelf : GoodIn wsX11_keepCounts (va_wsS RX11 354 yX11_isShelf wsX11_isShelf) := goodIn_app (goodIn_of _ (by decide +kernel)) ggX11_keepCounts_X11_isShelf
set_option maxRecDepth 20000 in
theorem ggX11_keepCounts_X11_isBetween : GoodIn wsX11_keepCounts wsX11_isBetween := goodIn_r _ [12] (by decide +kernel) (by decide +kernel)
set_option maxRecDepth 20000 in
theorem gX11_keepCounts_X11_isBetween : GoodIn wsX11_keepCounts (va_wsS RX11 124 yX11_isBetween wsX11_isBetween) := goodIn_app (goodIn_of _ (by decide +kernel)) ggX11_keepCounts_X11_isBetween
set_option maxRecDepth 20000 in
theorem ggX11_keepCounts_X11_pathsOf : GoodIn wsX11_keepCounts wsX11_pathsOf := goodIn_r _ [16, 17, 18, 19, 20, 21, 22, 23, 24, 8, 25, 26, 27, 28, 29, 30, 31, 32, 33, 34, 35, 36, 37, 38, 39, 40, 41, 42, 43, 44, 45, 46, 47, 48, 49, 50, 51, 52, 53, 54, 55, 56, 57, 58, 59, 60, 61, 62, 63, 64, 65, 66, 67, 68, 69, 70, 71, 72, 73, 74, 75, 76, 77, 78, 79, 80] (by rfl) (by decide +kernel)
set_option maxRecDepth 20000 in
theorem gX11_keepCounts_X11_pathsOf : GoodIn wsX11_keepCounts (wsV RX11 214 RX11 yX11_pathsOf wsX11_pathsOf) := goodIn_app (goodIn_of _ (by decide +kernel)) ggX11_keepCounts_X11_pathsOf
theorem dX11_keepCounts_0 : decode cX11_keepCounts 0 = .ok (.iload_n 1, 1) := by decide +kernel
theorem dX11_keepCounts_1 : decode cX11_keepCounts 1 = .ok (.invokestatic 354, 3) := by decide +kernel
theorem dX11_keepCounts_4 : decode cX11_keepCounts 4 = .ok (.ifCond .ne 5, 3) := by decide +kernel
theorem dX11_keepCounts_7 : decode cX11_keepCounts 7 = .ok (.iconst (-1), 1) := by decide +kernel
theorem dX11_keepCounts_8 : decode cX11_keepCounts 8 = .ok (.ireturn, 1) := by decide +kernel
theorem dX11_keepCounts_9 : decode cX11_keepCounts 9 = .ok (.iload_n 2, 1) := by decide +kernel
theorem dX11_keepCounts_10 : decode cX11_keepCounts 10 = .ok (.i2l, 1) := by decide +kernel
theorem dX11_keepCounts_11 : decode cX11_keepCounts 11 = .ok (.lconst 0, 1) := by decide +kernel
theorem dX11_keepCounts_12 : decode cX11_keepCounts 12 = .ok (.ldc2_w 357, 3) := by decide +kernel
theorem dX11_keepCounts_15 : decode cX11_keepCounts 15 = .ok (.invokestatic 124, 3) := by decide +kernel
theorem dX11_keepCounts_18 : decode cX11_keepCounts 18 = .ok (.ifCond .ne 6, 3) := by decide +kernel
theorem dX11_keepCounts_21 : decode cX11_keepCounts 21 = .ok (.bipush (-2), 2) := by decide +kernel
theorem dX11_keepCounts_23 : decode cX11_keepCounts 23 = .ok (.ireturn, 1) := by decide +kernel
theorem dX11_keepCounts_24 : decode cX11_keepCounts 24 = .ok (.iconst 0, 1) := by decide +kernel
theorem dX11_keepCounts_25 : decode cX11_keepCounts 25 = .ok (.istore_n 3, 1) := by decide +kernel
theorem dX11_keepCounts_26 : decode cX11_keepCounts 26 = .ok (.iload_n 3, 1) := by decide +kernel
theorem dX11_keepCounts_27 : decode cX11_keepCounts 27 = .ok (.iload_n 2, 1) := by decide +kernel
theorem dX11_keepCounts_28 : decode cX11_keepCounts 28 = .ok (.if_icmp .gt 34, 3) := by decide +kernel
theorem dX11_keepCounts_31 : decode cX11_keepCounts 31 = .ok (.aload_n 0, 1) := by decide +kernel
theorem dX11_keepCounts_32 : decode cX11_keepCounts 32 = .ok (.getfield 106, 3) := by decide +kernel
theorem dX11_keepCounts_35 : decode cX11_keepCounts 35 = .ok (.iload_n 3, 1) := by decide +kernel
theorem dX11_keepCounts_36 : decode cX11_keepCounts 36 = .ok (.aload_n 0, 1) := by decide +kernel
theorem dX11_keepCounts_37 : decode cX11_keepCounts 37 = .ok (.iload_n 3, 1) := by decide +kernel
theorem dX11_keepCounts_38 : decode cX11_keepCounts 38 = .ok (.invokevirtual 214, 3) := by decide +kernel
theorem dX11_keepCounts_41 : decode cX11_keepCounts 41 = .ok (.lastore, 1) := by decide +kernel
theorem dX11_keepCounts_42 : decode cX11_keepCounts 42 = .ok (.aload_n 0, 1) := by decide +kernel
theorem dX11_keepCounts_43 : decode cX11_keepCounts 43 = .ok (.getfield 106, 3) := by decide +kernel
theorem dX11_keepCounts_46 : decode cX11_keepCounts 46 = .ok (.iload_n 3, 1) := by decide +kernel
theorem dX11_keepCounts_47 : decode cX11_keepCounts 47 = .ok (.laload, 1) := by decide +kernel
theorem dX11_keepCounts_48 : decode cX11_keepCounts 48 = .ok (.lconst 0, 1) := by decide +kernel
theorem dX11_keepCounts_49 : decode cX11_keepCounts 49 = .ok (.lcmp, 1) := by decide +kernel
theorem dX11_keepCounts_50 : decode cX11_keepCounts 50 = .ok (.ifCond .ge 6, 3) := by decide +kernel
theorem dX11_keepCounts_53 : decode cX11_keepCounts 53 = .ok (.bipush (-6), 2) := by decide +kernel
theorem dX11_keepCounts_55 : decode cX11_keepCounts 55 = .ok (.ireturn, 1) := by decide +kernel
theorem dX11_keepCounts_56 : decode cX11_keepCounts 56 = .ok (.iinc 3 1, 3) := by decide +kernel
theorem dX11_keepCounts_59 : decode cX11_keepCounts 59 = .ok (.goto (-33), 3) := by decide +kernel
theorem dX11_keepCounts_62 : decode cX11_keepCounts 62 = .ok (.aload_n 0, 1) := by decide +kernel
theorem dX11_keepCounts_63 : decode cX11_keepCounts 63 = .ok (.getfield 97, 3) := by decide +kernel
theorem dX11_keepCounts_66 : decode cX11_keepCounts 66 = .ok (.iload_n 1, 1) := by decide +kernel
theorem dX11_keepCounts_67 : decode cX11_keepCounts 67 = .ok (.iconst 2, 1) := by decide +kernel
theorem dX11_keepCounts_68 : decode cX11_keepCounts 68 = .ok (.iastore, 1) := by decide +kernel
theorem dX11_keepCounts_69 : decode cX11_keepCounts 69 = .ok (.aload_n 0, 1) := by decide +kernel
theorem dX11_keepCounts_70 : decode cX11_keepCounts 70 = .ok (.getfield 100, 3) := by decide +kernel
theorem dX11_keepCounts_73 : decode cX11_keepCounts 73 = .ok (.iload_n 1, 1) := by decide +kernel
theorem dX11_keepCounts_74 : decode cX11_keepCounts 74 = .ok (.iload_n 2, 1) := by decide +kernel
theorem dX11_keepCounts_75 : decode cX11_keepCounts 75 = .ok (.iconst 1, 1) := by decide +kernel
theorem dX11_keepCounts_76 : decode cX11_keepCounts 76 = .ok (.iadd, 1) := by decide +kernel
theorem dX11_keepCounts_77 : decode cX11_keepCounts 77 = .ok (.iastore, 1) := by decide +kernel
theorem dX11_keepCounts_78 : decode cX11_keepCounts 78 = .ok (.iconst 0, 1) := by decide +kernel
theorem dX11_keepCounts_79 : decode cX11_keepCounts 79 = .ok (.istore_n 3, 1) := by decide +kernel
theorem dX11_keepCounts_80 : decode cX11_keepCounts 80 = .ok (.iload_n 3, 1) := by decide +kernel
theorem dX11_keepCounts_81 : decode cX11_keepCounts 81 = .ok (.iload_n 2, 1) := by decide +kernel
theorem dX11_keepCounts_82 : decode cX11_keepCounts 82 = .ok (.if_icmp .gt 26, 3) := by decide +kernel
theorem dX11_keepCounts_85 : decode cX11_keepCounts 85 = .ok (.aload_n 0, 1) := by decide +kernel
theorem dX11_keepCounts_86 : decode cX11_keepCounts 86 = .ok (.getfield 103, 3) := by decide +kernel
theorem dX11_keepCounts_89 : decode cX11_keepCounts 89 = .ok (.bipush 31, 2) := by decide +kernel
theorem dX11_keepCounts_91 : decode cX11_keepCounts 91 = .ok (.iload_n 1, 1) := by decide +kernel
theorem dX11_keepCounts_92 : decode cX11_keepCounts 92 = .ok (.imul, 1) := by decide +kernel
theorem dX11_keepCounts_93 : decode cX11_keepCounts 93 = .ok (.iload_n 3, 1) := by decide +kernel
theorem dX11_keepCounts_94 : decode cX11_keepCounts 94 = .ok (.iadd, 1) := by decide +kernel
theorem dX11_keepCounts_95 : decode cX11_keepCounts 95 = .ok (.aload_n 0, 1) := by decide +kernel
theorem dX11_keepCounts_96 : decode cX11_keepCounts 96 = .ok (.getfield 106, 3) := by decide +kernel
theorem dX11_keepCounts_99 : decode cX11_keepCounts 99 = .ok (.iload_n 3, 1) := by decide +kernel
theorem dX11_keepCounts_100 : decode cX11_keepCounts 100 = .ok (.laload, 1) := by decide +kernel
theorem dX11_keepCounts_101 : decode cX11_keepCounts 101 = .ok (.lastore, 1) := by decide +kernel
theorem dX11_keepCounts_102 : decode cX11_keepCounts 102 = .ok (.iinc 3 1, 3) := by decide +kernel
theorem dX11_keepCounts_105 : decode cX11_keepCounts 105 = .ok (.goto (-25), 3) := by decide +kernel
theorem dX11_keepCounts_108 : decode cX11_keepCounts 108 = .ok (.iload_n 2, 1) := by decide +kernel
theorem dX11_keepCounts_109 : decode cX11_keepCounts 109 = .ok (.iconst 1, 1) := by decide +kernel
theorem dX11_keepCounts_110 : decode cX11_keepCounts 110 = .ok (.iadd, 1) := by decide +kernel
theorem dX11_keepCounts_111 : decode cX11_keepCounts 111 = .ok (.ireturn, 1) := by decide +kernel
set_option maxRecDepth 20000 in
theorem ggX11_useWord_X11_isShelf : GoodIn wsX11_useWord wsX11_isShelf := goodIn_r _ [9] (by decide +kernel) (by decide +kernel)
set_option maxRecDepth 20000 in
theorem gX11_useWord_X11_isShelf : GoodIn wsX11_useWord (va_wsS RX11 354 yX11_isShelf wsX11_isShelf) := goodIn_app (goodIn_of _ (by decide +kernel)) ggX11_useWord_X11_isShelf
theorem dX11_useWord_0 : decode cX11_useWord 0 = .ok (.iload_n 1, 1) := by decide +kernel
theorem dX11_useWord_1 : decode cX11_useWord 1 = .ok (.invokestatic 354, 3) := by decide +kernel
theorem dX11_useWord_4 : decode cX11_useWord 4 = .ok (.ifCond .ne 5, 3) := by decide +kernel
theorem dX11_useWord_7 : decode cX11_useWord 7 = .ok (.iconst (-1), 1) := by decide +kernel
theorem dX11_useWord_8 : decode cX11_useWord 8 = .ok (.ireturn, 1) := by decide +kernel
theorem dX11_useWord_9 : decode cX11_useWord 9 = .ok (.aload_n 0, 1) := by decide +kernel
theorem dX11_useWord_10 : decode cX11_useWord 10 = .ok (.getfield 97, 3) := by decide +kernel
theorem dX11_useWord_13 : decode cX11_useWord 13 = .ok (.iload_n 1, 1) := by decide +kernel
theorem dX11_useWord_14 : decode cX11_useWord 14 = .ok (.iaload, 1) := by decide +kernel
theorem dX11_useWord_15 : decode cX11_useWord 15 = .ok (.ifCond .ne 6, 3) := by decide +kernel
theorem dX11_useWord_18 : decode cX11_useWord 18 = .ok (.bipush (-7), 2) := by decide +kernel
theorem dX11_useWord_20 : decode cX11_useWord 20 = .ok (.ireturn, 1) := by decide +kernel
theorem dX11_useWord_21 : decode cX11_useWord 21 = .ok (.aload_n 0, 1) := by decide +kernel
theorem dX11_useWord_22 : decode cX11_useWord 22 = .ok (.getfield 97, 3) := by decide +kernel
theorem dX11_useWord_25 : decode cX11_useWord 25 = .ok (.iload_n 1, 1) := by decide +kernel
theorem dX11_useWord_26 : decode cX11_useWord 26 = .ok (.iaload, 1) := by decide +kernel
theorem dX11_useWord_27 : decode cX11_useWord 27 = .ok (.iconst 2, 1) := by decide +kernel
theorem dX11_useWord_28 : decode cX11_useWord 28 = .ok (.if_icmp .ne 6, 3) := by decide +kernel
theorem dX11_useWord_31 : decode cX11_useWord 31 = .ok (.bipush (-8), 2) := by decide +kernel
theorem dX11_useWord_33 : decode cX11_useWord 33 = .ok (.ireturn, 1) := by decide +kernel
theorem dX11_useWord_34 : decode cX11_useWord 34 = .ok (.aload_n 0, 1) := by decide +kernel
theorem dX11_useWord_35 : decode cX11_useWord 35 = .ok (.aload_n 0, 1) := by decide +kernel
theorem dX11_useWord_36 : decode cX11_useWord 36 = .ok (.getfield 100, 3) := by decide +kernel
theorem dX11_useWord_39 : decode cX11_useWord 39 = .ok (.iload_n 1, 1) := by decide +kernel
theorem dX11_useWord_40 : decode cX11_useWord 40 = .ok (.iaload, 1) := by decide +kernel
theorem dX11_useWord_41 : decode cX11_useWord 41 = .ok (.putfield 197, 3) := by decide +kernel
theorem dX11_useWord_44 : decode cX11_useWord 44 = .ok (.iconst 0, 1) := by decide +kernel
theorem dX11_useWord_45 : decode cX11_useWord 45 = .ok (.istore_n 2, 1) := by decide +kernel
theorem dX11_useWord_46 : decode cX11_useWord 46 = .ok (.iload_n 2, 1) := by decide +kernel
theorem dX11_useWord_47 : decode cX11_useWord 47 = .ok (.aload_n 0, 1) := by decide +kernel
theorem dX11_useWord_48 : decode cX11_useWord 48 = .ok (.getfield 197, 3) := by decide +kernel
theorem dX11_useWord_51 : decode cX11_useWord 51 = .ok (.if_icmp .ge 27, 3) := by decide +kernel
theorem dX11_useWord_54 : decode cX11_useWord 54 = .ok (.aload_n 0, 1) := by decide +kernel
theorem dX11_useWord_55 : decode cX11_useWord 55 = .ok (.getfield 35, 3) := by decide +kernel
theorem dX11_useWord_58 : decode cX11_useWord 58 = .ok (.iload_n 2, 1) := by decide +kernel
theorem dX11_useWord_59 : decode cX11_useWord 59 = .ok (.aload_n 0, 1) := by decide +kernel
theorem dX11_useWord_60 : decode cX11_useWord 60 = .ok (.getfield 103, 3) := by decide +kernel
theorem dX11_useWord_63 : decode cX11_useWord 63 = .ok (.bipush 31, 2) := by decide +kernel
theorem dX11_useWord_65 : decode cX11_useWord 65 = .ok (.iload_n 1, 1) := by decide +kernel
theorem dX11_useWord_66 : decode cX11_useWord 66 = .ok (.imul, 1) := by decide +kernel
theorem dX11_useWord_67 : decode cX11_useWord 67 = .ok (.iload_n 2, 1) := by decide +kernel
theorem dX11_useWord_68 : decode cX11_useWord 68 = .ok (.iadd, 1) := by decide +kernel
theorem dX11_useWord_69 : decode cX11_useWord 69 = .ok (.laload, 1) := by decide +kernel
theorem dX11_useWord_70 : decode cX11_useWord 70 = .ok (.l2i, 1) := by decide +kernel
theorem dX11_useWord_71 : decode cX11_useWord 71 = .ok (.iastore, 1) := by decide +kernel
theorem dX11_useWord_72 : decode cX11_useWord 72 = .ok (.iinc 2 1, 3) := by decide +kernel
theorem dX11_useWord_75 : decode cX11_useWord 75 = .ok (.goto (-29), 3) := by decide +kernel
theorem dX11_useWord_78 : decode cX11_useWord 78 = .ok (.aload_n 0, 1) := by decide +kernel
theorem dX11_useWord_79 : decode cX11_useWord 79 = .ok (.getfield 197, 3) := by decide +kernel
theorem dX11_useWord_82 : decode cX11_useWord 82 = .ok (.ireturn, 1) := by decide +kernel
set_option maxRecDepth 20000 in
theorem ggX11_shelfElement_X11_isShelf : GoodIn wsX11_shelfElement wsX11_isShelf := goodIn_r _ [9] (by decide +kernel) (by decide +kernel)
set_option maxRecDepth 20000 in
theorem gX11_shelfElement_X11_isShelf : GoodIn wsX11_shelfElement (va_wsS RX11 354 yX11_isShelf wsX11_isShelf) := goodIn_app (goodIn_of _ (by decide +kernel)) ggX11_shelfElement_X11_isShelf
set_option maxRecDepth 20000 in
theorem ggX11_shelfElement_X11_isBetween : GoodIn wsX11_shelfElement wsX11_isBetween := goodIn_r _ [12] (by decide +kernel) (by decide +kernel)
set_option maxRecDepth 20000 in
theorem gX11_shelfElement_X11_isBetween : GoodIn wsX11_shelfElement (va_wsS RX11 124 yX11_isBetween wsX11_isBetween) := goodIn_app (goodIn_of _ (by decide +kernel)) ggX11_shelfElement_X11_isBetween
theorem dX11_shelfElement_0 : decode cX11_shelfElement 0 = .ok (.iload_n 1, 1) := by decide +kernel
theorem dX11_shelfElement_1 : decode cX11_shelfElement 1 = .ok (.invokestatic 354, 3) := by decide +kernel
theorem dX11_shelfElement_4 : decode cX11_shelfElement 4 = .ok (.ifCond .ne 7, 3) := by decide +kernel
theorem dX11_shelfElement_7 : decode cX11_shelfElement 7 = .ok (.ldc2_w 204, 3) := by decide +kernel
theorem dX11_shelfElement_10 : decode cX11_shelfElement 10 = .ok (.lreturn, 1) := by decide +kernel
theorem dX11_shelfElement_11 : decode cX11_shelfElement 11 = .ok (.aload_n 0, 1) := by decide +kernel
theorem dX11_shelfElement_12 : decode cX11_shelfElement 12 = .ok (.getfield 97, 3) := by decide +kernel
theorem dX11_shelfElement_15 : decode cX11_shelfElement 15 = .ok (.iload_n 1, 1) := by decide +kernel
theorem dX11_shelfElement_16 : decode cX11_shelfElement 16 = .ok (.iaload, 1) := by decide +kernel
theorem dX11_shelfElement_17 : decode cX11_shelfElement 17 = .ok (.ifCond .ne 7, 3) := by decide +kernel
theorem dX11_shelfElement_20 : decode cX11_shelfElement 20 = .ok (.ldc2_w 359, 3) := by decide +kernel
theorem dX11_shelfElement_23 : decode cX11_shelfElement 23 = .ok (.lreturn, 1) := by decide +kernel
theorem dX11_shelfElement_24 : decode cX11_shelfElement 24 = .ok (.iload_n 2, 1) := by decide +kernel
theorem dX11_shelfElement_25 : decode cX11_shelfElement 25 = .ok (.i2l, 1) := by decide +kernel
theorem dX11_shelfElement_26 : decode cX11_shelfElement 26 = .ok (.lconst 0, 1) := by decide +kernel
theorem dX11_shelfElement_27 : decode cX11_shelfElement 27 = .ok (.aload_n 0, 1) := by decide +kernel
theorem dX11_shelfElement_28 : decode cX11_shelfElement 28 = .ok (.getfield 100, 3) := by decide +kernel
theorem dX11_shelfElement_31 : decode cX11_shelfElement 31 = .ok (.iload_n 1, 1) := by decide +kernel
theorem dX11_shelfElement_32 : decode cX11_shelfElement 32 = .ok (.iaload, 1) := by decide +kernel
theorem dX11_shelfElement_33 : decode cX11_shelfElement 33 = .ok (.iconst 1, 1) := by decide +kernel
theorem dX11_shelfElement_34 : decode cX11_shelfElement 34 = .ok (.isub, 1) := by decide +kernel
theorem dX11_shelfElement_35 : decode cX11_shelfElement 35 = .ok (.i2l, 1) := by decide +kernel
theorem dX11_shelfElement_36 : decode cX11_shelfElement 36 = .ok (.invokestatic 124, 3) := by decide +kernel
theorem dX11_shelfElement_39 : decode cX11_shelfElement 39 = .ok (.ifCond .eq 17, 3) := by decide +kernel
theorem dX11_shelfElement_42 : decode cX11_shelfElement 42 = .ok (.aload_n 0, 1) := by decide +kernel
theorem dX11_shelfElement_43 : decode cX11_shelfElement 43 = .ok (.getfield 103, 3) := by decide +kernel
theorem dX11_shelfElement_46 : decode cX11_shelfElement 46 = .ok (.bipush 31, 2) := by decide +kernel
theorem dX11_shelfElement_48 : decode cX11_shelfElement 48 = .ok (.iload_n 1, 1) := by decide +kernel
theorem dX11_shelfElement_49 : decode cX11_shelfElement 49 = .ok (.imul, 1) := by decide +kernel
theorem dX11_shelfElement_50 : decode cX11_shelfElement 50 = .ok (.iload_n 2, 1) := by decide +kernel
theorem dX11_shelfElement_51 : decode cX11_shelfElement 51 = .ok (.iadd, 1) := by decide +kernel
theorem dX11_shelfElement_52 : decode cX11_shelfElement 52 = .ok (.laload, 1) := by decide +kernel
theorem dX11_shelfElement_53 : decode cX11_shelfElement 53 = .ok (.goto 6, 3) := by decide +kernel
theorem dX11_shelfElement_56 : decode cX11_shelfElement 56 = .ok (.ldc2_w 204, 3) := by decide +kernel
theorem dX11_shelfElement_59 : decode cX11_shelfElement 59 = .ok (.lreturn, 1) := by decide +kernel
theorem dX11_save_0 : decode cX11_save 0 = .ok (.aload_n 0, 1) := by decide +kernel
theorem dX11_save_1 : decode cX11_save 1 = .ok (.iconst 1, 1) := by decide +kernel
theorem dX11_save_2 : decode cX11_save 2 = .ok (.putfield 361, 3) := by decide +kernel
theorem dX11_save_5 : decode cX11_save 5 = .ok (.iconst 0, 1) := by decide +kernel
theorem dX11_save_6 : decode cX11_save 6 = .ok (.istore_n 1, 1) := by decide +kernel
theorem dX11_save_7 : decode cX11_save 7 = .ok (.iload_n 1, 1) := by decide +kernel
theorem dX11_save_8 : decode cX11_save 8 = .ok (.bipush 18, 2) := by decide +kernel
theorem dX11_save_10 : decode cX11_save 10 = .ok (.if_icmp .ge 21, 3) := by decide +kernel
theorem dX11_save_13 : decode cX11_save 13 = .ok (.aload_n 0, 1) := by decide +kernel
theorem dX11_save_14 : decode cX11_save 14 = .ok (.getfield 109, 3) := by decide +kernel
theorem dX11_save_17 : decode cX11_save 17 = .ok (.iload_n 1, 1) := by decide +kernel
theorem dX11_save_18 : decode cX11_save 18 = .ok (.aload_n 0, 1) := by decide +kernel
theorem dX11_save_19 : decode cX11_save 19 = .ok (.getfield 7, 3) := by decide +kernel
theorem dX11_save_22 : decode cX11_save 22 = .ok (.iload_n 1, 1) := by decide +kernel
theorem dX11_save_23 : decode cX11_save 23 = .ok (.iaload, 1) := by decide +kernel
theorem dX11_save_24 : decode cX11_save 24 = .ok (.iastore, 1) := by decide +kernel
theorem dX11_save_25 : decode cX11_save 25 = .ok (.iinc 1 1, 3) := by decide +kernel
theorem dX11_save_28 : decode cX11_save 28 = .ok (.goto (-21), 3) := by decide +kernel
theorem dX11_save_31 : decode cX11_save 31 = .ok (.iconst 0, 1) := by decide +kernel
theorem dX11_save_32 : decode cX11_save 32 = .ok (.istore_n 1, 1) := by decide +kernel
theorem dX11_save_33 : decode cX11_save 33 = .ok (.iload_n 1, 1) := by decide +kernel
theorem dX11_save_34 : decode cX11_save 34 = .ok (.iconst 3, 1) := by decide +kernel
theorem dX11_save_35 : decode cX11_save 35 = .ok (.if_icmp .ge 24, 3) := by decide +kernel
theorem dX11_save_38 : decode cX11_save 38 = .ok (.aload_n 0, 1) := by decide +kernel
theorem dX11_save_39 : decode cX11_save 39 = .ok (.getfield 109, 3) := by decide +kernel
theorem dX11_save_42 : decode cX11_save 42 = .ok (.bipush 18, 2) := by decide +kernel
theorem dX11_save_44 : decode cX11_save 44 = .ok (.iload_n 1, 1) := by decide +kernel
theorem dX11_save_45 : decode cX11_save 45 = .ok (.iadd, 1) := by decide +kernel
theorem dX11_save_46 : decode cX11_save 46 = .ok (.aload_n 0, 1) := by decide +kernel
theorem dX11_save_47 : decode cX11_save 47 = .ok (.getfield 16, 3) := by decide +kernel
theorem dX11_save_50 : decode cX11_save 50 = .ok (.iload_n 1, 1) := by decide +kernel
theorem dX11_save_51 : decode cX11_save 51 = .ok (.iaload, 1) := by decide +kernel
theorem dX11_save_52 : decode cX11_save 52 = .ok (.iastore, 1) := by decide +kernel
theorem dX11_save_53 : decode cX11_save 53 = .ok (.iinc 1 1, 3) := by decide +kernel
theorem dX11_save_56 : decode cX11_save 56 = .ok (.goto (-23), 3) := by decide +kernel
theorem dX11_save_59 : decode cX11_save 59 = .ok (.aload_n 0, 1) := by decide +kernel
theorem dX11_save_60 : decode cX11_save 60 = .ok (.getfield 109, 3) := by decide +kernel
theorem dX11_save_63 : decode cX11_save 63 = .ok (.bipush 21, 2) := by decide +kernel
theorem dX11_save_65 : decode cX11_save 65 = .ok (.aload_n 0, 1) := by decide +kernel
theorem dX11_save_66 : decode cX11_save 66 = .ok (.getfield 19, 3) := by decide +kernel
theorem dX11_save_69 : decode cX11_save 69 = .ok (.iastore, 1) := by decide +kernel
theorem dX11_save_70 : decode cX11_save 70 = .ok (.aload_n 0, 1) := by decide +kernel
theorem dX11_save_71 : decode cX11_save 71 = .ok (.getfield 109, 3) := by decide +kernel
theorem dX11_save_74 : decode cX11_save 74 = .ok (.bipush 22, 2) := by decide +kernel
theorem dX11_save_76 : decode cX11_save 76 = .ok (.aload_n 0, 1) := by decide +kernel
theorem dX11_save_77 : decode cX11_save 77 = .ok (.getfield 112, 3) := by decide +kernel
theorem dX11_save_80 : decode cX11_save 80 = .ok (.iastore, 1) := by decide +kernel
theorem dX11_save_81 : decode cX11_save 81 = .ok (.aload_n 0, 1) := by decide +kernel
theorem dX11_save_82 : decode cX11_save 82 = .ok (.getfield 109, 3) := by decide +kernel
theorem dX11_save_85 : decode cX11_save 85 = .ok (.bipush 23, 2) := by decide +kernel
theorem dX11_save_87 : decode cX11_save 87 = .ok (.aload_n 0, 1) := by decide +kernel
theorem dX11_save_88 : decode cX11_save 88 = .ok (.getfield 115, 3) := by decide +kernel
theorem dX11_save_91 : decode cX11_save 91 = .ok (.iastore, 1) := by decide +kernel
theorem dX11_save_92 : decode cX11_save 92 = .ok (.aload_n 0, 1) := by decide +kernel
theorem dX11_save_93 : decode cX11_save 93 = .ok (.getfield 19, 3) := by decide +kernel
theorem dX11_save_96 : decode cX11_save 96 = .ok (.ireturn, 1) := by decide +kernel
theorem dX11_restore_0 : decode cX11_restore 0 = .ok (.aload_n 0, 1) := by decide +kernel
theorem dX11_restore_1 : decode cX11_restore 1 = .ok (.getfield 361, 3) := by decide +kernel
theorem dX11_restore_4 : decode cX11_restore 4 = .ok (.ifCond .ne 6, 3) := by decide +kernel
theorem dX11_restore_7 : decode cX11_restore 7 = .ok (.bipush (-4), 2) := by decide +kernel
theorem dX11_restore_9 : decode cX11_restore 9 = .ok (.ireturn, 1) := by decide +kernel
theorem dX11_restore_10 : decode cX11_restore 10 = .ok (.iconst 0, 1) := by decide +kernel
theorem dX11_restore_11 : decode cX11_restore 11 = .ok (.istore_n 1, 1) := by decide +kernel
theorem dX11_restore_12 : decode cX11_restore 12 = .ok (.iload_n 1, 1) := by decide +kernel
theorem dX11_restore_13 : decode cX11_restore 13 = .ok (.bipush 18, 2) := by decide +kernel
theorem dX11_restore_15 : decode cX11_restore 15 = .ok (.if_icmp .ge 21, 3) := by decide +kernel
theorem dX11_restore_18 : decode cX11_restore 18 = .ok (.aload_n 0, 1) := by decide +kernel
theorem dX11_restore_19 : decode cX11_restore 19 = .ok (.getfield 7, 3) := by decide +kernel
theorem dX11_restore_22 : decode cX11_restore 22 = .ok (.iload_n 1, 1) := by decide +kernel
