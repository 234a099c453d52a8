theorem dX11_init_104 : decode cX11_init 104 = .ok (.newarray .int, 2) := by decide +kernel
theorem dX11_init_106 : decode cX11_init 106 = .ok (.putfield 45, 3) := by decide +kernel
theorem dX11_init_109 : decode cX11_init 109 = .ok (.aload_n 0, 1) := by decide +kernel
theorem dX11_init_110 : decode cX11_init 110 = .ok (.sipush 216, 3) := by decide +kernel
theorem dX11_init_113 : decode cX11_init 113 = .ok (.newarray .int, 2) := by decide +kernel
theorem dX11_init_115 : decode cX11_init 115 = .ok (.putfield 48, 3) := by decide +kernel
theorem dX11_init_118 : decode cX11_init 118 = .ok (.aload_n 0, 1) := by decide +kernel
theorem dX11_init_119 : decode cX11_init 119 = .ok (.sipush 216, 3) := by decide +kernel
theorem dX11_init_122 : decode cX11_init 122 = .ok (.newarray .int, 2) := by decide +kernel
theorem dX11_init_124 : decode cX11_init 124 = .ok (.putfield 51, 3) := by decide +kernel
theorem dX11_init_127 : decode cX11_init 127 = .ok (.aload_n 0, 1) := by decide +kernel
theorem dX11_init_128 : decode cX11_init 128 = .ok (.sipush 216, 3) := by decide +kernel
theorem dX11_init_131 : decode cX11_init 131 = .ok (.newarray .boolean, 2) := by decide +kernel
theorem dX11_init_133 : decode cX11_init 133 = .ok (.putfield 54, 3) := by decide +kernel
theorem dX11_init_136 : decode cX11_init 136 = .ok (.aload_n 0, 1) := by decide +kernel
theorem dX11_init_137 : decode cX11_init 137 = .ok (.sipush 216, 3) := by decide +kernel
theorem dX11_init_140 : decode cX11_init 140 = .ok (.newarray .boolean, 2) := by decide +kernel
theorem dX11_init_142 : decode cX11_init 142 = .ok (.putfield 58, 3) := by decide +kernel
theorem dX11_init_145 : decode cX11_init 145 = .ok (.aload_n 0, 1) := by decide +kernel
theorem dX11_init_146 : decode cX11_init 146 = .ok (.bipush 36, 2) := by decide +kernel
theorem dX11_init_148 : decode cX11_init 148 = .ok (.newarray .boolean, 2) := by decide +kernel
theorem dX11_init_150 : decode cX11_init 150 = .ok (.putfield 61, 3) := by decide +kernel
theorem dX11_init_153 : decode cX11_init 153 = .ok (.aload_n 0, 1) := by decide +kernel
theorem dX11_init_154 : decode cX11_init 154 = .ok (.bipush 36, 2) := by decide +kernel
theorem dX11_init_156 : decode cX11_init 156 = .ok (.newarray .int, 2) := by decide +kernel
theorem dX11_init_158 : decode cX11_init 158 = .ok (.putfield 64, 3) := by decide +kernel
theorem dX11_init_161 : decode cX11_init 161 = .ok (.aload_n 0, 1) := by decide +kernel
theorem dX11_init_162 : decode cX11_init 162 = .ok (.sipush 6000, 3) := by decide +kernel
theorem dX11_init_165 : decode cX11_init 165 = .ok (.newarray .long, 2) := by decide +kernel
theorem dX11_init_167 : decode cX11_init 167 = .ok (.putfield 67, 3) := by decide +kernel
theorem dX11_init_170 : decode cX11_init 170 = .ok (.aload_n 0, 1) := by decide +kernel
theorem dX11_init_171 : decode cX11_init 171 = .ok (.bipush 6, 2) := by decide +kernel
theorem dX11_init_173 : decode cX11_init 173 = .ok (.newarray .long, 2) := by decide +kernel
theorem dX11_init_175 : decode cX11_init 175 = .ok (.putfield 70, 3) := by decide +kernel
theorem dX11_init_178 : decode cX11_init 178 = .ok (.aload_n 0, 1) := by decide +kernel
theorem dX11_init_179 : decode cX11_init 179 = .ok (.bipush 6, 2) := by decide +kernel
theorem dX11_init_181 : decode cX11_init 181 = .ok (.newarray .int, 2) := by decide +kernel
theorem dX11_init_183 : decode cX11_init 183 = .ok (.putfield 73, 3) := by decide +kernel
theorem dX11_init_186 : decode cX11_init 186 = .ok (.aload_n 0, 1) := by decide +kernel
theorem dX11_init_187 : decode cX11_init 187 = .ok (.bipush 64, 2) := by decide +kernel
theorem dX11_init_189 : decode cX11_init 189 = .ok (.newarray .int, 2) := by decide +kernel
theorem dX11_init_191 : decode cX11_init 191 = .ok (.putfield 76, 3) := by decide +kernel
theorem dX11_init_194 : decode cX11_init 194 = .ok (.aload_n 0, 1) := by decide +kernel
theorem dX11_init_195 : decode cX11_init 195 = .ok (.bipush 64, 2) := by decide +kernel
theorem dX11_init_197 : decode cX11_init 197 = .ok (.newarray .int, 2) := by decide +kernel
theorem dX11_init_199 : decode cX11_init 199 = .ok (.putfield 79, 3) := by decide +kernel
theorem dX11_init_202 : decode cX11_init 202 = .ok (.aload_n 0, 1) := by decide +kernel
theorem dX11_init_203 : decode cX11_init 203 = .ok (.bipush 64, 2) := by decide +kernel
theorem dX11_init_205 : decode cX11_init 205 = .ok (.newarray .int, 2) := by decide +kernel
theorem dX11_init_207 : decode cX11_init 207 = .ok (.putfield 82, 3) := by decide +kernel
theorem dX11_init_210 : decode cX11_init 210 = .ok (.aload_n 0, 1) := by decide +kernel
theorem dX11_init_211 : decode cX11_init 211 = .ok (.bipush 64, 2) := by decide +kernel
theorem dX11_init_213 : decode cX11_init 213 = .ok (.newarray .int, 2) := by decide +kernel
theorem dX11_init_215 : decode cX11_init 215 = .ok (.putfield 85, 3) := by decide +kernel
theorem dX11_init_218 : decode cX11_init 218 = .ok (.aload_n 0, 1) := by decide +kernel
theorem dX11_init_219 : decode cX11_init 219 = .ok (.sipush 192, 3) := by decide +kernel
theorem dX11_init_222 : decode cX11_init 222 = .ok (.newarray .long, 2) := by decide +kernel
theorem dX11_init_224 : decode cX11_init 224 = .ok (.putfield 88, 3) := by decide +kernel
theorem dX11_init_227 : decode cX11_init 227 = .ok (.aload_n 0, 1) := by decide +kernel
theorem dX11_init_228 : decode cX11_init 228 = .ok (.sipush 192, 3) := by decide +kernel
theorem dX11_init_231 : decode cX11_init 231 = .ok (.newarray .long, 2) := by decide +kernel
theorem dX11_init_233 : decode cX11_init 233 = .ok (.putfield 91, 3) := by decide +kernel
theorem dX11_init_236 : decode cX11_init 236 = .ok (.aload_n 0, 1) := by decide +kernel
theorem dX11_init_237 : decode cX11_init 237 = .ok (.bipush (-4), 2) := by decide +kernel
theorem dX11_init_239 : decode cX11_init 239 = .ok (.putfield 94, 3) := by decide +kernel
theorem dX11_init_242 : decode cX11_init 242 = .ok (.aload_n 0, 1) := by decide +kernel
theorem dX11_init_243 : decode cX11_init 243 = .ok (.iconst 4, 1) := by decide +kernel
theorem dX11_init_244 : decode cX11_init 244 = .ok (.newarray .int, 2) := by decide +kernel
theorem dX11_init_246 : decode cX11_init 246 = .ok (.putfield 97, 3) := by decide +kernel
theorem dX11_init_249 : decode cX11_init 249 = .ok (.aload_n 0, 1) := by decide +kernel
theorem dX11_init_250 : decode cX11_init 250 = .ok (.iconst 4, 1) := by decide +kernel
theorem dX11_init_251 : decode cX11_init 251 = .ok (.newarray .int, 2) := by decide +kernel
theorem dX11_init_253 : decode cX11_init 253 = .ok (.putfield 100, 3) := by decide +kernel
theorem dX11_init_256 : decode cX11_init 256 = .ok (.aload_n 0, 1) := by decide +kernel
theorem dX11_init_257 : decode cX11_init 257 = .ok (.bipush 124, 2) := by decide +kernel
theorem dX11_init_259 : decode cX11_init 259 = .ok (.newarray .long, 2) := by decide +kernel
theorem dX11_init_261 : decode cX11_init 261 = .ok (.putfield 103, 3) := by decide +kernel
theorem dX11_init_264 : decode cX11_init 264 = .ok (.aload_n 0, 1) := by decide +kernel
theorem dX11_init_265 : decode cX11_init 265 = .ok (.bipush 31, 2) := by decide +kernel
theorem dX11_init_267 : decode cX11_init 267 = .ok (.newarray .long, 2) := by decide +kernel
theorem dX11_init_269 : decode cX11_init 269 = .ok (.putfield 106, 3) := by decide +kernel
theorem dX11_init_272 : decode cX11_init 272 = .ok (.aload_n 0, 1) := by decide +kernel
theorem dX11_init_273 : decode cX11_init 273 = .ok (.bipush 24, 2) := by decide +kernel
theorem dX11_init_275 : decode cX11_init 275 = .ok (.newarray .int, 2) := by decide +kernel
theorem dX11_init_277 : decode cX11_init 277 = .ok (.putfield 109, 3) := by decide +kernel
theorem dX11_init_280 : decode cX11_init 280 = .ok (.return_, 1) := by decide +kernel
theorem dX11_isBetween_0 : decode cX11_isBetween 0 = .ok (.lload_n 0, 1) := by decide +kernel
theorem dX11_isBetween_1 : decode cX11_isBetween 1 = .ok (.lload_n 2, 1) := by decide +kernel
theorem dX11_isBetween_2 : decode cX11_isBetween 2 = .ok (.lcmp, 1) := by decide +kernel
theorem dX11_isBetween_3 : decode cX11_isBetween 3 = .ok (.ifCond .lt 14, 3) := by decide +kernel
theorem dX11_isBetween_6 : decode cX11_isBetween 6 = .ok (.lload_n 0, 1) := by decide +kernel
theorem dX11_isBetween_7 : decode cX11_isBetween 7 = .ok (.lload 4, 2) := by decide +kernel
theorem dX11_isBetween_9 : decode cX11_isBetween 9 = .ok (.lcmp, 1) := by decide +kernel
theorem dX11_isBetween_10 : decode cX11_isBetween 10 = .ok (.ifCond .gt 7, 3) := by decide +kernel
theorem dX11_isBetween_13 : decode cX11_isBetween 13 = .ok (.iconst 1, 1) := by decide +kernel
theorem dX11_isBetween_14 : decode cX11_isBetween 14 = .ok (.goto 4, 3) := by decide +kernel
theorem dX11_isBetween_17 : decode cX11_isBetween 17 = .ok (.iconst 0, 1) := by decide +kernel
theorem dX11_isBetween_18 : decode cX11_isBetween 18 = .ok (.ireturn, 1) := by decide +kernel
theorem dX11_has_0 : decode cX11_has 0 = .ok (.lload_n 0, 1) := by decide +kernel
theorem dX11_has_1 : decode cX11_has 1 = .ok (.iload_n 2, 1) := by decide +kernel
theorem dX11_has_2 : decode cX11_has 2 = .ok (.lshr, 1) := by decide +kernel
theorem dX11_has_3 : decode cX11_has 3 = .ok (.lconst 1, 1) := by decide +kernel
theorem dX11_has_4 : decode cX11_has 4 = .ok (.land, 1) := by decide +kernel
theorem dX11_has_5 : decode cX11_has 5 = .ok (.lconst 1, 1) := by decide +kernel
theorem dX11_has_6 : decode cX11_has 6 = .ok (.lcmp, 1) := by decide +kernel
theorem dX11_has_7 : decode cX11_has 7 = .ok (.ifCond .ne 7, 3) := by decide +kernel
theorem dX11_has_10 : decode cX11_has 10 = .ok (.iconst 1, 1) := by decide +kernel
theorem dX11_has_11 : decode cX11_has 11 = .ok (.goto 4, 3) := by decide +kernel
theorem dX11_has_14 : decode cX11_has 14 = .ok (.iconst 0, 1) := by decide +kernel
theorem dX11_has_15 : decode cX11_has 15 = .ok (.ireturn, 1) := by decide +kernel
theorem dX11_isState_0 : decode cX11_isState 0 = .ok (.iload_n 1, 1) := by decide +kernel
theorem dX11_isState_1 : decode cX11_isState 1 = .ok (.ifCond .lt 15, 3) := by decide +kernel
theorem dX11_isState_4 : decode cX11_isState 4 = .ok (.iload_n 1, 1) := by decide +kernel
theorem dX11_isState_5 : decode cX11_isState 5 = .ok (.aload_n 0, 1) := by decide +kernel
theorem dX11_isState_6 : decode cX11_isState 6 = .ok (.getfield 19, 3) := by decide +kernel
theorem dX11_isState_9 : decode cX11_isState 9 = .ok (.if_icmp .ge 7, 3) := by decide +kernel
theorem dX11_isState_12 : decode cX11_isState 12 = .ok (.iconst 1, 1) := by decide +kernel
theorem dX11_isState_13 : decode cX11_isState 13 = .ok (.goto 4, 3) := by decide +kernel
theorem dX11_isState_16 : decode cX11_isState 16 = .ok (.iconst 0, 1) := by decide +kernel
theorem dX11_isState_17 : decode cX11_isState 17 = .ok (.ireturn, 1) := by decide +kernel
theorem dX11_isLetter_0 : decode cX11_isLetter 0 = .ok (.iload_n 0, 1) := by decide +kernel
theorem dX11_isLetter_1 : decode cX11_isLetter 1 = .ok (.ifCond .lt 12, 3) := by decide +kernel
theorem dX11_isLetter_4 : decode cX11_isLetter 4 = .ok (.iload_n 0, 1) := by decide +kernel
theorem dX11_isLetter_5 : decode cX11_isLetter 5 = .ok (.iconst 3, 1) := by decide +kernel
theorem dX11_isLetter_6 : decode cX11_isLetter 6 = .ok (.if_icmp .ge 7, 3) := by decide +kernel
theorem dX11_isLetter_9 : decode cX11_isLetter 9 = .ok (.iconst 1, 1) := by decide +kernel
theorem dX11_isLetter_10 : decode cX11_isLetter 10 = .ok (.goto 4, 3) := by decide +kernel
theorem dX11_isLetter_13 : decode cX11_isLetter 13 = .ok (.iconst 0, 1) := by decide +kernel
theorem dX11_isLetter_14 : decode cX11_isLetter 14 = .ok (.ireturn, 1) := by decide +kernel
theorem dX11_clears_0 : decode cX11_clears 0 = .ok (.aload_n 0, 1) := by decide +kernel
theorem dX11_clears_1 : decode cX11_clears 1 = .ok (.iload_n 1, 1) := by decide +kernel
theorem dX11_clears_2 : decode cX11_clears 2 = .ok (.putfield 19, 3) := by decide +kernel
theorem dX11_clears_5 : decode cX11_clears 5 = .ok (.aload_n 0, 1) := by decide +kernel
theorem dX11_clears_6 : decode cX11_clears 6 = .ok (.iconst 0, 1) := by decide +kernel
theorem dX11_clears_7 : decode cX11_clears 7 = .ok (.putfield 112, 3) := by decide +kernel
theorem dX11_clears_10 : decode cX11_clears 10 = .ok (.aload_n 0, 1) := by decide +kernel
theorem dX11_clears_11 : decode cX11_clears 11 = .ok (.iconst 0, 1) := by decide +kernel
theorem dX11_clears_12 : decode cX11_clears 12 = .ok (.putfield 115, 3) := by decide +kernel
theorem dX11_clears_15 : decode cX11_clears 15 = .ok (.iconst 0, 1) := by decide +kernel
theorem dX11_clears_16 : decode cX11_clears 16 = .ok (.istore_n 2, 1) := by decide +kernel
theorem dX11_clears_17 : decode cX11_clears 17 = .ok (.iload_n 2, 1) := by decide +kernel
theorem dX11_clears_18 : decode cX11_clears 18 = .ok (.bipush 18, 2) := by decide +kernel
theorem dX11_clears_20 : decode cX11_clears 20 = .ok (.if_icmp .ge 16, 3) := by decide +kernel
theorem dX11_clears_23 : decode cX11_clears 23 = .ok (.aload_n 0, 1) := by decide +kernel
theorem dX11_clears_24 : decode cX11_clears 24 = .ok (.getfield 7, 3) := by decide +kernel
theorem dX11_clears_27 : decode cX11_clears 27 = .ok (.iload_n 2, 1) := by decide +kernel
theorem dX11_clears_28 : decode cX11_clears 28 = .ok (.iconst 0, 1) := by decide +kernel
theorem dX11_clears_29 : decode cX11_clears 29 = .ok (.iastore, 1) := by decide +kernel
theorem dX11_clears_30 : decode cX11_clears 30 = .ok (.iinc 2 1, 3) := by decide +kernel
theorem dX11_clears_33 : decode cX11_clears 33 = .ok (.goto (-16), 3) := by decide +kernel
theorem dX11_clears_36 : decode cX11_clears 36 = .ok (.aload_n 0, 1) := by decide +kernel
theorem dX11_clears_37 : decode cX11_clears 37 = .ok (.iconst 0, 1) := by decide +kernel
theorem dX11_clears_38 : decode cX11_clears 38 = .ok (.putfield 118, 3) := by decide +kernel
theorem dX11_clears_41 : decode cX11_clears 41 = .ok (.return_, 1) := by decide +kernel
set_option maxRecDepth 20000 in
theorem ggX11_reset_X11_isBetween : GoodIn wsX11_reset wsX11_isBetween := goodIn_r _ [6] (by decide +kernel) (by decide +kernel)
set_option maxRecDepth 20000 in
theorem gX11_reset_X11_isBetween : GoodIn wsX11_reset (va_wsS RX11 124 yX11_isBetween wsX11_isBetween) := goodIn_app (goodIn_of _ (by decide +kernel)) ggX11_reset_X11_isBetween
set_option maxRecDepth 20000 in
theorem ggX11_reset_X11_clears : GoodIn wsX11_reset wsX11_clears := goodIn_r _ [10, 2, 11, 12, 13, 14, 15, 16, 17, 18, 19, 20, 21, 22, 23, 24, 25, 26, 27, 28, 29, 30, 31, 32, 33, 34, 35, 36, 37, 38, 39, 40, 41, 42, 43, 44, 45, 46, 47, 48, 49, 50, 51, 52, 53, 54, 55, 56, 57, 58, 59, 60, 61, 62, 63, 64] (by decide +kernel) (by decide +kernel)
set_option maxRecDepth 20000 in
theorem gX11_reset_X11_clears : GoodIn wsX11_reset (wsV RX11 128 RX11 yX11_clears wsX11_clears) := goodIn_app (goodIn_of _ (by decide +kernel)) ggX11_reset_X11_clears
theorem dX11_reset_0 : decode cX11_reset 0 = .ok (.iload_n 1, 1) := by decide +kernel
theorem dX11_reset_1 : decode cX11_reset 1 = .ok (.i2l, 1) := by decide +kernel
theorem dX11_reset_2 : decode cX11_reset 2 = .ok (.lconst 1, 1) := by decide +kernel
theorem dX11_reset_3 : decode cX11_reset 3 = .ok (.ldc2_w 122, 3) := by decide +kernel
theorem dX11_reset_6 : decode cX11_reset 6 = .ok (.invokestatic 124, 3) := by decide +kernel
theorem dX11_reset_9 : decode cX11_reset 9 = .ok (.ifCond .ne 6, 3) := by decide +kernel
theorem dX11_reset_12 : decode cX11_reset 12 = .ok (.bipush (-2), 2) := by decide +kernel
theorem dX11_reset_14 : decode cX11_reset 14 = .ok (.ireturn, 1) := by decide +kernel
theorem dX11_reset_15 : decode cX11_reset 15 = .ok (.aload_n 0, 1) := by decide +kernel
theorem dX11_reset_16 : decode cX11_reset 16 = .ok (.getfield 19, 3) := by decide +kernel
theorem dX11_reset_19 : decode cX11_reset 19 = .ok (.istore_n 2, 1) := by decide +kernel
theorem dX11_reset_20 : decode cX11_reset 20 = .ok (.aload_n 0, 1) := by decide +kernel
theorem dX11_reset_21 : decode cX11_reset 21 = .ok (.iload_n 1, 1) := by decide +kernel
theorem dX11_reset_22 : decode cX11_reset 22 = .ok (.invokevirtual 128, 3) := by decide +kernel
theorem dX11_reset_25 : decode cX11_reset 25 = .ok (.iload_n 2, 1) := by decide +kernel
theorem dX11_reset_26 : decode cX11_reset 26 = .ok (.ireturn, 1) := by decide +kernel
theorem dX11_stateCount_0 : decode cX11_stateCount 0 = .ok (.aload_n 0, 1) := by decide +kernel
theorem dX11_stateCount_1 : decode cX11_stateCount 1 = .ok (.getfield 19, 3) := by decide +kernel
theorem dX11_stateCount_4 : decode cX11_stateCount 4 = .ok (.ireturn, 1) := by decide +kernel
set_option maxRecDepth 20000 in
theorem ggX11_addTransition_X11_isState : GoodIn wsX11_addTransition wsX11_isState := goodIn_r _ [7, 8, 15, 16, 17, 18, 19, 20, 21, 22, 23, 24, 25, 26, 27, 28, 29, 30, 31, 32, 33, 34, 35, 36, 37, 38, 39, 40, 41, 42, 43, 44, 45, 46, 47, 48, 49, 50, 51, 52, 53, 54, 55, 56, 57, 58, 59, 60, 61, 62, 63, 64] (by decide +kernel) (by decide +kernel)
set_option maxRecDepth 20000 in
theorem gX11_addTransition_X11_isState : GoodIn wsX11_addTransition (wsV RX11 132 RX11 yX11_isState wsX11_isState) := goodIn_app (goodIn_of _ (by decide +kernel)) ggX11_addTransition_X11_isState
set_option maxRecDepth 20000 in
theorem ggX11_addTransition_X11_isLetter : GoodIn wsX11_addTransition wsX11_isLetter := goodIn_r _ [11] (by decide +kernel) (by decide +kernel)
set_option maxRecDepth 20000 in
theorem gX11_addTransition_X11_isLetter : GoodIn wsX11_addTransition (va_wsS RX11 136 yX11_isLetter wsX11_isLetter) := goodIn_app (goodIn_of _ (by decide +kernel)) ggX11_addTransition_X11_isLetter
set_option maxRecDepth 20000 in
theorem ggX11_addTransition_X11_has : GoodIn wsX11_addTransition wsX11_has := goodIn_r _ [14] (by decide +kernel) (by decide +kernel)
set_option maxRecDepth 20000 in
theorem gX11_addTransition_X11_has : GoodIn wsX11_addTransition (va_wsS RX11 139 yX11_has wsX11_has) := goodIn_app (goodIn_of _ (by decide +kernel)) ggX11_addTransition_X11_has
theorem dX11_addTransition_0 : decode cX11_addTransition 0 = .ok (.aload_n 0, 1) := by decide +kernel
theorem dX11_addTransition_1 : decode cX11_addTransition 1 = .ok (.iload_n 1, 1) := by decide +kernel
theorem dX11_addTransition_2 : decode cX11_addTransition 2 = .ok (.invokevirtual 132, 3) := by decide +kernel
theorem dX11_addTransition_5 : decode cX11_addTransition 5 = .ok (.ifCond .eq 18, 3) := by decide +kernel
theorem dX11_addTransition_8 : decode cX11_addTransition 8 = .ok (.iload_n 2, 1) := by decide +kernel
theorem dX11_addTransition_9 : decode cX11_addTransition 9 = .ok (.invokestatic 136, 3) := by decide +kernel
theorem dX11_addTransition_12 : decode cX11_addTransition 12 = .ok (.ifCond .eq 11, 3) := by decide +kernel
theorem dX11_addTransition_15 : decode cX11_addTransition 15 = .ok (.aload_n 0, 1) := by decide +kernel
theorem dX11_addTransition_16 : decode cX11_addTransition 16 = .ok (.iload_n 3, 1) := by decide +kernel
theorem dX11_addTransition_17 : decode cX11_addTransition 17 = .ok (.invokevirtual 132, 3) := by decide +kernel
theorem dX11_addTransition_20 : decode cX11_addTransition 20 = .ok (.ifCond .ne 5, 3) := by decide +kernel
theorem dX11_addTransition_23 : decode cX11_addTransition 23 = .ok (.iconst (-1), 1) := by decide +kernel
theorem dX11_addTransition_24 : decode cX11_addTransition 24 = .ok (.ireturn, 1) := by decide +kernel
theorem dX11_addTransition_25 : decode cX11_addTransition 25 = .ok (.bipush 6, 2) := by decide +kernel
theorem dX11_addTransition_27 : decode cX11_addTransition 27 = .ok (.iload_n 2, 1) := by decide +kernel
theorem dX11_addTransition_28 : decode cX11_addTransition 28 = .ok (.imul, 1) := by decide +kernel
theorem dX11_addTransition_29 : decode cX11_addTransition 29 = .ok (.iload_n 1, 1) := by decide +kernel
theorem dX11_addTransition_30 : decode cX11_addTransition 30 = .ok (.iadd, 1) := by decide +kernel
theorem dX11_addTransition_31 : decode cX11_addTransition 31 = .ok (.istore 4, 2) := by decide +kernel
theorem dX11_addTransition_33 : decode cX11_addTransition 33 = .ok (.aload_n 0, 1) := by decide +kernel
theorem dX11_addTransition_34 : decode cX11_addTransition 34 = .ok (.getfield 7, 3) := by decide +kernel
theorem dX11_addTransition_37 : decode cX11_addTransition 37 = .ok (.iload 4, 2) := by decide +kernel
theorem dX11_addTransition_39 : decode cX11_addTransition 39 = .ok (.iaload, 1) := by decide +kernel
theorem dX11_addTransition_40 : decode cX11_addTransition 40 = .ok (.i2l, 1) := by decide +kernel
theorem dX11_addTransition_41 : decode cX11_addTransition 41 = .ok (.iload_n 3, 1) := by decide +kernel
theorem dX11_addTransition_42 : decode cX11_addTransition 42 = .ok (.invokestatic 139, 3) := by decide +kernel
theorem dX11_addTransition_45 : decode cX11_addTransition 45 = .ok (.ifCond .eq 7, 3) := by decide +kernel
theorem dX11_addTransition_48 : decode cX11_addTransition 48 = .ok (.iconst 0, 1) := by decide +kernel
theorem dX11_addTransition_49 : decode cX11_addTransition 49 = .ok (.goto 4, 3) := by decide +kernel
theorem dX11_addTransition_52 : decode cX11_addTransition 52 = .ok (.iconst 1, 1) := by decide +kernel
theorem dX11_addTransition_53 : decode cX11_addTransition 53 = .ok (.istore 5, 2) := by decide +kernel
theorem dX11_addTransition_55 : decode cX11_addTransition 55 = .ok (.aload_n 0, 1) := by decide +kernel
theorem dX11_addTransition_56 : decode cX11_addTransition 56 = .ok (.getfield 7, 3) := by decide +kernel
theorem dX11_addTransition_59 : decode cX11_addTransition 59 = .ok (.iload 4, 2) := by decide +kernel
theorem dX11_addTransition_61 : decode cX11_addTransition 61 = .ok (.dup2, 1) := by decide +kernel
theorem dX11_addTransition_62 : decode cX11_addTransition 62 = .ok (.iaload, 1) := by decide +kernel
theorem dX11_addTransition_63 : decode cX11_addTransition 63 = .ok (.iconst 1, 1) := by decide +kernel
theorem dX11_addTransition_64 : decode cX11_addTransition 64 = .ok (.iload_n 3, 1) := by decide +kernel
theorem dX11_addTransition_65 : decode cX11_addTransition 65 = .ok (.ishl, 1) := by decide +kernel
theorem dX11_addTransition_66 : decode cX11_addTransition 66 = .ok (.ior, 1) := by decide +kernel
theorem dX11_addTransition_67 : decode cX11_addTransition 67 = .ok (.iastore, 1) := by decide +kernel
theorem dX11_addTransition_68 : decode cX11_addTransition 68 = .ok (.aload_n 0, 1) := by decide +kernel
theorem dX11_addTransition_69 : decode cX11_addTransition 69 = .ok (.iconst 0, 1) := by decide +kernel
theorem dX11_addTransition_70 : decode cX11_addTransition 70 = .ok (.putfield 118, 3) := by decide +kernel
theorem dX11_addTransition_73 : decode cX11_addTransition 73 = .ok (.iload 5, 2) := by decide +kernel
theorem dX11_addTransition_75 : decode cX11_addTransition 75 = .ok (.ireturn, 1) := by decide +kernel
set_option maxRecDepth 20000 in
theorem ggX11_removeTransition_X11_isState : GoodIn wsX11_removeTransition wsX11_isState := goodIn_r _ [7, 8, 15, 16, 17, 18, 19, 20, 21, 22, 23, 24, 25, 26, 27, 28, 29, 30, 31, 32, 33, 34, 35, 36, 37, 38, 39, 40, 41, 42, 43, 44, 45, 46, 47, 48, 49, 50, 51, 52, 53, 54, 55, 56, 57, 58, 59, 60, 61, 62, 63, 64] (by decide +kernel) (by decide +kernel)
set_option maxRecDepth 20000 in
theorem gX11_removeTransition_X11_isState : GoodIn wsX11_removeTransition (wsV RX11 132 RX11 yX11_isState wsX11_isState) := goodIn_app (goodIn_of _ (by decide +kernel)) ggX11_removeTransition_X11_isState
set_option maxRecDepth 20000 in
theorem ggX11_removeTransition_X11_isLetter : GoodIn wsX11_removeTransition wsX11_isLetter := goodIn_r _ [11] (by decide +kernel) (by decide +kernel)
set_option maxRecDepth 20000 in
theorem gX11_removeTransition_X11_isLetter : GoodIn wsX11_removeTransition (va_wsS RX11 136 yX11_isLetter wsX11_isLetter) := goodIn_app (goodIn_of _ (by decide +kernel)) ggX11_removeTransition_X11_isLetter
set_option maxRecDepth 20000 in
theorem ggX11_removeTransition_X11_has : GoodIn wsX11_removeTransition wsX11_has := goodIn_r _ [14] (by decide +kernel) (by decide +kernel)
set_option maxRecDepth 20000 in
theorem gX11_removeTransition_X11_has : GoodIn wsX11_removeTransition (va_wsS RX11 139 yX11_has wsX11_has) := goodIn_app (goodIn_of _ (by decide +kernel)) ggX11_removeTransition_X11_has
theorem dX11_removeTransition_0 : decode cX11_removeTransition 0 = .ok (.aload_n 0, 1) := by decide +kernel
theorem dX11_removeTransition_1 : decode cX11_removeTransition 1 = .ok (.iload_n 1, 1) := by decide +kernel
theorem dX11_removeTransition_2 : decode cX11_removeTransition 2 = .ok (.invokevirtual 132, 3) := by decide +kernel
theorem dX11_removeTransition_5 : decode cX11_removeTransition 5 = .ok (.ifCond .eq 18, 3) := by decide +kernel
theorem dX11_removeTransition_8 : decode cX11_removeTransition 8 = .ok (.iload_n 2, 1) := by decide +kernel
theorem dX11_removeTransition_9 : decode cX11_removeTransition 9 = .ok (.invokestatic 136, 3) := by decide +kernel
theorem dX11_removeTransition_12 : decode cX11_removeTransition 12 = .ok (.ifCond .eq 11, 3) := by decide +kernel
theorem dX11_removeTransition_15 : decode cX11_removeTransition 15 = .ok (.aload_n 0, 1) := by decide +kernel
theorem dX11_removeTransition_16 : decode cX11_removeTransition 16 = .ok (.iload_n 3, 1) := by decide +kernel
theorem dX11_removeTransition_17 : decode cX11_removeTransition 17 = .ok (.invokevirtual 132, 3) := by decide +kernel
theorem dX11_removeTransition_20 : decode cX11_removeTransition 20 = .ok (.ifCond .ne 5, 3) := by decide +kernel
theorem dX11_removeTransition_23 : decode cX11_removeTransition 23 = .ok (.iconst (-1), 1) := by decide +kernel
theorem dX11_removeTransition_24 : decode cX11_removeTransition 24 = .ok (.ireturn, 1) := by decide +kernel
theorem dX11_removeTransition_25 : decode cX11_removeTransition 25 = .ok (.bipush 6, 2) := by decide +kernel
theorem dX11_removeTransition_27 : decode cX11_removeTransition 27 = .ok (.iload_n 2, 1) := by decide +kernel
theorem dX11_removeTransition_28 : decode cX11_removeTransition 28 = .ok (.imul, 1) := by decide +kernel
theorem dX11_removeTransition_29 : decode cX11_removeTransition 29 = .ok (.iload_n 1, 1) := by decide +kernel
theorem dX11_removeTransition_30 : decode cX11_removeTransition 30 = .ok (.iadd, 1) := by decide +kernel
theorem dX11_removeTransition_31 : decode cX11_removeTransition 31 = .ok (.istore 4, 2) := by decide +kernel
theorem dX11_removeTransition_33 : decode cX11_removeTransition 33 = .ok (.aload_n 0, 1) := by decide +kernel
theorem dX11_removeTransition_34 : decode cX11_removeTransition 34 = .ok (.getfield 7, 3) := by decide +kernel
theorem dX11_removeTransition_37 : decode cX11_removeTransition 37 = .ok (.iload 4, 2) := by decide +kernel
theorem dX11_removeTransition_39 : decode cX11_removeTransition 39 = .ok (.iaload, 1) := by decide +kernel
theorem dX11_removeTransition_40 : decode cX11_removeTransition 40 = .ok (.i2l, 1) := by decide +kernel
theorem dX11_removeTransition_41 : decode cX11_removeTransition 41 = .ok (.iload_n 3, 1) := by decide +kernel
theorem dX11_removeTransition_42 : decode cX11_removeTransition 42 = .ok (.invokestatic 139, 3) := by decide +kernel
theorem dX11_removeTransition_45 : decode cX11_removeTransition 45 = .ok (.ifCond .eq 7, 3) := by decide +kernel
theorem dX11_removeTransition_48 : decode cX11_removeTransition 48 = .ok (.iconst 1, 1) := by decide +kernel
theorem dX11_removeTransition_49 : decode cX11_removeTransition 49 = .ok (.goto 4, 3) := by decide +kernel
theorem dX11_removeTransition_52 : decode cX11_removeTransition 52 = .ok (.iconst 0, 1) := by decide +kernel
theorem dX11_removeTransition_53 : decode cX11_removeTransition 53 = .ok (.istore 5, 2) := by decide +kernel
theorem dX11_removeTransition_55 : decode cX11_removeTransition 55 = .ok (.aload_n 0, 1) := by decide +kernel
theorem dX11_removeTransition_56 : decode cX11_removeTransition 56 = .ok (.getfield 7, 3) := by decide +kernel
theorem dX11_removeTransition_59 : decode cX11_removeTransition 59 = .ok (.iload 4, 2) := by decide +kernel
theorem dX11_removeTransition_61 : decode cX11_removeTransition 61 = .ok (.dup2, 1) := by decide +kernel
theorem dX11_removeTransition_62 : decode cX11_removeTransition 62 = .ok (.iaload, 1) := by decide +kernel
theorem dX11_removeTransition_63 : decode cX11_removeTransition 63 = .ok (.iconst 1, 1) := by decide +kernel
theorem dX11_removeTransition_64 : decode cX11_removeTransition 64 = .ok (.iload_n 3, 1) := by decide +kernel
theorem dX11_removeTransition_65 : decode cX11_removeTransition 65 = .ok (.ishl, 1) := by decide +kernel
theorem dX11_removeTransition_66 : decode cX11_removeTransition 66 = .ok (.iconst (-1), 1) := by decide +kernel
theorem dX11_removeTransition_67 : decode cX11_removeTransition 67 = .ok (.ixor, 1) := by decide +kernel
theorem dX11_removeTransition_68 : decode cX11_removeTransition 68 = .ok (.iand, 1) := by decide +kernel
theorem dX11_removeTransition_69 : decode cX11_removeTransition 69 = .ok (.iastore, 1) := by decide +kernel
theorem dX11_removeTransition_70 : decode cX11_removeTransition 70 = .ok (.aload_n 0, 1) := by decide +kernel
theorem dX11_removeTransition_71 : decode cX11_removeTransition 71 = .ok (.iconst 0, 1) := by decide +kernel
theorem dX11_removeTransition_72 : decode cX11_removeTransition 72 = .ok (.putfield 118, 3) := by decide +kernel
theorem dX11_removeTransition_75 : decode cX11_removeTransition 75 = .ok (.iload 5, 2) := by decide +kernel
theorem dX11_removeTransition_77 : decode cX11_removeTransition 77 = .ok (.ireturn, 1) := by decide +kernel
theorem dX11_transitionCount_0 : decode cX11_transitionCount 0 = .ok (.iconst 0, 1) := by decide +kernel
theorem dX11_transitionCount_1 : decode cX11_transitionCount 1 = .ok (.istore_n 1, 1) := by decide +kernel
theorem dX11_transitionCount_2 : decode cX11_transitionCount 2 = .ok (.iconst 0, 1) := by decide +kernel
theorem dX11_transitionCount_3 : decode cX11_transitionCount 3 = .ok (.istore_n 2, 1) := by decide +kernel
theorem dX11_transitionCount_4 : decode cX11_transitionCount 4 = .ok (.iload_n 2, 1) := by decide +kernel
theorem dX11_transitionCount_5 : decode cX11_transitionCount 5 = .ok (.bipush 18, 2) := by decide +kernel
theorem dX11_transitionCount_7 : decode cX11_transitionCount 7 = .ok (.if_icmp .ge 36, 3) := by decide +kernel
theorem dX11_transitionCount_10 : decode cX11_transitionCount 10 = .ok (.iconst 0, 1) := by decide +kernel
theorem dX11_transitionCount_11 : decode cX11_transitionCount 11 = .ok (.istore_n 3, 1) := by decide +kernel
theorem dX11_transitionCount_12 : decode cX11_transitionCount 12 = .ok (.iload_n 3, 1) := by decide +kernel
theorem dX11_transitionCount_13 : decode cX11_transitionCount 13 = .ok (.bipush 6, 2) := by decide +kernel
theorem dX11_transitionCount_15 : decode cX11_transitionCount 15 = .ok (.if_icmp .ge 22, 3) := by decide +kernel
theorem dX11_transitionCount_18 : decode cX11_transitionCount 18 = .ok (.iload_n 1, 1) := by decide +kernel
theorem dX11_transitionCount_19 : decode cX11_transitionCount 19 = .ok (.aload_n 0, 1) := by decide +kernel
theorem dX11_transitionCount_20 : decode cX11_transitionCount 20 = .ok (.getfield 7, 3) := by decide +kernel
theorem dX11_transitionCount_23 : decode cX11_transitionCount 23 = .ok (.iload_n 2, 1) := by decide +kernel
theorem dX11_transitionCount_24 : decode cX11_transitionCount 24 = .ok (.iaload, 1) := by decide +kernel
theorem dX11_transitionCount_25 : decode cX11_transitionCount 25 = .ok (.iload_n 3, 1) := by decide +kernel
theorem dX11_transitionCount_26 : decode cX11_transitionCount 26 = .ok (.ishr, 1) := by decide +kernel
theorem dX11_transitionCount_27 : decode cX11_transitionCount 27 = .ok (.iconst 1, 1) := by decide +kernel
theorem dX11_transitionCount_28 : decode cX11_transitionCount 28 = .ok (.iand, 1) := by decide +kernel
theorem dX11_transitionCount_29 : decode cX11_transitionCount 29 = .ok (.iadd, 1) := by decide +kernel
theorem dX11_transitionCount_30 : decode cX11_transitionCount 30 = .ok (.istore_n 1, 1) := by decide +kernel
theorem dX11_transitionCount_31 : decode cX11_transitionCount 31 = .ok (.iinc 3 1, 3) := by decide +kernel
theorem dX11_transitionCount_34 : decode cX11_transitionCount 34 = .ok (.goto (-22), 3) := by decide +kernel
theorem dX11_transitionCount_37 : decode cX11_transitionCount 37 = .ok (.iinc 2 1, 3) := by decide +kernel
theorem dX11_transitionCount_40 : decode cX11_transitionCount 40 = .ok (.goto (-36), 3) := by decide +kernel
theorem dX11_transitionCount_43 : decode cX11_transitionCount 43 = .ok (.iload_n 1, 1) := by decide +kernel
theorem dX11_transitionCount_44 : decode cX11_transitionCount 44 = .ok (.ireturn, 1) := by decide +kernel
set_option maxRecDepth 20000 in
theorem ggX11_setInitial_X11_isState : GoodIn wsX11_setInitial wsX11_isState := goodIn_r _ [7, 8, 9, 10, 11, 12, 13, 14, 15, 16, 17, 18, 19, 20, 21, 22, 23, 24, 25, 26, 27, 28, 29, 30, 31, 32, 33, 34, 35, 36, 37, 38, 39, 40, 41, 42, 43, 44, 45, 46, 47, 48, 49, 50, 51, 52, 53, 54, 55, 56, 57, 58] (by decide +kernel) (by decide +kernel)
set_option maxRecDepth 20000 in
theorem gX11_setInitial_X11_isState : GoodIn wsX11_setInitial (wsV RX11 132 RX11 yX11_isState wsX11_isState) := goodIn_app (goodIn_of _ (by decide +kernel)) ggX11_setInitial_X11_isState
theorem dX11_setInitial_0 : decode cX11_setInitial 0 = .ok (.aload_n 0, 1) := by decide +kernel
theorem dX11_setInitial_1 : decode cX11_setInitial 1 = .ok (.iload_n 1, 1) := by decide +kernel
theorem dX11_setInitial_2 : decode cX11_setInitial 2 = .ok (.invokevirtual 132, 3) := by decide +kernel
theorem dX11_setInitial_5 : decode cX11_setInitial 5 = .ok (.ifCond .ne 5, 3) := by decide +kernel
theorem dX11_setInitial_8 : decode cX11_setInitial 8 = .ok (.iconst (-1), 1) := by decide +kernel
theorem dX11_setInitial_9 : decode cX11_setInitial 9 = .ok (.ireturn, 1) := by decide +kernel
theorem dX11_setInitial_10 : decode cX11_setInitial 10 = .ok (.aload_n 0, 1) := by decide +kernel
theorem dX11_setInitial_11 : decode cX11_setInitial 11 = .ok (.getfield 112, 3) := by decide +kernel
theorem dX11_setInitial_14 : decode cX11_setInitial 14 = .ok (.iload_n 1, 1) := by decide +kernel
theorem dX11_setInitial_15 : decode cX11_setInitial 15 = .ok (.ishr, 1) := by decide +kernel
theorem dX11_setInitial_16 : decode cX11_setInitial 16 = .ok (.iconst 1, 1) := by decide +kernel
theorem dX11_setInitial_17 : decode cX11_setInitial 17 = .ok (.iand, 1) := by decide +kernel
theorem dX11_setInitial_18 : decode cX11_setInitial 18 = .ok (.istore_n 3, 1) := by decide +kernel
theorem dX11_setInitial_19 : decode cX11_setInitial 19 = .ok (.aload_n 0, 1) := by decide +kernel
theorem dX11_setInitial_20 : decode cX11_setInitial 20 = .ok (.iload_n 2, 1) := by decide +kernel
theorem dX11_setInitial_21 : decode cX11_setInitial 21 = .ok (.ifCond .eq 14, 3) := by decide +kernel
theorem dX11_setInitial_24 : decode cX11_setInitial 24 = .ok (.aload_n 0, 1) := by decide +kernel
theorem dX11_setInitial_25 : decode cX11_setInitial 25 = .ok (.getfield 112, 3) := by decide +kernel
theorem dX11_setInitial_28 : decode cX11_setInitial 28 = .ok (.iconst 1, 1) := by decide +kernel
theorem dX11_setInitial_29 : decode cX11_setInitial 29 = .ok (.iload_n 1, 1) := by decide +kernel
theorem dX11_setInitial_30 : decode cX11_setInitial 30 = .ok (.ishl, 1) := by decide +kernel
theorem dX11_setInitial_31 : decode cX11_setInitial 31 = .ok (.ior, 1) := by decide +kernel
theorem dX11_setInitial_32 : decode cX11_setInitial 32 = .ok (.goto 13, 3) := by decide +kernel
theorem dX11_setInitial_35 : decode cX11_setInitial 35 = .ok (.aload_n 0, 1) := by decide +kernel
theorem dX11_setInitial_36 : decode cX11_setInitial 36 = .ok (.getfield 112, 3) := by decide +kernel
theorem dX11_setInitial_39 : decode cX11_setInitial 39 = .ok (.iconst 1, 1) := by decide +kernel
theorem dX11_setInitial_40 : decode cX11_setInitial 40 = .ok (.iload_n 1, 1) := by decide +kernel
theorem dX11_setInitial_41 : decode cX11_setInitial 41 = .ok (.ishl, 1) := by decide +kernel
theorem dX11_setInitial_42 : decode cX11_setInitial 42 = .ok (.iconst (-1), 1) := by decide +kernel
theorem dX11_setInitial_43 : decode cX11_setInitial 43 = .ok (.ixor, 1) := by decide +kernel
theorem dX11_setInitial_44 : decode cX11_setInitial 44 = .ok (.iand, 1) := by decide +kernel
theorem dX11_setInitial_45 : decode cX11_setInitial 45 = .ok (.putfield 112, 3) := by decide +kernel
theorem dX11_setInitial_48 : decode cX11_setInitial 48 = .ok (.aload_n 0, 1) := by decide +kernel
theorem dX11_setInitial_49 : decode cX11_setInitial 49 = .ok (.iconst 0, 1) := by decide +kernel
theorem dX11_setInitial_50 : decode cX11_setInitial 50 = .ok (.putfield 118, 3) := by decide +kernel
theorem dX11_setInitial_53 : decode cX11_setInitial 53 = .ok (.iload_n 3, 1) := by decide +kernel
theorem dX11_setInitial_54 : decode cX11_setInitial 54 = .ok (.ireturn, 1) := by decide +kernel
set_option maxRecDepth 20000 in
theorem ggX11_setFinal_X11_isState : GoodIn wsX11_setFinal wsX11_isState := goodIn_r _ [7, 8, 9, 10, 11, 12, 13, 14, 15, 16, 17, 18, 19, 20, 21, 22, 23, 24, 25, 26, 27, 28, 29, 30, 31, 32, 33, 34, 35, 36, 37, 38, 39, 40, 41, 42, 43, 44, 45, 46, 47, 48, 49, 50, 51, 52, 53, 54, 55, 56, 57, 58] (by decide +kernel) (by decide +kernel)
set_option maxRecDepth 20000 in
theorem gX11_setFinal_X11_isState : GoodIn wsX11_setFinal (wsV RX11 132 RX11 yX11_isState wsX11_isState) := goodIn_app (goodIn_of _ (by decide +kernel)) ggX11_setFinal_X11_isState
theorem dX11_setFinal_0 : decode cX11_setFinal 0 = .ok (.aload_n 0, 1) := by decide +kernel
theorem dX11_setFinal_1 : decode cX11_setFinal 1 = .ok (.iload_n 1, 1) := by decide +kernel
theorem dX11_setFinal_2 : decode cX11_setFinal 2 = .ok (.invokevirtual 132, 3) := by decide +kernel
theorem dX11_setFinal_5 : decode cX11_setFinal 5 = .ok (.ifCond .ne 5, 3) := by decide +kernel
theorem dX11_setFinal_8 : decode cX11_setFinal 8 = .ok (.iconst (-1), 1) := by decide +kernel
theorem dX11_setFinal_9 : decode cX11_setFinal 9 = .ok (.ireturn, 1) := by decide +kernel
theorem dX11_setFinal_10 : decode cX11_setFinal 10 = .ok (.aload_n 0, 1) := by decide +kernel
theorem dX11_setFinal_11 : decode cX11_setFinal 11 = .ok (.getfield 115, 3) := by decide +kernel
theorem dX11_setFinal_14 : decode cX11_setFinal 14 = .ok (.iload_n 1, 1) := by decide +kernel
theorem dX11_setFinal_15 : decode cX11_setFinal 15 = .ok (.ishr, 1) := by decide +kernel
theorem dX11_setFinal_16 : decode cX11_setFinal 16 = .ok (.iconst 1, 1) := by decide +kernel
theorem dX11_setFinal_17 : decode cX11_setFinal 17 = .ok (.iand, 1) := by decide +kernel
theorem dX11_setFinal_18 : decode cX11_setFinal 18 = .ok (.istore_n 3, 1) := by decide +kernel
theorem dX11_setFinal_19 : decode cX11_setFinal 19 = .ok (.aload_n 0, 1) := by decide +kernel
theorem dX11_setFinal_20 : decode cX11_setFinal 20 = .ok (.iload_n 2, 1) := by decide +kernel
theorem dX11_setFinal_21 : decode cX11_setFinal 21 = .ok (.ifCond .eq 14, 3) := by decide +kernel
theorem dX11_setFinal_24 : decode cX11_setFinal 24 = .ok (.aload_n 0, 1) := by decide +kernel
theorem dX11_setFinal_25 : decode cX11_setFinal 25 = .ok (.getfield 115, 3) := by decide +kernel
theorem dX11_setFinal_28 : decode cX11_setFinal 28 = .ok (.iconst 1, 1) := by decide +kernel
theorem dX11_setFinal_29 : decode cX11_setFinal 29 = .ok (.iload_n 1, 1) := by decide +kernel
theorem dX11_setFinal_30 : decode cX11_setFinal 30 = .ok (.ishl, 1) := by decide +kernel
theorem dX11_setFinal_31 : decode cX11_setFinal 31 = .ok (.ior, 1) := by decide +kernel
theorem dX11_setFinal_32 : decode cX11_setFinal 32 = .ok (.goto 13, 3) := by decide +kernel
theorem dX11_setFinal_35 : decode cX11_setFinal 35 = .ok (.aload_n 0, 1) := by decide +kernel
theorem dX11_setFinal_36 : decode cX11_setFinal 36 = .ok (.getfield 115, 3) := by decide +kernel
theorem dX11_setFinal_39 : decode cX11_setFinal 39 = .ok (.iconst 1, 1) := by decide +kernel
theorem dX11_setFinal_40 : decode cX11_setFinal 40 = .ok (.iload_n 1, 1) := by decide +kernel
theorem dX11_setFinal_41 : decode cX11_setFinal 41 = .ok (.ishl, 1) := by decide +kernel
theorem dX11_setFinal_42 : decode cX11_setFinal 42 = .ok (.iconst (-1), 1) := by decide +kernel
theorem dX11_setFinal_43 : decode cX11_setFinal 43 = .ok (.ixor, 1) := by decide +kernel
theorem dX11_setFinal_44 : decode cX11_setFinal 44 = .ok (.iand, 1) := by decide +kernel
theorem dX11_setFinal_45 : decode cX11_setFinal 45 = .ok (.putfield 115, 3) := by decide +kernel
theorem dX11_setFinal_48 : decode cX11_setFinal 48 = .ok (.aload_n 0, 1) := by decide +kernel
theorem dX11_setFinal_49 : decode cX11_setFinal 49 = .ok (.iconst 0, 1) := by decide +kernel
theorem dX11_setFinal_50 : decode cX11_setFinal 50 = .ok (.putfield 118, 3) := by decide +kernel
theorem dX11_setFinal_53 : decode cX11_setFinal 53 = .ok (.iload_n 3, 1) := by decide +kernel
theorem dX11_setFinal_54 : decode cX11_setFinal 54 = .ok (.ireturn, 1) := by decide +kernel
theorem dX11_initialStates_0 : decode cX11_initialStates 0 = .ok (.aload_n 0, 1) := by decide +kernel
theorem dX11_initialStates_1 : decode cX11_initialStates 1 = .ok (.getfield 112, 3) := by decide +kernel
theorem dX11_initialStates_4 : decode cX11_initialStates 4 = .ok (.ireturn, 1) := by decide +kernel
theorem dX11_finalStates_0 : decode cX11_finalStates 0 = .ok (.aload_n 0, 1) := by decide +kernel
theorem dX11_finalStates_1 : decode cX11_finalStates 1 = .ok (.getfield 115, 3) := by decide +kernel
theorem dX11_finalStates_4 : decode cX11_finalStates 4 = .ok (.ireturn, 1) := by decide +kernel
set_option maxRecDepth 20000 in
theorem ggX11_successors_X11_isState : GoodIn wsX11_successors wsX11_isState := goodIn_r _ [6, 7, 11, 12, 13, 14, 15, 16, 17, 18, 19, 20, 21, 22, 23, 24, 25, 26, 27, 28, 29, 30, 31, 32, 33, 34, 35, 36, 37, 38, 39, 40, 41, 42, 43, 44, 45, 46, 47, 48, 49, 50, 51, 52, 53, 54, 55, 56, 57, 58, 59, 60] (by decide +kernel) (by decide +kernel)
set_option maxRecDepth 20000 in
theorem gX11_successors_X11_isState : GoodIn wsX11_successors (wsV RX11 132 RX11 yX11_isState wsX11_isState) := goodIn_app (goodIn_of _ (by decide +kernel)) ggX11_successors_X11_isState
set_option maxRecDepth 20000 in
theorem ggX11_successors_X11_isLetter : GoodIn wsX11_successors wsX11_isLetter := goodIn_r _ [10] (by decide +kernel) (by decide +kernel)
set_option maxRecDepth 20000 in
theorem gX11_successors_X11_isLetter : GoodIn wsX11_successors (va_wsS RX11 136 yX11_isLetter wsX11_isLetter) := goodIn_app (goodIn_of _ (by decide +kernel)) ggX11_successors_X11_isLetter
theorem dX11_successors_0 : decode cX11_successors 0 = .ok (.aload_n 0, 1) := by decide +kernel
theorem dX11_successors_1 : decode cX11_successors 1 = .ok (.iload_n 1, 1) := by decide +kernel
theorem dX11_successors_2 : decode cX11_successors 2 = .ok (.invokevirtual 132, 3) := by decide +kernel
theorem dX11_successors_5 : decode cX11_successors 5 = .ok (.ifCond .eq 24, 3) := by decide +kernel
theorem dX11_successors_8 : decode cX11_successors 8 = .ok (.iload_n 2, 1) := by decide +kernel
theorem dX11_successors_9 : decode cX11_successors 9 = .ok (.invokestatic 136, 3) := by decide +kernel
theorem dX11_successors_12 : decode cX11_successors 12 = .ok (.ifCond .eq 17, 3) := by decide +kernel
theorem dX11_successors_15 : decode cX11_successors 15 = .ok (.aload_n 0, 1) := by decide +kernel
theorem dX11_successors_16 : decode cX11_successors 16 = .ok (.getfield 7, 3) := by decide +kernel
theorem dX11_successors_19 : decode cX11_successors 19 = .ok (.bipush 6, 2) := by decide +kernel
theorem dX11_successors_21 : decode cX11_successors 21 = .ok (.iload_n 2, 1) := by decide +kernel
theorem dX11_successors_22 : decode cX11_successors 22 = .ok (.imul, 1) := by decide +kernel
theorem dX11_successors_23 : decode cX11_successors 23 = .ok (.iload_n 1, 1) := by decide +kernel
theorem dX11_successors_24 : decode cX11_successors 24 = .ok (.iadd, 1) := by decide +kernel
theorem dX11_successors_25 : decode cX11_successors 25 = .ok (.iaload, 1) := by decide +kernel
theorem dX11_successors_26 : decode cX11_successors 26 = .ok (.goto 4, 3) := by decide +kernel
theorem dX11_successors_29 : decode cX11_successors 29 = .ok (.iconst (-1), 1) := by decide +kernel
theorem dX11_successors_30 : decode cX11_successors 30 = .ok (.ireturn, 1) := by decide +kernel
set_option maxRecDepth 20000 in
theorem ggX11_step_X11_has : GoodIn wsX11_step wsX11_has := goodIn_r _ [6] (by decide +kernel) (by decide +kernel)
set_option maxRecDepth 20000 in
theorem gX11_step_X11_has : GoodIn wsX11_step (va_wsS RX11 139 yX11_has wsX11_has) := goodIn_app (goodIn_of _ (by decide +kernel)) ggX11_step_X11_has
theorem dX11_step_0 : decode cX11_step 0 = .ok (.iconst 0, 1) := by decide +kernel
theorem dX11_step_1 : decode cX11_step 1 = .ok (.istore_n 3, 1) := by decide +kernel
theorem dX11_step_2 : decode cX11_step 2 = .ok (.iconst 0, 1) := by decide +kernel
theorem dX11_step_3 : decode cX11_step 3 = .ok (.istore 4, 2) := by decide +kernel
theorem dX11_step_5 : decode cX11_step 5 = .ok (.iload 4, 2) := by decide +kernel
theorem dX11_step_7 : decode cX11_step 7 = .ok (.aload_n 0, 1) := by decide +kernel
theorem dX11_step_8 : decode cX11_step 8 = .ok (.getfield 19, 3) := by decide +kernel
theorem dX11_step_11 : decode cX11_step 11 = .ok (.if_icmp .ge 38, 3) := by decide +kernel
theorem dX11_step_14 : decode cX11_step 14 = .ok (.iload_n 3, 1) := by decide +kernel
theorem dX11_step_15 : decode cX11_step 15 = .ok (.iload_n 1, 1) := by decide +kernel
theorem dX11_step_16 : decode cX11_step 16 = .ok (.i2l, 1) := by decide +kernel
theorem dX11_step_17 : decode cX11_step 17 = .ok (.iload 4, 2) := by decide +kernel
theorem dX11_step_19 : decode cX11_step 19 = .ok (.invokestatic 139, 3) := by decide +kernel
theorem dX11_step_22 : decode cX11_step 22 = .ok (.ifCond .eq 18, 3) := by decide +kernel
theorem dX11_step_25 : decode cX11_step 25 = .ok (.aload_n 0, 1) := by decide +kernel
theorem dX11_step_26 : decode cX11_step 26 = .ok (.getfield 7, 3) := by decide +kernel
theorem dX11_step_29 : decode cX11_step 29 = .ok (.bipush 6, 2) := by decide +kernel
theorem dX11_step_31 : decode cX11_step 31 = .ok (.iload_n 2, 1) := by decide +kernel
theorem dX11_step_32 : decode cX11_step 32 = .ok (.imul, 1) := by decide +kernel
theorem dX11_step_33 : decode cX11_step 33 = .ok (.iload 4, 2) := by decide +kernel
theorem dX11_step_35 : decode cX11_step 35 = .ok (.iadd, 1) := by decide +kernel
theorem dX11_step_36 : decode cX11_step 36 = .ok (.iaload, 1) := by decide +kernel
theorem dX11_step_37 : decode cX11_step 37 = .ok (.goto 4, 3) := by decide +kernel
theorem dX11_step_40 : decode cX11_step 40 = .ok (.iconst 0, 1) := by decide +kernel
theorem dX11_step_41 : decode cX11_step 41 = .ok (.ior, 1) := by decide +kernel
theorem dX11_step_42 : decode cX11_step 42 = .ok (.istore_n 3, 1) := by decide +kernel
theorem dX11_step_43 : decode cX11_step 43 = .ok (.iinc 4 1, 3) := by decide +kernel
theorem dX11_step_46 : decode cX11_step 46 = .ok (.goto (-41), 3) := by decide +kernel
theorem dX11_step_49 : decode cX11_step 49 = .ok (.iload_n 3, 1) := by decide +kernel
theorem dX11_step_50 : decode cX11_step 50 = .ok (.ireturn, 1) := by decide +kernel
set_option maxRecDepth 20000 in
theorem ggX11_reachedFrom_X11_step : GoodIn wsX11_reachedFrom wsX11_step := goodIn_r _ [5, 6, 7, 8, 9, 4, 10, 11, 12, 13, 14, 15, 16, 17, 18, 19, 20, 21, 22, 23, 24, 25, 26, 27, 28, 29, 30, 31, 32, 33, 34, 35, 36, 37, 38, 39, 40, 41, 42, 43, 44, 45, 46, 47, 48, 49, 50, 51, 52, 53, 54, 55, 56, 57, 58, 59, 60] (by decide +kernel) (by decide +kernel)
set_option maxRecDepth 20000 in
theorem gX11_reachedFrom_X11_step : GoodIn wsX11_reachedFrom (wsV RX11 143 RX11 yX11_step wsX11_step) := goodIn_app (goodIn_of _ (by decide +kernel)) ggX11_reachedFrom_X11_step
theorem dX11_reachedFrom_0 : decode cX11_reachedFrom 0 = .ok (.iload_n 1, 1) := by decide +kernel
theorem dX11_reachedFrom_1 : decode cX11_reachedFrom 1 = .ok (.istore_n 2, 1) := by decide +kernel
theorem dX11_reachedFrom_2 : decode cX11_reachedFrom 2 = .ok (.iconst 0, 1) := by decide +kernel
theorem dX11_reachedFrom_3 : decode cX11_reachedFrom 3 = .ok (.istore_n 3, 1) := by decide +kernel
theorem dX11_reachedFrom_4 : decode cX11_reachedFrom 4 = .ok (.iload_n 3, 1) := by decide +kernel
theorem dX11_reachedFrom_5 : decode cX11_reachedFrom 5 = .ok (.bipush 6, 2) := by decide +kernel
theorem dX11_reachedFrom_7 : decode cX11_reachedFrom 7 = .ok (.if_icmp .ge 32, 3) := by decide +kernel
theorem dX11_reachedFrom_10 : decode cX11_reachedFrom 10 = .ok (.iload_n 2, 1) := by decide +kernel
theorem dX11_reachedFrom_11 : decode cX11_reachedFrom 11 = .ok (.aload_n 0, 1) := by decide +kernel
theorem dX11_reachedFrom_12 : decode cX11_reachedFrom 12 = .ok (.iload_n 2, 1) := by decide +kernel
theorem dX11_reachedFrom_13 : decode cX11_reachedFrom 13 = .ok (.iconst 0, 1) := by decide +kernel
theorem dX11_reachedFrom_14 : decode cX11_reachedFrom 14 = .ok (.invokevirtual 143, 3) := by decide +kernel
theorem dX11_reachedFrom_17 : decode cX11_reachedFrom 17 = .ok (.aload_n 0, 1) := by decide +kernel
theorem dX11_reachedFrom_18 : decode cX11_reachedFrom 18 = .ok (.iload_n 2, 1) := by decide +kernel
theorem dX11_reachedFrom_19 : decode cX11_reachedFrom 19 = .ok (.iconst 1, 1) := by decide +kernel
theorem dX11_reachedFrom_20 : decode cX11_reachedFrom 20 = .ok (.invokevirtual 143, 3) := by decide +kernel
theorem dX11_reachedFrom_23 : decode cX11_reachedFrom 23 = .ok (.ior, 1) := by decide +kernel
theorem dX11_reachedFrom_24 : decode cX11_reachedFrom 24 = .ok (.aload_n 0, 1) := by decide +kernel
theorem dX11_reachedFrom_25 : decode cX11_reachedFrom 25 = .ok (.iload_n 2, 1) := by decide +kernel
theorem dX11_reachedFrom_26 : decode cX11_reachedFrom 26 = .ok (.iconst 2, 1) := by decide +kernel
theorem dX11_reachedFrom_27 : decode cX11_reachedFrom 27 = .ok (.invokevirtual 143, 3) := by decide +kernel
theorem dX11_reachedFrom_30 : decode cX11_reachedFrom 30 = .ok (.ior, 1) := by decide +kernel
theorem dX11_reachedFrom_31 : decode cX11_reachedFrom 31 = .ok (.ior, 1) := by decide +kernel
theorem dX11_reachedFrom_32 : decode cX11_reachedFrom 32 = .ok (.istore_n 2, 1) := by decide +kernel
theorem dX11_reachedFrom_33 : decode cX11_reachedFrom 33 = .ok (.iinc 3 1, 3) := by decide +kernel
theorem dX11_reachedFrom_36 : decode cX11_reachedFrom 36 = .ok (.goto (-32), 3) := by decide +kernel
theorem dX11_reachedFrom_39 : decode cX11_reachedFrom 39 = .ok (.iload_n 2, 1) := by decide +kernel
theorem dX11_reachedFrom_40 : decode cX11_reachedFrom 40 = .ok (.ireturn, 1) := by decide +kernel
set_option maxRecDepth 20000 in
theorem ggX11_useful_X11_reachedFrom : GoodIn wsX11_useful wsX11_reachedFrom := goodIn_r _ [8, 9, 10, 11, 7, 12, 2, 13, 14, 15, 16, 17, 18, 19, 20, 21, 22, 23, 24, 25, 26, 27, 28, 29, 30, 31, 32, 33, 34, 35, 36, 37, 38, 39, 40, 41, 42, 43, 44, 45, 46, 47, 48, 49, 50, 51, 52, 53, 54, 55, 56, 57, 58, 59, 60, 61, 62, 63, 64, 65, 66] (by decide +kernel) (by decide +kernel)
set_option maxRecDepth 20000 in
theorem gX11_useful_X11_reachedFrom : GoodIn wsX11_useful (wsV RX11 147 RX11 yX11_reachedFrom wsX11_reachedFrom) := goodIn_app (goodIn_of _ (by decide +kernel)) ggX11_useful_X11_reachedFrom
set_option maxRecDepth 20000 in
theorem ggX11_useful_X11_has : GoodIn wsX11_useful wsX11_has := goodIn_r _ [16] (by decide +kernel) (by decide +kernel)
set_option maxRecDepth 20000 in
theorem gX11_useful_X11_has : GoodIn wsX11_useful (va_wsS RX11 139 yX11_has wsX11_has) := goodIn_app (goodIn_of _ (by decide +kernel)) ggX11_useful_X11_has
theorem dX11_useful_0 : decode cX11_useful 0 = .ok (.aload_n 0, 1) := by decide +kernel
theorem dX11_useful_1 : decode cX11_useful 1 = .ok (.aload_n 0, 1) := by decide +kernel
theorem dX11_useful_2 : decode cX11_useful 2 = .ok (.getfield 112, 3) := by decide +kernel
theorem dX11_useful_5 : decode cX11_useful 5 = .ok (.invokevirtual 147, 3) := by decide +kernel
theorem dX11_useful_8 : decode cX11_useful 8 = .ok (.istore_n 1, 1) := by decide +kernel
theorem dX11_useful_9 : decode cX11_useful 9 = .ok (.iconst 0, 1) := by decide +kernel
theorem dX11_useful_10 : decode cX11_useful 10 = .ok (.istore_n 2, 1) := by decide +kernel
theorem dX11_useful_11 : decode cX11_useful 11 = .ok (.iconst 0, 1) := by decide +kernel
theorem dX11_useful_12 : decode cX11_useful 12 = .ok (.istore_n 3, 1) := by decide +kernel
theorem dX11_useful_13 : decode cX11_useful 13 = .ok (.iload_n 3, 1) := by decide +kernel
theorem dX11_useful_14 : decode cX11_useful 14 = .ok (.aload_n 0, 1) := by decide +kernel
theorem dX11_useful_15 : decode cX11_useful 15 = .ok (.getfield 19, 3) := by decide +kernel
theorem dX11_useful_18 : decode cX11_useful 18 = .ok (.if_icmp .ge 43, 3) := by decide +kernel
theorem dX11_useful_21 : decode cX11_useful 21 = .ok (.iload_n 2, 1) := by decide +kernel
theorem dX11_useful_22 : decode cX11_useful 22 = .ok (.iload_n 1, 1) := by decide +kernel
theorem dX11_useful_23 : decode cX11_useful 23 = .ok (.i2l, 1) := by decide +kernel
theorem dX11_useful_24 : decode cX11_useful 24 = .ok (.iload_n 3, 1) := by decide +kernel
theorem dX11_useful_25 : decode cX11_useful 25 = .ok (.invokestatic 139, 3) := by decide +kernel
theorem dX11_useful_28 : decode cX11_useful 28 = .ok (.ifCond .eq 24, 3) := by decide +kernel
theorem dX11_useful_31 : decode cX11_useful 31 = .ok (.aload_n 0, 1) := by decide +kernel
theorem dX11_useful_32 : decode cX11_useful 32 = .ok (.iconst 1, 1) := by decide +kernel
theorem dX11_useful_33 : decode cX11_useful 33 = .ok (.iload_n 3, 1) := by decide +kernel
theorem dX11_useful_34 : decode cX11_useful 34 = .ok (.ishl, 1) := by decide +kernel
theorem dX11_useful_35 : decode cX11_useful 35 = .ok (.invokevirtual 147, 3) := by decide +kernel
theorem dX11_useful_38 : decode cX11_useful 38 = .ok (.aload_n 0, 1) := by decide +kernel
theorem dX11_useful_39 : decode cX11_useful 39 = .ok (.getfield 115, 3) := by decide +kernel
theorem dX11_useful_42 : decode cX11_useful 42 = .ok (.iand, 1) := by decide +kernel
theorem dX11_useful_43 : decode cX11_useful 43 = .ok (.ifCond .eq 9, 3) := by decide +kernel
theorem dX11_useful_46 : decode cX11_useful 46 = .ok (.iconst 1, 1) := by decide +kernel
theorem dX11_useful_47 : decode cX11_useful 47 = .ok (.iload_n 3, 1) := by decide +kernel
theorem dX11_useful_48 : decode cX11_useful 48 = .ok (.ishl, 1) := by decide +kernel
theorem dX11_useful_49 : decode cX11_useful 49 = .ok (.goto 4, 3) := by decide +kernel
theorem dX11_useful_52 : decode cX11_useful 52 = .ok (.iconst 0, 1) := by decide +kernel
theorem dX11_useful_53 : decode cX11_useful 53 = .ok (.ior, 1) := by decide +kernel
theorem dX11_useful_54 : decode cX11_useful 54 = .ok (.istore_n 2, 1) := by decide +kernel
theorem dX11_useful_55 : decode cX11_useful 55 = .ok (.iinc 3 1, 3) := by decide +kernel
theorem dX11_useful_58 : decode cX11_useful 58 = .ok (.goto (-45), 3) := by decide +kernel
theorem dX11_useful_61 : decode cX11_useful 61 = .ok (.iload_n 2, 1) := by decide +kernel
theorem dX11_useful_62 : decode cX11_useful 62 = .ok (.ireturn, 1) := by decide +kernel
set_option maxRecDepth 20000 in
theorem ggX11_usefulStates_X11_useful : GoodIn wsX11_usefulStates wsX11_useful := goodIn_r _ [5, 6, 7, 8, 9, 10, 11, 4, 12, 13, 14, 15, 16, 17, 18, 19, 20, 21, 22, 23, 24, 25, 26, 27, 28, 29, 30, 31, 32, 33, 34, 35, 36, 37, 38, 39, 40, 41, 42, 43, 44, 45, 46, 47, 48, 49, 50, 51, 52, 53, 54, 55, 56, 57, 58, 59, 60, 61, 62, 63, 64, 65, 66, 67, 68, 69, 70] (by decide +kernel) (by decide +kernel)
set_option maxRecDepth 20000 in
theorem gX11_usefulStates_X11_useful : GoodIn wsX11_usefulStates (wsV RX11 151 RX11 yX11_useful wsX11_useful) := goodIn_app (goodIn_of _ (by decide +kernel)) ggX11_usefulStates_X11_useful
theorem dX11_usefulStates_0 : decode cX11_usefulStates 0 = .ok (.aload_n 0, 1) := by decide +kernel
theorem dX11_usefulStates_1 : decode cX11_usefulStates 1 = .ok (.invokevirtual 151, 3) := by decide +kernel
theorem dX11_usefulStates_4 : decode cX11_usefulStates 4 = .ok (.ireturn, 1) := by decide +kernel
set_option maxRecDepth 20000 in
theorem ggX11_renumbered_X11_has : GoodIn wsX11_renumbered wsX11_has := goodIn_r _ [5] (by decide +kernel) (by decide +kernel)
set_option maxRecDepth 20000 in
theorem gX11_renumbered_X11_has : GoodIn wsX11_renumbered (va_wsS RX11 139 yX11_has wsX11_has) := goodIn_app (goodIn_of _ (by decide +kernel)) ggX11_renumbered_X11_has
theorem dX11_renumbered_0 : decode cX11_renumbered 0 = .ok (.iconst 0, 1) := by decide +kernel
theorem dX11_renumbered_1 : decode cX11_renumbered 1 = .ok (.istore_n 3, 1) := by decide +kernel
theorem dX11_renumbered_2 : decode cX11_renumbered 2 = .ok (.iconst 0, 1) := by decide +kernel
theorem dX11_renumbered_3 : decode cX11_renumbered 3 = .ok (.istore 4, 2) := by decide +kernel
theorem dX11_renumbered_5 : decode cX11_renumbered 5 = .ok (.iload 4, 2) := by decide +kernel
theorem dX11_renumbered_7 : decode cX11_renumbered 7 = .ok (.bipush 6, 2) := by decide +kernel
theorem dX11_renumbered_9 : decode cX11_renumbered 9 = .ok (.if_icmp .ge 37, 3) := by decide +kernel
theorem dX11_renumbered_12 : decode cX11_renumbered 12 = .ok (.iload_n 3, 1) := by decide +kernel
theorem dX11_renumbered_13 : decode cX11_renumbered 13 = .ok (.iload_n 1, 1) := by decide +kernel
theorem dX11_renumbered_14 : decode cX11_renumbered 14 = .ok (.iload_n 2, 1) := by decide +kernel
theorem dX11_renumbered_15 : decode cX11_renumbered 15 = .ok (.iand, 1) := by decide +kernel
theorem dX11_renumbered_16 : decode cX11_renumbered 16 = .ok (.i2l, 1) := by decide +kernel
theorem dX11_renumbered_17 : decode cX11_renumbered 17 = .ok (.iload 4, 2) := by decide +kernel
theorem dX11_renumbered_19 : decode cX11_renumbered 19 = .ok (.invokestatic 139, 3) := by decide +kernel
theorem dX11_renumbered_22 : decode cX11_renumbered 22 = .ok (.ifCond .eq 15, 3) := by decide +kernel
theorem dX11_renumbered_25 : decode cX11_renumbered 25 = .ok (.iconst 1, 1) := by decide +kernel
theorem dX11_renumbered_26 : decode cX11_renumbered 26 = .ok (.aload_n 0, 1) := by decide +kernel
theorem dX11_renumbered_27 : decode cX11_renumbered 27 = .ok (.getfield 23, 3) := by decide +kernel
theorem dX11_renumbered_30 : decode cX11_renumbered 30 = .ok (.iload 4, 2) := by decide +kernel
theorem dX11_renumbered_32 : decode cX11_renumbered 32 = .ok (.iaload, 1) := by decide +kernel
theorem dX11_renumbered_33 : decode cX11_renumbered 33 = .ok (.ishl, 1) := by decide +kernel
theorem dX11_renumbered_34 : decode cX11_renumbered 34 = .ok (.goto 4, 3) := by decide +kernel
theorem dX11_renumbered_37 : decode cX11_renumbered 37 = .ok (.iconst 0, 1) := by decide +kernel
theorem dX11_renumbered_38 : decode cX11_renumbered 38 = .ok (.ior, 1) := by decide +kernel
theorem dX11_renumbered_39 : decode cX11_renumbered 39 = .ok (.istore_n 3, 1) := by decide +kernel
theorem dX11_renumbered_40 : decode cX11_renumbered 40 = .ok (.iinc 4 1, 3) := by decide +kernel
theorem dX11_renumbered_43 : decode cX11_renumbered 43 = .ok (.goto (-38), 3) := by decide +kernel
theorem dX11_renumbered_46 : decode cX11_renumbered 46 = .ok (.iload_n 3, 1) := by decide +kernel
theorem dX11_renumbered_47 : decode cX11_renumbered 47 = .ok (.ireturn, 1) := by decide +kernel
set_option maxRecDepth 20000 in
theorem ggX11_trim_X11_useful : GoodIn wsX11_trim wsX11_useful := goodIn_r _ [11, 3, 1, 4, 12, 13, 14, 10, 15, 16, 17, 18, 19, 6, 20, 21, 22, 32, 33, 34, 35, 36, 37, 38, 39, 40, 41, 42, 43, 44, 45, 46, 47, 48, 49, 50, 51, 52, 53, 54, 55, 56, 57, 58, 59, 60, 61, 62, 63, 64, 65, 66, 67, 68, 69, 70, 71, 72, 73, 74, 75, 76, 77, 78, 79, 80, 81] (by decide +kernel) (by decide +kernel)
set_option maxRecDepth 20000 in
theorem gX11_trim_X11_useful : GoodIn wsX11_trim (wsV RX11 151 RX11 yX11_useful wsX11_useful) := goodIn_app (goodIn_of _ (by decide +kernel)) ggX11_trim_X11_useful
set_option maxRecDepth 20000 in
theorem ggX11_trim_X11_renumbered : GoodIn wsX11_trim wsX11_renumbered := goodIn_r _ [26, 2, 20, 21, 10, 22, 32, 33, 34, 35, 36, 37, 38, 39, 40, 41, 42, 43, 44, 45, 46, 47, 48, 49, 50, 51, 52, 53, 54, 55, 56, 57, 58, 59, 60, 61, 62, 63, 64, 65, 66, 67, 68, 69, 70, 71, 72, 73, 74, 75, 76, 77, 78, 79, 80, 81] (by decide +kernel) (by decide +kernel)
set_option maxRecDepth 20000 in
theorem gX11_trim_X11_renumbered : GoodIn wsX11_trim (wsV RX11 155 RX11 yX11_renumbered wsX11_renumbered) := goodIn_app (goodIn_of _ (by decide +kernel)) ggX11_trim_X11_renumbered
set_option maxRecDepth 20000 in
theorem ggX11_trim_X11_clears : GoodIn wsX11_trim wsX11_clears := goodIn_r _ [30, 1, 3, 4, 6, 31, 32, 33, 34, 35, 36, 37, 38, 39, 40, 41, 42, 43, 44, 45, 46, 47, 48, 49, 50, 51, 52, 53, 54, 55, 56, 57, 58, 59, 60, 61, 62, 63, 64, 65, 66, 67, 68, 69, 70, 71, 72, 73, 74, 75, 76, 77, 78, 79, 80, 81] (by decide +kernel) (by decide +kernel)
set_option maxRecDepth 20000 in
theorem gX11_trim_X11_clears : GoodIn wsX11_trim (wsV RX11 128 RX11 yX11_clears wsX11_clears) := goodIn_app (goodIn_of _ (by decide +kernel)) ggX11_trim_X11_clears
set_option maxRecDepth 20000 in
theorem ggX11_trim_X11_has : GoodIn wsX11_trim wsX11_has := goodIn_r _ [22] (by decide +kernel) (by decide +kernel)
set_option maxRecDepth 20000 in
theorem gX11_trim_X11_has : GoodIn wsX11_trim (va_wsS RX11 139 yX11_has wsX11_has) := goodIn_app (goodIn_of _ (by decide +kernel)) ggX11_trim_X11_has
theorem dX11_trim_0 : decode cX11_trim 0 = .ok (.aload_n 0, 1) := by decide +kernel
theorem dX11_trim_1 : decode cX11_trim 1 = .ok (.invokevirtual 151, 3) := by decide +kernel
theorem dX11_trim_4 : decode cX11_trim 4 = .ok (.istore_n 1, 1) := by decide +kernel
theorem dX11_trim_5 : decode cX11_trim 5 = .ok (.iconst 0, 1) := by decide +kernel
theorem dX11_trim_6 : decode cX11_trim 6 = .ok (.istore_n 2, 1) := by decide +kernel
theorem dX11_trim_7 : decode cX11_trim 7 = .ok (.aload_n 0, 1) := by decide +kernel
theorem dX11_trim_8 : decode cX11_trim 8 = .ok (.getfield 19, 3) := by decide +kernel
theorem dX11_trim_11 : decode cX11_trim 11 = .ok (.istore_n 3, 1) := by decide +kernel
theorem dX11_trim_12 : decode cX11_trim 12 = .ok (.iconst 0, 1) := by decide +kernel
theorem dX11_trim_13 : decode cX11_trim 13 = .ok (.istore 4, 2) := by decide +kernel
theorem dX11_trim_15 : decode cX11_trim 15 = .ok (.iload 4, 2) := by decide +kernel
theorem dX11_trim_17 : decode cX11_trim 17 = .ok (.iload_n 3, 1) := by decide +kernel
theorem dX11_trim_18 : decode cX11_trim 18 = .ok (.if_icmp .ge 26, 3) := by decide +kernel
theorem dX11_trim_21 : decode cX11_trim 21 = .ok (.aload_n 0, 1) := by decide +kernel
theorem dX11_trim_22 : decode cX11_trim 22 = .ok (.getfield 23, 3) := by decide +kernel
theorem dX11_trim_25 : decode cX11_trim 25 = .ok (.iload 4, 2) := by decide +kernel
theorem dX11_trim_27 : decode cX11_trim 27 = .ok (.iload_n 2, 1) := by decide +kernel
theorem dX11_trim_28 : decode cX11_trim 28 = .ok (.iastore, 1) := by decide +kernel
theorem dX11_trim_29 : decode cX11_trim 29 = .ok (.iload_n 2, 1) := by decide +kernel
theorem dX11_trim_30 : decode cX11_trim 30 = .ok (.iload_n 1, 1) := by decide +kernel
theorem dX11_trim_31 : decode cX11_trim 31 = .ok (.iload 4, 2) := by decide +kernel
theorem dX11_trim_33 : decode cX11_trim 33 = .ok (.ishr, 1) := by decide +kernel
theorem dX11_trim_34 : decode cX11_trim 34 = .ok (.iconst 1, 1) := by decide +kernel
theorem dX11_trim_35 : decode cX11_trim 35 = .ok (.iand, 1) := by decide +kernel
theorem dX11_trim_36 : decode cX11_trim 36 = .ok (.iadd, 1) := by decide +kernel
theorem dX11_trim_37 : decode cX11_trim 37 = .ok (.istore_n 2, 1) := by decide +kernel
theorem dX11_trim_38 : decode cX11_trim 38 = .ok (.iinc 4 1, 3) := by decide +kernel
theorem dX11_trim_41 : decode cX11_trim 41 = .ok (.goto (-26), 3) := by decide +kernel
theorem dX11_trim_44 : decode cX11_trim 44 = .ok (.aload_n 0, 1) := by decide +kernel
theorem dX11_trim_45 : decode cX11_trim 45 = .ok (.aload_n 0, 1) := by decide +kernel
theorem dX11_trim_46 : decode cX11_trim 46 = .ok (.getfield 112, 3) := by decide +kernel
theorem dX11_trim_49 : decode cX11_trim 49 = .ok (.iload_n 1, 1) := by decide +kernel
theorem dX11_trim_50 : decode cX11_trim 50 = .ok (.invokevirtual 155, 3) := by decide +kernel
theorem dX11_trim_53 : decode cX11_trim 53 = .ok (.istore 4, 2) := by decide +kernel
theorem dX11_trim_55 : decode cX11_trim 55 = .ok (.aload_n 0, 1) := by decide +kernel
theorem dX11_trim_56 : decode cX11_trim 56 = .ok (.aload_n 0, 1) := by decide +kernel
theorem dX11_trim_57 : decode cX11_trim 57 = .ok (.getfield 115, 3) := by decide +kernel
theorem dX11_trim_60 : decode cX11_trim 60 = .ok (.iload_n 1, 1) := by decide +kernel
theorem dX11_trim_61 : decode cX11_trim 61 = .ok (.invokevirtual 155, 3) := by decide +kernel
theorem dX11_trim_64 : decode cX11_trim 64 = .ok (.istore 5, 2) := by decide +kernel
theorem dX11_trim_66 : decode cX11_trim 66 = .ok (.iconst 0, 1) := by decide +kernel
theorem dX11_trim_67 : decode cX11_trim 67 = .ok (.istore 6, 2) := by decide +kernel
theorem dX11_trim_69 : decode cX11_trim 69 = .ok (.iload 6, 2) := by decide +kernel
theorem dX11_trim_71 : decode cX11_trim 71 = .ok (.bipush 18, 2) := by decide +kernel
theorem dX11_trim_73 : decode cX11_trim 73 = .ok (.if_icmp .ge 23, 3) := by decide +kernel
theorem dX11_trim_76 : decode cX11_trim 76 = .ok (.aload_n 0, 1) := by decide +kernel
theorem dX11_trim_77 : decode cX11_trim 77 = .ok (.getfield 26, 3) := by decide +kernel
theorem dX11_trim_80 : decode cX11_trim 80 = .ok (.iload 6, 2) := by decide +kernel
theorem dX11_trim_82 : decode cX11_trim 82 = .ok (.aload_n 0, 1) := by decide +kernel
theorem dX11_trim_83 : decode cX11_trim 83 = .ok (.getfield 7, 3) := by decide +kernel
theorem dX11_trim_86 : decode cX11_trim 86 = .ok (.iload 6, 2) := by decide +kernel
theorem dX11_trim_88 : decode cX11_trim 88 = .ok (.iaload, 1) := by decide +kernel
theorem dX11_trim_89 : decode cX11_trim 89 = .ok (.iastore, 1) := by decide +kernel
theorem dX11_trim_90 : decode cX11_trim 90 = .ok (.iinc 6 1, 3) := by decide +kernel
theorem dX11_trim_93 : decode cX11_trim 93 = .ok (.goto (-24), 3) := by decide +kernel
theorem dX11_trim_96 : decode cX11_trim 96 = .ok (.aload_n 0, 1) := by decide +kernel
theorem dX11_trim_97 : decode cX11_trim 97 = .ok (.iload_n 2, 1) := by decide +kernel
theorem dX11_trim_98 : decode cX11_trim 98 = .ok (.ifCond .ne 7, 3) := by decide +kernel
theorem dX11_trim_101 : decode cX11_trim 101 = .ok (.iconst 1, 1) := by decide +kernel
theorem dX11_trim_102 : decode cX11_trim 102 = .ok (.goto 4, 3) := by decide +kernel
theorem dX11_trim_105 : decode cX11_trim 105 = .ok (.iload_n 2, 1) := by decide +kernel
theorem dX11_trim_106 : decode cX11_trim 106 = .ok (.invokevirtual 128, 3) := by decide +kernel
theorem dX11_trim_109 : decode cX11_trim 109 = .ok (.aload_n 0, 1) := by decide +kernel
theorem dX11_trim_110 : decode cX11_trim 110 = .ok (.iload 4, 2) := by decide +kernel
theorem dX11_trim_112 : decode cX11_trim 112 = .ok (.putfield 112, 3) := by decide +kernel
theorem dX11_trim_115 : decode cX11_trim 115 = .ok (.aload_n 0, 1) := by decide +kernel
theorem dX11_trim_116 : decode cX11_trim 116 = .ok (.iload 5, 2) := by decide +kernel
theorem dX11_trim_118 : decode cX11_trim 118 = .ok (.putfield 115, 3) := by decide +kernel
theorem dX11_trim_121 : decode cX11_trim 121 = .ok (.iconst 0, 1) := by decide +kernel
theorem dX11_trim_122 : decode cX11_trim 122 = .ok (.istore 6, 2) := by decide +kernel
theorem dX11_trim_124 : decode cX11_trim 124 = .ok (.iload 6, 2) := by decide +kernel
theorem dX11_trim_126 : decode cX11_trim 126 = .ok (.iconst 3, 1) := by decide +kernel
theorem dX11_trim_127 : decode cX11_trim 127 = .ok (.if_icmp .ge 70, 3) := by decide +kernel
theorem dX11_trim_130 : decode cX11_trim 130 = .ok (.iconst 0, 1) := by decide +kernel
theorem dX11_trim_131 : decode cX11_trim 131 = .ok (.istore 7, 2) := by decide +kernel
theorem dX11_trim_133 : decode cX11_trim 133 = .ok (.iload 7, 2) := by decide +kernel
theorem dX11_trim_135 : decode cX11_trim 135 = .ok (.iload_n 3, 1) := by decide +kernel
theorem dX11_trim_136 : decode cX11_trim 136 = .ok (.if_icmp .ge 55, 3) := by decide +kernel
theorem dX11_trim_139 : decode cX11_trim 139 = .ok (.iload_n 1, 1) := by decide +kernel
theorem dX11_trim_140 : decode cX11_trim 140 = .ok (.i2l, 1) := by decide +kernel
theorem dX11_trim_141 : decode cX11_trim 141 = .ok (.iload 7, 2) := by decide +kernel
theorem dX11_trim_143 : decode cX11_trim 143 = .ok (.invokestatic 139, 3) := by decide +kernel
theorem dX11_trim_146 : decode cX11_trim 146 = .ok (.ifCond .eq 39, 3) := by decide +kernel
theorem dX11_trim_149 : decode cX11_trim 149 = .ok (.aload_n 0, 1) := by decide +kernel
theorem dX11_trim_150 : decode cX11_trim 150 = .ok (.getfield 7, 3) := by decide +kernel
theorem dX11_trim_153 : decode cX11_trim 153 = .ok (.bipush 6, 2) := by decide +kernel
theorem dX11_trim_155 : decode cX11_trim 155 = .ok (.iload 6, 2) := by decide +kernel
theorem dX11_trim_157 : decode cX11_trim 157 = .ok (.imul, 1) := by decide +kernel
theorem dX11_trim_158 : decode cX11_trim 158 = .ok (.aload_n 0, 1) := by decide +kernel
theorem dX11_trim_159 : decode cX11_trim 159 = .ok (.getfield 23, 3) := by decide +kernel
theorem dX11_trim_162 : decode cX11_trim 162 = .ok (.iload 7, 2) := by decide +kernel
theorem dX11_trim_164 : decode cX11_trim 164 = .ok (.iaload, 1) := by decide +kernel
theorem dX11_trim_165 : decode cX11_trim 165 = .ok (.iadd, 1) := by decide +kernel
theorem dX11_trim_166 : decode cX11_trim 166 = .ok (.aload_n 0, 1) := by decide +kernel
theorem dX11_trim_167 : decode cX11_trim 167 = .ok (.aload_n 0, 1) := by decide +kernel
theorem dX11_trim_168 : decode cX11_trim 168 = .ok (.getfield 26, 3) := by decide +kernel
theorem dX11_trim_171 : decode cX11_trim 171 = .ok (.bipush 6, 2) := by decide +kernel
theorem dX11_trim_173 : decode cX11_trim 173 = .ok (.iload 6, 2) := by decide +kernel
theorem dX11_trim_175 : decode cX11_trim 175 = .ok (.imul, 1) := by decide +kernel
theorem dX11_trim_176 : decode cX11_trim 176 = .ok (.iload 7, 2) := by decide +kernel
theorem dX11_trim_178 : decode cX11_trim 178 = .ok (.iadd, 1) := by decide +kernel
theorem dX11_trim_179 : decode cX11_trim 179 = .ok (.iaload, 1) := by decide +kernel
theorem dX11_trim_180 : decode cX11_trim 180 = .ok (.iload_n 1, 1) := by decide +kernel
theorem dX11_trim_181 : decode cX11_trim 181 = .ok (.invokevirtual 155, 3) := by decide +kernel
theorem dX11_trim_184 : decode cX11_trim 184 = .ok (.iastore, 1) := by decide +kernel
theorem dX11_trim_185 : decode cX11_trim 185 = .ok (.iinc 7 1, 3) := by decide +kernel
theorem dX11_trim_188 : decode cX11_trim 188 = .ok (.goto (-55), 3) := by decide +kernel
theorem dX11_trim_191 : decode cX11_trim 191 = .ok (.iinc 6 1, 3) := by decide +kernel
theorem dX11_trim_194 : decode cX11_trim 194 = .ok (.goto (-70), 3) := by decide +kernel
theorem dX11_trim_197 : decode cX11_trim 197 = .ok (.aload_n 0, 1) := by decide +kernel
theorem dX11_trim_198 : decode cX11_trim 198 = .ok (.getfield 19, 3) := by decide +kernel
theorem dX11_trim_201 : decode cX11_trim 201 = .ok (.ireturn, 1) := by decide +kernel
theorem dX11_draw_0 : decode cX11_draw 0 = .ok (.aload_n 0, 1) := by decide +kernel
theorem dX11_draw_1 : decode cX11_draw 1 = .ok (.aload_n 0, 1) := by decide +kernel
theorem dX11_draw_2 : decode cX11_draw 2 = .ok (.getfield 158, 3) := by decide +kernel
theorem dX11_draw_5 : decode cX11_draw 5 = .ok (.ldc 161, 2) := by decide +kernel
theorem dX11_draw_7 : decode cX11_draw 7 = .ok (.imul, 1) := by decide +kernel
theorem dX11_draw_8 : decode cX11_draw 8 = .ok (.sipush 12345, 3) := by decide +kernel
theorem dX11_draw_11 : decode cX11_draw 11 = .ok (.iadd, 1) := by decide +kernel
theorem dX11_draw_12 : decode cX11_draw 12 = .ok (.putfield 158, 3) := by decide +kernel
theorem dX11_draw_15 : decode cX11_draw 15 = .ok (.aload_n 0, 1) := by decide +kernel
theorem dX11_draw_16 : decode cX11_draw 16 = .ok (.getfield 158, 3) := by decide +kernel
theorem dX11_draw_19 : decode cX11_draw 19 = .ok (.bipush 16, 2) := by decide +kernel
theorem dX11_draw_21 : decode cX11_draw 21 = .ok (.iushr, 1) := by decide +kernel
theorem dX11_draw_22 : decode cX11_draw 22 = .ok (.iload_n 1, 1) := by decide +kernel
theorem dX11_draw_23 : decode cX11_draw 23 = .ok (.irem, 1) := by decide +kernel
theorem dX11_draw_24 : decode cX11_draw 24 = .ok (.ireturn, 1) := by decide +kernel
set_option maxRecDepth 20000 in
theorem ggX11_randomize_X11_isBetween : GoodIn wsX11_randomize wsX11_isBetween := goodIn_r _ [9] (by decide +kernel) (by decide +kernel)
set_option maxRecDepth 20000 in
theorem gX11_randomize_X11_isBetween : GoodIn wsX11_randomize (va_wsS RX11 124 yX11_isBetween wsX11_isBetween) := goodIn_app (goodIn_of _ (by decide +kernel)) ggX11_randomize_X11_isBetween
set_option maxRecDepth 20000 in
theorem ggX11_randomize_X11_draw : GoodIn wsX11_randomize wsX11_draw := goodIn_r _ [13, 2, 14, 19, 20, 21, 22, 23, 24, 25, 26, 27, 28, 29, 30, 31, 32, 33, 34, 35, 36, 37, 38, 39, 40, 41, 42, 43, 44, 45, 46, 47, 48, 49, 50, 51, 52, 53, 54, 55, 56, 57, 58, 59, 60, 61, 62, 63, 64, 65, 66, 67, 68] (by decide +kernel) (by decide +kernel)
set_option maxRecDepth 20000 in
theorem gX11_randomize_X11_draw : GoodIn wsX11_randomize (wsV RX11 164 RX11 yX11_draw wsX11_draw) := goodIn_app (goodIn_of _ (by decide +kernel)) ggX11_randomize_X11_draw
set_option maxRecDepth 20000 in
theorem ggX11_randomize_X11_transitionCount : GoodIn wsX11_randomize wsX11_transitionCount := goodIn_r _ [18, 4, 19, 20, 21, 22, 23, 24, 25, 26, 27, 28, 29, 30, 31, 32, 33, 34, 35, 36, 37, 38, 39, 40, 41, 42, 43, 44, 45, 46, 47, 48, 49, 50, 51, 52, 53, 54, 55, 56, 57, 58, 59, 60, 61, 62, 63, 64, 65, 66, 67, 68] (by decide +kernel) (by decide +kernel)
set_option maxRecDepth 20000 in
theorem gX11_randomize_X11_transitionCount : GoodIn wsX11_randomize (wsV RX11 167 RX11 yX11_transitionCount wsX11_transitionCount) := goodIn_app (goodIn_of _ (by decide +kernel)) ggX11_randomize_X11_transitionCount
theorem dX11_randomize_0 : decode cX11_randomize 0 = .ok (.iload_n 2, 1) := by decide +kernel
theorem dX11_randomize_1 : decode cX11_randomize 1 = .ok (.i2l, 1) := by decide +kernel
theorem dX11_randomize_2 : decode cX11_randomize 2 = .ok (.lconst 0, 1) := by decide +kernel
theorem dX11_randomize_3 : decode cX11_randomize 3 = .ok (.ldc2_w 162, 3) := by decide +kernel
theorem dX11_randomize_6 : decode cX11_randomize 6 = .ok (.invokestatic 124, 3) := by decide +kernel
theorem dX11_randomize_9 : decode cX11_randomize 9 = .ok (.ifCond .ne 6, 3) := by decide +kernel
theorem dX11_randomize_12 : decode cX11_randomize 12 = .ok (.bipush (-2), 2) := by decide +kernel
theorem dX11_randomize_14 : decode cX11_randomize 14 = .ok (.ireturn, 1) := by decide +kernel
theorem dX11_randomize_15 : decode cX11_randomize 15 = .ok (.aload_n 0, 1) := by decide +kernel
theorem dX11_randomize_16 : decode cX11_randomize 16 = .ok (.iload_n 1, 1) := by decide +kernel
theorem dX11_randomize_17 : decode cX11_randomize 17 = .ok (.putfield 158, 3) := by decide +kernel
theorem dX11_randomize_20 : decode cX11_randomize 20 = .ok (.iconst 0, 1) := by decide +kernel
theorem dX11_randomize_21 : decode cX11_randomize 21 = .ok (.istore_n 3, 1) := by decide +kernel
theorem dX11_randomize_22 : decode cX11_randomize 22 = .ok (.iload_n 3, 1) := by decide +kernel
theorem dX11_randomize_23 : decode cX11_randomize 23 = .ok (.iload_n 2, 1) := by decide +kernel
theorem dX11_randomize_24 : decode cX11_randomize 24 = .ok (.if_icmp .ge 52, 3) := by decide +kernel
theorem dX11_randomize_27 : decode cX11_randomize 27 = .ok (.aload_n 0, 1) := by decide +kernel
theorem dX11_randomize_28 : decode cX11_randomize 28 = .ok (.aload_n 0, 1) := by decide +kernel
theorem dX11_randomize_29 : decode cX11_randomize 29 = .ok (.getfield 19, 3) := by decide +kernel
theorem dX11_randomize_32 : decode cX11_randomize 32 = .ok (.invokevirtual 164, 3) := by decide +kernel
theorem dX11_randomize_35 : decode cX11_randomize 35 = .ok (.istore 4, 2) := by decide +kernel
theorem dX11_randomize_37 : decode cX11_randomize 37 = .ok (.aload_n 0, 1) := by decide +kernel
theorem dX11_randomize_38 : decode cX11_randomize 38 = .ok (.iconst 3, 1) := by decide +kernel
theorem dX11_randomize_39 : decode cX11_randomize 39 = .ok (.invokevirtual 164, 3) := by decide +kernel
theorem dX11_randomize_42 : decode cX11_randomize 42 = .ok (.istore 5, 2) := by decide +kernel
theorem dX11_randomize_44 : decode cX11_randomize 44 = .ok (.aload_n 0, 1) := by decide +kernel
theorem dX11_randomize_45 : decode cX11_randomize 45 = .ok (.getfield 7, 3) := by decide +kernel
theorem dX11_randomize_48 : decode cX11_randomize 48 = .ok (.bipush 6, 2) := by decide +kernel
theorem dX11_randomize_50 : decode cX11_randomize 50 = .ok (.iload 5, 2) := by decide +kernel
theorem dX11_randomize_52 : decode cX11_randomize 52 = .ok (.imul, 1) := by decide +kernel
theorem dX11_randomize_53 : decode cX11_randomize 53 = .ok (.iload 4, 2) := by decide +kernel
theorem dX11_randomize_55 : decode cX11_randomize 55 = .ok (.iadd, 1) := by decide +kernel
theorem dX11_randomize_56 : decode cX11_randomize 56 = .ok (.dup2, 1) := by decide +kernel
theorem dX11_randomize_57 : decode cX11_randomize 57 = .ok (.iaload, 1) := by decide +kernel
theorem dX11_randomize_58 : decode cX11_randomize 58 = .ok (.iconst 1, 1) := by decide +kernel
theorem dX11_randomize_59 : decode cX11_randomize 59 = .ok (.aload_n 0, 1) := by decide +kernel
theorem dX11_randomize_60 : decode cX11_randomize 60 = .ok (.aload_n 0, 1) := by decide +kernel
theorem dX11_randomize_61 : decode cX11_randomize 61 = .ok (.getfield 19, 3) := by decide +kernel
theorem dX11_randomize_64 : decode cX11_randomize 64 = .ok (.invokevirtual 164, 3) := by decide +kernel
theorem dX11_randomize_67 : decode cX11_randomize 67 = .ok (.ishl, 1) := by decide +kernel
theorem dX11_randomize_68 : decode cX11_randomize 68 = .ok (.ior, 1) := by decide +kernel
theorem dX11_randomize_69 : decode cX11_randomize 69 = .ok (.iastore, 1) := by decide +kernel
theorem dX11_randomize_70 : decode cX11_randomize 70 = .ok (.iinc 3 1, 3) := by decide +kernel
theorem dX11_randomize_73 : decode cX11_randomize 73 = .ok (.goto (-51), 3) := by decide +kernel
theorem dX11_randomize_76 : decode cX11_randomize 76 = .ok (.aload_n 0, 1) := by decide +kernel
theorem dX11_randomize_77 : decode cX11_randomize 77 = .ok (.iconst 0, 1) := by decide +kernel
theorem dX11_randomize_78 : decode cX11_randomize 78 = .ok (.putfield 118, 3) := by decide +kernel
theorem dX11_randomize_81 : decode cX11_randomize 81 = .ok (.aload_n 0, 1) := by decide +kernel
theorem dX11_randomize_82 : decode cX11_randomize 82 = .ok (.invokevirtual 167, 3) := by decide +kernel
theorem dX11_randomize_85 : decode cX11_randomize 85 = .ok (.ireturn, 1) := by decide +kernel
set_option maxRecDepth 20000 in
theorem ggX11_append_X11_isBetween : GoodIn wsX11_append wsX11_isBetween := goodIn_r _ [8] (by decide +kernel) (by decide +kernel)
set_option maxRecDepth 20000 in
theorem gX11_append_X11_isBetween : GoodIn wsX11_append (va_wsS RX11 124 yX11_isBetween wsX11_isBetween) := goodIn_app (goodIn_of _ (by decide +kernel)) ggX11_append_X11_isBetween
theorem dX11_append_0 : decode cX11_append 0 = .ok (.iload_n 1, 1) := by decide +kernel
theorem dX11_append_1 : decode cX11_append 1 = .ok (.i2l, 1) := by decide +kernel
theorem dX11_append_2 : decode cX11_append 2 = .ok (.ldc2_w 170, 3) := by decide +kernel
theorem dX11_append_5 : decode cX11_append 5 = .ok (.ldc2_w 172, 3) := by decide +kernel
theorem dX11_append_8 : decode cX11_append 8 = .ok (.invokestatic 124, 3) := by decide +kernel
theorem dX11_append_11 : decode cX11_append 11 = .ok (.ifCond .ne 6, 3) := by decide +kernel
theorem dX11_append_14 : decode cX11_append 14 = .ok (.bipush (-2), 2) := by decide +kernel
theorem dX11_append_16 : decode cX11_append 16 = .ok (.ireturn, 1) := by decide +kernel
theorem dX11_append_17 : decode cX11_append 17 = .ok (.aload_n 0, 1) := by decide +kernel
theorem dX11_append_18 : decode cX11_append 18 = .ok (.getfield 174, 3) := by decide +kernel
theorem dX11_append_21 : decode cX11_append 21 = .ok (.bipush 60, 2) := by decide +kernel
theorem dX11_append_23 : decode cX11_append 23 = .ok (.if_icmp .ne 6, 3) := by decide +kernel
theorem dX11_append_26 : decode cX11_append 26 = .ok (.bipush (-3), 2) := by decide +kernel
theorem dX11_append_28 : decode cX11_append 28 = .ok (.ireturn, 1) := by decide +kernel
theorem dX11_append_29 : decode cX11_append 29 = .ok (.aload_n 0, 1) := by decide +kernel
theorem dX11_append_30 : decode cX11_append 30 = .ok (.getfield 29, 3) := by decide +kernel
theorem dX11_append_33 : decode cX11_append 33 = .ok (.aload_n 0, 1) := by decide +kernel
theorem dX11_append_34 : decode cX11_append 34 = .ok (.getfield 174, 3) := by decide +kernel
theorem dX11_append_37 : decode cX11_append 37 = .ok (.iload_n 1, 1) := by decide +kernel
theorem dX11_append_38 : decode cX11_append 38 = .ok (.iastore, 1) := by decide +kernel
theorem dX11_append_39 : decode cX11_append 39 = .ok (.aload_n 0, 1) := by decide +kernel
theorem dX11_append_40 : decode cX11_append 40 = .ok (.dup, 1) := by decide +kernel
theorem dX11_append_41 : decode cX11_append 41 = .ok (.getfield 174, 3) := by decide +kernel
theorem dX11_append_44 : decode cX11_append 44 = .ok (.iconst 1, 1) := by decide +kernel
theorem dX11_append_45 : decode cX11_append 45 = .ok (.iadd, 1) := by decide +kernel
theorem dX11_append_46 : decode cX11_append 46 = .ok (.putfield 174, 3) := by decide +kernel
theorem dX11_append_49 : decode cX11_append 49 = .ok (.aload_n 0, 1) := by decide +kernel
theorem dX11_append_50 : decode cX11_append 50 = .ok (.getfield 174, 3) := by decide +kernel
theorem dX11_append_53 : decode cX11_append 53 = .ok (.ireturn, 1) := by decide +kernel
set_option maxRecDepth 20000 in
theorem ggX11_isAt_X11_isBetween : GoodIn wsX11_isAt wsX11_isBetween := goodIn_r _ [7] (by decide +kernel) (by decide +kernel)
set_option maxRecDepth 20000 in
theorem gX11_isAt_X11_isBetween : GoodIn wsX11_isAt (va_wsS RX11 124 yX11_isBetween wsX11_isBetween) := goodIn_app (goodIn_of _ (by decide +kernel)) ggX11_isAt_X11_isBetween
theorem dX11_isAt_0 : decode cX11_isAt 0 = .ok (.aload_n 0, 1) := by decide +kernel
theorem dX11_isAt_1 : decode cX11_isAt 1 = .ok (.getfield 177, 3) := by decide +kernel
theorem dX11_isAt_4 : decode cX11_isAt 4 = .ok (.aload_n 0, 1) := by decide +kernel
theorem dX11_isAt_5 : decode cX11_isAt 5 = .ok (.getfield 174, 3) := by decide +kernel
theorem dX11_isAt_8 : decode cX11_isAt 8 = .ok (.if_icmp .ge 27, 3) := by decide +kernel
theorem dX11_isAt_11 : decode cX11_isAt 11 = .ok (.aload_n 0, 1) := by decide +kernel
theorem dX11_isAt_12 : decode cX11_isAt 12 = .ok (.getfield 29, 3) := by decide +kernel
theorem dX11_isAt_15 : decode cX11_isAt 15 = .ok (.aload_n 0, 1) := by decide +kernel
theorem dX11_isAt_16 : decode cX11_isAt 16 = .ok (.getfield 177, 3) := by decide +kernel
theorem dX11_isAt_19 : decode cX11_isAt 19 = .ok (.iaload, 1) := by decide +kernel
theorem dX11_isAt_20 : decode cX11_isAt 20 = .ok (.i2l, 1) := by decide +kernel
theorem dX11_isAt_21 : decode cX11_isAt 21 = .ok (.iload_n 1, 1) := by decide +kernel
theorem dX11_isAt_22 : decode cX11_isAt 22 = .ok (.i2l, 1) := by decide +kernel
theorem dX11_isAt_23 : decode cX11_isAt 23 = .ok (.iload_n 2, 1) := by decide +kernel
theorem dX11_isAt_24 : decode cX11_isAt 24 = .ok (.i2l, 1) := by decide +kernel
theorem dX11_isAt_25 : decode cX11_isAt 25 = .ok (.invokestatic 124, 3) := by decide +kernel
theorem dX11_isAt_28 : decode cX11_isAt 28 = .ok (.ifCond .eq 7, 3) := by decide +kernel
theorem dX11_isAt_31 : decode cX11_isAt 31 = .ok (.iconst 1, 1) := by decide +kernel
theorem dX11_isAt_32 : decode cX11_isAt 32 = .ok (.goto 4, 3) := by decide +kernel
theorem dX11_isAt_35 : decode cX11_isAt 35 = .ok (.iconst 0, 1) := by decide +kernel
theorem dX11_isAt_36 : decode cX11_isAt 36 = .ok (.ireturn, 1) := by decide +kernel
set_option maxRecDepth 20000 in
theorem ggX11_takesState_X11_isAt : GoodIn wsX11_takesState wsX11_isAt := goodIn_r _ [9, 4, 10, 3, 11, 12, 8, 13, 14, 15, 16, 17, 18, 19, 20, 21, 22, 23, 24, 25, 26, 27, 28, 29, 30, 31, 32, 33, 34, 35, 36, 37, 38, 39, 40, 41, 42, 43, 44, 45, 46, 47, 48, 49, 50, 51, 52, 53, 54, 55, 56, 57, 58, 59, 60, 61, 62, 63] (by decide +kernel) (by decide +kernel)
set_option maxRecDepth 20000 in
theorem gX11_takesState_X11_isAt : GoodIn wsX11_takesState (wsV RX11 180 RX11 yX11_isAt wsX11_isAt) := goodIn_app (goodIn_of _ (by decide +kernel)) ggX11_takesState_X11_isAt
theorem dX11_takesState_0 : decode cX11_takesState 0 = .ok (.aload_n 0, 1) := by decide +kernel
theorem dX11_takesState_1 : decode cX11_takesState 1 = .ok (.bipush 48, 2) := by decide +kernel
theorem dX11_takesState_3 : decode cX11_takesState 3 = .ok (.bipush 48, 2) := by decide +kernel
theorem dX11_takesState_5 : decode cX11_takesState 5 = .ok (.aload_n 0, 1) := by decide +kernel
theorem dX11_takesState_6 : decode cX11_takesState 6 = .ok (.getfield 19, 3) := by decide +kernel
theorem dX11_takesState_9 : decode cX11_takesState 9 = .ok (.iadd, 1) := by decide +kernel
theorem dX11_takesState_10 : decode cX11_takesState 10 = .ok (.iconst 1, 1) := by decide +kernel
theorem dX11_takesState_11 : decode cX11_takesState 11 = .ok (.isub, 1) := by decide +kernel
theorem dX11_takesState_12 : decode cX11_takesState 12 = .ok (.invokevirtual 180, 3) := by decide +kernel
theorem dX11_takesState_15 : decode cX11_takesState 15 = .ok (.ifCond .ne 5, 3) := by decide +kernel
theorem dX11_takesState_18 : decode cX11_takesState 18 = .ok (.iconst 0, 1) := by decide +kernel
theorem dX11_takesState_19 : decode cX11_takesState 19 = .ok (.ireturn, 1) := by decide +kernel
theorem dX11_takesState_20 : decode cX11_takesState 20 = .ok (.aload_n 0, 1) := by decide +kernel
theorem dX11_takesState_21 : decode cX11_takesState 21 = .ok (.getfield 32, 3) := by decide +kernel
theorem dX11_takesState_24 : decode cX11_takesState 24 = .ok (.iload_n 1, 1) := by decide +kernel
theorem dX11_takesState_25 : decode cX11_takesState 25 = .ok (.aload_n 0, 1) := by decide +kernel
theorem dX11_takesState_26 : decode cX11_takesState 26 = .ok (.getfield 29, 3) := by decide +kernel
theorem dX11_takesState_29 : decode cX11_takesState 29 = .ok (.aload_n 0, 1) := by decide +kernel
theorem dX11_takesState_30 : decode cX11_takesState 30 = .ok (.getfield 177, 3) := by decide +kernel
theorem dX11_takesState_33 : decode cX11_takesState 33 = .ok (.iaload, 1) := by decide +kernel
theorem dX11_takesState_34 : decode cX11_takesState 34 = .ok (.bipush 48, 2) := by decide +kernel
theorem dX11_takesState_36 : decode cX11_takesState 36 = .ok (.isub, 1) := by decide +kernel
theorem dX11_takesState_37 : decode cX11_takesState 37 = .ok (.iastore, 1) := by decide +kernel
theorem dX11_takesState_38 : decode cX11_takesState 38 = .ok (.aload_n 0, 1) := by decide +kernel
theorem dX11_takesState_39 : decode cX11_takesState 39 = .ok (.dup, 1) := by decide +kernel
theorem dX11_takesState_40 : decode cX11_takesState 40 = .ok (.getfield 177, 3) := by decide +kernel
theorem dX11_takesState_43 : decode cX11_takesState 43 = .ok (.iconst 1, 1) := by decide +kernel
theorem dX11_takesState_44 : decode cX11_takesState 44 = .ok (.iadd, 1) := by decide +kernel
theorem dX11_takesState_45 : decode cX11_takesState 45 = .ok (.putfield 177, 3) := by decide +kernel
theorem dX11_takesState_48 : decode cX11_takesState 48 = .ok (.iconst 1, 1) := by decide +kernel
theorem dX11_takesState_49 : decode cX11_takesState 49 = .ok (.ireturn, 1) := by decide +kernel
set_option maxRecDepth 20000 in
theorem ggX11_takesItem_X11_isAt : GoodIn wsX11_takesItem wsX11_isAt := goodIn_r _ [9, 2, 10, 4, 11, 12, 8, 13, 19, 20, 21, 22, 23, 24, 25, 26, 27, 28, 29, 30, 31, 32, 33, 34, 35, 36, 37, 38, 39, 40, 41, 42, 43, 44, 45, 46, 47, 48, 49, 50, 51, 52, 53, 54, 55, 56, 57, 58, 59, 60, 61, 62, 63, 64, 65, 66, 67, 68] (by decide +kernel) (by decide +kernel)
set_option maxRecDepth 20000 in
theorem gX11_takesItem_X11_isAt : GoodIn wsX11_takesItem (wsV RX11 180 RX11 yX11_isAt wsX11_isAt) := goodIn_app (goodIn_of _ (by decide +kernel)) ggX11_takesItem_X11_isAt
set_option maxRecDepth 20000 in
theorem ggX11_takesItem_X11_takesState : GoodIn wsX11_takesItem wsX11_takesState := goodIn_r _ [17, 18, 3, 4, 2, 5, 6, 7, 8, 9, 10, 11, 12, 13, 19, 20, 21, 22, 23, 24, 25, 26, 27, 28, 29, 30, 31, 32, 33, 34, 35, 36, 37, 38, 39, 40, 41, 42, 43, 44, 45, 46, 47, 48, 49, 50, 51, 52, 53, 54, 55, 56, 57, 58, 59, 60, 61, 62, 63, 64, 65, 66, 67, 68] (by decide +kernel) (by decide +kernel)
set_option maxRecDepth 20000 in
theorem gX11_takesItem_X11_takesState : GoodIn wsX11_takesItem (wsV RX11 187 RX11 yX11_takesState wsX11_takesState) := goodIn_app (goodIn_of _ (by decide +kernel)) ggX11_takesItem_X11_takesState
theorem dX11_takesItem_0 : decode cX11_takesItem 0 = .ok (.iconst 3, 1) := by decide +kernel
theorem dX11_takesItem_1 : decode cX11_takesItem 1 = .ok (.aload_n 0, 1) := by decide +kernel
theorem dX11_takesItem_2 : decode cX11_takesItem 2 = .ok (.getfield 184, 3) := by decide +kernel
theorem dX11_takesItem_5 : decode cX11_takesItem 5 = .ok (.imul, 1) := by decide +kernel
theorem dX11_takesItem_6 : decode cX11_takesItem 6 = .ok (.istore_n 1, 1) := by decide +kernel
theorem dX11_takesItem_7 : decode cX11_takesItem 7 = .ok (.aload_n 0, 1) := by decide +kernel
theorem dX11_takesItem_8 : decode cX11_takesItem 8 = .ok (.bipush 62, 2) := by decide +kernel
theorem dX11_takesItem_10 : decode cX11_takesItem 10 = .ok (.bipush 62, 2) := by decide +kernel
theorem dX11_takesItem_12 : decode cX11_takesItem 12 = .ok (.invokevirtual 180, 3) := by decide +kernel
theorem dX11_takesItem_15 : decode cX11_takesItem 15 = .ok (.ifCond .eq 28, 3) := by decide +kernel
theorem dX11_takesItem_18 : decode cX11_takesItem 18 = .ok (.aload_n 0, 1) := by decide +kernel
theorem dX11_takesItem_19 : decode cX11_takesItem 19 = .ok (.dup, 1) := by decide +kernel
theorem dX11_takesItem_20 : decode cX11_takesItem 20 = .ok (.getfield 177, 3) := by decide +kernel
theorem dX11_takesItem_23 : decode cX11_takesItem 23 = .ok (.iconst 1, 1) := by decide +kernel
theorem dX11_takesItem_24 : decode cX11_takesItem 24 = .ok (.iadd, 1) := by decide +kernel
theorem dX11_takesItem_25 : decode cX11_takesItem 25 = .ok (.putfield 177, 3) := by decide +kernel
theorem dX11_takesItem_28 : decode cX11_takesItem 28 = .ok (.aload_n 0, 1) := by decide +kernel
theorem dX11_takesItem_29 : decode cX11_takesItem 29 = .ok (.getfield 32, 3) := by decide +kernel
theorem dX11_takesItem_32 : decode cX11_takesItem 32 = .ok (.iload_n 1, 1) := by decide +kernel
theorem dX11_takesItem_33 : decode cX11_takesItem 33 = .ok (.iconst 1, 1) := by decide +kernel
theorem dX11_takesItem_34 : decode cX11_takesItem 34 = .ok (.iadd, 1) := by decide +kernel
theorem dX11_takesItem_35 : decode cX11_takesItem 35 = .ok (.iconst (-1), 1) := by decide +kernel
theorem dX11_takesItem_36 : decode cX11_takesItem 36 = .ok (.iastore, 1) := by decide +kernel
theorem dX11_takesItem_37 : decode cX11_takesItem 37 = .ok (.aload_n 0, 1) := by decide +kernel
theorem dX11_takesItem_38 : decode cX11_takesItem 38 = .ok (.iload_n 1, 1) := by decide +kernel
theorem dX11_takesItem_39 : decode cX11_takesItem 39 = .ok (.invokevirtual 187, 3) := by decide +kernel
theorem dX11_takesItem_42 : decode cX11_takesItem 42 = .ok (.ireturn, 1) := by decide +kernel
theorem dX11_takesItem_43 : decode cX11_takesItem 43 = .ok (.aload_n 0, 1) := by decide +kernel
theorem dX11_takesItem_44 : decode cX11_takesItem 44 = .ok (.iload_n 1, 1) := by decide +kernel
theorem dX11_takesItem_45 : decode cX11_takesItem 45 = .ok (.invokevirtual 187, 3) := by decide +kernel
theorem dX11_takesItem_48 : decode cX11_takesItem 48 = .ok (.ifCond .ne 5, 3) := by decide +kernel
theorem dX11_takesItem_51 : decode cX11_takesItem 51 = .ok (.iconst 0, 1) := by decide +kernel
theorem dX11_takesItem_52 : decode cX11_takesItem 52 = .ok (.ireturn, 1) := by decide +kernel
theorem dX11_takesItem_53 : decode cX11_takesItem 53 = .ok (.aload_n 0, 1) := by decide +kernel
theorem dX11_takesItem_54 : decode cX11_takesItem 54 = .ok (.bipush 33, 2) := by decide +kernel
theorem dX11_takesItem_56 : decode cX11_takesItem 56 = .ok (.bipush 33, 2) := by decide +kernel
theorem dX11_takesItem_58 : decode cX11_takesItem 58 = .ok (.invokevirtual 180, 3) := by decide +kernel
theorem dX11_takesItem_61 : decode cX11_takesItem 61 = .ok (.ifCond .eq 25, 3) := by decide +kernel
theorem dX11_takesItem_64 : decode cX11_takesItem 64 = .ok (.aload_n 0, 1) := by decide +kernel
theorem dX11_takesItem_65 : decode cX11_takesItem 65 = .ok (.dup, 1) := by decide +kernel
theorem dX11_takesItem_66 : decode cX11_takesItem 66 = .ok (.getfield 177, 3) := by decide +kernel
theorem dX11_takesItem_69 : decode cX11_takesItem 69 = .ok (.iconst 1, 1) := by decide +kernel
theorem dX11_takesItem_70 : decode cX11_takesItem 70 = .ok (.iadd, 1) := by decide +kernel
theorem dX11_takesItem_71 : decode cX11_takesItem 71 = .ok (.putfield 177, 3) := by decide +kernel
theorem dX11_takesItem_74 : decode cX11_takesItem 74 = .ok (.aload_n 0, 1) := by decide +kernel
theorem dX11_takesItem_75 : decode cX11_takesItem 75 = .ok (.getfield 32, 3) := by decide +kernel
theorem dX11_takesItem_78 : decode cX11_takesItem 78 = .ok (.iload_n 1, 1) := by decide +kernel
theorem dX11_takesItem_79 : decode cX11_takesItem 79 = .ok (.iconst 1, 1) := by decide +kernel
theorem dX11_takesItem_80 : decode cX11_takesItem 80 = .ok (.iadd, 1) := by decide +kernel
theorem dX11_takesItem_81 : decode cX11_takesItem 81 = .ok (.bipush (-2), 2) := by decide +kernel
theorem dX11_takesItem_83 : decode cX11_takesItem 83 = .ok (.iastore, 1) := by decide +kernel
theorem dX11_takesItem_84 : decode cX11_takesItem 84 = .ok (.iconst 1, 1) := by decide +kernel
theorem dX11_takesItem_85 : decode cX11_takesItem 85 = .ok (.ireturn, 1) := by decide +kernel
theorem dX11_takesItem_86 : decode cX11_takesItem 86 = .ok (.aload_n 0, 1) := by decide +kernel
theorem dX11_takesItem_87 : decode cX11_takesItem 87 = .ok (.bipush 97, 2) := by decide +kernel
theorem dX11_takesItem_89 : decode cX11_takesItem 89 = .ok (.bipush 99, 2) := by decide +kernel
theorem dX11_takesItem_91 : decode cX11_takesItem 91 = .ok (.invokevirtual 180, 3) := by decide +kernel
theorem dX11_takesItem_94 : decode cX11_takesItem 94 = .ok (.ifCond .ne 5, 3) := by decide +kernel
theorem dX11_takesItem_97 : decode cX11_takesItem 97 = .ok (.iconst 0, 1) := by decide +kernel
theorem dX11_takesItem_98 : decode cX11_takesItem 98 = .ok (.ireturn, 1) := by decide +kernel
theorem dX11_takesItem_99 : decode cX11_takesItem 99 = .ok (.aload_n 0, 1) := by decide +kernel
theorem dX11_takesItem_100 : decode cX11_takesItem 100 = .ok (.getfield 32, 3) := by decide +kernel
theorem dX11_takesItem_103 : decode cX11_takesItem 103 = .ok (.iload_n 1, 1) := by decide +kernel
theorem dX11_takesItem_104 : decode cX11_takesItem 104 = .ok (.iconst 1, 1) := by decide +kernel
theorem dX11_takesItem_105 : decode cX11_takesItem 105 = .ok (.iadd, 1) := by decide +kernel
theorem dX11_takesItem_106 : decode cX11_takesItem 106 = .ok (.aload_n 0, 1) := by decide +kernel
theorem dX11_takesItem_107 : decode cX11_takesItem 107 = .ok (.getfield 29, 3) := by decide +kernel
theorem dX11_takesItem_110 : decode cX11_takesItem 110 = .ok (.aload_n 0, 1) := by decide +kernel
theorem dX11_takesItem_111 : decode cX11_takesItem 111 = .ok (.getfield 177, 3) := by decide +kernel
theorem dX11_takesItem_114 : decode cX11_takesItem 114 = .ok (.iaload, 1) := by decide +kernel
theorem dX11_takesItem_115 : decode cX11_takesItem 115 = .ok (.bipush 97, 2) := by decide +kernel
theorem dX11_takesItem_117 : decode cX11_takesItem 117 = .ok (.isub, 1) := by decide +kernel
theorem dX11_takesItem_118 : decode cX11_takesItem 118 = .ok (.iastore, 1) := by decide +kernel
theorem dX11_takesItem_119 : decode cX11_takesItem 119 = .ok (.aload_n 0, 1) := by decide +kernel
theorem dX11_takesItem_120 : decode cX11_takesItem 120 = .ok (.dup, 1) := by decide +kernel
theorem dX11_takesItem_121 : decode cX11_takesItem 121 = .ok (.getfield 177, 3) := by decide +kernel
theorem dX11_takesItem_124 : decode cX11_takesItem 124 = .ok (.iconst 1, 1) := by decide +kernel
theorem dX11_takesItem_125 : decode cX11_takesItem 125 = .ok (.iadd, 1) := by decide +kernel
theorem dX11_takesItem_126 : decode cX11_takesItem 126 = .ok (.putfield 177, 3) := by decide +kernel
theorem dX11_takesItem_129 : decode cX11_takesItem 129 = .ok (.aload_n 0, 1) := by decide +kernel
theorem dX11_takesItem_130 : decode cX11_takesItem 130 = .ok (.iload_n 1, 1) := by decide +kernel
theorem dX11_takesItem_131 : decode cX11_takesItem 131 = .ok (.iconst 2, 1) := by decide +kernel
theorem dX11_takesItem_132 : decode cX11_takesItem 132 = .ok (.iadd, 1) := by decide +kernel
theorem dX11_takesItem_133 : decode cX11_takesItem 133 = .ok (.invokevirtual 187, 3) := by decide +kernel
theorem dX11_takesItem_136 : decode cX11_takesItem 136 = .ok (.ireturn, 1) := by decide +kernel
set_option maxRecDepth 20000 in
theorem ggX11_takesAll_X11_takesItem : GoodIn wsX11_takesAll wsX11_takesItem := goodIn_r _ [8, 1, 2, 9, 10, 11, 12, 13, 7, 14, 3, 15, 16, 17, 18, 19, 20, 21, 22, 23, 24, 25, 26, 27, 28, 29, 30, 31, 32, 33, 34, 35, 36, 37, 38, 39, 40, 41, 42, 43, 44, 45, 46, 47, 48, 49, 50, 51, 52, 53, 54, 55, 56, 57, 58, 59, 60, 61, 62, 63, 64, 65, 66, 67, 68, 69, 70, 71, 72] (by decide +kernel) (by decide +kernel)
set_option maxRecDepth 20000 in
theorem gX11_takesAll_X11_takesItem : GoodIn wsX11_takesAll (wsV RX11 190 RX11 yX11_takesItem wsX11_takesItem) := goodIn_app (goodIn_of _ (by decide +kernel)) ggX11_takesAll_X11_takesItem
set_option maxRecDepth 20000 in
theorem ggX11_takesAll_X11_isAt : GoodIn wsX11_takesAll wsX11_isAt := goodIn_r _ [14, 2, 3, 10, 15, 16, 7, 17, 23, 24, 25, 26, 27, 28, 29, 30, 31, 32, 33, 34, 35, 36, 37, 38, 39, 40, 41, 42, 43, 44, 45, 46, 47, 48, 49, 50, 51, 52, 53, 54, 55, 56, 57, 58, 59, 60, 61, 62, 63, 64, 65, 66, 67, 68, 69, 70, 71, 72] (by decide +kernel) (by decide +kernel)
set_option maxRecDepth 20000 in
theorem gX11_takesAll_X11_isAt : GoodIn wsX11_takesAll (wsV RX11 180 RX11 yX11_isAt wsX11_isAt) := goodIn_app (goodIn_of _ (by decide +kernel)) ggX11_takesAll_X11_isAt
theorem dX11_takesAll_0 : decode cX11_takesAll 0 = .ok (.aload_n 0, 1) := by decide +kernel
theorem dX11_takesAll_1 : decode cX11_takesAll 1 = .ok (.iconst 0, 1) := by decide +kernel
theorem dX11_takesAll_2 : decode cX11_takesAll 2 = .ok (.putfield 184, 3) := by decide +kernel
theorem dX11_takesAll_5 : decode cX11_takesAll 5 = .ok (.aload_n 0, 1) := by decide +kernel
theorem dX11_takesAll_6 : decode cX11_takesAll 6 = .ok (.iconst 0, 1) := by decide +kernel
theorem dX11_takesAll_7 : decode cX11_takesAll 7 = .ok (.putfield 177, 3) := by decide +kernel
theorem dX11_takesAll_10 : decode cX11_takesAll 10 = .ok (.iconst 1, 1) := by decide +kernel
theorem dX11_takesAll_11 : decode cX11_takesAll 11 = .ok (.istore_n 1, 1) := by decide +kernel
theorem dX11_takesAll_12 : decode cX11_takesAll 12 = .ok (.iload_n 1, 1) := by decide +kernel
theorem dX11_takesAll_13 : decode cX11_takesAll 13 = .ok (.ifCond .eq 52, 3) := by decide +kernel
theorem dX11_takesAll_16 : decode cX11_takesAll 16 = .ok (.aload_n 0, 1) := by decide +kernel
theorem dX11_takesAll_17 : decode cX11_takesAll 17 = .ok (.invokevirtual 190, 3) := by decide +kernel
theorem dX11_takesAll_20 : decode cX11_takesAll 20 = .ok (.ifCond .ne 5, 3) := by decide +kernel
theorem dX11_takesAll_23 : decode cX11_takesAll 23 = .ok (.iconst 0, 1) := by decide +kernel
theorem dX11_takesAll_24 : decode cX11_takesAll 24 = .ok (.ireturn, 1) := by decide +kernel
theorem dX11_takesAll_25 : decode cX11_takesAll 25 = .ok (.aload_n 0, 1) := by decide +kernel
theorem dX11_takesAll_26 : decode cX11_takesAll 26 = .ok (.dup, 1) := by decide +kernel
theorem dX11_takesAll_27 : decode cX11_takesAll 27 = .ok (.getfield 184, 3) := by decide +kernel
theorem dX11_takesAll_30 : decode cX11_takesAll 30 = .ok (.iconst 1, 1) := by decide +kernel
theorem dX11_takesAll_31 : decode cX11_takesAll 31 = .ok (.iadd, 1) := by decide +kernel
theorem dX11_takesAll_32 : decode cX11_takesAll 32 = .ok (.putfield 184, 3) := by decide +kernel
theorem dX11_takesAll_35 : decode cX11_takesAll 35 = .ok (.aload_n 0, 1) := by decide +kernel
theorem dX11_takesAll_36 : decode cX11_takesAll 36 = .ok (.bipush 59, 2) := by decide +kernel
theorem dX11_takesAll_38 : decode cX11_takesAll 38 = .ok (.bipush 59, 2) := by decide +kernel
theorem dX11_takesAll_40 : decode cX11_takesAll 40 = .ok (.invokevirtual 180, 3) := by decide +kernel
theorem dX11_takesAll_43 : decode cX11_takesAll 43 = .ok (.istore_n 1, 1) := by decide +kernel
theorem dX11_takesAll_44 : decode cX11_takesAll 44 = .ok (.aload_n 0, 1) := by decide +kernel
theorem dX11_takesAll_45 : decode cX11_takesAll 45 = .ok (.dup, 1) := by decide +kernel
theorem dX11_takesAll_46 : decode cX11_takesAll 46 = .ok (.getfield 177, 3) := by decide +kernel
theorem dX11_takesAll_49 : decode cX11_takesAll 49 = .ok (.iload_n 1, 1) := by decide +kernel
theorem dX11_takesAll_50 : decode cX11_takesAll 50 = .ok (.ifCond .eq 7, 3) := by decide +kernel
theorem dX11_takesAll_53 : decode cX11_takesAll 53 = .ok (.iconst 1, 1) := by decide +kernel
theorem dX11_takesAll_54 : decode cX11_takesAll 54 = .ok (.goto 4, 3) := by decide +kernel
theorem dX11_takesAll_57 : decode cX11_takesAll 57 = .ok (.iconst 0, 1) := by decide +kernel
theorem dX11_takesAll_58 : decode cX11_takesAll 58 = .ok (.iadd, 1) := by decide +kernel
theorem dX11_takesAll_59 : decode cX11_takesAll 59 = .ok (.putfield 177, 3) := by decide +kernel
theorem dX11_takesAll_62 : decode cX11_takesAll 62 = .ok (.goto (-50), 3) := by decide +kernel
theorem dX11_takesAll_65 : decode cX11_takesAll 65 = .ok (.aload_n 0, 1) := by decide +kernel
theorem dX11_takesAll_66 : decode cX11_takesAll 66 = .ok (.getfield 177, 3) := by decide +kernel
theorem dX11_takesAll_69 : decode cX11_takesAll 69 = .ok (.aload_n 0, 1) := by decide +kernel
theorem dX11_takesAll_70 : decode cX11_takesAll 70 = .ok (.getfield 174, 3) := by decide +kernel
theorem dX11_takesAll_73 : decode cX11_takesAll 73 = .ok (.if_icmp .ne 7, 3) := by decide +kernel
theorem dX11_takesAll_76 : decode cX11_takesAll 76 = .ok (.iconst 1, 1) := by decide +kernel
theorem dX11_takesAll_77 : decode cX11_takesAll 77 = .ok (.goto 4, 3) := by decide +kernel
theorem dX11_takesAll_80 : decode cX11_takesAll 80 = .ok (.iconst 0, 1) := by decide +kernel
theorem dX11_takesAll_81 : decode cX11_takesAll 81 = .ok (.ireturn, 1) := by decide +kernel
set_option maxRecDepth 20000 in
theorem ggX11_parse_X11_takesAll : GoodIn wsX11_parse wsX11_takesAll := goodIn_r _ [13, 3, 2, 1, 14, 15, 16, 12, 17, 4, 18, 19, 20, 21, 22, 23, 24, 25, 26, 27, 28, 29, 30, 31, 32, 33, 34, 35, 36, 37, 38, 39, 40, 41, 42, 43, 44, 45, 46, 47, 48, 49, 50, 51, 52, 53, 54, 55, 56, 57, 58, 59, 60, 61, 62, 63, 64, 65, 66, 67, 68, 69, 70, 71, 72, 73, 74, 75, 76, 77, 78, 79, 80] (by decide +kernel) (by decide +kernel)
set_option maxRecDepth 20000 in
theorem gX11_parse_X11_takesAll : GoodIn wsX11_parse (wsV RX11 194 RX11 yX11_takesAll wsX11_takesAll) := goodIn_app (goodIn_of _ (by decide +kernel)) ggX11_parse_X11_takesAll
theorem dX11_parse_0 : decode cX11_parse 0 = .ok (.aload_n 0, 1) := by decide +kernel
theorem dX11_parse_1 : decode cX11_parse 1 = .ok (.invokevirtual 194, 3) := by decide +kernel
theorem dX11_parse_4 : decode cX11_parse 4 = .ok (.istore_n 1, 1) := by decide +kernel
theorem dX11_parse_5 : decode cX11_parse 5 = .ok (.aload_n 0, 1) := by decide +kernel
theorem dX11_parse_6 : decode cX11_parse 6 = .ok (.iconst 0, 1) := by decide +kernel
theorem dX11_parse_7 : decode cX11_parse 7 = .ok (.putfield 174, 3) := by decide +kernel
theorem dX11_parse_10 : decode cX11_parse 10 = .ok (.iload_n 1, 1) := by decide +kernel
theorem dX11_parse_11 : decode cX11_parse 11 = .ok (.ifCond .ne 11, 3) := by decide +kernel
theorem dX11_parse_14 : decode cX11_parse 14 = .ok (.bipush (-100), 2) := by decide +kernel
theorem dX11_parse_16 : decode cX11_parse 16 = .ok (.aload_n 0, 1) := by decide +kernel
theorem dX11_parse_17 : decode cX11_parse 17 = .ok (.getfield 177, 3) := by decide +kernel
theorem dX11_parse_20 : decode cX11_parse 20 = .ok (.isub, 1) := by decide +kernel
theorem dX11_parse_21 : decode cX11_parse 21 = .ok (.ireturn, 1) := by decide +kernel
theorem dX11_parse_22 : decode cX11_parse 22 = .ok (.iconst 0, 1) := by decide +kernel
theorem dX11_parse_23 : decode cX11_parse 23 = .ok (.istore_n 2, 1) := by decide +kernel
theorem dX11_parse_24 : decode cX11_parse 24 = .ok (.iload_n 2, 1) := by decide +kernel
theorem dX11_parse_25 : decode cX11_parse 25 = .ok (.aload_n 0, 1) := by decide +kernel
theorem dX11_parse_26 : decode cX11_parse 26 = .ok (.getfield 184, 3) := by decide +kernel
theorem dX11_parse_29 : decode cX11_parse 29 = .ok (.if_icmp .ge 114, 3) := by decide +kernel
theorem dX11_parse_32 : decode cX11_parse 32 = .ok (.iconst 3, 1) := by decide +kernel
theorem dX11_parse_33 : decode cX11_parse 33 = .ok (.iload_n 2, 1) := by decide +kernel
theorem dX11_parse_34 : decode cX11_parse 34 = .ok (.imul, 1) := by decide +kernel
theorem dX11_parse_35 : decode cX11_parse 35 = .ok (.istore_n 3, 1) := by decide +kernel
theorem dX11_parse_36 : decode cX11_parse 36 = .ok (.aload_n 0, 1) := by decide +kernel
theorem dX11_parse_37 : decode cX11_parse 37 = .ok (.getfield 32, 3) := by decide +kernel
theorem dX11_parse_40 : decode cX11_parse 40 = .ok (.iload_n 3, 1) := by decide +kernel
theorem dX11_parse_41 : decode cX11_parse 41 = .ok (.iconst 1, 1) := by decide +kernel
theorem dX11_parse_42 : decode cX11_parse 42 = .ok (.iadd, 1) := by decide +kernel
theorem dX11_parse_43 : decode cX11_parse 43 = .ok (.iaload, 1) := by decide +kernel
theorem dX11_parse_44 : decode cX11_parse 44 = .ok (.iconst (-1), 1) := by decide +kernel
theorem dX11_parse_45 : decode cX11_parse 45 = .ok (.if_icmp .ne 23, 3) := by decide +kernel
theorem dX11_parse_48 : decode cX11_parse 48 = .ok (.aload_n 0, 1) := by decide +kernel
theorem dX11_parse_49 : decode cX11_parse 49 = .ok (.dup, 1) := by decide +kernel
theorem dX11_parse_50 : decode cX11_parse 50 = .ok (.getfield 112, 3) := by decide +kernel
theorem dX11_parse_53 : decode cX11_parse 53 = .ok (.iconst 1, 1) := by decide +kernel
theorem dX11_parse_54 : decode cX11_parse 54 = .ok (.aload_n 0, 1) := by decide +kernel
theorem dX11_parse_55 : decode cX11_parse 55 = .ok (.getfield 32, 3) := by decide +kernel
theorem dX11_parse_58 : decode cX11_parse 58 = .ok (.iload_n 3, 1) := by decide +kernel
theorem dX11_parse_59 : decode cX11_parse 59 = .ok (.iaload, 1) := by decide +kernel
theorem dX11_parse_60 : decode cX11_parse 60 = .ok (.ishl, 1) := by decide +kernel
theorem dX11_parse_61 : decode cX11_parse 61 = .ok (.ior, 1) := by decide +kernel
theorem dX11_parse_62 : decode cX11_parse 62 = .ok (.putfield 112, 3) := by decide +kernel
theorem dX11_parse_65 : decode cX11_parse 65 = .ok (.goto 72, 3) := by decide +kernel
theorem dX11_parse_68 : decode cX11_parse 68 = .ok (.aload_n 0, 1) := by decide +kernel
theorem dX11_parse_69 : decode cX11_parse 69 = .ok (.getfield 32, 3) := by decide +kernel
theorem dX11_parse_72 : decode cX11_parse 72 = .ok (.iload_n 3, 1) := by decide +kernel
theorem dX11_parse_73 : decode cX11_parse 73 = .ok (.iconst 1, 1) := by decide +kernel
theorem dX11_parse_74 : decode cX11_parse 74 = .ok (.iadd, 1) := by decide +kernel
theorem dX11_parse_75 : decode cX11_parse 75 = .ok (.iaload, 1) := by decide +kernel
theorem dX11_parse_76 : decode cX11_parse 76 = .ok (.bipush (-2), 2) := by decide +kernel
theorem dX11_parse_78 : decode cX11_parse 78 = .ok (.if_icmp .ne 23, 3) := by decide +kernel
theorem dX11_parse_81 : decode cX11_parse 81 = .ok (.aload_n 0, 1) := by decide +kernel
theorem dX11_parse_82 : decode cX11_parse 82 = .ok (.dup, 1) := by decide +kernel
theorem dX11_parse_83 : decode cX11_parse 83 = .ok (.getfield 115, 3) := by decide +kernel
theorem dX11_parse_86 : decode cX11_parse 86 = .ok (.iconst 1, 1) := by decide +kernel
theorem dX11_parse_87 : decode cX11_parse 87 = .ok (.aload_n 0, 1) := by decide +kernel
theorem dX11_parse_88 : decode cX11_parse 88 = .ok (.getfield 32, 3) := by decide +kernel
theorem dX11_parse_91 : decode cX11_parse 91 = .ok (.iload_n 3, 1) := by decide +kernel
theorem dX11_parse_92 : decode cX11_parse 92 = .ok (.iaload, 1) := by decide +kernel
theorem dX11_parse_93 : decode cX11_parse 93 = .ok (.ishl, 1) := by decide +kernel
theorem dX11_parse_94 : decode cX11_parse 94 = .ok (.ior, 1) := by decide +kernel
theorem dX11_parse_95 : decode cX11_parse 95 = .ok (.putfield 115, 3) := by decide +kernel
theorem dX11_parse_98 : decode cX11_parse 98 = .ok (.goto 39, 3) := by decide +kernel
theorem dX11_parse_101 : decode cX11_parse 101 = .ok (.aload_n 0, 1) := by decide +kernel
theorem dX11_parse_102 : decode cX11_parse 102 = .ok (.getfield 7, 3) := by decide +kernel
theorem dX11_parse_105 : decode cX11_parse 105 = .ok (.bipush 6, 2) := by decide +kernel
theorem dX11_parse_107 : decode cX11_parse 107 = .ok (.aload_n 0, 1) := by decide +kernel
theorem dX11_parse_108 : decode cX11_parse 108 = .ok (.getfield 32, 3) := by decide +kernel
theorem dX11_parse_111 : decode cX11_parse 111 = .ok (.iload_n 3, 1) := by decide +kernel
theorem dX11_parse_112 : decode cX11_parse 112 = .ok (.iconst 1, 1) := by decide +kernel
theorem dX11_parse_113 : decode cX11_parse 113 = .ok (.iadd, 1) := by decide +kernel
theorem dX11_parse_114 : decode cX11_parse 114 = .ok (.iaload, 1) := by decide +kernel
theorem dX11_parse_115 : decode cX11_parse 115 = .ok (.imul, 1) := by decide +kernel
theorem dX11_parse_116 : decode cX11_parse 116 = .ok (.aload_n 0, 1) := by decide +kernel
theorem dX11_parse_117 : decode cX11_parse 117 = .ok (.getfield 32, 3) := by decide +kernel
theorem dX11_parse_120 : decode cX11_parse 120 = .ok (.iload_n 3, 1) := by decide +kernel
theorem dX11_parse_121 : decode cX11_parse 121 = .ok (.iaload, 1) := by decide +kernel
theorem dX11_parse_122 : decode cX11_parse 122 = .ok (.iadd, 1) := by decide +kernel
theorem dX11_parse_123 : decode cX11_parse 123 = .ok (.dup2, 1) := by decide +kernel
theorem dX11_parse_124 : decode cX11_parse 124 = .ok (.iaload, 1) := by decide +kernel
theorem dX11_parse_125 : decode cX11_parse 125 = .ok (.iconst 1, 1) := by decide +kernel
theorem dX11_parse_126 : decode cX11_parse 126 = .ok (.aload_n 0, 1) := by decide +kernel
theorem dX11_parse_127 : decode cX11_parse 127 = .ok (.getfield 32, 3) := by decide +kernel
theorem dX11_parse_130 : decode cX11_parse 130 = .ok (.iload_n 3, 1) := by decide +kernel
theorem dX11_parse_131 : decode cX11_parse 131 = .ok (.iconst 2, 1) := by decide +kernel
theorem dX11_parse_132 : decode cX11_parse 132 = .ok (.iadd, 1) := by decide +kernel
theorem dX11_parse_133 : decode cX11_parse 133 = .ok (.iaload, 1) := by decide +kernel
theorem dX11_parse_134 : decode cX11_parse 134 = .ok (.ishl, 1) := by decide +kernel
theorem dX11_parse_135 : decode cX11_parse 135 = .ok (.ior, 1) := by decide +kernel
theorem dX11_parse_136 : decode cX11_parse 136 = .ok (.iastore, 1) := by decide +kernel
theorem dX11_parse_137 : decode cX11_parse 137 = .ok (.iinc 2 1, 3) := by decide +kernel
theorem dX11_parse_140 : decode cX11_parse 140 = .ok (.goto (-116), 3) := by decide +kernel
theorem dX11_parse_143 : decode cX11_parse 143 = .ok (.aload_n 0, 1) := by decide +kernel
theorem dX11_parse_144 : decode cX11_parse 144 = .ok (.iconst 0, 1) := by decide +kernel
theorem dX11_parse_145 : decode cX11_parse 145 = .ok (.putfield 118, 3) := by decide +kernel
theorem dX11_parse_148 : decode cX11_parse 148 = .ok (.aload_n 0, 1) := by decide +kernel
theorem dX11_parse_149 : decode cX11_parse 149 = .ok (.getfield 184, 3) := by decide +kernel
theorem dX11_parse_152 : decode cX11_parse 152 = .ok (.ireturn, 1) := by decide +kernel
set_option maxRecDepth 20000 in
theorem ggX11_appendLetter_X11_isLetter : GoodIn wsX11_appendLetter wsX11_isLetter := goodIn_r _ [6] (by decide +kernel) (by decide +kernel)
set_option maxRecDepth 20000 in
theorem gX11_appendLetter_X11_isLetter : GoodIn wsX11_appendLetter (va_wsS RX11 136 yX11_isLetter wsX11_isLetter) := goodIn_app (goodIn_of _ (by decide +kernel)) ggX11_appendLetter_X11_isLetter
theorem dX11_appendLetter_0 : decode cX11_appendLetter 0 = .ok (.iload_n 1, 1) := by decide +kernel
theorem dX11_appendLetter_1 : decode cX11_appendLetter 1 = .ok (.invokestatic 136, 3) := by decide +kernel
theorem dX11_appendLetter_4 : decode cX11_appendLetter 4 = .ok (.ifCond .ne 5, 3) := by decide +kernel
theorem dX11_appendLetter_7 : decode cX11_appendLetter 7 = .ok (.iconst (-1), 1) := by decide +kernel
theorem dX11_appendLetter_8 : decode cX11_appendLetter 8 = .ok (.ireturn, 1) := by decide +kernel
theorem dX11_appendLetter_9 : decode cX11_appendLetter 9 = .ok (.aload_n 0, 1) := by decide +kernel
theorem dX11_appendLetter_10 : decode cX11_appendLetter 10 = .ok (.getfield 197, 3) := by decide +kernel
theorem dX11_appendLetter_13 : decode cX11_appendLetter 13 = .ok (.bipush 20, 2) := by decide +kernel
theorem dX11_appendLetter_15 : decode cX11_appendLetter 15 = .ok (.if_icmp .ne 6, 3) := by decide +kernel
theorem dX11_appendLetter_18 : decode cX11_appendLetter 18 = .ok (.bipush (-3), 2) := by decide +kernel
theorem dX11_appendLetter_20 : decode cX11_appendLetter 20 = .ok (.ireturn, 1) := by decide +kernel
theorem dX11_appendLetter_21 : decode cX11_appendLetter 21 = .ok (.aload_n 0, 1) := by decide +kernel
theorem dX11_appendLetter_22 : decode cX11_appendLetter 22 = .ok (.getfield 35, 3) := by decide +kernel
theorem dX11_appendLetter_25 : decode cX11_appendLetter 25 = .ok (.aload_n 0, 1) := by decide +kernel
theorem dX11_appendLetter_26 : decode cX11_appendLetter 26 = .ok (.getfield 197, 3) := by decide +kernel
theorem dX11_appendLetter_29 : decode cX11_appendLetter 29 = .ok (.iload_n 1, 1) := by decide +kernel
theorem dX11_appendLetter_30 : decode cX11_appendLetter 30 = .ok (.iastore, 1) := by decide +kernel
theorem dX11_appendLetter_31 : decode cX11_appendLetter 31 = .ok (.aload_n 0, 1) := by decide +kernel
theorem dX11_appendLetter_32 : decode cX11_appendLetter 32 = .ok (.dup, 1) := by decide +kernel
theorem dX11_appendLetter_33 : decode cX11_appendLetter 33 = .ok (.getfield 197, 3) := by decide +kernel
theorem dX11_appendLetter_36 : decode cX11_appendLetter 36 = .ok (.iconst 1, 1) := by decide +kernel
theorem dX11_appendLetter_37 : decode cX11_appendLetter 37 = .ok (.iadd, 1) := by decide +kernel
theorem dX11_appendLetter_38 : decode cX11_appendLetter 38 = .ok (.putfield 197, 3) := by decide +kernel
theorem dX11_appendLetter_41 : decode cX11_appendLetter 41 = .ok (.aload_n 0, 1) := by decide +kernel
theorem dX11_appendLetter_42 : decode cX11_appendLetter 42 = .ok (.getfield 197, 3) := by decide +kernel
theorem dX11_appendLetter_45 : decode cX11_appendLetter 45 = .ok (.ireturn, 1) := by decide +kernel
theorem dX11_clearWord_0 : decode cX11_clearWord 0 = .ok (.aload_n 0, 1) := by decide +kernel
theorem dX11_clearWord_1 : decode cX11_clearWord 1 = .ok (.getfield 197, 3) := by decide +kernel
theorem dX11_clearWord_4 : decode cX11_clearWord 4 = .ok (.istore_n 1, 1) := by decide +kernel
theorem dX11_clearWord_5 : decode cX11_clearWord 5 = .ok (.aload_n 0, 1) := by decide +kernel
theorem dX11_clearWord_6 : decode cX11_clearWord 6 = .ok (.iconst 0, 1) := by decide +kernel
theorem dX11_clearWord_7 : decode cX11_clearWord 7 = .ok (.putfield 197, 3) := by decide +kernel
theorem dX11_clearWord_10 : decode cX11_clearWord 10 = .ok (.iload_n 1, 1) := by decide +kernel
theorem dX11_clearWord_11 : decode cX11_clearWord 11 = .ok (.ireturn, 1) := by decide +kernel
theorem dX11_wordLength_0 : decode cX11_wordLength 0 = .ok (.aload_n 0, 1) := by decide +kernel
theorem dX11_wordLength_1 : decode cX11_wordLength 1 = .ok (.getfield 197, 3) := by decide +kernel
theorem dX11_wordLength_4 : decode cX11_wordLength 4 = .ok (.ireturn, 1) := by decide +kernel
theorem dX11_wordLetter_0 : decode cX11_wordLetter 0 = .ok (.iload_n 1, 1) := by decide +kernel
theorem dX11_wordLetter_1 : decode cX11_wordLetter 1 = .ok (.ifCond .lt 20, 3) := by decide +kernel
theorem dX11_wordLetter_4 : decode cX11_wordLetter 4 = .ok (.iload_n 1, 1) := by decide +kernel
theorem dX11_wordLetter_5 : decode cX11_wordLetter 5 = .ok (.aload_n 0, 1) := by decide +kernel
theorem dX11_wordLetter_6 : decode cX11_wordLetter 6 = .ok (.getfield 197, 3) := by decide +kernel
theorem dX11_wordLetter_9 : decode cX11_wordLetter 9 = .ok (.if_icmp .ge 12, 3) := by decide +kernel
theorem dX11_wordLetter_12 : decode cX11_wordLetter 12 = .ok (.aload_n 0, 1) := by decide +kernel
theorem dX11_wordLetter_13 : decode cX11_wordLetter 13 = .ok (.getfield 35, 3) := by decide +kernel
theorem dX11_wordLetter_16 : decode cX11_wordLetter 16 = .ok (.iload_n 1, 1) := by decide +kernel
theorem dX11_wordLetter_17 : decode cX11_wordLetter 17 = .ok (.iaload, 1) := by decide +kernel
theorem dX11_wordLetter_18 : decode cX11_wordLetter 18 = .ok (.goto 4, 3) := by decide +kernel
theorem dX11_wordLetter_21 : decode cX11_wordLetter 21 = .ok (.iconst (-1), 1) := by decide +kernel
theorem dX11_wordLetter_22 : decode cX11_wordLetter 22 = .ok (.ireturn, 1) := by decide +kernel
theorem dX11_plus_0 : decode cX11_plus 0 = .ok (.lload_n 0, 1) := by decide +kernel
theorem dX11_plus_1 : decode cX11_plus 1 = .ok (.lconst 0, 1) := by decide +kernel
theorem dX11_plus_2 : decode cX11_plus 2 = .ok (.lcmp, 1) := by decide +kernel
theorem dX11_plus_3 : decode cX11_plus 3 = .ok (.ifCond .lt 19, 3) := by decide +kernel
theorem dX11_plus_6 : decode cX11_plus 6 = .ok (.lload_n 2, 1) := by decide +kernel
theorem dX11_plus_7 : decode cX11_plus 7 = .ok (.lconst 0, 1) := by decide +kernel
theorem dX11_plus_8 : decode cX11_plus 8 = .ok (.lcmp, 1) := by decide +kernel
theorem dX11_plus_9 : decode cX11_plus 9 = .ok (.ifCond .lt 13, 3) := by decide +kernel
theorem dX11_plus_12 : decode cX11_plus 12 = .ok (.lload_n 0, 1) := by decide +kernel
theorem dX11_plus_13 : decode cX11_plus 13 = .ok (.ldc2_w 202, 3) := by decide +kernel
theorem dX11_plus_16 : decode cX11_plus 16 = .ok (.lload_n 2, 1) := by decide +kernel
theorem dX11_plus_17 : decode cX11_plus 17 = .ok (.lsub, 1) := by decide +kernel
theorem dX11_plus_18 : decode cX11_plus 18 = .ok (.lcmp, 1) := by decide +kernel
theorem dX11_plus_19 : decode cX11_plus 19 = .ok (.ifCond .le 9, 3) := by decide +kernel
theorem dX11_plus_22 : decode cX11_plus 22 = .ok (.ldc2_w 204, 3) := by decide +kernel
theorem dX11_plus_25 : decode cX11_plus 25 = .ok (.goto 6, 3) := by decide +kernel
theorem dX11_plus_28 : decode cX11_plus 28 = .ok (.lload_n 0, 1) := by decide +kernel
theorem dX11_plus_29 : decode cX11_plus 29 = .ok (.lload_n 2, 1) := by decide +kernel
theorem dX11_plus_30 : decode cX11_plus 30 = .ok (.ladd, 1) := by decide +kernel
theorem dX11_plus_31 : decode cX11_plus 31 = .ok (.lreturn, 1) := by decide +kernel
set_option maxRecDepth 20000 in
theorem ggX11_wordAmbiguity_X11_has : GoodIn wsX11_wordAmbiguity wsX11_has := goodIn_r _ [12] (by decide +kernel) (by decide +kernel)
set_option maxRecDepth 20000 in
theorem gX11_wordAmbiguity_X11_has : GoodIn wsX11_wordAmbiguity (va_wsS RX11 139 yX11_has wsX11_has) := goodIn_app (goodIn_of _ (by decide +kernel)) ggX11_wordAmbiguity_X11_has
theorem dX11_wordAmbiguity_0 : decode cX11_wordAmbiguity 0 = .ok (.iconst 0, 1) := by decide +kernel
theorem dX11_wordAmbiguity_1 : decode cX11_wordAmbiguity 1 = .ok (.istore_n 1, 1) := by decide +kernel
theorem dX11_wordAmbiguity_2 : decode cX11_wordAmbiguity 2 = .ok (.iload_n 1, 1) := by decide +kernel
theorem dX11_wordAmbiguity_3 : decode cX11_wordAmbiguity 3 = .ok (.bipush 6, 2) := by decide +kernel
theorem dX11_wordAmbiguity_5 : decode cX11_wordAmbiguity 5 = .ok (.if_icmp .ge 32, 3) := by decide +kernel
theorem dX11_wordAmbiguity_8 : decode cX11_wordAmbiguity 8 = .ok (.aload_n 0, 1) := by decide +kernel
theorem dX11_wordAmbiguity_9 : decode cX11_wordAmbiguity 9 = .ok (.getfield 38, 3) := by decide +kernel
theorem dX11_wordAmbiguity_12 : decode cX11_wordAmbiguity 12 = .ok (.iload_n 1, 1) := by decide +kernel
theorem dX11_wordAmbiguity_13 : decode cX11_wordAmbiguity 13 = .ok (.aload_n 0, 1) := by decide +kernel
theorem dX11_wordAmbiguity_14 : decode cX11_wordAmbiguity 14 = .ok (.getfield 112, 3) := by decide +kernel
theorem dX11_wordAmbiguity_17 : decode cX11_wordAmbiguity 17 = .ok (.i2l, 1) := by decide +kernel
theorem dX11_wordAmbiguity_18 : decode cX11_wordAmbiguity 18 = .ok (.iload_n 1, 1) := by decide +kernel
theorem dX11_wordAmbiguity_19 : decode cX11_wordAmbiguity 19 = .ok (.invokestatic 139, 3) := by decide +kernel
theorem dX11_wordAmbiguity_22 : decode cX11_wordAmbiguity 22 = .ok (.ifCond .eq 7, 3) := by decide +kernel
theorem dX11_wordAmbiguity_25 : decode cX11_wordAmbiguity 25 = .ok (.lconst 1, 1) := by decide +kernel
theorem dX11_wordAmbiguity_26 : decode cX11_wordAmbiguity 26 = .ok (.goto 4, 3) := by decide +kernel
theorem dX11_wordAmbiguity_29 : decode cX11_wordAmbiguity 29 = .ok (.lconst 0, 1) := by decide +kernel
theorem dX11_wordAmbiguity_30 : decode cX11_wordAmbiguity 30 = .ok (.lastore, 1) := by decide +kernel
theorem dX11_wordAmbiguity_31 : decode cX11_wordAmbiguity 31 = .ok (.iinc 1 1, 3) := by decide +kernel
theorem dX11_wordAmbiguity_34 : decode cX11_wordAmbiguity 34 = .ok (.goto (-32), 3) := by decide +kernel
theorem dX11_wordAmbiguity_37 : decode cX11_wordAmbiguity 37 = .ok (.iconst 0, 1) := by decide +kernel
theorem dX11_wordAmbiguity_38 : decode cX11_wordAmbiguity 38 = .ok (.istore_n 1, 1) := by decide +kernel
theorem dX11_wordAmbiguity_39 : decode cX11_wordAmbiguity 39 = .ok (.iload_n 1, 1) := by decide +kernel
theorem dX11_wordAmbiguity_40 : decode cX11_wordAmbiguity 40 = .ok (.aload_n 0, 1) := by decide +kernel
theorem dX11_wordAmbiguity_41 : decode cX11_wordAmbiguity 41 = .ok (.getfield 197, 3) := by decide +kernel
theorem dX11_wordAmbiguity_44 : decode cX11_wordAmbiguity 44 = .ok (.if_icmp .ge 131, 3) := by decide +kernel
theorem dX11_wordAmbiguity_47 : decode cX11_wordAmbiguity 47 = .ok (.iconst 0, 1) := by decide +kernel
theorem dX11_wordAmbiguity_48 : decode cX11_wordAmbiguity 48 = .ok (.istore_n 2, 1) := by decide +kernel
theorem dX11_wordAmbiguity_49 : decode cX11_wordAmbiguity 49 = .ok (.iload_n 2, 1) := by decide +kernel
theorem dX11_wordAmbiguity_50 : decode cX11_wordAmbiguity 50 = .ok (.bipush 6, 2) := by decide +kernel
theorem dX11_wordAmbiguity_52 : decode cX11_wordAmbiguity 52 = .ok (.if_icmp .ge 16, 3) := by decide +kernel
theorem dX11_wordAmbiguity_55 : decode cX11_wordAmbiguity 55 = .ok (.aload_n 0, 1) := by decide +kernel
theorem dX11_wordAmbiguity_56 : decode cX11_wordAmbiguity 56 = .ok (.getfield 42, 3) := by decide +kernel
theorem dX11_wordAmbiguity_59 : decode cX11_wordAmbiguity 59 = .ok (.iload_n 2, 1) := by decide +kernel
theorem dX11_wordAmbiguity_60 : decode cX11_wordAmbiguity 60 = .ok (.lconst 0, 1) := by decide +kernel
theorem dX11_wordAmbiguity_61 : decode cX11_wordAmbiguity 61 = .ok (.lastore, 1) := by decide +kernel
theorem dX11_wordAmbiguity_62 : decode cX11_wordAmbiguity 62 = .ok (.iinc 2 1, 3) := by decide +kernel
theorem dX11_wordAmbiguity_65 : decode cX11_wordAmbiguity 65 = .ok (.goto (-16), 3) := by decide +kernel
theorem dX11_wordAmbiguity_68 : decode cX11_wordAmbiguity 68 = .ok (.iconst 0, 1) := by decide +kernel
theorem dX11_wordAmbiguity_69 : decode cX11_wordAmbiguity 69 = .ok (.istore_n 2, 1) := by decide +kernel
theorem dX11_wordAmbiguity_70 : decode cX11_wordAmbiguity 70 = .ok (.iload_n 2, 1) := by decide +kernel
theorem dX11_wordAmbiguity_71 : decode cX11_wordAmbiguity 71 = .ok (.aload_n 0, 1) := by decide +kernel
theorem dX11_wordAmbiguity_72 : decode cX11_wordAmbiguity 72 = .ok (.getfield 19, 3) := by decide +kernel
theorem dX11_wordAmbiguity_75 : decode cX11_wordAmbiguity 75 = .ok (.if_icmp .ge 68, 3) := by decide +kernel
theorem dX11_wordAmbiguity_78 : decode cX11_wordAmbiguity 78 = .ok (.iconst 0, 1) := by decide +kernel
theorem dX11_wordAmbiguity_79 : decode cX11_wordAmbiguity 79 = .ok (.istore_n 3, 1) := by decide +kernel
theorem dX11_wordAmbiguity_80 : decode cX11_wordAmbiguity 80 = .ok (.iload_n 3, 1) := by decide +kernel
theorem dX11_wordAmbiguity_81 : decode cX11_wordAmbiguity 81 = .ok (.aload_n 0, 1) := by decide +kernel
theorem dX11_wordAmbiguity_82 : decode cX11_wordAmbiguity 82 = .ok (.getfield 19, 3) := by decide +kernel
theorem dX11_wordAmbiguity_85 : decode cX11_wordAmbiguity 85 = .ok (.if_icmp .ge 52, 3) := by decide +kernel
theorem dX11_wordAmbiguity_88 : decode cX11_wordAmbiguity 88 = .ok (.aload_n 0, 1) := by decide +kernel
theorem dX11_wordAmbiguity_89 : decode cX11_wordAmbiguity 89 = .ok (.getfield 42, 3) := by decide +kernel
theorem dX11_wordAmbiguity_92 : decode cX11_wordAmbiguity 92 = .ok (.iload_n 3, 1) := by decide +kernel
theorem dX11_wordAmbiguity_93 : decode cX11_wordAmbiguity 93 = .ok (.dup2, 1) := by decide +kernel
theorem dX11_wordAmbiguity_94 : decode cX11_wordAmbiguity 94 = .ok (.laload, 1) := by decide +kernel
theorem dX11_wordAmbiguity_95 : decode cX11_wordAmbiguity 95 = .ok (.aload_n 0, 1) := by decide +kernel
theorem dX11_wordAmbiguity_96 : decode cX11_wordAmbiguity 96 = .ok (.getfield 7, 3) := by decide +kernel
theorem dX11_wordAmbiguity_99 : decode cX11_wordAmbiguity 99 = .ok (.bipush 6, 2) := by decide +kernel
theorem dX11_wordAmbiguity_101 : decode cX11_wordAmbiguity 101 = .ok (.aload_n 0, 1) := by decide +kernel
theorem dX11_wordAmbiguity_102 : decode cX11_wordAmbiguity 102 = .ok (.getfield 35, 3) := by decide +kernel
theorem dX11_wordAmbiguity_105 : decode cX11_wordAmbiguity 105 = .ok (.iload_n 1, 1) := by decide +kernel
theorem dX11_wordAmbiguity_106 : decode cX11_wordAmbiguity 106 = .ok (.iaload, 1) := by decide +kernel
theorem dX11_wordAmbiguity_107 : decode cX11_wordAmbiguity 107 = .ok (.imul, 1) := by decide +kernel
theorem dX11_wordAmbiguity_108 : decode cX11_wordAmbiguity 108 = .ok (.iload_n 2, 1) := by decide +kernel
theorem dX11_wordAmbiguity_109 : decode cX11_wordAmbiguity 109 = .ok (.iadd, 1) := by decide +kernel
theorem dX11_wordAmbiguity_110 : decode cX11_wordAmbiguity 110 = .ok (.iaload, 1) := by decide +kernel
theorem dX11_wordAmbiguity_111 : decode cX11_wordAmbiguity 111 = .ok (.i2l, 1) := by decide +kernel
theorem dX11_wordAmbiguity_112 : decode cX11_wordAmbiguity 112 = .ok (.iload_n 3, 1) := by decide +kernel
theorem dX11_wordAmbiguity_113 : decode cX11_wordAmbiguity 113 = .ok (.invokestatic 139, 3) := by decide +kernel
theorem dX11_wordAmbiguity_116 : decode cX11_wordAmbiguity 116 = .ok (.ifCond .eq 12, 3) := by decide +kernel
theorem dX11_wordAmbiguity_119 : decode cX11_wordAmbiguity 119 = .ok (.aload_n 0, 1) := by decide +kernel
theorem dX11_wordAmbiguity_120 : decode cX11_wordAmbiguity 120 = .ok (.getfield 38, 3) := by decide +kernel
theorem dX11_wordAmbiguity_123 : decode cX11_wordAmbiguity 123 = .ok (.iload_n 2, 1) := by decide +kernel
theorem dX11_wordAmbiguity_124 : decode cX11_wordAmbiguity 124 = .ok (.laload, 1) := by decide +kernel
theorem dX11_wordAmbiguity_125 : decode cX11_wordAmbiguity 125 = .ok (.goto 4, 3) := by decide +kernel
theorem dX11_wordAmbiguity_128 : decode cX11_wordAmbiguity 128 = .ok (.lconst 0, 1) := by decide +kernel
theorem dX11_wordAmbiguity_129 : decode cX11_wordAmbiguity 129 = .ok (.ladd, 1) := by decide +kernel
theorem dX11_wordAmbiguity_130 : decode cX11_wordAmbiguity 130 = .ok (.lastore, 1) := by decide +kernel
theorem dX11_wordAmbiguity_131 : decode cX11_wordAmbiguity 131 = .ok (.iinc 3 1, 3) := by decide +kernel
theorem dX11_wordAmbiguity_134 : decode cX11_wordAmbiguity 134 = .ok (.goto (-54), 3) := by decide +kernel
theorem dX11_wordAmbiguity_137 : decode cX11_wordAmbiguity 137 = .ok (.iinc 2 1, 3) := by decide +kernel
theorem dX11_wordAmbiguity_140 : decode cX11_wordAmbiguity 140 = .ok (.goto (-70), 3) := by decide +kernel
theorem dX11_wordAmbiguity_143 : decode cX11_wordAmbiguity 143 = .ok (.iconst 0, 1) := by decide +kernel
theorem dX11_wordAmbiguity_144 : decode cX11_wordAmbiguity 144 = .ok (.istore_n 2, 1) := by decide +kernel
theorem dX11_wordAmbiguity_145 : decode cX11_wordAmbiguity 145 = .ok (.iload_n 2, 1) := by decide +kernel
theorem dX11_wordAmbiguity_146 : decode cX11_wordAmbiguity 146 = .ok (.bipush 6, 2) := by decide +kernel
theorem dX11_wordAmbiguity_148 : decode cX11_wordAmbiguity 148 = .ok (.if_icmp .ge 21, 3) := by decide +kernel
theorem dX11_wordAmbiguity_151 : decode cX11_wordAmbiguity 151 = .ok (.aload_n 0, 1) := by decide +kernel
theorem dX11_wordAmbiguity_152 : decode cX11_wordAmbiguity 152 = .ok (.getfield 38, 3) := by decide +kernel
theorem dX11_wordAmbiguity_155 : decode cX11_wordAmbiguity 155 = .ok (.iload_n 2, 1) := by decide +kernel
theorem dX11_wordAmbiguity_156 : decode cX11_wordAmbiguity 156 = .ok (.aload_n 0, 1) := by decide +kernel
theorem dX11_wordAmbiguity_157 : decode cX11_wordAmbiguity 157 = .ok (.getfield 42, 3) := by decide +kernel
theorem dX11_wordAmbiguity_160 : decode cX11_wordAmbiguity 160 = .ok (.iload_n 2, 1) := by decide +kernel
theorem dX11_wordAmbiguity_161 : decode cX11_wordAmbiguity 161 = .ok (.laload, 1) := by decide +kernel
theorem dX11_wordAmbiguity_162 : decode cX11_wordAmbiguity 162 = .ok (.lastore, 1) := by decide +kernel
theorem dX11_wordAmbiguity_163 : decode cX11_wordAmbiguity 163 = .ok (.iinc 2 1, 3) := by decide +kernel
theorem dX11_wordAmbiguity_166 : decode cX11_wordAmbiguity 166 = .ok (.goto (-21), 3) := by decide +kernel
theorem dX11_wordAmbiguity_169 : decode cX11_wordAmbiguity 169 = .ok (.iinc 1 1, 3) := by decide +kernel
theorem dX11_wordAmbiguity_172 : decode cX11_wordAmbiguity 172 = .ok (.goto (-133), 3) := by decide +kernel
theorem dX11_wordAmbiguity_175 : decode cX11_wordAmbiguity 175 = .ok (.lconst 0, 1) := by decide +kernel
theorem dX11_wordAmbiguity_176 : decode cX11_wordAmbiguity 176 = .ok (.lstore_n 1, 1) := by decide +kernel
theorem dX11_wordAmbiguity_177 : decode cX11_wordAmbiguity 177 = .ok (.iconst 0, 1) := by decide +kernel
theorem dX11_wordAmbiguity_178 : decode cX11_wordAmbiguity 178 = .ok (.istore_n 3, 1) := by decide +kernel
theorem dX11_wordAmbiguity_179 : decode cX11_wordAmbiguity 179 = .ok (.iload_n 3, 1) := by decide +kernel
theorem dX11_wordAmbiguity_180 : decode cX11_wordAmbiguity 180 = .ok (.aload_n 0, 1) := by decide +kernel
theorem dX11_wordAmbiguity_181 : decode cX11_wordAmbiguity 181 = .ok (.getfield 19, 3) := by decide +kernel
theorem dX11_wordAmbiguity_184 : decode cX11_wordAmbiguity 184 = .ok (.if_icmp .ge 34, 3) := by decide +kernel
theorem dX11_wordAmbiguity_187 : decode cX11_wordAmbiguity 187 = .ok (.lload_n 1, 1) := by decide +kernel
theorem dX11_wordAmbiguity_188 : decode cX11_wordAmbiguity 188 = .ok (.aload_n 0, 1) := by decide +kernel
theorem dX11_wordAmbiguity_189 : decode cX11_wordAmbiguity 189 = .ok (.getfield 115, 3) := by decide +kernel
theorem dX11_wordAmbiguity_192 : decode cX11_wordAmbiguity 192 = .ok (.i2l, 1) := by decide +kernel
theorem dX11_wordAmbiguity_193 : decode cX11_wordAmbiguity 193 = .ok (.iload_n 3, 1) := by decide +kernel
theorem dX11_wordAmbiguity_194 : decode cX11_wordAmbiguity 194 = .ok (.invokestatic 139, 3) := by decide +kernel
theorem dX11_wordAmbiguity_197 : decode cX11_wordAmbiguity 197 = .ok (.ifCond .eq 12, 3) := by decide +kernel
theorem dX11_wordAmbiguity_200 : decode cX11_wordAmbiguity 200 = .ok (.aload_n 0, 1) := by decide +kernel
theorem dX11_wordAmbiguity_201 : decode cX11_wordAmbiguity 201 = .ok (.getfield 38, 3) := by decide +kernel
theorem dX11_wordAmbiguity_204 : decode cX11_wordAmbiguity 204 = .ok (.iload_n 3, 1) := by decide +kernel
theorem dX11_wordAmbiguity_205 : decode cX11_wordAmbiguity 205 = .ok (.laload, 1) := by decide +kernel
theorem dX11_wordAmbiguity_206 : decode cX11_wordAmbiguity 206 = .ok (.goto 4, 3) := by decide +kernel
theorem dX11_wordAmbiguity_209 : decode cX11_wordAmbiguity 209 = .ok (.lconst 0, 1) := by decide +kernel
theorem dX11_wordAmbiguity_210 : decode cX11_wordAmbiguity 210 = .ok (.ladd, 1) := by decide +kernel
theorem dX11_wordAmbiguity_211 : decode cX11_wordAmbiguity 211 = .ok (.lstore_n 1, 1) := by decide +kernel
theorem dX11_wordAmbiguity_212 : decode cX11_wordAmbiguity 212 = .ok (.iinc 3 1, 3) := by decide +kernel
theorem dX11_wordAmbiguity_215 : decode cX11_wordAmbiguity 215 = .ok (.goto (-36), 3) := by decide +kernel
theorem dX11_wordAmbiguity_218 : decode cX11_wordAmbiguity 218 = .ok (.lload_n 1, 1) := by decide +kernel
theorem dX11_wordAmbiguity_219 : decode cX11_wordAmbiguity 219 = .ok (.lreturn, 1) := by decide +kernel
set_option maxRecDepth 20000 in
theorem ggX11_pathsOf_X11_has : GoodIn wsX11_pathsOf wsX11_has := goodIn_r _ [10] (by decide +kernel) (by decide +kernel)
set_option maxRecDepth 20000 in
theorem gX11_pathsOf_X11_has : GoodIn wsX11_pathsOf (va_wsS RX11 139 yX11_has wsX11_has) := goodIn_app (goodIn_of _ (by decide +kernel)) ggX11_pathsOf_X11_has
set_option maxRecDepth 20000 in
theorem ggX11_pathsOf_X11_plus : GoodIn wsX11_pathsOf wsX11_plus := goodIn_r _ [13, 14, 15] (by decide +kernel) (by decide +kernel)
set_option maxRecDepth 20000 in
theorem gX11_pathsOf_X11_plus : GoodIn wsX11_pathsOf (va_wsS RX11 206 yX11_plus wsX11_plus) := goodIn_app (goodIn_of _ (by decide +kernel)) ggX11_pathsOf_X11_plus
theorem dX11_pathsOf_0 : decode cX11_pathsOf 0 = .ok (.iconst 0, 1) := by decide +kernel
theorem dX11_pathsOf_1 : decode cX11_pathsOf 1 = .ok (.istore_n 2, 1) := by decide +kernel
theorem dX11_pathsOf_2 : decode cX11_pathsOf 2 = .ok (.iload_n 2, 1) := by decide +kernel
theorem dX11_pathsOf_3 : decode cX11_pathsOf 3 = .ok (.bipush 6, 2) := by decide +kernel
theorem dX11_pathsOf_5 : decode cX11_pathsOf 5 = .ok (.if_icmp .ge 32, 3) := by decide +kernel
theorem dX11_pathsOf_8 : decode cX11_pathsOf 8 = .ok (.aload_n 0, 1) := by decide +kernel
theorem dX11_pathsOf_9 : decode cX11_pathsOf 9 = .ok (.getfield 38, 3) := by decide +kernel
theorem dX11_pathsOf_12 : decode cX11_pathsOf 12 = .ok (.iload_n 2, 1) := by decide +kernel
theorem dX11_pathsOf_13 : decode cX11_pathsOf 13 = .ok (.aload_n 0, 1) := by decide +kernel
theorem dX11_pathsOf_14 : decode cX11_pathsOf 14 = .ok (.getfield 115, 3) := by decide +kernel
theorem dX11_pathsOf_17 : decode cX11_pathsOf 17 = .ok (.i2l, 1) := by decide +kernel
theorem dX11_pathsOf_18 : decode cX11_pathsOf 18 = .ok (.iload_n 2, 1) := by decide +kernel
theorem dX11_pathsOf_19 : decode cX11_pathsOf 19 = .ok (.invokestatic 139, 3) := by decide +kernel
theorem dX11_pathsOf_22 : decode cX11_pathsOf 22 = .ok (.ifCond .eq 7, 3) := by decide +kernel
theorem dX11_pathsOf_25 : decode cX11_pathsOf 25 = .ok (.lconst 1, 1) := by decide +kernel
theorem dX11_pathsOf_26 : decode cX11_pathsOf 26 = .ok (.goto 4, 3) := by decide +kernel
theorem dX11_pathsOf_29 : decode cX11_pathsOf 29 = .ok (.lconst 0, 1) := by decide +kernel
theorem dX11_pathsOf_30 : decode cX11_pathsOf 30 = .ok (.lastore, 1) := by decide +kernel
theorem dX11_pathsOf_31 : decode cX11_pathsOf 31 = .ok (.iinc 2 1, 3) := by decide +kernel
theorem dX11_pathsOf_34 : decode cX11_pathsOf 34 = .ok (.goto (-32), 3) := by decide +kernel
theorem dX11_pathsOf_37 : decode cX11_pathsOf 37 = .ok (.iconst 0, 1) := by decide +kernel
theorem dX11_pathsOf_38 : decode cX11_pathsOf 38 = .ok (.istore_n 2, 1) := by decide +kernel
theorem dX11_pathsOf_39 : decode cX11_pathsOf 39 = .ok (.iload_n 2, 1) := by decide +kernel
theorem dX11_pathsOf_40 : decode cX11_pathsOf 40 = .ok (.iload_n 1, 1) := by decide +kernel
theorem dX11_pathsOf_41 : decode cX11_pathsOf 41 = .ok (.if_icmp .ge 145, 3) := by decide +kernel
theorem dX11_pathsOf_44 : decode cX11_pathsOf 44 = .ok (.iconst 0, 1) := by decide +kernel
theorem dX11_pathsOf_45 : decode cX11_pathsOf 45 = .ok (.istore_n 3, 1) := by decide +kernel
theorem dX11_pathsOf_46 : decode cX11_pathsOf 46 = .ok (.iload_n 3, 1) := by decide +kernel
theorem dX11_pathsOf_47 : decode cX11_pathsOf 47 = .ok (.aload_n 0, 1) := by decide +kernel
theorem dX11_pathsOf_48 : decode cX11_pathsOf 48 = .ok (.getfield 19, 3) := by decide +kernel
theorem dX11_pathsOf_51 : decode cX11_pathsOf 51 = .ok (.if_icmp .ge 101, 3) := by decide +kernel
theorem dX11_pathsOf_54 : decode cX11_pathsOf 54 = .ok (.aload_n 0, 1) := by decide +kernel
theorem dX11_pathsOf_55 : decode cX11_pathsOf 55 = .ok (.getfield 42, 3) := by decide +kernel
theorem dX11_pathsOf_58 : decode cX11_pathsOf 58 = .ok (.iload_n 3, 1) := by decide +kernel
theorem dX11_pathsOf_59 : decode cX11_pathsOf 59 = .ok (.lconst 0, 1) := by decide +kernel
theorem dX11_pathsOf_60 : decode cX11_pathsOf 60 = .ok (.lastore, 1) := by decide +kernel
theorem dX11_pathsOf_61 : decode cX11_pathsOf 61 = .ok (.iconst 0, 1) := by decide +kernel
theorem dX11_pathsOf_62 : decode cX11_pathsOf 62 = .ok (.istore 4, 2) := by decide +kernel
theorem dX11_pathsOf_64 : decode cX11_pathsOf 64 = .ok (.iload 4, 2) := by decide +kernel
theorem dX11_pathsOf_66 : decode cX11_pathsOf 66 = .ok (.iconst 3, 1) := by decide +kernel
theorem dX11_pathsOf_67 : decode cX11_pathsOf 67 = .ok (.if_icmp .ge 79, 3) := by decide +kernel
theorem dX11_pathsOf_70 : decode cX11_pathsOf 70 = .ok (.iconst 0, 1) := by decide +kernel
theorem dX11_pathsOf_71 : decode cX11_pathsOf 71 = .ok (.istore 5, 2) := by decide +kernel
theorem dX11_pathsOf_73 : decode cX11_pathsOf 73 = .ok (.iload 5, 2) := by decide +kernel
theorem dX11_pathsOf_75 : decode cX11_pathsOf 75 = .ok (.aload_n 0, 1) := by decide +kernel
theorem dX11_pathsOf_76 : decode cX11_pathsOf 76 = .ok (.getfield 19, 3) := by decide +kernel
theorem dX11_pathsOf_79 : decode cX11_pathsOf 79 = .ok (.if_icmp .ge 61, 3) := by decide +kernel
theorem dX11_pathsOf_82 : decode cX11_pathsOf 82 = .ok (.aload_n 0, 1) := by decide +kernel
theorem dX11_pathsOf_83 : decode cX11_pathsOf 83 = .ok (.getfield 42, 3) := by decide +kernel
theorem dX11_pathsOf_86 : decode cX11_pathsOf 86 = .ok (.iload_n 3, 1) := by decide +kernel
theorem dX11_pathsOf_87 : decode cX11_pathsOf 87 = .ok (.aload_n 0, 1) := by decide +kernel
theorem dX11_pathsOf_88 : decode cX11_pathsOf 88 = .ok (.getfield 7, 3) := by decide +kernel
theorem dX11_pathsOf_91 : decode cX11_pathsOf 91 = .ok (.bipush 6, 2) := by decide +kernel
theorem dX11_pathsOf_93 : decode cX11_pathsOf 93 = .ok (.iload 4, 2) := by decide +kernel
theorem dX11_pathsOf_95 : decode cX11_pathsOf 95 = .ok (.imul, 1) := by decide +kernel
theorem dX11_pathsOf_96 : decode cX11_pathsOf 96 = .ok (.iload_n 3, 1) := by decide +kernel
theorem dX11_pathsOf_97 : decode cX11_pathsOf 97 = .ok (.iadd, 1) := by decide +kernel
theorem dX11_pathsOf_98 : decode cX11_pathsOf 98 = .ok (.iaload, 1) := by decide +kernel
theorem dX11_pathsOf_99 : decode cX11_pathsOf 99 = .ok (.i2l, 1) := by decide +kernel
theorem dX11_pathsOf_100 : decode cX11_pathsOf 100 = .ok (.iload 5, 2) := by decide +kernel
theorem dX11_pathsOf_102 : decode cX11_pathsOf 102 = .ok (.invokestatic 139, 3) := by decide +kernel
theorem dX11_pathsOf_105 : decode cX11_pathsOf 105 = .ok (.ifCond .eq 22, 3) := by decide +kernel
theorem dX11_pathsOf_108 : decode cX11_pathsOf 108 = .ok (.aload_n 0, 1) := by decide +kernel
theorem dX11_pathsOf_109 : decode cX11_pathsOf 109 = .ok (.getfield 42, 3) := by decide +kernel
theorem dX11_pathsOf_112 : decode cX11_pathsOf 112 = .ok (.iload_n 3, 1) := by decide +kernel
theorem dX11_pathsOf_113 : decode cX11_pathsOf 113 = .ok (.laload, 1) := by decide +kernel
theorem dX11_pathsOf_114 : decode cX11_pathsOf 114 = .ok (.aload_n 0, 1) := by decide +kernel
theorem dX11_pathsOf_115 : decode cX11_pathsOf 115 = .ok (.getfield 38, 3) := by decide +kernel
theorem dX11_pathsOf_118 : decode cX11_pathsOf 118 = .ok (.iload 5, 2) := by decide +kernel
theorem dX11_pathsOf_120 : decode cX11_pathsOf 120 = .ok (.laload, 1) := by decide +kernel
theorem dX11_pathsOf_121 : decode cX11_pathsOf 121 = .ok (.invokestatic 206, 3) := by decide +kernel
theorem dX11_pathsOf_124 : decode cX11_pathsOf 124 = .ok (.goto 9, 3) := by decide +kernel
theorem dX11_pathsOf_127 : decode cX11_pathsOf 127 = .ok (.aload_n 0, 1) := by decide +kernel
theorem dX11_pathsOf_128 : decode cX11_pathsOf 128 = .ok (.getfield 42, 3) := by decide +kernel
theorem dX11_pathsOf_131 : decode cX11_pathsOf 131 = .ok (.iload_n 3, 1) := by decide +kernel
theorem dX11_pathsOf_132 : decode cX11_pathsOf 132 = .ok (.laload, 1) := by decide +kernel
theorem dX11_pathsOf_133 : decode cX11_pathsOf 133 = .ok (.lastore, 1) := by decide +kernel
theorem dX11_pathsOf_134 : decode cX11_pathsOf 134 = .ok (.iinc 5 1, 3) := by decide +kernel
theorem dX11_pathsOf_137 : decode cX11_pathsOf 137 = .ok (.goto (-64), 3) := by decide +kernel
theorem dX11_pathsOf_140 : decode cX11_pathsOf 140 = .ok (.iinc 4 1, 3) := by decide +kernel
theorem dX11_pathsOf_143 : decode cX11_pathsOf 143 = .ok (.goto (-79), 3) := by decide +kernel
theorem dX11_pathsOf_146 : decode cX11_pathsOf 146 = .ok (.iinc 3 1, 3) := by decide +kernel
theorem dX11_pathsOf_149 : decode cX11_pathsOf 149 = .ok (.goto (-103), 3) := by decide +kernel
theorem dX11_pathsOf_152 : decode cX11_pathsOf 152 = .ok (.iconst 0, 1) := by decide +kernel
theorem dX11_pathsOf_153 : decode cX11_pathsOf 153 = .ok (.istore_n 3, 1) := by decide +kernel
theorem dX11_pathsOf_154 : decode cX11_pathsOf 154 = .ok (.iload_n 3, 1) := by decide +kernel
theorem dX11_pathsOf_155 : decode cX11_pathsOf 155 = .ok (.aload_n 0, 1) := by decide +kernel
theorem dX11_pathsOf_156 : decode cX11_pathsOf 156 = .ok (.getfield 19, 3) := by decide +kernel
theorem dX11_pathsOf_159 : decode cX11_pathsOf 159 = .ok (.if_icmp .ge 21, 3) := by decide +kernel
theorem dX11_pathsOf_162 : decode cX11_pathsOf 162 = .ok (.aload_n 0, 1) := by decide +kernel
theorem dX11_pathsOf_163 : decode cX11_pathsOf 163 = .ok (.getfield 38, 3) := by decide +kernel
theorem dX11_pathsOf_166 : decode cX11_pathsOf 166 = .ok (.iload_n 3, 1) := by decide +kernel
theorem dX11_pathsOf_167 : decode cX11_pathsOf 167 = .ok (.aload_n 0, 1) := by decide +kernel
theorem dX11_pathsOf_168 : decode cX11_pathsOf 168 = .ok (.getfield 42, 3) := by decide +kernel
theorem dX11_pathsOf_171 : decode cX11_pathsOf 171 = .ok (.iload_n 3, 1) := by decide +kernel
theorem dX11_pathsOf_172 : decode cX11_pathsOf 172 = .ok (.laload, 1) := by decide +kernel
theorem dX11_pathsOf_173 : decode cX11_pathsOf 173 = .ok (.lastore, 1) := by decide +kernel
theorem dX11_pathsOf_174 : decode cX11_pathsOf 174 = .ok (.iinc 3 1, 3) := by decide +kernel
theorem dX11_pathsOf_177 : decode cX11_pathsOf 177 = .ok (.goto (-23), 3) := by decide +kernel
theorem dX11_pathsOf_180 : decode cX11_pathsOf 180 = .ok (.iinc 2 1, 3) := by decide +kernel
theorem dX11_pathsOf_183 : decode cX11_pathsOf 183 = .ok (.goto (-144), 3) := by decide +kernel
theorem dX11_pathsOf_186 : decode cX11_pathsOf 186 = .ok (.lconst 0, 1) := by decide +kernel
theorem dX11_pathsOf_187 : decode cX11_pathsOf 187 = .ok (.lstore_n 2, 1) := by decide +kernel
theorem dX11_pathsOf_188 : decode cX11_pathsOf 188 = .ok (.iconst 0, 1) := by decide +kernel
theorem dX11_pathsOf_189 : decode cX11_pathsOf 189 = .ok (.istore 4, 2) := by decide +kernel
theorem dX11_pathsOf_191 : decode cX11_pathsOf 191 = .ok (.iload 4, 2) := by decide +kernel
theorem dX11_pathsOf_193 : decode cX11_pathsOf 193 = .ok (.aload_n 0, 1) := by decide +kernel
theorem dX11_pathsOf_194 : decode cX11_pathsOf 194 = .ok (.getfield 19, 3) := by decide +kernel
theorem dX11_pathsOf_197 : decode cX11_pathsOf 197 = .ok (.if_icmp .ge 38, 3) := by decide +kernel
theorem dX11_pathsOf_200 : decode cX11_pathsOf 200 = .ok (.aload_n 0, 1) := by decide +kernel
theorem dX11_pathsOf_201 : decode cX11_pathsOf 201 = .ok (.getfield 112, 3) := by decide +kernel
theorem dX11_pathsOf_204 : decode cX11_pathsOf 204 = .ok (.i2l, 1) := by decide +kernel
theorem dX11_pathsOf_205 : decode cX11_pathsOf 205 = .ok (.iload 4, 2) := by decide +kernel
theorem dX11_pathsOf_207 : decode cX11_pathsOf 207 = .ok (.invokestatic 139, 3) := by decide +kernel
theorem dX11_pathsOf_210 : decode cX11_pathsOf 210 = .ok (.ifCond .eq 17, 3) := by decide +kernel
theorem dX11_pathsOf_213 : decode cX11_pathsOf 213 = .ok (.lload_n 2, 1) := by decide +kernel
theorem dX11_pathsOf_214 : decode cX11_pathsOf 214 = .ok (.aload_n 0, 1) := by decide +kernel
theorem dX11_pathsOf_215 : decode cX11_pathsOf 215 = .ok (.getfield 38, 3) := by decide +kernel
theorem dX11_pathsOf_218 : decode cX11_pathsOf 218 = .ok (.iload 4, 2) := by decide +kernel
theorem dX11_pathsOf_220 : decode cX11_pathsOf 220 = .ok (.laload, 1) := by decide +kernel
theorem dX11_pathsOf_221 : decode cX11_pathsOf 221 = .ok (.invokestatic 206, 3) := by decide +kernel
theorem dX11_pathsOf_224 : decode cX11_pathsOf 224 = .ok (.goto 4, 3) := by decide +kernel
theorem dX11_pathsOf_227 : decode cX11_pathsOf 227 = .ok (.lload_n 2, 1) := by decide +kernel
theorem dX11_pathsOf_228 : decode cX11_pathsOf 228 = .ok (.lstore_n 2, 1) := by decide +kernel
theorem dX11_pathsOf_229 : decode cX11_pathsOf 229 = .ok (.iinc 4 1, 3) := by decide +kernel
theorem dX11_pathsOf_232 : decode cX11_pathsOf 232 = .ok (.goto (-41), 3) := by decide +kernel
theorem dX11_pathsOf_235 : decode cX11_pathsOf 235 = .ok (.lload_n 2, 1) := by decide +kernel
theorem dX11_pathsOf_236 : decode cX11_pathsOf 236 = .ok (.lreturn, 1) := by decide +kernel
set_option maxRecDepth 20000 in
theorem ggX11_wordsOf_X11_step : GoodIn wsX11_wordsOf wsX11_step := goodIn_r _ [10, 3, 11, 12, 13, 9, 14, 20, 21, 22, 23, 24, 25, 26, 27, 28, 29, 30, 31, 32, 33, 34, 35, 36, 37, 38, 39, 40, 41, 42, 43, 44, 45, 46, 47, 48, 49, 50, 51, 52, 53, 54, 55, 56, 57, 58, 59, 60, 61, 62, 63, 64, 65, 66, 67, 68, 69] (by decide +kernel) (by decide +kernel)
set_option maxRecDepth 20000 in
theorem gX11_wordsOf_X11_step : GoodIn wsX11_wordsOf (wsV RX11 143 RX11 yX11_step wsX11_step) := goodIn_app (goodIn_of _ (by decide +kernel)) ggX11_wordsOf_X11_step
set_option maxRecDepth 20000 in
theorem ggX11_wordsOf_X11_plus : GoodIn wsX11_wordsOf wsX11_plus := goodIn_r _ [17, 18, 19] (by decide +kernel) (by decide +kernel)
set_option maxRecDepth 20000 in
theorem gX11_wordsOf_X11_plus : GoodIn wsX11_wordsOf (va_wsS RX11 206 yX11_plus wsX11_plus) := goodIn_app (goodIn_of _ (by decide +kernel)) ggX11_wordsOf_X11_plus
theorem dX11_wordsOf_0 : decode cX11_wordsOf 0 = .ok (.iconst 0, 1) := by decide +kernel
theorem dX11_wordsOf_1 : decode cX11_wordsOf 1 = .ok (.istore_n 2, 1) := by decide +kernel
theorem dX11_wordsOf_2 : decode cX11_wordsOf 2 = .ok (.iload_n 2, 1) := by decide +kernel
theorem dX11_wordsOf_3 : decode cX11_wordsOf 3 = .ok (.bipush 64, 2) := by decide +kernel
theorem dX11_wordsOf_5 : decode cX11_wordsOf 5 = .ok (.if_icmp .ge 29, 3) := by decide +kernel
theorem dX11_wordsOf_8 : decode cX11_wordsOf 8 = .ok (.aload_n 0, 1) := by decide +kernel
theorem dX11_wordsOf_9 : decode cX11_wordsOf 9 = .ok (.getfield 38, 3) := by decide +kernel
theorem dX11_wordsOf_12 : decode cX11_wordsOf 12 = .ok (.iload_n 2, 1) := by decide +kernel
theorem dX11_wordsOf_13 : decode cX11_wordsOf 13 = .ok (.iload_n 2, 1) := by decide +kernel
theorem dX11_wordsOf_14 : decode cX11_wordsOf 14 = .ok (.aload_n 0, 1) := by decide +kernel
theorem dX11_wordsOf_15 : decode cX11_wordsOf 15 = .ok (.getfield 115, 3) := by decide +kernel
theorem dX11_wordsOf_18 : decode cX11_wordsOf 18 = .ok (.iand, 1) := by decide +kernel
theorem dX11_wordsOf_19 : decode cX11_wordsOf 19 = .ok (.ifCond .eq 7, 3) := by decide +kernel
theorem dX11_wordsOf_22 : decode cX11_wordsOf 22 = .ok (.lconst 1, 1) := by decide +kernel
theorem dX11_wordsOf_23 : decode cX11_wordsOf 23 = .ok (.goto 4, 3) := by decide +kernel
theorem dX11_wordsOf_26 : decode cX11_wordsOf 26 = .ok (.lconst 0, 1) := by decide +kernel
theorem dX11_wordsOf_27 : decode cX11_wordsOf 27 = .ok (.lastore, 1) := by decide +kernel
theorem dX11_wordsOf_28 : decode cX11_wordsOf 28 = .ok (.iinc 2 1, 3) := by decide +kernel
theorem dX11_wordsOf_31 : decode cX11_wordsOf 31 = .ok (.goto (-29), 3) := by decide +kernel
theorem dX11_wordsOf_34 : decode cX11_wordsOf 34 = .ok (.iconst 0, 1) := by decide +kernel
theorem dX11_wordsOf_35 : decode cX11_wordsOf 35 = .ok (.istore_n 2, 1) := by decide +kernel
theorem dX11_wordsOf_36 : decode cX11_wordsOf 36 = .ok (.iload_n 2, 1) := by decide +kernel
theorem dX11_wordsOf_37 : decode cX11_wordsOf 37 = .ok (.iload_n 1, 1) := by decide +kernel
theorem dX11_wordsOf_38 : decode cX11_wordsOf 38 = .ok (.if_icmp .ge 102, 3) := by decide +kernel
theorem dX11_wordsOf_41 : decode cX11_wordsOf 41 = .ok (.iconst 0, 1) := by decide +kernel
theorem dX11_wordsOf_42 : decode cX11_wordsOf 42 = .ok (.istore_n 3, 1) := by decide +kernel
theorem dX11_wordsOf_43 : decode cX11_wordsOf 43 = .ok (.iload_n 3, 1) := by decide +kernel
theorem dX11_wordsOf_44 : decode cX11_wordsOf 44 = .ok (.iconst 1, 1) := by decide +kernel
theorem dX11_wordsOf_45 : decode cX11_wordsOf 45 = .ok (.aload_n 0, 1) := by decide +kernel
theorem dX11_wordsOf_46 : decode cX11_wordsOf 46 = .ok (.getfield 19, 3) := by decide +kernel
theorem dX11_wordsOf_49 : decode cX11_wordsOf 49 = .ok (.ishl, 1) := by decide +kernel
theorem dX11_wordsOf_50 : decode cX11_wordsOf 50 = .ok (.if_icmp .ge 54, 3) := by decide +kernel
theorem dX11_wordsOf_53 : decode cX11_wordsOf 53 = .ok (.aload_n 0, 1) := by decide +kernel
theorem dX11_wordsOf_54 : decode cX11_wordsOf 54 = .ok (.getfield 42, 3) := by decide +kernel
theorem dX11_wordsOf_57 : decode cX11_wordsOf 57 = .ok (.iload_n 3, 1) := by decide +kernel
theorem dX11_wordsOf_58 : decode cX11_wordsOf 58 = .ok (.aload_n 0, 1) := by decide +kernel
theorem dX11_wordsOf_59 : decode cX11_wordsOf 59 = .ok (.getfield 38, 3) := by decide +kernel
theorem dX11_wordsOf_62 : decode cX11_wordsOf 62 = .ok (.aload_n 0, 1) := by decide +kernel
theorem dX11_wordsOf_63 : decode cX11_wordsOf 63 = .ok (.iload_n 3, 1) := by decide +kernel
theorem dX11_wordsOf_64 : decode cX11_wordsOf 64 = .ok (.iconst 0, 1) := by decide +kernel
theorem dX11_wordsOf_65 : decode cX11_wordsOf 65 = .ok (.invokevirtual 143, 3) := by decide +kernel
theorem dX11_wordsOf_68 : decode cX11_wordsOf 68 = .ok (.laload, 1) := by decide +kernel
theorem dX11_wordsOf_69 : decode cX11_wordsOf 69 = .ok (.aload_n 0, 1) := by decide +kernel
theorem dX11_wordsOf_70 : decode cX11_wordsOf 70 = .ok (.getfield 38, 3) := by decide +kernel
theorem dX11_wordsOf_73 : decode cX11_wordsOf 73 = .ok (.aload_n 0, 1) := by decide +kernel
theorem dX11_wordsOf_74 : decode cX11_wordsOf 74 = .ok (.iload_n 3, 1) := by decide +kernel
theorem dX11_wordsOf_75 : decode cX11_wordsOf 75 = .ok (.iconst 1, 1) := by decide +kernel
theorem dX11_wordsOf_76 : decode cX11_wordsOf 76 = .ok (.invokevirtual 143, 3) := by decide +kernel
theorem dX11_wordsOf_79 : decode cX11_wordsOf 79 = .ok (.laload, 1) := by decide +kernel
theorem dX11_wordsOf_80 : decode cX11_wordsOf 80 = .ok (.invokestatic 206, 3) := by decide +kernel
theorem dX11_wordsOf_83 : decode cX11_wordsOf 83 = .ok (.aload_n 0, 1) := by decide +kernel
theorem dX11_wordsOf_84 : decode cX11_wordsOf 84 = .ok (.getfield 38, 3) := by decide +kernel
theorem dX11_wordsOf_87 : decode cX11_wordsOf 87 = .ok (.aload_n 0, 1) := by decide +kernel
theorem dX11_wordsOf_88 : decode cX11_wordsOf 88 = .ok (.iload_n 3, 1) := by decide +kernel
theorem dX11_wordsOf_89 : decode cX11_wordsOf 89 = .ok (.iconst 2, 1) := by decide +kernel
theorem dX11_wordsOf_90 : decode cX11_wordsOf 90 = .ok (.invokevirtual 143, 3) := by decide +kernel
theorem dX11_wordsOf_93 : decode cX11_wordsOf 93 = .ok (.laload, 1) := by decide +kernel
theorem dX11_wordsOf_94 : decode cX11_wordsOf 94 = .ok (.invokestatic 206, 3) := by decide +kernel
theorem dX11_wordsOf_97 : decode cX11_wordsOf 97 = .ok (.lastore, 1) := by decide +kernel
theorem dX11_wordsOf_98 : decode cX11_wordsOf 98 = .ok (.iinc 3 1, 3) := by decide +kernel
theorem dX11_wordsOf_101 : decode cX11_wordsOf 101 = .ok (.goto (-58), 3) := by decide +kernel
theorem dX11_wordsOf_104 : decode cX11_wordsOf 104 = .ok (.iconst 0, 1) := by decide +kernel
theorem dX11_wordsOf_105 : decode cX11_wordsOf 105 = .ok (.istore_n 3, 1) := by decide +kernel
theorem dX11_wordsOf_106 : decode cX11_wordsOf 106 = .ok (.iload_n 3, 1) := by decide +kernel
theorem dX11_wordsOf_107 : decode cX11_wordsOf 107 = .ok (.iconst 1, 1) := by decide +kernel
theorem dX11_wordsOf_108 : decode cX11_wordsOf 108 = .ok (.aload_n 0, 1) := by decide +kernel
theorem dX11_wordsOf_109 : decode cX11_wordsOf 109 = .ok (.getfield 19, 3) := by decide +kernel
theorem dX11_wordsOf_112 : decode cX11_wordsOf 112 = .ok (.ishl, 1) := by decide +kernel
theorem dX11_wordsOf_113 : decode cX11_wordsOf 113 = .ok (.if_icmp .ge 21, 3) := by decide +kernel
theorem dX11_wordsOf_116 : decode cX11_wordsOf 116 = .ok (.aload_n 0, 1) := by decide +kernel
theorem dX11_wordsOf_117 : decode cX11_wordsOf 117 = .ok (.getfield 38, 3) := by decide +kernel
theorem dX11_wordsOf_120 : decode cX11_wordsOf 120 = .ok (.iload_n 3, 1) := by decide +kernel
theorem dX11_wordsOf_121 : decode cX11_wordsOf 121 = .ok (.aload_n 0, 1) := by decide +kernel
theorem dX11_wordsOf_122 : decode cX11_wordsOf 122 = .ok (.getfield 42, 3) := by decide +kernel
theorem dX11_wordsOf_125 : decode cX11_wordsOf 125 = .ok (.iload_n 3, 1) := by decide +kernel
theorem dX11_wordsOf_126 : decode cX11_wordsOf 126 = .ok (.laload, 1) := by decide +kernel
theorem dX11_wordsOf_127 : decode cX11_wordsOf 127 = .ok (.lastore, 1) := by decide +kernel
theorem dX11_wordsOf_128 : decode cX11_wordsOf 128 = .ok (.iinc 3 1, 3) := by decide +kernel
theorem dX11_wordsOf_131 : decode cX11_wordsOf 131 = .ok (.goto (-25), 3) := by decide +kernel
theorem dX11_wordsOf_134 : decode cX11_wordsOf 134 = .ok (.iinc 2 1, 3) := by decide +kernel
theorem dX11_wordsOf_137 : decode cX11_wordsOf 137 = .ok (.goto (-101), 3) := by decide +kernel
theorem dX11_wordsOf_140 : decode cX11_wordsOf 140 = .ok (.aload_n 0, 1) := by decide +kernel
theorem dX11_wordsOf_141 : decode cX11_wordsOf 141 = .ok (.getfield 38, 3) := by decide +kernel
theorem dX11_wordsOf_144 : decode cX11_wordsOf 144 = .ok (.aload_n 0, 1) := by decide +kernel
theorem dX11_wordsOf_145 : decode cX11_wordsOf 145 = .ok (.getfield 112, 3) := by decide +kernel
theorem dX11_wordsOf_148 : decode cX11_wordsOf 148 = .ok (.laload, 1) := by decide +kernel
theorem dX11_wordsOf_149 : decode cX11_wordsOf 149 = .ok (.lreturn, 1) := by decide +kernel
set_option maxRecDepth 20000 in
theorem ggX11_pathsOfLength_X11_isBetween : GoodIn wsX11_pathsOfLength wsX11_isBetween := goodIn_r _ [7] (by decide +kernel) (by decide +kernel)
set_option maxRecDepth 20000 in
theorem gX11_pathsOfLength_X11_isBetween : GoodIn wsX11_pathsOfLength (va_wsS RX11 124 yX11_isBetween wsX11_isBetween) := goodIn_app (goodIn_of _ (by decide +kernel)) ggX11_pathsOfLength_X11_isBetween
set_option maxRecDepth 20000 in
theorem ggX11_pathsOfLength_X11_pathsOf : GoodIn wsX11_pathsOfLength wsX11_pathsOf := goodIn_r _ [11, 12, 13, 14, 15, 16, 17, 18, 19, 6, 20, 21, 22, 23, 24, 25, 26, 27, 28, 29, 30, 31, 32, 33, 34, 35, 36, 37, 38, 39, 40, 41, 42, 43, 44, 45, 46, 47, 48, 49, 50, 51, 52, 53, 54, 55, 56, 57, 58, 59, 60, 61, 62, 63, 64, 65, 66, 67, 68, 69, 70, 71, 72, 73, 74, 75] (by decide +kernel) (by decide +kernel)
set_option maxRecDepth 20000 in
theorem gX11_pathsOfLength_X11_pathsOf : GoodIn wsX11_pathsOfLength (wsV RX11 214 RX11 yX11_pathsOf wsX11_pathsOf) := goodIn_app (goodIn_of _ (by decide +kernel)) ggX11_pathsOfLength_X11_pathsOf
theorem dX11_pathsOfLength_0 : decode cX11_pathsOfLength 0 = .ok (.iload_n 1, 1) := by decide +kernel
theorem dX11_pathsOfLength_1 : decode cX11_pathsOfLength 1 = .ok (.i2l, 1) := by decide +kernel
theorem dX11_pathsOfLength_2 : decode cX11_pathsOfLength 2 = .ok (.lconst 0, 1) := by decide +kernel
theorem dX11_pathsOfLength_3 : decode cX11_pathsOfLength 3 = .ok (.ldc2_w 210, 3) := by decide +kernel
theorem dX11_pathsOfLength_6 : decode cX11_pathsOfLength 6 = .ok (.invokestatic 124, 3) := by decide +kernel
theorem dX11_pathsOfLength_9 : decode cX11_pathsOfLength 9 = .ok (.ifCond .ne 7, 3) := by decide +kernel
theorem dX11_pathsOfLength_12 : decode cX11_pathsOfLength 12 = .ok (.ldc2_w 212, 3) := by decide +kernel
theorem dX11_pathsOfLength_15 : decode cX11_pathsOfLength 15 = .ok (.lreturn, 1) := by decide +kernel
theorem dX11_pathsOfLength_16 : decode cX11_pathsOfLength 16 = .ok (.aload_n 0, 1) := by decide +kernel
theorem dX11_pathsOfLength_17 : decode cX11_pathsOfLength 17 = .ok (.iload_n 1, 1) := by decide +kernel
theorem dX11_pathsOfLength_18 : decode cX11_pathsOfLength 18 = .ok (.invokevirtual 214, 3) := by decide +kernel
theorem dX11_pathsOfLength_21 : decode cX11_pathsOfLength 21 = .ok (.lstore_n 2, 1) := by decide +kernel
theorem dX11_pathsOfLength_22 : decode cX11_pathsOfLength 22 = .ok (.lload_n 2, 1) := by decide +kernel
theorem dX11_pathsOfLength_23 : decode cX11_pathsOfLength 23 = .ok (.lconst 0, 1) := by decide +kernel
theorem dX11_pathsOfLength_24 : decode cX11_pathsOfLength 24 = .ok (.lcmp, 1) := by decide +kernel
theorem dX11_pathsOfLength_25 : decode cX11_pathsOfLength 25 = .ok (.ifCond .ge 9, 3) := by decide +kernel
theorem dX11_pathsOfLength_28 : decode cX11_pathsOfLength 28 = .ok (.ldc2_w 218, 3) := by decide +kernel
theorem dX11_pathsOfLength_31 : decode cX11_pathsOfLength 31 = .ok (.goto 4, 3) := by decide +kernel
theorem dX11_pathsOfLength_34 : decode cX11_pathsOfLength 34 = .ok (.lload_n 2, 1) := by decide +kernel
theorem dX11_pathsOfLength_35 : decode cX11_pathsOfLength 35 = .ok (.lreturn, 1) := by decide +kernel
set_option maxRecDepth 20000 in
theorem ggX11_wordsOfLength_X11_isBetween : GoodIn wsX11_wordsOfLength wsX11_isBetween := goodIn_r _ [7] (by decide +kernel) (by decide +kernel)
set_option maxRecDepth 20000 in
theorem gX11_wordsOfLength_X11_isBetween : GoodIn wsX11_wordsOfLength (va_wsS RX11 124 yX11_isBetween wsX11_isBetween) := goodIn_app (goodIn_of _ (by decide +kernel)) ggX11_wordsOfLength_X11_isBetween
set_option maxRecDepth 20000 in
theorem ggX11_wordsOfLength_X11_wordsOf : GoodIn wsX11_wordsOfLength wsX11_wordsOf := goodIn_r _ [11, 12, 13, 14, 15, 16, 17, 18, 19, 6, 20, 21, 22, 23, 24, 25, 26, 27, 28, 29, 30, 31, 32, 33, 34, 35, 36, 37, 38, 39, 40, 41, 42, 43, 44, 45, 46, 47, 48, 49, 50, 51, 52, 53, 54, 55, 56, 57, 58, 59, 60, 61, 62, 63, 64, 65, 66, 67, 68, 69, 70, 71, 72, 73, 74, 75, 76, 77, 78, 79] (by rfl) (by decide +kernel)
set_option maxRecDepth 20000 in
theorem gX11_wordsOfLength_X11_wordsOf : GoodIn wsX11_wordsOfLength (wsV RX11 220 RX11 yX11_wordsOf wsX11_wordsOf) := goodIn_app (goodIn_of _ (by decide +kernel)) ggX11_wordsOfLength_X11_wordsOf
theorem dX11_wordsOfLength_0 : decode cX11_wordsOfLength 0 = .ok (.iload_n 1, 1) := by decide +kernel
theorem dX11_wordsOfLength_1 : decode cX11_wordsOfLength 1 = .ok (.i2l, 1) := by decide +kernel
theorem dX11_wordsOfLength_2 : decode cX11_wordsOfLength 2 = .ok (.lconst 0, 1) := by decide +kernel
theorem dX11_wordsOfLength_3 : decode cX11_wordsOfLength 3 = .ok (.ldc2_w 210, 3) := by decide +kernel
theorem dX11_wordsOfLength_6 : decode cX11_wordsOfLength 6 = .ok (.invokestatic 124, 3) := by decide +kernel
theorem dX11_wordsOfLength_9 : decode cX11_wordsOfLength 9 = .ok (.ifCond .ne 7, 3) := by decide +kernel
theorem dX11_wordsOfLength_12 : decode cX11_wordsOfLength 12 = .ok (.ldc2_w 212, 3) := by decide +kernel
theorem dX11_wordsOfLength_15 : decode cX11_wordsOfLength 15 = .ok (.lreturn, 1) := by decide +kernel
theorem dX11_wordsOfLength_16 : decode cX11_wordsOfLength 16 = .ok (.aload_n 0, 1) := by decide +kernel
theorem dX11_wordsOfLength_17 : decode cX11_wordsOfLength 17 = .ok (.iload_n 1, 1) := by decide +kernel
theorem dX11_wordsOfLength_18 : decode cX11_wordsOfLength 18 = .ok (.invokevirtual 220, 3) := by decide +kernel
theorem dX11_wordsOfLength_21 : decode cX11_wordsOfLength 21 = .ok (.lstore_n 2, 1) := by decide +kernel
theorem dX11_wordsOfLength_22 : decode cX11_wordsOfLength 22 = .ok (.lload_n 2, 1) := by decide +kernel
theorem dX11_wordsOfLength_23 : decode cX11_wordsOfLength 23 = .ok (.lconst 0, 1) := by decide +kernel
theorem dX11_wordsOfLength_24 : decode cX11_wordsOfLength 24 = .ok (.lcmp, 1) := by decide +kernel
theorem dX11_wordsOfLength_25 : decode cX11_wordsOfLength 25 = .ok (.ifCond .ge 9, 3) := by decide +kernel
theorem dX11_wordsOfLength_28 : decode cX11_wordsOfLength 28 = .ok (.ldc2_w 218, 3) := by decide +kernel
theorem dX11_wordsOfLength_31 : decode cX11_wordsOfLength 31 = .ok (.goto 4, 3) := by decide +kernel
theorem dX11_wordsOfLength_34 : decode cX11_wordsOfLength 34 = .ok (.lload_n 2, 1) := by decide +kernel
theorem dX11_wordsOfLength_35 : decode cX11_wordsOfLength 35 = .ok (.lreturn, 1) := by decide +kernel
set_option maxRecDepth 20000 in
theorem ggX11_averageBits_X11_isBetween : GoodIn wsX11_averageBits wsX11_isBetween := goodIn_r _ [8] (by decide +kernel) (by decide +kernel)
set_option maxRecDepth 20000 in
theorem gX11_averageBits_X11_isBetween : GoodIn wsX11_averageBits (va_wsS RX11 124 yX11_isBetween wsX11_isBetween) := goodIn_app (goodIn_of _ (by decide +kernel)) ggX11_averageBits_X11_isBetween
set_option maxRecDepth 20000 in
theorem ggX11_averageBits_X11_pathsOf : GoodIn wsX11_averageBits wsX11_pathsOf := goodIn_r _ [12, 13, 14, 15, 16, 17, 18, 19, 20, 7, 21, 22, 23, 24, 25, 26, 47, 48, 49, 50, 51, 52, 53, 54, 55, 56, 57, 58, 59, 60, 61, 62, 63, 64, 65, 66, 67, 68, 69, 70, 71, 72, 73, 74, 75, 76, 77, 78, 79, 80, 81, 82, 83, 84, 85, 86, 87, 88, 89, 90, 91, 92, 93, 94, 95, 96] (by rfl) (by decide +kernel)
set_option maxRecDepth 20000 in
theorem gX11_averageBits_X11_pathsOf : GoodIn wsX11_averageBits (wsV RX11 214 RX11 yX11_pathsOf wsX11_pathsOf) := goodIn_app (goodIn_of _ (by decide +kernel)) ggX11_averageBits_X11_pathsOf
set_option maxRecDepth 20000 in
theorem ggX11_averageBits_X11_wordsOf : GoodIn wsX11_averageBits wsX11_wordsOf := goodIn_r _ [30, 13, 14, 15, 16, 18, 31, 32, 33, 7, 34, 17, 19, 20, 21, 22, 23, 24, 25, 26, 47, 48, 49, 50, 51, 52, 53, 54, 55, 56, 57, 58, 59, 60, 61, 62, 63, 64, 65, 66, 67, 68, 69, 70, 71, 72, 73, 74, 75, 76, 77, 78, 79, 80, 81, 82, 83, 84, 85, 86, 87, 88, 89, 90, 91, 92, 93, 94, 95, 96] (by rfl) (by decide +kernel)
set_option maxRecDepth 20000 in
theorem gX11_averageBits_X11_wordsOf : GoodIn wsX11_averageBits (wsV RX11 220 RX11 yX11_wordsOf wsX11_wordsOf) := goodIn_app (goodIn_of _ (by decide +kernel)) ggX11_averageBits_X11_wordsOf
set_option maxRecDepth 20000 in
theorem ggX11_averageBits_Jxe99ae_doubleToLongBits_ccdee : GoodIn wsX11_averageBits wsJxe99ae_doubleToLongBits_ccdee := goodIn_r _ [38, 39, 40, 41, 42, 43, 44, 45, 37, 46] (by decide +kernel) (by decide +kernel)
set_option maxRecDepth 20000 in
theorem gX11_averageBits_Jxe99ae_doubleToLongBits_ccdee : GoodIn wsX11_averageBits (va_wsS RX11 227 yJxe99ae_doubleToLongBits_ccdee wsJxe99ae_doubleToLongBits_ccdee) := goodIn_app (goodIn_of _ (by decide +kernel)) ggX11_averageBits_Jxe99ae_doubleToLongBits_ccdee
theorem dX11_averageBits_0 : decode cX11_averageBits 0 = .ok (.iload_n 1, 1) := by decide +kernel
theorem dX11_averageBits_1 : decode cX11_averageBits 1 = .ok (.i2l, 1) := by decide +kernel
theorem dX11_averageBits_2 : decode cX11_averageBits 2 = .ok (.lconst 0, 1) := by decide +kernel
theorem dX11_averageBits_3 : decode cX11_averageBits 3 = .ok (.ldc2_w 210, 3) := by decide +kernel
theorem dX11_averageBits_6 : decode cX11_averageBits 6 = .ok (.invokestatic 124, 3) := by decide +kernel
theorem dX11_averageBits_9 : decode cX11_averageBits 9 = .ok (.ifCond .ne 7, 3) := by decide +kernel
theorem dX11_averageBits_12 : decode cX11_averageBits 12 = .ok (.ldc2_w 212, 3) := by decide +kernel
theorem dX11_averageBits_15 : decode cX11_averageBits 15 = .ok (.lreturn, 1) := by decide +kernel
theorem dX11_averageBits_16 : decode cX11_averageBits 16 = .ok (.aload_n 0, 1) := by decide +kernel
theorem dX11_averageBits_17 : decode cX11_averageBits 17 = .ok (.iload_n 1, 1) := by decide +kernel
theorem dX11_averageBits_18 : decode cX11_averageBits 18 = .ok (.invokevirtual 214, 3) := by decide +kernel
theorem dX11_averageBits_21 : decode cX11_averageBits 21 = .ok (.lstore_n 2, 1) := by decide +kernel
theorem dX11_averageBits_22 : decode cX11_averageBits 22 = .ok (.aload_n 0, 1) := by decide +kernel
theorem dX11_averageBits_23 : decode cX11_averageBits 23 = .ok (.iload_n 1, 1) := by decide +kernel
theorem dX11_averageBits_24 : decode cX11_averageBits 24 = .ok (.invokevirtual 220, 3) := by decide +kernel
theorem dX11_averageBits_27 : decode cX11_averageBits 27 = .ok (.lstore 4, 2) := by decide +kernel
theorem dX11_averageBits_29 : decode cX11_averageBits 29 = .ok (.lload_n 2, 1) := by decide +kernel
theorem dX11_averageBits_30 : decode cX11_averageBits 30 = .ok (.lconst 0, 1) := by decide +kernel
theorem dX11_averageBits_31 : decode cX11_averageBits 31 = .ok (.lcmp, 1) := by decide +kernel
theorem dX11_averageBits_32 : decode cX11_averageBits 32 = .ok (.ifCond .lt 10, 3) := by decide +kernel
theorem dX11_averageBits_35 : decode cX11_averageBits 35 = .ok (.lload 4, 2) := by decide +kernel
theorem dX11_averageBits_37 : decode cX11_averageBits 37 = .ok (.lconst 0, 1) := by decide +kernel
theorem dX11_averageBits_38 : decode cX11_averageBits 38 = .ok (.lcmp, 1) := by decide +kernel
theorem dX11_averageBits_39 : decode cX11_averageBits 39 = .ok (.ifCond .ge 7, 3) := by decide +kernel
theorem dX11_averageBits_42 : decode cX11_averageBits 42 = .ok (.ldc2_w 218, 3) := by decide +kernel
theorem dX11_averageBits_45 : decode cX11_averageBits 45 = .ok (.lreturn, 1) := by decide +kernel
theorem dX11_averageBits_46 : decode cX11_averageBits 46 = .ok (.lload 4, 2) := by decide +kernel
theorem dX11_averageBits_48 : decode cX11_averageBits 48 = .ok (.lconst 0, 1) := by decide +kernel
theorem dX11_averageBits_49 : decode cX11_averageBits 49 = .ok (.lcmp, 1) := by decide +kernel
theorem dX11_averageBits_50 : decode cX11_averageBits 50 = .ok (.ifCond .ne 9, 3) := by decide +kernel
theorem dX11_averageBits_53 : decode cX11_averageBits 53 = .ok (.ldc2_w 225, 3) := by decide +kernel
theorem dX11_averageBits_56 : decode cX11_averageBits 56 = .ok (.goto 9, 3) := by decide +kernel
theorem dX11_averageBits_59 : decode cX11_averageBits 59 = .ok (.lload_n 2, 1) := by decide +kernel
theorem dX11_averageBits_60 : decode cX11_averageBits 60 = .ok (.l2d, 1) := by decide +kernel
theorem dX11_averageBits_61 : decode cX11_averageBits 61 = .ok (.lload 4, 2) := by decide +kernel
theorem dX11_averageBits_63 : decode cX11_averageBits 63 = .ok (.l2d, 1) := by decide +kernel
theorem dX11_averageBits_64 : decode cX11_averageBits 64 = .ok (.ddiv, 1) := by decide +kernel
theorem dX11_averageBits_65 : decode cX11_averageBits 65 = .ok (.invokestatic 227, 3) := by decide +kernel
theorem dX11_averageBits_68 : decode cX11_averageBits 68 = .ok (.lreturn, 1) := by decide +kernel
set_option maxRecDepth 20000 in
theorem ggX11_findSources_X11_has : GoodIn wsX11_findSources wsX11_has := goodIn_r _ [7] (by decide +kernel) (by decide +kernel)
set_option maxRecDepth 20000 in
theorem gX11_findSources_X11_has : GoodIn wsX11_findSources (va_wsS RX11 139 yX11_has wsX11_has) := goodIn_app (goodIn_of _ (by decide +kernel)) ggX11_findSources_X11_has
theorem dX11_findSources_0 : decode cX11_findSources 0 = .ok (.iconst 0, 1) := by decide +kernel
theorem dX11_findSources_1 : decode cX11_findSources 1 = .ok (.istore_n 1, 1) := by decide +kernel
theorem dX11_findSources_2 : decode cX11_findSources 2 = .ok (.iload_n 1, 1) := by decide +kernel
theorem dX11_findSources_3 : decode cX11_findSources 3 = .ok (.bipush 18, 2) := by decide +kernel
theorem dX11_findSources_5 : decode cX11_findSources 5 = .ok (.if_icmp .ge 16, 3) := by decide +kernel
theorem dX11_findSources_8 : decode cX11_findSources 8 = .ok (.aload_n 0, 1) := by decide +kernel
theorem dX11_findSources_9 : decode cX11_findSources 9 = .ok (.getfield 13, 3) := by decide +kernel
theorem dX11_findSources_12 : decode cX11_findSources 12 = .ok (.iload_n 1, 1) := by decide +kernel
theorem dX11_findSources_13 : decode cX11_findSources 13 = .ok (.iconst 0, 1) := by decide +kernel
theorem dX11_findSources_14 : decode cX11_findSources 14 = .ok (.iastore, 1) := by decide +kernel
theorem dX11_findSources_15 : decode cX11_findSources 15 = .ok (.iinc 1 1, 3) := by decide +kernel
theorem dX11_findSources_18 : decode cX11_findSources 18 = .ok (.goto (-16), 3) := by decide +kernel
theorem dX11_findSources_21 : decode cX11_findSources 21 = .ok (.iconst 0, 1) := by decide +kernel
theorem dX11_findSources_22 : decode cX11_findSources 22 = .ok (.istore_n 1, 1) := by decide +kernel
theorem dX11_findSources_23 : decode cX11_findSources 23 = .ok (.iload_n 1, 1) := by decide +kernel
theorem dX11_findSources_24 : decode cX11_findSources 24 = .ok (.bipush 18, 2) := by decide +kernel
theorem dX11_findSources_26 : decode cX11_findSources 26 = .ok (.if_icmp .ge 66, 3) := by decide +kernel
theorem dX11_findSources_29 : decode cX11_findSources 29 = .ok (.iconst 0, 1) := by decide +kernel
theorem dX11_findSources_30 : decode cX11_findSources 30 = .ok (.istore_n 2, 1) := by decide +kernel
theorem dX11_findSources_31 : decode cX11_findSources 31 = .ok (.iload_n 2, 1) := by decide +kernel
theorem dX11_findSources_32 : decode cX11_findSources 32 = .ok (.aload_n 0, 1) := by decide +kernel
theorem dX11_findSources_33 : decode cX11_findSources 33 = .ok (.getfield 19, 3) := by decide +kernel
theorem dX11_findSources_36 : decode cX11_findSources 36 = .ok (.if_icmp .ge 50, 3) := by decide +kernel
theorem dX11_findSources_39 : decode cX11_findSources 39 = .ok (.aload_n 0, 1) := by decide +kernel
theorem dX11_findSources_40 : decode cX11_findSources 40 = .ok (.getfield 13, 3) := by decide +kernel
theorem dX11_findSources_43 : decode cX11_findSources 43 = .ok (.iload_n 1, 1) := by decide +kernel
theorem dX11_findSources_44 : decode cX11_findSources 44 = .ok (.bipush 6, 2) := by decide +kernel
theorem dX11_findSources_46 : decode cX11_findSources 46 = .ok (.idiv, 1) := by decide +kernel
theorem dX11_findSources_47 : decode cX11_findSources 47 = .ok (.bipush 6, 2) := by decide +kernel
theorem dX11_findSources_49 : decode cX11_findSources 49 = .ok (.imul, 1) := by decide +kernel
theorem dX11_findSources_50 : decode cX11_findSources 50 = .ok (.iload_n 2, 1) := by decide +kernel
theorem dX11_findSources_51 : decode cX11_findSources 51 = .ok (.iadd, 1) := by decide +kernel
theorem dX11_findSources_52 : decode cX11_findSources 52 = .ok (.dup2, 1) := by decide +kernel
theorem dX11_findSources_53 : decode cX11_findSources 53 = .ok (.iaload, 1) := by decide +kernel
theorem dX11_findSources_54 : decode cX11_findSources 54 = .ok (.aload_n 0, 1) := by decide +kernel
theorem dX11_findSources_55 : decode cX11_findSources 55 = .ok (.getfield 7, 3) := by decide +kernel
theorem dX11_findSources_58 : decode cX11_findSources 58 = .ok (.iload_n 1, 1) := by decide +kernel
theorem dX11_findSources_59 : decode cX11_findSources 59 = .ok (.iaload, 1) := by decide +kernel
theorem dX11_findSources_60 : decode cX11_findSources 60 = .ok (.i2l, 1) := by decide +kernel
theorem dX11_findSources_61 : decode cX11_findSources 61 = .ok (.iload_n 2, 1) := by decide +kernel
theorem dX11_findSources_62 : decode cX11_findSources 62 = .ok (.invokestatic 139, 3) := by decide +kernel
theorem dX11_findSources_65 : decode cX11_findSources 65 = .ok (.ifCond .eq 12, 3) := by decide +kernel
theorem dX11_findSources_68 : decode cX11_findSources 68 = .ok (.iconst 1, 1) := by decide +kernel
theorem dX11_findSources_69 : decode cX11_findSources 69 = .ok (.iload_n 1, 1) := by decide +kernel
theorem dX11_findSources_70 : decode cX11_findSources 70 = .ok (.bipush 6, 2) := by decide +kernel
theorem dX11_findSources_72 : decode cX11_findSources 72 = .ok (.irem, 1) := by decide +kernel
theorem dX11_findSources_73 : decode cX11_findSources 73 = .ok (.ishl, 1) := by decide +kernel
theorem dX11_findSources_74 : decode cX11_findSources 74 = .ok (.goto 4, 3) := by decide +kernel
theorem dX11_findSources_77 : decode cX11_findSources 77 = .ok (.iconst 0, 1) := by decide +kernel
theorem dX11_findSources_78 : decode cX11_findSources 78 = .ok (.ior, 1) := by decide +kernel
theorem dX11_findSources_79 : decode cX11_findSources 79 = .ok (.iastore, 1) := by decide +kernel
theorem dX11_findSources_80 : decode cX11_findSources 80 = .ok (.iinc 2 1, 3) := by decide +kernel
theorem dX11_findSources_83 : decode cX11_findSources 83 = .ok (.goto (-52), 3) := by decide +kernel
theorem dX11_findSources_86 : decode cX11_findSources 86 = .ok (.iinc 1 1, 3) := by decide +kernel
theorem dX11_findSources_89 : decode cX11_findSources 89 = .ok (.goto (-66), 3) := by decide +kernel
theorem dX11_findSources_92 : decode cX11_findSources 92 = .ok (.return_, 1) := by decide +kernel
set_option maxRecDepth 20000 in
theorem ggX11_beginsSearch_X11_findSources : GoodIn wsX11_beginsSearch wsX11_findSources := goodIn_r _ [7, 8, 9, 10, 11, 12, 6, 13, 14, 15, 16, 17, 18, 19, 20, 21, 22, 23, 24, 25, 26, 27, 28, 29, 30, 31, 32, 33, 34, 35, 36, 37, 38, 39, 40, 41, 42, 43, 44, 45, 46, 47, 48, 49, 50, 51, 52, 53, 54, 55, 56, 57, 58, 59, 60, 61, 62, 63] (by rfl) (by decide +kernel)
set_option maxRecDepth 20000 in
theorem gX11_beginsSearch_X11_findSources : GoodIn wsX11_beginsSearch (wsV RX11 231 RX11 yX11_findSources wsX11_findSources) := goodIn_app (goodIn_of _ (by decide +kernel)) ggX11_beginsSearch_X11_findSources
theorem dX11_beginsSearch_0 : decode cX11_beginsSearch 0 = .ok (.aload_n 0, 1) := by decide +kernel
theorem dX11_beginsSearch_1 : decode cX11_beginsSearch 1 = .ok (.invokevirtual 231, 3) := by decide +kernel
theorem dX11_beginsSearch_4 : decode cX11_beginsSearch 4 = .ok (.aload_n 0, 1) := by decide +kernel
theorem dX11_beginsSearch_5 : decode cX11_beginsSearch 5 = .ok (.iconst 0, 1) := by decide +kernel
theorem dX11_beginsSearch_6 : decode cX11_beginsSearch 6 = .ok (.putfield 234, 3) := by decide +kernel
theorem dX11_beginsSearch_9 : decode cX11_beginsSearch 9 = .ok (.iconst 0, 1) := by decide +kernel
theorem dX11_beginsSearch_10 : decode cX11_beginsSearch 10 = .ok (.istore_n 1, 1) := by decide +kernel
theorem dX11_beginsSearch_11 : decode cX11_beginsSearch 11 = .ok (.iload_n 1, 1) := by decide +kernel
theorem dX11_beginsSearch_12 : decode cX11_beginsSearch 12 = .ok (.sipush 216, 3) := by decide +kernel
theorem dX11_beginsSearch_15 : decode cX11_beginsSearch 15 = .ok (.if_icmp .ge 18, 3) := by decide +kernel
theorem dX11_beginsSearch_18 : decode cX11_beginsSearch 18 = .ok (.aload_n 0, 1) := by decide +kernel
theorem dX11_beginsSearch_19 : decode cX11_beginsSearch 19 = .ok (.getfield 45, 3) := by decide +kernel
theorem dX11_beginsSearch_22 : decode cX11_beginsSearch 22 = .ok (.iload_n 1, 1) := by decide +kernel
theorem dX11_beginsSearch_23 : decode cX11_beginsSearch 23 = .ok (.sipush 1000, 3) := by decide +kernel
theorem dX11_beginsSearch_26 : decode cX11_beginsSearch 26 = .ok (.iastore, 1) := by decide +kernel
theorem dX11_beginsSearch_27 : decode cX11_beginsSearch 27 = .ok (.iinc 1 1, 3) := by decide +kernel
theorem dX11_beginsSearch_30 : decode cX11_beginsSearch 30 = .ok (.goto (-19), 3) := by decide +kernel
theorem dX11_beginsSearch_33 : decode cX11_beginsSearch 33 = .ok (.return_, 1) := by decide +kernel
theorem dX11_reaches_0 : decode cX11_reaches 0 = .ok (.aload_n 0, 1) := by decide +kernel
theorem dX11_reaches_1 : decode cX11_reaches 1 = .ok (.getfield 45, 3) := by decide +kernel
theorem dX11_reaches_4 : decode cX11_reaches 4 = .ok (.iload_n 1, 1) := by decide +kernel
theorem dX11_reaches_5 : decode cX11_reaches 5 = .ok (.iaload, 1) := by decide +kernel
theorem dX11_reaches_6 : decode cX11_reaches 6 = .ok (.sipush 1000, 3) := by decide +kernel
theorem dX11_reaches_9 : decode cX11_reaches 9 = .ok (.if_icmp .ge 4, 3) := by decide +kernel
theorem dX11_reaches_12 : decode cX11_reaches 12 = .ok (.return_, 1) := by decide +kernel
theorem dX11_reaches_13 : decode cX11_reaches 13 = .ok (.aload_n 0, 1) := by decide +kernel
theorem dX11_reaches_14 : decode cX11_reaches 14 = .ok (.getfield 45, 3) := by decide +kernel
theorem dX11_reaches_17 : decode cX11_reaches 17 = .ok (.iload_n 1, 1) := by decide +kernel
theorem dX11_reaches_18 : decode cX11_reaches 18 = .ok (.iload_n 2, 1) := by decide +kernel
theorem dX11_reaches_19 : decode cX11_reaches 19 = .ok (.iastore, 1) := by decide +kernel
theorem dX11_reaches_20 : decode cX11_reaches 20 = .ok (.aload_n 0, 1) := by decide +kernel
theorem dX11_reaches_21 : decode cX11_reaches 21 = .ok (.getfield 48, 3) := by decide +kernel
theorem dX11_reaches_24 : decode cX11_reaches 24 = .ok (.aload_n 0, 1) := by decide +kernel
theorem dX11_reaches_25 : decode cX11_reaches 25 = .ok (.getfield 234, 3) := by decide +kernel
theorem dX11_reaches_28 : decode cX11_reaches 28 = .ok (.iload_n 1, 1) := by decide +kernel
theorem dX11_reaches_29 : decode cX11_reaches 29 = .ok (.iastore, 1) := by decide +kernel
theorem dX11_reaches_30 : decode cX11_reaches 30 = .ok (.aload_n 0, 1) := by decide +kernel
theorem dX11_reaches_31 : decode cX11_reaches 31 = .ok (.dup, 1) := by decide +kernel
theorem dX11_reaches_32 : decode cX11_reaches 32 = .ok (.getfield 234, 3) := by decide +kernel
theorem dX11_reaches_35 : decode cX11_reaches 35 = .ok (.iconst 1, 1) := by decide +kernel
theorem dX11_reaches_36 : decode cX11_reaches 36 = .ok (.iadd, 1) := by decide +kernel
theorem dX11_reaches_37 : decode cX11_reaches 37 = .ok (.putfield 234, 3) := by decide +kernel
theorem dX11_reaches_40 : decode cX11_reaches 40 = .ok (.return_, 1) := by decide +kernel
theorem dX11_pairNode_0 : decode cX11_pairNode 0 = .ok (.iconst 2, 1) := by decide +kernel
theorem dX11_pairNode_1 : decode cX11_pairNode 1 = .ok (.bipush 6, 2) := by decide +kernel
theorem dX11_pairNode_3 : decode cX11_pairNode 3 = .ok (.iload_n 0, 1) := by decide +kernel
theorem dX11_pairNode_4 : decode cX11_pairNode 4 = .ok (.imul, 1) := by decide +kernel
theorem dX11_pairNode_5 : decode cX11_pairNode 5 = .ok (.iload_n 1, 1) := by decide +kernel
theorem dX11_pairNode_6 : decode cX11_pairNode 6 = .ok (.iadd, 1) := by decide +kernel
theorem dX11_pairNode_7 : decode cX11_pairNode 7 = .ok (.imul, 1) := by decide +kernel
theorem dX11_pairNode_8 : decode cX11_pairNode 8 = .ok (.iload_n 2, 1) := by decide +kernel
theorem dX11_pairNode_9 : decode cX11_pairNode 9 = .ok (.ifCond .eq 7, 3) := by decide +kernel
theorem dX11_pairNode_12 : decode cX11_pairNode 12 = .ok (.iconst 1, 1) := by decide +kernel
theorem dX11_pairNode_13 : decode cX11_pairNode 13 = .ok (.goto 4, 3) := by decide +kernel
theorem dX11_pairNode_16 : decode cX11_pairNode 16 = .ok (.iconst 0, 1) := by decide +kernel
theorem dX11_pairNode_17 : decode cX11_pairNode 17 = .ok (.iadd, 1) := by decide +kernel
theorem dX11_pairNode_18 : decode cX11_pairNode 18 = .ok (.ireturn, 1) := by decide +kernel
set_option maxRecDepth 20000 in
theorem ggX11_spreadsPairs_X11_has : GoodIn wsX11_spreadsPairs wsX11_has := goodIn_r _ [9] (by decide +kernel) (by decide +kernel)
set_option maxRecDepth 20000 in
theorem gX11_spreadsPairs_X11_has : GoodIn wsX11_spreadsPairs (va_wsS RX11 139 yX11_has wsX11_has) := goodIn_app (goodIn_of _ (by decide +kernel)) ggX11_spreadsPairs_X11_has
set_option maxRecDepth 20000 in
theorem ggX11_spreadsPairs_X11_pairNode : GoodIn wsX11_spreadsPairs wsX11_pairNode := goodIn_r _ [12] (by decide +kernel) (by decide +kernel)
set_option maxRecDepth 20000 in
theorem gX11_spreadsPairs_X11_pairNode : GoodIn wsX11_spreadsPairs (va_wsS RX11 237 yX11_pairNode wsX11_pairNode) := goodIn_app (goodIn_of _ (by decide +kernel)) ggX11_spreadsPairs_X11_pairNode
set_option maxRecDepth 20000 in
theorem ggX11_spreadsPairs_X11_reaches : GoodIn wsX11_spreadsPairs wsX11_reaches := goodIn_r _ [16, 3, 2, 1, 17, 18, 19, 20, 21, 22, 23, 24, 25, 26, 27, 28, 29, 30, 31, 32, 33, 34, 35, 36, 37, 38, 39, 40, 41, 42, 43, 44, 45, 46, 47, 48, 49, 50, 51, 52, 53, 54, 55, 56, 57, 58, 59, 60, 61, 62, 63, 64, 65, 66] (by decide +kernel) (by decide +kernel)
set_option maxRecDepth 20000 in
theorem gX11_spreadsPairs_X11_reaches : GoodIn wsX11_spreadsPairs (wsV RX11 241 RX11 yX11_reaches wsX11_reaches) := goodIn_app (goodIn_of _ (by decide +kernel)) ggX11_spreadsPairs_X11_reaches
theorem dX11_spreadsPairs_0 : decode cX11_spreadsPairs 0 = .ok (.iconst 0, 1) := by decide +kernel
theorem dX11_spreadsPairs_1 : decode cX11_spreadsPairs 1 = .ok (.istore_n 1, 1) := by decide +kernel
theorem dX11_spreadsPairs_2 : decode cX11_spreadsPairs 2 = .ok (.iload_n 1, 1) := by decide +kernel
theorem dX11_spreadsPairs_3 : decode cX11_spreadsPairs 3 = .ok (.aload_n 0, 1) := by decide +kernel
theorem dX11_spreadsPairs_4 : decode cX11_spreadsPairs 4 = .ok (.getfield 234, 3) := by decide +kernel
theorem dX11_spreadsPairs_7 : decode cX11_spreadsPairs 7 = .ok (.if_icmp .ge 228, 3) := by decide +kernel
theorem dX11_spreadsPairs_10 : decode cX11_spreadsPairs 10 = .ok (.aload_n 0, 1) := by decide +kernel
theorem dX11_spreadsPairs_11 : decode cX11_spreadsPairs 11 = .ok (.getfield 48, 3) := by decide +kernel
theorem dX11_spreadsPairs_14 : decode cX11_spreadsPairs 14 = .ok (.iload_n 1, 1) := by decide +kernel
theorem dX11_spreadsPairs_15 : decode cX11_spreadsPairs 15 = .ok (.iaload, 1) := by decide +kernel
theorem dX11_spreadsPairs_16 : decode cX11_spreadsPairs 16 = .ok (.bipush 12, 2) := by decide +kernel
theorem dX11_spreadsPairs_18 : decode cX11_spreadsPairs 18 = .ok (.idiv, 1) := by decide +kernel
theorem dX11_spreadsPairs_19 : decode cX11_spreadsPairs 19 = .ok (.istore_n 2, 1) := by decide +kernel
theorem dX11_spreadsPairs_20 : decode cX11_spreadsPairs 20 = .ok (.aload_n 0, 1) := by decide +kernel
theorem dX11_spreadsPairs_21 : decode cX11_spreadsPairs 21 = .ok (.getfield 48, 3) := by decide +kernel
theorem dX11_spreadsPairs_24 : decode cX11_spreadsPairs 24 = .ok (.iload_n 1, 1) := by decide +kernel
theorem dX11_spreadsPairs_25 : decode cX11_spreadsPairs 25 = .ok (.iaload, 1) := by decide +kernel
theorem dX11_spreadsPairs_26 : decode cX11_spreadsPairs 26 = .ok (.iconst 2, 1) := by decide +kernel
theorem dX11_spreadsPairs_27 : decode cX11_spreadsPairs 27 = .ok (.idiv, 1) := by decide +kernel
theorem dX11_spreadsPairs_28 : decode cX11_spreadsPairs 28 = .ok (.bipush 6, 2) := by decide +kernel
theorem dX11_spreadsPairs_30 : decode cX11_spreadsPairs 30 = .ok (.irem, 1) := by decide +kernel
theorem dX11_spreadsPairs_31 : decode cX11_spreadsPairs 31 = .ok (.istore_n 3, 1) := by decide +kernel
theorem dX11_spreadsPairs_32 : decode cX11_spreadsPairs 32 = .ok (.aload_n 0, 1) := by decide +kernel
theorem dX11_spreadsPairs_33 : decode cX11_spreadsPairs 33 = .ok (.getfield 48, 3) := by decide +kernel
theorem dX11_spreadsPairs_36 : decode cX11_spreadsPairs 36 = .ok (.iload_n 1, 1) := by decide +kernel
theorem dX11_spreadsPairs_37 : decode cX11_spreadsPairs 37 = .ok (.iaload, 1) := by decide +kernel
theorem dX11_spreadsPairs_38 : decode cX11_spreadsPairs 38 = .ok (.iconst 2, 1) := by decide +kernel
theorem dX11_spreadsPairs_39 : decode cX11_spreadsPairs 39 = .ok (.irem, 1) := by decide +kernel
theorem dX11_spreadsPairs_40 : decode cX11_spreadsPairs 40 = .ok (.iconst 1, 1) := by decide +kernel
theorem dX11_spreadsPairs_41 : decode cX11_spreadsPairs 41 = .ok (.if_icmp .ne 7, 3) := by decide +kernel
theorem dX11_spreadsPairs_44 : decode cX11_spreadsPairs 44 = .ok (.iconst 1, 1) := by decide +kernel
theorem dX11_spreadsPairs_45 : decode cX11_spreadsPairs 45 = .ok (.goto 4, 3) := by decide +kernel
theorem dX11_spreadsPairs_48 : decode cX11_spreadsPairs 48 = .ok (.iconst 0, 1) := by decide +kernel
theorem dX11_spreadsPairs_49 : decode cX11_spreadsPairs 49 = .ok (.istore 4, 2) := by decide +kernel
theorem dX11_spreadsPairs_51 : decode cX11_spreadsPairs 51 = .ok (.aload_n 0, 1) := by decide +kernel
theorem dX11_spreadsPairs_52 : decode cX11_spreadsPairs 52 = .ok (.getfield 45, 3) := by decide +kernel
theorem dX11_spreadsPairs_55 : decode cX11_spreadsPairs 55 = .ok (.aload_n 0, 1) := by decide +kernel
theorem dX11_spreadsPairs_56 : decode cX11_spreadsPairs 56 = .ok (.getfield 48, 3) := by decide +kernel
theorem dX11_spreadsPairs_59 : decode cX11_spreadsPairs 59 = .ok (.iload_n 1, 1) := by decide +kernel
theorem dX11_spreadsPairs_60 : decode cX11_spreadsPairs 60 = .ok (.iaload, 1) := by decide +kernel
theorem dX11_spreadsPairs_61 : decode cX11_spreadsPairs 61 = .ok (.iaload, 1) := by decide +kernel
theorem dX11_spreadsPairs_62 : decode cX11_spreadsPairs 62 = .ok (.iconst 1, 1) := by decide +kernel
theorem dX11_spreadsPairs_63 : decode cX11_spreadsPairs 63 = .ok (.iadd, 1) := by decide +kernel
theorem dX11_spreadsPairs_64 : decode cX11_spreadsPairs 64 = .ok (.istore 5, 2) := by decide +kernel
theorem dX11_spreadsPairs_66 : decode cX11_spreadsPairs 66 = .ok (.iconst 0, 1) := by decide +kernel
theorem dX11_spreadsPairs_67 : decode cX11_spreadsPairs 67 = .ok (.istore 6, 2) := by decide +kernel
theorem dX11_spreadsPairs_69 : decode cX11_spreadsPairs 69 = .ok (.iload 6, 2) := by decide +kernel
theorem dX11_spreadsPairs_71 : decode cX11_spreadsPairs 71 = .ok (.iconst 3, 1) := by decide +kernel
theorem dX11_spreadsPairs_72 : decode cX11_spreadsPairs 72 = .ok (.if_icmp .ge 157, 3) := by decide +kernel
theorem dX11_spreadsPairs_75 : decode cX11_spreadsPairs 75 = .ok (.aload_n 0, 1) := by decide +kernel
theorem dX11_spreadsPairs_76 : decode cX11_spreadsPairs 76 = .ok (.getfield 13, 3) := by decide +kernel
theorem dX11_spreadsPairs_79 : decode cX11_spreadsPairs 79 = .ok (.bipush 6, 2) := by decide +kernel
theorem dX11_spreadsPairs_81 : decode cX11_spreadsPairs 81 = .ok (.iload 6, 2) := by decide +kernel
theorem dX11_spreadsPairs_83 : decode cX11_spreadsPairs 83 = .ok (.imul, 1) := by decide +kernel
theorem dX11_spreadsPairs_84 : decode cX11_spreadsPairs 84 = .ok (.iload_n 2, 1) := by decide +kernel
theorem dX11_spreadsPairs_85 : decode cX11_spreadsPairs 85 = .ok (.iadd, 1) := by decide +kernel
theorem dX11_spreadsPairs_86 : decode cX11_spreadsPairs 86 = .ok (.iaload, 1) := by decide +kernel
theorem dX11_spreadsPairs_87 : decode cX11_spreadsPairs 87 = .ok (.istore 7, 2) := by decide +kernel
theorem dX11_spreadsPairs_89 : decode cX11_spreadsPairs 89 = .ok (.aload_n 0, 1) := by decide +kernel
theorem dX11_spreadsPairs_90 : decode cX11_spreadsPairs 90 = .ok (.getfield 13, 3) := by decide +kernel
theorem dX11_spreadsPairs_93 : decode cX11_spreadsPairs 93 = .ok (.bipush 6, 2) := by decide +kernel
theorem dX11_spreadsPairs_95 : decode cX11_spreadsPairs 95 = .ok (.iload 6, 2) := by decide +kernel
theorem dX11_spreadsPairs_97 : decode cX11_spreadsPairs 97 = .ok (.imul, 1) := by decide +kernel
theorem dX11_spreadsPairs_98 : decode cX11_spreadsPairs 98 = .ok (.iload_n 3, 1) := by decide +kernel
theorem dX11_spreadsPairs_99 : decode cX11_spreadsPairs 99 = .ok (.iadd, 1) := by decide +kernel
theorem dX11_spreadsPairs_100 : decode cX11_spreadsPairs 100 = .ok (.iaload, 1) := by decide +kernel
theorem dX11_spreadsPairs_101 : decode cX11_spreadsPairs 101 = .ok (.istore 8, 2) := by decide +kernel
theorem dX11_spreadsPairs_103 : decode cX11_spreadsPairs 103 = .ok (.iconst 0, 1) := by decide +kernel
theorem dX11_spreadsPairs_104 : decode cX11_spreadsPairs 104 = .ok (.istore 9, 2) := by decide +kernel
theorem dX11_spreadsPairs_106 : decode cX11_spreadsPairs 106 = .ok (.iload 9, 2) := by decide +kernel
theorem dX11_spreadsPairs_108 : decode cX11_spreadsPairs 108 = .ok (.aload_n 0, 1) := by decide +kernel
theorem dX11_spreadsPairs_109 : decode cX11_spreadsPairs 109 = .ok (.getfield 19, 3) := by decide +kernel
theorem dX11_spreadsPairs_112 : decode cX11_spreadsPairs 112 = .ok (.if_icmp .ge 111, 3) := by decide +kernel
theorem dX11_spreadsPairs_115 : decode cX11_spreadsPairs 115 = .ok (.iload 7, 2) := by decide +kernel
theorem dX11_spreadsPairs_117 : decode cX11_spreadsPairs 117 = .ok (.iload 8, 2) := by decide +kernel
theorem dX11_spreadsPairs_119 : decode cX11_spreadsPairs 119 = .ok (.iand, 1) := by decide +kernel
theorem dX11_spreadsPairs_120 : decode cX11_spreadsPairs 120 = .ok (.i2l, 1) := by decide +kernel
theorem dX11_spreadsPairs_121 : decode cX11_spreadsPairs 121 = .ok (.iload 9, 2) := by decide +kernel
theorem dX11_spreadsPairs_123 : decode cX11_spreadsPairs 123 = .ok (.invokestatic 139, 3) := by decide +kernel
theorem dX11_spreadsPairs_126 : decode cX11_spreadsPairs 126 = .ok (.ifCond .eq 32, 3) := by decide +kernel
theorem dX11_spreadsPairs_129 : decode cX11_spreadsPairs 129 = .ok (.iload 4, 2) := by decide +kernel
theorem dX11_spreadsPairs_131 : decode cX11_spreadsPairs 131 = .ok (.iload_n 2, 1) := by decide +kernel
theorem dX11_spreadsPairs_132 : decode cX11_spreadsPairs 132 = .ok (.iload_n 3, 1) := by decide +kernel
theorem dX11_spreadsPairs_133 : decode cX11_spreadsPairs 133 = .ok (.if_icmp .eq 7, 3) := by decide +kernel
theorem dX11_spreadsPairs_136 : decode cX11_spreadsPairs 136 = .ok (.iconst 1, 1) := by decide +kernel
theorem dX11_spreadsPairs_137 : decode cX11_spreadsPairs 137 = .ok (.goto 4, 3) := by decide +kernel
theorem dX11_spreadsPairs_140 : decode cX11_spreadsPairs 140 = .ok (.iconst 0, 1) := by decide +kernel
theorem dX11_spreadsPairs_141 : decode cX11_spreadsPairs 141 = .ok (.if_icmp .ne 17, 3) := by decide +kernel
theorem dX11_spreadsPairs_144 : decode cX11_spreadsPairs 144 = .ok (.aload_n 0, 1) := by decide +kernel
theorem dX11_spreadsPairs_145 : decode cX11_spreadsPairs 145 = .ok (.iload 9, 2) := by decide +kernel
theorem dX11_spreadsPairs_147 : decode cX11_spreadsPairs 147 = .ok (.iload 9, 2) := by decide +kernel
theorem dX11_spreadsPairs_149 : decode cX11_spreadsPairs 149 = .ok (.iconst 0, 1) := by decide +kernel
theorem dX11_spreadsPairs_150 : decode cX11_spreadsPairs 150 = .ok (.invokestatic 237, 3) := by decide +kernel
theorem dX11_spreadsPairs_153 : decode cX11_spreadsPairs 153 = .ok (.iload 5, 2) := by decide +kernel
theorem dX11_spreadsPairs_155 : decode cX11_spreadsPairs 155 = .ok (.invokevirtual 241, 3) := by decide +kernel
theorem dX11_spreadsPairs_158 : decode cX11_spreadsPairs 158 = .ok (.iconst 0, 1) := by decide +kernel
theorem dX11_spreadsPairs_159 : decode cX11_spreadsPairs 159 = .ok (.istore 10, 2) := by decide +kernel
theorem dX11_spreadsPairs_161 : decode cX11_spreadsPairs 161 = .ok (.iload 10, 2) := by decide +kernel
theorem dX11_spreadsPairs_163 : decode cX11_spreadsPairs 163 = .ok (.aload_n 0, 1) := by decide +kernel
theorem dX11_spreadsPairs_164 : decode cX11_spreadsPairs 164 = .ok (.getfield 19, 3) := by decide +kernel
theorem dX11_spreadsPairs_167 : decode cX11_spreadsPairs 167 = .ok (.if_icmp .ge 50, 3) := by decide +kernel
theorem dX11_spreadsPairs_170 : decode cX11_spreadsPairs 170 = .ok (.iload 4, 2) := by decide +kernel
theorem dX11_spreadsPairs_172 : decode cX11_spreadsPairs 172 = .ok (.ifCond .eq 45, 3) := by decide +kernel
theorem dX11_spreadsPairs_175 : decode cX11_spreadsPairs 175 = .ok (.iload 7, 2) := by decide +kernel
theorem dX11_spreadsPairs_177 : decode cX11_spreadsPairs 177 = .ok (.i2l, 1) := by decide +kernel
theorem dX11_spreadsPairs_178 : decode cX11_spreadsPairs 178 = .ok (.iload 9, 2) := by decide +kernel
theorem dX11_spreadsPairs_180 : decode cX11_spreadsPairs 180 = .ok (.invokestatic 139, 3) := by decide +kernel
theorem dX11_spreadsPairs_183 : decode cX11_spreadsPairs 183 = .ok (.ifCond .eq 28, 3) := by decide +kernel
theorem dX11_spreadsPairs_186 : decode cX11_spreadsPairs 186 = .ok (.iload 8, 2) := by decide +kernel
theorem dX11_spreadsPairs_188 : decode cX11_spreadsPairs 188 = .ok (.i2l, 1) := by decide +kernel
theorem dX11_spreadsPairs_189 : decode cX11_spreadsPairs 189 = .ok (.iload 10, 2) := by decide +kernel
theorem dX11_spreadsPairs_191 : decode cX11_spreadsPairs 191 = .ok (.invokestatic 139, 3) := by decide +kernel
theorem dX11_spreadsPairs_194 : decode cX11_spreadsPairs 194 = .ok (.ifCond .eq 17, 3) := by decide +kernel
theorem dX11_spreadsPairs_197 : decode cX11_spreadsPairs 197 = .ok (.aload_n 0, 1) := by decide +kernel
theorem dX11_spreadsPairs_198 : decode cX11_spreadsPairs 198 = .ok (.iload 9, 2) := by decide +kernel
theorem dX11_spreadsPairs_200 : decode cX11_spreadsPairs 200 = .ok (.iload 10, 2) := by decide +kernel
theorem dX11_spreadsPairs_202 : decode cX11_spreadsPairs 202 = .ok (.iconst 1, 1) := by decide +kernel
theorem dX11_spreadsPairs_203 : decode cX11_spreadsPairs 203 = .ok (.invokestatic 237, 3) := by decide +kernel
theorem dX11_spreadsPairs_206 : decode cX11_spreadsPairs 206 = .ok (.iload 5, 2) := by decide +kernel
theorem dX11_spreadsPairs_208 : decode cX11_spreadsPairs 208 = .ok (.invokevirtual 241, 3) := by decide +kernel
theorem dX11_spreadsPairs_211 : decode cX11_spreadsPairs 211 = .ok (.iinc 10 1, 3) := by decide +kernel
theorem dX11_spreadsPairs_214 : decode cX11_spreadsPairs 214 = .ok (.goto (-53), 3) := by decide +kernel
theorem dX11_spreadsPairs_217 : decode cX11_spreadsPairs 217 = .ok (.iinc 9 1, 3) := by decide +kernel
theorem dX11_spreadsPairs_220 : decode cX11_spreadsPairs 220 = .ok (.goto (-114), 3) := by decide +kernel
theorem dX11_spreadsPairs_223 : decode cX11_spreadsPairs 223 = .ok (.iinc 6 1, 3) := by decide +kernel
theorem dX11_spreadsPairs_226 : decode cX11_spreadsPairs 226 = .ok (.goto (-157), 3) := by decide +kernel
theorem dX11_spreadsPairs_229 : decode cX11_spreadsPairs 229 = .ok (.iinc 1 1, 3) := by decide +kernel
theorem dX11_spreadsPairs_232 : decode cX11_spreadsPairs 232 = .ok (.goto (-230), 3) := by decide +kernel
theorem dX11_spreadsPairs_235 : decode cX11_spreadsPairs 235 = .ok (.return_, 1) := by decide +kernel
set_option maxRecDepth 20000 in
theorem ggX11_leadsPair_X11_has : GoodIn wsX11_leadsPair wsX11_has := goodIn_r _ [5] (by decide +kernel) (by decide +kernel)
set_option maxRecDepth 20000 in
theorem gX11_leadsPair_X11_has : GoodIn wsX11_leadsPair (va_wsS RX11 139 yX11_has wsX11_has) := goodIn_app (goodIn_of _ (by decide +kernel)) ggX11_leadsPair_X11_has
theorem dX11_leadsPair_0 : decode cX11_leadsPair 0 = .ok (.iload_n 1, 1) := by decide +kernel
theorem dX11_leadsPair_1 : decode cX11_leadsPair 1 = .ok (.bipush 12, 2) := by decide +kernel
theorem dX11_leadsPair_3 : decode cX11_leadsPair 3 = .ok (.idiv, 1) := by decide +kernel
theorem dX11_leadsPair_4 : decode cX11_leadsPair 4 = .ok (.istore 4, 2) := by decide +kernel
theorem dX11_leadsPair_6 : decode cX11_leadsPair 6 = .ok (.iload_n 1, 1) := by decide +kernel
theorem dX11_leadsPair_7 : decode cX11_leadsPair 7 = .ok (.iconst 2, 1) := by decide +kernel
theorem dX11_leadsPair_8 : decode cX11_leadsPair 8 = .ok (.idiv, 1) := by decide +kernel
theorem dX11_leadsPair_9 : decode cX11_leadsPair 9 = .ok (.bipush 6, 2) := by decide +kernel
theorem dX11_leadsPair_11 : decode cX11_leadsPair 11 = .ok (.irem, 1) := by decide +kernel
theorem dX11_leadsPair_12 : decode cX11_leadsPair 12 = .ok (.istore 5, 2) := by decide +kernel
theorem dX11_leadsPair_14 : decode cX11_leadsPair 14 = .ok (.iload_n 3, 1) := by decide +kernel
theorem dX11_leadsPair_15 : decode cX11_leadsPair 15 = .ok (.bipush 12, 2) := by decide +kernel
theorem dX11_leadsPair_17 : decode cX11_leadsPair 17 = .ok (.idiv, 1) := by decide +kernel
theorem dX11_leadsPair_18 : decode cX11_leadsPair 18 = .ok (.istore 6, 2) := by decide +kernel
theorem dX11_leadsPair_20 : decode cX11_leadsPair 20 = .ok (.iload_n 3, 1) := by decide +kernel
theorem dX11_leadsPair_21 : decode cX11_leadsPair 21 = .ok (.iconst 2, 1) := by decide +kernel
theorem dX11_leadsPair_22 : decode cX11_leadsPair 22 = .ok (.idiv, 1) := by decide +kernel
theorem dX11_leadsPair_23 : decode cX11_leadsPair 23 = .ok (.bipush 6, 2) := by decide +kernel
theorem dX11_leadsPair_25 : decode cX11_leadsPair 25 = .ok (.irem, 1) := by decide +kernel
theorem dX11_leadsPair_26 : decode cX11_leadsPair 26 = .ok (.istore 7, 2) := by decide +kernel
theorem dX11_leadsPair_28 : decode cX11_leadsPair 28 = .ok (.iload_n 1, 1) := by decide +kernel
theorem dX11_leadsPair_29 : decode cX11_leadsPair 29 = .ok (.iconst 2, 1) := by decide +kernel
theorem dX11_leadsPair_30 : decode cX11_leadsPair 30 = .ok (.irem, 1) := by decide +kernel
theorem dX11_leadsPair_31 : decode cX11_leadsPair 31 = .ok (.iconst 1, 1) := by decide +kernel
theorem dX11_leadsPair_32 : decode cX11_leadsPair 32 = .ok (.if_icmp .eq 10, 3) := by decide +kernel
theorem dX11_leadsPair_35 : decode cX11_leadsPair 35 = .ok (.iload 6, 2) := by decide +kernel
theorem dX11_leadsPair_37 : decode cX11_leadsPair 37 = .ok (.iload 7, 2) := by decide +kernel
theorem dX11_leadsPair_39 : decode cX11_leadsPair 39 = .ok (.if_icmp .eq 7, 3) := by decide +kernel
theorem dX11_leadsPair_42 : decode cX11_leadsPair 42 = .ok (.iconst 1, 1) := by decide +kernel
theorem dX11_leadsPair_43 : decode cX11_leadsPair 43 = .ok (.goto 4, 3) := by decide +kernel
theorem dX11_leadsPair_46 : decode cX11_leadsPair 46 = .ok (.iconst 0, 1) := by decide +kernel
theorem dX11_leadsPair_47 : decode cX11_leadsPair 47 = .ok (.istore 8, 2) := by decide +kernel
theorem dX11_leadsPair_49 : decode cX11_leadsPair 49 = .ok (.iload 8, 2) := by decide +kernel
theorem dX11_leadsPair_51 : decode cX11_leadsPair 51 = .ok (.iload_n 3, 1) := by decide +kernel
theorem dX11_leadsPair_52 : decode cX11_leadsPair 52 = .ok (.iconst 2, 1) := by decide +kernel
theorem dX11_leadsPair_53 : decode cX11_leadsPair 53 = .ok (.irem, 1) := by decide +kernel
theorem dX11_leadsPair_54 : decode cX11_leadsPair 54 = .ok (.iconst 1, 1) := by decide +kernel
theorem dX11_leadsPair_55 : decode cX11_leadsPair 55 = .ok (.if_icmp .ne 7, 3) := by decide +kernel
theorem dX11_leadsPair_58 : decode cX11_leadsPair 58 = .ok (.iconst 1, 1) := by decide +kernel
theorem dX11_leadsPair_59 : decode cX11_leadsPair 59 = .ok (.goto 4, 3) := by decide +kernel
theorem dX11_leadsPair_62 : decode cX11_leadsPair 62 = .ok (.iconst 0, 1) := by decide +kernel
theorem dX11_leadsPair_63 : decode cX11_leadsPair 63 = .ok (.if_icmp .ne 49, 3) := by decide +kernel
theorem dX11_leadsPair_66 : decode cX11_leadsPair 66 = .ok (.aload_n 0, 1) := by decide +kernel
theorem dX11_leadsPair_67 : decode cX11_leadsPair 67 = .ok (.getfield 7, 3) := by decide +kernel
theorem dX11_leadsPair_70 : decode cX11_leadsPair 70 = .ok (.bipush 6, 2) := by decide +kernel
theorem dX11_leadsPair_72 : decode cX11_leadsPair 72 = .ok (.iload_n 2, 1) := by decide +kernel
theorem dX11_leadsPair_73 : decode cX11_leadsPair 73 = .ok (.imul, 1) := by decide +kernel
theorem dX11_leadsPair_74 : decode cX11_leadsPair 74 = .ok (.iload 4, 2) := by decide +kernel
theorem dX11_leadsPair_76 : decode cX11_leadsPair 76 = .ok (.iadd, 1) := by decide +kernel
theorem dX11_leadsPair_77 : decode cX11_leadsPair 77 = .ok (.iaload, 1) := by decide +kernel
theorem dX11_leadsPair_78 : decode cX11_leadsPair 78 = .ok (.i2l, 1) := by decide +kernel
theorem dX11_leadsPair_79 : decode cX11_leadsPair 79 = .ok (.iload 6, 2) := by decide +kernel
theorem dX11_leadsPair_81 : decode cX11_leadsPair 81 = .ok (.invokestatic 139, 3) := by decide +kernel
theorem dX11_leadsPair_84 : decode cX11_leadsPair 84 = .ok (.ifCond .eq 28, 3) := by decide +kernel
theorem dX11_leadsPair_87 : decode cX11_leadsPair 87 = .ok (.aload_n 0, 1) := by decide +kernel
theorem dX11_leadsPair_88 : decode cX11_leadsPair 88 = .ok (.getfield 7, 3) := by decide +kernel
theorem dX11_leadsPair_91 : decode cX11_leadsPair 91 = .ok (.bipush 6, 2) := by decide +kernel
theorem dX11_leadsPair_93 : decode cX11_leadsPair 93 = .ok (.iload_n 2, 1) := by decide +kernel
theorem dX11_leadsPair_94 : decode cX11_leadsPair 94 = .ok (.imul, 1) := by decide +kernel
theorem dX11_leadsPair_95 : decode cX11_leadsPair 95 = .ok (.iload 5, 2) := by decide +kernel
theorem dX11_leadsPair_97 : decode cX11_leadsPair 97 = .ok (.iadd, 1) := by decide +kernel
theorem dX11_leadsPair_98 : decode cX11_leadsPair 98 = .ok (.iaload, 1) := by decide +kernel
theorem dX11_leadsPair_99 : decode cX11_leadsPair 99 = .ok (.i2l, 1) := by decide +kernel
theorem dX11_leadsPair_100 : decode cX11_leadsPair 100 = .ok (.iload 7, 2) := by decide +kernel
theorem dX11_leadsPair_102 : decode cX11_leadsPair 102 = .ok (.invokestatic 139, 3) := by decide +kernel
theorem dX11_leadsPair_105 : decode cX11_leadsPair 105 = .ok (.ifCond .eq 7, 3) := by decide +kernel
theorem dX11_leadsPair_108 : decode cX11_leadsPair 108 = .ok (.iconst 1, 1) := by decide +kernel
theorem dX11_leadsPair_109 : decode cX11_leadsPair 109 = .ok (.goto 4, 3) := by decide +kernel
theorem dX11_leadsPair_112 : decode cX11_leadsPair 112 = .ok (.iconst 0, 1) := by decide +kernel
theorem dX11_leadsPair_113 : decode cX11_leadsPair 113 = .ok (.ireturn, 1) := by decide +kernel
set_option maxRecDepth 20000 in
theorem ggX11_leadsTriple_X11_has : GoodIn wsX11_leadsTriple wsX11_has := goodIn_r _ [5] (by decide +kernel) (by decide +kernel)
set_option maxRecDepth 20000 in
theorem gX11_leadsTriple_X11_has : GoodIn wsX11_leadsTriple (va_wsS RX11 139 yX11_has wsX11_has) := goodIn_app (goodIn_of _ (by decide +kernel)) ggX11_leadsTriple_X11_has
theorem dX11_leadsTriple_0 : decode cX11_leadsTriple 0 = .ok (.bipush 6, 2) := by decide +kernel
theorem dX11_leadsTriple_2 : decode cX11_leadsTriple 2 = .ok (.iload_n 2, 1) := by decide +kernel
theorem dX11_leadsTriple_3 : decode cX11_leadsTriple 3 = .ok (.imul, 1) := by decide +kernel
theorem dX11_leadsTriple_4 : decode cX11_leadsTriple 4 = .ok (.istore 4, 2) := by decide +kernel
theorem dX11_leadsTriple_6 : decode cX11_leadsTriple 6 = .ok (.aload_n 0, 1) := by decide +kernel
theorem dX11_leadsTriple_7 : decode cX11_leadsTriple 7 = .ok (.getfield 7, 3) := by decide +kernel
theorem dX11_leadsTriple_10 : decode cX11_leadsTriple 10 = .ok (.iload 4, 2) := by decide +kernel
theorem dX11_leadsTriple_12 : decode cX11_leadsTriple 12 = .ok (.iload_n 1, 1) := by decide +kernel
theorem dX11_leadsTriple_13 : decode cX11_leadsTriple 13 = .ok (.bipush 36, 2) := by decide +kernel
theorem dX11_leadsTriple_15 : decode cX11_leadsTriple 15 = .ok (.idiv, 1) := by decide +kernel
theorem dX11_leadsTriple_16 : decode cX11_leadsTriple 16 = .ok (.iadd, 1) := by decide +kernel
theorem dX11_leadsTriple_17 : decode cX11_leadsTriple 17 = .ok (.iaload, 1) := by decide +kernel
theorem dX11_leadsTriple_18 : decode cX11_leadsTriple 18 = .ok (.i2l, 1) := by decide +kernel
theorem dX11_leadsTriple_19 : decode cX11_leadsTriple 19 = .ok (.iload_n 3, 1) := by decide +kernel
theorem dX11_leadsTriple_20 : decode cX11_leadsTriple 20 = .ok (.bipush 36, 2) := by decide +kernel
theorem dX11_leadsTriple_22 : decode cX11_leadsTriple 22 = .ok (.idiv, 1) := by decide +kernel
theorem dX11_leadsTriple_23 : decode cX11_leadsTriple 23 = .ok (.invokestatic 139, 3) := by decide +kernel
theorem dX11_leadsTriple_26 : decode cX11_leadsTriple 26 = .ok (.ifCond .eq 59, 3) := by decide +kernel
theorem dX11_leadsTriple_29 : decode cX11_leadsTriple 29 = .ok (.aload_n 0, 1) := by decide +kernel
theorem dX11_leadsTriple_30 : decode cX11_leadsTriple 30 = .ok (.getfield 7, 3) := by decide +kernel
theorem dX11_leadsTriple_33 : decode cX11_leadsTriple 33 = .ok (.iload 4, 2) := by decide +kernel
theorem dX11_leadsTriple_35 : decode cX11_leadsTriple 35 = .ok (.iload_n 1, 1) := by decide +kernel
theorem dX11_leadsTriple_36 : decode cX11_leadsTriple 36 = .ok (.bipush 6, 2) := by decide +kernel
theorem dX11_leadsTriple_38 : decode cX11_leadsTriple 38 = .ok (.idiv, 1) := by decide +kernel
theorem dX11_leadsTriple_39 : decode cX11_leadsTriple 39 = .ok (.bipush 6, 2) := by decide +kernel
theorem dX11_leadsTriple_41 : decode cX11_leadsTriple 41 = .ok (.irem, 1) := by decide +kernel
theorem dX11_leadsTriple_42 : decode cX11_leadsTriple 42 = .ok (.iadd, 1) := by decide +kernel
theorem dX11_leadsTriple_43 : decode cX11_leadsTriple 43 = .ok (.iaload, 1) := by decide +kernel
theorem dX11_leadsTriple_44 : decode cX11_leadsTriple 44 = .ok (.i2l, 1) := by decide +kernel
theorem dX11_leadsTriple_45 : decode cX11_leadsTriple 45 = .ok (.iload_n 3, 1) := by decide +kernel
theorem dX11_leadsTriple_46 : decode cX11_leadsTriple 46 = .ok (.bipush 6, 2) := by decide +kernel
theorem dX11_leadsTriple_48 : decode cX11_leadsTriple 48 = .ok (.idiv, 1) := by decide +kernel
theorem dX11_leadsTriple_49 : decode cX11_leadsTriple 49 = .ok (.bipush 6, 2) := by decide +kernel
theorem dX11_leadsTriple_51 : decode cX11_leadsTriple 51 = .ok (.irem, 1) := by decide +kernel
theorem dX11_leadsTriple_52 : decode cX11_leadsTriple 52 = .ok (.invokestatic 139, 3) := by decide +kernel
theorem dX11_leadsTriple_55 : decode cX11_leadsTriple 55 = .ok (.ifCond .eq 30, 3) := by decide +kernel
theorem dX11_leadsTriple_58 : decode cX11_leadsTriple 58 = .ok (.aload_n 0, 1) := by decide +kernel
theorem dX11_leadsTriple_59 : decode cX11_leadsTriple 59 = .ok (.getfield 7, 3) := by decide +kernel
theorem dX11_leadsTriple_62 : decode cX11_leadsTriple 62 = .ok (.iload 4, 2) := by decide +kernel
theorem dX11_leadsTriple_64 : decode cX11_leadsTriple 64 = .ok (.iload_n 1, 1) := by decide +kernel
theorem dX11_leadsTriple_65 : decode cX11_leadsTriple 65 = .ok (.bipush 6, 2) := by decide +kernel
theorem dX11_leadsTriple_67 : decode cX11_leadsTriple 67 = .ok (.irem, 1) := by decide +kernel
theorem dX11_leadsTriple_68 : decode cX11_leadsTriple 68 = .ok (.iadd, 1) := by decide +kernel
theorem dX11_leadsTriple_69 : decode cX11_leadsTriple 69 = .ok (.iaload, 1) := by decide +kernel
theorem dX11_leadsTriple_70 : decode cX11_leadsTriple 70 = .ok (.i2l, 1) := by decide +kernel
theorem dX11_leadsTriple_71 : decode cX11_leadsTriple 71 = .ok (.iload_n 3, 1) := by decide +kernel
theorem dX11_leadsTriple_72 : decode cX11_leadsTriple 72 = .ok (.bipush 6, 2) := by decide +kernel
theorem dX11_leadsTriple_74 : decode cX11_leadsTriple 74 = .ok (.irem, 1) := by decide +kernel
theorem dX11_leadsTriple_75 : decode cX11_leadsTriple 75 = .ok (.invokestatic 139, 3) := by decide +kernel
theorem dX11_leadsTriple_78 : decode cX11_leadsTriple 78 = .ok (.ifCond .eq 7, 3) := by decide +kernel
theorem dX11_leadsTriple_81 : decode cX11_leadsTriple 81 = .ok (.iconst 1, 1) := by decide +kernel
theorem dX11_leadsTriple_82 : decode cX11_leadsTriple 82 = .ok (.goto 4, 3) := by decide +kernel
theorem dX11_leadsTriple_85 : decode cX11_leadsTriple 85 = .ok (.iconst 0, 1) := by decide +kernel
theorem dX11_leadsTriple_86 : decode cX11_leadsTriple 86 = .ok (.ireturn, 1) := by decide +kernel
set_option maxRecDepth 20000 in
theorem ggX11_goes_X11_leadsTriple : GoodIn wsX11_goes wsX11_leadsTriple := goodIn_r _ [8, 9, 10, 11, 7, 12, 17, 18, 19, 20, 21, 22, 23, 24, 25, 26, 27, 28, 29, 30, 31, 32, 33, 34, 35, 36, 37, 38, 39, 40, 41, 42, 43, 44, 45, 46, 47, 48, 49, 50, 51, 52, 53, 54, 55, 56, 57, 58, 59, 60, 61, 62, 63, 64, 65, 66] (by decide +kernel) (by decide +kernel)
set_option maxRecDepth 20000 in
theorem gX11_goes_X11_leadsTriple : GoodIn wsX11_goes (wsV RX11 245 RX11 yX11_leadsTriple wsX11_leadsTriple) := goodIn_app (goodIn_of _ (by decide +kernel)) ggX11_goes_X11_leadsTriple
set_option maxRecDepth 20000 in
theorem ggX11_goes_X11_leadsPair : GoodIn wsX11_goes wsX11_leadsPair := goodIn_r _ [16, 9, 10, 11, 7, 12, 17, 18, 19, 20, 21, 22, 23, 24, 25, 26, 27, 28, 29, 30, 31, 32, 33, 34, 35, 36, 37, 38, 39, 40, 41, 42, 43, 44, 45, 46, 47, 48, 49, 50, 51, 52, 53, 54, 55, 56, 57, 58, 59, 60, 61, 62, 63, 64, 65, 66] (by decide +kernel) (by decide +kernel)
set_option maxRecDepth 20000 in
theorem gX11_goes_X11_leadsPair : GoodIn wsX11_goes (wsV RX11 249 RX11 yX11_leadsPair wsX11_leadsPair) := goodIn_app (goodIn_of _ (by decide +kernel)) ggX11_goes_X11_leadsPair
theorem dX11_goes_0 : decode cX11_goes 0 = .ok (.iconst 0, 1) := by decide +kernel
theorem dX11_goes_1 : decode cX11_goes 1 = .ok (.istore 4, 2) := by decide +kernel
theorem dX11_goes_3 : decode cX11_goes 3 = .ok (.iload_n 3, 1) := by decide +kernel
theorem dX11_goes_4 : decode cX11_goes 4 = .ok (.ifCond .eq 9, 3) := by decide +kernel
theorem dX11_goes_7 : decode cX11_goes 7 = .ok (.sipush 216, 3) := by decide +kernel
theorem dX11_goes_10 : decode cX11_goes 10 = .ok (.goto 5, 3) := by decide +kernel
theorem dX11_goes_13 : decode cX11_goes 13 = .ok (.bipush 72, 2) := by decide +kernel
theorem dX11_goes_15 : decode cX11_goes 15 = .ok (.istore 5, 2) := by decide +kernel
theorem dX11_goes_17 : decode cX11_goes 17 = .ok (.iconst 0, 1) := by decide +kernel
theorem dX11_goes_18 : decode cX11_goes 18 = .ok (.istore 6, 2) := by decide +kernel
theorem dX11_goes_20 : decode cX11_goes 20 = .ok (.iload 6, 2) := by decide +kernel
theorem dX11_goes_22 : decode cX11_goes 22 = .ok (.iload 5, 2) := by decide +kernel
theorem dX11_goes_24 : decode cX11_goes 24 = .ok (.if_icmp .ge 129, 3) := by decide +kernel
theorem dX11_goes_27 : decode cX11_goes 27 = .ok (.aload_n 0, 1) := by decide +kernel
theorem dX11_goes_28 : decode cX11_goes 28 = .ok (.getfield 58, 3) := by decide +kernel
theorem dX11_goes_31 : decode cX11_goes 31 = .ok (.iload 6, 2) := by decide +kernel
theorem dX11_goes_33 : decode cX11_goes 33 = .ok (.iconst 0, 1) := by decide +kernel
theorem dX11_goes_34 : decode cX11_goes 34 = .ok (.bastore, 1) := by decide +kernel
theorem dX11_goes_35 : decode cX11_goes 35 = .ok (.iconst 0, 1) := by decide +kernel
theorem dX11_goes_36 : decode cX11_goes 36 = .ok (.istore 7, 2) := by decide +kernel
theorem dX11_goes_38 : decode cX11_goes 38 = .ok (.iload 7, 2) := by decide +kernel
theorem dX11_goes_40 : decode cX11_goes 40 = .ok (.iload 5, 2) := by decide +kernel
theorem dX11_goes_42 : decode cX11_goes 42 = .ok (.if_icmp .ge 83, 3) := by decide +kernel
theorem dX11_goes_45 : decode cX11_goes 45 = .ok (.aload_n 0, 1) := by decide +kernel
theorem dX11_goes_46 : decode cX11_goes 46 = .ok (.getfield 45, 3) := by decide +kernel
theorem dX11_goes_49 : decode cX11_goes 49 = .ok (.iload 6, 2) := by decide +kernel
theorem dX11_goes_51 : decode cX11_goes 51 = .ok (.iaload, 1) := by decide +kernel
theorem dX11_goes_52 : decode cX11_goes 52 = .ok (.iload_n 2, 1) := by decide +kernel
theorem dX11_goes_53 : decode cX11_goes 53 = .ok (.if_icmp .ne 72, 3) := by decide +kernel
theorem dX11_goes_56 : decode cX11_goes 56 = .ok (.aload_n 0, 1) := by decide +kernel
theorem dX11_goes_57 : decode cX11_goes 57 = .ok (.getfield 58, 3) := by decide +kernel
theorem dX11_goes_60 : decode cX11_goes 60 = .ok (.iload 6, 2) := by decide +kernel
theorem dX11_goes_62 : decode cX11_goes 62 = .ok (.baload, 1) := by decide +kernel
theorem dX11_goes_63 : decode cX11_goes 63 = .ok (.ifCond .ne 62, 3) := by decide +kernel
theorem dX11_goes_66 : decode cX11_goes 66 = .ok (.aload_n 0, 1) := by decide +kernel
theorem dX11_goes_67 : decode cX11_goes 67 = .ok (.getfield 58, 3) := by decide +kernel
theorem dX11_goes_70 : decode cX11_goes 70 = .ok (.iload 6, 2) := by decide +kernel
theorem dX11_goes_72 : decode cX11_goes 72 = .ok (.aload_n 0, 1) := by decide +kernel
theorem dX11_goes_73 : decode cX11_goes 73 = .ok (.getfield 54, 3) := by decide +kernel
theorem dX11_goes_76 : decode cX11_goes 76 = .ok (.iload 7, 2) := by decide +kernel
theorem dX11_goes_78 : decode cX11_goes 78 = .ok (.baload, 1) := by decide +kernel
theorem dX11_goes_79 : decode cX11_goes 79 = .ok (.ifCond .eq 38, 3) := by decide +kernel
theorem dX11_goes_82 : decode cX11_goes 82 = .ok (.iload_n 3, 1) := by decide +kernel
theorem dX11_goes_83 : decode cX11_goes 83 = .ok (.ifCond .eq 18, 3) := by decide +kernel
theorem dX11_goes_86 : decode cX11_goes 86 = .ok (.aload_n 0, 1) := by decide +kernel
theorem dX11_goes_87 : decode cX11_goes 87 = .ok (.iload 7, 2) := by decide +kernel
theorem dX11_goes_89 : decode cX11_goes 89 = .ok (.iload_n 1, 1) := by decide +kernel
theorem dX11_goes_90 : decode cX11_goes 90 = .ok (.iload 6, 2) := by decide +kernel
theorem dX11_goes_92 : decode cX11_goes 92 = .ok (.invokevirtual 245, 3) := by decide +kernel
theorem dX11_goes_95 : decode cX11_goes 95 = .ok (.ifCond .eq 22, 3) := by decide +kernel
theorem dX11_goes_98 : decode cX11_goes 98 = .ok (.goto 15, 3) := by decide +kernel
theorem dX11_goes_101 : decode cX11_goes 101 = .ok (.aload_n 0, 1) := by decide +kernel
theorem dX11_goes_102 : decode cX11_goes 102 = .ok (.iload 7, 2) := by decide +kernel
theorem dX11_goes_104 : decode cX11_goes 104 = .ok (.iload_n 1, 1) := by decide +kernel
theorem dX11_goes_105 : decode cX11_goes 105 = .ok (.iload 6, 2) := by decide +kernel
theorem dX11_goes_107 : decode cX11_goes 107 = .ok (.invokevirtual 249, 3) := by decide +kernel
theorem dX11_goes_110 : decode cX11_goes 110 = .ok (.ifCond .eq 7, 3) := by decide +kernel
theorem dX11_goes_113 : decode cX11_goes 113 = .ok (.iconst 1, 1) := by decide +kernel
theorem dX11_goes_114 : decode cX11_goes 114 = .ok (.goto 4, 3) := by decide +kernel
theorem dX11_goes_117 : decode cX11_goes 117 = .ok (.iconst 0, 1) := by decide +kernel
theorem dX11_goes_118 : decode cX11_goes 118 = .ok (.bastore, 1) := by decide +kernel
theorem dX11_goes_119 : decode cX11_goes 119 = .ok (.iinc 7 1, 3) := by decide +kernel
theorem dX11_goes_122 : decode cX11_goes 122 = .ok (.goto (-84), 3) := by decide +kernel
theorem dX11_goes_125 : decode cX11_goes 125 = .ok (.iload 4, 2) := by decide +kernel
theorem dX11_goes_127 : decode cX11_goes 127 = .ok (.ifCond .ne 13, 3) := by decide +kernel
theorem dX11_goes_130 : decode cX11_goes 130 = .ok (.aload_n 0, 1) := by decide +kernel
theorem dX11_goes_131 : decode cX11_goes 131 = .ok (.getfield 58, 3) := by decide +kernel
theorem dX11_goes_134 : decode cX11_goes 134 = .ok (.iload 6, 2) := by decide +kernel
theorem dX11_goes_136 : decode cX11_goes 136 = .ok (.baload, 1) := by decide +kernel
theorem dX11_goes_137 : decode cX11_goes 137 = .ok (.ifCond .eq 7, 3) := by decide +kernel
theorem dX11_goes_140 : decode cX11_goes 140 = .ok (.iconst 1, 1) := by decide +kernel
theorem dX11_goes_141 : decode cX11_goes 141 = .ok (.goto 4, 3) := by decide +kernel
theorem dX11_goes_144 : decode cX11_goes 144 = .ok (.iconst 0, 1) := by decide +kernel
theorem dX11_goes_145 : decode cX11_goes 145 = .ok (.istore 4, 2) := by decide +kernel
theorem dX11_goes_147 : decode cX11_goes 147 = .ok (.iinc 6 1, 3) := by decide +kernel
theorem dX11_goes_150 : decode cX11_goes 150 = .ok (.goto (-130), 3) := by decide +kernel
theorem dX11_goes_153 : decode cX11_goes 153 = .ok (.iload 4, 2) := by decide +kernel
theorem dX11_goes_155 : decode cX11_goes 155 = .ok (.ireturn, 1) := by decide +kernel
set_option maxRecDepth 20000 in
theorem ggX11_spells_X11_goes : GoodIn wsX11_spells wsX11_goes := goodIn_r _ [9, 4, 10, 3, 11, 12, 13, 8, 14, 15, 16, 17, 18, 19, 20, 21, 22, 23, 24, 25, 26, 27, 28, 29, 30, 31, 32, 33, 34, 35, 36, 37, 38, 39, 40, 41, 42, 43, 44, 45, 46, 47, 48, 49, 50, 51, 52, 53, 54, 55, 56, 57, 58, 59, 60, 61, 62, 63, 64, 65, 66, 67, 68, 69, 70, 71, 72] (by rfl) (by decide +kernel)
set_option maxRecDepth 20000 in
theorem gX11_spells_X11_goes : GoodIn wsX11_spells (wsV RX11 255 RX11 yX11_goes wsX11_goes) := goodIn_app (goodIn_of _ (by decide +kernel)) ggX11_spells_X11_goes
theorem dX11_spells_0 : decode cX11_spells 0 = .ok (.aload_n 0, 1) := by decide +kernel
theorem dX11_spells_1 : decode cX11_spells 1 = .ok (.iload_n 1, 1) := by decide +kernel
theorem dX11_spells_2 : decode cX11_spells 2 = .ok (.putfield 252, 3) := by decide +kernel
theorem dX11_spells_5 : decode cX11_spells 5 = .ok (.iconst 0, 1) := by decide +kernel
theorem dX11_spells_6 : decode cX11_spells 6 = .ok (.istore_n 3, 1) := by decide +kernel
theorem dX11_spells_7 : decode cX11_spells 7 = .ok (.iload_n 3, 1) := by decide +kernel
theorem dX11_spells_8 : decode cX11_spells 8 = .ok (.iload_n 1, 1) := by decide +kernel
theorem dX11_spells_9 : decode cX11_spells 9 = .ok (.if_icmp .ge 72, 3) := by decide +kernel
theorem dX11_spells_12 : decode cX11_spells 12 = .ok (.iconst 0, 1) := by decide +kernel
theorem dX11_spells_13 : decode cX11_spells 13 = .ok (.istore 4, 2) := by decide +kernel
theorem dX11_spells_15 : decode cX11_spells 15 = .ok (.aload_n 0, 1) := by decide +kernel
theorem dX11_spells_16 : decode cX11_spells 16 = .ok (.iload 4, 2) := by decide +kernel
theorem dX11_spells_18 : decode cX11_spells 18 = .ok (.iload_n 1, 1) := by decide +kernel
theorem dX11_spells_19 : decode cX11_spells 19 = .ok (.iconst 1, 1) := by decide +kernel
theorem dX11_spells_20 : decode cX11_spells 20 = .ok (.isub, 1) := by decide +kernel
theorem dX11_spells_21 : decode cX11_spells 21 = .ok (.iload_n 3, 1) := by decide +kernel
theorem dX11_spells_22 : decode cX11_spells 22 = .ok (.isub, 1) := by decide +kernel
theorem dX11_spells_23 : decode cX11_spells 23 = .ok (.iload_n 2, 1) := by decide +kernel
theorem dX11_spells_24 : decode cX11_spells 24 = .ok (.invokevirtual 255, 3) := by decide +kernel
theorem dX11_spells_27 : decode cX11_spells 27 = .ok (.ifCond .ne 9, 3) := by decide +kernel
theorem dX11_spells_30 : decode cX11_spells 30 = .ok (.iinc 4 1, 3) := by decide +kernel
theorem dX11_spells_33 : decode cX11_spells 33 = .ok (.goto (-18), 3) := by decide +kernel
theorem dX11_spells_36 : decode cX11_spells 36 = .ok (.aload_n 0, 1) := by decide +kernel
theorem dX11_spells_37 : decode cX11_spells 37 = .ok (.getfield 51, 3) := by decide +kernel
theorem dX11_spells_40 : decode cX11_spells 40 = .ok (.iload_n 3, 1) := by decide +kernel
theorem dX11_spells_41 : decode cX11_spells 41 = .ok (.iload 4, 2) := by decide +kernel
theorem dX11_spells_43 : decode cX11_spells 43 = .ok (.iastore, 1) := by decide +kernel
theorem dX11_spells_44 : decode cX11_spells 44 = .ok (.iconst 0, 1) := by decide +kernel
theorem dX11_spells_45 : decode cX11_spells 45 = .ok (.istore 5, 2) := by decide +kernel
theorem dX11_spells_47 : decode cX11_spells 47 = .ok (.iload 5, 2) := by decide +kernel
theorem dX11_spells_49 : decode cX11_spells 49 = .ok (.sipush 216, 3) := by decide +kernel
theorem dX11_spells_52 : decode cX11_spells 52 = .ok (.if_icmp .ge 23, 3) := by decide +kernel
theorem dX11_spells_55 : decode cX11_spells 55 = .ok (.aload_n 0, 1) := by decide +kernel
theorem dX11_spells_56 : decode cX11_spells 56 = .ok (.getfield 54, 3) := by decide +kernel
theorem dX11_spells_59 : decode cX11_spells 59 = .ok (.iload 5, 2) := by decide +kernel
theorem dX11_spells_61 : decode cX11_spells 61 = .ok (.aload_n 0, 1) := by decide +kernel
theorem dX11_spells_62 : decode cX11_spells 62 = .ok (.getfield 58, 3) := by decide +kernel
theorem dX11_spells_65 : decode cX11_spells 65 = .ok (.iload 5, 2) := by decide +kernel
theorem dX11_spells_67 : decode cX11_spells 67 = .ok (.baload, 1) := by decide +kernel
theorem dX11_spells_68 : decode cX11_spells 68 = .ok (.bastore, 1) := by decide +kernel
theorem dX11_spells_69 : decode cX11_spells 69 = .ok (.iinc 5 1, 3) := by decide +kernel
theorem dX11_spells_72 : decode cX11_spells 72 = .ok (.goto (-25), 3) := by decide +kernel
theorem dX11_spells_75 : decode cX11_spells 75 = .ok (.iinc 3 1, 3) := by decide +kernel
theorem dX11_spells_78 : decode cX11_spells 78 = .ok (.goto (-71), 3) := by decide +kernel
theorem dX11_spells_81 : decode cX11_spells 81 = .ok (.return_, 1) := by decide +kernel
theorem dX11_nobodyIsHere_0 : decode cX11_nobodyIsHere 0 = .ok (.iconst 0, 1) := by decide +kernel
theorem dX11_nobodyIsHere_1 : decode cX11_nobodyIsHere 1 = .ok (.istore_n 1, 1) := by decide +kernel
theorem dX11_nobodyIsHere_2 : decode cX11_nobodyIsHere 2 = .ok (.iload_n 1, 1) := by decide +kernel
theorem dX11_nobodyIsHere_3 : decode cX11_nobodyIsHere 3 = .ok (.sipush 216, 3) := by decide +kernel
theorem dX11_nobodyIsHere_6 : decode cX11_nobodyIsHere 6 = .ok (.if_icmp .ge 23, 3) := by decide +kernel
theorem dX11_nobodyIsHere_9 : decode cX11_nobodyIsHere 9 = .ok (.aload_n 0, 1) := by decide +kernel
theorem dX11_nobodyIsHere_10 : decode cX11_nobodyIsHere 10 = .ok (.getfield 54, 3) := by decide +kernel
theorem dX11_nobodyIsHere_13 : decode cX11_nobodyIsHere 13 = .ok (.iload_n 1, 1) := by decide +kernel
theorem dX11_nobodyIsHere_14 : decode cX11_nobodyIsHere 14 = .ok (.iconst 0, 1) := by decide +kernel
theorem dX11_nobodyIsHere_15 : decode cX11_nobodyIsHere 15 = .ok (.bastore, 1) := by decide +kernel
theorem dX11_nobodyIsHere_16 : decode cX11_nobodyIsHere 16 = .ok (.aload_n 0, 1) := by decide +kernel
theorem dX11_nobodyIsHere_17 : decode cX11_nobodyIsHere 17 = .ok (.getfield 58, 3) := by decide +kernel
theorem dX11_nobodyIsHere_20 : decode cX11_nobodyIsHere 20 = .ok (.iload_n 1, 1) := by decide +kernel
theorem dX11_nobodyIsHere_21 : decode cX11_nobodyIsHere 21 = .ok (.iconst 0, 1) := by decide +kernel
theorem dX11_nobodyIsHere_22 : decode cX11_nobodyIsHere 22 = .ok (.bastore, 1) := by decide +kernel
theorem dX11_nobodyIsHere_23 : decode cX11_nobodyIsHere 23 = .ok (.iinc 1 1, 3) := by decide +kernel
theorem dX11_nobodyIsHere_26 : decode cX11_nobodyIsHere 26 = .ok (.goto (-24), 3) := by decide +kernel
theorem dX11_nobodyIsHere_29 : decode cX11_nobodyIsHere 29 = .ok (.return_, 1) := by decide +kernel
set_option maxRecDepth 20000 in
theorem ggX11_spellAmbiguous_X11_beginsSearch : GoodIn wsX11_spellAmbiguous wsX11_beginsSearch := goodIn_r _ [10, 11, 4, 12, 13, 14, 9, 15, 16, 1, 17, 18, 19, 20, 56, 57, 58, 59, 60, 61, 62, 63, 64, 65, 66, 67, 68, 69, 70, 71, 72, 73, 74, 75, 76, 77, 78, 79, 80, 81, 82, 83, 84, 85, 86, 87, 88, 89, 90, 91, 92, 93, 94, 95, 96, 97, 98, 99, 100, 101, 102, 103, 104, 105] (by rfl) (by decide +kernel)
set_option maxRecDepth 20000 in
theorem gX11_spellAmbiguous_X11_beginsSearch : GoodIn wsX11_spellAmbiguous (wsV RX11 259 RX11 yX11_beginsSearch wsX11_beginsSearch) := goodIn_app (goodIn_of _ (by decide +kernel)) ggX11_spellAmbiguous_X11_beginsSearch
set_option maxRecDepth 20000 in
theorem ggX11_spellAmbiguous_X11_has : GoodIn wsX11_spellAmbiguous wsX11_has := goodIn_r _ [20] (by decide +kernel) (by decide +kernel)
set_option maxRecDepth 20000 in
theorem gX11_spellAmbiguous_X11_has : GoodIn wsX11_spellAmbiguous (va_wsS RX11 139 yX11_has wsX11_has) := goodIn_app (goodIn_of _ (by decide +kernel)) ggX11_spellAmbiguous_X11_has
set_option maxRecDepth 20000 in
theorem ggX11_spellAmbiguous_X11_pairNode : GoodIn wsX11_spellAmbiguous wsX11_pairNode := goodIn_r _ [23] (by decide +kernel) (by decide +kernel)
set_option maxRecDepth 20000 in
theorem gX11_spellAmbiguous_X11_pairNode : GoodIn wsX11_spellAmbiguous (va_wsS RX11 237 yX11_pairNode wsX11_pairNode) := goodIn_app (goodIn_of _ (by decide +kernel)) ggX11_spellAmbiguous_X11_pairNode
set_option maxRecDepth 20000 in
theorem ggX11_spellAmbiguous_X11_reaches : GoodIn wsX11_spellAmbiguous wsX11_reaches := goodIn_r _ [27, 4, 28, 11, 56, 57, 58, 59, 60, 61, 62, 63, 64, 65, 66, 67, 68, 69, 70, 71, 72, 73, 74, 75, 76, 77, 78, 79, 80, 81, 82, 83, 84, 85, 86, 87, 88, 89, 90, 91, 92, 93, 94, 95, 96, 97, 98, 99, 100, 101, 102, 103, 104, 105] (by decide +kernel) (by decide +kernel)
set_option maxRecDepth 20000 in
theorem gX11_spellAmbiguous_X11_reaches : GoodIn wsX11_spellAmbiguous (wsV RX11 241 RX11 yX11_reaches wsX11_reaches) := goodIn_app (goodIn_of _ (by decide +kernel)) ggX11_spellAmbiguous_X11_reaches
set_option maxRecDepth 20000 in
theorem ggX11_spellAmbiguous_X11_spreadsPairs : GoodIn wsX11_spellAmbiguous wsX11_spreadsPairs := goodIn_r _ [32, 11, 28, 4, 16, 1, 18, 19, 9, 20, 21, 22, 23, 24, 25, 26, 27, 56, 57, 58, 59, 60, 61, 62, 63, 64, 65, 66, 67, 68, 69, 70, 71, 72, 73, 74, 75, 76, 77, 78, 79, 80, 81, 82, 83, 84, 85, 86, 87, 88, 89, 90, 91, 92, 93, 94, 95, 96, 97, 98, 99, 100, 101, 102, 103, 104, 105] (by rfl) (by decide +kernel)
set_option maxRecDepth 20000 in
theorem gX11_spellAmbiguous_X11_spreadsPairs : GoodIn wsX11_spellAmbiguous (wsV RX11 262 RX11 yX11_spreadsPairs wsX11_spreadsPairs) := goodIn_app (goodIn_of _ (by decide +kernel)) ggX11_spellAmbiguous_X11_spreadsPairs
set_option maxRecDepth 20000 in
theorem ggX11_spellAmbiguous_X11_nobodyIsHere : GoodIn wsX11_spellAmbiguous wsX11_nobodyIsHere := goodIn_r _ [36, 5, 37, 56, 57, 58, 59, 60, 61, 62, 63, 64, 65, 66, 67, 68, 69, 70, 71, 72, 73, 74, 75, 76, 77, 78, 79, 80, 81, 82, 83, 84, 85, 86, 87, 88, 89, 90, 91, 92, 93, 94, 95, 96, 97, 98, 99, 100, 101, 102, 103, 104, 105] (by decide +kernel) (by decide +kernel)
set_option maxRecDepth 20000 in
theorem gX11_spellAmbiguous_X11_nobodyIsHere : GoodIn wsX11_spellAmbiguous (wsV RX11 265 RX11 yX11_nobodyIsHere wsX11_nobodyIsHere) := goodIn_app (goodIn_of _ (by decide +kernel)) ggX11_spellAmbiguous_X11_nobodyIsHere
set_option maxRecDepth 20000 in
theorem ggX11_spellAmbiguous_X11_spells : GoodIn wsX11_spellAmbiguous wsX11_spells := goodIn_r _ [41, 42, 43, 5, 37, 44, 45, 46, 9, 47, 4, 48, 49, 50, 51, 17, 18, 19, 20, 52, 53, 54, 55, 56, 57, 58, 59, 60, 61, 62, 63, 64, 65, 66, 67, 68, 69, 70, 71, 72, 73, 74, 75, 76, 77, 78, 79, 80, 81, 82, 83, 84, 85, 86, 87, 88, 89, 90, 91, 92, 93, 94, 95, 96, 97, 98, 99, 100, 101, 102, 103, 104, 105] (by rfl) (by decide +kernel)
set_option maxRecDepth 20000 in
theorem gX11_spellAmbiguous_X11_spells : GoodIn wsX11_spellAmbiguous (wsV RX11 268 RX11 yX11_spells wsX11_spells) := goodIn_app (goodIn_of _ (by decide +kernel)) ggX11_spellAmbiguous_X11_spells
theorem dX11_spellAmbiguous_0 : decode cX11_spellAmbiguous 0 = .ok (.aload_n 0, 1) := by decide +kernel
theorem dX11_spellAmbiguous_1 : decode cX11_spellAmbiguous 1 = .ok (.invokevirtual 259, 3) := by decide +kernel
theorem dX11_spellAmbiguous_4 : decode cX11_spellAmbiguous 4 = .ok (.iconst 0, 1) := by decide +kernel
theorem dX11_spellAmbiguous_5 : decode cX11_spellAmbiguous 5 = .ok (.istore_n 1, 1) := by decide +kernel
theorem dX11_spellAmbiguous_6 : decode cX11_spellAmbiguous 6 = .ok (.iload_n 1, 1) := by decide +kernel
theorem dX11_spellAmbiguous_7 : decode cX11_spellAmbiguous 7 = .ok (.aload_n 0, 1) := by decide +kernel
theorem dX11_spellAmbiguous_8 : decode cX11_spellAmbiguous 8 = .ok (.getfield 19, 3) := by decide +kernel
theorem dX11_spellAmbiguous_11 : decode cX11_spellAmbiguous 11 = .ok (.if_icmp .ge 60, 3) := by decide +kernel
theorem dX11_spellAmbiguous_14 : decode cX11_spellAmbiguous 14 = .ok (.iconst 0, 1) := by decide +kernel
theorem dX11_spellAmbiguous_15 : decode cX11_spellAmbiguous 15 = .ok (.istore_n 2, 1) := by decide +kernel
theorem dX11_spellAmbiguous_16 : decode cX11_spellAmbiguous 16 = .ok (.iload_n 2, 1) := by decide +kernel
theorem dX11_spellAmbiguous_17 : decode cX11_spellAmbiguous 17 = .ok (.aload_n 0, 1) := by decide +kernel
theorem dX11_spellAmbiguous_18 : decode cX11_spellAmbiguous 18 = .ok (.getfield 19, 3) := by decide +kernel
theorem dX11_spellAmbiguous_21 : decode cX11_spellAmbiguous 21 = .ok (.if_icmp .ge 44, 3) := by decide +kernel
theorem dX11_spellAmbiguous_24 : decode cX11_spellAmbiguous 24 = .ok (.aload_n 0, 1) := by decide +kernel
theorem dX11_spellAmbiguous_25 : decode cX11_spellAmbiguous 25 = .ok (.getfield 115, 3) := by decide +kernel
theorem dX11_spellAmbiguous_28 : decode cX11_spellAmbiguous 28 = .ok (.i2l, 1) := by decide +kernel
theorem dX11_spellAmbiguous_29 : decode cX11_spellAmbiguous 29 = .ok (.iload_n 1, 1) := by decide +kernel
theorem dX11_spellAmbiguous_30 : decode cX11_spellAmbiguous 30 = .ok (.invokestatic 139, 3) := by decide +kernel
theorem dX11_spellAmbiguous_33 : decode cX11_spellAmbiguous 33 = .ok (.ifCond .eq 26, 3) := by decide +kernel
theorem dX11_spellAmbiguous_36 : decode cX11_spellAmbiguous 36 = .ok (.aload_n 0, 1) := by decide +kernel
theorem dX11_spellAmbiguous_37 : decode cX11_spellAmbiguous 37 = .ok (.getfield 115, 3) := by decide +kernel
theorem dX11_spellAmbiguous_40 : decode cX11_spellAmbiguous 40 = .ok (.i2l, 1) := by decide +kernel
theorem dX11_spellAmbiguous_41 : decode cX11_spellAmbiguous 41 = .ok (.iload_n 2, 1) := by decide +kernel
theorem dX11_spellAmbiguous_42 : decode cX11_spellAmbiguous 42 = .ok (.invokestatic 139, 3) := by decide +kernel
theorem dX11_spellAmbiguous_45 : decode cX11_spellAmbiguous 45 = .ok (.ifCond .eq 14, 3) := by decide +kernel
theorem dX11_spellAmbiguous_48 : decode cX11_spellAmbiguous 48 = .ok (.aload_n 0, 1) := by decide +kernel
theorem dX11_spellAmbiguous_49 : decode cX11_spellAmbiguous 49 = .ok (.iload_n 1, 1) := by decide +kernel
theorem dX11_spellAmbiguous_50 : decode cX11_spellAmbiguous 50 = .ok (.iload_n 2, 1) := by decide +kernel
theorem dX11_spellAmbiguous_51 : decode cX11_spellAmbiguous 51 = .ok (.iconst 1, 1) := by decide +kernel
theorem dX11_spellAmbiguous_52 : decode cX11_spellAmbiguous 52 = .ok (.invokestatic 237, 3) := by decide +kernel
theorem dX11_spellAmbiguous_55 : decode cX11_spellAmbiguous 55 = .ok (.iconst 0, 1) := by decide +kernel
theorem dX11_spellAmbiguous_56 : decode cX11_spellAmbiguous 56 = .ok (.invokevirtual 241, 3) := by decide +kernel
theorem dX11_spellAmbiguous_59 : decode cX11_spellAmbiguous 59 = .ok (.iinc 2 1, 3) := by decide +kernel
theorem dX11_spellAmbiguous_62 : decode cX11_spellAmbiguous 62 = .ok (.goto (-46), 3) := by decide +kernel
theorem dX11_spellAmbiguous_65 : decode cX11_spellAmbiguous 65 = .ok (.iinc 1 1, 3) := by decide +kernel
theorem dX11_spellAmbiguous_68 : decode cX11_spellAmbiguous 68 = .ok (.goto (-62), 3) := by decide +kernel
theorem dX11_spellAmbiguous_71 : decode cX11_spellAmbiguous 71 = .ok (.aload_n 0, 1) := by decide +kernel
theorem dX11_spellAmbiguous_72 : decode cX11_spellAmbiguous 72 = .ok (.invokevirtual 262, 3) := by decide +kernel
theorem dX11_spellAmbiguous_75 : decode cX11_spellAmbiguous 75 = .ok (.sipush 1000, 3) := by decide +kernel
theorem dX11_spellAmbiguous_78 : decode cX11_spellAmbiguous 78 = .ok (.istore_n 1, 1) := by decide +kernel
theorem dX11_spellAmbiguous_79 : decode cX11_spellAmbiguous 79 = .ok (.iconst 0, 1) := by decide +kernel
theorem dX11_spellAmbiguous_80 : decode cX11_spellAmbiguous 80 = .ok (.istore_n 2, 1) := by decide +kernel
theorem dX11_spellAmbiguous_81 : decode cX11_spellAmbiguous 81 = .ok (.iload_n 2, 1) := by decide +kernel
theorem dX11_spellAmbiguous_82 : decode cX11_spellAmbiguous 82 = .ok (.aload_n 0, 1) := by decide +kernel
theorem dX11_spellAmbiguous_83 : decode cX11_spellAmbiguous 83 = .ok (.getfield 19, 3) := by decide +kernel
theorem dX11_spellAmbiguous_86 : decode cX11_spellAmbiguous 86 = .ok (.if_icmp .ge 94, 3) := by decide +kernel
theorem dX11_spellAmbiguous_89 : decode cX11_spellAmbiguous 89 = .ok (.iconst 0, 1) := by decide +kernel
theorem dX11_spellAmbiguous_90 : decode cX11_spellAmbiguous 90 = .ok (.istore_n 3, 1) := by decide +kernel
theorem dX11_spellAmbiguous_91 : decode cX11_spellAmbiguous 91 = .ok (.iload_n 3, 1) := by decide +kernel
theorem dX11_spellAmbiguous_92 : decode cX11_spellAmbiguous 92 = .ok (.aload_n 0, 1) := by decide +kernel
theorem dX11_spellAmbiguous_93 : decode cX11_spellAmbiguous 93 = .ok (.getfield 19, 3) := by decide +kernel
theorem dX11_spellAmbiguous_96 : decode cX11_spellAmbiguous 96 = .ok (.if_icmp .ge 78, 3) := by decide +kernel
theorem dX11_spellAmbiguous_99 : decode cX11_spellAmbiguous 99 = .ok (.aload_n 0, 1) := by decide +kernel
theorem dX11_spellAmbiguous_100 : decode cX11_spellAmbiguous 100 = .ok (.getfield 112, 3) := by decide +kernel
theorem dX11_spellAmbiguous_103 : decode cX11_spellAmbiguous 103 = .ok (.i2l, 1) := by decide +kernel
theorem dX11_spellAmbiguous_104 : decode cX11_spellAmbiguous 104 = .ok (.iload_n 2, 1) := by decide +kernel
theorem dX11_spellAmbiguous_105 : decode cX11_spellAmbiguous 105 = .ok (.invokestatic 139, 3) := by decide +kernel
theorem dX11_spellAmbiguous_108 : decode cX11_spellAmbiguous 108 = .ok (.ifCond .eq 60, 3) := by decide +kernel
theorem dX11_spellAmbiguous_111 : decode cX11_spellAmbiguous 111 = .ok (.aload_n 0, 1) := by decide +kernel
theorem dX11_spellAmbiguous_112 : decode cX11_spellAmbiguous 112 = .ok (.getfield 112, 3) := by decide +kernel
theorem dX11_spellAmbiguous_115 : decode cX11_spellAmbiguous 115 = .ok (.i2l, 1) := by decide +kernel
theorem dX11_spellAmbiguous_116 : decode cX11_spellAmbiguous 116 = .ok (.iload_n 3, 1) := by decide +kernel
theorem dX11_spellAmbiguous_117 : decode cX11_spellAmbiguous 117 = .ok (.invokestatic 139, 3) := by decide +kernel
theorem dX11_spellAmbiguous_120 : decode cX11_spellAmbiguous 120 = .ok (.ifCond .eq 48, 3) := by decide +kernel
theorem dX11_spellAmbiguous_123 : decode cX11_spellAmbiguous 123 = .ok (.aload_n 0, 1) := by decide +kernel
theorem dX11_spellAmbiguous_124 : decode cX11_spellAmbiguous 124 = .ok (.getfield 45, 3) := by decide +kernel
theorem dX11_spellAmbiguous_127 : decode cX11_spellAmbiguous 127 = .ok (.iload_n 2, 1) := by decide +kernel
theorem dX11_spellAmbiguous_128 : decode cX11_spellAmbiguous 128 = .ok (.iload_n 3, 1) := by decide +kernel
theorem dX11_spellAmbiguous_129 : decode cX11_spellAmbiguous 129 = .ok (.iload_n 2, 1) := by decide +kernel
theorem dX11_spellAmbiguous_130 : decode cX11_spellAmbiguous 130 = .ok (.iload_n 3, 1) := by decide +kernel
theorem dX11_spellAmbiguous_131 : decode cX11_spellAmbiguous 131 = .ok (.if_icmp .eq 7, 3) := by decide +kernel
theorem dX11_spellAmbiguous_134 : decode cX11_spellAmbiguous 134 = .ok (.iconst 1, 1) := by decide +kernel
theorem dX11_spellAmbiguous_135 : decode cX11_spellAmbiguous 135 = .ok (.goto 4, 3) := by decide +kernel
theorem dX11_spellAmbiguous_138 : decode cX11_spellAmbiguous 138 = .ok (.iconst 0, 1) := by decide +kernel
theorem dX11_spellAmbiguous_139 : decode cX11_spellAmbiguous 139 = .ok (.invokestatic 237, 3) := by decide +kernel
theorem dX11_spellAmbiguous_142 : decode cX11_spellAmbiguous 142 = .ok (.iaload, 1) := by decide +kernel
theorem dX11_spellAmbiguous_143 : decode cX11_spellAmbiguous 143 = .ok (.iload_n 1, 1) := by decide +kernel
theorem dX11_spellAmbiguous_144 : decode cX11_spellAmbiguous 144 = .ok (.if_icmp .ge 24, 3) := by decide +kernel
theorem dX11_spellAmbiguous_147 : decode cX11_spellAmbiguous 147 = .ok (.aload_n 0, 1) := by decide +kernel
theorem dX11_spellAmbiguous_148 : decode cX11_spellAmbiguous 148 = .ok (.getfield 45, 3) := by decide +kernel
theorem dX11_spellAmbiguous_151 : decode cX11_spellAmbiguous 151 = .ok (.iload_n 2, 1) := by decide +kernel
theorem dX11_spellAmbiguous_152 : decode cX11_spellAmbiguous 152 = .ok (.iload_n 3, 1) := by decide +kernel
theorem dX11_spellAmbiguous_153 : decode cX11_spellAmbiguous 153 = .ok (.iload_n 2, 1) := by decide +kernel
theorem dX11_spellAmbiguous_154 : decode cX11_spellAmbiguous 154 = .ok (.iload_n 3, 1) := by decide +kernel
theorem dX11_spellAmbiguous_155 : decode cX11_spellAmbiguous 155 = .ok (.if_icmp .eq 7, 3) := by decide +kernel
theorem dX11_spellAmbiguous_158 : decode cX11_spellAmbiguous 158 = .ok (.iconst 1, 1) := by decide +kernel
theorem dX11_spellAmbiguous_159 : decode cX11_spellAmbiguous 159 = .ok (.goto 4, 3) := by decide +kernel
theorem dX11_spellAmbiguous_162 : decode cX11_spellAmbiguous 162 = .ok (.iconst 0, 1) := by decide +kernel
theorem dX11_spellAmbiguous_163 : decode cX11_spellAmbiguous 163 = .ok (.invokestatic 237, 3) := by decide +kernel
theorem dX11_spellAmbiguous_166 : decode cX11_spellAmbiguous 166 = .ok (.iaload, 1) := by decide +kernel
theorem dX11_spellAmbiguous_167 : decode cX11_spellAmbiguous 167 = .ok (.istore_n 1, 1) := by decide +kernel
theorem dX11_spellAmbiguous_168 : decode cX11_spellAmbiguous 168 = .ok (.iinc 3 1, 3) := by decide +kernel
theorem dX11_spellAmbiguous_171 : decode cX11_spellAmbiguous 171 = .ok (.goto (-80), 3) := by decide +kernel
theorem dX11_spellAmbiguous_174 : decode cX11_spellAmbiguous 174 = .ok (.iinc 2 1, 3) := by decide +kernel
theorem dX11_spellAmbiguous_177 : decode cX11_spellAmbiguous 177 = .ok (.goto (-96), 3) := by decide +kernel
theorem dX11_spellAmbiguous_180 : decode cX11_spellAmbiguous 180 = .ok (.iload_n 1, 1) := by decide +kernel
theorem dX11_spellAmbiguous_181 : decode cX11_spellAmbiguous 181 = .ok (.sipush 1000, 3) := by decide +kernel
theorem dX11_spellAmbiguous_184 : decode cX11_spellAmbiguous 184 = .ok (.if_icmp .ne 6, 3) := by decide +kernel
theorem dX11_spellAmbiguous_187 : decode cX11_spellAmbiguous 187 = .ok (.bipush (-4), 2) := by decide +kernel
theorem dX11_spellAmbiguous_189 : decode cX11_spellAmbiguous 189 = .ok (.ireturn, 1) := by decide +kernel
theorem dX11_spellAmbiguous_190 : decode cX11_spellAmbiguous 190 = .ok (.aload_n 0, 1) := by decide +kernel
theorem dX11_spellAmbiguous_191 : decode cX11_spellAmbiguous 191 = .ok (.invokevirtual 265, 3) := by decide +kernel
theorem dX11_spellAmbiguous_194 : decode cX11_spellAmbiguous 194 = .ok (.iconst 0, 1) := by decide +kernel
theorem dX11_spellAmbiguous_195 : decode cX11_spellAmbiguous 195 = .ok (.istore_n 2, 1) := by decide +kernel
theorem dX11_spellAmbiguous_196 : decode cX11_spellAmbiguous 196 = .ok (.iload_n 2, 1) := by decide +kernel
theorem dX11_spellAmbiguous_197 : decode cX11_spellAmbiguous 197 = .ok (.aload_n 0, 1) := by decide +kernel
theorem dX11_spellAmbiguous_198 : decode cX11_spellAmbiguous 198 = .ok (.getfield 19, 3) := by decide +kernel
theorem dX11_spellAmbiguous_201 : decode cX11_spellAmbiguous 201 = .ok (.if_icmp .ge 94, 3) := by decide +kernel
theorem dX11_spellAmbiguous_204 : decode cX11_spellAmbiguous 204 = .ok (.iconst 0, 1) := by decide +kernel
theorem dX11_spellAmbiguous_205 : decode cX11_spellAmbiguous 205 = .ok (.istore_n 3, 1) := by decide +kernel
theorem dX11_spellAmbiguous_206 : decode cX11_spellAmbiguous 206 = .ok (.iload_n 3, 1) := by decide +kernel
theorem dX11_spellAmbiguous_207 : decode cX11_spellAmbiguous 207 = .ok (.aload_n 0, 1) := by decide +kernel
theorem dX11_spellAmbiguous_208 : decode cX11_spellAmbiguous 208 = .ok (.getfield 19, 3) := by decide +kernel
theorem dX11_spellAmbiguous_211 : decode cX11_spellAmbiguous 211 = .ok (.if_icmp .ge 78, 3) := by decide +kernel
theorem dX11_spellAmbiguous_214 : decode cX11_spellAmbiguous 214 = .ok (.aload_n 0, 1) := by decide +kernel
theorem dX11_spellAmbiguous_215 : decode cX11_spellAmbiguous 215 = .ok (.getfield 112, 3) := by decide +kernel
theorem dX11_spellAmbiguous_218 : decode cX11_spellAmbiguous 218 = .ok (.i2l, 1) := by decide +kernel
theorem dX11_spellAmbiguous_219 : decode cX11_spellAmbiguous 219 = .ok (.iload_n 2, 1) := by decide +kernel
theorem dX11_spellAmbiguous_220 : decode cX11_spellAmbiguous 220 = .ok (.invokestatic 139, 3) := by decide +kernel
theorem dX11_spellAmbiguous_223 : decode cX11_spellAmbiguous 223 = .ok (.ifCond .eq 60, 3) := by decide +kernel
theorem dX11_spellAmbiguous_226 : decode cX11_spellAmbiguous 226 = .ok (.aload_n 0, 1) := by decide +kernel
theorem dX11_spellAmbiguous_227 : decode cX11_spellAmbiguous 227 = .ok (.getfield 112, 3) := by decide +kernel
theorem dX11_spellAmbiguous_230 : decode cX11_spellAmbiguous 230 = .ok (.i2l, 1) := by decide +kernel
theorem dX11_spellAmbiguous_231 : decode cX11_spellAmbiguous 231 = .ok (.iload_n 3, 1) := by decide +kernel
theorem dX11_spellAmbiguous_232 : decode cX11_spellAmbiguous 232 = .ok (.invokestatic 139, 3) := by decide +kernel
theorem dX11_spellAmbiguous_235 : decode cX11_spellAmbiguous 235 = .ok (.ifCond .eq 48, 3) := by decide +kernel
theorem dX11_spellAmbiguous_238 : decode cX11_spellAmbiguous 238 = .ok (.aload_n 0, 1) := by decide +kernel
theorem dX11_spellAmbiguous_239 : decode cX11_spellAmbiguous 239 = .ok (.getfield 45, 3) := by decide +kernel
theorem dX11_spellAmbiguous_242 : decode cX11_spellAmbiguous 242 = .ok (.iload_n 2, 1) := by decide +kernel
theorem dX11_spellAmbiguous_243 : decode cX11_spellAmbiguous 243 = .ok (.iload_n 3, 1) := by decide +kernel
theorem dX11_spellAmbiguous_244 : decode cX11_spellAmbiguous 244 = .ok (.iload_n 2, 1) := by decide +kernel
theorem dX11_spellAmbiguous_245 : decode cX11_spellAmbiguous 245 = .ok (.iload_n 3, 1) := by decide +kernel
theorem dX11_spellAmbiguous_246 : decode cX11_spellAmbiguous 246 = .ok (.if_icmp .eq 7, 3) := by decide +kernel
theorem dX11_spellAmbiguous_249 : decode cX11_spellAmbiguous 249 = .ok (.iconst 1, 1) := by decide +kernel
theorem dX11_spellAmbiguous_250 : decode cX11_spellAmbiguous 250 = .ok (.goto 4, 3) := by decide +kernel
theorem dX11_spellAmbiguous_253 : decode cX11_spellAmbiguous 253 = .ok (.iconst 0, 1) := by decide +kernel
theorem dX11_spellAmbiguous_254 : decode cX11_spellAmbiguous 254 = .ok (.invokestatic 237, 3) := by decide +kernel
theorem dX11_spellAmbiguous_257 : decode cX11_spellAmbiguous 257 = .ok (.iaload, 1) := by decide +kernel
theorem dX11_spellAmbiguous_258 : decode cX11_spellAmbiguous 258 = .ok (.iload_n 1, 1) := by decide +kernel
theorem dX11_spellAmbiguous_259 : decode cX11_spellAmbiguous 259 = .ok (.if_icmp .ne 24, 3) := by decide +kernel
theorem dX11_spellAmbiguous_262 : decode cX11_spellAmbiguous 262 = .ok (.aload_n 0, 1) := by decide +kernel
theorem dX11_spellAmbiguous_263 : decode cX11_spellAmbiguous 263 = .ok (.getfield 54, 3) := by decide +kernel
theorem dX11_spellAmbiguous_266 : decode cX11_spellAmbiguous 266 = .ok (.iload_n 2, 1) := by decide +kernel
theorem dX11_spellAmbiguous_267 : decode cX11_spellAmbiguous 267 = .ok (.iload_n 3, 1) := by decide +kernel
theorem dX11_spellAmbiguous_268 : decode cX11_spellAmbiguous 268 = .ok (.iload_n 2, 1) := by decide +kernel
theorem dX11_spellAmbiguous_269 : decode cX11_spellAmbiguous 269 = .ok (.iload_n 3, 1) := by decide +kernel
theorem dX11_spellAmbiguous_270 : decode cX11_spellAmbiguous 270 = .ok (.if_icmp .eq 7, 3) := by decide +kernel
theorem dX11_spellAmbiguous_273 : decode cX11_spellAmbiguous 273 = .ok (.iconst 1, 1) := by decide +kernel
theorem dX11_spellAmbiguous_274 : decode cX11_spellAmbiguous 274 = .ok (.goto 4, 3) := by decide +kernel
theorem dX11_spellAmbiguous_277 : decode cX11_spellAmbiguous 277 = .ok (.iconst 0, 1) := by decide +kernel
theorem dX11_spellAmbiguous_278 : decode cX11_spellAmbiguous 278 = .ok (.invokestatic 237, 3) := by decide +kernel
theorem dX11_spellAmbiguous_281 : decode cX11_spellAmbiguous 281 = .ok (.iconst 1, 1) := by decide +kernel
theorem dX11_spellAmbiguous_282 : decode cX11_spellAmbiguous 282 = .ok (.bastore, 1) := by decide +kernel
theorem dX11_spellAmbiguous_283 : decode cX11_spellAmbiguous 283 = .ok (.iinc 3 1, 3) := by decide +kernel
theorem dX11_spellAmbiguous_286 : decode cX11_spellAmbiguous 286 = .ok (.goto (-80), 3) := by decide +kernel
theorem dX11_spellAmbiguous_289 : decode cX11_spellAmbiguous 289 = .ok (.iinc 2 1, 3) := by decide +kernel
theorem dX11_spellAmbiguous_292 : decode cX11_spellAmbiguous 292 = .ok (.goto (-96), 3) := by decide +kernel
theorem dX11_spellAmbiguous_295 : decode cX11_spellAmbiguous 295 = .ok (.aload_n 0, 1) := by decide +kernel
theorem dX11_spellAmbiguous_296 : decode cX11_spellAmbiguous 296 = .ok (.iload_n 1, 1) := by decide +kernel
theorem dX11_spellAmbiguous_297 : decode cX11_spellAmbiguous 297 = .ok (.iconst 0, 1) := by decide +kernel
theorem dX11_spellAmbiguous_298 : decode cX11_spellAmbiguous 298 = .ok (.invokevirtual 268, 3) := by decide +kernel
theorem dX11_spellAmbiguous_301 : decode cX11_spellAmbiguous 301 = .ok (.iload_n 1, 1) := by decide +kernel
theorem dX11_spellAmbiguous_302 : decode cX11_spellAmbiguous 302 = .ok (.ireturn, 1) := by decide +kernel
set_option maxRecDepth 20000 in
theorem ggX11_loopOf_X11_beginsSearch : GoodIn wsX11_loopOf wsX11_beginsSearch := goodIn_r _ [6, 7, 1, 8, 9, 10, 5, 11, 12, 13, 14, 15, 16, 17, 30, 31, 32, 33, 34, 35, 36, 37, 38, 39, 40, 41, 42, 43, 44, 45, 46, 47, 48, 49, 50, 51, 52, 53, 54, 55, 56, 57, 58, 59, 60, 61, 62, 63, 64, 65, 66, 67, 68, 69, 70, 71, 72, 73, 74, 75, 76, 77, 78, 79] (by rfl) (by decide +kernel)
set_option maxRecDepth 20000 in
theorem gX11_loopOf_X11_beginsSearch : GoodIn wsX11_loopOf (wsV RX11 259 RX11 yX11_beginsSearch wsX11_beginsSearch) := goodIn_app (goodIn_of _ (by decide +kernel)) ggX11_loopOf_X11_beginsSearch
set_option maxRecDepth 20000 in
theorem ggX11_loopOf_X11_pairNode : GoodIn wsX11_loopOf wsX11_pairNode := goodIn_r _ [20] (by decide +kernel) (by decide +kernel)
set_option maxRecDepth 20000 in
theorem gX11_loopOf_X11_pairNode : GoodIn wsX11_loopOf (va_wsS RX11 237 yX11_pairNode wsX11_pairNode) := goodIn_app (goodIn_of _ (by decide +kernel)) ggX11_loopOf_X11_pairNode
set_option maxRecDepth 20000 in
theorem ggX11_loopOf_X11_reaches : GoodIn wsX11_loopOf wsX11_reaches := goodIn_r _ [24, 1, 25, 7, 30, 31, 32, 33, 34, 35, 36, 37, 38, 39, 40, 41, 42, 43, 44, 45, 46, 47, 48, 49, 50, 51, 52, 53, 54, 55, 56, 57, 58, 59, 60, 61, 62, 63, 64, 65, 66, 67, 68, 69, 70, 71, 72, 73, 74, 75, 76, 77, 78, 79] (by decide +kernel) (by decide +kernel)
set_option maxRecDepth 20000 in
theorem gX11_loopOf_X11_reaches : GoodIn wsX11_loopOf (wsV RX11 241 RX11 yX11_reaches wsX11_reaches) := goodIn_app (goodIn_of _ (by decide +kernel)) ggX11_loopOf_X11_reaches
set_option maxRecDepth 20000 in
theorem ggX11_loopOf_X11_spreadsPairs : GoodIn wsX11_loopOf wsX11_spreadsPairs := goodIn_r _ [29, 7, 25, 1, 12, 13, 15, 16, 5, 17, 18, 19, 20, 21, 22, 23, 24, 30, 31, 32, 33, 34, 35, 36, 37, 38, 39, 40, 41, 42, 43, 44, 45, 46, 47, 48, 49, 50, 51, 52, 53, 54, 55, 56, 57, 58, 59, 60, 61, 62, 63, 64, 65, 66, 67, 68, 69, 70, 71, 72, 73, 74, 75, 76, 77, 78, 79] (by rfl) (by decide +kernel)
set_option maxRecDepth 20000 in
theorem gX11_loopOf_X11_spreadsPairs : GoodIn wsX11_loopOf (wsV RX11 262 RX11 yX11_spreadsPairs wsX11_spreadsPairs) := goodIn_app (goodIn_of _ (by decide +kernel)) ggX11_loopOf_X11_spreadsPairs
theorem dX11_loopOf_0 : decode cX11_loopOf 0 = .ok (.aload_n 0, 1) := by decide +kernel
theorem dX11_loopOf_1 : decode cX11_loopOf 1 = .ok (.invokevirtual 259, 3) := by decide +kernel
theorem dX11_loopOf_4 : decode cX11_loopOf 4 = .ok (.aload_n 0, 1) := by decide +kernel
theorem dX11_loopOf_5 : decode cX11_loopOf 5 = .ok (.iload_n 1, 1) := by decide +kernel
theorem dX11_loopOf_6 : decode cX11_loopOf 6 = .ok (.iload_n 1, 1) := by decide +kernel
theorem dX11_loopOf_7 : decode cX11_loopOf 7 = .ok (.iconst 1, 1) := by decide +kernel
theorem dX11_loopOf_8 : decode cX11_loopOf 8 = .ok (.invokestatic 237, 3) := by decide +kernel
theorem dX11_loopOf_11 : decode cX11_loopOf 11 = .ok (.iconst 0, 1) := by decide +kernel
theorem dX11_loopOf_12 : decode cX11_loopOf 12 = .ok (.invokevirtual 241, 3) := by decide +kernel
theorem dX11_loopOf_15 : decode cX11_loopOf 15 = .ok (.aload_n 0, 1) := by decide +kernel
theorem dX11_loopOf_16 : decode cX11_loopOf 16 = .ok (.invokevirtual 262, 3) := by decide +kernel
theorem dX11_loopOf_19 : decode cX11_loopOf 19 = .ok (.aload_n 0, 1) := by decide +kernel
theorem dX11_loopOf_20 : decode cX11_loopOf 20 = .ok (.getfield 45, 3) := by decide +kernel
theorem dX11_loopOf_23 : decode cX11_loopOf 23 = .ok (.iload_n 1, 1) := by decide +kernel
theorem dX11_loopOf_24 : decode cX11_loopOf 24 = .ok (.iload_n 1, 1) := by decide +kernel
theorem dX11_loopOf_25 : decode cX11_loopOf 25 = .ok (.iconst 0, 1) := by decide +kernel
theorem dX11_loopOf_26 : decode cX11_loopOf 26 = .ok (.invokestatic 237, 3) := by decide +kernel
theorem dX11_loopOf_29 : decode cX11_loopOf 29 = .ok (.iaload, 1) := by decide +kernel
theorem dX11_loopOf_30 : decode cX11_loopOf 30 = .ok (.ireturn, 1) := by decide +kernel
theorem dX11_triple_0 : decode cX11_triple 0 = .ok (.bipush 36, 2) := by decide +kernel
theorem dX11_triple_2 : decode cX11_triple 2 = .ok (.iload_n 0, 1) := by decide +kernel
theorem dX11_triple_3 : decode cX11_triple 3 = .ok (.imul, 1) := by decide +kernel
theorem dX11_triple_4 : decode cX11_triple 4 = .ok (.bipush 6, 2) := by decide +kernel
theorem dX11_triple_6 : decode cX11_triple 6 = .ok (.iload_n 1, 1) := by decide +kernel
theorem dX11_triple_7 : decode cX11_triple 7 = .ok (.imul, 1) := by decide +kernel
theorem dX11_triple_8 : decode cX11_triple 8 = .ok (.iadd, 1) := by decide +kernel
theorem dX11_triple_9 : decode cX11_triple 9 = .ok (.iload_n 2, 1) := by decide +kernel
theorem dX11_triple_10 : decode cX11_triple 10 = .ok (.iadd, 1) := by decide +kernel
theorem dX11_triple_11 : decode cX11_triple 11 = .ok (.ireturn, 1) := by decide +kernel
set_option maxRecDepth 20000 in
theorem ggX11_splitOf_X11_beginsSearch : GoodIn wsX11_splitOf wsX11_beginsSearch := goodIn_r _ [9, 1, 3, 10, 11, 12, 8, 13, 4, 14, 15, 16, 17, 18, 26, 27, 28, 29, 30, 31, 32, 33, 34, 35, 36, 37, 38, 39, 40, 41, 42, 43, 44, 45, 46, 47, 48, 49, 50, 51, 52, 53, 54, 55, 56, 57, 58, 59, 60, 61, 62, 63, 64, 65, 66, 67, 68, 69, 70, 71, 72, 73, 74, 75] (by rfl) (by decide +kernel)
set_option maxRecDepth 20000 in
theorem gX11_splitOf_X11_beginsSearch : GoodIn wsX11_splitOf (wsV RX11 259 RX11 yX11_beginsSearch wsX11_beginsSearch) := goodIn_app (goodIn_of _ (by decide +kernel)) ggX11_splitOf_X11_beginsSearch
set_option maxRecDepth 20000 in
theorem ggX11_splitOf_X11_triple : GoodIn wsX11_splitOf wsX11_triple := goodIn_r _ [21] (by decide +kernel) (by decide +kernel)
set_option maxRecDepth 20000 in
theorem gX11_splitOf_X11_triple : GoodIn wsX11_splitOf (va_wsS RX11 272 yX11_triple wsX11_triple) := goodIn_app (goodIn_of _ (by decide +kernel)) ggX11_splitOf_X11_triple
set_option maxRecDepth 20000 in
theorem ggX11_splitOf_X11_reaches : GoodIn wsX11_splitOf wsX11_reaches := goodIn_r _ [25, 3, 2, 1, 26, 27, 28, 29, 30, 31, 32, 33, 34, 35, 36, 37, 38, 39, 40, 41, 42, 43, 44, 45, 46, 47, 48, 49, 50, 51, 52, 53, 54, 55, 56, 57, 58, 59, 60, 61, 62, 63, 64, 65, 66, 67, 68, 69, 70, 71, 72, 73, 74, 75] (by decide +kernel) (by decide +kernel)
set_option maxRecDepth 20000 in
theorem gX11_splitOf_X11_reaches : GoodIn wsX11_splitOf (wsV RX11 241 RX11 yX11_reaches wsX11_reaches) := goodIn_app (goodIn_of _ (by decide +kernel)) ggX11_splitOf_X11_reaches
set_option maxRecDepth 20000 in
theorem ggX11_splitOf_X11_has : GoodIn wsX11_splitOf wsX11_has := goodIn_r _ [18] (by decide +kernel) (by decide +kernel)
set_option maxRecDepth 20000 in
theorem gX11_splitOf_X11_has : GoodIn wsX11_splitOf (va_wsS RX11 139 yX11_has wsX11_has) := goodIn_app (goodIn_of _ (by decide +kernel)) ggX11_splitOf_X11_has
theorem dX11_splitOf_0 : decode cX11_splitOf 0 = .ok (.aload_n 0, 1) := by decide +kernel
theorem dX11_splitOf_1 : decode cX11_splitOf 1 = .ok (.invokevirtual 259, 3) := by decide +kernel
theorem dX11_splitOf_4 : decode cX11_splitOf 4 = .ok (.aload_n 0, 1) := by decide +kernel
theorem dX11_splitOf_5 : decode cX11_splitOf 5 = .ok (.iload_n 1, 1) := by decide +kernel
theorem dX11_splitOf_6 : decode cX11_splitOf 6 = .ok (.iload_n 2, 1) := by decide +kernel
theorem dX11_splitOf_7 : decode cX11_splitOf 7 = .ok (.iload_n 2, 1) := by decide +kernel
theorem dX11_splitOf_8 : decode cX11_splitOf 8 = .ok (.invokestatic 272, 3) := by decide +kernel
theorem dX11_splitOf_11 : decode cX11_splitOf 11 = .ok (.iconst 0, 1) := by decide +kernel
theorem dX11_splitOf_12 : decode cX11_splitOf 12 = .ok (.invokevirtual 241, 3) := by decide +kernel
theorem dX11_splitOf_15 : decode cX11_splitOf 15 = .ok (.iconst 0, 1) := by decide +kernel
theorem dX11_splitOf_16 : decode cX11_splitOf 16 = .ok (.istore_n 3, 1) := by decide +kernel
theorem dX11_splitOf_17 : decode cX11_splitOf 17 = .ok (.iload_n 3, 1) := by decide +kernel
theorem dX11_splitOf_18 : decode cX11_splitOf 18 = .ok (.aload_n 0, 1) := by decide +kernel
theorem dX11_splitOf_19 : decode cX11_splitOf 19 = .ok (.getfield 234, 3) := by decide +kernel
theorem dX11_splitOf_22 : decode cX11_splitOf 22 = .ok (.if_icmp .ge 170, 3) := by decide +kernel
theorem dX11_splitOf_25 : decode cX11_splitOf 25 = .ok (.aload_n 0, 1) := by decide +kernel
theorem dX11_splitOf_26 : decode cX11_splitOf 26 = .ok (.getfield 48, 3) := by decide +kernel
theorem dX11_splitOf_29 : decode cX11_splitOf 29 = .ok (.iload_n 3, 1) := by decide +kernel
theorem dX11_splitOf_30 : decode cX11_splitOf 30 = .ok (.iaload, 1) := by decide +kernel
theorem dX11_splitOf_31 : decode cX11_splitOf 31 = .ok (.istore 4, 2) := by decide +kernel
theorem dX11_splitOf_33 : decode cX11_splitOf 33 = .ok (.aload_n 0, 1) := by decide +kernel
theorem dX11_splitOf_34 : decode cX11_splitOf 34 = .ok (.getfield 45, 3) := by decide +kernel
theorem dX11_splitOf_37 : decode cX11_splitOf 37 = .ok (.iload 4, 2) := by decide +kernel
theorem dX11_splitOf_39 : decode cX11_splitOf 39 = .ok (.iaload, 1) := by decide +kernel
theorem dX11_splitOf_40 : decode cX11_splitOf 40 = .ok (.iconst 1, 1) := by decide +kernel
theorem dX11_splitOf_41 : decode cX11_splitOf 41 = .ok (.iadd, 1) := by decide +kernel
theorem dX11_splitOf_42 : decode cX11_splitOf 42 = .ok (.istore 5, 2) := by decide +kernel
theorem dX11_splitOf_44 : decode cX11_splitOf 44 = .ok (.iconst 0, 1) := by decide +kernel
theorem dX11_splitOf_45 : decode cX11_splitOf 45 = .ok (.istore 6, 2) := by decide +kernel
theorem dX11_splitOf_47 : decode cX11_splitOf 47 = .ok (.iload 6, 2) := by decide +kernel
theorem dX11_splitOf_49 : decode cX11_splitOf 49 = .ok (.iconst 3, 1) := by decide +kernel
theorem dX11_splitOf_50 : decode cX11_splitOf 50 = .ok (.if_icmp .ge 136, 3) := by decide +kernel
theorem dX11_splitOf_53 : decode cX11_splitOf 53 = .ok (.aload_n 0, 1) := by decide +kernel
theorem dX11_splitOf_54 : decode cX11_splitOf 54 = .ok (.getfield 13, 3) := by decide +kernel
theorem dX11_splitOf_57 : decode cX11_splitOf 57 = .ok (.bipush 6, 2) := by decide +kernel
theorem dX11_splitOf_59 : decode cX11_splitOf 59 = .ok (.iload 6, 2) := by decide +kernel
theorem dX11_splitOf_61 : decode cX11_splitOf 61 = .ok (.imul, 1) := by decide +kernel
theorem dX11_splitOf_62 : decode cX11_splitOf 62 = .ok (.iload 4, 2) := by decide +kernel
theorem dX11_splitOf_64 : decode cX11_splitOf 64 = .ok (.bipush 36, 2) := by decide +kernel
theorem dX11_splitOf_66 : decode cX11_splitOf 66 = .ok (.idiv, 1) := by decide +kernel
theorem dX11_splitOf_67 : decode cX11_splitOf 67 = .ok (.iadd, 1) := by decide +kernel
theorem dX11_splitOf_68 : decode cX11_splitOf 68 = .ok (.iaload, 1) := by decide +kernel
theorem dX11_splitOf_69 : decode cX11_splitOf 69 = .ok (.istore 7, 2) := by decide +kernel
theorem dX11_splitOf_71 : decode cX11_splitOf 71 = .ok (.aload_n 0, 1) := by decide +kernel
theorem dX11_splitOf_72 : decode cX11_splitOf 72 = .ok (.getfield 13, 3) := by decide +kernel
theorem dX11_splitOf_75 : decode cX11_splitOf 75 = .ok (.bipush 6, 2) := by decide +kernel
theorem dX11_splitOf_77 : decode cX11_splitOf 77 = .ok (.iload 6, 2) := by decide +kernel
theorem dX11_splitOf_79 : decode cX11_splitOf 79 = .ok (.imul, 1) := by decide +kernel
theorem dX11_splitOf_80 : decode cX11_splitOf 80 = .ok (.iload 4, 2) := by decide +kernel
theorem dX11_splitOf_82 : decode cX11_splitOf 82 = .ok (.bipush 6, 2) := by decide +kernel
theorem dX11_splitOf_84 : decode cX11_splitOf 84 = .ok (.idiv, 1) := by decide +kernel
theorem dX11_splitOf_85 : decode cX11_splitOf 85 = .ok (.bipush 6, 2) := by decide +kernel
theorem dX11_splitOf_87 : decode cX11_splitOf 87 = .ok (.irem, 1) := by decide +kernel
theorem dX11_splitOf_88 : decode cX11_splitOf 88 = .ok (.iadd, 1) := by decide +kernel
theorem dX11_splitOf_89 : decode cX11_splitOf 89 = .ok (.iaload, 1) := by decide +kernel
theorem dX11_splitOf_90 : decode cX11_splitOf 90 = .ok (.istore 8, 2) := by decide +kernel
theorem dX11_splitOf_92 : decode cX11_splitOf 92 = .ok (.aload_n 0, 1) := by decide +kernel
theorem dX11_splitOf_93 : decode cX11_splitOf 93 = .ok (.getfield 13, 3) := by decide +kernel
theorem dX11_splitOf_96 : decode cX11_splitOf 96 = .ok (.bipush 6, 2) := by decide +kernel
theorem dX11_splitOf_98 : decode cX11_splitOf 98 = .ok (.iload 6, 2) := by decide +kernel
theorem dX11_splitOf_100 : decode cX11_splitOf 100 = .ok (.imul, 1) := by decide +kernel
theorem dX11_splitOf_101 : decode cX11_splitOf 101 = .ok (.iload 4, 2) := by decide +kernel
theorem dX11_splitOf_103 : decode cX11_splitOf 103 = .ok (.bipush 6, 2) := by decide +kernel
theorem dX11_splitOf_105 : decode cX11_splitOf 105 = .ok (.irem, 1) := by decide +kernel
theorem dX11_splitOf_106 : decode cX11_splitOf 106 = .ok (.iadd, 1) := by decide +kernel
theorem dX11_splitOf_107 : decode cX11_splitOf 107 = .ok (.iaload, 1) := by decide +kernel
theorem dX11_splitOf_108 : decode cX11_splitOf 108 = .ok (.istore 9, 2) := by decide +kernel
theorem dX11_splitOf_110 : decode cX11_splitOf 110 = .ok (.iconst 0, 1) := by decide +kernel
theorem dX11_splitOf_111 : decode cX11_splitOf 111 = .ok (.istore 10, 2) := by decide +kernel
theorem dX11_splitOf_113 : decode cX11_splitOf 113 = .ok (.iload 10, 2) := by decide +kernel
theorem dX11_splitOf_115 : decode cX11_splitOf 115 = .ok (.sipush 216, 3) := by decide +kernel
theorem dX11_splitOf_118 : decode cX11_splitOf 118 = .ok (.if_icmp .ge 62, 3) := by decide +kernel
theorem dX11_splitOf_121 : decode cX11_splitOf 121 = .ok (.iload 7, 2) := by decide +kernel
theorem dX11_splitOf_123 : decode cX11_splitOf 123 = .ok (.i2l, 1) := by decide +kernel
theorem dX11_splitOf_124 : decode cX11_splitOf 124 = .ok (.iload 10, 2) := by decide +kernel
theorem dX11_splitOf_126 : decode cX11_splitOf 126 = .ok (.bipush 36, 2) := by decide +kernel
theorem dX11_splitOf_128 : decode cX11_splitOf 128 = .ok (.idiv, 1) := by decide +kernel
theorem dX11_splitOf_129 : decode cX11_splitOf 129 = .ok (.invokestatic 139, 3) := by decide +kernel
theorem dX11_splitOf_132 : decode cX11_splitOf 132 = .ok (.ifCond .eq 42, 3) := by decide +kernel
theorem dX11_splitOf_135 : decode cX11_splitOf 135 = .ok (.iload 8, 2) := by decide +kernel
theorem dX11_splitOf_137 : decode cX11_splitOf 137 = .ok (.i2l, 1) := by decide +kernel
theorem dX11_splitOf_138 : decode cX11_splitOf 138 = .ok (.iload 10, 2) := by decide +kernel
theorem dX11_splitOf_140 : decode cX11_splitOf 140 = .ok (.bipush 6, 2) := by decide +kernel
theorem dX11_splitOf_142 : decode cX11_splitOf 142 = .ok (.idiv, 1) := by decide +kernel
theorem dX11_splitOf_143 : decode cX11_splitOf 143 = .ok (.bipush 6, 2) := by decide +kernel
theorem dX11_splitOf_145 : decode cX11_splitOf 145 = .ok (.irem, 1) := by decide +kernel
theorem dX11_splitOf_146 : decode cX11_splitOf 146 = .ok (.invokestatic 139, 3) := by decide +kernel
theorem dX11_splitOf_149 : decode cX11_splitOf 149 = .ok (.ifCond .eq 25, 3) := by decide +kernel
theorem dX11_splitOf_152 : decode cX11_splitOf 152 = .ok (.iload 9, 2) := by decide +kernel
theorem dX11_splitOf_154 : decode cX11_splitOf 154 = .ok (.i2l, 1) := by decide +kernel
theorem dX11_splitOf_155 : decode cX11_splitOf 155 = .ok (.iload 10, 2) := by decide +kernel
theorem dX11_splitOf_157 : decode cX11_splitOf 157 = .ok (.bipush 6, 2) := by decide +kernel
theorem dX11_splitOf_159 : decode cX11_splitOf 159 = .ok (.irem, 1) := by decide +kernel
theorem dX11_splitOf_160 : decode cX11_splitOf 160 = .ok (.invokestatic 139, 3) := by decide +kernel
theorem dX11_splitOf_163 : decode cX11_splitOf 163 = .ok (.ifCond .eq 11, 3) := by decide +kernel
theorem dX11_splitOf_166 : decode cX11_splitOf 166 = .ok (.aload_n 0, 1) := by decide +kernel
theorem dX11_splitOf_167 : decode cX11_splitOf 167 = .ok (.iload 10, 2) := by decide +kernel
theorem dX11_splitOf_169 : decode cX11_splitOf 169 = .ok (.iload 5, 2) := by decide +kernel
theorem dX11_splitOf_171 : decode cX11_splitOf 171 = .ok (.invokevirtual 241, 3) := by decide +kernel
theorem dX11_splitOf_174 : decode cX11_splitOf 174 = .ok (.iinc 10 1, 3) := by decide +kernel
theorem dX11_splitOf_177 : decode cX11_splitOf 177 = .ok (.goto (-64), 3) := by decide +kernel
theorem dX11_splitOf_180 : decode cX11_splitOf 180 = .ok (.iinc 6 1, 3) := by decide +kernel
theorem dX11_splitOf_183 : decode cX11_splitOf 183 = .ok (.goto (-136), 3) := by decide +kernel
theorem dX11_splitOf_186 : decode cX11_splitOf 186 = .ok (.iinc 3 1, 3) := by decide +kernel
theorem dX11_splitOf_189 : decode cX11_splitOf 189 = .ok (.goto (-172), 3) := by decide +kernel
theorem dX11_splitOf_192 : decode cX11_splitOf 192 = .ok (.aload_n 0, 1) := by decide +kernel
theorem dX11_splitOf_193 : decode cX11_splitOf 193 = .ok (.getfield 45, 3) := by decide +kernel
theorem dX11_splitOf_196 : decode cX11_splitOf 196 = .ok (.iload_n 1, 1) := by decide +kernel
theorem dX11_splitOf_197 : decode cX11_splitOf 197 = .ok (.iload_n 1, 1) := by decide +kernel
theorem dX11_splitOf_198 : decode cX11_splitOf 198 = .ok (.iload_n 2, 1) := by decide +kernel
theorem dX11_splitOf_199 : decode cX11_splitOf 199 = .ok (.invokestatic 272, 3) := by decide +kernel
theorem dX11_splitOf_202 : decode cX11_splitOf 202 = .ok (.iaload, 1) := by decide +kernel
