set_option maxRecDepth 20000 in
theorem gX11_witnessState_X11_finds : GoodIn wsX11_witnessState (wsV RX11 294 RX11 yX11_finds wsX11_finds) := goodIn_app (goodIn_of _ (by decide +kernel)) ggX11_witnessState_X11_finds
set_option maxRecDepth 20000 in
theorem ggX11_witnessState_X11_lowest : GoodIn wsX11_witnessState wsX11_lowest := goodIn_r _ [98, 31, 32, 6, 33] (by decide +kernel) (by decide +kernel)
set_option maxRecDepth 20000 in
theorem gX11_witnessState_X11_lowest : GoodIn wsX11_witnessState (va_wsS RX11 312 yX11_lowest wsX11_lowest) := goodIn_app (goodIn_of _ (by decide +kernel)) ggX11_witnessState_X11_lowest
set_option maxRecDepth 20000 in
theorem ggX11_witnessState_X11_firstSplit : GoodIn wsX11_witnessState wsX11_firstSplit := goodIn_r _ [102, 14, 103, 104, 105, 106, 107, 108, 109, 110, 111, 112, 113, 114, 115, 116, 117, 118, 119, 120, 121, 122, 123, 124, 125, 126, 127, 128, 129, 130, 131, 132, 133, 134, 135, 136, 137, 138, 139, 140, 141, 142, 143, 144, 145, 146, 147, 148, 149, 150, 151, 152] (by decide +kernel) (by decide +kernel)
set_option maxRecDepth 20000 in
theorem gX11_witnessState_X11_firstSplit : GoodIn wsX11_witnessState (wsV RX11 315 RX11 yX11_firstSplit wsX11_firstSplit) := goodIn_app (goodIn_of _ (by decide +kernel)) ggX11_witnessState_X11_firstSplit
theorem dX11_witnessState_0 : decode cX11_witnessState 0 = .ok (.iload_n 1, 1) := by decide +kernel
theorem dX11_witnessState_1 : decode cX11_witnessState 1 = .ok (.i2l, 1) := by decide +kernel
theorem dX11_witnessState_2 : decode cX11_witnessState 2 = .ok (.lconst 1, 1) := by decide +kernel
theorem dX11_witnessState_3 : decode cX11_witnessState 3 = .ok (.ldc2_w 310, 3) := by decide +kernel
theorem dX11_witnessState_6 : decode cX11_witnessState 6 = .ok (.invokestatic 124, 3) := by decide +kernel
theorem dX11_witnessState_9 : decode cX11_witnessState 9 = .ok (.ifCond .ne 5, 3) := by decide +kernel
theorem dX11_witnessState_12 : decode cX11_witnessState 12 = .ok (.iconst (-1), 1) := by decide +kernel
theorem dX11_witnessState_13 : decode cX11_witnessState 13 = .ok (.ireturn, 1) := by decide +kernel
theorem dX11_witnessState_14 : decode cX11_witnessState 14 = .ok (.aload_n 0, 1) := by decide +kernel
theorem dX11_witnessState_15 : decode cX11_witnessState 15 = .ok (.invokevirtual 294, 3) := by decide +kernel
theorem dX11_witnessState_18 : decode cX11_witnessState 18 = .ok (.iload_n 1, 1) := by decide +kernel
theorem dX11_witnessState_19 : decode cX11_witnessState 19 = .ok (.iconst 1, 1) := by decide +kernel
theorem dX11_witnessState_20 : decode cX11_witnessState 20 = .ok (.if_icmp .ne 23, 3) := by decide +kernel
theorem dX11_witnessState_23 : decode cX11_witnessState 23 = .ok (.aload_n 0, 1) := by decide +kernel
theorem dX11_witnessState_24 : decode cX11_witnessState 24 = .ok (.getfield 282, 3) := by decide +kernel
theorem dX11_witnessState_27 : decode cX11_witnessState 27 = .ok (.ifCond .ne 8, 3) := by decide +kernel
theorem dX11_witnessState_30 : decode cX11_witnessState 30 = .ok (.bipush (-4), 2) := by decide +kernel
theorem dX11_witnessState_32 : decode cX11_witnessState 32 = .ok (.goto 10, 3) := by decide +kernel
theorem dX11_witnessState_35 : decode cX11_witnessState 35 = .ok (.aload_n 0, 1) := by decide +kernel
theorem dX11_witnessState_36 : decode cX11_witnessState 36 = .ok (.getfield 282, 3) := by decide +kernel
theorem dX11_witnessState_39 : decode cX11_witnessState 39 = .ok (.invokestatic 312, 3) := by decide +kernel
theorem dX11_witnessState_42 : decode cX11_witnessState 42 = .ok (.ireturn, 1) := by decide +kernel
theorem dX11_witnessState_43 : decode cX11_witnessState 43 = .ok (.aload_n 0, 1) := by decide +kernel
theorem dX11_witnessState_44 : decode cX11_witnessState 44 = .ok (.getfield 285, 3) := by decide +kernel
theorem dX11_witnessState_47 : decode cX11_witnessState 47 = .ok (.ifCond .ne 8, 3) := by decide +kernel
theorem dX11_witnessState_50 : decode cX11_witnessState 50 = .ok (.bipush (-4), 2) := by decide +kernel
theorem dX11_witnessState_52 : decode cX11_witnessState 52 = .ok (.goto 21, 3) := by decide +kernel
theorem dX11_witnessState_55 : decode cX11_witnessState 55 = .ok (.aload_n 0, 1) := by decide +kernel
theorem dX11_witnessState_56 : decode cX11_witnessState 56 = .ok (.invokevirtual 315, 3) := by decide +kernel
theorem dX11_witnessState_59 : decode cX11_witnessState 59 = .ok (.bipush 6, 2) := by decide +kernel
theorem dX11_witnessState_61 : decode cX11_witnessState 61 = .ok (.idiv, 1) := by decide +kernel
theorem dX11_witnessState_62 : decode cX11_witnessState 62 = .ok (.bipush 8, 2) := by decide +kernel
theorem dX11_witnessState_64 : decode cX11_witnessState 64 = .ok (.imul, 1) := by decide +kernel
theorem dX11_witnessState_65 : decode cX11_witnessState 65 = .ok (.aload_n 0, 1) := by decide +kernel
theorem dX11_witnessState_66 : decode cX11_witnessState 66 = .ok (.invokevirtual 315, 3) := by decide +kernel
theorem dX11_witnessState_69 : decode cX11_witnessState 69 = .ok (.bipush 6, 2) := by decide +kernel
theorem dX11_witnessState_71 : decode cX11_witnessState 71 = .ok (.irem, 1) := by decide +kernel
theorem dX11_witnessState_72 : decode cX11_witnessState 72 = .ok (.iadd, 1) := by decide +kernel
theorem dX11_witnessState_73 : decode cX11_witnessState 73 = .ok (.ireturn, 1) := by decide +kernel
set_option maxRecDepth 20000 in
theorem ggX11_findLightest_X11_has : GoodIn wsX11_findLightest wsX11_has := goodIn_r _ [11] (by decide +kernel) (by decide +kernel)
set_option maxRecDepth 20000 in
theorem gX11_findLightest_X11_has : GoodIn wsX11_findLightest (va_wsS RX11 139 yX11_has wsX11_has) := goodIn_app (goodIn_of _ (by decide +kernel)) ggX11_findLightest_X11_has
theorem dX11_findLightest_0 : decode cX11_findLightest 0 = .ok (.iconst 0, 1) := by decide +kernel
theorem dX11_findLightest_1 : decode cX11_findLightest 1 = .ok (.istore_n 1, 1) := by decide +kernel
theorem dX11_findLightest_2 : decode cX11_findLightest 2 = .ok (.iload_n 1, 1) := by decide +kernel
theorem dX11_findLightest_3 : decode cX11_findLightest 3 = .ok (.bipush 6, 2) := by decide +kernel
theorem dX11_findLightest_5 : decode cX11_findLightest 5 = .ok (.if_icmp .ge 34, 3) := by decide +kernel
theorem dX11_findLightest_8 : decode cX11_findLightest 8 = .ok (.aload_n 0, 1) := by decide +kernel
theorem dX11_findLightest_9 : decode cX11_findLightest 9 = .ok (.getfield 73, 3) := by decide +kernel
theorem dX11_findLightest_12 : decode cX11_findLightest 12 = .ok (.iload_n 1, 1) := by decide +kernel
theorem dX11_findLightest_13 : decode cX11_findLightest 13 = .ok (.aload_n 0, 1) := by decide +kernel
theorem dX11_findLightest_14 : decode cX11_findLightest 14 = .ok (.getfield 115, 3) := by decide +kernel
theorem dX11_findLightest_17 : decode cX11_findLightest 17 = .ok (.i2l, 1) := by decide +kernel
theorem dX11_findLightest_18 : decode cX11_findLightest 18 = .ok (.iload_n 1, 1) := by decide +kernel
theorem dX11_findLightest_19 : decode cX11_findLightest 19 = .ok (.invokestatic 139, 3) := by decide +kernel
theorem dX11_findLightest_22 : decode cX11_findLightest 22 = .ok (.ifCond .eq 7, 3) := by decide +kernel
theorem dX11_findLightest_25 : decode cX11_findLightest 25 = .ok (.iconst 0, 1) := by decide +kernel
theorem dX11_findLightest_26 : decode cX11_findLightest 26 = .ok (.goto 6, 3) := by decide +kernel
theorem dX11_findLightest_29 : decode cX11_findLightest 29 = .ok (.ldc_w 318, 3) := by decide +kernel
theorem dX11_findLightest_32 : decode cX11_findLightest 32 = .ok (.iastore, 1) := by decide +kernel
theorem dX11_findLightest_33 : decode cX11_findLightest 33 = .ok (.iinc 1 1, 3) := by decide +kernel
theorem dX11_findLightest_36 : decode cX11_findLightest 36 = .ok (.goto (-34), 3) := by decide +kernel
theorem dX11_findLightest_39 : decode cX11_findLightest 39 = .ok (.iconst 0, 1) := by decide +kernel
theorem dX11_findLightest_40 : decode cX11_findLightest 40 = .ok (.istore_n 1, 1) := by decide +kernel
theorem dX11_findLightest_41 : decode cX11_findLightest 41 = .ok (.iload_n 1, 1) := by decide +kernel
theorem dX11_findLightest_42 : decode cX11_findLightest 42 = .ok (.bipush 12, 2) := by decide +kernel
theorem dX11_findLightest_44 : decode cX11_findLightest 44 = .ok (.if_icmp .ge 116, 3) := by decide +kernel
theorem dX11_findLightest_47 : decode cX11_findLightest 47 = .ok (.iconst 0, 1) := by decide +kernel
theorem dX11_findLightest_48 : decode cX11_findLightest 48 = .ok (.istore_n 2, 1) := by decide +kernel
theorem dX11_findLightest_49 : decode cX11_findLightest 49 = .ok (.iload_n 2, 1) := by decide +kernel
theorem dX11_findLightest_50 : decode cX11_findLightest 50 = .ok (.aload_n 0, 1) := by decide +kernel
theorem dX11_findLightest_51 : decode cX11_findLightest 51 = .ok (.getfield 19, 3) := by decide +kernel
theorem dX11_findLightest_54 : decode cX11_findLightest 54 = .ok (.if_icmp .ge 100, 3) := by decide +kernel
theorem dX11_findLightest_57 : decode cX11_findLightest 57 = .ok (.iconst 0, 1) := by decide +kernel
theorem dX11_findLightest_58 : decode cX11_findLightest 58 = .ok (.istore_n 3, 1) := by decide +kernel
theorem dX11_findLightest_59 : decode cX11_findLightest 59 = .ok (.iload_n 3, 1) := by decide +kernel
theorem dX11_findLightest_60 : decode cX11_findLightest 60 = .ok (.iconst 3, 1) := by decide +kernel
theorem dX11_findLightest_61 : decode cX11_findLightest 61 = .ok (.if_icmp .ge 87, 3) := by decide +kernel
theorem dX11_findLightest_64 : decode cX11_findLightest 64 = .ok (.iconst 0, 1) := by decide +kernel
theorem dX11_findLightest_65 : decode cX11_findLightest 65 = .ok (.istore 4, 2) := by decide +kernel
theorem dX11_findLightest_67 : decode cX11_findLightest 67 = .ok (.iload 4, 2) := by decide +kernel
theorem dX11_findLightest_69 : decode cX11_findLightest 69 = .ok (.aload_n 0, 1) := by decide +kernel
theorem dX11_findLightest_70 : decode cX11_findLightest 70 = .ok (.getfield 19, 3) := by decide +kernel
theorem dX11_findLightest_73 : decode cX11_findLightest 73 = .ok (.if_icmp .ge 69, 3) := by decide +kernel
theorem dX11_findLightest_76 : decode cX11_findLightest 76 = .ok (.aload_n 0, 1) := by decide +kernel
theorem dX11_findLightest_77 : decode cX11_findLightest 77 = .ok (.getfield 73, 3) := by decide +kernel
theorem dX11_findLightest_80 : decode cX11_findLightest 80 = .ok (.iload 4, 2) := by decide +kernel
theorem dX11_findLightest_82 : decode cX11_findLightest 82 = .ok (.iaload, 1) := by decide +kernel
theorem dX11_findLightest_83 : decode cX11_findLightest 83 = .ok (.bipush 16, 2) := by decide +kernel
theorem dX11_findLightest_85 : decode cX11_findLightest 85 = .ok (.aload_n 0, 1) := by decide +kernel
theorem dX11_findLightest_86 : decode cX11_findLightest 86 = .ok (.getfield 16, 3) := by decide +kernel
theorem dX11_findLightest_89 : decode cX11_findLightest 89 = .ok (.iload_n 3, 1) := by decide +kernel
theorem dX11_findLightest_90 : decode cX11_findLightest 90 = .ok (.iaload, 1) := by decide +kernel
theorem dX11_findLightest_91 : decode cX11_findLightest 91 = .ok (.imul, 1) := by decide +kernel
theorem dX11_findLightest_92 : decode cX11_findLightest 92 = .ok (.iadd, 1) := by decide +kernel
theorem dX11_findLightest_93 : decode cX11_findLightest 93 = .ok (.iconst 1, 1) := by decide +kernel
theorem dX11_findLightest_94 : decode cX11_findLightest 94 = .ok (.iadd, 1) := by decide +kernel
theorem dX11_findLightest_95 : decode cX11_findLightest 95 = .ok (.istore 5, 2) := by decide +kernel
theorem dX11_findLightest_97 : decode cX11_findLightest 97 = .ok (.aload_n 0, 1) := by decide +kernel
theorem dX11_findLightest_98 : decode cX11_findLightest 98 = .ok (.getfield 7, 3) := by decide +kernel
theorem dX11_findLightest_101 : decode cX11_findLightest 101 = .ok (.bipush 6, 2) := by decide +kernel
theorem dX11_findLightest_103 : decode cX11_findLightest 103 = .ok (.iload_n 3, 1) := by decide +kernel
theorem dX11_findLightest_104 : decode cX11_findLightest 104 = .ok (.imul, 1) := by decide +kernel
theorem dX11_findLightest_105 : decode cX11_findLightest 105 = .ok (.iload_n 2, 1) := by decide +kernel
theorem dX11_findLightest_106 : decode cX11_findLightest 106 = .ok (.iadd, 1) := by decide +kernel
theorem dX11_findLightest_107 : decode cX11_findLightest 107 = .ok (.iaload, 1) := by decide +kernel
theorem dX11_findLightest_108 : decode cX11_findLightest 108 = .ok (.i2l, 1) := by decide +kernel
theorem dX11_findLightest_109 : decode cX11_findLightest 109 = .ok (.iload 4, 2) := by decide +kernel
theorem dX11_findLightest_111 : decode cX11_findLightest 111 = .ok (.invokestatic 139, 3) := by decide +kernel
theorem dX11_findLightest_114 : decode cX11_findLightest 114 = .ok (.ifCond .eq 22, 3) := by decide +kernel
theorem dX11_findLightest_117 : decode cX11_findLightest 117 = .ok (.iload 5, 2) := by decide +kernel
theorem dX11_findLightest_119 : decode cX11_findLightest 119 = .ok (.aload_n 0, 1) := by decide +kernel
theorem dX11_findLightest_120 : decode cX11_findLightest 120 = .ok (.getfield 73, 3) := by decide +kernel
theorem dX11_findLightest_123 : decode cX11_findLightest 123 = .ok (.iload_n 2, 1) := by decide +kernel
theorem dX11_findLightest_124 : decode cX11_findLightest 124 = .ok (.iaload, 1) := by decide +kernel
theorem dX11_findLightest_125 : decode cX11_findLightest 125 = .ok (.if_icmp .ge 11, 3) := by decide +kernel
theorem dX11_findLightest_128 : decode cX11_findLightest 128 = .ok (.aload_n 0, 1) := by decide +kernel
theorem dX11_findLightest_129 : decode cX11_findLightest 129 = .ok (.getfield 73, 3) := by decide +kernel
theorem dX11_findLightest_132 : decode cX11_findLightest 132 = .ok (.iload_n 2, 1) := by decide +kernel
theorem dX11_findLightest_133 : decode cX11_findLightest 133 = .ok (.iload 5, 2) := by decide +kernel
theorem dX11_findLightest_135 : decode cX11_findLightest 135 = .ok (.iastore, 1) := by decide +kernel
theorem dX11_findLightest_136 : decode cX11_findLightest 136 = .ok (.iinc 4 1, 3) := by decide +kernel
theorem dX11_findLightest_139 : decode cX11_findLightest 139 = .ok (.goto (-72), 3) := by decide +kernel
theorem dX11_findLightest_142 : decode cX11_findLightest 142 = .ok (.iinc 3 1, 3) := by decide +kernel
theorem dX11_findLightest_145 : decode cX11_findLightest 145 = .ok (.goto (-86), 3) := by decide +kernel
theorem dX11_findLightest_148 : decode cX11_findLightest 148 = .ok (.iinc 2 1, 3) := by decide +kernel
theorem dX11_findLightest_151 : decode cX11_findLightest 151 = .ok (.goto (-102), 3) := by decide +kernel
theorem dX11_findLightest_154 : decode cX11_findLightest 154 = .ok (.iinc 1 1, 3) := by decide +kernel
theorem dX11_findLightest_157 : decode cX11_findLightest 157 = .ok (.goto (-116), 3) := by decide +kernel
theorem dX11_findLightest_160 : decode cX11_findLightest 160 = .ok (.ldc_w 318, 3) := by decide +kernel
theorem dX11_findLightest_163 : decode cX11_findLightest 163 = .ok (.istore_n 1, 1) := by decide +kernel
theorem dX11_findLightest_164 : decode cX11_findLightest 164 = .ok (.iconst 0, 1) := by decide +kernel
theorem dX11_findLightest_165 : decode cX11_findLightest 165 = .ok (.istore_n 2, 1) := by decide +kernel
theorem dX11_findLightest_166 : decode cX11_findLightest 166 = .ok (.iload_n 2, 1) := by decide +kernel
theorem dX11_findLightest_167 : decode cX11_findLightest 167 = .ok (.aload_n 0, 1) := by decide +kernel
theorem dX11_findLightest_168 : decode cX11_findLightest 168 = .ok (.getfield 19, 3) := by decide +kernel
theorem dX11_findLightest_171 : decode cX11_findLightest 171 = .ok (.if_icmp .ge 42, 3) := by decide +kernel
theorem dX11_findLightest_174 : decode cX11_findLightest 174 = .ok (.aload_n 0, 1) := by decide +kernel
theorem dX11_findLightest_175 : decode cX11_findLightest 175 = .ok (.getfield 112, 3) := by decide +kernel
theorem dX11_findLightest_178 : decode cX11_findLightest 178 = .ok (.i2l, 1) := by decide +kernel
theorem dX11_findLightest_179 : decode cX11_findLightest 179 = .ok (.iload_n 2, 1) := by decide +kernel
theorem dX11_findLightest_180 : decode cX11_findLightest 180 = .ok (.invokestatic 139, 3) := by decide +kernel
theorem dX11_findLightest_183 : decode cX11_findLightest 183 = .ok (.ifCond .eq 22, 3) := by decide +kernel
theorem dX11_findLightest_186 : decode cX11_findLightest 186 = .ok (.aload_n 0, 1) := by decide +kernel
theorem dX11_findLightest_187 : decode cX11_findLightest 187 = .ok (.getfield 73, 3) := by decide +kernel
theorem dX11_findLightest_190 : decode cX11_findLightest 190 = .ok (.iload_n 2, 1) := by decide +kernel
theorem dX11_findLightest_191 : decode cX11_findLightest 191 = .ok (.iaload, 1) := by decide +kernel
theorem dX11_findLightest_192 : decode cX11_findLightest 192 = .ok (.iload_n 1, 1) := by decide +kernel
theorem dX11_findLightest_193 : decode cX11_findLightest 193 = .ok (.if_icmp .ge 12, 3) := by decide +kernel
theorem dX11_findLightest_196 : decode cX11_findLightest 196 = .ok (.aload_n 0, 1) := by decide +kernel
theorem dX11_findLightest_197 : decode cX11_findLightest 197 = .ok (.getfield 73, 3) := by decide +kernel
theorem dX11_findLightest_200 : decode cX11_findLightest 200 = .ok (.iload_n 2, 1) := by decide +kernel
theorem dX11_findLightest_201 : decode cX11_findLightest 201 = .ok (.iaload, 1) := by decide +kernel
theorem dX11_findLightest_202 : decode cX11_findLightest 202 = .ok (.goto 4, 3) := by decide +kernel
theorem dX11_findLightest_205 : decode cX11_findLightest 205 = .ok (.iload_n 1, 1) := by decide +kernel
theorem dX11_findLightest_206 : decode cX11_findLightest 206 = .ok (.istore_n 1, 1) := by decide +kernel
theorem dX11_findLightest_207 : decode cX11_findLightest 207 = .ok (.iinc 2 1, 3) := by decide +kernel
theorem dX11_findLightest_210 : decode cX11_findLightest 210 = .ok (.goto (-44), 3) := by decide +kernel
theorem dX11_findLightest_213 : decode cX11_findLightest 213 = .ok (.iload_n 1, 1) := by decide +kernel
theorem dX11_findLightest_214 : decode cX11_findLightest 214 = .ok (.ireturn, 1) := by decide +kernel
set_option maxRecDepth 20000 in
theorem ggX11_spellLightest_X11_findLightest : GoodIn wsX11_spellLightest wsX11_findLightest := goodIn_r _ [12, 4, 13, 1, 2, 7, 14, 3, 15, 16, 11, 17, 26, 27, 28, 29, 30, 31, 32, 33, 34, 35, 36, 37, 38, 39, 40, 41, 42, 43, 44, 45, 46, 47, 48, 49, 50, 51, 52, 53, 54, 55, 56, 57, 58, 59, 60, 61, 62, 63, 64, 65, 66, 67, 68, 69, 70, 71, 72, 73, 74, 75] (by rfl) (by decide +kernel)
set_option maxRecDepth 20000 in
theorem gX11_spellLightest_X11_findLightest : GoodIn wsX11_spellLightest (wsV RX11 319 RX11 yX11_findLightest wsX11_findLightest) := goodIn_app (goodIn_of _ (by decide +kernel)) ggX11_spellLightest_X11_findLightest
set_option maxRecDepth 20000 in
theorem ggX11_spellLightest_X11_has : GoodIn wsX11_spellLightest wsX11_has := goodIn_r _ [17] (by decide +kernel) (by decide +kernel)
set_option maxRecDepth 20000 in
theorem gX11_spellLightest_X11_has : GoodIn wsX11_spellLightest (va_wsS RX11 139 yX11_has wsX11_has) := goodIn_app (goodIn_of _ (by decide +kernel)) ggX11_spellLightest_X11_has
set_option maxRecDepth 20000 in
theorem ggX11_spellLightest_X11_goesLight : GoodIn wsX11_spellLightest wsX11_goesLight := goodIn_r _ [21, 2, 4, 7, 22, 23, 24, 11, 25, 14, 15, 16, 17, 26, 27, 28, 29, 30, 31, 32, 33, 34, 35, 36, 37, 38, 39, 40, 41, 42, 43, 44, 45, 46, 47, 48, 49, 50, 51, 52, 53, 54, 55, 56, 57, 58, 59, 60, 61, 62, 63, 64, 65, 66, 67, 68, 69, 70, 71, 72, 73, 74, 75] (by rfl) (by decide +kernel)
set_option maxRecDepth 20000 in
theorem gX11_spellLightest_X11_goesLight : GoodIn wsX11_spellLightest (wsV RX11 322 RX11 yX11_goesLight wsX11_goesLight) := goodIn_app (goodIn_of _ (by decide +kernel)) ggX11_spellLightest_X11_goesLight
theorem dX11_spellLightest_0 : decode cX11_spellLightest 0 = .ok (.aload_n 0, 1) := by decide +kernel
theorem dX11_spellLightest_1 : decode cX11_spellLightest 1 = .ok (.invokevirtual 319, 3) := by decide +kernel
theorem dX11_spellLightest_4 : decode cX11_spellLightest 4 = .ok (.istore_n 1, 1) := by decide +kernel
theorem dX11_spellLightest_5 : decode cX11_spellLightest 5 = .ok (.iload_n 1, 1) := by decide +kernel
theorem dX11_spellLightest_6 : decode cX11_spellLightest 6 = .ok (.ldc_w 318, 3) := by decide +kernel
theorem dX11_spellLightest_9 : decode cX11_spellLightest 9 = .ok (.if_icmp .ne 6, 3) := by decide +kernel
theorem dX11_spellLightest_12 : decode cX11_spellLightest 12 = .ok (.bipush (-4), 2) := by decide +kernel
theorem dX11_spellLightest_14 : decode cX11_spellLightest 14 = .ok (.ireturn, 1) := by decide +kernel
theorem dX11_spellLightest_15 : decode cX11_spellLightest 15 = .ok (.iconst 0, 1) := by decide +kernel
theorem dX11_spellLightest_16 : decode cX11_spellLightest 16 = .ok (.istore_n 2, 1) := by decide +kernel
theorem dX11_spellLightest_17 : decode cX11_spellLightest 17 = .ok (.iconst 0, 1) := by decide +kernel
theorem dX11_spellLightest_18 : decode cX11_spellLightest 18 = .ok (.istore_n 3, 1) := by decide +kernel
theorem dX11_spellLightest_19 : decode cX11_spellLightest 19 = .ok (.iload_n 3, 1) := by decide +kernel
theorem dX11_spellLightest_20 : decode cX11_spellLightest 20 = .ok (.aload_n 0, 1) := by decide +kernel
theorem dX11_spellLightest_21 : decode cX11_spellLightest 21 = .ok (.getfield 19, 3) := by decide +kernel
theorem dX11_spellLightest_24 : decode cX11_spellLightest 24 = .ok (.if_icmp .ge 41, 3) := by decide +kernel
theorem dX11_spellLightest_27 : decode cX11_spellLightest 27 = .ok (.iload_n 2, 1) := by decide +kernel
theorem dX11_spellLightest_28 : decode cX11_spellLightest 28 = .ok (.aload_n 0, 1) := by decide +kernel
theorem dX11_spellLightest_29 : decode cX11_spellLightest 29 = .ok (.getfield 112, 3) := by decide +kernel
theorem dX11_spellLightest_32 : decode cX11_spellLightest 32 = .ok (.i2l, 1) := by decide +kernel
theorem dX11_spellLightest_33 : decode cX11_spellLightest 33 = .ok (.iload_n 3, 1) := by decide +kernel
theorem dX11_spellLightest_34 : decode cX11_spellLightest 34 = .ok (.invokestatic 139, 3) := by decide +kernel
theorem dX11_spellLightest_37 : decode cX11_spellLightest 37 = .ok (.ifCond .eq 19, 3) := by decide +kernel
theorem dX11_spellLightest_40 : decode cX11_spellLightest 40 = .ok (.aload_n 0, 1) := by decide +kernel
theorem dX11_spellLightest_41 : decode cX11_spellLightest 41 = .ok (.getfield 73, 3) := by decide +kernel
theorem dX11_spellLightest_44 : decode cX11_spellLightest 44 = .ok (.iload_n 3, 1) := by decide +kernel
theorem dX11_spellLightest_45 : decode cX11_spellLightest 45 = .ok (.iaload, 1) := by decide +kernel
theorem dX11_spellLightest_46 : decode cX11_spellLightest 46 = .ok (.iload_n 1, 1) := by decide +kernel
theorem dX11_spellLightest_47 : decode cX11_spellLightest 47 = .ok (.if_icmp .ne 9, 3) := by decide +kernel
theorem dX11_spellLightest_50 : decode cX11_spellLightest 50 = .ok (.iconst 1, 1) := by decide +kernel
theorem dX11_spellLightest_51 : decode cX11_spellLightest 51 = .ok (.iload_n 3, 1) := by decide +kernel
theorem dX11_spellLightest_52 : decode cX11_spellLightest 52 = .ok (.ishl, 1) := by decide +kernel
theorem dX11_spellLightest_53 : decode cX11_spellLightest 53 = .ok (.goto 4, 3) := by decide +kernel
theorem dX11_spellLightest_56 : decode cX11_spellLightest 56 = .ok (.iconst 0, 1) := by decide +kernel
theorem dX11_spellLightest_57 : decode cX11_spellLightest 57 = .ok (.ior, 1) := by decide +kernel
theorem dX11_spellLightest_58 : decode cX11_spellLightest 58 = .ok (.istore_n 2, 1) := by decide +kernel
theorem dX11_spellLightest_59 : decode cX11_spellLightest 59 = .ok (.iinc 3 1, 3) := by decide +kernel
theorem dX11_spellLightest_62 : decode cX11_spellLightest 62 = .ok (.goto (-43), 3) := by decide +kernel
theorem dX11_spellLightest_65 : decode cX11_spellLightest 65 = .ok (.aload_n 0, 1) := by decide +kernel
theorem dX11_spellLightest_66 : decode cX11_spellLightest 66 = .ok (.iload_n 1, 1) := by decide +kernel
theorem dX11_spellLightest_67 : decode cX11_spellLightest 67 = .ok (.bipush 16, 2) := by decide +kernel
theorem dX11_spellLightest_69 : decode cX11_spellLightest 69 = .ok (.irem, 1) := by decide +kernel
theorem dX11_spellLightest_70 : decode cX11_spellLightest 70 = .ok (.putfield 252, 3) := by decide +kernel
theorem dX11_spellLightest_73 : decode cX11_spellLightest 73 = .ok (.iconst 0, 1) := by decide +kernel
theorem dX11_spellLightest_74 : decode cX11_spellLightest 74 = .ok (.istore_n 3, 1) := by decide +kernel
theorem dX11_spellLightest_75 : decode cX11_spellLightest 75 = .ok (.iload_n 3, 1) := by decide +kernel
theorem dX11_spellLightest_76 : decode cX11_spellLightest 76 = .ok (.aload_n 0, 1) := by decide +kernel
theorem dX11_spellLightest_77 : decode cX11_spellLightest 77 = .ok (.getfield 252, 3) := by decide +kernel
theorem dX11_spellLightest_80 : decode cX11_spellLightest 80 = .ok (.if_icmp .ge 69, 3) := by decide +kernel
theorem dX11_spellLightest_83 : decode cX11_spellLightest 83 = .ok (.iconst 0, 1) := by decide +kernel
theorem dX11_spellLightest_84 : decode cX11_spellLightest 84 = .ok (.istore 4, 2) := by decide +kernel
theorem dX11_spellLightest_86 : decode cX11_spellLightest 86 = .ok (.aload_n 0, 1) := by decide +kernel
theorem dX11_spellLightest_87 : decode cX11_spellLightest 87 = .ok (.iload_n 2, 1) := by decide +kernel
theorem dX11_spellLightest_88 : decode cX11_spellLightest 88 = .ok (.iload 4, 2) := by decide +kernel
theorem dX11_spellLightest_90 : decode cX11_spellLightest 90 = .ok (.iload_n 1, 1) := by decide +kernel
theorem dX11_spellLightest_91 : decode cX11_spellLightest 91 = .ok (.invokevirtual 322, 3) := by decide +kernel
theorem dX11_spellLightest_94 : decode cX11_spellLightest 94 = .ok (.istore 5, 2) := by decide +kernel
theorem dX11_spellLightest_96 : decode cX11_spellLightest 96 = .ok (.iload 5, 2) := by decide +kernel
theorem dX11_spellLightest_98 : decode cX11_spellLightest 98 = .ok (.ifCond .ne 19, 3) := by decide +kernel
theorem dX11_spellLightest_101 : decode cX11_spellLightest 101 = .ok (.iinc 4 1, 3) := by decide +kernel
theorem dX11_spellLightest_104 : decode cX11_spellLightest 104 = .ok (.aload_n 0, 1) := by decide +kernel
theorem dX11_spellLightest_105 : decode cX11_spellLightest 105 = .ok (.iload_n 2, 1) := by decide +kernel
theorem dX11_spellLightest_106 : decode cX11_spellLightest 106 = .ok (.iload 4, 2) := by decide +kernel
theorem dX11_spellLightest_108 : decode cX11_spellLightest 108 = .ok (.iload_n 1, 1) := by decide +kernel
theorem dX11_spellLightest_109 : decode cX11_spellLightest 109 = .ok (.invokevirtual 322, 3) := by decide +kernel
theorem dX11_spellLightest_112 : decode cX11_spellLightest 112 = .ok (.istore 5, 2) := by decide +kernel
theorem dX11_spellLightest_114 : decode cX11_spellLightest 114 = .ok (.goto (-18), 3) := by decide +kernel
theorem dX11_spellLightest_117 : decode cX11_spellLightest 117 = .ok (.aload_n 0, 1) := by decide +kernel
theorem dX11_spellLightest_118 : decode cX11_spellLightest 118 = .ok (.getfield 51, 3) := by decide +kernel
theorem dX11_spellLightest_121 : decode cX11_spellLightest 121 = .ok (.iload_n 3, 1) := by decide +kernel
theorem dX11_spellLightest_122 : decode cX11_spellLightest 122 = .ok (.iload 4, 2) := by decide +kernel
theorem dX11_spellLightest_124 : decode cX11_spellLightest 124 = .ok (.iastore, 1) := by decide +kernel
theorem dX11_spellLightest_125 : decode cX11_spellLightest 125 = .ok (.iload_n 1, 1) := by decide +kernel
theorem dX11_spellLightest_126 : decode cX11_spellLightest 126 = .ok (.bipush 16, 2) := by decide +kernel
theorem dX11_spellLightest_128 : decode cX11_spellLightest 128 = .ok (.aload_n 0, 1) := by decide +kernel
theorem dX11_spellLightest_129 : decode cX11_spellLightest 129 = .ok (.getfield 16, 3) := by decide +kernel
theorem dX11_spellLightest_132 : decode cX11_spellLightest 132 = .ok (.iload 4, 2) := by decide +kernel
theorem dX11_spellLightest_134 : decode cX11_spellLightest 134 = .ok (.iaload, 1) := by decide +kernel
theorem dX11_spellLightest_135 : decode cX11_spellLightest 135 = .ok (.imul, 1) := by decide +kernel
theorem dX11_spellLightest_136 : decode cX11_spellLightest 136 = .ok (.iconst 1, 1) := by decide +kernel
theorem dX11_spellLightest_137 : decode cX11_spellLightest 137 = .ok (.iadd, 1) := by decide +kernel
theorem dX11_spellLightest_138 : decode cX11_spellLightest 138 = .ok (.isub, 1) := by decide +kernel
theorem dX11_spellLightest_139 : decode cX11_spellLightest 139 = .ok (.istore_n 1, 1) := by decide +kernel
theorem dX11_spellLightest_140 : decode cX11_spellLightest 140 = .ok (.iload 5, 2) := by decide +kernel
theorem dX11_spellLightest_142 : decode cX11_spellLightest 142 = .ok (.istore_n 2, 1) := by decide +kernel
theorem dX11_spellLightest_143 : decode cX11_spellLightest 143 = .ok (.iinc 3 1, 3) := by decide +kernel
theorem dX11_spellLightest_146 : decode cX11_spellLightest 146 = .ok (.goto (-71), 3) := by decide +kernel
theorem dX11_spellLightest_149 : decode cX11_spellLightest 149 = .ok (.aload_n 0, 1) := by decide +kernel
theorem dX11_spellLightest_150 : decode cX11_spellLightest 150 = .ok (.getfield 252, 3) := by decide +kernel
theorem dX11_spellLightest_153 : decode cX11_spellLightest 153 = .ok (.ireturn, 1) := by decide +kernel
set_option maxRecDepth 20000 in
theorem ggX11_goesLight_X11_step : GoodIn wsX11_goesLight wsX11_step := goodIn_r _ [8, 1, 9, 10, 11, 7, 12, 13, 14, 15, 16, 17, 18, 19, 20, 21, 22, 23, 24, 25, 26, 27, 28, 29, 30, 31, 32, 33, 34, 35, 36, 37, 38, 39, 40, 41, 42, 43, 44, 45, 46, 47, 48, 49, 50, 51, 52, 53, 54, 55, 56, 57, 58, 59, 60, 61, 62] (by rfl) (by decide +kernel)
set_option maxRecDepth 20000 in
theorem gX11_goesLight_X11_step : GoodIn wsX11_goesLight (wsV RX11 143 RX11 yX11_step wsX11_step) := goodIn_app (goodIn_of _ (by decide +kernel)) ggX11_goesLight_X11_step
set_option maxRecDepth 20000 in
theorem ggX11_goesLight_X11_has : GoodIn wsX11_goesLight wsX11_has := goodIn_r _ [12] (by decide +kernel) (by decide +kernel)
set_option maxRecDepth 20000 in
theorem gX11_goesLight_X11_has : GoodIn wsX11_goesLight (va_wsS RX11 139 yX11_has wsX11_has) := goodIn_app (goodIn_of _ (by decide +kernel)) ggX11_goesLight_X11_has
theorem dX11_goesLight_0 : decode cX11_goesLight 0 = .ok (.iconst 0, 1) := by decide +kernel
theorem dX11_goesLight_1 : decode cX11_goesLight 1 = .ok (.istore 4, 2) := by decide +kernel
theorem dX11_goesLight_3 : decode cX11_goesLight 3 = .ok (.aload_n 0, 1) := by decide +kernel
theorem dX11_goesLight_4 : decode cX11_goesLight 4 = .ok (.iload_n 1, 1) := by decide +kernel
theorem dX11_goesLight_5 : decode cX11_goesLight 5 = .ok (.iload_n 2, 1) := by decide +kernel
theorem dX11_goesLight_6 : decode cX11_goesLight 6 = .ok (.invokevirtual 143, 3) := by decide +kernel
theorem dX11_goesLight_9 : decode cX11_goesLight 9 = .ok (.istore 5, 2) := by decide +kernel
theorem dX11_goesLight_11 : decode cX11_goesLight 11 = .ok (.iconst 0, 1) := by decide +kernel
theorem dX11_goesLight_12 : decode cX11_goesLight 12 = .ok (.istore 6, 2) := by decide +kernel
theorem dX11_goesLight_14 : decode cX11_goesLight 14 = .ok (.iload 6, 2) := by decide +kernel
theorem dX11_goesLight_16 : decode cX11_goesLight 16 = .ok (.aload_n 0, 1) := by decide +kernel
theorem dX11_goesLight_17 : decode cX11_goesLight 17 = .ok (.getfield 19, 3) := by decide +kernel
theorem dX11_goesLight_20 : decode cX11_goesLight 20 = .ok (.if_icmp .ge 56, 3) := by decide +kernel
theorem dX11_goesLight_23 : decode cX11_goesLight 23 = .ok (.iload 4, 2) := by decide +kernel
theorem dX11_goesLight_25 : decode cX11_goesLight 25 = .ok (.iload 5, 2) := by decide +kernel
theorem dX11_goesLight_27 : decode cX11_goesLight 27 = .ok (.i2l, 1) := by decide +kernel
theorem dX11_goesLight_28 : decode cX11_goesLight 28 = .ok (.iload 6, 2) := by decide +kernel
theorem dX11_goesLight_30 : decode cX11_goesLight 30 = .ok (.invokestatic 139, 3) := by decide +kernel
theorem dX11_goesLight_33 : decode cX11_goesLight 33 = .ok (.ifCond .eq 33, 3) := by decide +kernel
theorem dX11_goesLight_36 : decode cX11_goesLight 36 = .ok (.aload_n 0, 1) := by decide +kernel
theorem dX11_goesLight_37 : decode cX11_goesLight 37 = .ok (.getfield 73, 3) := by decide +kernel
theorem dX11_goesLight_40 : decode cX11_goesLight 40 = .ok (.iload 6, 2) := by decide +kernel
theorem dX11_goesLight_42 : decode cX11_goesLight 42 = .ok (.iaload, 1) := by decide +kernel
theorem dX11_goesLight_43 : decode cX11_goesLight 43 = .ok (.iload_n 3, 1) := by decide +kernel
theorem dX11_goesLight_44 : decode cX11_goesLight 44 = .ok (.bipush 16, 2) := by decide +kernel
theorem dX11_goesLight_46 : decode cX11_goesLight 46 = .ok (.aload_n 0, 1) := by decide +kernel
theorem dX11_goesLight_47 : decode cX11_goesLight 47 = .ok (.getfield 16, 3) := by decide +kernel
theorem dX11_goesLight_50 : decode cX11_goesLight 50 = .ok (.iload_n 2, 1) := by decide +kernel
theorem dX11_goesLight_51 : decode cX11_goesLight 51 = .ok (.iaload, 1) := by decide +kernel
theorem dX11_goesLight_52 : decode cX11_goesLight 52 = .ok (.imul, 1) := by decide +kernel
theorem dX11_goesLight_53 : decode cX11_goesLight 53 = .ok (.isub, 1) := by decide +kernel
theorem dX11_goesLight_54 : decode cX11_goesLight 54 = .ok (.iconst 1, 1) := by decide +kernel
theorem dX11_goesLight_55 : decode cX11_goesLight 55 = .ok (.isub, 1) := by decide +kernel
theorem dX11_goesLight_56 : decode cX11_goesLight 56 = .ok (.if_icmp .ne 10, 3) := by decide +kernel
theorem dX11_goesLight_59 : decode cX11_goesLight 59 = .ok (.iconst 1, 1) := by decide +kernel
theorem dX11_goesLight_60 : decode cX11_goesLight 60 = .ok (.iload 6, 2) := by decide +kernel
theorem dX11_goesLight_62 : decode cX11_goesLight 62 = .ok (.ishl, 1) := by decide +kernel
theorem dX11_goesLight_63 : decode cX11_goesLight 63 = .ok (.goto 4, 3) := by decide +kernel
theorem dX11_goesLight_66 : decode cX11_goesLight 66 = .ok (.iconst 0, 1) := by decide +kernel
theorem dX11_goesLight_67 : decode cX11_goesLight 67 = .ok (.ior, 1) := by decide +kernel
theorem dX11_goesLight_68 : decode cX11_goesLight 68 = .ok (.istore 4, 2) := by decide +kernel
theorem dX11_goesLight_70 : decode cX11_goesLight 70 = .ok (.iinc 6 1, 3) := by decide +kernel
theorem dX11_goesLight_73 : decode cX11_goesLight 73 = .ok (.goto (-59), 3) := by decide +kernel
theorem dX11_goesLight_76 : decode cX11_goesLight 76 = .ok (.iload 4, 2) := by decide +kernel
theorem dX11_goesLight_78 : decode cX11_goesLight 78 = .ok (.ireturn, 1) := by decide +kernel
set_option maxRecDepth 20000 in
theorem ggX11_spell_X11_finds : GoodIn wsX11_spell wsX11_finds := goodIn_r _ [8, 9, 10, 1, 2, 11, 12, 13, 14, 7, 15, 16, 17, 18, 19, 20, 21, 22, 23, 24, 25, 26, 27, 28, 29, 30, 31, 32, 33, 34, 35, 3, 36, 37, 38, 39, 40, 41, 42, 43, 44, 45, 46, 47, 48, 49, 50, 51, 52, 53, 54, 55, 56, 57, 58, 59, 60, 61, 62, 63, 64, 65, 66, 67, 68, 69, 70, 71, 72, 73, 74, 75, 76, 77, 78, 79, 80, 81, 82, 83, 84, 85, 86, 87, 88, 89, 90, 91, 114, 115, 116, 117, 118, 119, 120, 121, 122, 123, 124, 125, 126, 127, 128, 129, 130, 131, 132, 133, 134, 135, 136, 137, 138, 139, 140, 141, 142, 143, 144, 145, 146, 147, 148, 149, 150, 151, 152, 153, 154, 155, 156, 157, 158, 159, 160, 161, 162, 163] (by rfl) (by decide +kernel)
set_option maxRecDepth 20000 in
theorem gX11_spell_X11_finds : GoodIn wsX11_spell (wsV RX11 294 RX11 yX11_finds wsX11_finds) := goodIn_app (goodIn_of _ (by decide +kernel)) ggX11_spell_X11_finds
set_option maxRecDepth 20000 in
theorem ggX11_spell_X11_spellAmbiguous : GoodIn wsX11_spell wsX11_spellAmbiguous := goodIn_r _ [34, 17, 18, 16, 35, 3, 36, 37, 38, 7, 39, 40, 41, 42, 43, 44, 45, 27, 28, 29, 30, 46, 47, 48, 49, 50, 51, 52, 53, 54, 55, 56, 57, 58, 59, 60, 61, 62, 63, 64, 65, 66, 67, 68, 69, 70, 71, 72, 73, 74, 75, 76, 77, 78, 79, 80, 114, 115, 116, 117, 118, 119, 120, 121, 122, 123, 124, 125, 126, 127, 128, 129, 130, 131, 132, 133, 134, 135, 136, 137, 138, 139, 140, 141, 142, 143, 144, 145, 146, 147, 148, 149, 150, 151, 152, 153, 154, 155, 156, 157, 158, 159, 160, 161, 162, 163] (by rfl) (by decide +kernel)
