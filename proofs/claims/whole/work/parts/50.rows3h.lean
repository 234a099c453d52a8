theorem dX11_resultAmbiguity_140 : decode cX11_resultAmbiguity 140 = .ok (.istore_n 2, 1) := by decide +kernel
theorem dX11_resultAmbiguity_141 : decode cX11_resultAmbiguity 141 = .ok (.iload_n 2, 1) := by decide +kernel
theorem dX11_resultAmbiguity_142 : decode cX11_resultAmbiguity 142 = .ok (.aload_n 0, 1) := by decide +kernel
theorem dX11_resultAmbiguity_143 : decode cX11_resultAmbiguity 143 = .ok (.getfield 94, 3) := by decide +kernel
theorem dX11_resultAmbiguity_146 : decode cX11_resultAmbiguity 146 = .ok (.if_icmp .ge 21, 3) := by decide +kernel
theorem dX11_resultAmbiguity_149 : decode cX11_resultAmbiguity 149 = .ok (.aload_n 0, 1) := by decide +kernel
theorem dX11_resultAmbiguity_150 : decode cX11_resultAmbiguity 150 = .ok (.getfield 38, 3) := by decide +kernel
theorem dX11_resultAmbiguity_153 : decode cX11_resultAmbiguity 153 = .ok (.iload_n 2, 1) := by decide +kernel
theorem dX11_resultAmbiguity_154 : decode cX11_resultAmbiguity 154 = .ok (.aload_n 0, 1) := by decide +kernel
theorem dX11_resultAmbiguity_155 : decode cX11_resultAmbiguity 155 = .ok (.getfield 42, 3) := by decide +kernel
theorem dX11_resultAmbiguity_158 : decode cX11_resultAmbiguity 158 = .ok (.iload_n 2, 1) := by decide +kernel
theorem dX11_resultAmbiguity_159 : decode cX11_resultAmbiguity 159 = .ok (.laload, 1) := by decide +kernel
theorem dX11_resultAmbiguity_160 : decode cX11_resultAmbiguity 160 = .ok (.lastore, 1) := by decide +kernel
theorem dX11_resultAmbiguity_161 : decode cX11_resultAmbiguity 161 = .ok (.iinc 2 1, 3) := by decide +kernel
theorem dX11_resultAmbiguity_164 : decode cX11_resultAmbiguity 164 = .ok (.goto (-23), 3) := by decide +kernel
theorem dX11_resultAmbiguity_167 : decode cX11_resultAmbiguity 167 = .ok (.iinc 1 1, 3) := by decide +kernel
theorem dX11_resultAmbiguity_170 : decode cX11_resultAmbiguity 170 = .ok (.goto (-119), 3) := by decide +kernel
theorem dX11_resultAmbiguity_173 : decode cX11_resultAmbiguity 173 = .ok (.lconst 0, 1) := by decide +kernel
theorem dX11_resultAmbiguity_174 : decode cX11_resultAmbiguity 174 = .ok (.lstore_n 1, 1) := by decide +kernel
theorem dX11_resultAmbiguity_175 : decode cX11_resultAmbiguity 175 = .ok (.iconst 0, 1) := by decide +kernel
theorem dX11_resultAmbiguity_176 : decode cX11_resultAmbiguity 176 = .ok (.istore_n 3, 1) := by decide +kernel
theorem dX11_resultAmbiguity_177 : decode cX11_resultAmbiguity 177 = .ok (.iload_n 3, 1) := by decide +kernel
theorem dX11_resultAmbiguity_178 : decode cX11_resultAmbiguity 178 = .ok (.aload_n 0, 1) := by decide +kernel
theorem dX11_resultAmbiguity_179 : decode cX11_resultAmbiguity 179 = .ok (.getfield 94, 3) := by decide +kernel
theorem dX11_resultAmbiguity_182 : decode cX11_resultAmbiguity 182 = .ok (.if_icmp .ge 33, 3) := by decide +kernel
theorem dX11_resultAmbiguity_185 : decode cX11_resultAmbiguity 185 = .ok (.lload_n 1, 1) := by decide +kernel
theorem dX11_resultAmbiguity_186 : decode cX11_resultAmbiguity 186 = .ok (.aload_n 0, 1) := by decide +kernel
theorem dX11_resultAmbiguity_187 : decode cX11_resultAmbiguity 187 = .ok (.getfield 351, 3) := by decide +kernel
theorem dX11_resultAmbiguity_190 : decode cX11_resultAmbiguity 190 = .ok (.iload_n 3, 1) := by decide +kernel
theorem dX11_resultAmbiguity_191 : decode cX11_resultAmbiguity 191 = .ok (.invokestatic 139, 3) := by decide +kernel
theorem dX11_resultAmbiguity_194 : decode cX11_resultAmbiguity 194 = .ok (.ifCond .eq 12, 3) := by decide +kernel
theorem dX11_resultAmbiguity_197 : decode cX11_resultAmbiguity 197 = .ok (.aload_n 0, 1) := by decide +kernel
theorem dX11_resultAmbiguity_198 : decode cX11_resultAmbiguity 198 = .ok (.getfield 38, 3) := by decide +kernel
theorem dX11_resultAmbiguity_201 : decode cX11_resultAmbiguity 201 = .ok (.iload_n 3, 1) := by decide +kernel
theorem dX11_resultAmbiguity_202 : decode cX11_resultAmbiguity 202 = .ok (.laload, 1) := by decide +kernel
theorem dX11_resultAmbiguity_203 : decode cX11_resultAmbiguity 203 = .ok (.goto 4, 3) := by decide +kernel
theorem dX11_resultAmbiguity_206 : decode cX11_resultAmbiguity 206 = .ok (.lconst 0, 1) := by decide +kernel
theorem dX11_resultAmbiguity_207 : decode cX11_resultAmbiguity 207 = .ok (.ladd, 1) := by decide +kernel
theorem dX11_resultAmbiguity_208 : decode cX11_resultAmbiguity 208 = .ok (.lstore_n 1, 1) := by decide +kernel
theorem dX11_resultAmbiguity_209 : decode cX11_resultAmbiguity 209 = .ok (.iinc 3 1, 3) := by decide +kernel
theorem dX11_resultAmbiguity_212 : decode cX11_resultAmbiguity 212 = .ok (.goto (-35), 3) := by decide +kernel
theorem dX11_resultAmbiguity_215 : decode cX11_resultAmbiguity 215 = .ok (.lload_n 1, 1) := by decide +kernel
theorem dX11_resultAmbiguity_216 : decode cX11_resultAmbiguity 216 = .ok (.lreturn, 1) := by decide +kernel
theorem dX11_isShelf_0 : decode cX11_isShelf 0 = .ok (.iload_n 0, 1) := by decide +kernel
theorem dX11_isShelf_1 : decode cX11_isShelf 1 = .ok (.ifCond .lt 12, 3) := by decide +kernel
theorem dX11_isShelf_4 : decode cX11_isShelf 4 = .ok (.iload_n 0, 1) := by decide +kernel
theorem dX11_isShelf_5 : decode cX11_isShelf 5 = .ok (.iconst 4, 1) := by decide +kernel
theorem dX11_isShelf_6 : decode cX11_isShelf 6 = .ok (.if_icmp .ge 7, 3) := by decide +kernel
theorem dX11_isShelf_9 : decode cX11_isShelf 9 = .ok (.iconst 1, 1) := by decide +kernel
theorem dX11_isShelf_10 : decode cX11_isShelf 10 = .ok (.goto 4, 3) := by decide +kernel
theorem dX11_isShelf_13 : decode cX11_isShelf 13 = .ok (.iconst 0, 1) := by decide +kernel
theorem dX11_isShelf_14 : decode cX11_isShelf 14 = .ok (.ireturn, 1) := by decide +kernel
set_option maxRecDepth 20000 in
theorem ggX11_keepWord_X11_isShelf : GoodIn wsX11_keepWord wsX11_isShelf := goodIn_r _ [9] (by decide +kernel) (by decide +kernel)
set_option maxRecDepth 20000 in
theorem gX11_keepWord_X11_isShelf : GoodIn wsX11_keepWord (va_wsS RX11 354 yX11_isShelf wsX11_isShelf) := goodIn_app (goodIn_of _ (by decide +kernel)) ggX11_keepWord_X11_isShelf
theorem dX11_keepWord_0 : decode cX11_keepWord 0 = .ok (.iload_n 1, 1) := by decide +kernel
theorem dX11_keepWord_1 : decode cX11_keepWord 1 = .ok (.invokestatic 354, 3) := by decide +kernel
theorem dX11_keepWord_4 : decode cX11_keepWord 4 = .ok (.ifCond .ne 5, 3) := by decide +kernel
theorem dX11_keepWord_7 : decode cX11_keepWord 7 = .ok (.iconst (-1), 1) := by decide +kernel
theorem dX11_keepWord_8 : decode cX11_keepWord 8 = .ok (.ireturn, 1) := by decide +kernel
theorem dX11_keepWord_9 : decode cX11_keepWord 9 = .ok (.aload_n 0, 1) := by decide +kernel
theorem dX11_keepWord_10 : decode cX11_keepWord 10 = .ok (.getfield 97, 3) := by decide +kernel
theorem dX11_keepWord_13 : decode cX11_keepWord 13 = .ok (.iload_n 1, 1) := by decide +kernel
theorem dX11_keepWord_14 : decode cX11_keepWord 14 = .ok (.iconst 1, 1) := by decide +kernel
theorem dX11_keepWord_15 : decode cX11_keepWord 15 = .ok (.iastore, 1) := by decide +kernel
theorem dX11_keepWord_16 : decode cX11_keepWord 16 = .ok (.aload_n 0, 1) := by decide +kernel
theorem dX11_keepWord_17 : decode cX11_keepWord 17 = .ok (.getfield 100, 3) := by decide +kernel
theorem dX11_keepWord_20 : decode cX11_keepWord 20 = .ok (.iload_n 1, 1) := by decide +kernel
theorem dX11_keepWord_21 : decode cX11_keepWord 21 = .ok (.aload_n 0, 1) := by decide +kernel
theorem dX11_keepWord_22 : decode cX11_keepWord 22 = .ok (.getfield 197, 3) := by decide +kernel
theorem dX11_keepWord_25 : decode cX11_keepWord 25 = .ok (.iastore, 1) := by decide +kernel
theorem dX11_keepWord_26 : decode cX11_keepWord 26 = .ok (.iconst 0, 1) := by decide +kernel
theorem dX11_keepWord_27 : decode cX11_keepWord 27 = .ok (.istore_n 2, 1) := by decide +kernel
theorem dX11_keepWord_28 : decode cX11_keepWord 28 = .ok (.iload_n 2, 1) := by decide +kernel
theorem dX11_keepWord_29 : decode cX11_keepWord 29 = .ok (.aload_n 0, 1) := by decide +kernel
theorem dX11_keepWord_30 : decode cX11_keepWord 30 = .ok (.getfield 197, 3) := by decide +kernel
theorem dX11_keepWord_33 : decode cX11_keepWord 33 = .ok (.if_icmp .ge 27, 3) := by decide +kernel
theorem dX11_keepWord_36 : decode cX11_keepWord 36 = .ok (.aload_n 0, 1) := by decide +kernel
theorem dX11_keepWord_37 : decode cX11_keepWord 37 = .ok (.getfield 103, 3) := by decide +kernel
theorem dX11_keepWord_40 : decode cX11_keepWord 40 = .ok (.bipush 31, 2) := by decide +kernel
theorem dX11_keepWord_42 : decode cX11_keepWord 42 = .ok (.iload_n 1, 1) := by decide +kernel
theorem dX11_keepWord_43 : decode cX11_keepWord 43 = .ok (.imul, 1) := by decide +kernel
theorem dX11_keepWord_44 : decode cX11_keepWord 44 = .ok (.iload_n 2, 1) := by decide +kernel
theorem dX11_keepWord_45 : decode cX11_keepWord 45 = .ok (.iadd, 1) := by decide +kernel
theorem dX11_keepWord_46 : decode cX11_keepWord 46 = .ok (.aload_n 0, 1) := by decide +kernel
theorem dX11_keepWord_47 : decode cX11_keepWord 47 = .ok (.getfield 35, 3) := by decide +kernel
theorem dX11_keepWord_50 : decode cX11_keepWord 50 = .ok (.iload_n 2, 1) := by decide +kernel
theorem dX11_keepWord_51 : decode cX11_keepWord 51 = .ok (.iaload, 1) := by decide +kernel
theorem dX11_keepWord_52 : decode cX11_keepWord 52 = .ok (.i2l, 1) := by decide +kernel
theorem dX11_keepWord_53 : decode cX11_keepWord 53 = .ok (.lastore, 1) := by decide +kernel
theorem dX11_keepWord_54 : decode cX11_keepWord 54 = .ok (.iinc 2 1, 3) := by decide +kernel
theorem dX11_keepWord_57 : decode cX11_keepWord 57 = .ok (.goto (-29), 3) := by decide +kernel
theorem dX11_keepWord_60 : decode cX11_keepWord 60 = .ok (.aload_n 0, 1) := by decide +kernel
theorem dX11_keepWord_61 : decode cX11_keepWord 61 = .ok (.getfield 197, 3) := by decide +kernel
theorem dX11_keepWord_64 : decode cX11_keepWord 64 = .ok (.ireturn, 1) := by decide +kernel
set_option maxRecDepth 20000 in
theorem ggX11_keepCounts_X11_isShelf : GoodIn wsX11_keepCounts wsX11_isShelf := goodIn_r _ [9] (by decide +kernel) (by decide +kernel)
set_option maxRecDepth 20000 in
theorem gX11_keepCounts_X11_isShelf : GoodIn wsX11_keepCounts (va_wsS RX11 354 yX11_isShelf wsX11_isShelf) := goodIn_app (goodIn_of _ (by decide +kernel)) ggX11_keepCounts_X11_isShelf
set_option maxRecDepth 20000 in
theorem ggX11_keepCounts_X11_isBetween : GoodIn wsX11_keepCounts wsX11_isBetween := goodIn_r _ [12] (by decide +kernel) (by decide +kernel)
set_option maxRecDepth 20000 in
theorem gX11_keepCounts_X11_isBetween : GoodIn wsX11_keepCounts (va_wsS RX11 124 yX11_isBetween wsX11_isBetween) := goodIn_app (goodIn_of _ (by decide +kernel)) ggX11_keepCounts_X11_isBetween
set_option maxRecDepth 20000 in
theorem ggX11_keepCounts_X11_pathsOf : GoodIn wsX11_keepCounts wsX11_pathsOf := goodIn_r _ [16, 17, 18, 19, 20, 21, 22, 23, 24, 8, 25, 26, 27, 28, 29, 30, 31, 32, 33, 34, 35, 36, 37, 38, 39, 40, 41, 42, 43, 44, 45, 46, 47, 48, 49, 50, 51, 52, 53, 54, 55, 56, 57, 58, 59, 60, 61, 62, 63, 64, 65, 66, 67, 68, 69, 70, 71, 72, 73, 74, 75, 76, 77, 78, 79, 80] (by rfl) (by decide +kernel)
set_option maxRecDepth 20000 in
theorem gX11_keepCounts_X11_pathsOf : GoodIn wsX11_keepCounts (wsV RX11 214 RX11 yX11_pathsOf wsX11_pathsOf) := goodIn_app (goodIn_of _ (by decide +kernel)) ggX11_keepCounts_X11_pathsOf
theorem dX11_keepCounts_0 : decode cX11_keepCounts 0 = .ok (.iload_n 1, 1) := by decide +kernel
theorem dX11_keepCounts_1 : decode cX11_keepCounts 1 = .ok (.invokestatic 354, 3) := by decide +kernel
theorem dX11_keepCounts_4 : decode cX11_keepCounts 4 = .ok (.ifCond .ne 5, 3) := by decide +kernel
theorem dX11_keepCounts_7 : decode cX11_keepCounts 7 = .ok (.iconst (-1), 1) := by decide +kernel
theorem dX11_keepCounts_8 : decode cX11_keepCounts 8 = .ok (.ireturn, 1) := by decide +kernel
theorem dX11_keepCounts_9 : decode cX11_keepCounts 9 = .ok (.iload_n 2, 1) := by decide +kernel
theorem dX11_keepCounts_10 : decode cX11_keepCounts 10 = .ok (.i2l, 1) := by decide +kernel
theorem dX11_keepCounts_11 : decode cX11_keepCounts 11 = .ok (.lconst 0, 1) := by decide +kernel
theorem dX11_keepCounts_12 : decode cX11_keepCounts 12 = .ok (.ldc2_w 357, 3) := by decide +kernel
theorem dX11_keepCounts_15 : decode cX11_keepCounts 15 = .ok (.invokestatic 124, 3) := by decide +kernel
theorem dX11_keepCounts_18 : decode cX11_keepCounts 18 = .ok (.ifCond .ne 6, 3) := by decide +kernel
theorem dX11_keepCounts_21 : decode cX11_keepCounts 21 = .ok (.bipush (-2), 2) := by decide +kernel
theorem dX11_keepCounts_23 : decode cX11_keepCounts 23 = .ok (.ireturn, 1) := by decide +kernel
theorem dX11_keepCounts_24 : decode cX11_keepCounts 24 = .ok (.iconst 0, 1) := by decide +kernel
theorem dX11_keepCounts_25 : decode cX11_keepCounts 25 = .ok (.istore_n 3, 1) := by decide +kernel
theorem dX11_keepCounts_26 : decode cX11_keepCounts 26 = .ok (.iload_n 3, 1) := by decide +kernel
theorem dX11_keepCounts_27 : decode cX11_keepCounts 27 = .ok (.iload_n 2, 1) := by decide +kernel
theorem dX11_keepCounts_28 : decode cX11_keepCounts 28 = .ok (.if_icmp .gt 34, 3) := by decide +kernel
theorem dX11_keepCounts_31 : decode cX11_keepCounts 31 = .ok (.aload_n 0, 1) := by decide +kernel
theorem dX11_keepCounts_32 : decode cX11_keepCounts 32 = .ok (.getfield 106, 3) := by decide +kernel
theorem dX11_keepCounts_35 : decode cX11_keepCounts 35 = .ok (.iload_n 3, 1) := by decide +kernel
theorem dX11_keepCounts_36 : decode cX11_keepCounts 36 = .ok (.aload_n 0, 1) := by decide +kernel
theorem dX11_keepCounts_37 : decode cX11_keepCounts 37 = .ok (.iload_n 3, 1) := by decide +kernel
theorem dX11_keepCounts_38 : decode cX11_keepCounts 38 = .ok (.invokevirtual 214, 3) := by decide +kernel
theorem dX11_keepCounts_41 : decode cX11_keepCounts 41 = .ok (.lastore, 1) := by decide +kernel
theorem dX11_keepCounts_42 : decode cX11_keepCounts 42 = .ok (.aload_n 0, 1) := by decide +kernel
theorem dX11_keepCounts_43 : decode cX11_keepCounts 43 = .ok (.getfield 106, 3) := by decide +kernel
theorem dX11_keepCounts_46 : decode cX11_keepCounts 46 = .ok (.iload_n 3, 1) := by decide +kernel
theorem dX11_keepCounts_47 : decode cX11_keepCounts 47 = .ok (.laload, 1) := by decide +kernel
theorem dX11_keepCounts_48 : decode cX11_keepCounts 48 = .ok (.lconst 0, 1) := by decide +kernel
theorem dX11_keepCounts_49 : decode cX11_keepCounts 49 = .ok (.lcmp, 1) := by decide +kernel
theorem dX11_keepCounts_50 : decode cX11_keepCounts 50 = .ok (.ifCond .ge 6, 3) := by decide +kernel
theorem dX11_keepCounts_53 : decode cX11_keepCounts 53 = .ok (.bipush (-6), 2) := by decide +kernel
theorem dX11_keepCounts_55 : decode cX11_keepCounts 55 = .ok (.ireturn, 1) := by decide +kernel
theorem dX11_keepCounts_56 : decode cX11_keepCounts 56 = .ok (.iinc 3 1, 3) := by decide +kernel
theorem dX11_keepCounts_59 : decode cX11_keepCounts 59 = .ok (.goto (-33), 3) := by decide +kernel
theorem dX11_keepCounts_62 : decode cX11_keepCounts 62 = .ok (.aload_n 0, 1) := by decide +kernel
theorem dX11_keepCounts_63 : decode cX11_keepCounts 63 = .ok (.getfield 97, 3) := by decide +kernel
theorem dX11_keepCounts_66 : decode cX11_keepCounts 66 = .ok (.iload_n 1, 1) := by decide +kernel
theorem dX11_keepCounts_67 : decode cX11_keepCounts 67 = .ok (.iconst 2, 1) := by decide +kernel
theorem dX11_keepCounts_68 : decode cX11_keepCounts 68 = .ok (.iastore, 1) := by decide +kernel
theorem dX11_keepCounts_69 : decode cX11_keepCounts 69 = .ok (.aload_n 0, 1) := by decide +kernel
theorem dX11_keepCounts_70 : decode cX11_keepCounts 70 = .ok (.getfield 100, 3) := by decide +kernel
theorem dX11_keepCounts_73 : decode cX11_keepCounts 73 = .ok (.iload_n 1, 1) := by decide +kernel
theorem dX11_keepCounts_74 : decode cX11_keepCounts 74 = .ok (.iload_n 2, 1) := by decide +kernel
theorem dX11_keepCounts_75 : decode cX11_keepCounts 75 = .ok (.iconst 1, 1) := by decide +kernel
theorem dX11_keepCounts_76 : decode cX11_keepCounts 76 = .ok (.iadd, 1) := by decide +kernel
theorem dX11_keepCounts_77 : decode cX11_keepCounts 77 = .ok (.iastore, 1) := by decide +kernel
theorem dX11_keepCounts_78 : decode cX11_keepCounts 78 = .ok (.iconst 0, 1) := by decide +kernel
theorem dX11_keepCounts_79 : decode cX11_keepCounts 79 = .ok (.istore_n 3, 1) := by decide +kernel
theorem dX11_keepCounts_80 : decode cX11_keepCounts 80 = .ok (.iload_n 3, 1) := by decide +kernel
theorem dX11_keepCounts_81 : decode cX11_keepCounts 81 = .ok (.iload_n 2, 1) := by decide +kernel
theorem dX11_keepCounts_82 : decode cX11_keepCounts 82 = .ok (.if_icmp .gt 26, 3) := by decide +kernel
theorem dX11_keepCounts_85 : decode cX11_keepCounts 85 = .ok (.aload_n 0, 1) := by decide +kernel
theorem dX11_keepCounts_86 : decode cX11_keepCounts 86 = .ok (.getfield 103, 3) := by decide +kernel
theorem dX11_keepCounts_89 : decode cX11_keepCounts 89 = .ok (.bipush 31, 2) := by decide +kernel
theorem dX11_keepCounts_91 : decode cX11_keepCounts 91 = .ok (.iload_n 1, 1) := by decide +kernel
theorem dX11_keepCounts_92 : decode cX11_keepCounts 92 = .ok (.imul, 1) := by decide +kernel
theorem dX11_keepCounts_93 : decode cX11_keepCounts 93 = .ok (.iload_n 3, 1) := by decide +kernel
theorem dX11_keepCounts_94 : decode cX11_keepCounts 94 = .ok (.iadd, 1) := by decide +kernel
theorem dX11_keepCounts_95 : decode cX11_keepCounts 95 = .ok (.aload_n 0, 1) := by decide +kernel
theorem dX11_keepCounts_96 : decode cX11_keepCounts 96 = .ok (.getfield 106, 3) := by decide +kernel
theorem dX11_keepCounts_99 : decode cX11_keepCounts 99 = .ok (.iload_n 3, 1) := by decide +kernel
theorem dX11_keepCounts_100 : decode cX11_keepCounts 100 = .ok (.laload, 1) := by decide +kernel
theorem dX11_keepCounts_101 : decode cX11_keepCounts 101 = .ok (.lastore, 1) := by decide +kernel
theorem dX11_keepCounts_102 : decode cX11_keepCounts 102 = .ok (.iinc 3 1, 3) := by decide +kernel
theorem dX11_keepCounts_105 : decode cX11_keepCounts 105 = .ok (.goto (-25), 3) := by decide +kernel
theorem dX11_keepCounts_108 : decode cX11_keepCounts 108 = .ok (.iload_n 2, 1) := by decide +kernel
theorem dX11_keepCounts_109 : decode cX11_keepCounts 109 = .ok (.iconst 1, 1) := by decide +kernel
theorem dX11_keepCounts_110 : decode cX11_keepCounts 110 = .ok (.iadd, 1) := by decide +kernel
theorem dX11_keepCounts_111 : decode cX11_keepCounts 111 = .ok (.ireturn, 1) := by decide +kernel
set_option maxRecDepth 20000 in
theorem ggX11_useWord_X11_isShelf : GoodIn wsX11_useWord wsX11_isShelf := goodIn_r _ [9] (by decide +kernel) (by decide +kernel)
set_option maxRecDepth 20000 in
theorem gX11_useWord_X11_isShelf : GoodIn wsX11_useWord (va_wsS RX11 354 yX11_isShelf wsX11_isShelf) := goodIn_app (goodIn_of _ (by decide +kernel)) ggX11_useWord_X11_isShelf
theorem dX11_useWord_0 : decode cX11_useWord 0 = .ok (.iload_n 1, 1) := by decide +kernel
theorem dX11_useWord_1 : decode cX11_useWord 1 = .ok (.invokestatic 354, 3) := by decide +kernel
theorem dX11_useWord_4 : decode cX11_useWord 4 = .ok (.ifCond .ne 5, 3) := by decide +kernel
theorem dX11_useWord_7 : decode cX11_useWord 7 = .ok (.iconst (-1), 1) := by decide +kernel
theorem dX11_useWord_8 : decode cX11_useWord 8 = .ok (.ireturn, 1) := by decide +kernel
theorem dX11_useWord_9 : decode cX11_useWord 9 = .ok (.aload_n 0, 1) := by decide +kernel
theorem dX11_useWord_10 : decode cX11_useWord 10 = .ok (.getfield 97, 3) := by decide +kernel
theorem dX11_useWord_13 : decode cX11_useWord 13 = .ok (.iload_n 1, 1) := by decide +kernel
theorem dX11_useWord_14 : decode cX11_useWord 14 = .ok (.iaload, 1) := by decide +kernel
theorem dX11_useWord_15 : decode cX11_useWord 15 = .ok (.ifCond .ne 6, 3) := by decide +kernel
theorem dX11_useWord_18 : decode cX11_useWord 18 = .ok (.bipush (-7), 2) := by decide +kernel
theorem dX11_useWord_20 : decode cX11_useWord 20 = .ok (.ireturn, 1) := by decide +kernel
theorem dX11_useWord_21 : decode cX11_useWord 21 = .ok (.aload_n 0, 1) := by decide +kernel
theorem dX11_useWord_22 : decode cX11_useWord 22 = .ok (.getfield 97, 3) := by decide +kernel
theorem dX11_useWord_25 : decode cX11_useWord 25 = .ok (.iload_n 1, 1) := by decide +kernel
theorem dX11_useWord_26 : decode cX11_useWord 26 = .ok (.iaload, 1) := by decide +kernel
theorem dX11_useWord_27 : decode cX11_useWord 27 = .ok (.iconst 2, 1) := by decide +kernel
theorem dX11_useWord_28 : decode cX11_useWord 28 = .ok (.if_icmp .ne 6, 3) := by decide +kernel
theorem dX11_useWord_31 : decode cX11_useWord 31 = .ok (.bipush (-8), 2) := by decide +kernel
theorem dX11_useWord_33 : decode cX11_useWord 33 = .ok (.ireturn, 1) := by decide +kernel
theorem dX11_useWord_34 : decode cX11_useWord 34 = .ok (.aload_n 0, 1) := by decide +kernel
theorem dX11_useWord_35 : decode cX11_useWord 35 = .ok (.aload_n 0, 1) := by decide +kernel
theorem dX11_useWord_36 : decode cX11_useWord 36 = .ok (.getfield 100, 3) := by decide +kernel
theorem dX11_useWord_39 : decode cX11_useWord 39 = .ok (.iload_n 1, 1) := by decide +kernel
theorem dX11_useWord_40 : decode cX11_useWord 40 = .ok (.iaload, 1) := by decide +kernel
theorem dX11_useWord_41 : decode cX11_useWord 41 = .ok (.putfield 197, 3) := by decide +kernel
theorem dX11_useWord_44 : decode cX11_useWord 44 = .ok (.iconst 0, 1) := by decide +kernel
theorem dX11_useWord_45 : decode cX11_useWord 45 = .ok (.istore_n 2, 1) := by decide +kernel
theorem dX11_useWord_46 : decode cX11_useWord 46 = .ok (.iload_n 2, 1) := by decide +kernel
theorem dX11_useWord_47 : decode cX11_useWord 47 = .ok (.aload_n 0, 1) := by decide +kernel
theorem dX11_useWord_48 : decode cX11_useWord 48 = .ok (.getfield 197, 3) := by decide +kernel
theorem dX11_useWord_51 : decode cX11_useWord 51 = .ok (.if_icmp .ge 27, 3) := by decide +kernel
theorem dX11_useWord_54 : decode cX11_useWord 54 = .ok (.aload_n 0, 1) := by decide +kernel
theorem dX11_useWord_55 : decode cX11_useWord 55 = .ok (.getfield 35, 3) := by decide +kernel
theorem dX11_useWord_58 : decode cX11_useWord 58 = .ok (.iload_n 2, 1) := by decide +kernel
theorem dX11_useWord_59 : decode cX11_useWord 59 = .ok (.aload_n 0, 1) := by decide +kernel
theorem dX11_useWord_60 : decode cX11_useWord 60 = .ok (.getfield 103, 3) := by decide +kernel
theorem dX11_useWord_63 : decode cX11_useWord 63 = .ok (.bipush 31, 2) := by decide +kernel
theorem dX11_useWord_65 : decode cX11_useWord 65 = .ok (.iload_n 1, 1) := by decide +kernel
theorem dX11_useWord_66 : decode cX11_useWord 66 = .ok (.imul, 1) := by decide +kernel
theorem dX11_useWord_67 : decode cX11_useWord 67 = .ok (.iload_n 2, 1) := by decide +kernel
theorem dX11_useWord_68 : decode cX11_useWord 68 = .ok (.iadd, 1) := by decide +kernel
theorem dX11_useWord_69 : decode cX11_useWord 69 = .ok (.laload, 1) := by decide +kernel
theorem dX11_useWord_70 : decode cX11_useWord 70 = .ok (.l2i, 1) := by decide +kernel
theorem dX11_useWord_71 : decode cX11_useWord 71 = .ok (.iastore, 1) := by decide +kernel
theorem dX11_useWord_72 : decode cX11_useWord 72 = .ok (.iinc 2 1, 3) := by decide +kernel
theorem dX11_useWord_75 : decode cX11_useWord 75 = .ok (.goto (-29), 3) := by decide +kernel
theorem dX11_useWord_78 : decode cX11_useWord 78 = .ok (.aload_n 0, 1) := by decide +kernel
theorem dX11_useWord_79 : decode cX11_useWord 79 = .ok (.getfield 197, 3) := by decide +kernel
theorem dX11_useWord_82 : decode cX11_useWord 82 = .ok (.ireturn, 1) := by decide +kernel
set_option maxRecDepth 20000 in
theorem ggX11_shelfElement_X11_isShelf : GoodIn wsX11_shelfElement wsX11_isShelf := goodIn_r _ [9] (by decide +kernel) (by decide +kernel)
set_option maxRecDepth 20000 in
theorem gX11_shelfElement_X11_isShelf : GoodIn wsX11_shelfElement (va_wsS RX11 354 yX11_isShelf wsX11_isShelf) := goodIn_app (goodIn_of _ (by decide +kernel)) ggX11_shelfElement_X11_isShelf
set_option maxRecDepth 20000 in
theorem ggX11_shelfElement_X11_isBetween : GoodIn wsX11_shelfElement wsX11_isBetween := goodIn_r _ [12] (by decide +kernel) (by decide +kernel)
set_option maxRecDepth 20000 in
theorem gX11_shelfElement_X11_isBetween : GoodIn wsX11_shelfElement (va_wsS RX11 124 yX11_isBetween wsX11_isBetween) := goodIn_app (goodIn_of _ (by decide +kernel)) ggX11_shelfElement_X11_isBetween
theorem dX11_shelfElement_0 : decode cX11_shelfElement 0 = .ok (.iload_n 1, 1) := by decide +kernel
theorem dX11_shelfElement_1 : decode cX11_shelfElement 1 = .ok (.invokestatic 354, 3) := by decide +kernel
theorem dX11_shelfElement_4 : decode cX11_shelfElement 4 = .ok (.ifCond .ne 7, 3) := by decide +kernel
theorem dX11_shelfElement_7 : decode cX11_shelfElement 7 = .ok (.ldc2_w 204, 3) := by decide +kernel
theorem dX11_shelfElement_10 : decode cX11_shelfElement 10 = .ok (.lreturn, 1) := by decide +kernel
theorem dX11_shelfElement_11 : decode cX11_shelfElement 11 = .ok (.aload_n 0, 1) := by decide +kernel
theorem dX11_shelfElement_12 : decode cX11_shelfElement 12 = .ok (.getfield 97, 3) := by decide +kernel
theorem dX11_shelfElement_15 : decode cX11_shelfElement 15 = .ok (.iload_n 1, 1) := by decide +kernel
theorem dX11_shelfElement_16 : decode cX11_shelfElement 16 = .ok (.iaload, 1) := by decide +kernel
theorem dX11_shelfElement_17 : decode cX11_shelfElement 17 = .ok (.ifCond .ne 7, 3) := by decide +kernel
theorem dX11_shelfElement_20 : decode cX11_shelfElement 20 = .ok (.ldc2_w 359, 3) := by decide +kernel
theorem dX11_shelfElement_23 : decode cX11_shelfElement 23 = .ok (.lreturn, 1) := by decide +kernel
theorem dX11_shelfElement_24 : decode cX11_shelfElement 24 = .ok (.iload_n 2, 1) := by decide +kernel
theorem dX11_shelfElement_25 : decode cX11_shelfElement 25 = .ok (.i2l, 1) := by decide +kernel
theorem dX11_shelfElement_26 : decode cX11_shelfElement 26 = .ok (.lconst 0, 1) := by decide +kernel
theorem dX11_shelfElement_27 : decode cX11_shelfElement 27 = .ok (.aload_n 0, 1) := by decide +kernel
theorem dX11_shelfElement_28 : decode cX11_shelfElement 28 = .ok (.getfield 100, 3) := by decide +kernel
theorem dX11_shelfElement_31 : decode cX11_shelfElement 31 = .ok (.iload_n 1, 1) := by decide +kernel
theorem dX11_shelfElement_32 : decode cX11_shelfElement 32 = .ok (.iaload, 1) := by decide +kernel
theorem dX11_shelfElement_33 : decode cX11_shelfElement 33 = .ok (.iconst 1, 1) := by decide +kernel
theorem dX11_shelfElement_34 : decode cX11_shelfElement 34 = .ok (.isub, 1) := by decide +kernel
theorem dX11_shelfElement_35 : decode cX11_shelfElement 35 = .ok (.i2l, 1) := by decide +kernel
theorem dX11_shelfElement_36 : decode cX11_shelfElement 36 = .ok (.invokestatic 124, 3) := by decide +kernel
theorem dX11_shelfElement_39 : decode cX11_shelfElement 39 = .ok (.ifCond .eq 17, 3) := by decide +kernel
theorem dX11_shelfElement_42 : decode cX11_shelfElement 42 = .ok (.aload_n 0, 1) := by decide +kernel
theorem dX11_shelfElement_43 : decode cX11_shelfElement 43 = .ok (.getfield 103, 3) := by decide +kernel
theorem dX11_shelfElement_46 : decode cX11_shelfElement 46 = .ok (.bipush 31, 2) := by decide +kernel
theorem dX11_shelfElement_48 : decode cX11_shelfElement 48 = .ok (.iload_n 1, 1) := by decide +kernel
theorem dX11_shelfElement_49 : decode cX11_shelfElement 49 = .ok (.imul, 1) := by decide +kernel
theorem dX11_shelfElement_50 : decode cX11_shelfElement 50 = .ok (.iload_n 2, 1) := by decide +kernel
theorem dX11_shelfElement_51 : decode cX11_shelfElement 51 = .ok (.iadd, 1) := by decide +kernel
theorem dX11_shelfElement_52 : decode cX11_shelfElement 52 = .ok (.laload, 1) := by decide +kernel
theorem dX11_shelfElement_53 : decode cX11_shelfElement 53 = .ok (.goto 6, 3) := by decide +kernel
theorem dX11_shelfElement_56 : decode cX11_shelfElement 56 = .ok (.ldc2_w 204, 3) := by decide +kernel
theorem dX11_shelfElement_59 : decode cX11_shelfElement 59 = .ok (.lreturn, 1) := by decide +kernel
theorem dX11_save_0 : decode cX11_save 0 = .ok (.aload_n 0, 1) := by decide +kernel
theorem dX11_save_1 : decode cX11_save 1 = .ok (.iconst 1, 1) := by decide +kernel
theorem dX11_save_2 : decode cX11_save 2 = .ok (.putfield 361, 3) := by decide +kernel
theorem dX11_save_5 : decode cX11_save 5 = .ok (.iconst 0, 1) := by decide +kernel
theorem dX11_save_6 : decode cX11_save 6 = .ok (.istore_n 1, 1) := by decide +kernel
theorem dX11_save_7 : decode cX11_save 7 = .ok (.iload_n 1, 1) := by decide +kernel
theorem dX11_save_8 : decode cX11_save 8 = .ok (.bipush 18, 2) := by decide +kernel
theorem dX11_save_10 : decode cX11_save 10 = .ok (.if_icmp .ge 21, 3) := by decide +kernel
theorem dX11_save_13 : decode cX11_save 13 = .ok (.aload_n 0, 1) := by decide +kernel
theorem dX11_save_14 : decode cX11_save 14 = .ok (.getfield 109, 3) := by decide +kernel
theorem dX11_save_17 : decode cX11_save 17 = .ok (.iload_n 1, 1) := by decide +kernel
theorem dX11_save_18 : decode cX11_save 18 = .ok (.aload_n 0, 1) := by decide +kernel
theorem dX11_save_19 : decode cX11_save 19 = .ok (.getfield 7, 3) := by decide +kernel
theorem dX11_save_22 : decode cX11_save 22 = .ok (.iload_n 1, 1) := by decide +kernel
theorem dX11_save_23 : decode cX11_save 23 = .ok (.iaload, 1) := by decide +kernel
theorem dX11_save_24 : decode cX11_save 24 = .ok (.iastore, 1) := by decide +kernel
theorem dX11_save_25 : decode cX11_save 25 = .ok (.iinc 1 1, 3) := by decide +kernel
theorem dX11_save_28 : decode cX11_save 28 = .ok (.goto (-21), 3) := by decide +kernel
theorem dX11_save_31 : decode cX11_save 31 = .ok (.iconst 0, 1) := by decide +kernel
theorem dX11_save_32 : decode cX11_save 32 = .ok (.istore_n 1, 1) := by decide +kernel
theorem dX11_save_33 : decode cX11_save 33 = .ok (.iload_n 1, 1) := by decide +kernel
theorem dX11_save_34 : decode cX11_save 34 = .ok (.iconst 3, 1) := by decide +kernel
theorem dX11_save_35 : decode cX11_save 35 = .ok (.if_icmp .ge 24, 3) := by decide +kernel
theorem dX11_save_38 : decode cX11_save 38 = .ok (.aload_n 0, 1) := by decide +kernel
theorem dX11_save_39 : decode cX11_save 39 = .ok (.getfield 109, 3) := by decide +kernel
theorem dX11_save_42 : decode cX11_save 42 = .ok (.bipush 18, 2) := by decide +kernel
theorem dX11_save_44 : decode cX11_save 44 = .ok (.iload_n 1, 1) := by decide +kernel
theorem dX11_save_45 : decode cX11_save 45 = .ok (.iadd, 1) := by decide +kernel
theorem dX11_save_46 : decode cX11_save 46 = .ok (.aload_n 0, 1) := by decide +kernel
theorem dX11_save_47 : decode cX11_save 47 = .ok (.getfield 16, 3) := by decide +kernel
theorem dX11_save_50 : decode cX11_save 50 = .ok (.iload_n 1, 1) := by decide +kernel
theorem dX11_save_51 : decode cX11_save 51 = .ok (.iaload, 1) := by decide +kernel
theorem dX11_save_52 : decode cX11_save 52 = .ok (.iastore, 1) := by decide +kernel
theorem dX11_save_53 : decode cX11_save 53 = .ok (.iinc 1 1, 3) := by decide +kernel
theorem dX11_save_56 : decode cX11_save 56 = .ok (.goto (-23), 3) := by decide +kernel
theorem dX11_save_59 : decode cX11_save 59 = .ok (.aload_n 0, 1) := by decide +kernel
theorem dX11_save_60 : decode cX11_save 60 = .ok (.getfield 109, 3) := by decide +kernel
theorem dX11_save_63 : decode cX11_save 63 = .ok (.bipush 21, 2) := by decide +kernel
theorem dX11_save_65 : decode cX11_save 65 = .ok (.aload_n 0, 1) := by decide +kernel
theorem dX11_save_66 : decode cX11_save 66 = .ok (.getfield 19, 3) := by decide +kernel
theorem dX11_save_69 : decode cX11_save 69 = .ok (.iastore, 1) := by decide +kernel
theorem dX11_save_70 : decode cX11_save 70 = .ok (.aload_n 0, 1) := by decide +kernel
theorem dX11_save_71 : decode cX11_save 71 = .ok (.getfield 109, 3) := by decide +kernel
theorem dX11_save_74 : decode cX11_save 74 = .ok (.bipush 22, 2) := by decide +kernel
theorem dX11_save_76 : decode cX11_save 76 = .ok (.aload_n 0, 1) := by decide +kernel
theorem dX11_save_77 : decode cX11_save 77 = .ok (.getfield 112, 3) := by decide +kernel
theorem dX11_save_80 : decode cX11_save 80 = .ok (.iastore, 1) := by decide +kernel
theorem dX11_save_81 : decode cX11_save 81 = .ok (.aload_n 0, 1) := by decide +kernel
theorem dX11_save_82 : decode cX11_save 82 = .ok (.getfield 109, 3) := by decide +kernel
theorem dX11_save_85 : decode cX11_save 85 = .ok (.bipush 23, 2) := by decide +kernel
theorem dX11_save_87 : decode cX11_save 87 = .ok (.aload_n 0, 1) := by decide +kernel
theorem dX11_save_88 : decode cX11_save 88 = .ok (.getfield 115, 3) := by decide +kernel
theorem dX11_save_91 : decode cX11_save 91 = .ok (.iastore, 1) := by decide +kernel
theorem dX11_save_92 : decode cX11_save 92 = .ok (.aload_n 0, 1) := by decide +kernel
theorem dX11_save_93 : decode cX11_save 93 = .ok (.getfield 19, 3) := by decide +kernel
theorem dX11_save_96 : decode cX11_save 96 = .ok (.ireturn, 1) := by decide +kernel
theorem dX11_restore_0 : decode cX11_restore 0 = .ok (.aload_n 0, 1) := by decide +kernel
theorem dX11_restore_1 : decode cX11_restore 1 = .ok (.getfield 361, 3) := by decide +kernel
theorem dX11_restore_4 : decode cX11_restore 4 = .ok (.ifCond .ne 6, 3) := by decide +kernel
theorem dX11_restore_7 : decode cX11_restore 7 = .ok (.bipush (-4), 2) := by decide +kernel
theorem dX11_restore_9 : decode cX11_restore 9 = .ok (.ireturn, 1) := by decide +kernel
theorem dX11_restore_10 : decode cX11_restore 10 = .ok (.iconst 0, 1) := by decide +kernel
theorem dX11_restore_11 : decode cX11_restore 11 = .ok (.istore_n 1, 1) := by decide +kernel
theorem dX11_restore_12 : decode cX11_restore 12 = .ok (.iload_n 1, 1) := by decide +kernel
theorem dX11_restore_13 : decode cX11_restore 13 = .ok (.bipush 18, 2) := by decide +kernel
theorem dX11_restore_15 : decode cX11_restore 15 = .ok (.if_icmp .ge 21, 3) := by decide +kernel
theorem dX11_restore_18 : decode cX11_restore 18 = .ok (.aload_n 0, 1) := by decide +kernel
theorem dX11_restore_19 : decode cX11_restore 19 = .ok (.getfield 7, 3) := by decide +kernel
theorem dX11_restore_22 : decode cX11_restore 22 = .ok (.iload_n 1, 1) := by decide +kernel
theorem dX11_restore_23 : decode cX11_restore 23 = .ok (.aload_n 0, 1) := by decide +kernel
theorem dX11_restore_24 : decode cX11_restore 24 = .ok (.getfield 109, 3) := by decide +kernel
theorem dX11_restore_27 : decode cX11_restore 27 = .ok (.iload_n 1, 1) := by decide +kernel
theorem dX11_restore_28 : decode cX11_restore 28 = .ok (.iaload, 1) := by decide +kernel
theorem dX11_restore_29 : decode cX11_restore 29 = .ok (.iastore, 1) := by decide +kernel
theorem dX11_restore_30 : decode cX11_restore 30 = .ok (.iinc 1 1, 3) := by decide +kernel
theorem dX11_restore_33 : decode cX11_restore 33 = .ok (.goto (-21), 3) := by decide +kernel
theorem dX11_restore_36 : decode cX11_restore 36 = .ok (.iconst 0, 1) := by decide +kernel
theorem dX11_restore_37 : decode cX11_restore 37 = .ok (.istore_n 1, 1) := by decide +kernel
theorem dX11_restore_38 : decode cX11_restore 38 = .ok (.iload_n 1, 1) := by decide +kernel
theorem dX11_restore_39 : decode cX11_restore 39 = .ok (.iconst 3, 1) := by decide +kernel
theorem dX11_restore_40 : decode cX11_restore 40 = .ok (.if_icmp .ge 24, 3) := by decide +kernel
theorem dX11_restore_43 : decode cX11_restore 43 = .ok (.aload_n 0, 1) := by decide +kernel
theorem dX11_restore_44 : decode cX11_restore 44 = .ok (.getfield 16, 3) := by decide +kernel
theorem dX11_restore_47 : decode cX11_restore 47 = .ok (.iload_n 1, 1) := by decide +kernel
theorem dX11_restore_48 : decode cX11_restore 48 = .ok (.aload_n 0, 1) := by decide +kernel
theorem dX11_restore_49 : decode cX11_restore 49 = .ok (.getfield 109, 3) := by decide +kernel
theorem dX11_restore_52 : decode cX11_restore 52 = .ok (.bipush 18, 2) := by decide +kernel
theorem dX11_restore_54 : decode cX11_restore 54 = .ok (.iload_n 1, 1) := by decide +kernel
theorem dX11_restore_55 : decode cX11_restore 55 = .ok (.iadd, 1) := by decide +kernel
theorem dX11_restore_56 : decode cX11_restore 56 = .ok (.iaload, 1) := by decide +kernel
theorem dX11_restore_57 : decode cX11_restore 57 = .ok (.iastore, 1) := by decide +kernel
theorem dX11_restore_58 : decode cX11_restore 58 = .ok (.iinc 1 1, 3) := by decide +kernel
theorem dX11_restore_61 : decode cX11_restore 61 = .ok (.goto (-23), 3) := by decide +kernel
theorem dX11_restore_64 : decode cX11_restore 64 = .ok (.aload_n 0, 1) := by decide +kernel
theorem dX11_restore_65 : decode cX11_restore 65 = .ok (.aload_n 0, 1) := by decide +kernel
theorem dX11_restore_66 : decode cX11_restore 66 = .ok (.getfield 109, 3) := by decide +kernel
theorem dX11_restore_69 : decode cX11_restore 69 = .ok (.bipush 21, 2) := by decide +kernel
theorem dX11_restore_71 : decode cX11_restore 71 = .ok (.iaload, 1) := by decide +kernel
theorem dX11_restore_72 : decode cX11_restore 72 = .ok (.putfield 19, 3) := by decide +kernel
theorem dX11_restore_75 : decode cX11_restore 75 = .ok (.aload_n 0, 1) := by decide +kernel
theorem dX11_restore_76 : decode cX11_restore 76 = .ok (.aload_n 0, 1) := by decide +kernel
theorem dX11_restore_77 : decode cX11_restore 77 = .ok (.getfield 109, 3) := by decide +kernel
theorem dX11_restore_80 : decode cX11_restore 80 = .ok (.bipush 22, 2) := by decide +kernel
theorem dX11_restore_82 : decode cX11_restore 82 = .ok (.iaload, 1) := by decide +kernel
theorem dX11_restore_83 : decode cX11_restore 83 = .ok (.putfield 112, 3) := by decide +kernel
theorem dX11_restore_86 : decode cX11_restore 86 = .ok (.aload_n 0, 1) := by decide +kernel
theorem dX11_restore_87 : decode cX11_restore 87 = .ok (.aload_n 0, 1) := by decide +kernel
theorem dX11_restore_88 : decode cX11_restore 88 = .ok (.getfield 109, 3) := by decide +kernel
theorem dX11_restore_91 : decode cX11_restore 91 = .ok (.bipush 23, 2) := by decide +kernel
theorem dX11_restore_93 : decode cX11_restore 93 = .ok (.iaload, 1) := by decide +kernel
theorem dX11_restore_94 : decode cX11_restore 94 = .ok (.putfield 115, 3) := by decide +kernel
theorem dX11_restore_97 : decode cX11_restore 97 = .ok (.aload_n 0, 1) := by decide +kernel
theorem dX11_restore_98 : decode cX11_restore 98 = .ok (.iconst 0, 1) := by decide +kernel
theorem dX11_restore_99 : decode cX11_restore 99 = .ok (.putfield 118, 3) := by decide +kernel
theorem dX11_restore_102 : decode cX11_restore 102 = .ok (.aload_n 0, 1) := by decide +kernel
theorem dX11_restore_103 : decode cX11_restore 103 = .ok (.getfield 19, 3) := by decide +kernel
theorem dX11_restore_106 : decode cX11_restore 106 = .ok (.ireturn, 1) := by decide +kernel
