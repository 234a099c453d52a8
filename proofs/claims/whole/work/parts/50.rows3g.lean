theorem dX11_buildsSets_35 : decode cX11_buildsSets 35 = .ok (.aload_n 0, 1) := by decide +kernel
theorem dX11_buildsSets_36 : decode cX11_buildsSets 36 = .ok (.getfield 85, 3) := by decide +kernel
theorem dX11_buildsSets_39 : decode cX11_buildsSets 39 = .ok (.iload_n 1, 1) := by decide +kernel
theorem dX11_buildsSets_40 : decode cX11_buildsSets 40 = .ok (.iaload, 1) := by decide +kernel
theorem dX11_buildsSets_41 : decode cX11_buildsSets 41 = .ok (.iload_n 2, 1) := by decide +kernel
theorem dX11_buildsSets_42 : decode cX11_buildsSets 42 = .ok (.invokevirtual 143, 3) := by decide +kernel
theorem dX11_buildsSets_45 : decode cX11_buildsSets 45 = .ok (.istore_n 3, 1) := by decide +kernel
theorem dX11_buildsSets_46 : decode cX11_buildsSets 46 = .ok (.aload_n 0, 1) := by decide +kernel
theorem dX11_buildsSets_47 : decode cX11_buildsSets 47 = .ok (.getfield 91, 3) := by decide +kernel
theorem dX11_buildsSets_50 : decode cX11_buildsSets 50 = .ok (.iconst 3, 1) := by decide +kernel
theorem dX11_buildsSets_51 : decode cX11_buildsSets 51 = .ok (.iload_n 1, 1) := by decide +kernel
theorem dX11_buildsSets_52 : decode cX11_buildsSets 52 = .ok (.imul, 1) := by decide +kernel
theorem dX11_buildsSets_53 : decode cX11_buildsSets 53 = .ok (.iload_n 2, 1) := by decide +kernel
theorem dX11_buildsSets_54 : decode cX11_buildsSets 54 = .ok (.iadd, 1) := by decide +kernel
theorem dX11_buildsSets_55 : decode cX11_buildsSets 55 = .ok (.iload_n 3, 1) := by decide +kernel
theorem dX11_buildsSets_56 : decode cX11_buildsSets 56 = .ok (.ifCond .ne 7, 3) := by decide +kernel
theorem dX11_buildsSets_59 : decode cX11_buildsSets 59 = .ok (.lconst 0, 1) := by decide +kernel
theorem dX11_buildsSets_60 : decode cX11_buildsSets 60 = .ok (.goto 11, 3) := by decide +kernel
theorem dX11_buildsSets_63 : decode cX11_buildsSets 63 = .ok (.lconst 1, 1) := by decide +kernel
theorem dX11_buildsSets_64 : decode cX11_buildsSets 64 = .ok (.aload_n 0, 1) := by decide +kernel
theorem dX11_buildsSets_65 : decode cX11_buildsSets 65 = .ok (.iconst 0, 1) := by decide +kernel
theorem dX11_buildsSets_66 : decode cX11_buildsSets 66 = .ok (.iload_n 3, 1) := by decide +kernel
theorem dX11_buildsSets_67 : decode cX11_buildsSets 67 = .ok (.invokevirtual 338, 3) := by decide +kernel
theorem dX11_buildsSets_70 : decode cX11_buildsSets 70 = .ok (.lshl, 1) := by decide +kernel
theorem dX11_buildsSets_71 : decode cX11_buildsSets 71 = .ok (.lastore, 1) := by decide +kernel
theorem dX11_buildsSets_72 : decode cX11_buildsSets 72 = .ok (.iinc 2 1, 3) := by decide +kernel
theorem dX11_buildsSets_75 : decode cX11_buildsSets 75 = .ok (.goto (-46), 3) := by decide +kernel
theorem dX11_buildsSets_78 : decode cX11_buildsSets 78 = .ok (.iinc 1 1, 3) := by decide +kernel
theorem dX11_buildsSets_81 : decode cX11_buildsSets 81 = .ok (.goto (-62), 3) := by decide +kernel
theorem dX11_buildsSets_84 : decode cX11_buildsSets 84 = .ok (.iconst 1, 1) := by decide +kernel
theorem dX11_buildsSets_85 : decode cX11_buildsSets 85 = .ok (.ireturn, 1) := by decide +kernel
set_option maxRecDepth 20000 in
theorem ggX11_buildsPairs_X11_has : GoodIn wsX11_buildsPairs wsX11_has := goodIn_r _ [11] (by decide +kernel) (by decide +kernel)
set_option maxRecDepth 20000 in
theorem gX11_buildsPairs_X11_has : GoodIn wsX11_buildsPairs (va_wsS RX11 139 yX11_has wsX11_has) := goodIn_app (goodIn_of _ (by decide +kernel)) ggX11_buildsPairs_X11_has
set_option maxRecDepth 20000 in
theorem ggX11_buildsPairs_X11_numberOfState : GoodIn wsX11_buildsPairs wsX11_numberOfState := goodIn_r _ [15, 3, 5, 6, 20, 21, 22, 23, 24, 25, 26, 27, 28, 29, 30, 31, 32, 33, 34, 35, 36, 37, 38, 39, 40, 41, 42, 43, 44, 45, 46, 47, 48, 49, 50, 51, 52, 53, 54, 55, 56, 57, 58, 59, 60, 61, 62, 63, 64, 65, 66, 67, 68, 69] (by decide +kernel) (by decide +kernel)
set_option maxRecDepth 20000 in
theorem gX11_buildsPairs_X11_numberOfState : GoodIn wsX11_buildsPairs (wsV RX11 338 RX11 yX11_numberOfState wsX11_numberOfState) := goodIn_app (goodIn_of _ (by decide +kernel)) ggX11_buildsPairs_X11_numberOfState
set_option maxRecDepth 20000 in
theorem ggX11_buildsPairs_X11_step : GoodIn wsX11_buildsPairs wsX11_step := goodIn_r _ [19, 1, 4, 8, 9, 10, 11, 20, 21, 22, 23, 24, 25, 26, 27, 28, 29, 30, 31, 32, 33, 34, 35, 36, 37, 38, 39, 40, 41, 42, 43, 44, 45, 46, 47, 48, 49, 50, 51, 52, 53, 54, 55, 56, 57, 58, 59, 60, 61, 62, 63, 64, 65, 66, 67, 68, 69] (by rfl) (by decide +kernel)
set_option maxRecDepth 20000 in
theorem gX11_buildsPairs_X11_step : GoodIn wsX11_buildsPairs (wsV RX11 143 RX11 yX11_step wsX11_step) := goodIn_app (goodIn_of _ (by decide +kernel)) ggX11_buildsPairs_X11_step
theorem dX11_buildsPairs_0 : decode cX11_buildsPairs 0 = .ok (.iconst 0, 1) := by decide +kernel
theorem dX11_buildsPairs_1 : decode cX11_buildsPairs 1 = .ok (.istore_n 1, 1) := by decide +kernel
theorem dX11_buildsPairs_2 : decode cX11_buildsPairs 2 = .ok (.iload_n 1, 1) := by decide +kernel
theorem dX11_buildsPairs_3 : decode cX11_buildsPairs 3 = .ok (.aload_n 0, 1) := by decide +kernel
theorem dX11_buildsPairs_4 : decode cX11_buildsPairs 4 = .ok (.getfield 19, 3) := by decide +kernel
theorem dX11_buildsPairs_7 : decode cX11_buildsPairs 7 = .ok (.if_icmp .ge 37, 3) := by decide +kernel
theorem dX11_buildsPairs_10 : decode cX11_buildsPairs 10 = .ok (.aload_n 0, 1) := by decide +kernel
theorem dX11_buildsPairs_11 : decode cX11_buildsPairs 11 = .ok (.getfield 112, 3) := by decide +kernel
theorem dX11_buildsPairs_14 : decode cX11_buildsPairs 14 = .ok (.i2l, 1) := by decide +kernel
theorem dX11_buildsPairs_15 : decode cX11_buildsPairs 15 = .ok (.iload_n 1, 1) := by decide +kernel
theorem dX11_buildsPairs_16 : decode cX11_buildsPairs 16 = .ok (.invokestatic 139, 3) := by decide +kernel
theorem dX11_buildsPairs_19 : decode cX11_buildsPairs 19 = .ok (.ifCond .eq 19, 3) := by decide +kernel
theorem dX11_buildsPairs_22 : decode cX11_buildsPairs 22 = .ok (.aload_n 0, 1) := by decide +kernel
theorem dX11_buildsPairs_23 : decode cX11_buildsPairs 23 = .ok (.iload_n 1, 1) := by decide +kernel
theorem dX11_buildsPairs_24 : decode cX11_buildsPairs 24 = .ok (.aload_n 0, 1) := by decide +kernel
theorem dX11_buildsPairs_25 : decode cX11_buildsPairs 25 = .ok (.getfield 112, 3) := by decide +kernel
theorem dX11_buildsPairs_28 : decode cX11_buildsPairs 28 = .ok (.iconst 1, 1) := by decide +kernel
theorem dX11_buildsPairs_29 : decode cX11_buildsPairs 29 = .ok (.iload_n 1, 1) := by decide +kernel
theorem dX11_buildsPairs_30 : decode cX11_buildsPairs 30 = .ok (.ishl, 1) := by decide +kernel
theorem dX11_buildsPairs_31 : decode cX11_buildsPairs 31 = .ok (.iconst 1, 1) := by decide +kernel
theorem dX11_buildsPairs_32 : decode cX11_buildsPairs 32 = .ok (.isub, 1) := by decide +kernel
theorem dX11_buildsPairs_33 : decode cX11_buildsPairs 33 = .ok (.iand, 1) := by decide +kernel
theorem dX11_buildsPairs_34 : decode cX11_buildsPairs 34 = .ok (.invokevirtual 338, 3) := by decide +kernel
theorem dX11_buildsPairs_37 : decode cX11_buildsPairs 37 = .ok (.pop, 1) := by decide +kernel
theorem dX11_buildsPairs_38 : decode cX11_buildsPairs 38 = .ok (.iinc 1 1, 3) := by decide +kernel
theorem dX11_buildsPairs_41 : decode cX11_buildsPairs 41 = .ok (.goto (-39), 3) := by decide +kernel
theorem dX11_buildsPairs_44 : decode cX11_buildsPairs 44 = .ok (.iconst 0, 1) := by decide +kernel
theorem dX11_buildsPairs_45 : decode cX11_buildsPairs 45 = .ok (.istore_n 1, 1) := by decide +kernel
theorem dX11_buildsPairs_46 : decode cX11_buildsPairs 46 = .ok (.iload_n 1, 1) := by decide +kernel
theorem dX11_buildsPairs_47 : decode cX11_buildsPairs 47 = .ok (.aload_n 0, 1) := by decide +kernel
theorem dX11_buildsPairs_48 : decode cX11_buildsPairs 48 = .ok (.getfield 335, 3) := by decide +kernel
theorem dX11_buildsPairs_51 : decode cX11_buildsPairs 51 = .ok (.if_icmp .ge 128, 3) := by decide +kernel
theorem dX11_buildsPairs_54 : decode cX11_buildsPairs 54 = .ok (.iconst 0, 1) := by decide +kernel
theorem dX11_buildsPairs_55 : decode cX11_buildsPairs 55 = .ok (.istore_n 2, 1) := by decide +kernel
theorem dX11_buildsPairs_56 : decode cX11_buildsPairs 56 = .ok (.iload_n 2, 1) := by decide +kernel
theorem dX11_buildsPairs_57 : decode cX11_buildsPairs 57 = .ok (.iconst 3, 1) := by decide +kernel
theorem dX11_buildsPairs_58 : decode cX11_buildsPairs 58 = .ok (.if_icmp .ge 115, 3) := by decide +kernel
theorem dX11_buildsPairs_61 : decode cX11_buildsPairs 61 = .ok (.lconst 0, 1) := by decide +kernel
theorem dX11_buildsPairs_62 : decode cX11_buildsPairs 62 = .ok (.lstore_n 3, 1) := by decide +kernel
theorem dX11_buildsPairs_63 : decode cX11_buildsPairs 63 = .ok (.aload_n 0, 1) := by decide +kernel
theorem dX11_buildsPairs_64 : decode cX11_buildsPairs 64 = .ok (.getfield 7, 3) := by decide +kernel
theorem dX11_buildsPairs_67 : decode cX11_buildsPairs 67 = .ok (.bipush 6, 2) := by decide +kernel
theorem dX11_buildsPairs_69 : decode cX11_buildsPairs 69 = .ok (.iload_n 2, 1) := by decide +kernel
theorem dX11_buildsPairs_70 : decode cX11_buildsPairs 70 = .ok (.imul, 1) := by decide +kernel
theorem dX11_buildsPairs_71 : decode cX11_buildsPairs 71 = .ok (.aload_n 0, 1) := by decide +kernel
theorem dX11_buildsPairs_72 : decode cX11_buildsPairs 72 = .ok (.getfield 82, 3) := by decide +kernel
theorem dX11_buildsPairs_75 : decode cX11_buildsPairs 75 = .ok (.iload_n 1, 1) := by decide +kernel
theorem dX11_buildsPairs_76 : decode cX11_buildsPairs 76 = .ok (.iaload, 1) := by decide +kernel
theorem dX11_buildsPairs_77 : decode cX11_buildsPairs 77 = .ok (.iadd, 1) := by decide +kernel
theorem dX11_buildsPairs_78 : decode cX11_buildsPairs 78 = .ok (.iaload, 1) := by decide +kernel
theorem dX11_buildsPairs_79 : decode cX11_buildsPairs 79 = .ok (.istore 5, 2) := by decide +kernel
theorem dX11_buildsPairs_81 : decode cX11_buildsPairs 81 = .ok (.iconst 0, 1) := by decide +kernel
theorem dX11_buildsPairs_82 : decode cX11_buildsPairs 82 = .ok (.istore 6, 2) := by decide +kernel
theorem dX11_buildsPairs_84 : decode cX11_buildsPairs 84 = .ok (.iload 6, 2) := by decide +kernel
theorem dX11_buildsPairs_86 : decode cX11_buildsPairs 86 = .ok (.aload_n 0, 1) := by decide +kernel
theorem dX11_buildsPairs_87 : decode cX11_buildsPairs 87 = .ok (.getfield 19, 3) := by decide +kernel
theorem dX11_buildsPairs_90 : decode cX11_buildsPairs 90 = .ok (.if_icmp .ge 66, 3) := by decide +kernel
theorem dX11_buildsPairs_93 : decode cX11_buildsPairs 93 = .ok (.iload 5, 2) := by decide +kernel
theorem dX11_buildsPairs_95 : decode cX11_buildsPairs 95 = .ok (.i2l, 1) := by decide +kernel
theorem dX11_buildsPairs_96 : decode cX11_buildsPairs 96 = .ok (.iload 6, 2) := by decide +kernel
theorem dX11_buildsPairs_98 : decode cX11_buildsPairs 98 = .ok (.invokestatic 139, 3) := by decide +kernel
theorem dX11_buildsPairs_101 : decode cX11_buildsPairs 101 = .ok (.ifCond .ne 6, 3) := by decide +kernel
theorem dX11_buildsPairs_104 : decode cX11_buildsPairs 104 = .ok (.goto 46, 3) := by decide +kernel
theorem dX11_buildsPairs_107 : decode cX11_buildsPairs 107 = .ok (.aload_n 0, 1) := by decide +kernel
theorem dX11_buildsPairs_108 : decode cX11_buildsPairs 108 = .ok (.iload 6, 2) := by decide +kernel
theorem dX11_buildsPairs_110 : decode cX11_buildsPairs 110 = .ok (.aload_n 0, 1) := by decide +kernel
theorem dX11_buildsPairs_111 : decode cX11_buildsPairs 111 = .ok (.aload_n 0, 1) := by decide +kernel
theorem dX11_buildsPairs_112 : decode cX11_buildsPairs 112 = .ok (.getfield 85, 3) := by decide +kernel
theorem dX11_buildsPairs_115 : decode cX11_buildsPairs 115 = .ok (.iload_n 1, 1) := by decide +kernel
theorem dX11_buildsPairs_116 : decode cX11_buildsPairs 116 = .ok (.iaload, 1) := by decide +kernel
theorem dX11_buildsPairs_117 : decode cX11_buildsPairs 117 = .ok (.iload_n 2, 1) := by decide +kernel
theorem dX11_buildsPairs_118 : decode cX11_buildsPairs 118 = .ok (.invokevirtual 143, 3) := by decide +kernel
theorem dX11_buildsPairs_121 : decode cX11_buildsPairs 121 = .ok (.iload 5, 2) := by decide +kernel
theorem dX11_buildsPairs_123 : decode cX11_buildsPairs 123 = .ok (.iconst 1, 1) := by decide +kernel
theorem dX11_buildsPairs_124 : decode cX11_buildsPairs 124 = .ok (.iload 6, 2) := by decide +kernel
theorem dX11_buildsPairs_126 : decode cX11_buildsPairs 126 = .ok (.ishl, 1) := by decide +kernel
theorem dX11_buildsPairs_127 : decode cX11_buildsPairs 127 = .ok (.iconst 1, 1) := by decide +kernel
theorem dX11_buildsPairs_128 : decode cX11_buildsPairs 128 = .ok (.isub, 1) := by decide +kernel
theorem dX11_buildsPairs_129 : decode cX11_buildsPairs 129 = .ok (.iand, 1) := by decide +kernel
theorem dX11_buildsPairs_130 : decode cX11_buildsPairs 130 = .ok (.ior, 1) := by decide +kernel
theorem dX11_buildsPairs_131 : decode cX11_buildsPairs 131 = .ok (.invokevirtual 338, 3) := by decide +kernel
theorem dX11_buildsPairs_134 : decode cX11_buildsPairs 134 = .ok (.istore 7, 2) := by decide +kernel
theorem dX11_buildsPairs_136 : decode cX11_buildsPairs 136 = .ok (.iload 7, 2) := by decide +kernel
theorem dX11_buildsPairs_138 : decode cX11_buildsPairs 138 = .ok (.ifCond .ge 5, 3) := by decide +kernel
theorem dX11_buildsPairs_141 : decode cX11_buildsPairs 141 = .ok (.iconst 0, 1) := by decide +kernel
theorem dX11_buildsPairs_142 : decode cX11_buildsPairs 142 = .ok (.ireturn, 1) := by decide +kernel
theorem dX11_buildsPairs_143 : decode cX11_buildsPairs 143 = .ok (.lload_n 3, 1) := by decide +kernel
theorem dX11_buildsPairs_144 : decode cX11_buildsPairs 144 = .ok (.lconst 1, 1) := by decide +kernel
theorem dX11_buildsPairs_145 : decode cX11_buildsPairs 145 = .ok (.iload 7, 2) := by decide +kernel
theorem dX11_buildsPairs_147 : decode cX11_buildsPairs 147 = .ok (.lshl, 1) := by decide +kernel
theorem dX11_buildsPairs_148 : decode cX11_buildsPairs 148 = .ok (.lor, 1) := by decide +kernel
theorem dX11_buildsPairs_149 : decode cX11_buildsPairs 149 = .ok (.lstore_n 3, 1) := by decide +kernel
theorem dX11_buildsPairs_150 : decode cX11_buildsPairs 150 = .ok (.iinc 6 1, 3) := by decide +kernel
theorem dX11_buildsPairs_153 : decode cX11_buildsPairs 153 = .ok (.goto (-69), 3) := by decide +kernel
theorem dX11_buildsPairs_156 : decode cX11_buildsPairs 156 = .ok (.aload_n 0, 1) := by decide +kernel
theorem dX11_buildsPairs_157 : decode cX11_buildsPairs 157 = .ok (.getfield 91, 3) := by decide +kernel
theorem dX11_buildsPairs_160 : decode cX11_buildsPairs 160 = .ok (.iconst 3, 1) := by decide +kernel
theorem dX11_buildsPairs_161 : decode cX11_buildsPairs 161 = .ok (.iload_n 1, 1) := by decide +kernel
theorem dX11_buildsPairs_162 : decode cX11_buildsPairs 162 = .ok (.imul, 1) := by decide +kernel
theorem dX11_buildsPairs_163 : decode cX11_buildsPairs 163 = .ok (.iload_n 2, 1) := by decide +kernel
theorem dX11_buildsPairs_164 : decode cX11_buildsPairs 164 = .ok (.iadd, 1) := by decide +kernel
theorem dX11_buildsPairs_165 : decode cX11_buildsPairs 165 = .ok (.lload_n 3, 1) := by decide +kernel
theorem dX11_buildsPairs_166 : decode cX11_buildsPairs 166 = .ok (.lastore, 1) := by decide +kernel
theorem dX11_buildsPairs_167 : decode cX11_buildsPairs 167 = .ok (.iinc 2 1, 3) := by decide +kernel
theorem dX11_buildsPairs_170 : decode cX11_buildsPairs 170 = .ok (.goto (-114), 3) := by decide +kernel
theorem dX11_buildsPairs_173 : decode cX11_buildsPairs 173 = .ok (.iinc 1 1, 3) := by decide +kernel
theorem dX11_buildsPairs_176 : decode cX11_buildsPairs 176 = .ok (.goto (-130), 3) := by decide +kernel
theorem dX11_buildsPairs_179 : decode cX11_buildsPairs 179 = .ok (.iconst 1, 1) := by decide +kernel
theorem dX11_buildsPairs_180 : decode cX11_buildsPairs 180 = .ok (.ireturn, 1) := by decide +kernel
set_option maxRecDepth 20000 in
theorem ggX11_build_X11_isBetween : GoodIn wsX11_build wsX11_isBetween := goodIn_r _ [17] (by decide +kernel) (by decide +kernel)
set_option maxRecDepth 20000 in
theorem gX11_build_X11_isBetween : GoodIn wsX11_build (va_wsS RX11 124 yX11_isBetween wsX11_isBetween) := goodIn_app (goodIn_of _ (by decide +kernel)) ggX11_build_X11_isBetween
set_option maxRecDepth 20000 in
theorem ggX11_build_X11_buildsSets : GoodIn wsX11_build wsX11_buildsSets := goodIn_r _ [21, 13, 1, 8, 10, 22, 23, 24, 16, 25, 6, 26, 27, 28, 29, 12, 30, 31, 32, 33, 38, 39, 40, 41, 42, 43, 44, 45, 46, 47, 48, 49, 50, 51, 52, 53, 54, 55, 56, 57, 58, 59, 60, 61, 62, 63, 64, 65, 66, 67, 68, 69, 70, 71, 72, 73, 74, 75, 76, 77, 78, 79, 80, 81, 82, 83, 84, 85, 86, 87] (by rfl) (by decide +kernel)
set_option maxRecDepth 20000 in
theorem gX11_build_X11_buildsSets : GoodIn wsX11_build (wsV RX11 341 RX11 yX11_buildsSets wsX11_buildsSets) := goodIn_app (goodIn_of _ (by decide +kernel)) ggX11_build_X11_buildsSets
set_option maxRecDepth 20000 in
theorem ggX11_build_X11_buildsPairs : GoodIn wsX11_build wsX11_buildsPairs := goodIn_r _ [37, 12, 13, 1, 30, 6, 8, 10, 31, 32, 16, 33, 22, 23, 24, 25, 26, 27, 28, 29, 38, 39, 40, 41, 42, 43, 44, 45, 46, 47, 48, 49, 50, 51, 52, 53, 54, 55, 56, 57, 58, 59, 60, 61, 62, 63, 64, 65, 66, 67, 68, 69, 70, 71, 72, 73, 74, 75, 76, 77, 78, 79, 80, 81, 82, 83, 84, 85, 86, 87] (by rfl) (by decide +kernel)
set_option maxRecDepth 20000 in
theorem gX11_build_X11_buildsPairs : GoodIn wsX11_build (wsV RX11 344 RX11 yX11_buildsPairs wsX11_buildsPairs) := goodIn_app (goodIn_of _ (by decide +kernel)) ggX11_build_X11_buildsPairs
set_option maxRecDepth 20000 in
theorem ggX11_build_X11_has : GoodIn wsX11_build wsX11_has := goodIn_r _ [33] (by decide +kernel) (by decide +kernel)
set_option maxRecDepth 20000 in
theorem gX11_build_X11_has : GoodIn wsX11_build (va_wsS RX11 139 yX11_has wsX11_has) := goodIn_app (goodIn_of _ (by decide +kernel)) ggX11_build_X11_has
theorem dX11_build_0 : decode cX11_build 0 = .ok (.iload_n 1, 1) := by decide +kernel
theorem dX11_build_1 : decode cX11_build 1 = .ok (.i2l, 1) := by decide +kernel
theorem dX11_build_2 : decode cX11_build 2 = .ok (.lconst 0, 1) := by decide +kernel
theorem dX11_build_3 : decode cX11_build 3 = .ok (.lconst 1, 1) := by decide +kernel
theorem dX11_build_4 : decode cX11_build 4 = .ok (.invokestatic 124, 3) := by decide +kernel
theorem dX11_build_7 : decode cX11_build 7 = .ok (.ifCond .ne 5, 3) := by decide +kernel
theorem dX11_build_10 : decode cX11_build 10 = .ok (.iconst (-1), 1) := by decide +kernel
theorem dX11_build_11 : decode cX11_build 11 = .ok (.ireturn, 1) := by decide +kernel
theorem dX11_build_12 : decode cX11_build 12 = .ok (.aload_n 0, 1) := by decide +kernel
theorem dX11_build_13 : decode cX11_build 13 = .ok (.iconst 0, 1) := by decide +kernel
theorem dX11_build_14 : decode cX11_build 14 = .ok (.putfield 335, 3) := by decide +kernel
theorem dX11_build_17 : decode cX11_build 17 = .ok (.iload_n 1, 1) := by decide +kernel
theorem dX11_build_18 : decode cX11_build 18 = .ok (.ifCond .ne 13, 3) := by decide +kernel
theorem dX11_build_21 : decode cX11_build 21 = .ok (.aload_n 0, 1) := by decide +kernel
theorem dX11_build_22 : decode cX11_build 22 = .ok (.invokevirtual 341, 3) := by decide +kernel
theorem dX11_build_25 : decode cX11_build 25 = .ok (.ifCond .eq 13, 3) := by decide +kernel
theorem dX11_build_28 : decode cX11_build 28 = .ok (.goto 13, 3) := by decide +kernel
theorem dX11_build_31 : decode cX11_build 31 = .ok (.aload_n 0, 1) := by decide +kernel
theorem dX11_build_32 : decode cX11_build 32 = .ok (.invokevirtual 344, 3) := by decide +kernel
theorem dX11_build_35 : decode cX11_build 35 = .ok (.ifCond .ne 6, 3) := by decide +kernel
theorem dX11_build_38 : decode cX11_build 38 = .ok (.bipush (-5), 2) := by decide +kernel
theorem dX11_build_40 : decode cX11_build 40 = .ok (.ireturn, 1) := by decide +kernel
theorem dX11_build_41 : decode cX11_build 41 = .ok (.aload_n 0, 1) := by decide +kernel
theorem dX11_build_42 : decode cX11_build 42 = .ok (.aload_n 0, 1) := by decide +kernel
theorem dX11_build_43 : decode cX11_build 43 = .ok (.getfield 335, 3) := by decide +kernel
theorem dX11_build_46 : decode cX11_build 46 = .ok (.putfield 94, 3) := by decide +kernel
theorem dX11_build_49 : decode cX11_build 49 = .ok (.aload_n 0, 1) := by decide +kernel
theorem dX11_build_50 : decode cX11_build 50 = .ok (.lconst 0, 1) := by decide +kernel
theorem dX11_build_51 : decode cX11_build 51 = .ok (.putfield 347, 3) := by decide +kernel
theorem dX11_build_54 : decode cX11_build 54 = .ok (.aload_n 0, 1) := by decide +kernel
theorem dX11_build_55 : decode cX11_build 55 = .ok (.lconst 0, 1) := by decide +kernel
theorem dX11_build_56 : decode cX11_build 56 = .ok (.putfield 351, 3) := by decide +kernel
theorem dX11_build_59 : decode cX11_build 59 = .ok (.iconst 0, 1) := by decide +kernel
theorem dX11_build_60 : decode cX11_build 60 = .ok (.istore_n 2, 1) := by decide +kernel
theorem dX11_build_61 : decode cX11_build 61 = .ok (.iload_n 2, 1) := by decide +kernel
theorem dX11_build_62 : decode cX11_build 62 = .ok (.aload_n 0, 1) := by decide +kernel
theorem dX11_build_63 : decode cX11_build 63 = .ok (.getfield 335, 3) := by decide +kernel
theorem dX11_build_66 : decode cX11_build 66 = .ok (.if_icmp .ge 149, 3) := by decide +kernel
theorem dX11_build_69 : decode cX11_build 69 = .ok (.aload_n 0, 1) := by decide +kernel
theorem dX11_build_70 : decode cX11_build 70 = .ok (.getfield 76, 3) := by decide +kernel
theorem dX11_build_73 : decode cX11_build 73 = .ok (.iload_n 2, 1) := by decide +kernel
theorem dX11_build_74 : decode cX11_build 74 = .ok (.aload_n 0, 1) := by decide +kernel
theorem dX11_build_75 : decode cX11_build 75 = .ok (.getfield 82, 3) := by decide +kernel
theorem dX11_build_78 : decode cX11_build 78 = .ok (.iload_n 2, 1) := by decide +kernel
theorem dX11_build_79 : decode cX11_build 79 = .ok (.iaload, 1) := by decide +kernel
theorem dX11_build_80 : decode cX11_build 80 = .ok (.iastore, 1) := by decide +kernel
theorem dX11_build_81 : decode cX11_build 81 = .ok (.aload_n 0, 1) := by decide +kernel
theorem dX11_build_82 : decode cX11_build 82 = .ok (.getfield 79, 3) := by decide +kernel
theorem dX11_build_85 : decode cX11_build 85 = .ok (.iload_n 2, 1) := by decide +kernel
theorem dX11_build_86 : decode cX11_build 86 = .ok (.aload_n 0, 1) := by decide +kernel
theorem dX11_build_87 : decode cX11_build 87 = .ok (.getfield 85, 3) := by decide +kernel
theorem dX11_build_90 : decode cX11_build 90 = .ok (.iload_n 2, 1) := by decide +kernel
theorem dX11_build_91 : decode cX11_build 91 = .ok (.iaload, 1) := by decide +kernel
theorem dX11_build_92 : decode cX11_build 92 = .ok (.iastore, 1) := by decide +kernel
theorem dX11_build_93 : decode cX11_build 93 = .ok (.iconst 0, 1) := by decide +kernel
theorem dX11_build_94 : decode cX11_build 94 = .ok (.istore_n 3, 1) := by decide +kernel
theorem dX11_build_95 : decode cX11_build 95 = .ok (.iload_n 3, 1) := by decide +kernel
theorem dX11_build_96 : decode cX11_build 96 = .ok (.iconst 3, 1) := by decide +kernel
theorem dX11_build_97 : decode cX11_build 97 = .ok (.if_icmp .ge 29, 3) := by decide +kernel
theorem dX11_build_100 : decode cX11_build 100 = .ok (.aload_n 0, 1) := by decide +kernel
theorem dX11_build_101 : decode cX11_build 101 = .ok (.getfield 88, 3) := by decide +kernel
theorem dX11_build_104 : decode cX11_build 104 = .ok (.iconst 3, 1) := by decide +kernel
theorem dX11_build_105 : decode cX11_build 105 = .ok (.iload_n 2, 1) := by decide +kernel
theorem dX11_build_106 : decode cX11_build 106 = .ok (.imul, 1) := by decide +kernel
theorem dX11_build_107 : decode cX11_build 107 = .ok (.iload_n 3, 1) := by decide +kernel
theorem dX11_build_108 : decode cX11_build 108 = .ok (.iadd, 1) := by decide +kernel
theorem dX11_build_109 : decode cX11_build 109 = .ok (.aload_n 0, 1) := by decide +kernel
theorem dX11_build_110 : decode cX11_build 110 = .ok (.getfield 91, 3) := by decide +kernel
theorem dX11_build_113 : decode cX11_build 113 = .ok (.iconst 3, 1) := by decide +kernel
theorem dX11_build_114 : decode cX11_build 114 = .ok (.iload_n 2, 1) := by decide +kernel
theorem dX11_build_115 : decode cX11_build 115 = .ok (.imul, 1) := by decide +kernel
theorem dX11_build_116 : decode cX11_build 116 = .ok (.iload_n 3, 1) := by decide +kernel
theorem dX11_build_117 : decode cX11_build 117 = .ok (.iadd, 1) := by decide +kernel
theorem dX11_build_118 : decode cX11_build 118 = .ok (.laload, 1) := by decide +kernel
theorem dX11_build_119 : decode cX11_build 119 = .ok (.lastore, 1) := by decide +kernel
theorem dX11_build_120 : decode cX11_build 120 = .ok (.iinc 3 1, 3) := by decide +kernel
theorem dX11_build_123 : decode cX11_build 123 = .ok (.goto (-28), 3) := by decide +kernel
theorem dX11_build_126 : decode cX11_build 126 = .ok (.iload_n 1, 1) := by decide +kernel
theorem dX11_build_127 : decode cX11_build 127 = .ok (.ifCond .ne 25, 3) := by decide +kernel
theorem dX11_build_130 : decode cX11_build 130 = .ok (.aload_n 0, 1) := by decide +kernel
theorem dX11_build_131 : decode cX11_build 131 = .ok (.getfield 79, 3) := by decide +kernel
theorem dX11_build_134 : decode cX11_build 134 = .ok (.iload_n 2, 1) := by decide +kernel
theorem dX11_build_135 : decode cX11_build 135 = .ok (.iaload, 1) := by decide +kernel
theorem dX11_build_136 : decode cX11_build 136 = .ok (.aload_n 0, 1) := by decide +kernel
theorem dX11_build_137 : decode cX11_build 137 = .ok (.getfield 115, 3) := by decide +kernel
theorem dX11_build_140 : decode cX11_build 140 = .ok (.iand, 1) := by decide +kernel
theorem dX11_build_141 : decode cX11_build 141 = .ok (.ifCond .eq 7, 3) := by decide +kernel
theorem dX11_build_144 : decode cX11_build 144 = .ok (.iconst 1, 1) := by decide +kernel
theorem dX11_build_145 : decode cX11_build 145 = .ok (.goto 43, 3) := by decide +kernel
theorem dX11_build_148 : decode cX11_build 148 = .ok (.iconst 0, 1) := by decide +kernel
theorem dX11_build_149 : decode cX11_build 149 = .ok (.goto 39, 3) := by decide +kernel
theorem dX11_build_152 : decode cX11_build 152 = .ok (.aload_n 0, 1) := by decide +kernel
theorem dX11_build_153 : decode cX11_build 153 = .ok (.getfield 115, 3) := by decide +kernel
theorem dX11_build_156 : decode cX11_build 156 = .ok (.i2l, 1) := by decide +kernel
theorem dX11_build_157 : decode cX11_build 157 = .ok (.aload_n 0, 1) := by decide +kernel
theorem dX11_build_158 : decode cX11_build 158 = .ok (.getfield 76, 3) := by decide +kernel
theorem dX11_build_161 : decode cX11_build 161 = .ok (.iload_n 2, 1) := by decide +kernel
theorem dX11_build_162 : decode cX11_build 162 = .ok (.iaload, 1) := by decide +kernel
theorem dX11_build_163 : decode cX11_build 163 = .ok (.invokestatic 139, 3) := by decide +kernel
theorem dX11_build_166 : decode cX11_build 166 = .ok (.ifCond .eq 21, 3) := by decide +kernel
theorem dX11_build_169 : decode cX11_build 169 = .ok (.aload_n 0, 1) := by decide +kernel
theorem dX11_build_170 : decode cX11_build 170 = .ok (.getfield 79, 3) := by decide +kernel
theorem dX11_build_173 : decode cX11_build 173 = .ok (.iload_n 2, 1) := by decide +kernel
theorem dX11_build_174 : decode cX11_build 174 = .ok (.iaload, 1) := by decide +kernel
theorem dX11_build_175 : decode cX11_build 175 = .ok (.aload_n 0, 1) := by decide +kernel
theorem dX11_build_176 : decode cX11_build 176 = .ok (.getfield 115, 3) := by decide +kernel
theorem dX11_build_179 : decode cX11_build 179 = .ok (.iand, 1) := by decide +kernel
theorem dX11_build_180 : decode cX11_build 180 = .ok (.ifCond .ne 7, 3) := by decide +kernel
theorem dX11_build_183 : decode cX11_build 183 = .ok (.iconst 1, 1) := by decide +kernel
theorem dX11_build_184 : decode cX11_build 184 = .ok (.goto 4, 3) := by decide +kernel
theorem dX11_build_187 : decode cX11_build 187 = .ok (.iconst 0, 1) := by decide +kernel
theorem dX11_build_188 : decode cX11_build 188 = .ok (.istore_n 3, 1) := by decide +kernel
theorem dX11_build_189 : decode cX11_build 189 = .ok (.aload_n 0, 1) := by decide +kernel
theorem dX11_build_190 : decode cX11_build 190 = .ok (.dup, 1) := by decide +kernel
theorem dX11_build_191 : decode cX11_build 191 = .ok (.getfield 351, 3) := by decide +kernel
theorem dX11_build_194 : decode cX11_build 194 = .ok (.iload_n 3, 1) := by decide +kernel
theorem dX11_build_195 : decode cX11_build 195 = .ok (.ifCond .eq 9, 3) := by decide +kernel
theorem dX11_build_198 : decode cX11_build 198 = .ok (.lconst 1, 1) := by decide +kernel
theorem dX11_build_199 : decode cX11_build 199 = .ok (.iload_n 2, 1) := by decide +kernel
theorem dX11_build_200 : decode cX11_build 200 = .ok (.lshl, 1) := by decide +kernel
theorem dX11_build_201 : decode cX11_build 201 = .ok (.goto 4, 3) := by decide +kernel
theorem dX11_build_204 : decode cX11_build 204 = .ok (.lconst 0, 1) := by decide +kernel
theorem dX11_build_205 : decode cX11_build 205 = .ok (.lor, 1) := by decide +kernel
theorem dX11_build_206 : decode cX11_build 206 = .ok (.putfield 351, 3) := by decide +kernel
theorem dX11_build_209 : decode cX11_build 209 = .ok (.iinc 2 1, 3) := by decide +kernel
theorem dX11_build_212 : decode cX11_build 212 = .ok (.goto (-151), 3) := by decide +kernel
theorem dX11_build_215 : decode cX11_build 215 = .ok (.iconst 0, 1) := by decide +kernel
theorem dX11_build_216 : decode cX11_build 216 = .ok (.istore_n 2, 1) := by decide +kernel
theorem dX11_build_217 : decode cX11_build 217 = .ok (.iconst 0, 1) := by decide +kernel
theorem dX11_build_218 : decode cX11_build 218 = .ok (.istore_n 3, 1) := by decide +kernel
theorem dX11_build_219 : decode cX11_build 219 = .ok (.iload_n 3, 1) := by decide +kernel
theorem dX11_build_220 : decode cX11_build 220 = .ok (.aload_n 0, 1) := by decide +kernel
theorem dX11_build_221 : decode cX11_build 221 = .ok (.getfield 19, 3) := by decide +kernel
theorem dX11_build_224 : decode cX11_build 224 = .ok (.if_icmp .ge 20, 3) := by decide +kernel
theorem dX11_build_227 : decode cX11_build 227 = .ok (.iload_n 2, 1) := by decide +kernel
theorem dX11_build_228 : decode cX11_build 228 = .ok (.aload_n 0, 1) := by decide +kernel
theorem dX11_build_229 : decode cX11_build 229 = .ok (.getfield 112, 3) := by decide +kernel
theorem dX11_build_232 : decode cX11_build 232 = .ok (.iload_n 3, 1) := by decide +kernel
theorem dX11_build_233 : decode cX11_build 233 = .ok (.ishr, 1) := by decide +kernel
theorem dX11_build_234 : decode cX11_build 234 = .ok (.iconst 1, 1) := by decide +kernel
theorem dX11_build_235 : decode cX11_build 235 = .ok (.iand, 1) := by decide +kernel
theorem dX11_build_236 : decode cX11_build 236 = .ok (.iadd, 1) := by decide +kernel
theorem dX11_build_237 : decode cX11_build 237 = .ok (.istore_n 2, 1) := by decide +kernel
theorem dX11_build_238 : decode cX11_build 238 = .ok (.iinc 3 1, 3) := by decide +kernel
theorem dX11_build_241 : decode cX11_build 241 = .ok (.goto (-22), 3) := by decide +kernel
theorem dX11_build_244 : decode cX11_build 244 = .ok (.iload_n 1, 1) := by decide +kernel
theorem dX11_build_245 : decode cX11_build 245 = .ok (.ifCond .ne 10, 3) := by decide +kernel
theorem dX11_build_248 : decode cX11_build 248 = .ok (.iload_n 2, 1) := by decide +kernel
theorem dX11_build_249 : decode cX11_build 249 = .ok (.iconst 1, 1) := by decide +kernel
theorem dX11_build_250 : decode cX11_build 250 = .ok (.if_icmp .le 5, 3) := by decide +kernel
theorem dX11_build_253 : decode cX11_build 253 = .ok (.iconst 1, 1) := by decide +kernel
theorem dX11_build_254 : decode cX11_build 254 = .ok (.istore_n 2, 1) := by decide +kernel
theorem dX11_build_255 : decode cX11_build 255 = .ok (.iconst 0, 1) := by decide +kernel
theorem dX11_build_256 : decode cX11_build 256 = .ok (.istore_n 3, 1) := by decide +kernel
theorem dX11_build_257 : decode cX11_build 257 = .ok (.iload_n 3, 1) := by decide +kernel
theorem dX11_build_258 : decode cX11_build 258 = .ok (.iload_n 2, 1) := by decide +kernel
theorem dX11_build_259 : decode cX11_build 259 = .ok (.if_icmp .ge 21, 3) := by decide +kernel
theorem dX11_build_262 : decode cX11_build 262 = .ok (.aload_n 0, 1) := by decide +kernel
theorem dX11_build_263 : decode cX11_build 263 = .ok (.dup, 1) := by decide +kernel
theorem dX11_build_264 : decode cX11_build 264 = .ok (.getfield 347, 3) := by decide +kernel
theorem dX11_build_267 : decode cX11_build 267 = .ok (.lconst 1, 1) := by decide +kernel
theorem dX11_build_268 : decode cX11_build 268 = .ok (.iload_n 3, 1) := by decide +kernel
theorem dX11_build_269 : decode cX11_build 269 = .ok (.lshl, 1) := by decide +kernel
theorem dX11_build_270 : decode cX11_build 270 = .ok (.lor, 1) := by decide +kernel
theorem dX11_build_271 : decode cX11_build 271 = .ok (.putfield 347, 3) := by decide +kernel
theorem dX11_build_274 : decode cX11_build 274 = .ok (.iinc 3 1, 3) := by decide +kernel
theorem dX11_build_277 : decode cX11_build 277 = .ok (.goto (-20), 3) := by decide +kernel
theorem dX11_build_280 : decode cX11_build 280 = .ok (.aload_n 0, 1) := by decide +kernel
theorem dX11_build_281 : decode cX11_build 281 = .ok (.getfield 335, 3) := by decide +kernel
theorem dX11_build_284 : decode cX11_build 284 = .ok (.ireturn, 1) := by decide +kernel
theorem dX11_resultStateCount_0 : decode cX11_resultStateCount 0 = .ok (.aload_n 0, 1) := by decide +kernel
theorem dX11_resultStateCount_1 : decode cX11_resultStateCount 1 = .ok (.getfield 94, 3) := by decide +kernel
theorem dX11_resultStateCount_4 : decode cX11_resultStateCount 4 = .ok (.ireturn, 1) := by decide +kernel
theorem dX11_resultInitials_0 : decode cX11_resultInitials 0 = .ok (.aload_n 0, 1) := by decide +kernel
theorem dX11_resultInitials_1 : decode cX11_resultInitials 1 = .ok (.getfield 347, 3) := by decide +kernel
theorem dX11_resultInitials_4 : decode cX11_resultInitials 4 = .ok (.lreturn, 1) := by decide +kernel
theorem dX11_resultFinals_0 : decode cX11_resultFinals 0 = .ok (.aload_n 0, 1) := by decide +kernel
theorem dX11_resultFinals_1 : decode cX11_resultFinals 1 = .ok (.getfield 351, 3) := by decide +kernel
theorem dX11_resultFinals_4 : decode cX11_resultFinals 4 = .ok (.lreturn, 1) := by decide +kernel
set_option maxRecDepth 20000 in
theorem ggX11_resultSuccessors_X11_isLetter : GoodIn wsX11_resultSuccessors wsX11_isLetter := goodIn_r _ [6] (by decide +kernel) (by decide +kernel)
set_option maxRecDepth 20000 in
theorem gX11_resultSuccessors_X11_isLetter : GoodIn wsX11_resultSuccessors (va_wsS RX11 136 yX11_isLetter wsX11_isLetter) := goodIn_app (goodIn_of _ (by decide +kernel)) ggX11_resultSuccessors_X11_isLetter
set_option maxRecDepth 20000 in
theorem ggX11_resultSuccessors_X11_isBetween : GoodIn wsX11_resultSuccessors wsX11_isBetween := goodIn_r _ [9] (by decide +kernel) (by decide +kernel)
set_option maxRecDepth 20000 in
theorem gX11_resultSuccessors_X11_isBetween : GoodIn wsX11_resultSuccessors (va_wsS RX11 124 yX11_isBetween wsX11_isBetween) := goodIn_app (goodIn_of _ (by decide +kernel)) ggX11_resultSuccessors_X11_isBetween
theorem dX11_resultSuccessors_0 : decode cX11_resultSuccessors 0 = .ok (.iload_n 2, 1) := by decide +kernel
theorem dX11_resultSuccessors_1 : decode cX11_resultSuccessors 1 = .ok (.invokestatic 136, 3) := by decide +kernel
theorem dX11_resultSuccessors_4 : decode cX11_resultSuccessors 4 = .ok (.ifCond .eq 32, 3) := by decide +kernel
theorem dX11_resultSuccessors_7 : decode cX11_resultSuccessors 7 = .ok (.iload_n 1, 1) := by decide +kernel
theorem dX11_resultSuccessors_8 : decode cX11_resultSuccessors 8 = .ok (.i2l, 1) := by decide +kernel
theorem dX11_resultSuccessors_9 : decode cX11_resultSuccessors 9 = .ok (.lconst 0, 1) := by decide +kernel
theorem dX11_resultSuccessors_10 : decode cX11_resultSuccessors 10 = .ok (.aload_n 0, 1) := by decide +kernel
theorem dX11_resultSuccessors_11 : decode cX11_resultSuccessors 11 = .ok (.getfield 94, 3) := by decide +kernel
theorem dX11_resultSuccessors_14 : decode cX11_resultSuccessors 14 = .ok (.iconst 1, 1) := by decide +kernel
theorem dX11_resultSuccessors_15 : decode cX11_resultSuccessors 15 = .ok (.isub, 1) := by decide +kernel
theorem dX11_resultSuccessors_16 : decode cX11_resultSuccessors 16 = .ok (.i2l, 1) := by decide +kernel
theorem dX11_resultSuccessors_17 : decode cX11_resultSuccessors 17 = .ok (.invokestatic 124, 3) := by decide +kernel
theorem dX11_resultSuccessors_20 : decode cX11_resultSuccessors 20 = .ok (.ifCond .eq 16, 3) := by decide +kernel
theorem dX11_resultSuccessors_23 : decode cX11_resultSuccessors 23 = .ok (.aload_n 0, 1) := by decide +kernel
theorem dX11_resultSuccessors_24 : decode cX11_resultSuccessors 24 = .ok (.getfield 88, 3) := by decide +kernel
theorem dX11_resultSuccessors_27 : decode cX11_resultSuccessors 27 = .ok (.iconst 3, 1) := by decide +kernel
theorem dX11_resultSuccessors_28 : decode cX11_resultSuccessors 28 = .ok (.iload_n 1, 1) := by decide +kernel
theorem dX11_resultSuccessors_29 : decode cX11_resultSuccessors 29 = .ok (.imul, 1) := by decide +kernel
theorem dX11_resultSuccessors_30 : decode cX11_resultSuccessors 30 = .ok (.iload_n 2, 1) := by decide +kernel
theorem dX11_resultSuccessors_31 : decode cX11_resultSuccessors 31 = .ok (.iadd, 1) := by decide +kernel
theorem dX11_resultSuccessors_32 : decode cX11_resultSuccessors 32 = .ok (.laload, 1) := by decide +kernel
theorem dX11_resultSuccessors_33 : decode cX11_resultSuccessors 33 = .ok (.goto 4, 3) := by decide +kernel
theorem dX11_resultSuccessors_36 : decode cX11_resultSuccessors 36 = .ok (.lconst 0, 1) := by decide +kernel
theorem dX11_resultSuccessors_37 : decode cX11_resultSuccessors 37 = .ok (.lreturn, 1) := by decide +kernel
set_option maxRecDepth 20000 in
theorem ggX11_resultAmbiguity_X11_has : GoodIn wsX11_resultAmbiguity wsX11_has := goodIn_r _ [13] (by decide +kernel) (by decide +kernel)
set_option maxRecDepth 20000 in
theorem gX11_resultAmbiguity_X11_has : GoodIn wsX11_resultAmbiguity (va_wsS RX11 139 yX11_has wsX11_has) := goodIn_app (goodIn_of _ (by decide +kernel)) ggX11_resultAmbiguity_X11_has
theorem dX11_resultAmbiguity_0 : decode cX11_resultAmbiguity 0 = .ok (.aload_n 0, 1) := by decide +kernel
theorem dX11_resultAmbiguity_1 : decode cX11_resultAmbiguity 1 = .ok (.getfield 94, 3) := by decide +kernel
theorem dX11_resultAmbiguity_4 : decode cX11_resultAmbiguity 4 = .ok (.ifCond .ge 7, 3) := by decide +kernel
theorem dX11_resultAmbiguity_7 : decode cX11_resultAmbiguity 7 = .ok (.ldc2_w 300, 3) := by decide +kernel
theorem dX11_resultAmbiguity_10 : decode cX11_resultAmbiguity 10 = .ok (.lreturn, 1) := by decide +kernel
theorem dX11_resultAmbiguity_11 : decode cX11_resultAmbiguity 11 = .ok (.iconst 0, 1) := by decide +kernel
theorem dX11_resultAmbiguity_12 : decode cX11_resultAmbiguity 12 = .ok (.istore_n 1, 1) := by decide +kernel
theorem dX11_resultAmbiguity_13 : decode cX11_resultAmbiguity 13 = .ok (.iload_n 1, 1) := by decide +kernel
theorem dX11_resultAmbiguity_14 : decode cX11_resultAmbiguity 14 = .ok (.aload_n 0, 1) := by decide +kernel
theorem dX11_resultAmbiguity_15 : decode cX11_resultAmbiguity 15 = .ok (.getfield 94, 3) := by decide +kernel
theorem dX11_resultAmbiguity_18 : decode cX11_resultAmbiguity 18 = .ok (.if_icmp .ge 31, 3) := by decide +kernel
theorem dX11_resultAmbiguity_21 : decode cX11_resultAmbiguity 21 = .ok (.aload_n 0, 1) := by decide +kernel
theorem dX11_resultAmbiguity_22 : decode cX11_resultAmbiguity 22 = .ok (.getfield 38, 3) := by decide +kernel
theorem dX11_resultAmbiguity_25 : decode cX11_resultAmbiguity 25 = .ok (.iload_n 1, 1) := by decide +kernel
theorem dX11_resultAmbiguity_26 : decode cX11_resultAmbiguity 26 = .ok (.aload_n 0, 1) := by decide +kernel
theorem dX11_resultAmbiguity_27 : decode cX11_resultAmbiguity 27 = .ok (.getfield 347, 3) := by decide +kernel
theorem dX11_resultAmbiguity_30 : decode cX11_resultAmbiguity 30 = .ok (.iload_n 1, 1) := by decide +kernel
theorem dX11_resultAmbiguity_31 : decode cX11_resultAmbiguity 31 = .ok (.invokestatic 139, 3) := by decide +kernel
theorem dX11_resultAmbiguity_34 : decode cX11_resultAmbiguity 34 = .ok (.ifCond .eq 7, 3) := by decide +kernel
theorem dX11_resultAmbiguity_37 : decode cX11_resultAmbiguity 37 = .ok (.lconst 1, 1) := by decide +kernel
theorem dX11_resultAmbiguity_38 : decode cX11_resultAmbiguity 38 = .ok (.goto 4, 3) := by decide +kernel
theorem dX11_resultAmbiguity_41 : decode cX11_resultAmbiguity 41 = .ok (.lconst 0, 1) := by decide +kernel
theorem dX11_resultAmbiguity_42 : decode cX11_resultAmbiguity 42 = .ok (.lastore, 1) := by decide +kernel
theorem dX11_resultAmbiguity_43 : decode cX11_resultAmbiguity 43 = .ok (.iinc 1 1, 3) := by decide +kernel
theorem dX11_resultAmbiguity_46 : decode cX11_resultAmbiguity 46 = .ok (.goto (-33), 3) := by decide +kernel
theorem dX11_resultAmbiguity_49 : decode cX11_resultAmbiguity 49 = .ok (.iconst 0, 1) := by decide +kernel
theorem dX11_resultAmbiguity_50 : decode cX11_resultAmbiguity 50 = .ok (.istore_n 1, 1) := by decide +kernel
theorem dX11_resultAmbiguity_51 : decode cX11_resultAmbiguity 51 = .ok (.iload_n 1, 1) := by decide +kernel
theorem dX11_resultAmbiguity_52 : decode cX11_resultAmbiguity 52 = .ok (.aload_n 0, 1) := by decide +kernel
theorem dX11_resultAmbiguity_53 : decode cX11_resultAmbiguity 53 = .ok (.getfield 197, 3) := by decide +kernel
theorem dX11_resultAmbiguity_56 : decode cX11_resultAmbiguity 56 = .ok (.if_icmp .ge 117, 3) := by decide +kernel
theorem dX11_resultAmbiguity_59 : decode cX11_resultAmbiguity 59 = .ok (.iconst 0, 1) := by decide +kernel
theorem dX11_resultAmbiguity_60 : decode cX11_resultAmbiguity 60 = .ok (.istore_n 2, 1) := by decide +kernel
theorem dX11_resultAmbiguity_61 : decode cX11_resultAmbiguity 61 = .ok (.iload_n 2, 1) := by decide +kernel
theorem dX11_resultAmbiguity_62 : decode cX11_resultAmbiguity 62 = .ok (.aload_n 0, 1) := by decide +kernel
theorem dX11_resultAmbiguity_63 : decode cX11_resultAmbiguity 63 = .ok (.getfield 94, 3) := by decide +kernel
theorem dX11_resultAmbiguity_66 : decode cX11_resultAmbiguity 66 = .ok (.if_icmp .ge 73, 3) := by decide +kernel
theorem dX11_resultAmbiguity_69 : decode cX11_resultAmbiguity 69 = .ok (.aload_n 0, 1) := by decide +kernel
theorem dX11_resultAmbiguity_70 : decode cX11_resultAmbiguity 70 = .ok (.getfield 42, 3) := by decide +kernel
theorem dX11_resultAmbiguity_73 : decode cX11_resultAmbiguity 73 = .ok (.iload_n 2, 1) := by decide +kernel
theorem dX11_resultAmbiguity_74 : decode cX11_resultAmbiguity 74 = .ok (.lconst 0, 1) := by decide +kernel
theorem dX11_resultAmbiguity_75 : decode cX11_resultAmbiguity 75 = .ok (.lastore, 1) := by decide +kernel
theorem dX11_resultAmbiguity_76 : decode cX11_resultAmbiguity 76 = .ok (.iconst 0, 1) := by decide +kernel
theorem dX11_resultAmbiguity_77 : decode cX11_resultAmbiguity 77 = .ok (.istore_n 3, 1) := by decide +kernel
theorem dX11_resultAmbiguity_78 : decode cX11_resultAmbiguity 78 = .ok (.iload_n 3, 1) := by decide +kernel
theorem dX11_resultAmbiguity_79 : decode cX11_resultAmbiguity 79 = .ok (.aload_n 0, 1) := by decide +kernel
theorem dX11_resultAmbiguity_80 : decode cX11_resultAmbiguity 80 = .ok (.getfield 94, 3) := by decide +kernel
theorem dX11_resultAmbiguity_83 : decode cX11_resultAmbiguity 83 = .ok (.if_icmp .ge 50, 3) := by decide +kernel
theorem dX11_resultAmbiguity_86 : decode cX11_resultAmbiguity 86 = .ok (.aload_n 0, 1) := by decide +kernel
theorem dX11_resultAmbiguity_87 : decode cX11_resultAmbiguity 87 = .ok (.getfield 42, 3) := by decide +kernel
theorem dX11_resultAmbiguity_90 : decode cX11_resultAmbiguity 90 = .ok (.iload_n 2, 1) := by decide +kernel
theorem dX11_resultAmbiguity_91 : decode cX11_resultAmbiguity 91 = .ok (.dup2, 1) := by decide +kernel
theorem dX11_resultAmbiguity_92 : decode cX11_resultAmbiguity 92 = .ok (.laload, 1) := by decide +kernel
theorem dX11_resultAmbiguity_93 : decode cX11_resultAmbiguity 93 = .ok (.aload_n 0, 1) := by decide +kernel
theorem dX11_resultAmbiguity_94 : decode cX11_resultAmbiguity 94 = .ok (.getfield 88, 3) := by decide +kernel
theorem dX11_resultAmbiguity_97 : decode cX11_resultAmbiguity 97 = .ok (.iconst 3, 1) := by decide +kernel
theorem dX11_resultAmbiguity_98 : decode cX11_resultAmbiguity 98 = .ok (.iload_n 3, 1) := by decide +kernel
theorem dX11_resultAmbiguity_99 : decode cX11_resultAmbiguity 99 = .ok (.imul, 1) := by decide +kernel
theorem dX11_resultAmbiguity_100 : decode cX11_resultAmbiguity 100 = .ok (.aload_n 0, 1) := by decide +kernel
theorem dX11_resultAmbiguity_101 : decode cX11_resultAmbiguity 101 = .ok (.getfield 35, 3) := by decide +kernel
theorem dX11_resultAmbiguity_104 : decode cX11_resultAmbiguity 104 = .ok (.iload_n 1, 1) := by decide +kernel
theorem dX11_resultAmbiguity_105 : decode cX11_resultAmbiguity 105 = .ok (.iaload, 1) := by decide +kernel
theorem dX11_resultAmbiguity_106 : decode cX11_resultAmbiguity 106 = .ok (.iadd, 1) := by decide +kernel
theorem dX11_resultAmbiguity_107 : decode cX11_resultAmbiguity 107 = .ok (.laload, 1) := by decide +kernel
theorem dX11_resultAmbiguity_108 : decode cX11_resultAmbiguity 108 = .ok (.iload_n 2, 1) := by decide +kernel
theorem dX11_resultAmbiguity_109 : decode cX11_resultAmbiguity 109 = .ok (.invokestatic 139, 3) := by decide +kernel
theorem dX11_resultAmbiguity_112 : decode cX11_resultAmbiguity 112 = .ok (.ifCond .eq 12, 3) := by decide +kernel
theorem dX11_resultAmbiguity_115 : decode cX11_resultAmbiguity 115 = .ok (.aload_n 0, 1) := by decide +kernel
theorem dX11_resultAmbiguity_116 : decode cX11_resultAmbiguity 116 = .ok (.getfield 38, 3) := by decide +kernel
theorem dX11_resultAmbiguity_119 : decode cX11_resultAmbiguity 119 = .ok (.iload_n 3, 1) := by decide +kernel
theorem dX11_resultAmbiguity_120 : decode cX11_resultAmbiguity 120 = .ok (.laload, 1) := by decide +kernel
theorem dX11_resultAmbiguity_121 : decode cX11_resultAmbiguity 121 = .ok (.goto 4, 3) := by decide +kernel
theorem dX11_resultAmbiguity_124 : decode cX11_resultAmbiguity 124 = .ok (.lconst 0, 1) := by decide +kernel
theorem dX11_resultAmbiguity_125 : decode cX11_resultAmbiguity 125 = .ok (.ladd, 1) := by decide +kernel
theorem dX11_resultAmbiguity_126 : decode cX11_resultAmbiguity 126 = .ok (.lastore, 1) := by decide +kernel
theorem dX11_resultAmbiguity_127 : decode cX11_resultAmbiguity 127 = .ok (.iinc 3 1, 3) := by decide +kernel
theorem dX11_resultAmbiguity_130 : decode cX11_resultAmbiguity 130 = .ok (.goto (-52), 3) := by decide +kernel
theorem dX11_resultAmbiguity_133 : decode cX11_resultAmbiguity 133 = .ok (.iinc 2 1, 3) := by decide +kernel
theorem dX11_resultAmbiguity_136 : decode cX11_resultAmbiguity 136 = .ok (.goto (-75), 3) := by decide +kernel
theorem dX11_resultAmbiguity_139 : decode cX11_resultAmbiguity 139 = .ok (.iconst 0, 1) := by decide +kernel
