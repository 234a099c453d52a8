set_option maxRecDepth 20000 in
theorem gX11_spell_X11_spellAmbiguous : GoodIn wsX11_spell (wsV RX11 276 RX11 yX11_spellAmbiguous wsX11_spellAmbiguous) := goodIn_app (goodIn_of _ (by decide +kernel)) ggX11_spell_X11_spellAmbiguous
set_option maxRecDepth 20000 in
theorem ggX11_spell_X11_spellLightest : GoodIn wsX11_spell wsX11_spellLightest := goodIn_r _ [95, 96, 17, 16, 97, 67, 68, 98, 99, 100, 101, 7, 102, 18, 27, 28, 29, 30, 103, 104, 105, 106, 23, 24, 25, 26, 114, 115, 116, 117, 118, 119, 120, 121, 122, 123, 124, 125, 126, 127, 128, 129, 130, 131, 132, 133, 134, 135, 136, 137, 138, 139, 140, 141, 142, 143, 144, 145, 146, 147, 148, 149, 150, 151, 152, 153, 154, 155, 156, 157, 158, 159, 160, 161, 162, 163] (by rfl) (by decide +kernel)
set_option maxRecDepth 20000 in
theorem gX11_spell_X11_spellLightest : GoodIn wsX11_spell (wsV RX11 325 RX11 yX11_spellLightest wsX11_spellLightest) := goodIn_app (goodIn_of _ (by decide +kernel)) ggX11_spell_X11_spellLightest
set_option maxRecDepth 20000 in
theorem ggX11_spell_X11_nobodyIsHere : GoodIn wsX11_spell wsX11_nobodyIsHere := goodIn_r _ [61, 3, 62, 114, 115, 116, 117, 118, 119, 120, 121, 122, 123, 124, 125, 126, 127, 128, 129, 130, 131, 132, 133, 134, 135, 136, 137, 138, 139, 140, 141, 142, 143, 144, 145, 146, 147, 148, 149, 150, 151, 152, 153, 154, 155, 156, 157, 158, 159, 160, 161, 162, 163] (by decide +kernel) (by decide +kernel)
set_option maxRecDepth 20000 in
theorem gX11_spell_X11_nobodyIsHere : GoodIn wsX11_spell (wsV RX11 265 RX11 yX11_nobodyIsHere wsX11_nobodyIsHere) := goodIn_app (goodIn_of _ (by decide +kernel)) ggX11_spell_X11_nobodyIsHere
set_option maxRecDepth 20000 in
theorem ggX11_spell_X11_lowest : GoodIn wsX11_spell wsX11_lowest := goodIn_r _ [109, 28, 29, 7, 30] (by decide +kernel) (by decide +kernel)
set_option maxRecDepth 20000 in
theorem gX11_spell_X11_lowest : GoodIn wsX11_spell (va_wsS RX11 312 yX11_lowest wsX11_lowest) := goodIn_app (goodIn_of _ (by decide +kernel)) ggX11_spell_X11_lowest
set_option maxRecDepth 20000 in
theorem ggX11_spell_X11_loopOf : GoodIn wsX11_spell wsX11_loopOf := goodIn_r _ [84, 35, 36, 37, 38, 7, 39, 40, 41, 42, 43, 44, 45, 17, 27, 28, 29, 30, 46, 47, 48, 49, 50, 51, 52, 53, 54, 55, 56, 57, 114, 115, 116, 117, 118, 119, 120, 121, 122, 123, 124, 125, 126, 127, 128, 129, 130, 131, 132, 133, 134, 135, 136, 137, 138, 139, 140, 141, 142, 143, 144, 145, 146, 147, 148, 149, 150, 151, 152, 153, 154, 155, 156, 157, 158, 159, 160, 161, 162, 163] (by rfl) (by decide +kernel)
set_option maxRecDepth 20000 in
theorem gX11_spell_X11_loopOf : GoodIn wsX11_spell (wsV RX11 288 RX11 yX11_loopOf wsX11_loopOf) := goodIn_app (goodIn_of _ (by decide +kernel)) ggX11_spell_X11_loopOf
set_option maxRecDepth 20000 in
theorem ggX11_spell_X11_pairNode : GoodIn wsX11_spell wsX11_pairNode := goodIn_r _ [48] (by decide +kernel) (by decide +kernel)
set_option maxRecDepth 20000 in
theorem gX11_spell_X11_pairNode : GoodIn wsX11_spell (va_wsS RX11 237 yX11_pairNode wsX11_pairNode) := goodIn_app (goodIn_of _ (by decide +kernel)) ggX11_spell_X11_pairNode
set_option maxRecDepth 20000 in
theorem ggX11_spell_X11_spells : GoodIn wsX11_spell wsX11_spells := goodIn_r _ [66, 67, 68, 3, 62, 69, 70, 71, 7, 72, 35, 73, 74, 75, 76, 27, 28, 29, 30, 77, 78, 79, 80, 114, 115, 116, 117, 118, 119, 120, 121, 122, 123, 124, 125, 126, 127, 128, 129, 130, 131, 132, 133, 134, 135, 136, 137, 138, 139, 140, 141, 142, 143, 144, 145, 146, 147, 148, 149, 150, 151, 152, 153, 154, 155, 156, 157, 158, 159, 160, 161, 162, 163] (by rfl) (by decide +kernel)
set_option maxRecDepth 20000 in
theorem gX11_spell_X11_spells : GoodIn wsX11_spell (wsV RX11 268 RX11 yX11_spells wsX11_spells) := goodIn_app (goodIn_of _ (by decide +kernel)) ggX11_spell_X11_spells
set_option maxRecDepth 20000 in
theorem ggX11_spell_X11_firstSplit : GoodIn wsX11_spell wsX11_firstSplit := goodIn_r _ [113, 11, 114, 115, 116, 117, 118, 119, 120, 121, 122, 123, 124, 125, 126, 127, 128, 129, 130, 131, 132, 133, 134, 135, 136, 137, 138, 139, 140, 141, 142, 143, 144, 145, 146, 147, 148, 149, 150, 151, 152, 153, 154, 155, 156, 157, 158, 159, 160, 161, 162, 163] (by decide +kernel) (by decide +kernel)
set_option maxRecDepth 20000 in
theorem gX11_spell_X11_firstSplit : GoodIn wsX11_spell (wsV RX11 315 RX11 yX11_firstSplit wsX11_firstSplit) := goodIn_app (goodIn_of _ (by decide +kernel)) ggX11_spell_X11_firstSplit
set_option maxRecDepth 20000 in
theorem ggX11_spell_X11_splitOf : GoodIn wsX11_spell wsX11_splitOf := goodIn_r _ [88, 40, 53, 35, 45, 36, 37, 38, 7, 39, 41, 42, 43, 44, 17, 27, 28, 29, 30, 89, 90, 91, 49, 50, 51, 52, 114, 115, 116, 117, 118, 119, 120, 121, 122, 123, 124, 125, 126, 127, 128, 129, 130, 131, 132, 133, 134, 135, 136, 137, 138, 139, 140, 141, 142, 143, 144, 145, 146, 147, 148, 149, 150, 151, 152, 153, 154, 155, 156, 157, 158, 159, 160, 161, 162, 163] (by rfl) (by decide +kernel)
set_option maxRecDepth 20000 in
theorem gX11_spell_X11_splitOf : GoodIn wsX11_spell (wsV RX11 291 RX11 yX11_splitOf wsX11_splitOf) := goodIn_app (goodIn_of _ (by decide +kernel)) ggX11_spell_X11_splitOf
set_option maxRecDepth 20000 in
theorem ggX11_spell_X11_triple : GoodIn wsX11_spell wsX11_triple := goodIn_r _ [91] (by decide +kernel) (by decide +kernel)
set_option maxRecDepth 20000 in
theorem gX11_spell_X11_triple : GoodIn wsX11_spell (va_wsS RX11 272 yX11_triple wsX11_triple) := goodIn_app (goodIn_of _ (by decide +kernel)) ggX11_spell_X11_triple
theorem dX11_spell_0 : decode cX11_spell 0 = .ok (.aload_n 0, 1) := by decide +kernel
theorem dX11_spell_1 : decode cX11_spell 1 = .ok (.invokevirtual 294, 3) := by decide +kernel
theorem dX11_spell_4 : decode cX11_spell 4 = .ok (.iload_n 1, 1) := by decide +kernel
theorem dX11_spell_5 : decode cX11_spell 5 = .ok (.ifCond .ne 8, 3) := by decide +kernel
theorem dX11_spell_8 : decode cX11_spell 8 = .ok (.aload_n 0, 1) := by decide +kernel
theorem dX11_spell_9 : decode cX11_spell 9 = .ok (.invokevirtual 276, 3) := by decide +kernel
theorem dX11_spell_12 : decode cX11_spell 12 = .ok (.ireturn, 1) := by decide +kernel
theorem dX11_spell_13 : decode cX11_spell 13 = .ok (.iload_n 1, 1) := by decide +kernel
theorem dX11_spell_14 : decode cX11_spell 14 = .ok (.iconst 3, 1) := by decide +kernel
theorem dX11_spell_15 : decode cX11_spell 15 = .ok (.if_icmp .ne 8, 3) := by decide +kernel
theorem dX11_spell_18 : decode cX11_spell 18 = .ok (.aload_n 0, 1) := by decide +kernel
theorem dX11_spell_19 : decode cX11_spell 19 = .ok (.invokevirtual 325, 3) := by decide +kernel
theorem dX11_spell_22 : decode cX11_spell 22 = .ok (.ireturn, 1) := by decide +kernel
theorem dX11_spell_23 : decode cX11_spell 23 = .ok (.iload_n 1, 1) := by decide +kernel
theorem dX11_spell_24 : decode cX11_spell 24 = .ok (.iconst 1, 1) := by decide +kernel
theorem dX11_spell_25 : decode cX11_spell 25 = .ok (.if_icmp .ne 13, 3) := by decide +kernel
theorem dX11_spell_28 : decode cX11_spell 28 = .ok (.aload_n 0, 1) := by decide +kernel
theorem dX11_spell_29 : decode cX11_spell 29 = .ok (.getfield 282, 3) := by decide +kernel
theorem dX11_spell_32 : decode cX11_spell 32 = .ok (.ifCond .ne 16, 3) := by decide +kernel
theorem dX11_spell_35 : decode cX11_spell 35 = .ok (.goto 10, 3) := by decide +kernel
theorem dX11_spell_38 : decode cX11_spell 38 = .ok (.aload_n 0, 1) := by decide +kernel
theorem dX11_spell_39 : decode cX11_spell 39 = .ok (.getfield 285, 3) := by decide +kernel
theorem dX11_spell_42 : decode cX11_spell 42 = .ok (.ifCond .ne 6, 3) := by decide +kernel
theorem dX11_spell_45 : decode cX11_spell 45 = .ok (.bipush (-4), 2) := by decide +kernel
theorem dX11_spell_47 : decode cX11_spell 47 = .ok (.ireturn, 1) := by decide +kernel
theorem dX11_spell_48 : decode cX11_spell 48 = .ok (.aload_n 0, 1) := by decide +kernel
theorem dX11_spell_49 : decode cX11_spell 49 = .ok (.invokevirtual 265, 3) := by decide +kernel
theorem dX11_spell_52 : decode cX11_spell 52 = .ok (.iload_n 1, 1) := by decide +kernel
theorem dX11_spell_53 : decode cX11_spell 53 = .ok (.iconst 1, 1) := by decide +kernel
theorem dX11_spell_54 : decode cX11_spell 54 = .ok (.if_icmp .ne 37, 3) := by decide +kernel
theorem dX11_spell_57 : decode cX11_spell 57 = .ok (.aload_n 0, 1) := by decide +kernel
theorem dX11_spell_58 : decode cX11_spell 58 = .ok (.getfield 282, 3) := by decide +kernel
theorem dX11_spell_61 : decode cX11_spell 61 = .ok (.invokestatic 312, 3) := by decide +kernel
theorem dX11_spell_64 : decode cX11_spell 64 = .ok (.istore_n 2, 1) := by decide +kernel
theorem dX11_spell_65 : decode cX11_spell 65 = .ok (.aload_n 0, 1) := by decide +kernel
theorem dX11_spell_66 : decode cX11_spell 66 = .ok (.iload_n 2, 1) := by decide +kernel
theorem dX11_spell_67 : decode cX11_spell 67 = .ok (.invokevirtual 288, 3) := by decide +kernel
theorem dX11_spell_70 : decode cX11_spell 70 = .ok (.istore_n 3, 1) := by decide +kernel
theorem dX11_spell_71 : decode cX11_spell 71 = .ok (.aload_n 0, 1) := by decide +kernel
theorem dX11_spell_72 : decode cX11_spell 72 = .ok (.getfield 54, 3) := by decide +kernel
theorem dX11_spell_75 : decode cX11_spell 75 = .ok (.iload_n 2, 1) := by decide +kernel
theorem dX11_spell_76 : decode cX11_spell 76 = .ok (.iload_n 2, 1) := by decide +kernel
theorem dX11_spell_77 : decode cX11_spell 77 = .ok (.iconst 0, 1) := by decide +kernel
theorem dX11_spell_78 : decode cX11_spell 78 = .ok (.invokestatic 237, 3) := by decide +kernel
theorem dX11_spell_81 : decode cX11_spell 81 = .ok (.iconst 1, 1) := by decide +kernel
theorem dX11_spell_82 : decode cX11_spell 82 = .ok (.bastore, 1) := by decide +kernel
theorem dX11_spell_83 : decode cX11_spell 83 = .ok (.aload_n 0, 1) := by decide +kernel
theorem dX11_spell_84 : decode cX11_spell 84 = .ok (.iload_n 3, 1) := by decide +kernel
theorem dX11_spell_85 : decode cX11_spell 85 = .ok (.iconst 0, 1) := by decide +kernel
theorem dX11_spell_86 : decode cX11_spell 86 = .ok (.invokevirtual 268, 3) := by decide +kernel
theorem dX11_spell_89 : decode cX11_spell 89 = .ok (.iload_n 3, 1) := by decide +kernel
theorem dX11_spell_90 : decode cX11_spell 90 = .ok (.ireturn, 1) := by decide +kernel
theorem dX11_spell_91 : decode cX11_spell 91 = .ok (.aload_n 0, 1) := by decide +kernel
theorem dX11_spell_92 : decode cX11_spell 92 = .ok (.invokevirtual 315, 3) := by decide +kernel
theorem dX11_spell_95 : decode cX11_spell 95 = .ok (.bipush 6, 2) := by decide +kernel
theorem dX11_spell_97 : decode cX11_spell 97 = .ok (.idiv, 1) := by decide +kernel
theorem dX11_spell_98 : decode cX11_spell 98 = .ok (.istore_n 2, 1) := by decide +kernel
theorem dX11_spell_99 : decode cX11_spell 99 = .ok (.aload_n 0, 1) := by decide +kernel
theorem dX11_spell_100 : decode cX11_spell 100 = .ok (.invokevirtual 315, 3) := by decide +kernel
theorem dX11_spell_103 : decode cX11_spell 103 = .ok (.bipush 6, 2) := by decide +kernel
theorem dX11_spell_105 : decode cX11_spell 105 = .ok (.irem, 1) := by decide +kernel
theorem dX11_spell_106 : decode cX11_spell 106 = .ok (.istore_n 3, 1) := by decide +kernel
theorem dX11_spell_107 : decode cX11_spell 107 = .ok (.aload_n 0, 1) := by decide +kernel
theorem dX11_spell_108 : decode cX11_spell 108 = .ok (.iload_n 2, 1) := by decide +kernel
theorem dX11_spell_109 : decode cX11_spell 109 = .ok (.iload_n 3, 1) := by decide +kernel
theorem dX11_spell_110 : decode cX11_spell 110 = .ok (.invokevirtual 291, 3) := by decide +kernel
theorem dX11_spell_113 : decode cX11_spell 113 = .ok (.istore 4, 2) := by decide +kernel
theorem dX11_spell_115 : decode cX11_spell 115 = .ok (.aload_n 0, 1) := by decide +kernel
theorem dX11_spell_116 : decode cX11_spell 116 = .ok (.getfield 54, 3) := by decide +kernel
theorem dX11_spell_119 : decode cX11_spell 119 = .ok (.iload_n 2, 1) := by decide +kernel
theorem dX11_spell_120 : decode cX11_spell 120 = .ok (.iload_n 2, 1) := by decide +kernel
theorem dX11_spell_121 : decode cX11_spell 121 = .ok (.iload_n 3, 1) := by decide +kernel
theorem dX11_spell_122 : decode cX11_spell 122 = .ok (.invokestatic 272, 3) := by decide +kernel
theorem dX11_spell_125 : decode cX11_spell 125 = .ok (.iconst 1, 1) := by decide +kernel
theorem dX11_spell_126 : decode cX11_spell 126 = .ok (.bastore, 1) := by decide +kernel
theorem dX11_spell_127 : decode cX11_spell 127 = .ok (.aload_n 0, 1) := by decide +kernel
theorem dX11_spell_128 : decode cX11_spell 128 = .ok (.iload 4, 2) := by decide +kernel
theorem dX11_spell_130 : decode cX11_spell 130 = .ok (.iconst 1, 1) := by decide +kernel
theorem dX11_spell_131 : decode cX11_spell 131 = .ok (.invokevirtual 268, 3) := by decide +kernel
theorem dX11_spell_134 : decode cX11_spell 134 = .ok (.iload 4, 2) := by decide +kernel
theorem dX11_spell_136 : decode cX11_spell 136 = .ok (.ireturn, 1) := by decide +kernel
set_option maxRecDepth 20000 in
theorem ggX11_witnessLength_X11_isBetween : GoodIn wsX11_witnessLength wsX11_isBetween := goodIn_r _ [5] (by decide +kernel) (by decide +kernel)
set_option maxRecDepth 20000 in
theorem gX11_witnessLength_X11_isBetween : GoodIn wsX11_witnessLength (va_wsS RX11 124 yX11_isBetween wsX11_isBetween) := goodIn_app (goodIn_of _ (by decide +kernel)) ggX11_witnessLength_X11_isBetween
set_option maxRecDepth 20000 in
theorem ggX11_witnessLength_X11_spell : GoodIn wsX11_witnessLength wsX11_spell := goodIn_r _ [9, 10, 11, 12, 13, 14, 15, 4, 16, 17, 18, 19, 20, 21, 22, 23, 24, 25, 26, 27, 28, 29, 30, 31, 32, 33, 34, 35, 36, 37, 38, 39, 40, 41, 42, 43, 44, 45, 46, 47, 48, 49, 50, 51, 52, 53, 54, 55, 56, 57, 58, 59, 60, 61, 62, 63, 64, 65, 66, 67, 68, 69, 70, 71, 72, 73, 74, 75, 76, 77, 78, 79, 80, 81, 82, 83, 84, 85, 86, 87, 88, 89, 90, 91, 92, 93, 94, 95, 96, 97, 98, 99, 100, 101, 102, 103, 104, 105, 106, 107, 108, 109, 110, 111, 112, 113, 114, 115, 116, 117, 118, 119, 120, 121, 122, 123, 124, 125, 126, 127, 128, 129, 130, 131, 132, 133, 134, 135, 136, 137, 138, 139, 140, 141, 142, 143, 144, 145, 146, 147, 148, 149, 150, 151, 152, 153, 154, 155, 156, 157, 158, 159, 160, 161, 162, 163, 164, 165, 166, 167, 168, 169, 170, 171] (by rfl) (by decide +kernel)
set_option maxRecDepth 20000 in
theorem gX11_witnessLength_X11_spell : GoodIn wsX11_witnessLength (wsV RX11 330 RX11 yX11_spell wsX11_spell) := goodIn_app (goodIn_of _ (by decide +kernel)) ggX11_witnessLength_X11_spell
theorem dX11_witnessLength_0 : decode cX11_witnessLength 0 = .ok (.iload_n 1, 1) := by decide +kernel
theorem dX11_witnessLength_1 : decode cX11_witnessLength 1 = .ok (.i2l, 1) := by decide +kernel
theorem dX11_witnessLength_2 : decode cX11_witnessLength 2 = .ok (.lconst 0, 1) := by decide +kernel
theorem dX11_witnessLength_3 : decode cX11_witnessLength 3 = .ok (.ldc2_w 328, 3) := by decide +kernel
theorem dX11_witnessLength_6 : decode cX11_witnessLength 6 = .ok (.invokestatic 124, 3) := by decide +kernel
theorem dX11_witnessLength_9 : decode cX11_witnessLength 9 = .ok (.ifCond .eq 11, 3) := by decide +kernel
theorem dX11_witnessLength_12 : decode cX11_witnessLength 12 = .ok (.aload_n 0, 1) := by decide +kernel
theorem dX11_witnessLength_13 : decode cX11_witnessLength 13 = .ok (.iload_n 1, 1) := by decide +kernel
theorem dX11_witnessLength_14 : decode cX11_witnessLength 14 = .ok (.invokevirtual 330, 3) := by decide +kernel
theorem dX11_witnessLength_17 : decode cX11_witnessLength 17 = .ok (.goto 4, 3) := by decide +kernel
theorem dX11_witnessLength_20 : decode cX11_witnessLength 20 = .ok (.iconst (-1), 1) := by decide +kernel
theorem dX11_witnessLength_21 : decode cX11_witnessLength 21 = .ok (.ireturn, 1) := by decide +kernel
set_option maxRecDepth 20000 in
theorem ggX11_witnessLetter_X11_isBetween : GoodIn wsX11_witnessLetter wsX11_isBetween := goodIn_r _ [6] (by decide +kernel) (by decide +kernel)
