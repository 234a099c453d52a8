set_option maxRecDepth 20000 in
theorem gX11_spellLightest_X11_goesLight : GoodIn wsX11_spellLightest (wsV RX11 322 RX11 yX11_goesLight wsX11_goesLight) := goodIn_app (goodIn_of _ (by decide +kernel)) ggX11_spellLightest_X11_goesLight
theorem dX11_spellLightest_0 : decode cX11_spellLightest 0 = .ok (.aload_n 0, 1) := by decide +kernel
theorem dX11_spellLightest_1 : decode cX11_spellLightest 1 = .ok (.invokevirtual 319, 3) := by decide +kernel
theorem dX11_spellLightest_4 : decode cX11_spellLightest 4 = .ok (.istore_n 1, 1) := by decide +kernel
theorem dX11_spellLightest_5 : decode cX11_spellLightest 5 = .ok (.iload_n 1, 1) := by decide +kernel
theorem dX11_spellLightest_6 : decode cX11_spellLightest 6 = .ok (.ldc_w 318, 3) := by decide +kernel
theorem dX11_spellLightest_9 : decode cX11_spellLightest 9 = .ok (.if_icmp .ne 6, 3) := by decide +kernel
theorem dX11_spellLightest_12 : decode cX11_spellLightest 12 = .ok (.bipush (-4), 2) := by decide +kernel
theorem dX11_spellLightest_14 : decode cX11_spellLightest 14 = .ok (.ireturn, 1) := by decide +kernel
theorem dX11_spellLightest_15 : decode cX11_spellLightest 15 = .ok (.iconst 0, 1) := by decide +kernel
theorem dX11_spellLightest_16 : decode cX11_spellLightest 16 = .ok (.istore_n 2, 1) := by decide +kernel
theorem dX11_spellLightest_17 : decode cX11_spellLightest 17 = .ok (.iconst 0, 1) := by decide +kernel
theorem dX11_spellLightest_18 : decode cX11_spellLightest 18 = .ok (.istore_n 3, 1) := by decide +kernel
theorem dX11_spellLightest_19 : decode cX11_spellLightest 19 = .ok (.iload_n 3, 1) := by decide +kernel
theorem dX11_spellLightest_20 : decode cX11_spellLightest 20 = .ok (.aload_n 0, 1) := by decide +kernel
theorem dX11_spellLightest_21 : decode cX11_spellLightest 21 = .ok (.getfield 19, 3) := by decide +kernel
theorem dX11_spellLightest_24 : decode cX11_spellLightest 24 = .ok (.if_icmp .ge 41, 3) := by decide +kernel
theorem dX11_spellLightest_27 : decode cX11_spellLightest 27 = .ok (.iload_n 2, 1) := by decide +kernel
theorem dX11_spellLightest_28 : decode cX11_spellLightest 28 = .ok (.aload_n 0, 1) := by decide +kernel
theorem dX11_spellLightest_29 : decode cX11_spellLightest 29 = .ok (.getfield 112, 3) := by decide +kernel
theorem dX11_spellLightest_32 : decode cX11_spellLightest 32 = .ok (.i2l, 1) := by decide +kernel
theorem dX11_spellLightest_33 : decode cX11_spellLightest 33 = .ok (.iload_n 3, 1) := by decide +kernel
theorem dX11_spellLightest_34 : decode cX11_spellLightest 34 = .ok (.invokestatic 139, 3) := by decide +kernel
theorem dX11_spellLightest_37 : decode cX11_spellLightest 37 = .ok (.ifCond .eq 19, 3) := by decide +kernel
theorem dX11_spellLightest_40 : decode cX11_spellLightest 40 = .ok (.aload_n 0, 1) := by decide +kernel
theorem dX11_spellLightest_41 : decode cX11_spellLightest 41 = .ok (.getfield 73, 3) := by decide +kernel
theorem dX11_spellLightest_44 : decode cX11_spellLightest 44 = .ok (.iload_n 3, 1) := by decide +kernel
theorem dX11_spellLightest_45 : decode cX11_spellLightest 45 = .ok (.iaload, 1) := by decide +kernel
theorem dX11_spellLightest_46 : decode cX11_spellLightest 46 = .ok (.iload_n 1, 1) := by decide +kernel
theorem dX11_spellLightest_47 : decode cX11_spellLightest 47 = .ok (.if_icmp .ne 9, 3) := by decide +kernel
theorem dX11_spellLightest_50 : decode cX11_spellLightest 50 = .ok (.iconst 1, 1) := by decide +kernel
theorem dX11_spellLightest_51 : decode cX11_spellLightest 51 = .ok (.iload_n 3, 1) := by decide +kernel
theorem dX11_spellLightest_52 : decode cX11_spellLightest 52 = .ok (.ishl, 1) := by decide +kernel
theorem dX11_spellLightest_53 : decode cX11_spellLightest 53 = .ok (.goto 4, 3) := by decide +kernel
theorem dX11_spellLightest_56 : decode cX11_spellLightest 56 = .ok (.iconst 0, 1) := by decide +kernel
theorem dX11_spellLightest_57 : decode cX11_spellLightest 57 = .ok (.ior, 1) := by decide +kernel
theorem dX11_spellLightest_58 : decode cX11_spellLightest 58 = .ok (.istore_n 2, 1) := by decide +kernel
theorem dX11_spellLightest_59 : decode cX11_spellLightest 59 = .ok (.iinc 3 1, 3) := by decide +kernel
theorem dX11_spellLightest_62 : decode cX11_spellLightest 62 = .ok (.goto (-43), 3) := by decide +kernel
theorem dX11_spellLightest_65 : decode cX11_spellLightest 65 = .ok (.aload_n 0, 1) := by decide +kernel
theorem dX11_spellLightest_66 : decode cX11_spellLightest 66 = .ok (.iload_n 1, 1) := by decide +kernel
theorem dX11_spellLightest_67 : decode cX11_spellLightest 67 = .ok (.bipush 16, 2) := by decide +kernel
theorem dX11_spellLightest_69 : decode cX11_spellLightest 69 = .ok (.irem, 1) := by decide +kernel
theorem dX11_spellLightest_70 : decode cX11_spellLightest 70 = .ok (.putfield 252, 3) := by decide +kernel
theorem dX11_spellLightest_73 : decode cX11_spellLightest 73 = .ok (.iconst 0, 1) := by decide +kernel
theorem dX11_spellLightest_74 : decode cX11_spellLightest 74 = .ok (.istore_n 3, 1) := by decide +kernel
theorem dX11_spellLightest_75 : decode cX11_spellLightest 75 = .ok (.iload_n 3, 1) := by decide +kernel
theorem dX11_spellLightest_76 : decode cX11_spellLightest 76 = .ok (.aload_n 0, 1) := by decide +kernel
theorem dX11_spellLightest_77 : decode cX11_spellLightest 77 = .ok (.getfield 252, 3) := by decide +kernel
theorem dX11_spellLightest_80 : decode cX11_spellLightest 80 = .ok (.if_icmp .ge 69, 3) := by decide +kernel
theorem dX11_spellLightest_83 : decode cX11_spellLightest 83 = .ok (.iconst 0, 1) := by decide +kernel
theorem dX11_spellLightest_84 : decode cX11_spellLightest 84 = .ok (.istore 4, 2) := by decide +kernel
theorem dX11_spellLightest_86 : decode cX11_spellLightest 86 = .ok (.aload_n 0, 1) := by decide +kernel
theorem dX11_spellLightest_87 : decode cX11_spellLightest 87 = .ok (.iload_n 2, 1) := by decide +kernel
theorem dX11_spellLightest_88 : decode cX11_spellLightest 88 = .ok (.iload 4, 2) := by decide +kernel
theorem dX11_spellLightest_90 : decode cX11_spellLightest 90 = .ok (.iload_n 1, 1) := by decide +kernel
theorem dX11_spellLightest_91 : decode cX11_spellLightest 91 = .ok (.invokevirtual 322, 3) := by decide +kernel
theorem dX11_spellLightest_94 : decode cX11_spellLightest 94 = .ok (.istore 5, 2) := by decide +kernel
theorem dX11_spellLightest_96 : decode cX11_spellLightest 96 = .ok (.iload 5, 2) := by decide +kernel
theorem dX11_spellLightest_98 : decode cX11_spellLightest 98 = .ok (.ifCond .ne 19, 3) := by decide +kernel
theorem dX11_spellLightest_101 : decode cX11_spellLightest 101 = .ok (.iinc 4 1, 3) := by decide +kernel
theorem dX11_spellLightest_104 : decode cX11_spellLightest 104 = .ok (.aload_n 0, 1) := by decide +kernel
theorem dX11_spellLightest_105 : decode cX11_spellLightest 105 = .ok (.iload_n 2, 1) := by decide +kernel
theorem dX11_spellLightest_106 : decode cX11_spellLightest 106 = .ok (.iload 4, 2) := by decide +kernel
theorem dX11_spellLightest_108 : decode cX11_spellLightest 108 = .ok (.iload_n 1, 1) := by decide +kernel
theorem dX11_spellLightest_109 : decode cX11_spellLightest 109 = .ok (.invokevirtual 322, 3) := by decide +kernel
theorem dX11_spellLightest_112 : decode cX11_spellLightest 112 = .ok (.istore 5, 2) := by decide +kernel
theorem dX11_spellLightest_114 : decode cX11_spellLightest 114 = .ok (.goto (-18), 3) := by decide +kernel
theorem dX11_spellLightest_117 : decode cX11_spellLightest 117 = .ok (.aload_n 0, 1) := by decide +kernel
theorem dX11_spellLightest_118 : decode cX11_spellLightest 118 = .ok (.getfield 51, 3) := by decide +kernel
theorem dX11_spellLightest_121 : decode cX11_spellLightest 121 = .ok (.iload_n 3, 1) := by decide +kernel
theorem dX11_spellLightest_122 : decode cX11_spellLightest 122 = .ok (.iload 4, 2) := by decide +kernel
theorem dX11_spellLightest_124 : decode cX11_spellLightest 124 = .ok (.iastore, 1) := by decide +kernel
theorem dX11_spellLightest_125 : decode cX11_spellLightest 125 = .ok (.iload_n 1, 1) := by decide +kernel
theorem dX11_spellLightest_126 : decode cX11_spellLightest 126 = .ok (.bipush 16, 2) := by decide +kernel
theorem dX11_spellLightest_128 : decode cX11_spellLightest 128 = .ok (.aload_n 0, 1) := by decide +kernel
theorem dX11_spellLightest_129 : decode cX11_spellLightest 129 = .ok (.getfield 16, 3) := by decide +kernel
theorem dX11_spellLightest_132 : decode cX11_spellLightest 132 = .ok (.iload 4, 2) := by decide +kernel
theorem dX11_spellLightest_134 : decode cX11_spellLightest 134 = .ok (.iaload, 1) := by decide +kernel
theorem dX11_spellLightest_135 : decode cX11_spellLightest 135 = .ok (.imul, 1) := by decide +kernel
theorem dX11_spellLightest_136 : decode cX11_spellLightest 136 = .ok (.iconst 1, 1) := by decide +kernel
theorem dX11_spellLightest_137 : decode cX11_spellLightest 137 = .ok (.iadd, 1) := by decide +kernel
theorem dX11_spellLightest_138 : decode cX11_spellLightest 138 = .ok (.isub, 1) := by decide +kernel
theorem dX11_spellLightest_139 : decode cX11_spellLightest 139 = .ok (.istore_n 1, 1) := by decide +kernel
theorem dX11_spellLightest_140 : decode cX11_spellLightest 140 = .ok (.iload 5, 2) := by decide +kernel
theorem dX11_spellLightest_142 : decode cX11_spellLightest 142 = .ok (.istore_n 2, 1) := by decide +kernel
theorem dX11_spellLightest_143 : decode cX11_spellLightest 143 = .ok (.iinc 3 1, 3) := by decide +kernel
theorem dX11_spellLightest_146 : decode cX11_spellLightest 146 = .ok (.goto (-71), 3) := by decide +kernel
theorem dX11_spellLightest_149 : decode cX11_spellLightest 149 = .ok (.aload_n 0, 1) := by decide +kernel
theorem dX11_spellLightest_150 : decode cX11_spellLightest 150 = .ok (.getfield 252, 3) := by decide +kernel
theorem dX11_spellLightest_153 : decode cX11_spellLightest 153 = .ok (.ireturn, 1) := by decide +kernel
set_option maxRecDepth 20000 in
theorem ggX11_goesLight_X11_step : GoodIn wsX11_goesLight wsX11_step := goodIn_r _ [8, 1, 9, 10, 11, 7, 12, 13, 14, 15, 16, 17, 18, 19, 20, 21, 22, 23, 24, 25, 26, 27, 28, 29, 30, 31, 32, 33, 34, 35, 36, 37, 38, 39, 40, 41, 42, 43, 44, 45, 46, 47, 48, 49, 50, 51, 52, 53, 54, 55, 56, 57, 58, 59, 60, 61, 62] (by rfl) (by decide +kernel)
set_option maxRecDepth 20000 in
theorem gX11_goesLight_X11_step : GoodIn wsX11_goesLight (wsV RX11 143 RX11 yX11_step wsX11_step) := goodIn_app (goodIn_of _ (by decide +kernel)) ggX11_goesLight_X11_step
set_option maxRecDepth 20000 in
theorem ggX11_goesLight_X11_has : GoodIn wsX11_goesLight wsX11_has := goodIn_r _ [12] (by decide +kernel) (by decide +kernel)
set_option maxRecDepth 20000 in
theorem gX11_goesLight_X11_has : GoodIn wsX11_goesLight (va_wsS RX11 139 yX11_has wsX11_has) := goodIn_app (goodIn_of _ (by decide +kernel)) ggX11_goesLight_X11_has
theorem dX11_goesLight_0 : decode cX11_goesLight 0 = .ok (.iconst 0, 1) := by decide +kernel
theorem dX11_goesLight_1 : decode cX11_goesLight 1 = .ok (.istore 4, 2) := by decide +kernel
theorem dX11_goesLight_3 : decode cX11_goesLight 3 = .ok (.aload_n 0, 1) := by decide +kernel
theorem dX11_goesLight_4 : decode cX11_goesLight 4 = .ok (.iload_n 1, 1) := by decide +kernel
theorem dX11_goesLight_5 : decode cX11_goesLight 5 = .ok (.iload_n 2, 1) := by decide +kernel
theorem dX11_goesLight_6 : decode cX11_goesLight 6 = .ok (.invokevirtual 143, 3) := by decide +kernel
theorem dX11_goesLight_9 : decode cX11_goesLight 9 = .ok (.istore 5, 2) := by decide +kernel
theorem dX11_goesLight_11 : decode cX11_goesLight 11 = .ok (.iconst 0, 1) := by decide +kernel
theorem dX11_goesLight_12 : decode cX11_goesLight 12 = .ok (.istore 6, 2) := by decide +kernel
theorem dX11_goesLight_14 : decode cX11_goesLight 14 = .ok (.iload 6, 2) := by decide +kernel
theorem dX11_goesLight_16 : decode cX11_goesLight 16 = .ok (.aload_n 0, 1) := by decide +kernel
theorem dX11_goesLight_17 : decode cX11_goesLight 17 = .ok (.getfield 19, 3) := by decide +kernel
theorem dX11_goesLight_20 : decode cX11_goesLight 20 = .ok (.if_icmp .ge 56, 3) := by decide +kernel
theorem dX11_goesLight_23 : decode cX11_goesLight 23 = .ok (.iload 4, 2) := by decide +kernel
theorem dX11_goesLight_25 : decode cX11_goesLight 25 = .ok (.iload 5, 2) := by decide +kernel
theorem dX11_goesLight_27 : decode cX11_goesLight 27 = .ok (.i2l, 1) := by decide +kernel
theorem dX11_goesLight_28 : decode cX11_goesLight 28 = .ok (.iload 6, 2) := by decide +kernel
theorem dX11_goesLight_30 : decode cX11_goesLight 30 = .ok (.invokestatic 139, 3) := by decide +kernel
theorem dX11_goesLight_33 : decode cX11_goesLight 33 = .ok (.ifCond .eq 33, 3) := by decide +kernel
theorem dX11_goesLight_36 : decode cX11_goesLight 36 = .ok (.aload_n 0, 1) := by decide +kernel
theorem dX11_goesLight_37 : decode cX11_goesLight 37 = .ok (.getfield 73, 3) := by decide +kernel
theorem dX11_goesLight_40 : decode cX11_goesLight 40 = .ok (.iload 6, 2) := by decide +kernel
theorem dX11_goesLight_42 : decode cX11_goesLight 42 = .ok (.iaload, 1) := by decide +kernel
theorem dX11_goesLight_43 : decode cX11_goesLight 43 = .ok (.iload_n 3, 1) := by decide +kernel
theorem dX11_goesLight_44 : decode cX11_goesLight 44 = .ok (.bipush 16, 2) := by decide +kernel
theorem dX11_goesLight_46 : decode cX11_goesLight 46 = .ok (.aload_n 0, 1) := by decide +kernel
theorem dX11_goesLight_47 : decode cX11_goesLight 47 = .ok (.getfield 16, 3) := by decide +kernel
theorem dX11_goesLight_50 : decode cX11_goesLight 50 = .ok (.iload_n 2, 1) := by decide +kernel
theorem dX11_goesLight_51 : decode cX11_goesLight 51 = .ok (.iaload, 1) := by decide +kernel
theorem dX11_goesLight_52 : decode cX11_goesLight 52 = .ok (.imul, 1) := by decide +kernel
theorem dX11_goesLight_53 : decode cX11_goesLight 53 = .ok (.isub, 1) := by decide +kernel
theorem dX11_goesLight_54 : decode cX11_goesLight 54 = .ok (.iconst 1, 1) := by decide +kernel
theorem dX11_goesLight_55 : decode cX11_goesLight 55 = .ok (.isub, 1) := by decide +kernel
theorem dX11_goesLight_56 : decode cX11_goesLight 56 = .ok (.if_icmp .ne 10, 3) := by decide +kernel
theorem dX11_goesLight_59 : decode cX11_goesLight 59 = .ok (.iconst 1, 1) := by decide +kernel
theorem dX11_goesLight_60 : decode cX11_goesLight 60 = .ok (.iload 6, 2) := by decide +kernel
theorem dX11_goesLight_62 : decode cX11_goesLight 62 = .ok (.ishl, 1) := by decide +kernel
theorem dX11_goesLight_63 : decode cX11_goesLight 63 = .ok (.goto 4, 3) := by decide +kernel
theorem dX11_goesLight_66 : decode cX11_goesLight 66 = .ok (.iconst 0, 1) := by decide +kernel
theorem dX11_goesLight_67 : decode cX11_goesLight 67 = .ok (.ior, 1) := by decide +kernel
theorem dX11_goesLight_68 : decode cX11_goesLight 68 = .ok (.istore 4, 2) := by decide +kernel
theorem dX11_goesLight_70 : decode cX11_goesLight 70 = .ok (.iinc 6 1, 3) := by decide +kernel
theorem dX11_goesLight_73 : decode cX11_goesLight 73 = .ok (.goto (-59), 3) := by decide +kernel
theorem dX11_goesLight_76 : decode cX11_goesLight 76 = .ok (.iload 4, 2) := by decide +kernel
theorem dX11_goesLight_78 : decode cX11_goesLight 78 = .ok (.ireturn, 1) := by decide +kernel
set_option maxRecDepth 20000 in
theorem ggX11_spell_X11_finds : GoodIn wsX11_spell wsX11_finds := goodIn_r _ [8, 9, 10, 1, 2, 11, 12, 13, 14, 7, 15, 16, 17, 18, 19, 20, 21, 22, 23, 24, 25, 26, 27, 28, 29, 30, 31, 32, 33, 34, 35, 3, 36, 37, 38, 39, 40, 41, 42, 43, 44, 45, 46, 47, 48, 49, 50, 51, 52, 53, 54, 55, 56, 57, 58, 59, 60, 61, 62, 63, 64, 65, 66, 67, 68, 69, 70, 71, 72, 73, 74, 75, 76, 77, 78, 79, 80, 81, 82, 83, 84, 85, 86, 87, 88, 89, 90, 91, 114, 115, 116, 117, 118, 119, 120, 121, 122, 123, 124, 125, 126, 127, 128, 129, 130, 131, 132, 133, 134, 135, 136, 137, 138, 139, 140, 141, 142, 143, 144, 145, 146, 147, 148, 149, 150, 151, 152, 153, 154, 155, 156, 157, 158, 159, 160, 161, 162, 163] (by rfl) (by decide +kernel)
set_option maxRecDepth 20000 in
theorem gX11_spell_X11_finds : GoodIn wsX11_spell (wsV RX11 294 RX11 yX11_finds wsX11_finds) := goodIn_app (goodIn_of _ (by decide +kernel)) ggX11_spell_X11_finds
set_option maxRecDepth 20000 in
theorem ggX11_spell_X11_spellAmbiguous : GoodIn wsX11_spell wsX11_spellAmbiguous := goodIn_r _ [34, 17, 18, 16, 35, 3, 36, 37, 38, 7, 39, 40, 41, 42, 43, 44, 45, 27, 28, 29, 30, 46, 47, 48, 49, 50, 51, 52, 53, 54, 55, 56, 57, 58, 59, 60, 61, 62, 63, 64, 65, 66, 67, 68, 69, 70, 71, 72, 73, 74, 75, 76, 77, 78, 79, 80, 114, 115, 116, 117, 118, 119, 120, 121, 122, 123, 124, 125, 126, 127, 128, 129, 130, 131, 132, 133, 134, 135, 136, 137, 138, 139, 140, 141, 142, 143, 144, 145, 146, 147, 148, 149, 150, 151, 152, 153, 154, 155, 156, 157, 158, 159, 160, 161, 162, 163] (by rfl) (by decide +kernel)
set_option maxRecDepth 20000 in
theorem gX11_spell_X11_spellAmbiguous : GoodIn wsX11_spell (wsV RX11 276 RX11 yX11_spellAmbiguous wsX11_spellAmbiguous) := goodIn_app (goodIn_of _ (by decide +kernel)) ggX11_spell_X11_spellAmbiguous
set_option maxRecDepth 20000 in
theorem ggX11_spell_X11_spellLightest : GoodIn wsX11_spell wsX11_spellLightest := goodIn_r _ [95, 96, 17, 16, 97, 67, 68, 98, 99, 100, 101, 7, 102, 18, 27, 28, 29, 30, 103, 104, 105, 106, 23, 24, 25, 26, 114, 115, 116, 117, 118, 119, 120, 121, 122, 123, 124, 125, 126, 127, 128, 129, 130, 131, 132, 133, 134, 135, 136, 137, 138, 139, 140, 141, 142, 143, 144, 145, 146, 147, 148, 149, 150, 151, 152, 153, 154, 155, 156, 157, 158, 159, 160, 161, 162, 163] (by rfl) (by decide +kernel)
set_option maxRecDepth 20000 in
theorem gX11_spell_X11_spellLightest : GoodIn wsX11_spell (wsV RX11 325 RX11 yX11_spellLightest wsX11_spellLightest) := goodIn_app (goodIn_of _ (by decide +kernel)) ggX11_spell_X11_spellLightest
set_option maxRecDepth 20000 in
theorem ggX11_spell_X11_nobodyIsHere : GoodIn wsX11_spell wsX11_nobodyIsHere := goodIn_r _ [61, 3, 62, 114, 115, 116, 117, 118, 119, 120, 121, 122, 123, 124, 125, 126, 127, 128, 129, 130, 131, 132, 133, 134, 135, 136, 137, 138, 139, 140, 141, 142, 143, 144, 145, 146, 147, 148, 149, 150, 151, 152, 153, 154, 155, 156, 157, 158, 159, 160, 161, 162, 163] (by decide +kernel) (by decide +kernel)
set_option maxRecDepth 20000 in
theorem gX11_spell_X11_nobodyIsHere : GoodIn wsX11_spell (wsV RX11 265 RX11 yX11_nobodyIsHere wsX11_nobodyIsHere) := goodIn_app (goodIn_of _ (by decide +kernel)) ggX11_spell_X11_nobodyIsHere
set_option maxRecDepth 20000 in
theorem ggX11_spell_X11_lowest : GoodIn wsX11_spell wsX11_lowest := goodIn_r _ [109, 28, 29, 7, 30] (by decide +kernel) (by decide +kernel)
set_option maxRecDepth 20000 in
theorem gX11_spell_X11_lowest : GoodIn wsX11_spell (va_wsS RX11 312 yX11_lowest wsX11_lowest) := goodIn_app (goodIn_of _ (by decide +kernel)) ggX11_spell_X11_lowest
set_option maxRecDepth 20000 in
theorem ggX11_spell_X11_loopOf : GoodIn wsX11_spell wsX11_loopOf := goodIn_r _ [84, 35, 36, 37, 38, 7, 39, 40, 41, 42, 43, 44, 45, 17, 27, 28, 29, 30, 46, 47, 48, 49, 50, 51, 52, 53, 54, 55, 56, 57, 114, 115, 116, 117, 118, 119, 120, 121, 122, 123, 124, 125, 126, 127, 128, 129, 130, 131, 132, 133, 134, 135, 136, 137, 138, 139, 140, 141, 142, 143, 144, 145, 146, 147, 148, 149, 150, 151, 152, 153, 154, 155, 156, 157, 158, 159, 160, 161, 162, 163] (by rfl) (by decide +kernel)
set_option maxRecDepth 20000 in
theorem gX11_spell_X11_loopOf : GoodIn wsX11_spell (wsV RX11 288 RX11 yX11_loopOf wsX11_loopOf) := goodIn_app (goodIn_of _ (by decide +kernel)) ggX11_spell_X11_loopOf
set_option maxRecDepth 20000 in
theorem ggX11_spell_X11_pairNode : GoodIn wsX11_spell wsX11_pairNode := goodIn_r _ [48] (by decide +kernel) (by decide +kernel)
set_option maxRecDepth 20000 in
theorem gX11_spell_X11_pairNode : GoodIn wsX11_spell (va_wsS RX11 237 yX11_pairNode wsX11_pairNode) := goodIn_app (goodIn_of _ (by decide +kernel)) ggX11_spell_X11_pairNode
set_option maxRecDepth 20000 in
theorem ggX11_spell_X11_spells : GoodIn wsX11_spell wsX11_spells := goodIn_r _ [66, 67, 68, 3, 62, 69, 70, 71, 7, 72, 35, 73, 74, 75, 76, 27, 28, 29, 30, 77, 78, 79, 80, 114, 115, 116, 117, 118, 119, 120, 121, 122, 123, 124, 125, 126, 127, 128, 129, 130, 131, 132, 133, 134, 135, 136, 137, 138, 139, 140, 141, 142, 143, 144, 145, 146, 147, 148, 149, 150, 151, 152, 153, 154, 155, 156, 157, 158, 159, 160, 161, 162, 163] (by rfl) (by decide +kernel)
