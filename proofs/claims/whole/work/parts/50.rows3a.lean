theorem dX11_splitOf_203 : decode cX11_splitOf 203 = .ok (.ireturn, 1) := by decide +kernel
set_option maxRecDepth 20000 in
theorem ggX11_finds_X11_useful : GoodIn wsX11_finds wsX11_useful := goodIn_r _ [10, 11, 12, 13, 14, 15, 16, 9, 17, 18, 19, 20, 21, 22, 23, 24, 25, 88, 89, 90, 91, 92, 93, 94, 95, 96, 97, 98, 99, 100, 101, 102, 103, 104, 105, 106, 107, 108, 109, 110, 111, 112, 113, 114, 115, 116, 117, 118, 119, 120, 121, 122, 123, 124, 125, 126, 127, 128, 129, 130, 131, 132, 133, 134, 135, 136, 137] (by rfl) (by decide +kernel)
set_option maxRecDepth 20000 in
theorem gX11_finds_X11_useful : GoodIn wsX11_finds (wsV RX11 151 RX11 yX11_useful wsX11_useful) := goodIn_app (goodIn_of _ (by decide +kernel)) ggX11_finds_X11_useful
set_option maxRecDepth 20000 in
theorem ggX11_finds_X11_spellAmbiguous : GoodIn wsX11_finds wsX11_spellAmbiguous := goodIn_r _ [29, 12, 13, 11, 30, 31, 32, 33, 34, 9, 35, 36, 37, 38, 39, 40, 41, 22, 23, 24, 25, 42, 43, 44, 45, 46, 47, 48, 49, 50, 51, 52, 53, 54, 55, 56, 57, 58, 59, 60, 61, 62, 63, 64, 65, 66, 67, 68, 69, 70, 71, 72, 73, 74, 75, 76, 88, 89, 90, 91, 92, 93, 94, 95, 96, 97, 98, 99, 100, 101, 102, 103, 104, 105, 106, 107, 108, 109, 110, 111, 112, 113, 114, 115, 116, 117, 118, 119, 120, 121, 122, 123, 124, 125, 126, 127, 128, 129, 130, 131, 132, 133, 134, 135, 136, 137] (by rfl) (by decide +kernel)
set_option maxRecDepth 20000 in
theorem gX11_finds_X11_spellAmbiguous : GoodIn wsX11_finds (wsV RX11 276 RX11 yX11_spellAmbiguous wsX11_spellAmbiguous) := goodIn_app (goodIn_of _ (by decide +kernel)) ggX11_finds_X11_spellAmbiguous
set_option maxRecDepth 20000 in
theorem ggX11_finds_X11_has : GoodIn wsX11_finds wsX11_has := goodIn_r _ [25] (by decide +kernel) (by decide +kernel)
set_option maxRecDepth 20000 in
theorem gX11_finds_X11_has : GoodIn wsX11_finds (va_wsS RX11 139 yX11_has wsX11_has) := goodIn_app (goodIn_of _ (by decide +kernel)) ggX11_finds_X11_has
set_option maxRecDepth 20000 in
theorem ggX11_finds_X11_loopOf : GoodIn wsX11_finds wsX11_loopOf := goodIn_r _ [80, 30, 32, 33, 34, 9, 35, 36, 37, 38, 39, 40, 41, 12, 22, 23, 24, 25, 42, 43, 44, 45, 46, 47, 48, 49, 50, 51, 52, 53, 88, 89, 90, 91, 92, 93, 94, 95, 96, 97, 98, 99, 100, 101, 102, 103, 104, 105, 106, 107, 108, 109, 110, 111, 112, 113, 114, 115, 116, 117, 118, 119, 120, 121, 122, 123, 124, 125, 126, 127, 128, 129, 130, 131, 132, 133, 134, 135, 136, 137] (by rfl) (by decide +kernel)
set_option maxRecDepth 20000 in
theorem gX11_finds_X11_loopOf : GoodIn wsX11_finds (wsV RX11 288 RX11 yX11_loopOf wsX11_loopOf) := goodIn_app (goodIn_of _ (by decide +kernel)) ggX11_finds_X11_loopOf
set_option maxRecDepth 20000 in
theorem ggX11_finds_X11_splitOf : GoodIn wsX11_finds wsX11_splitOf := goodIn_r _ [84, 36, 49, 30, 41, 32, 33, 34, 9, 35, 37, 38, 39, 40, 12, 22, 23, 24, 25, 85, 86, 87, 45, 46, 47, 48, 88, 89, 90, 91, 92, 93, 94, 95, 96, 97, 98, 99, 100, 101, 102, 103, 104, 105, 106, 107, 108, 109, 110, 111, 112, 113, 114, 115, 116, 117, 118, 119, 120, 121, 122, 123, 124, 125, 126, 127, 128, 129, 130, 131, 132, 133, 134, 135, 136, 137] (by rfl) (by decide +kernel)
set_option maxRecDepth 20000 in
theorem gX11_finds_X11_splitOf : GoodIn wsX11_finds (wsV RX11 291 RX11 yX11_splitOf wsX11_splitOf) := goodIn_app (goodIn_of _ (by decide +kernel)) ggX11_finds_X11_splitOf
theorem dX11_finds_0 : decode cX11_finds 0 = .ok (.aload_n 0, 1) := by decide +kernel
theorem dX11_finds_1 : decode cX11_finds 1 = .ok (.getfield 118, 3) := by decide +kernel
theorem dX11_finds_4 : decode cX11_finds 4 = .ok (.ifCond .eq 4, 3) := by decide +kernel
theorem dX11_finds_7 : decode cX11_finds 7 = .ok (.return_, 1) := by decide +kernel
theorem dX11_finds_8 : decode cX11_finds 8 = .ok (.aload_n 0, 1) := by decide +kernel
theorem dX11_finds_9 : decode cX11_finds 9 = .ok (.iconst 1, 1) := by decide +kernel
theorem dX11_finds_10 : decode cX11_finds 10 = .ok (.putfield 118, 3) := by decide +kernel
theorem dX11_finds_13 : decode cX11_finds 13 = .ok (.aload_n 0, 1) := by decide +kernel
theorem dX11_finds_14 : decode cX11_finds 14 = .ok (.invokevirtual 151, 3) := by decide +kernel
theorem dX11_finds_17 : decode cX11_finds 17 = .ok (.istore_n 1, 1) := by decide +kernel
theorem dX11_finds_18 : decode cX11_finds 18 = .ok (.aload_n 0, 1) := by decide +kernel
theorem dX11_finds_19 : decode cX11_finds 19 = .ok (.aload_n 0, 1) := by decide +kernel
theorem dX11_finds_20 : decode cX11_finds 20 = .ok (.invokevirtual 276, 3) := by decide +kernel
theorem dX11_finds_23 : decode cX11_finds 23 = .ok (.ifCond .lt 7, 3) := by decide +kernel
theorem dX11_finds_26 : decode cX11_finds 26 = .ok (.iconst 1, 1) := by decide +kernel
theorem dX11_finds_27 : decode cX11_finds 27 = .ok (.goto 4, 3) := by decide +kernel
theorem dX11_finds_30 : decode cX11_finds 30 = .ok (.iconst 0, 1) := by decide +kernel
theorem dX11_finds_31 : decode cX11_finds 31 = .ok (.putfield 279, 3) := by decide +kernel
theorem dX11_finds_34 : decode cX11_finds 34 = .ok (.aload_n 0, 1) := by decide +kernel
theorem dX11_finds_35 : decode cX11_finds 35 = .ok (.iconst 0, 1) := by decide +kernel
theorem dX11_finds_36 : decode cX11_finds 36 = .ok (.putfield 282, 3) := by decide +kernel
theorem dX11_finds_39 : decode cX11_finds 39 = .ok (.aload_n 0, 1) := by decide +kernel
theorem dX11_finds_40 : decode cX11_finds 40 = .ok (.iconst 0, 1) := by decide +kernel
theorem dX11_finds_41 : decode cX11_finds 41 = .ok (.putfield 285, 3) := by decide +kernel
theorem dX11_finds_44 : decode cX11_finds 44 = .ok (.iconst 0, 1) := by decide +kernel
theorem dX11_finds_45 : decode cX11_finds 45 = .ok (.istore_n 2, 1) := by decide +kernel
theorem dX11_finds_46 : decode cX11_finds 46 = .ok (.iload_n 2, 1) := by decide +kernel
theorem dX11_finds_47 : decode cX11_finds 47 = .ok (.bipush 6, 2) := by decide +kernel
theorem dX11_finds_49 : decode cX11_finds 49 = .ok (.if_icmp .ge 129, 3) := by decide +kernel
theorem dX11_finds_52 : decode cX11_finds 52 = .ok (.iload_n 1, 1) := by decide +kernel
theorem dX11_finds_53 : decode cX11_finds 53 = .ok (.i2l, 1) := by decide +kernel
theorem dX11_finds_54 : decode cX11_finds 54 = .ok (.iload_n 2, 1) := by decide +kernel
theorem dX11_finds_55 : decode cX11_finds 55 = .ok (.invokestatic 139, 3) := by decide +kernel
theorem dX11_finds_58 : decode cX11_finds 58 = .ok (.ifCond .eq 26, 3) := by decide +kernel
theorem dX11_finds_61 : decode cX11_finds 61 = .ok (.aload_n 0, 1) := by decide +kernel
theorem dX11_finds_62 : decode cX11_finds 62 = .ok (.iload_n 2, 1) := by decide +kernel
theorem dX11_finds_63 : decode cX11_finds 63 = .ok (.invokevirtual 288, 3) := by decide +kernel
theorem dX11_finds_66 : decode cX11_finds 66 = .ok (.sipush 1000, 3) := by decide +kernel
theorem dX11_finds_69 : decode cX11_finds 69 = .ok (.if_icmp .ge 15, 3) := by decide +kernel
theorem dX11_finds_72 : decode cX11_finds 72 = .ok (.aload_n 0, 1) := by decide +kernel
theorem dX11_finds_73 : decode cX11_finds 73 = .ok (.dup, 1) := by decide +kernel
theorem dX11_finds_74 : decode cX11_finds 74 = .ok (.getfield 282, 3) := by decide +kernel
theorem dX11_finds_77 : decode cX11_finds 77 = .ok (.iconst 1, 1) := by decide +kernel
theorem dX11_finds_78 : decode cX11_finds 78 = .ok (.iload_n 2, 1) := by decide +kernel
theorem dX11_finds_79 : decode cX11_finds 79 = .ok (.ishl, 1) := by decide +kernel
theorem dX11_finds_80 : decode cX11_finds 80 = .ok (.ior, 1) := by decide +kernel
theorem dX11_finds_81 : decode cX11_finds 81 = .ok (.putfield 282, 3) := by decide +kernel
theorem dX11_finds_84 : decode cX11_finds 84 = .ok (.iconst 0, 1) := by decide +kernel
theorem dX11_finds_85 : decode cX11_finds 85 = .ok (.istore_n 3, 1) := by decide +kernel
theorem dX11_finds_86 : decode cX11_finds 86 = .ok (.iload_n 3, 1) := by decide +kernel
theorem dX11_finds_87 : decode cX11_finds 87 = .ok (.bipush 6, 2) := by decide +kernel
theorem dX11_finds_89 : decode cX11_finds 89 = .ok (.if_icmp .ge 83, 3) := by decide +kernel
theorem dX11_finds_92 : decode cX11_finds 92 = .ok (.iload_n 2, 1) := by decide +kernel
theorem dX11_finds_93 : decode cX11_finds 93 = .ok (.iload_n 3, 1) := by decide +kernel
theorem dX11_finds_94 : decode cX11_finds 94 = .ok (.if_icmp .eq 37, 3) := by decide +kernel
theorem dX11_finds_97 : decode cX11_finds 97 = .ok (.iload_n 1, 1) := by decide +kernel
theorem dX11_finds_98 : decode cX11_finds 98 = .ok (.i2l, 1) := by decide +kernel
theorem dX11_finds_99 : decode cX11_finds 99 = .ok (.iload_n 2, 1) := by decide +kernel
theorem dX11_finds_100 : decode cX11_finds 100 = .ok (.invokestatic 139, 3) := by decide +kernel
theorem dX11_finds_103 : decode cX11_finds 103 = .ok (.ifCond .eq 28, 3) := by decide +kernel
theorem dX11_finds_106 : decode cX11_finds 106 = .ok (.iload_n 1, 1) := by decide +kernel
theorem dX11_finds_107 : decode cX11_finds 107 = .ok (.i2l, 1) := by decide +kernel
theorem dX11_finds_108 : decode cX11_finds 108 = .ok (.iload_n 3, 1) := by decide +kernel
theorem dX11_finds_109 : decode cX11_finds 109 = .ok (.invokestatic 139, 3) := by decide +kernel
theorem dX11_finds_112 : decode cX11_finds 112 = .ok (.ifCond .eq 19, 3) := by decide +kernel
theorem dX11_finds_115 : decode cX11_finds 115 = .ok (.aload_n 0, 1) := by decide +kernel
theorem dX11_finds_116 : decode cX11_finds 116 = .ok (.iload_n 2, 1) := by decide +kernel
theorem dX11_finds_117 : decode cX11_finds 117 = .ok (.iload_n 3, 1) := by decide +kernel
theorem dX11_finds_118 : decode cX11_finds 118 = .ok (.invokevirtual 291, 3) := by decide +kernel
theorem dX11_finds_121 : decode cX11_finds 121 = .ok (.sipush 1000, 3) := by decide +kernel
theorem dX11_finds_124 : decode cX11_finds 124 = .ok (.if_icmp .ge 7, 3) := by decide +kernel
theorem dX11_finds_127 : decode cX11_finds 127 = .ok (.iconst 1, 1) := by decide +kernel
theorem dX11_finds_128 : decode cX11_finds 128 = .ok (.goto 4, 3) := by decide +kernel
theorem dX11_finds_131 : decode cX11_finds 131 = .ok (.iconst 0, 1) := by decide +kernel
theorem dX11_finds_132 : decode cX11_finds 132 = .ok (.istore 4, 2) := by decide +kernel
theorem dX11_finds_134 : decode cX11_finds 134 = .ok (.aload_n 0, 1) := by decide +kernel
theorem dX11_finds_135 : decode cX11_finds 135 = .ok (.getfield 61, 3) := by decide +kernel
theorem dX11_finds_138 : decode cX11_finds 138 = .ok (.bipush 6, 2) := by decide +kernel
theorem dX11_finds_140 : decode cX11_finds 140 = .ok (.iload_n 2, 1) := by decide +kernel
theorem dX11_finds_141 : decode cX11_finds 141 = .ok (.imul, 1) := by decide +kernel
theorem dX11_finds_142 : decode cX11_finds 142 = .ok (.iload_n 3, 1) := by decide +kernel
theorem dX11_finds_143 : decode cX11_finds 143 = .ok (.iadd, 1) := by decide +kernel
theorem dX11_finds_144 : decode cX11_finds 144 = .ok (.iload 4, 2) := by decide +kernel
theorem dX11_finds_146 : decode cX11_finds 146 = .ok (.bastore, 1) := by decide +kernel
theorem dX11_finds_147 : decode cX11_finds 147 = .ok (.aload_n 0, 1) := by decide +kernel
theorem dX11_finds_148 : decode cX11_finds 148 = .ok (.dup, 1) := by decide +kernel
theorem dX11_finds_149 : decode cX11_finds 149 = .ok (.getfield 285, 3) := by decide +kernel
theorem dX11_finds_152 : decode cX11_finds 152 = .ok (.iload 4, 2) := by decide +kernel
theorem dX11_finds_154 : decode cX11_finds 154 = .ok (.ifCond .eq 7, 3) := by decide +kernel
theorem dX11_finds_157 : decode cX11_finds 157 = .ok (.iconst 1, 1) := by decide +kernel
theorem dX11_finds_158 : decode cX11_finds 158 = .ok (.goto 4, 3) := by decide +kernel
theorem dX11_finds_161 : decode cX11_finds 161 = .ok (.iconst 0, 1) := by decide +kernel
theorem dX11_finds_162 : decode cX11_finds 162 = .ok (.iadd, 1) := by decide +kernel
theorem dX11_finds_163 : decode cX11_finds 163 = .ok (.putfield 285, 3) := by decide +kernel
theorem dX11_finds_166 : decode cX11_finds 166 = .ok (.iinc 3 1, 3) := by decide +kernel
theorem dX11_finds_169 : decode cX11_finds 169 = .ok (.goto (-83), 3) := by decide +kernel
theorem dX11_finds_172 : decode cX11_finds 172 = .ok (.iinc 2 1, 3) := by decide +kernel
theorem dX11_finds_175 : decode cX11_finds 175 = .ok (.goto (-129), 3) := by decide +kernel
theorem dX11_finds_178 : decode cX11_finds 178 = .ok (.return_, 1) := by decide +kernel
set_option maxRecDepth 20000 in
theorem ggX11_kindOf_X11_finds : GoodIn wsX11_kindOf wsX11_finds := goodIn_r _ [8, 9, 1, 2, 3, 10, 11, 12, 13, 7, 14, 15, 16, 17, 18, 19, 20, 21, 22, 23, 24, 25, 26, 27, 28, 29, 30, 31, 32, 33, 34, 35, 36, 37, 38, 39, 40, 41, 42, 43, 44, 45, 46, 47, 48, 49, 50, 51, 52, 53, 54, 55, 56, 57, 58, 59, 60, 61, 62, 63, 64, 65, 66, 67, 68, 69, 70, 71, 72, 73, 74, 75, 76, 77, 78, 79, 80, 81, 82, 83, 84, 85, 86, 87, 88, 89, 90, 91, 92, 93, 94, 95, 96, 97, 98, 99, 100, 101, 102, 103, 104, 105, 106, 107, 108, 109, 110, 111, 112, 113, 114, 115, 116, 117, 118, 119, 120, 121, 122, 123, 124, 125, 126, 127, 128, 129, 130, 131, 132, 133, 134, 135, 136, 137, 138, 139, 140, 141] (by rfl) (by decide +kernel)
set_option maxRecDepth 20000 in
theorem gX11_kindOf_X11_finds : GoodIn wsX11_kindOf (wsV RX11 294 RX11 yX11_finds wsX11_finds) := goodIn_app (goodIn_of _ (by decide +kernel)) ggX11_kindOf_X11_finds
theorem dX11_kindOf_0 : decode cX11_kindOf 0 = .ok (.aload_n 0, 1) := by decide +kernel
theorem dX11_kindOf_1 : decode cX11_kindOf 1 = .ok (.invokevirtual 294, 3) := by decide +kernel
theorem dX11_kindOf_4 : decode cX11_kindOf 4 = .ok (.aload_n 0, 1) := by decide +kernel
theorem dX11_kindOf_5 : decode cX11_kindOf 5 = .ok (.getfield 279, 3) := by decide +kernel
theorem dX11_kindOf_8 : decode cX11_kindOf 8 = .ok (.ifCond .ne 7, 3) := by decide +kernel
theorem dX11_kindOf_11 : decode cX11_kindOf 11 = .ok (.iconst 0, 1) := by decide +kernel
theorem dX11_kindOf_12 : decode cX11_kindOf 12 = .ok (.goto 26, 3) := by decide +kernel
theorem dX11_kindOf_15 : decode cX11_kindOf 15 = .ok (.aload_n 0, 1) := by decide +kernel
theorem dX11_kindOf_16 : decode cX11_kindOf 16 = .ok (.getfield 282, 3) := by decide +kernel
theorem dX11_kindOf_19 : decode cX11_kindOf 19 = .ok (.ifCond .eq 7, 3) := by decide +kernel
theorem dX11_kindOf_22 : decode cX11_kindOf 22 = .ok (.iconst 3, 1) := by decide +kernel
theorem dX11_kindOf_23 : decode cX11_kindOf 23 = .ok (.goto 15, 3) := by decide +kernel
theorem dX11_kindOf_26 : decode cX11_kindOf 26 = .ok (.aload_n 0, 1) := by decide +kernel
theorem dX11_kindOf_27 : decode cX11_kindOf 27 = .ok (.getfield 285, 3) := by decide +kernel
theorem dX11_kindOf_30 : decode cX11_kindOf 30 = .ok (.ifCond .le 7, 3) := by decide +kernel
theorem dX11_kindOf_33 : decode cX11_kindOf 33 = .ok (.iconst 2, 1) := by decide +kernel
theorem dX11_kindOf_34 : decode cX11_kindOf 34 = .ok (.goto 4, 3) := by decide +kernel
theorem dX11_kindOf_37 : decode cX11_kindOf 37 = .ok (.iconst 1, 1) := by decide +kernel
theorem dX11_kindOf_38 : decode cX11_kindOf 38 = .ok (.ireturn, 1) := by decide +kernel
set_option maxRecDepth 20000 in
theorem ggX11_kind_X11_kindOf : GoodIn wsX11_kind wsX11_kindOf := goodIn_r _ [5, 6, 7, 8, 9, 10, 11, 4, 12, 13, 14, 15, 16, 17, 18, 19, 20, 21, 22, 23, 24, 25, 26, 27, 28, 29, 30, 31, 32, 33, 34, 35, 36, 37, 38, 39, 40, 41, 42, 43, 44, 45, 46, 47, 48, 49, 50, 51, 52, 53, 54, 55, 56, 57, 58, 59, 60, 61, 62, 63, 64, 65, 66, 67, 68, 69, 70, 71, 72, 73, 74, 75, 76, 77, 78, 79, 80, 81, 82, 83, 84, 85, 86, 87, 88, 89, 90, 91, 92, 93, 94, 95, 96, 97, 98, 99, 100, 101, 102, 103, 104, 105, 106, 107, 108, 109, 110, 111, 112, 113, 114, 115, 116, 117, 118, 119, 120, 121, 122, 123, 124, 125, 126, 127, 128, 129, 130, 131, 132, 133, 134, 135, 136, 137, 138, 139, 140, 141, 142, 143, 144, 145] (by rfl) (by decide +kernel)
