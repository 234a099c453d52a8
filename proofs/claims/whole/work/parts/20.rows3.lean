theorem dX11_finds_0 : decode cX11_finds 0 = .ok (.aload_n 0, 1) := by decide +kernel
theorem dX11_finds_1 : decode cX11_finds 1 = .ok (.getfield 118, 3) := by decide +kernel
theorem dX11_finds_4 : decode cX11_finds 4 = .ok (.ifCond .eq 4, 3) := by decide +kernel
theorem dX11_finds_7 : decode cX11_finds 7 = .ok (.return_, 1) := by decide +kernel
theorem dX11_finds_8 : decode cX11_finds 8 = .ok (.aload_n 0, 1) := by decide +kernel
theorem dX11_finds_9 : decode cX11_finds 9 = .ok (.iconst 1, 1) := by decide +kernel
theorem dX11_finds_10 : decode cX11_finds 10 = .ok (.putfield 118, 3) := by decide +kernel
theorem dX11_finds_13 : decode cX11_finds 13 = .ok (.aload_n 0, 1) := by decide +kernel
theorem dX11_finds_14 : decode cX11_finds 14 = .ok (.invokevirtual 151, 3) := by decide +kernel
theorem dX11_finds_17 : decode cX11_finds 17 = .ok (.istore_n 1, 1) := by decide +kernel
theorem dX11_finds_18 : decode cX11_finds 18 = .ok (.aload_n 0, 1) := by decide +kernel
theorem dX11_finds_19 : decode cX11_finds 19 = .ok (.aload_n 0, 1) := by decide +kernel
theorem dX11_finds_20 : decode cX11_finds 20 = .ok (.invokevirtual 276, 3) := by decide +kernel
theorem dX11_finds_23 : decode cX11_finds 23 = .ok (.ifCond .lt 7, 3) := by decide +kernel
theorem dX11_finds_26 : decode cX11_finds 26 = .ok (.iconst 1, 1) := by decide +kernel
theorem dX11_finds_27 : decode cX11_finds 27 = .ok (.goto 4, 3) := by decide +kernel
theorem dX11_finds_30 : decode cX11_finds 30 = .ok (.iconst 0, 1) := by decide +kernel
theorem dX11_finds_31 : decode cX11_finds 31 = .ok (.putfield 279, 3) := by decide +kernel
theorem dX11_finds_34 : decode cX11_finds 34 = .ok (.aload_n 0, 1) := by decide +kernel
theorem dX11_finds_35 : decode cX11_finds 35 = .ok (.iconst 0, 1) := by decide +kernel
theorem dX11_finds_36 : decode cX11_finds 36 = .ok (.putfield 282, 3) := by decide +kernel
theorem dX11_finds_39 : decode cX11_finds 39 = .ok (.aload_n 0, 1) := by decide +kernel
theorem dX11_finds_40 : decode cX11_finds 40 = .ok (.iconst 0, 1) := by decide +kernel
theorem dX11_finds_41 : decode cX11_finds 41 = .ok (.putfield 285, 3) := by decide +kernel
theorem dX11_finds_44 : decode cX11_finds 44 = .ok (.iconst 0, 1) := by decide +kernel
theorem dX11_finds_45 : decode cX11_finds 45 = .ok (.istore_n 2, 1) := by decide +kernel
theorem dX11_finds_46 : decode cX11_finds 46 = .ok (.iload_n 2, 1) := by decide +kernel
theorem dX11_finds_47 : decode cX11_finds 47 = .ok (.bipush 6, 2) := by decide +kernel
theorem dX11_finds_49 : decode cX11_finds 49 = .ok (.if_icmp .ge 129, 3) := by decide +kernel
theorem dX11_finds_52 : decode cX11_finds 52 = .ok (.iload_n 1, 1) := by decide +kernel
theorem dX11_finds_53 : decode cX11_finds 53 = .ok (.i2l, 1) := by decide +kernel
theorem dX11_finds_54 : decode cX11_finds 54 = .ok (.iload_n 2, 1) := by decide +kernel
theorem dX11_finds_55 : decode cX11_finds 55 = .ok (.invokestatic 139, 3) := by decide +kernel
theorem dX11_finds_58 : decode cX11_finds 58 = .ok (.ifCond .eq 26, 3) := by decide +kernel
theorem dX11_finds_61 : decode cX11_finds 61 = .ok (.aload_n 0, 1) := by decide +kernel
theorem dX11_finds_62 : decode cX11_finds 62 = .ok (.iload_n 2, 1) := by decide +kernel
theorem dX11_finds_63 : decode cX11_finds 63 = .ok (.invokevirtual 288, 3) := by decide +kernel
theorem dX11_finds_66 : decode cX11_finds 66 = .ok (.sipush 1000, 3) := by decide +kernel
theorem dX11_finds_69 : decode cX11_finds 69 = .ok (.if_icmp .ge 15, 3) := by decide +kernel
theorem dX11_finds_72 : decode cX11_finds 72 = .ok (.aload_n 0, 1) := by decide +kernel
theorem dX11_finds_73 : decode cX11_finds 73 = .ok (.dup, 1) := by decide +kernel
theorem dX11_finds_74 : decode cX11_finds 74 = .ok (.getfield 282, 3) := by decide +kernel
theorem dX11_finds_77 : decode cX11_finds 77 = .ok (.iconst 1, 1) := by decide +kernel
theorem dX11_finds_78 : decode cX11_finds 78 = .ok (.iload_n 2, 1) := by decide +kernel
theorem dX11_finds_79 : decode cX11_finds 79 = .ok (.ishl, 1) := by decide +kernel
theorem dX11_finds_80 : decode cX11_finds 80 = .ok (.ior, 1) := by decide +kernel
theorem dX11_finds_81 : decode cX11_finds 81 = .ok (.putfield 282, 3) := by decide +kernel
theorem dX11_finds_84 : decode cX11_finds 84 = .ok (.iconst 0, 1) := by decide +kernel
theorem dX11_finds_85 : decode cX11_finds 85 = .ok (.istore_n 3, 1) := by decide +kernel
theorem dX11_finds_86 : decode cX11_finds 86 = .ok (.iload_n 3, 1) := by decide +kernel
theorem dX11_finds_87 : decode cX11_finds 87 = .ok (.bipush 6, 2) := by decide +kernel
theorem dX11_finds_89 : decode cX11_finds 89 = .ok (.if_icmp .ge 83, 3) := by decide +kernel
theorem dX11_finds_92 : decode cX11_finds 92 = .ok (.iload_n 2, 1) := by decide +kernel
theorem dX11_finds_93 : decode cX11_finds 93 = .ok (.iload_n 3, 1) := by decide +kernel
theorem dX11_finds_94 : decode cX11_finds 94 = .ok (.if_icmp .eq 37, 3) := by decide +kernel
theorem dX11_finds_97 : decode cX11_finds 97 = .ok (.iload_n 1, 1) := by decide +kernel
theorem dX11_finds_98 : decode cX11_finds 98 = .ok (.i2l, 1) := by decide +kernel
theorem dX11_finds_99 : decode cX11_finds 99 = .ok (.iload_n 2, 1) := by decide +kernel
theorem dX11_finds_100 : decode cX11_finds 100 = .ok (.invokestatic 139, 3) := by decide +kernel
theorem dX11_finds_103 : decode cX11_finds 103 = .ok (.ifCond .eq 28, 3) := by decide +kernel
theorem dX11_finds_106 : decode cX11_finds 106 = .ok (.iload_n 1, 1) := by decide +kernel
theorem dX11_finds_107 : decode cX11_finds 107 = .ok (.i2l, 1) := by decide +kernel
theorem dX11_finds_108 : decode cX11_finds 108 = .ok (.iload_n 3, 1) := by decide +kernel
theorem dX11_finds_109 : decode cX11_finds 109 = .ok (.invokestatic 139, 3) := by decide +kernel
theorem dX11_finds_112 : decode cX11_finds 112 = .ok (.ifCond .eq 19, 3) := by decide +kernel
theorem dX11_finds_115 : decode cX11_finds 115 = .ok (.aload_n 0, 1) := by decide +kernel
theorem dX11_finds_116 : decode cX11_finds 116 = .ok (.iload_n 2, 1) := by decide +kernel
theorem dX11_finds_117 : decode cX11_finds 117 = .ok (.iload_n 3, 1) := by decide +kernel
theorem dX11_finds_118 : decode cX11_finds 118 = .ok (.invokevirtual 291, 3) := by decide +kernel
theorem dX11_finds_121 : decode cX11_finds 121 = .ok (.sipush 1000, 3) := by decide +kernel
theorem dX11_finds_124 : decode cX11_finds 124 = .ok (.if_icmp .ge 7, 3) := by decide +kernel
theorem dX11_finds_127 : decode cX11_finds 127 = .ok (.iconst 1, 1) := by decide +kernel
theorem dX11_finds_128 : decode cX11_finds 128 = .ok (.goto 4, 3) := by decide +kernel
theorem dX11_finds_131 : decode cX11_finds 131 = .ok (.iconst 0, 1) := by decide +kernel
theorem dX11_finds_132 : decode cX11_finds 132 = .ok (.istore 4, 2) := by decide +kernel
theorem dX11_finds_134 : decode cX11_finds 134 = .ok (.aload_n 0, 1) := by decide +kernel
theorem dX11_finds_135 : decode cX11_finds 135 = .ok (.getfield 61, 3) := by decide +kernel
theorem dX11_finds_138 : decode cX11_finds 138 = .ok (.bipush 6, 2) := by decide +kernel
theorem dX11_finds_140 : decode cX11_finds 140 = .ok (.iload_n 2, 1) := by decide +kernel
theorem dX11_finds_141 : decode cX11_finds 141 = .ok (.imul, 1) := by decide +kernel
theorem dX11_finds_142 : decode cX11_finds 142 = .ok (.iload_n 3, 1) := by decide +kernel
theorem dX11_finds_143 : decode cX11_finds 143 = .ok (.iadd, 1) := by decide +kernel
theorem dX11_finds_144 : decode cX11_finds 144 = .ok (.iload 4, 2) := by decide +kernel
theorem dX11_finds_146 : decode cX11_finds 146 = .ok (.bastore, 1) := by decide +kernel
theorem dX11_finds_147 : decode cX11_finds 147 = .ok (.aload_n 0, 1) := by decide +kernel
theorem dX11_finds_148 : decode cX11_finds 148 = .ok (.dup, 1) := by decide +kernel
theorem dX11_finds_149 : decode cX11_finds 149 = .ok (.getfield 285, 3) := by decide +kernel
theorem dX11_finds_152 : decode cX11_finds 152 = .ok (.iload 4, 2) := by decide +kernel
theorem dX11_finds_154 : decode cX11_finds 154 = .ok (.ifCond .eq 7, 3) := by decide +kernel
theorem dX11_finds_157 : decode cX11_finds 157 = .ok (.iconst 1, 1) := by decide +kernel
theorem dX11_finds_158 : decode cX11_finds 158 = .ok (.goto 4, 3) := by decide +kernel
theorem dX11_finds_161 : decode cX11_finds 161 = .ok (.iconst 0, 1) := by decide +kernel
theorem dX11_finds_162 : decode cX11_finds 162 = .ok (.iadd, 1) := by decide +kernel
theorem dX11_finds_163 : decode cX11_finds 163 = .ok (.putfield 285, 3) := by decide +kernel
theorem dX11_finds_166 : decode cX11_finds 166 = .ok (.iinc 3 1, 3) := by decide +kernel
theorem dX11_finds_169 : decode cX11_finds 169 = .ok (.goto (-83), 3) := by decide +kernel
theorem dX11_finds_172 : decode cX11_finds 172 = .ok (.iinc 2 1, 3) := by decide +kernel
theorem dX11_finds_175 : decode cX11_finds 175 = .ok (.goto (-129), 3) := by decide +kernel
theorem dX11_finds_178 : decode cX11_finds 178 = .ok (.return_, 1) := by decide +kernel
set_option maxRecDepth 20000 in
theorem ggX11_kindOf_X11_finds : GoodIn wsX11_kindOf wsX11_finds := goodIn_r _ [8, 9, 1, 2, 3, 10, 11, 12, 13, 7, 14, 15, 16, 17, 18, 19, 20, 21, 22, 23, 24, 25, 26, 27, 28, 29, 30, 31, 32, 33, 34, 35, 36, 37, 38, 39, 40, 41, 42, 43, 44, 45, 46, 47, 48, 49, 50, 51, 52, 53, 54, 55, 56, 57, 58, 59, 60, 61, 62, 63, 64, 65, 66, 67, 68, 69, 70, 71, 72, 73, 74, 75, 76, 77, 78, 79, 80, 81, 82, 83, 84, 85, 86, 87, 88, 89, 90, 91, 92, 93, 94, 95, 96, 97, 98, 99, 100, 101, 102, 103, 104, 105, 106, 107, 108, 109, 110, 111, 112, 113, 114, 115, 116, 117, 118, 119, 120, 121, 122, 123, 124, 125, 126, 127, 128, 129, 130, 131, 132, 133, 134, 135, 136, 137, 138, 139, 140, 141] (by decide +kernel) (by decide +kernel)
set_option maxRecDepth 20000 in
theorem gX11_kindOf_X11_finds : GoodIn wsX11_kindOf (wsV RX11 294 RX11 yX11_finds wsX11_finds) := goodIn_app (goodIn_of _ (by decide +kernel)) ggX11_kindOf_X11_finds
theorem dX11_kindOf_0 : decode cX11_kindOf 0 = .ok (.aload_n 0, 1) := by decide +kernel
theorem dX11_kindOf_1 : decode cX11_kindOf 1 = .ok (.invokevirtual 294, 3) := by decide +kernel
theorem dX11_kindOf_4 : decode cX11_kindOf 4 = .ok (.aload_n 0, 1) := by decide +kernel
theorem dX11_kindOf_5 : decode cX11_kindOf 5 = .ok (.getfield 279, 3) := by decide +kernel
theorem dX11_kindOf_8 : decode cX11_kindOf 8 = .ok (.ifCond .ne 7, 3) := by decide +kernel
theorem dX11_kindOf_11 : decode cX11_kindOf 11 = .ok (.iconst 0, 1) := by decide +kernel
theorem dX11_kindOf_12 : decode cX11_kindOf 12 = .ok (.goto 26, 3) := by decide +kernel
theorem dX11_kindOf_15 : decode cX11_kindOf 15 = .ok (.aload_n 0, 1) := by decide +kernel
theorem dX11_kindOf_16 : decode cX11_kindOf 16 = .ok (.getfield 282, 3) := by decide +kernel
theorem dX11_kindOf_19 : decode cX11_kindOf 19 = .ok (.ifCond .eq 7, 3) := by decide +kernel
theorem dX11_kindOf_22 : decode cX11_kindOf 22 = .ok (.iconst 3, 1) := by decide +kernel
theorem dX11_kindOf_23 : decode cX11_kindOf 23 = .ok (.goto 15, 3) := by decide +kernel
theorem dX11_kindOf_26 : decode cX11_kindOf 26 = .ok (.aload_n 0, 1) := by decide +kernel
theorem dX11_kindOf_27 : decode cX11_kindOf 27 = .ok (.getfield 285, 3) := by decide +kernel
theorem dX11_kindOf_30 : decode cX11_kindOf 30 = .ok (.ifCond .le 7, 3) := by decide +kernel
theorem dX11_kindOf_33 : decode cX11_kindOf 33 = .ok (.iconst 2, 1) := by decide +kernel
theorem dX11_kindOf_34 : decode cX11_kindOf 34 = .ok (.goto 4, 3) := by decide +kernel
theorem dX11_kindOf_37 : decode cX11_kindOf 37 = .ok (.iconst 1, 1) := by decide +kernel
theorem dX11_kindOf_38 : decode cX11_kindOf 38 = .ok (.ireturn, 1) := by decide +kernel
set_option maxRecDepth 20000 in
theorem ggX11_kind_X11_kindOf : GoodIn wsX11_kind wsX11_kindOf := goodIn_r _ [5, 6, 7, 8, 9, 10, 11, 4, 12, 13, 14, 15, 16, 17, 18, 19, 20, 21, 22, 23, 24, 25, 26, 27, 28, 29, 30, 31, 32, 33, 34, 35, 36, 37, 38, 39, 40, 41, 42, 43, 44, 45, 46, 47, 48, 49, 50, 51, 52, 53, 54, 55, 56, 57, 58, 59, 60, 61, 62, 63, 64, 65, 66, 67, 68, 69, 70, 71, 72, 73, 74, 75, 76, 77, 78, 79, 80, 81, 82, 83, 84, 85, 86, 87, 88, 89, 90, 91, 92, 93, 94, 95, 96, 97, 98, 99, 100, 101, 102, 103, 104, 105, 106, 107, 108, 109, 110, 111, 112, 113, 114, 115, 116, 117, 118, 119, 120, 121, 122, 123, 124, 125, 126, 127, 128, 129, 130, 131, 132, 133, 134, 135, 136, 137, 138, 139, 140, 141, 142, 143, 144, 145] (by decide +kernel) (by decide +kernel)
set_option maxRecDepth 20000 in
theorem gX11_kind_X11_kindOf : GoodIn wsX11_kind (wsV RX11 297 RX11 yX11_kindOf wsX11_kindOf) := goodIn_app (goodIn_of _ (by decide +kernel)) ggX11_kind_X11_kindOf
theorem dX11_kind_0 : decode cX11_kind 0 = .ok (.aload_n 0, 1) := by decide +kernel
theorem dX11_kind_1 : decode cX11_kind 1 = .ok (.invokevirtual 297, 3) := by decide +kernel
theorem dX11_kind_4 : decode cX11_kind 4 = .ok (.ireturn, 1) := by decide +kernel
set_option maxRecDepth 20000 in
theorem ggX11_degree_X11_kindOf : GoodIn wsX11_degree wsX11_kindOf := goodIn_r _ [7, 8, 9, 10, 11, 12, 13, 6, 14, 15, 2, 16, 17, 18, 19, 20, 21, 22, 23, 24, 25, 26, 27, 28, 29, 30, 31, 32, 33, 34, 35, 36, 37, 38, 39, 40, 41, 42, 43, 44, 45, 46, 47, 48, 49, 50, 51, 52, 53, 54, 55, 56, 57, 58, 59, 60, 61, 62, 63, 64, 65, 66, 67, 68, 69, 70, 71, 72, 73, 74, 75, 76, 77, 78, 79, 80, 81, 82, 83, 84, 85, 86, 87, 88, 89, 90, 91, 92, 93, 94, 95, 96, 97, 98, 99, 100, 101, 102, 103, 104, 105, 106, 107, 108, 109, 110, 111, 112, 113, 114, 115, 116, 117, 118, 119, 120, 121, 122, 123, 124, 125, 126, 127, 128, 129, 130, 131, 132, 133, 134, 135, 136, 137, 138, 139, 140, 141, 142, 143, 144, 145, 146] (by decide +kernel) (by decide +kernel)
set_option maxRecDepth 20000 in
theorem gX11_degree_X11_kindOf : GoodIn wsX11_degree (wsV RX11 297 RX11 yX11_kindOf wsX11_kindOf) := goodIn_app (goodIn_of _ (by decide +kernel)) ggX11_degree_X11_kindOf
set_option maxRecDepth 20000 in
theorem ggX11_degree_X11_reachedFrom : GoodIn wsX11_degree wsX11_reachedFrom := goodIn_r _ [26, 27, 28, 29, 6, 30, 21, 31, 32, 33, 34, 97, 98, 99, 100, 101, 102, 103, 104, 105, 106, 107, 108, 109, 110, 111, 112, 113, 114, 115, 116, 117, 118, 119, 120, 121, 122, 123, 124, 125, 126, 127, 128, 129, 130, 131, 132, 133, 134, 135, 136, 137, 138, 139, 140, 141, 142, 143, 144, 145, 146] (by decide +kernel) (by decide +kernel)
set_option maxRecDepth 20000 in
theorem gX11_degree_X11_reachedFrom : GoodIn wsX11_degree (wsV RX11 147 RX11 yX11_reachedFrom wsX11_reachedFrom) := goodIn_app (goodIn_of _ (by decide +kernel)) ggX11_degree_X11_reachedFrom
set_option maxRecDepth 20000 in
theorem ggX11_degree_X11_has : GoodIn wsX11_degree wsX11_has := goodIn_r _ [34] (by decide +kernel) (by decide +kernel)
set_option maxRecDepth 20000 in
theorem gX11_degree_X11_has : GoodIn wsX11_degree (va_wsS RX11 139 yX11_has wsX11_has) := goodIn_app (goodIn_of _ (by decide +kernel)) ggX11_degree_X11_has
theorem dX11_degree_0 : decode cX11_degree 0 = .ok (.aload_n 0, 1) := by decide +kernel
theorem dX11_degree_1 : decode cX11_degree 1 = .ok (.invokevirtual 297, 3) := by decide +kernel
theorem dX11_degree_4 : decode cX11_degree 4 = .ok (.istore_n 1, 1) := by decide +kernel
theorem dX11_degree_5 : decode cX11_degree 5 = .ok (.iload_n 1, 1) := by decide +kernel
theorem dX11_degree_6 : decode cX11_degree 6 = .ok (.iconst 3, 1) := by decide +kernel
theorem dX11_degree_7 : decode cX11_degree 7 = .ok (.if_icmp .ne 6, 3) := by decide +kernel
theorem dX11_degree_10 : decode cX11_degree 10 = .ok (.bipush (-4), 2) := by decide +kernel
theorem dX11_degree_12 : decode cX11_degree 12 = .ok (.ireturn, 1) := by decide +kernel
theorem dX11_degree_13 : decode cX11_degree 13 = .ok (.iload_n 1, 1) := by decide +kernel
theorem dX11_degree_14 : decode cX11_degree 14 = .ok (.iconst 2, 1) := by decide +kernel
theorem dX11_degree_15 : decode cX11_degree 15 = .ok (.if_icmp .ge 5, 3) := by decide +kernel
theorem dX11_degree_18 : decode cX11_degree 18 = .ok (.iconst 0, 1) := by decide +kernel
theorem dX11_degree_19 : decode cX11_degree 19 = .ok (.ireturn, 1) := by decide +kernel
theorem dX11_degree_20 : decode cX11_degree 20 = .ok (.iconst 0, 1) := by decide +kernel
theorem dX11_degree_21 : decode cX11_degree 21 = .ok (.istore_n 2, 1) := by decide +kernel
theorem dX11_degree_22 : decode cX11_degree 22 = .ok (.iconst 0, 1) := by decide +kernel
theorem dX11_degree_23 : decode cX11_degree 23 = .ok (.istore_n 3, 1) := by decide +kernel
theorem dX11_degree_24 : decode cX11_degree 24 = .ok (.iload_n 3, 1) := by decide +kernel
theorem dX11_degree_25 : decode cX11_degree 25 = .ok (.bipush 36, 2) := by decide +kernel
theorem dX11_degree_27 : decode cX11_degree 27 = .ok (.if_icmp .ge 29, 3) := by decide +kernel
theorem dX11_degree_30 : decode cX11_degree 30 = .ok (.aload_n 0, 1) := by decide +kernel
theorem dX11_degree_31 : decode cX11_degree 31 = .ok (.getfield 64, 3) := by decide +kernel
theorem dX11_degree_34 : decode cX11_degree 34 = .ok (.iload_n 3, 1) := by decide +kernel
theorem dX11_degree_35 : decode cX11_degree 35 = .ok (.aload_n 0, 1) := by decide +kernel
theorem dX11_degree_36 : decode cX11_degree 36 = .ok (.getfield 61, 3) := by decide +kernel
theorem dX11_degree_39 : decode cX11_degree 39 = .ok (.iload_n 3, 1) := by decide +kernel
theorem dX11_degree_40 : decode cX11_degree 40 = .ok (.baload, 1) := by decide +kernel
theorem dX11_degree_41 : decode cX11_degree 41 = .ok (.ifCond .eq 7, 3) := by decide +kernel
theorem dX11_degree_44 : decode cX11_degree 44 = .ok (.iconst 1, 1) := by decide +kernel
theorem dX11_degree_45 : decode cX11_degree 45 = .ok (.goto 4, 3) := by decide +kernel
theorem dX11_degree_48 : decode cX11_degree 48 = .ok (.iconst 0, 1) := by decide +kernel
theorem dX11_degree_49 : decode cX11_degree 49 = .ok (.iastore, 1) := by decide +kernel
theorem dX11_degree_50 : decode cX11_degree 50 = .ok (.iinc 3 1, 3) := by decide +kernel
theorem dX11_degree_53 : decode cX11_degree 53 = .ok (.goto (-29), 3) := by decide +kernel
theorem dX11_degree_56 : decode cX11_degree 56 = .ok (.iconst 0, 1) := by decide +kernel
theorem dX11_degree_57 : decode cX11_degree 57 = .ok (.istore_n 3, 1) := by decide +kernel
theorem dX11_degree_58 : decode cX11_degree 58 = .ok (.iload_n 3, 1) := by decide +kernel
theorem dX11_degree_59 : decode cX11_degree 59 = .ok (.bipush 36, 2) := by decide +kernel
theorem dX11_degree_61 : decode cX11_degree 61 = .ok (.if_icmp .ge 123, 3) := by decide +kernel
theorem dX11_degree_64 : decode cX11_degree 64 = .ok (.iconst 0, 1) := by decide +kernel
theorem dX11_degree_65 : decode cX11_degree 65 = .ok (.istore 4, 2) := by decide +kernel
theorem dX11_degree_67 : decode cX11_degree 67 = .ok (.iload 4, 2) := by decide +kernel
theorem dX11_degree_69 : decode cX11_degree 69 = .ok (.bipush 36, 2) := by decide +kernel
theorem dX11_degree_71 : decode cX11_degree 71 = .ok (.if_icmp .ge 107, 3) := by decide +kernel
theorem dX11_degree_74 : decode cX11_degree 74 = .ok (.aload_n 0, 1) := by decide +kernel
theorem dX11_degree_75 : decode cX11_degree 75 = .ok (.iconst 1, 1) := by decide +kernel
theorem dX11_degree_76 : decode cX11_degree 76 = .ok (.iload 4, 2) := by decide +kernel
theorem dX11_degree_78 : decode cX11_degree 78 = .ok (.bipush 6, 2) := by decide +kernel
theorem dX11_degree_80 : decode cX11_degree 80 = .ok (.irem, 1) := by decide +kernel
theorem dX11_degree_81 : decode cX11_degree 81 = .ok (.ishl, 1) := by decide +kernel
theorem dX11_degree_82 : decode cX11_degree 82 = .ok (.invokevirtual 147, 3) := by decide +kernel
theorem dX11_degree_85 : decode cX11_degree 85 = .ok (.istore 5, 2) := by decide +kernel
theorem dX11_degree_87 : decode cX11_degree 87 = .ok (.iconst 0, 1) := by decide +kernel
theorem dX11_degree_88 : decode cX11_degree 88 = .ok (.istore 6, 2) := by decide +kernel
theorem dX11_degree_90 : decode cX11_degree 90 = .ok (.iload 6, 2) := by decide +kernel
theorem dX11_degree_92 : decode cX11_degree 92 = .ok (.bipush 36, 2) := by decide +kernel
theorem dX11_degree_94 : decode cX11_degree 94 = .ok (.if_icmp .ge 78, 3) := by decide +kernel
theorem dX11_degree_97 : decode cX11_degree 97 = .ok (.aload_n 0, 1) := by decide +kernel
theorem dX11_degree_98 : decode cX11_degree 98 = .ok (.getfield 61, 3) := by decide +kernel
theorem dX11_degree_101 : decode cX11_degree 101 = .ok (.iload 4, 2) := by decide +kernel
theorem dX11_degree_103 : decode cX11_degree 103 = .ok (.baload, 1) := by decide +kernel
theorem dX11_degree_104 : decode cX11_degree 104 = .ok (.ifCond .eq 68, 3) := by decide +kernel
theorem dX11_degree_107 : decode cX11_degree 107 = .ok (.aload_n 0, 1) := by decide +kernel
theorem dX11_degree_108 : decode cX11_degree 108 = .ok (.getfield 61, 3) := by decide +kernel
theorem dX11_degree_111 : decode cX11_degree 111 = .ok (.iload 6, 2) := by decide +kernel
theorem dX11_degree_113 : decode cX11_degree 113 = .ok (.baload, 1) := by decide +kernel
theorem dX11_degree_114 : decode cX11_degree 114 = .ok (.ifCond .eq 52, 3) := by decide +kernel
theorem dX11_degree_117 : decode cX11_degree 117 = .ok (.iload 5, 2) := by decide +kernel
theorem dX11_degree_119 : decode cX11_degree 119 = .ok (.i2l, 1) := by decide +kernel
theorem dX11_degree_120 : decode cX11_degree 120 = .ok (.iload 6, 2) := by decide +kernel
theorem dX11_degree_122 : decode cX11_degree 122 = .ok (.bipush 6, 2) := by decide +kernel
theorem dX11_degree_124 : decode cX11_degree 124 = .ok (.idiv, 1) := by decide +kernel
theorem dX11_degree_125 : decode cX11_degree 125 = .ok (.invokestatic 139, 3) := by decide +kernel
theorem dX11_degree_128 : decode cX11_degree 128 = .ok (.ifCond .eq 38, 3) := by decide +kernel
theorem dX11_degree_131 : decode cX11_degree 131 = .ok (.aload_n 0, 1) := by decide +kernel
theorem dX11_degree_132 : decode cX11_degree 132 = .ok (.getfield 64, 3) := by decide +kernel
theorem dX11_degree_135 : decode cX11_degree 135 = .ok (.iload 4, 2) := by decide +kernel
theorem dX11_degree_137 : decode cX11_degree 137 = .ok (.iaload, 1) := by decide +kernel
theorem dX11_degree_138 : decode cX11_degree 138 = .ok (.iconst 1, 1) := by decide +kernel
theorem dX11_degree_139 : decode cX11_degree 139 = .ok (.iadd, 1) := by decide +kernel
theorem dX11_degree_140 : decode cX11_degree 140 = .ok (.aload_n 0, 1) := by decide +kernel
theorem dX11_degree_141 : decode cX11_degree 141 = .ok (.getfield 64, 3) := by decide +kernel
theorem dX11_degree_144 : decode cX11_degree 144 = .ok (.iload 6, 2) := by decide +kernel
theorem dX11_degree_146 : decode cX11_degree 146 = .ok (.iaload, 1) := by decide +kernel
theorem dX11_degree_147 : decode cX11_degree 147 = .ok (.if_icmp .le 19, 3) := by decide +kernel
theorem dX11_degree_150 : decode cX11_degree 150 = .ok (.aload_n 0, 1) := by decide +kernel
theorem dX11_degree_151 : decode cX11_degree 151 = .ok (.getfield 64, 3) := by decide +kernel
theorem dX11_degree_154 : decode cX11_degree 154 = .ok (.iload 6, 2) := by decide +kernel
theorem dX11_degree_156 : decode cX11_degree 156 = .ok (.aload_n 0, 1) := by decide +kernel
theorem dX11_degree_157 : decode cX11_degree 157 = .ok (.getfield 64, 3) := by decide +kernel
theorem dX11_degree_160 : decode cX11_degree 160 = .ok (.iload 4, 2) := by decide +kernel
theorem dX11_degree_162 : decode cX11_degree 162 = .ok (.iaload, 1) := by decide +kernel
theorem dX11_degree_163 : decode cX11_degree 163 = .ok (.iconst 1, 1) := by decide +kernel
theorem dX11_degree_164 : decode cX11_degree 164 = .ok (.iadd, 1) := by decide +kernel
theorem dX11_degree_165 : decode cX11_degree 165 = .ok (.iastore, 1) := by decide +kernel
theorem dX11_degree_166 : decode cX11_degree 166 = .ok (.iinc 6 1, 3) := by decide +kernel
theorem dX11_degree_169 : decode cX11_degree 169 = .ok (.goto (-79), 3) := by decide +kernel
theorem dX11_degree_172 : decode cX11_degree 172 = .ok (.iinc 4 1, 3) := by decide +kernel
theorem dX11_degree_175 : decode cX11_degree 175 = .ok (.goto (-108), 3) := by decide +kernel
theorem dX11_degree_178 : decode cX11_degree 178 = .ok (.iinc 3 1, 3) := by decide +kernel
theorem dX11_degree_181 : decode cX11_degree 181 = .ok (.goto (-123), 3) := by decide +kernel
theorem dX11_degree_184 : decode cX11_degree 184 = .ok (.iconst 0, 1) := by decide +kernel
theorem dX11_degree_185 : decode cX11_degree 185 = .ok (.istore_n 3, 1) := by decide +kernel
theorem dX11_degree_186 : decode cX11_degree 186 = .ok (.iload_n 3, 1) := by decide +kernel
theorem dX11_degree_187 : decode cX11_degree 187 = .ok (.bipush 36, 2) := by decide +kernel
theorem dX11_degree_189 : decode cX11_degree 189 = .ok (.if_icmp .ge 30, 3) := by decide +kernel
theorem dX11_degree_192 : decode cX11_degree 192 = .ok (.aload_n 0, 1) := by decide +kernel
theorem dX11_degree_193 : decode cX11_degree 193 = .ok (.getfield 64, 3) := by decide +kernel
theorem dX11_degree_196 : decode cX11_degree 196 = .ok (.iload_n 3, 1) := by decide +kernel
theorem dX11_degree_197 : decode cX11_degree 197 = .ok (.iaload, 1) := by decide +kernel
theorem dX11_degree_198 : decode cX11_degree 198 = .ok (.iload_n 2, 1) := by decide +kernel
theorem dX11_degree_199 : decode cX11_degree 199 = .ok (.if_icmp .le 12, 3) := by decide +kernel
theorem dX11_degree_202 : decode cX11_degree 202 = .ok (.aload_n 0, 1) := by decide +kernel
theorem dX11_degree_203 : decode cX11_degree 203 = .ok (.getfield 64, 3) := by decide +kernel
theorem dX11_degree_206 : decode cX11_degree 206 = .ok (.iload_n 3, 1) := by decide +kernel
theorem dX11_degree_207 : decode cX11_degree 207 = .ok (.iaload, 1) := by decide +kernel
theorem dX11_degree_208 : decode cX11_degree 208 = .ok (.goto 4, 3) := by decide +kernel
theorem dX11_degree_211 : decode cX11_degree 211 = .ok (.iload_n 2, 1) := by decide +kernel
theorem dX11_degree_212 : decode cX11_degree 212 = .ok (.istore_n 2, 1) := by decide +kernel
theorem dX11_degree_213 : decode cX11_degree 213 = .ok (.iinc 3 1, 3) := by decide +kernel
theorem dX11_degree_216 : decode cX11_degree 216 = .ok (.goto (-30), 3) := by decide +kernel
theorem dX11_degree_219 : decode cX11_degree 219 = .ok (.iload_n 2, 1) := by decide +kernel
theorem dX11_degree_220 : decode cX11_degree 220 = .ok (.ireturn, 1) := by decide +kernel
theorem dX11_isNewRow_0 : decode cX11_isNewRow 0 = .ok (.iconst 0, 1) := by decide +kernel
theorem dX11_isNewRow_1 : decode cX11_isNewRow 1 = .ok (.istore_n 2, 1) := by decide +kernel
theorem dX11_isNewRow_2 : decode cX11_isNewRow 2 = .ok (.iload_n 2, 1) := by decide +kernel
theorem dX11_isNewRow_3 : decode cX11_isNewRow 3 = .ok (.iload_n 1, 1) := by decide +kernel
theorem dX11_isNewRow_4 : decode cX11_isNewRow 4 = .ok (.if_icmp .ge 52, 3) := by decide +kernel
theorem dX11_isNewRow_7 : decode cX11_isNewRow 7 = .ok (.iconst 0, 1) := by decide +kernel
theorem dX11_isNewRow_8 : decode cX11_isNewRow 8 = .ok (.istore_n 3, 1) := by decide +kernel
theorem dX11_isNewRow_9 : decode cX11_isNewRow 9 = .ok (.iload_n 3, 1) := by decide +kernel
theorem dX11_isNewRow_10 : decode cX11_isNewRow 10 = .ok (.bipush 6, 2) := by decide +kernel
theorem dX11_isNewRow_12 : decode cX11_isNewRow 12 = .ok (.if_icmp .ge 30, 3) := by decide +kernel
theorem dX11_isNewRow_15 : decode cX11_isNewRow 15 = .ok (.aload_n 0, 1) := by decide +kernel
theorem dX11_isNewRow_16 : decode cX11_isNewRow 16 = .ok (.getfield 67, 3) := by decide +kernel
theorem dX11_isNewRow_19 : decode cX11_isNewRow 19 = .ok (.bipush 6, 2) := by decide +kernel
theorem dX11_isNewRow_21 : decode cX11_isNewRow 21 = .ok (.iload_n 2, 1) := by decide +kernel
theorem dX11_isNewRow_22 : decode cX11_isNewRow 22 = .ok (.imul, 1) := by decide +kernel
theorem dX11_isNewRow_23 : decode cX11_isNewRow 23 = .ok (.iload_n 3, 1) := by decide +kernel
theorem dX11_isNewRow_24 : decode cX11_isNewRow 24 = .ok (.iadd, 1) := by decide +kernel
theorem dX11_isNewRow_25 : decode cX11_isNewRow 25 = .ok (.laload, 1) := by decide +kernel
theorem dX11_isNewRow_26 : decode cX11_isNewRow 26 = .ok (.aload_n 0, 1) := by decide +kernel
theorem dX11_isNewRow_27 : decode cX11_isNewRow 27 = .ok (.getfield 70, 3) := by decide +kernel
theorem dX11_isNewRow_30 : decode cX11_isNewRow 30 = .ok (.iload_n 3, 1) := by decide +kernel
theorem dX11_isNewRow_31 : decode cX11_isNewRow 31 = .ok (.laload, 1) := by decide +kernel
theorem dX11_isNewRow_32 : decode cX11_isNewRow 32 = .ok (.lcmp, 1) := by decide +kernel
theorem dX11_isNewRow_33 : decode cX11_isNewRow 33 = .ok (.ifCond .ne 9, 3) := by decide +kernel
theorem dX11_isNewRow_36 : decode cX11_isNewRow 36 = .ok (.iinc 3 1, 3) := by decide +kernel
theorem dX11_isNewRow_39 : decode cX11_isNewRow 39 = .ok (.goto (-30), 3) := by decide +kernel
theorem dX11_isNewRow_42 : decode cX11_isNewRow 42 = .ok (.iload_n 3, 1) := by decide +kernel
theorem dX11_isNewRow_43 : decode cX11_isNewRow 43 = .ok (.bipush 6, 2) := by decide +kernel
theorem dX11_isNewRow_45 : decode cX11_isNewRow 45 = .ok (.if_icmp .ne 5, 3) := by decide +kernel
theorem dX11_isNewRow_48 : decode cX11_isNewRow 48 = .ok (.iconst 0, 1) := by decide +kernel
theorem dX11_isNewRow_49 : decode cX11_isNewRow 49 = .ok (.ireturn, 1) := by decide +kernel
theorem dX11_isNewRow_50 : decode cX11_isNewRow 50 = .ok (.iinc 2 1, 3) := by decide +kernel
theorem dX11_isNewRow_53 : decode cX11_isNewRow 53 = .ok (.goto (-51), 3) := by decide +kernel
theorem dX11_isNewRow_56 : decode cX11_isNewRow 56 = .ok (.iconst 1, 1) := by decide +kernel
theorem dX11_isNewRow_57 : decode cX11_isNewRow 57 = .ok (.ireturn, 1) := by decide +kernel
theorem dX11_addRow_0 : decode cX11_addRow 0 = .ok (.iconst 0, 1) := by decide +kernel
theorem dX11_addRow_1 : decode cX11_addRow 1 = .ok (.istore_n 2, 1) := by decide +kernel
theorem dX11_addRow_2 : decode cX11_addRow 2 = .ok (.iload_n 2, 1) := by decide +kernel
theorem dX11_addRow_3 : decode cX11_addRow 3 = .ok (.bipush 6, 2) := by decide +kernel
theorem dX11_addRow_5 : decode cX11_addRow 5 = .ok (.if_icmp .ge 26, 3) := by decide +kernel
theorem dX11_addRow_8 : decode cX11_addRow 8 = .ok (.aload_n 0, 1) := by decide +kernel
theorem dX11_addRow_9 : decode cX11_addRow 9 = .ok (.getfield 67, 3) := by decide +kernel
theorem dX11_addRow_12 : decode cX11_addRow 12 = .ok (.bipush 6, 2) := by decide +kernel
theorem dX11_addRow_14 : decode cX11_addRow 14 = .ok (.iload_n 1, 1) := by decide +kernel
theorem dX11_addRow_15 : decode cX11_addRow 15 = .ok (.imul, 1) := by decide +kernel
theorem dX11_addRow_16 : decode cX11_addRow 16 = .ok (.iload_n 2, 1) := by decide +kernel
theorem dX11_addRow_17 : decode cX11_addRow 17 = .ok (.iadd, 1) := by decide +kernel
theorem dX11_addRow_18 : decode cX11_addRow 18 = .ok (.aload_n 0, 1) := by decide +kernel
theorem dX11_addRow_19 : decode cX11_addRow 19 = .ok (.getfield 70, 3) := by decide +kernel
theorem dX11_addRow_22 : decode cX11_addRow 22 = .ok (.iload_n 2, 1) := by decide +kernel
theorem dX11_addRow_23 : decode cX11_addRow 23 = .ok (.laload, 1) := by decide +kernel
theorem dX11_addRow_24 : decode cX11_addRow 24 = .ok (.lastore, 1) := by decide +kernel
theorem dX11_addRow_25 : decode cX11_addRow 25 = .ok (.iinc 2 1, 3) := by decide +kernel
theorem dX11_addRow_28 : decode cX11_addRow 28 = .ok (.goto (-26), 3) := by decide +kernel
theorem dX11_addRow_31 : decode cX11_addRow 31 = .ok (.return_, 1) := by decide +kernel
set_option maxRecDepth 20000 in
theorem ggX11_maximumAmbiguity_X11_kindOf : GoodIn wsX11_maximumAmbiguity wsX11_kindOf := goodIn_r _ [13, 14, 15, 16, 17, 18, 19, 12, 20, 21, 22, 23, 24, 25, 26, 3, 6, 4, 27, 28, 29, 30, 31, 32, 33, 34, 7, 35, 36, 37, 38, 39, 40, 41, 42, 43, 44, 45, 46, 47, 48, 49, 50, 51, 52, 53, 54, 55, 56, 57, 58, 59, 60, 61, 62, 63, 64, 65, 66, 67, 68, 69, 70, 71, 72, 73, 74, 75, 76, 77, 78, 79, 80, 81, 82, 83, 84, 85, 86, 87, 88, 89, 90, 91, 92, 93, 94, 95, 96, 97, 98, 99, 108, 109, 110, 111, 112, 113, 114, 115, 116, 117, 118, 119, 120, 121, 122, 123, 124, 125, 126, 127, 128, 129, 130, 131, 132, 133, 134, 135, 136, 137, 138, 139, 140, 141, 142, 143, 144, 145, 146, 147, 148, 149, 150, 151, 152, 153, 154, 155, 156, 157] (by decide +kernel) (by decide +kernel)
set_option maxRecDepth 20000 in
theorem gX11_maximumAmbiguity_X11_kindOf : GoodIn wsX11_maximumAmbiguity (wsV RX11 297 RX11 yX11_kindOf wsX11_kindOf) := goodIn_app (goodIn_of _ (by decide +kernel)) ggX11_maximumAmbiguity_X11_kindOf
set_option maxRecDepth 20000 in
theorem ggX11_maximumAmbiguity_X11_useful : GoodIn wsX11_maximumAmbiguity wsX11_useful := goodIn_r _ [26, 3, 6, 4, 27, 28, 29, 12, 30, 31, 32, 33, 34, 7, 35, 36, 37, 108, 109, 110, 111, 112, 113, 114, 115, 116, 117, 118, 119, 120, 121, 122, 123, 124, 125, 126, 127, 128, 129, 130, 131, 132, 133, 134, 135, 136, 137, 138, 139, 140, 141, 142, 143, 144, 145, 146, 147, 148, 149, 150, 151, 152, 153, 154, 155, 156, 157] (by decide +kernel) (by decide +kernel)
set_option maxRecDepth 20000 in
theorem gX11_maximumAmbiguity_X11_useful : GoodIn wsX11_maximumAmbiguity (wsV RX11 151 RX11 yX11_useful wsX11_useful) := goodIn_app (goodIn_of _ (by decide +kernel)) ggX11_maximumAmbiguity_X11_useful
set_option maxRecDepth 20000 in
theorem ggX11_maximumAmbiguity_X11_has : GoodIn wsX11_maximumAmbiguity wsX11_has := goodIn_r _ [37] (by decide +kernel) (by decide +kernel)
set_option maxRecDepth 20000 in
theorem gX11_maximumAmbiguity_X11_has : GoodIn wsX11_maximumAmbiguity (va_wsS RX11 139 yX11_has wsX11_has) := goodIn_app (goodIn_of _ (by decide +kernel)) ggX11_maximumAmbiguity_X11_has
set_option maxRecDepth 20000 in
theorem ggX11_maximumAmbiguity_X11_addRow : GoodIn wsX11_maximumAmbiguity wsX11_addRow := goodIn_r _ [103, 5, 2, 108, 109, 110, 111, 112, 113, 114, 115, 116, 117, 118, 119, 120, 121, 122, 123, 124, 125, 126, 127, 128, 129, 130, 131, 132, 133, 134, 135, 136, 137, 138, 139, 140, 141, 142, 143, 144, 145, 146, 147, 148, 149, 150, 151, 152, 153, 154, 155, 156, 157] (by decide +kernel) (by decide +kernel)
set_option maxRecDepth 20000 in
theorem gX11_maximumAmbiguity_X11_addRow : GoodIn wsX11_maximumAmbiguity (wsV RX11 302 RX11 yX11_addRow wsX11_addRow) := goodIn_app (goodIn_of _ (by decide +kernel)) ggX11_maximumAmbiguity_X11_addRow
set_option maxRecDepth 20000 in
theorem ggX11_maximumAmbiguity_X11_isNewRow : GoodIn wsX11_maximumAmbiguity wsX11_isNewRow := goodIn_r _ [107, 5, 2, 108, 109, 110, 111, 112, 113, 114, 115, 116, 117, 118, 119, 120, 121, 122, 123, 124, 125, 126, 127, 128, 129, 130, 131, 132, 133, 134, 135, 136, 137, 138, 139, 140, 141, 142, 143, 144, 145, 146, 147, 148, 149, 150, 151, 152, 153, 154, 155, 156, 157] (by decide +kernel) (by decide +kernel)
set_option maxRecDepth 20000 in
theorem gX11_maximumAmbiguity_X11_isNewRow : GoodIn wsX11_maximumAmbiguity (wsV RX11 305 RX11 yX11_isNewRow wsX11_isNewRow) := goodIn_app (goodIn_of _ (by decide +kernel)) ggX11_maximumAmbiguity_X11_isNewRow
theorem dX11_maximumAmbiguity_0 : decode cX11_maximumAmbiguity 0 = .ok (.aload_n 0, 1) := by decide +kernel
theorem dX11_maximumAmbiguity_1 : decode cX11_maximumAmbiguity 1 = .ok (.invokevirtual 297, 3) := by decide +kernel
theorem dX11_maximumAmbiguity_4 : decode cX11_maximumAmbiguity 4 = .ok (.iconst 1, 1) := by decide +kernel
theorem dX11_maximumAmbiguity_5 : decode cX11_maximumAmbiguity 5 = .ok (.if_icmp .le 7, 3) := by decide +kernel
theorem dX11_maximumAmbiguity_8 : decode cX11_maximumAmbiguity 8 = .ok (.ldc2_w 300, 3) := by decide +kernel
theorem dX11_maximumAmbiguity_11 : decode cX11_maximumAmbiguity 11 = .ok (.lreturn, 1) := by decide +kernel
theorem dX11_maximumAmbiguity_12 : decode cX11_maximumAmbiguity 12 = .ok (.aload_n 0, 1) := by decide +kernel
theorem dX11_maximumAmbiguity_13 : decode cX11_maximumAmbiguity 13 = .ok (.invokevirtual 151, 3) := by decide +kernel
theorem dX11_maximumAmbiguity_16 : decode cX11_maximumAmbiguity 16 = .ok (.istore_n 1, 1) := by decide +kernel
theorem dX11_maximumAmbiguity_17 : decode cX11_maximumAmbiguity 17 = .ok (.iconst 0, 1) := by decide +kernel
theorem dX11_maximumAmbiguity_18 : decode cX11_maximumAmbiguity 18 = .ok (.istore_n 2, 1) := by decide +kernel
theorem dX11_maximumAmbiguity_19 : decode cX11_maximumAmbiguity 19 = .ok (.iload_n 2, 1) := by decide +kernel
theorem dX11_maximumAmbiguity_20 : decode cX11_maximumAmbiguity 20 = .ok (.bipush 6, 2) := by decide +kernel
theorem dX11_maximumAmbiguity_22 : decode cX11_maximumAmbiguity 22 = .ok (.if_icmp .ge 34, 3) := by decide +kernel
theorem dX11_maximumAmbiguity_25 : decode cX11_maximumAmbiguity 25 = .ok (.aload_n 0, 1) := by decide +kernel
theorem dX11_maximumAmbiguity_26 : decode cX11_maximumAmbiguity 26 = .ok (.getfield 70, 3) := by decide +kernel
theorem dX11_maximumAmbiguity_29 : decode cX11_maximumAmbiguity 29 = .ok (.iload_n 2, 1) := by decide +kernel
theorem dX11_maximumAmbiguity_30 : decode cX11_maximumAmbiguity 30 = .ok (.iload_n 1, 1) := by decide +kernel
theorem dX11_maximumAmbiguity_31 : decode cX11_maximumAmbiguity 31 = .ok (.aload_n 0, 1) := by decide +kernel
theorem dX11_maximumAmbiguity_32 : decode cX11_maximumAmbiguity 32 = .ok (.getfield 112, 3) := by decide +kernel
theorem dX11_maximumAmbiguity_35 : decode cX11_maximumAmbiguity 35 = .ok (.iand, 1) := by decide +kernel
theorem dX11_maximumAmbiguity_36 : decode cX11_maximumAmbiguity 36 = .ok (.i2l, 1) := by decide +kernel
theorem dX11_maximumAmbiguity_37 : decode cX11_maximumAmbiguity 37 = .ok (.iload_n 2, 1) := by decide +kernel
theorem dX11_maximumAmbiguity_38 : decode cX11_maximumAmbiguity 38 = .ok (.invokestatic 139, 3) := by decide +kernel
theorem dX11_maximumAmbiguity_41 : decode cX11_maximumAmbiguity 41 = .ok (.ifCond .eq 7, 3) := by decide +kernel
theorem dX11_maximumAmbiguity_44 : decode cX11_maximumAmbiguity 44 = .ok (.lconst 1, 1) := by decide +kernel
theorem dX11_maximumAmbiguity_45 : decode cX11_maximumAmbiguity 45 = .ok (.goto 4, 3) := by decide +kernel
theorem dX11_maximumAmbiguity_48 : decode cX11_maximumAmbiguity 48 = .ok (.lconst 0, 1) := by decide +kernel
theorem dX11_maximumAmbiguity_49 : decode cX11_maximumAmbiguity 49 = .ok (.lastore, 1) := by decide +kernel
theorem dX11_maximumAmbiguity_50 : decode cX11_maximumAmbiguity 50 = .ok (.iinc 2 1, 3) := by decide +kernel
theorem dX11_maximumAmbiguity_53 : decode cX11_maximumAmbiguity 53 = .ok (.goto (-34), 3) := by decide +kernel
theorem dX11_maximumAmbiguity_56 : decode cX11_maximumAmbiguity 56 = .ok (.aload_n 0, 1) := by decide +kernel
theorem dX11_maximumAmbiguity_57 : decode cX11_maximumAmbiguity 57 = .ok (.iconst 0, 1) := by decide +kernel
theorem dX11_maximumAmbiguity_58 : decode cX11_maximumAmbiguity 58 = .ok (.invokevirtual 302, 3) := by decide +kernel
theorem dX11_maximumAmbiguity_61 : decode cX11_maximumAmbiguity 61 = .ok (.iconst 1, 1) := by decide +kernel
theorem dX11_maximumAmbiguity_62 : decode cX11_maximumAmbiguity 62 = .ok (.istore_n 2, 1) := by decide +kernel
theorem dX11_maximumAmbiguity_63 : decode cX11_maximumAmbiguity 63 = .ok (.lconst 0, 1) := by decide +kernel
theorem dX11_maximumAmbiguity_64 : decode cX11_maximumAmbiguity 64 = .ok (.lstore_n 3, 1) := by decide +kernel
theorem dX11_maximumAmbiguity_65 : decode cX11_maximumAmbiguity 65 = .ok (.iconst 0, 1) := by decide +kernel
theorem dX11_maximumAmbiguity_66 : decode cX11_maximumAmbiguity 66 = .ok (.istore 5, 2) := by decide +kernel
theorem dX11_maximumAmbiguity_68 : decode cX11_maximumAmbiguity 68 = .ok (.iload 5, 2) := by decide +kernel
theorem dX11_maximumAmbiguity_70 : decode cX11_maximumAmbiguity 70 = .ok (.iload_n 2, 1) := by decide +kernel
theorem dX11_maximumAmbiguity_71 : decode cX11_maximumAmbiguity 71 = .ok (.if_icmp .ge 223, 3) := by decide +kernel
theorem dX11_maximumAmbiguity_74 : decode cX11_maximumAmbiguity 74 = .ok (.lconst 0, 1) := by decide +kernel
theorem dX11_maximumAmbiguity_75 : decode cX11_maximumAmbiguity 75 = .ok (.lstore 6, 2) := by decide +kernel
theorem dX11_maximumAmbiguity_77 : decode cX11_maximumAmbiguity 77 = .ok (.iconst 0, 1) := by decide +kernel
theorem dX11_maximumAmbiguity_78 : decode cX11_maximumAmbiguity 78 = .ok (.istore 8, 2) := by decide +kernel
theorem dX11_maximumAmbiguity_80 : decode cX11_maximumAmbiguity 80 = .ok (.iload 8, 2) := by decide +kernel
theorem dX11_maximumAmbiguity_82 : decode cX11_maximumAmbiguity 82 = .ok (.bipush 6, 2) := by decide +kernel
theorem dX11_maximumAmbiguity_84 : decode cX11_maximumAmbiguity 84 = .ok (.if_icmp .ge 44, 3) := by decide +kernel
theorem dX11_maximumAmbiguity_87 : decode cX11_maximumAmbiguity 87 = .ok (.lload 6, 2) := by decide +kernel
theorem dX11_maximumAmbiguity_89 : decode cX11_maximumAmbiguity 89 = .ok (.aload_n 0, 1) := by decide +kernel
theorem dX11_maximumAmbiguity_90 : decode cX11_maximumAmbiguity 90 = .ok (.getfield 115, 3) := by decide +kernel
theorem dX11_maximumAmbiguity_93 : decode cX11_maximumAmbiguity 93 = .ok (.i2l, 1) := by decide +kernel
theorem dX11_maximumAmbiguity_94 : decode cX11_maximumAmbiguity 94 = .ok (.iload 8, 2) := by decide +kernel
theorem dX11_maximumAmbiguity_96 : decode cX11_maximumAmbiguity 96 = .ok (.invokestatic 139, 3) := by decide +kernel
theorem dX11_maximumAmbiguity_99 : decode cX11_maximumAmbiguity 99 = .ok (.ifCond .eq 19, 3) := by decide +kernel
theorem dX11_maximumAmbiguity_102 : decode cX11_maximumAmbiguity 102 = .ok (.aload_n 0, 1) := by decide +kernel
theorem dX11_maximumAmbiguity_103 : decode cX11_maximumAmbiguity 103 = .ok (.getfield 67, 3) := by decide +kernel
theorem dX11_maximumAmbiguity_106 : decode cX11_maximumAmbiguity 106 = .ok (.bipush 6, 2) := by decide +kernel
theorem dX11_maximumAmbiguity_108 : decode cX11_maximumAmbiguity 108 = .ok (.iload 5, 2) := by decide +kernel
theorem dX11_maximumAmbiguity_110 : decode cX11_maximumAmbiguity 110 = .ok (.imul, 1) := by decide +kernel
theorem dX11_maximumAmbiguity_111 : decode cX11_maximumAmbiguity 111 = .ok (.iload 8, 2) := by decide +kernel
theorem dX11_maximumAmbiguity_113 : decode cX11_maximumAmbiguity 113 = .ok (.iadd, 1) := by decide +kernel
theorem dX11_maximumAmbiguity_114 : decode cX11_maximumAmbiguity 114 = .ok (.laload, 1) := by decide +kernel
theorem dX11_maximumAmbiguity_115 : decode cX11_maximumAmbiguity 115 = .ok (.goto 4, 3) := by decide +kernel
theorem dX11_maximumAmbiguity_118 : decode cX11_maximumAmbiguity 118 = .ok (.lconst 0, 1) := by decide +kernel
theorem dX11_maximumAmbiguity_119 : decode cX11_maximumAmbiguity 119 = .ok (.ladd, 1) := by decide +kernel
theorem dX11_maximumAmbiguity_120 : decode cX11_maximumAmbiguity 120 = .ok (.lstore 6, 2) := by decide +kernel
theorem dX11_maximumAmbiguity_122 : decode cX11_maximumAmbiguity 122 = .ok (.iinc 8 1, 3) := by decide +kernel
theorem dX11_maximumAmbiguity_125 : decode cX11_maximumAmbiguity 125 = .ok (.goto (-45), 3) := by decide +kernel
theorem dX11_maximumAmbiguity_128 : decode cX11_maximumAmbiguity 128 = .ok (.lload 6, 2) := by decide +kernel
theorem dX11_maximumAmbiguity_130 : decode cX11_maximumAmbiguity 130 = .ok (.lload_n 3, 1) := by decide +kernel
theorem dX11_maximumAmbiguity_131 : decode cX11_maximumAmbiguity 131 = .ok (.lcmp, 1) := by decide +kernel
theorem dX11_maximumAmbiguity_132 : decode cX11_maximumAmbiguity 132 = .ok (.ifCond .le 8, 3) := by decide +kernel
theorem dX11_maximumAmbiguity_135 : decode cX11_maximumAmbiguity 135 = .ok (.lload 6, 2) := by decide +kernel
theorem dX11_maximumAmbiguity_137 : decode cX11_maximumAmbiguity 137 = .ok (.goto 4, 3) := by decide +kernel
theorem dX11_maximumAmbiguity_140 : decode cX11_maximumAmbiguity 140 = .ok (.lload_n 3, 1) := by decide +kernel
theorem dX11_maximumAmbiguity_141 : decode cX11_maximumAmbiguity 141 = .ok (.lstore_n 3, 1) := by decide +kernel
theorem dX11_maximumAmbiguity_142 : decode cX11_maximumAmbiguity 142 = .ok (.iconst 0, 1) := by decide +kernel
theorem dX11_maximumAmbiguity_143 : decode cX11_maximumAmbiguity 143 = .ok (.istore 8, 2) := by decide +kernel
theorem dX11_maximumAmbiguity_145 : decode cX11_maximumAmbiguity 145 = .ok (.iload 8, 2) := by decide +kernel
theorem dX11_maximumAmbiguity_147 : decode cX11_maximumAmbiguity 147 = .ok (.iconst 3, 1) := by decide +kernel
theorem dX11_maximumAmbiguity_148 : decode cX11_maximumAmbiguity 148 = .ok (.if_icmp .ge 140, 3) := by decide +kernel
theorem dX11_maximumAmbiguity_151 : decode cX11_maximumAmbiguity 151 = .ok (.iconst 0, 1) := by decide +kernel
theorem dX11_maximumAmbiguity_152 : decode cX11_maximumAmbiguity 152 = .ok (.istore 9, 2) := by decide +kernel
theorem dX11_maximumAmbiguity_154 : decode cX11_maximumAmbiguity 154 = .ok (.iload 9, 2) := by decide +kernel
theorem dX11_maximumAmbiguity_156 : decode cX11_maximumAmbiguity 156 = .ok (.bipush 6, 2) := by decide +kernel
theorem dX11_maximumAmbiguity_158 : decode cX11_maximumAmbiguity 158 = .ok (.if_icmp .ge 94, 3) := by decide +kernel
theorem dX11_maximumAmbiguity_161 : decode cX11_maximumAmbiguity 161 = .ok (.aload_n 0, 1) := by decide +kernel
theorem dX11_maximumAmbiguity_162 : decode cX11_maximumAmbiguity 162 = .ok (.getfield 70, 3) := by decide +kernel
theorem dX11_maximumAmbiguity_165 : decode cX11_maximumAmbiguity 165 = .ok (.iload 9, 2) := by decide +kernel
theorem dX11_maximumAmbiguity_167 : decode cX11_maximumAmbiguity 167 = .ok (.lconst 0, 1) := by decide +kernel
theorem dX11_maximumAmbiguity_168 : decode cX11_maximumAmbiguity 168 = .ok (.lastore, 1) := by decide +kernel
theorem dX11_maximumAmbiguity_169 : decode cX11_maximumAmbiguity 169 = .ok (.iconst 0, 1) := by decide +kernel
theorem dX11_maximumAmbiguity_170 : decode cX11_maximumAmbiguity 170 = .ok (.istore 10, 2) := by decide +kernel
theorem dX11_maximumAmbiguity_172 : decode cX11_maximumAmbiguity 172 = .ok (.iload 10, 2) := by decide +kernel
theorem dX11_maximumAmbiguity_174 : decode cX11_maximumAmbiguity 174 = .ok (.aload_n 0, 1) := by decide +kernel
theorem dX11_maximumAmbiguity_175 : decode cX11_maximumAmbiguity 175 = .ok (.getfield 19, 3) := by decide +kernel
theorem dX11_maximumAmbiguity_178 : decode cX11_maximumAmbiguity 178 = .ok (.if_icmp .ge 68, 3) := by decide +kernel
theorem dX11_maximumAmbiguity_181 : decode cX11_maximumAmbiguity 181 = .ok (.iload_n 1, 1) := by decide +kernel
theorem dX11_maximumAmbiguity_182 : decode cX11_maximumAmbiguity 182 = .ok (.i2l, 1) := by decide +kernel
theorem dX11_maximumAmbiguity_183 : decode cX11_maximumAmbiguity 183 = .ok (.iload 9, 2) := by decide +kernel
theorem dX11_maximumAmbiguity_185 : decode cX11_maximumAmbiguity 185 = .ok (.invokestatic 139, 3) := by decide +kernel
theorem dX11_maximumAmbiguity_188 : decode cX11_maximumAmbiguity 188 = .ok (.ifCond .eq 58, 3) := by decide +kernel
theorem dX11_maximumAmbiguity_191 : decode cX11_maximumAmbiguity 191 = .ok (.aload_n 0, 1) := by decide +kernel
theorem dX11_maximumAmbiguity_192 : decode cX11_maximumAmbiguity 192 = .ok (.getfield 70, 3) := by decide +kernel
theorem dX11_maximumAmbiguity_195 : decode cX11_maximumAmbiguity 195 = .ok (.iload 9, 2) := by decide +kernel
theorem dX11_maximumAmbiguity_197 : decode cX11_maximumAmbiguity 197 = .ok (.dup2, 1) := by decide +kernel
theorem dX11_maximumAmbiguity_198 : decode cX11_maximumAmbiguity 198 = .ok (.laload, 1) := by decide +kernel
theorem dX11_maximumAmbiguity_199 : decode cX11_maximumAmbiguity 199 = .ok (.aload_n 0, 1) := by decide +kernel
theorem dX11_maximumAmbiguity_200 : decode cX11_maximumAmbiguity 200 = .ok (.getfield 7, 3) := by decide +kernel
theorem dX11_maximumAmbiguity_203 : decode cX11_maximumAmbiguity 203 = .ok (.bipush 6, 2) := by decide +kernel
theorem dX11_maximumAmbiguity_205 : decode cX11_maximumAmbiguity 205 = .ok (.iload 8, 2) := by decide +kernel
theorem dX11_maximumAmbiguity_207 : decode cX11_maximumAmbiguity 207 = .ok (.imul, 1) := by decide +kernel
theorem dX11_maximumAmbiguity_208 : decode cX11_maximumAmbiguity 208 = .ok (.iload 10, 2) := by decide +kernel
theorem dX11_maximumAmbiguity_210 : decode cX11_maximumAmbiguity 210 = .ok (.iadd, 1) := by decide +kernel
theorem dX11_maximumAmbiguity_211 : decode cX11_maximumAmbiguity 211 = .ok (.iaload, 1) := by decide +kernel
theorem dX11_maximumAmbiguity_212 : decode cX11_maximumAmbiguity 212 = .ok (.i2l, 1) := by decide +kernel
theorem dX11_maximumAmbiguity_213 : decode cX11_maximumAmbiguity 213 = .ok (.iload 9, 2) := by decide +kernel
theorem dX11_maximumAmbiguity_215 : decode cX11_maximumAmbiguity 215 = .ok (.invokestatic 139, 3) := by decide +kernel
theorem dX11_maximumAmbiguity_218 : decode cX11_maximumAmbiguity 218 = .ok (.ifCond .eq 19, 3) := by decide +kernel
theorem dX11_maximumAmbiguity_221 : decode cX11_maximumAmbiguity 221 = .ok (.aload_n 0, 1) := by decide +kernel
theorem dX11_maximumAmbiguity_222 : decode cX11_maximumAmbiguity 222 = .ok (.getfield 67, 3) := by decide +kernel
theorem dX11_maximumAmbiguity_225 : decode cX11_maximumAmbiguity 225 = .ok (.bipush 6, 2) := by decide +kernel
theorem dX11_maximumAmbiguity_227 : decode cX11_maximumAmbiguity 227 = .ok (.iload 5, 2) := by decide +kernel
theorem dX11_maximumAmbiguity_229 : decode cX11_maximumAmbiguity 229 = .ok (.imul, 1) := by decide +kernel
theorem dX11_maximumAmbiguity_230 : decode cX11_maximumAmbiguity 230 = .ok (.iload 10, 2) := by decide +kernel
theorem dX11_maximumAmbiguity_232 : decode cX11_maximumAmbiguity 232 = .ok (.iadd, 1) := by decide +kernel
theorem dX11_maximumAmbiguity_233 : decode cX11_maximumAmbiguity 233 = .ok (.laload, 1) := by decide +kernel
theorem dX11_maximumAmbiguity_234 : decode cX11_maximumAmbiguity 234 = .ok (.goto 4, 3) := by decide +kernel
theorem dX11_maximumAmbiguity_237 : decode cX11_maximumAmbiguity 237 = .ok (.lconst 0, 1) := by decide +kernel
theorem dX11_maximumAmbiguity_238 : decode cX11_maximumAmbiguity 238 = .ok (.ladd, 1) := by decide +kernel
theorem dX11_maximumAmbiguity_239 : decode cX11_maximumAmbiguity 239 = .ok (.lastore, 1) := by decide +kernel
theorem dX11_maximumAmbiguity_240 : decode cX11_maximumAmbiguity 240 = .ok (.iinc 10 1, 3) := by decide +kernel
theorem dX11_maximumAmbiguity_243 : decode cX11_maximumAmbiguity 243 = .ok (.goto (-71), 3) := by decide +kernel
theorem dX11_maximumAmbiguity_246 : decode cX11_maximumAmbiguity 246 = .ok (.iinc 9 1, 3) := by decide +kernel
theorem dX11_maximumAmbiguity_249 : decode cX11_maximumAmbiguity 249 = .ok (.goto (-95), 3) := by decide +kernel
theorem dX11_maximumAmbiguity_252 : decode cX11_maximumAmbiguity 252 = .ok (.aload_n 0, 1) := by decide +kernel
theorem dX11_maximumAmbiguity_253 : decode cX11_maximumAmbiguity 253 = .ok (.iload_n 2, 1) := by decide +kernel
theorem dX11_maximumAmbiguity_254 : decode cX11_maximumAmbiguity 254 = .ok (.invokevirtual 305, 3) := by decide +kernel
theorem dX11_maximumAmbiguity_257 : decode cX11_maximumAmbiguity 257 = .ok (.ifCond .ne 6, 3) := by decide +kernel
theorem dX11_maximumAmbiguity_260 : decode cX11_maximumAmbiguity 260 = .ok (.goto 22, 3) := by decide +kernel
theorem dX11_maximumAmbiguity_263 : decode cX11_maximumAmbiguity 263 = .ok (.iload_n 2, 1) := by decide +kernel
theorem dX11_maximumAmbiguity_264 : decode cX11_maximumAmbiguity 264 = .ok (.sipush 1000, 3) := by decide +kernel
theorem dX11_maximumAmbiguity_267 : decode cX11_maximumAmbiguity 267 = .ok (.if_icmp .ne 7, 3) := by decide +kernel
theorem dX11_maximumAmbiguity_270 : decode cX11_maximumAmbiguity 270 = .ok (.ldc2_w 308, 3) := by decide +kernel
theorem dX11_maximumAmbiguity_273 : decode cX11_maximumAmbiguity 273 = .ok (.lreturn, 1) := by decide +kernel
theorem dX11_maximumAmbiguity_274 : decode cX11_maximumAmbiguity 274 = .ok (.aload_n 0, 1) := by decide +kernel
theorem dX11_maximumAmbiguity_275 : decode cX11_maximumAmbiguity 275 = .ok (.iload_n 2, 1) := by decide +kernel
theorem dX11_maximumAmbiguity_276 : decode cX11_maximumAmbiguity 276 = .ok (.invokevirtual 302, 3) := by decide +kernel
theorem dX11_maximumAmbiguity_279 : decode cX11_maximumAmbiguity 279 = .ok (.iinc 2 1, 3) := by decide +kernel
theorem dX11_maximumAmbiguity_282 : decode cX11_maximumAmbiguity 282 = .ok (.iinc 8 1, 3) := by decide +kernel
theorem dX11_maximumAmbiguity_285 : decode cX11_maximumAmbiguity 285 = .ok (.goto (-140), 3) := by decide +kernel
theorem dX11_maximumAmbiguity_288 : decode cX11_maximumAmbiguity 288 = .ok (.iinc 5 1, 3) := by decide +kernel
theorem dX11_maximumAmbiguity_291 : decode cX11_maximumAmbiguity 291 = .ok (.goto (-223), 3) := by decide +kernel
theorem dX11_maximumAmbiguity_294 : decode cX11_maximumAmbiguity 294 = .ok (.lload_n 3, 1) := by decide +kernel
theorem dX11_maximumAmbiguity_295 : decode cX11_maximumAmbiguity 295 = .ok (.lreturn, 1) := by decide +kernel
set_option maxRecDepth 20000 in
theorem ggX11_isLoopState_X11_isState : GoodIn wsX11_isLoopState wsX11_isState := goodIn_r _ [6, 7, 96, 97, 98, 99, 100, 101, 102, 103, 104, 105, 106, 107, 108, 109, 110, 111, 112, 113, 114, 115, 116, 117, 118, 119, 120, 121, 122, 123, 124, 125, 126, 127, 128, 129, 130, 131, 132, 133, 134, 135, 136, 137, 138, 139, 140, 141, 142, 143, 144, 145] (by decide +kernel) (by decide +kernel)
set_option maxRecDepth 20000 in
theorem gX11_isLoopState_X11_isState : GoodIn wsX11_isLoopState (wsV RX11 132 RX11 yX11_isState wsX11_isState) := goodIn_app (goodIn_of _ (by decide +kernel)) ggX11_isLoopState_X11_isState
set_option maxRecDepth 20000 in
theorem ggX11_isLoopState_X11_finds : GoodIn wsX11_isLoopState wsX11_finds := goodIn_r _ [11, 12, 13, 1, 14, 15, 16, 17, 18, 5, 19, 20, 7, 21, 22, 23, 24, 25, 26, 27, 28, 29, 30, 31, 32, 33, 34, 35, 36, 37, 38, 39, 40, 41, 42, 43, 44, 45, 46, 47, 48, 49, 50, 51, 52, 53, 54, 55, 56, 57, 58, 59, 60, 61, 62, 63, 64, 65, 66, 67, 68, 69, 70, 71, 72, 73, 74, 75, 76, 77, 78, 79, 80, 81, 82, 83, 84, 85, 86, 87, 88, 89, 90, 91, 92, 93, 94, 95, 96, 97, 98, 99, 100, 101, 102, 103, 104, 105, 106, 107, 108, 109, 110, 111, 112, 113, 114, 115, 116, 117, 118, 119, 120, 121, 122, 123, 124, 125, 126, 127, 128, 129, 130, 131, 132, 133, 134, 135, 136, 137, 138, 139, 140, 141, 142, 143, 144, 145] (by decide +kernel) (by decide +kernel)
set_option maxRecDepth 20000 in
theorem gX11_isLoopState_X11_finds : GoodIn wsX11_isLoopState (wsV RX11 294 RX11 yX11_finds wsX11_finds) := goodIn_app (goodIn_of _ (by decide +kernel)) ggX11_isLoopState_X11_finds
theorem dX11_isLoopState_0 : decode cX11_isLoopState 0 = .ok (.aload_n 0, 1) := by decide +kernel
theorem dX11_isLoopState_1 : decode cX11_isLoopState 1 = .ok (.iload_n 1, 1) := by decide +kernel
theorem dX11_isLoopState_2 : decode cX11_isLoopState 2 = .ok (.invokevirtual 132, 3) := by decide +kernel
theorem dX11_isLoopState_5 : decode cX11_isLoopState 5 = .ok (.ifCond .ne 5, 3) := by decide +kernel
theorem dX11_isLoopState_8 : decode cX11_isLoopState 8 = .ok (.iconst (-1), 1) := by decide +kernel
theorem dX11_isLoopState_9 : decode cX11_isLoopState 9 = .ok (.ireturn, 1) := by decide +kernel
theorem dX11_isLoopState_10 : decode cX11_isLoopState 10 = .ok (.aload_n 0, 1) := by decide +kernel
theorem dX11_isLoopState_11 : decode cX11_isLoopState 11 = .ok (.invokevirtual 294, 3) := by decide +kernel
theorem dX11_isLoopState_14 : decode cX11_isLoopState 14 = .ok (.aload_n 0, 1) := by decide +kernel
theorem dX11_isLoopState_15 : decode cX11_isLoopState 15 = .ok (.getfield 282, 3) := by decide +kernel
theorem dX11_isLoopState_18 : decode cX11_isLoopState 18 = .ok (.iload_n 1, 1) := by decide +kernel
theorem dX11_isLoopState_19 : decode cX11_isLoopState 19 = .ok (.ishr, 1) := by decide +kernel
theorem dX11_isLoopState_20 : decode cX11_isLoopState 20 = .ok (.iconst 1, 1) := by decide +kernel
theorem dX11_isLoopState_21 : decode cX11_isLoopState 21 = .ok (.iand, 1) := by decide +kernel
theorem dX11_isLoopState_22 : decode cX11_isLoopState 22 = .ok (.ireturn, 1) := by decide +kernel
set_option maxRecDepth 20000 in
theorem ggX11_isSplitPair_X11_isState : GoodIn wsX11_isSplitPair wsX11_isState := goodIn_r _ [6, 7, 96, 97, 98, 99, 100, 101, 102, 103, 104, 105, 106, 107, 108, 109, 110, 111, 112, 113, 114, 115, 116, 117, 118, 119, 120, 121, 122, 123, 124, 125, 126, 127, 128, 129, 130, 131, 132, 133, 134, 135, 136, 137, 138, 139, 140, 141, 142, 143, 144, 145] (by decide +kernel) (by decide +kernel)
set_option maxRecDepth 20000 in
theorem gX11_isSplitPair_X11_isState : GoodIn wsX11_isSplitPair (wsV RX11 132 RX11 yX11_isState wsX11_isState) := goodIn_app (goodIn_of _ (by decide +kernel)) ggX11_isSplitPair_X11_isState
set_option maxRecDepth 20000 in
theorem ggX11_isSplitPair_X11_finds : GoodIn wsX11_isSplitPair wsX11_finds := goodIn_r _ [11, 12, 13, 14, 15, 1, 16, 17, 18, 5, 19, 20, 7, 21, 22, 23, 24, 25, 26, 27, 28, 29, 30, 31, 32, 33, 34, 35, 36, 37, 38, 39, 40, 41, 42, 43, 44, 45, 46, 47, 48, 49, 50, 51, 52, 53, 54, 55, 56, 57, 58, 59, 60, 61, 62, 63, 64, 65, 66, 67, 68, 69, 70, 71, 72, 73, 74, 75, 76, 77, 78, 79, 80, 81, 82, 83, 84, 85, 86, 87, 88, 89, 90, 91, 92, 93, 94, 95, 96, 97, 98, 99, 100, 101, 102, 103, 104, 105, 106, 107, 108, 109, 110, 111, 112, 113, 114, 115, 116, 117, 118, 119, 120, 121, 122, 123, 124, 125, 126, 127, 128, 129, 130, 131, 132, 133, 134, 135, 136, 137, 138, 139, 140, 141, 142, 143, 144, 145] (by decide +kernel) (by decide +kernel)
set_option maxRecDepth 20000 in
theorem gX11_isSplitPair_X11_finds : GoodIn wsX11_isSplitPair (wsV RX11 294 RX11 yX11_finds wsX11_finds) := goodIn_app (goodIn_of _ (by decide +kernel)) ggX11_isSplitPair_X11_finds
theorem dX11_isSplitPair_0 : decode cX11_isSplitPair 0 = .ok (.aload_n 0, 1) := by decide +kernel
theorem dX11_isSplitPair_1 : decode cX11_isSplitPair 1 = .ok (.iload_n 1, 1) := by decide +kernel
theorem dX11_isSplitPair_2 : decode cX11_isSplitPair 2 = .ok (.invokevirtual 132, 3) := by decide +kernel
theorem dX11_isSplitPair_5 : decode cX11_isSplitPair 5 = .ok (.ifCond .eq 11, 3) := by decide +kernel
theorem dX11_isSplitPair_8 : decode cX11_isSplitPair 8 = .ok (.aload_n 0, 1) := by decide +kernel
theorem dX11_isSplitPair_9 : decode cX11_isSplitPair 9 = .ok (.iload_n 2, 1) := by decide +kernel
theorem dX11_isSplitPair_10 : decode cX11_isSplitPair 10 = .ok (.invokevirtual 132, 3) := by decide +kernel
theorem dX11_isSplitPair_13 : decode cX11_isSplitPair 13 = .ok (.ifCond .ne 5, 3) := by decide +kernel
theorem dX11_isSplitPair_16 : decode cX11_isSplitPair 16 = .ok (.iconst (-1), 1) := by decide +kernel
theorem dX11_isSplitPair_17 : decode cX11_isSplitPair 17 = .ok (.ireturn, 1) := by decide +kernel
theorem dX11_isSplitPair_18 : decode cX11_isSplitPair 18 = .ok (.aload_n 0, 1) := by decide +kernel
theorem dX11_isSplitPair_19 : decode cX11_isSplitPair 19 = .ok (.invokevirtual 294, 3) := by decide +kernel
theorem dX11_isSplitPair_22 : decode cX11_isSplitPair 22 = .ok (.aload_n 0, 1) := by decide +kernel
theorem dX11_isSplitPair_23 : decode cX11_isSplitPair 23 = .ok (.getfield 61, 3) := by decide +kernel
theorem dX11_isSplitPair_26 : decode cX11_isSplitPair 26 = .ok (.bipush 6, 2) := by decide +kernel
theorem dX11_isSplitPair_28 : decode cX11_isSplitPair 28 = .ok (.iload_n 1, 1) := by decide +kernel
theorem dX11_isSplitPair_29 : decode cX11_isSplitPair 29 = .ok (.imul, 1) := by decide +kernel
theorem dX11_isSplitPair_30 : decode cX11_isSplitPair 30 = .ok (.iload_n 2, 1) := by decide +kernel
theorem dX11_isSplitPair_31 : decode cX11_isSplitPair 31 = .ok (.iadd, 1) := by decide +kernel
theorem dX11_isSplitPair_32 : decode cX11_isSplitPair 32 = .ok (.baload, 1) := by decide +kernel
theorem dX11_isSplitPair_33 : decode cX11_isSplitPair 33 = .ok (.ifCond .eq 7, 3) := by decide +kernel
theorem dX11_isSplitPair_36 : decode cX11_isSplitPair 36 = .ok (.iconst 1, 1) := by decide +kernel
theorem dX11_isSplitPair_37 : decode cX11_isSplitPair 37 = .ok (.goto 4, 3) := by decide +kernel
theorem dX11_isSplitPair_40 : decode cX11_isSplitPair 40 = .ok (.iconst 0, 1) := by decide +kernel
theorem dX11_isSplitPair_41 : decode cX11_isSplitPair 41 = .ok (.ireturn, 1) := by decide +kernel
set_option maxRecDepth 20000 in
theorem ggX11_lowest_X11_has : GoodIn wsX11_lowest wsX11_has := goodIn_r _ [4] (by decide +kernel) (by decide +kernel)
set_option maxRecDepth 20000 in
theorem gX11_lowest_X11_has : GoodIn wsX11_lowest (va_wsS RX11 139 yX11_has wsX11_has) := goodIn_app (goodIn_of _ (by decide +kernel)) ggX11_lowest_X11_has
theorem dX11_lowest_0 : decode cX11_lowest 0 = .ok (.iconst 0, 1) := by decide +kernel
theorem dX11_lowest_1 : decode cX11_lowest 1 = .ok (.istore_n 1, 1) := by decide +kernel
theorem dX11_lowest_2 : decode cX11_lowest 2 = .ok (.iload_n 0, 1) := by decide +kernel
theorem dX11_lowest_3 : decode cX11_lowest 3 = .ok (.i2l, 1) := by decide +kernel
theorem dX11_lowest_4 : decode cX11_lowest 4 = .ok (.iload_n 1, 1) := by decide +kernel
theorem dX11_lowest_5 : decode cX11_lowest 5 = .ok (.invokestatic 139, 3) := by decide +kernel
theorem dX11_lowest_8 : decode cX11_lowest 8 = .ok (.ifCond .ne 9, 3) := by decide +kernel
theorem dX11_lowest_11 : decode cX11_lowest 11 = .ok (.iinc 1 1, 3) := by decide +kernel
theorem dX11_lowest_14 : decode cX11_lowest 14 = .ok (.goto (-12), 3) := by decide +kernel
theorem dX11_lowest_17 : decode cX11_lowest 17 = .ok (.iload_n 1, 1) := by decide +kernel
theorem dX11_lowest_18 : decode cX11_lowest 18 = .ok (.ireturn, 1) := by decide +kernel
theorem dX11_firstSplit_0 : decode cX11_firstSplit 0 = .ok (.iconst 0, 1) := by decide +kernel
theorem dX11_firstSplit_1 : decode cX11_firstSplit 1 = .ok (.istore_n 1, 1) := by decide +kernel
theorem dX11_firstSplit_2 : decode cX11_firstSplit 2 = .ok (.aload_n 0, 1) := by decide +kernel
theorem dX11_firstSplit_3 : decode cX11_firstSplit 3 = .ok (.getfield 61, 3) := by decide +kernel
theorem dX11_firstSplit_6 : decode cX11_firstSplit 6 = .ok (.iload_n 1, 1) := by decide +kernel
theorem dX11_firstSplit_7 : decode cX11_firstSplit 7 = .ok (.baload, 1) := by decide +kernel
theorem dX11_firstSplit_8 : decode cX11_firstSplit 8 = .ok (.ifCond .ne 9, 3) := by decide +kernel
theorem dX11_firstSplit_11 : decode cX11_firstSplit 11 = .ok (.iinc 1 1, 3) := by decide +kernel
theorem dX11_firstSplit_14 : decode cX11_firstSplit 14 = .ok (.goto (-12), 3) := by decide +kernel
theorem dX11_firstSplit_17 : decode cX11_firstSplit 17 = .ok (.iload_n 1, 1) := by decide +kernel
theorem dX11_firstSplit_18 : decode cX11_firstSplit 18 = .ok (.ireturn, 1) := by decide +kernel
set_option maxRecDepth 20000 in
theorem ggX11_witnessState_X11_isBetween : GoodIn wsX11_witnessState wsX11_isBetween := goodIn_r _ [7] (by decide +kernel) (by decide +kernel)
set_option maxRecDepth 20000 in
theorem gX11_witnessState_X11_isBetween : GoodIn wsX11_witnessState (va_wsS RX11 124 yX11_isBetween wsX11_isBetween) := goodIn_app (goodIn_of _ (by decide +kernel)) ggX11_witnessState_X11_isBetween
set_option maxRecDepth 20000 in
theorem ggX11_witnessState_X11_finds : GoodIn wsX11_witnessState wsX11_finds := goodIn_r _ [11, 12, 13, 2, 3, 14, 15, 16, 17, 6, 18, 19, 20, 21, 22, 23, 24, 25, 26, 27, 28, 29, 30, 31, 32, 33, 34, 35, 36, 37, 38, 39, 40, 41, 42, 43, 44, 45, 46, 47, 48, 49, 50, 51, 52, 53, 54, 55, 56, 57, 58, 59, 60, 61, 62, 63, 64, 65, 66, 67, 68, 69, 70, 71, 72, 73, 74, 75, 76, 77, 78, 79, 80, 81, 82, 83, 84, 85, 86, 87, 88, 89, 90, 91, 92, 93, 94, 95, 103, 104, 105, 106, 107, 108, 109, 110, 111, 112, 113, 114, 115, 116, 117, 118, 119, 120, 121, 122, 123, 124, 125, 126, 127, 128, 129, 130, 131, 132, 133, 134, 135, 136, 137, 138, 139, 140, 141, 142, 143, 144, 145, 146, 147, 148, 149, 150, 151, 152] (by decide +kernel) (by decide +kernel)
set_option maxRecDepth 20000 in
theorem gX11_witnessState_X11_finds : GoodIn wsX11_witnessState (wsV RX11 294 RX11 yX11_finds wsX11_finds) := goodIn_app (goodIn_of _ (by decide +kernel)) ggX11_witnessState_X11_finds
set_option maxRecDepth 20000 in
theorem ggX11_witnessState_X11_lowest : GoodIn wsX11_witnessState wsX11_lowest := goodIn_r _ [98, 31, 32, 6, 33] (by decide +kernel) (by decide +kernel)
set_option maxRecDepth 20000 in
theorem gX11_witnessState_X11_lowest : GoodIn wsX11_witnessState (va_wsS RX11 312 yX11_lowest wsX11_lowest) := goodIn_app (goodIn_of _ (by decide +kernel)) ggX11_witnessState_X11_lowest
set_option maxRecDepth 20000 in
theorem ggX11_witnessState_X11_firstSplit : GoodIn wsX11_witnessState wsX11_firstSplit := goodIn_r _ [102, 14, 103, 104, 105, 106, 107, 108, 109, 110, 111, 112, 113, 114, 115, 116, 117, 118, 119, 120, 121, 122, 123, 124, 125, 126, 127, 128, 129, 130, 131, 132, 133, 134, 135, 136, 137, 138, 139, 140, 141, 142, 143, 144, 145, 146, 147, 148, 149, 150, 151, 152] (by decide +kernel) (by decide +kernel)
set_option maxRecDepth 20000 in
theorem gX11_witnessState_X11_firstSplit : GoodIn wsX11_witnessState (wsV RX11 315 RX11 yX11_firstSplit wsX11_firstSplit) := goodIn_app (goodIn_of _ (by decide +kernel)) ggX11_witnessState_X11_firstSplit
theorem dX11_witnessState_0 : decode cX11_witnessState 0 = .ok (.iload_n 1, 1) := by decide +kernel
theorem dX11_witnessState_1 : decode cX11_witnessState 1 = .ok (.i2l, 1) := by decide +kernel
theorem dX11_witnessState_2 : decode cX11_witnessState 2 = .ok (.lconst 1, 1) := by decide +kernel
theorem dX11_witnessState_3 : decode cX11_witnessState 3 = .ok (.ldc2_w 310, 3) := by decide +kernel
theorem dX11_witnessState_6 : decode cX11_witnessState 6 = .ok (.invokestatic 124, 3) := by decide +kernel
theorem dX11_witnessState_9 : decode cX11_witnessState 9 = .ok (.ifCond .ne 5, 3) := by decide +kernel
theorem dX11_witnessState_12 : decode cX11_witnessState 12 = .ok (.iconst (-1), 1) := by decide +kernel
theorem dX11_witnessState_13 : decode cX11_witnessState 13 = .ok (.ireturn, 1) := by decide +kernel
theorem dX11_witnessState_14 : decode cX11_witnessState 14 = .ok (.aload_n 0, 1) := by decide +kernel
theorem dX11_witnessState_15 : decode cX11_witnessState 15 = .ok (.invokevirtual 294, 3) := by decide +kernel
theorem dX11_witnessState_18 : decode cX11_witnessState 18 = .ok (.iload_n 1, 1) := by decide +kernel
theorem dX11_witnessState_19 : decode cX11_witnessState 19 = .ok (.iconst 1, 1) := by decide +kernel
theorem dX11_witnessState_20 : decode cX11_witnessState 20 = .ok (.if_icmp .ne 23, 3) := by decide +kernel
theorem dX11_witnessState_23 : decode cX11_witnessState 23 = .ok (.aload_n 0, 1) := by decide +kernel
theorem dX11_witnessState_24 : decode cX11_witnessState 24 = .ok (.getfield 282, 3) := by decide +kernel
theorem dX11_witnessState_27 : decode cX11_witnessState 27 = .ok (.ifCond .ne 8, 3) := by decide +kernel
theorem dX11_witnessState_30 : decode cX11_witnessState 30 = .ok (.bipush (-4), 2) := by decide +kernel
theorem dX11_witnessState_32 : decode cX11_witnessState 32 = .ok (.goto 10, 3) := by decide +kernel
theorem dX11_witnessState_35 : decode cX11_witnessState 35 = .ok (.aload_n 0, 1) := by decide +kernel
theorem dX11_witnessState_36 : decode cX11_witnessState 36 = .ok (.getfield 282, 3) := by decide +kernel
theorem dX11_witnessState_39 : decode cX11_witnessState 39 = .ok (.invokestatic 312, 3) := by decide +kernel
theorem dX11_witnessState_42 : decode cX11_witnessState 42 = .ok (.ireturn, 1) := by decide +kernel
theorem dX11_witnessState_43 : decode cX11_witnessState 43 = .ok (.aload_n 0, 1) := by decide +kernel
theorem dX11_witnessState_44 : decode cX11_witnessState 44 = .ok (.getfield 285, 3) := by decide +kernel
theorem dX11_witnessState_47 : decode cX11_witnessState 47 = .ok (.ifCond .ne 8, 3) := by decide +kernel
theorem dX11_witnessState_50 : decode cX11_witnessState 50 = .ok (.bipush (-4), 2) := by decide +kernel
theorem dX11_witnessState_52 : decode cX11_witnessState 52 = .ok (.goto 21, 3) := by decide +kernel
theorem dX11_witnessState_55 : decode cX11_witnessState 55 = .ok (.aload_n 0, 1) := by decide +kernel
theorem dX11_witnessState_56 : decode cX11_witnessState 56 = .ok (.invokevirtual 315, 3) := by decide +kernel
theorem dX11_witnessState_59 : decode cX11_witnessState 59 = .ok (.bipush 6, 2) := by decide +kernel
theorem dX11_witnessState_61 : decode cX11_witnessState 61 = .ok (.idiv, 1) := by decide +kernel
theorem dX11_witnessState_62 : decode cX11_witnessState 62 = .ok (.bipush 8, 2) := by decide +kernel
theorem dX11_witnessState_64 : decode cX11_witnessState 64 = .ok (.imul, 1) := by decide +kernel
theorem dX11_witnessState_65 : decode cX11_witnessState 65 = .ok (.aload_n 0, 1) := by decide +kernel
theorem dX11_witnessState_66 : decode cX11_witnessState 66 = .ok (.invokevirtual 315, 3) := by decide +kernel
theorem dX11_witnessState_69 : decode cX11_witnessState 69 = .ok (.bipush 6, 2) := by decide +kernel
theorem dX11_witnessState_71 : decode cX11_witnessState 71 = .ok (.irem, 1) := by decide +kernel
theorem dX11_witnessState_72 : decode cX11_witnessState 72 = .ok (.iadd, 1) := by decide +kernel
theorem dX11_witnessState_73 : decode cX11_witnessState 73 = .ok (.ireturn, 1) := by decide +kernel
set_option maxRecDepth 20000 in
theorem ggX11_findLightest_X11_has : GoodIn wsX11_findLightest wsX11_has := goodIn_r _ [11] (by decide +kernel) (by decide +kernel)
set_option maxRecDepth 20000 in
theorem gX11_findLightest_X11_has : GoodIn wsX11_findLightest (va_wsS RX11 139 yX11_has wsX11_has) := goodIn_app (goodIn_of _ (by decide +kernel)) ggX11_findLightest_X11_has
theorem dX11_findLightest_0 : decode cX11_findLightest 0 = .ok (.iconst 0, 1) := by decide +kernel
theorem dX11_findLightest_1 : decode cX11_findLightest 1 = .ok (.istore_n 1, 1) := by decide +kernel
theorem dX11_findLightest_2 : decode cX11_findLightest 2 = .ok (.iload_n 1, 1) := by decide +kernel
theorem dX11_findLightest_3 : decode cX11_findLightest 3 = .ok (.bipush 6, 2) := by decide +kernel
theorem dX11_findLightest_5 : decode cX11_findLightest 5 = .ok (.if_icmp .ge 34, 3) := by decide +kernel
theorem dX11_findLightest_8 : decode cX11_findLightest 8 = .ok (.aload_n 0, 1) := by decide +kernel
theorem dX11_findLightest_9 : decode cX11_findLightest 9 = .ok (.getfield 73, 3) := by decide +kernel
theorem dX11_findLightest_12 : decode cX11_findLightest 12 = .ok (.iload_n 1, 1) := by decide +kernel
theorem dX11_findLightest_13 : decode cX11_findLightest 13 = .ok (.aload_n 0, 1) := by decide +kernel
theorem dX11_findLightest_14 : decode cX11_findLightest 14 = .ok (.getfield 115, 3) := by decide +kernel
theorem dX11_findLightest_17 : decode cX11_findLightest 17 = .ok (.i2l, 1) := by decide +kernel
theorem dX11_findLightest_18 : decode cX11_findLightest 18 = .ok (.iload_n 1, 1) := by decide +kernel
theorem dX11_findLightest_19 : decode cX11_findLightest 19 = .ok (.invokestatic 139, 3) := by decide +kernel
theorem dX11_findLightest_22 : decode cX11_findLightest 22 = .ok (.ifCond .eq 7, 3) := by decide +kernel
theorem dX11_findLightest_25 : decode cX11_findLightest 25 = .ok (.iconst 0, 1) := by decide +kernel
theorem dX11_findLightest_26 : decode cX11_findLightest 26 = .ok (.goto 6, 3) := by decide +kernel
theorem dX11_findLightest_29 : decode cX11_findLightest 29 = .ok (.ldc_w 318, 3) := by decide +kernel
theorem dX11_findLightest_32 : decode cX11_findLightest 32 = .ok (.iastore, 1) := by decide +kernel
theorem dX11_findLightest_33 : decode cX11_findLightest 33 = .ok (.iinc 1 1, 3) := by decide +kernel
theorem dX11_findLightest_36 : decode cX11_findLightest 36 = .ok (.goto (-34), 3) := by decide +kernel
theorem dX11_findLightest_39 : decode cX11_findLightest 39 = .ok (.iconst 0, 1) := by decide +kernel
theorem dX11_findLightest_40 : decode cX11_findLightest 40 = .ok (.istore_n 1, 1) := by decide +kernel
theorem dX11_findLightest_41 : decode cX11_findLightest 41 = .ok (.iload_n 1, 1) := by decide +kernel
theorem dX11_findLightest_42 : decode cX11_findLightest 42 = .ok (.bipush 12, 2) := by decide +kernel
theorem dX11_findLightest_44 : decode cX11_findLightest 44 = .ok (.if_icmp .ge 116, 3) := by decide +kernel
theorem dX11_findLightest_47 : decode cX11_findLightest 47 = .ok (.iconst 0, 1) := by decide +kernel
theorem dX11_findLightest_48 : decode cX11_findLightest 48 = .ok (.istore_n 2, 1) := by decide +kernel
theorem dX11_findLightest_49 : decode cX11_findLightest 49 = .ok (.iload_n 2, 1) := by decide +kernel
theorem dX11_findLightest_50 : decode cX11_findLightest 50 = .ok (.aload_n 0, 1) := by decide +kernel
theorem dX11_findLightest_51 : decode cX11_findLightest 51 = .ok (.getfield 19, 3) := by decide +kernel
theorem dX11_findLightest_54 : decode cX11_findLightest 54 = .ok (.if_icmp .ge 100, 3) := by decide +kernel
theorem dX11_findLightest_57 : decode cX11_findLightest 57 = .ok (.iconst 0, 1) := by decide +kernel
theorem dX11_findLightest_58 : decode cX11_findLightest 58 = .ok (.istore_n 3, 1) := by decide +kernel
theorem dX11_findLightest_59 : decode cX11_findLightest 59 = .ok (.iload_n 3, 1) := by decide +kernel
theorem dX11_findLightest_60 : decode cX11_findLightest 60 = .ok (.iconst 3, 1) := by decide +kernel
theorem dX11_findLightest_61 : decode cX11_findLightest 61 = .ok (.if_icmp .ge 87, 3) := by decide +kernel
theorem dX11_findLightest_64 : decode cX11_findLightest 64 = .ok (.iconst 0, 1) := by decide +kernel
theorem dX11_findLightest_65 : decode cX11_findLightest 65 = .ok (.istore 4, 2) := by decide +kernel
theorem dX11_findLightest_67 : decode cX11_findLightest 67 = .ok (.iload 4, 2) := by decide +kernel
theorem dX11_findLightest_69 : decode cX11_findLightest 69 = .ok (.aload_n 0, 1) := by decide +kernel
theorem dX11_findLightest_70 : decode cX11_findLightest 70 = .ok (.getfield 19, 3) := by decide +kernel
theorem dX11_findLightest_73 : decode cX11_findLightest 73 = .ok (.if_icmp .ge 69, 3) := by decide +kernel
theorem dX11_findLightest_76 : decode cX11_findLightest 76 = .ok (.aload_n 0, 1) := by decide +kernel
theorem dX11_findLightest_77 : decode cX11_findLightest 77 = .ok (.getfield 73, 3) := by decide +kernel
theorem dX11_findLightest_80 : decode cX11_findLightest 80 = .ok (.iload 4, 2) := by decide +kernel
theorem dX11_findLightest_82 : decode cX11_findLightest 82 = .ok (.iaload, 1) := by decide +kernel
theorem dX11_findLightest_83 : decode cX11_findLightest 83 = .ok (.bipush 16, 2) := by decide +kernel
theorem dX11_findLightest_85 : decode cX11_findLightest 85 = .ok (.aload_n 0, 1) := by decide +kernel
theorem dX11_findLightest_86 : decode cX11_findLightest 86 = .ok (.getfield 16, 3) := by decide +kernel
theorem dX11_findLightest_89 : decode cX11_findLightest 89 = .ok (.iload_n 3, 1) := by decide +kernel
theorem dX11_findLightest_90 : decode cX11_findLightest 90 = .ok (.iaload, 1) := by decide +kernel
theorem dX11_findLightest_91 : decode cX11_findLightest 91 = .ok (.imul, 1) := by decide +kernel
theorem dX11_findLightest_92 : decode cX11_findLightest 92 = .ok (.iadd, 1) := by decide +kernel
theorem dX11_findLightest_93 : decode cX11_findLightest 93 = .ok (.iconst 1, 1) := by decide +kernel
theorem dX11_findLightest_94 : decode cX11_findLightest 94 = .ok (.iadd, 1) := by decide +kernel
theorem dX11_findLightest_95 : decode cX11_findLightest 95 = .ok (.istore 5, 2) := by decide +kernel
theorem dX11_findLightest_97 : decode cX11_findLightest 97 = .ok (.aload_n 0, 1) := by decide +kernel
theorem dX11_findLightest_98 : decode cX11_findLightest 98 = .ok (.getfield 7, 3) := by decide +kernel
theorem dX11_findLightest_101 : decode cX11_findLightest 101 = .ok (.bipush 6, 2) := by decide +kernel
theorem dX11_findLightest_103 : decode cX11_findLightest 103 = .ok (.iload_n 3, 1) := by decide +kernel
theorem dX11_findLightest_104 : decode cX11_findLightest 104 = .ok (.imul, 1) := by decide +kernel
theorem dX11_findLightest_105 : decode cX11_findLightest 105 = .ok (.iload_n 2, 1) := by decide +kernel
theorem dX11_findLightest_106 : decode cX11_findLightest 106 = .ok (.iadd, 1) := by decide +kernel
theorem dX11_findLightest_107 : decode cX11_findLightest 107 = .ok (.iaload, 1) := by decide +kernel
theorem dX11_findLightest_108 : decode cX11_findLightest 108 = .ok (.i2l, 1) := by decide +kernel
theorem dX11_findLightest_109 : decode cX11_findLightest 109 = .ok (.iload 4, 2) := by decide +kernel
theorem dX11_findLightest_111 : decode cX11_findLightest 111 = .ok (.invokestatic 139, 3) := by decide +kernel
theorem dX11_findLightest_114 : decode cX11_findLightest 114 = .ok (.ifCond .eq 22, 3) := by decide +kernel
theorem dX11_findLightest_117 : decode cX11_findLightest 117 = .ok (.iload 5, 2) := by decide +kernel
theorem dX11_findLightest_119 : decode cX11_findLightest 119 = .ok (.aload_n 0, 1) := by decide +kernel
theorem dX11_findLightest_120 : decode cX11_findLightest 120 = .ok (.getfield 73, 3) := by decide +kernel
theorem dX11_findLightest_123 : decode cX11_findLightest 123 = .ok (.iload_n 2, 1) := by decide +kernel
theorem dX11_findLightest_124 : decode cX11_findLightest 124 = .ok (.iaload, 1) := by decide +kernel
theorem dX11_findLightest_125 : decode cX11_findLightest 125 = .ok (.if_icmp .ge 11, 3) := by decide +kernel
theorem dX11_findLightest_128 : decode cX11_findLightest 128 = .ok (.aload_n 0, 1) := by decide +kernel
theorem dX11_findLightest_129 : decode cX11_findLightest 129 = .ok (.getfield 73, 3) := by decide +kernel
theorem dX11_findLightest_132 : decode cX11_findLightest 132 = .ok (.iload_n 2, 1) := by decide +kernel
theorem dX11_findLightest_133 : decode cX11_findLightest 133 = .ok (.iload 5, 2) := by decide +kernel
theorem dX11_findLightest_135 : decode cX11_findLightest 135 = .ok (.iastore, 1) := by decide +kernel
theorem dX11_findLightest_136 : decode cX11_findLightest 136 = .ok (.iinc 4 1, 3) := by decide +kernel
theorem dX11_findLightest_139 : decode cX11_findLightest 139 = .ok (.goto (-72), 3) := by decide +kernel
theorem dX11_findLightest_142 : decode cX11_findLightest 142 = .ok (.iinc 3 1, 3) := by decide +kernel
theorem dX11_findLightest_145 : decode cX11_findLightest 145 = .ok (.goto (-86), 3) := by decide +kernel
theorem dX11_findLightest_148 : decode cX11_findLightest 148 = .ok (.iinc 2 1, 3) := by decide +kernel
theorem dX11_findLightest_151 : decode cX11_findLightest 151 = .ok (.goto (-102), 3) := by decide +kernel
theorem dX11_findLightest_154 : decode cX11_findLightest 154 = .ok (.iinc 1 1, 3) := by decide +kernel
theorem dX11_findLightest_157 : decode cX11_findLightest 157 = .ok (.goto (-116), 3) := by decide +kernel
theorem dX11_findLightest_160 : decode cX11_findLightest 160 = .ok (.ldc_w 318, 3) := by decide +kernel
theorem dX11_findLightest_163 : decode cX11_findLightest 163 = .ok (.istore_n 1, 1) := by decide +kernel
theorem dX11_findLightest_164 : decode cX11_findLightest 164 = .ok (.iconst 0, 1) := by decide +kernel
theorem dX11_findLightest_165 : decode cX11_findLightest 165 = .ok (.istore_n 2, 1) := by decide +kernel
theorem dX11_findLightest_166 : decode cX11_findLightest 166 = .ok (.iload_n 2, 1) := by decide +kernel
theorem dX11_findLightest_167 : decode cX11_findLightest 167 = .ok (.aload_n 0, 1) := by decide +kernel
theorem dX11_findLightest_168 : decode cX11_findLightest 168 = .ok (.getfield 19, 3) := by decide +kernel
theorem dX11_findLightest_171 : decode cX11_findLightest 171 = .ok (.if_icmp .ge 42, 3) := by decide +kernel
theorem dX11_findLightest_174 : decode cX11_findLightest 174 = .ok (.aload_n 0, 1) := by decide +kernel
theorem dX11_findLightest_175 : decode cX11_findLightest 175 = .ok (.getfield 112, 3) := by decide +kernel
theorem dX11_findLightest_178 : decode cX11_findLightest 178 = .ok (.i2l, 1) := by decide +kernel
theorem dX11_findLightest_179 : decode cX11_findLightest 179 = .ok (.iload_n 2, 1) := by decide +kernel
theorem dX11_findLightest_180 : decode cX11_findLightest 180 = .ok (.invokestatic 139, 3) := by decide +kernel
theorem dX11_findLightest_183 : decode cX11_findLightest 183 = .ok (.ifCond .eq 22, 3) := by decide +kernel
theorem dX11_findLightest_186 : decode cX11_findLightest 186 = .ok (.aload_n 0, 1) := by decide +kernel
theorem dX11_findLightest_187 : decode cX11_findLightest 187 = .ok (.getfield 73, 3) := by decide +kernel
theorem dX11_findLightest_190 : decode cX11_findLightest 190 = .ok (.iload_n 2, 1) := by decide +kernel
theorem dX11_findLightest_191 : decode cX11_findLightest 191 = .ok (.iaload, 1) := by decide +kernel
theorem dX11_findLightest_192 : decode cX11_findLightest 192 = .ok (.iload_n 1, 1) := by decide +kernel
theorem dX11_findLightest_193 : decode cX11_findLightest 193 = .ok (.if_icmp .ge 12, 3) := by decide +kernel
theorem dX11_findLightest_196 : decode cX11_findLightest 196 = .ok (.aload_n 0, 1) := by decide +kernel
theorem dX11_findLightest_197 : decode cX11_findLightest 197 = .ok (.getfield 73, 3) := by decide +kernel
theorem dX11_findLightest_200 : decode cX11_findLightest 200 = .ok (.iload_n 2, 1) := by decide +kernel
theorem dX11_findLightest_201 : decode cX11_findLightest 201 = .ok (.iaload, 1) := by decide +kernel
theorem dX11_findLightest_202 : decode cX11_findLightest 202 = .ok (.goto 4, 3) := by decide +kernel
theorem dX11_findLightest_205 : decode cX11_findLightest 205 = .ok (.iload_n 1, 1) := by decide +kernel
theorem dX11_findLightest_206 : decode cX11_findLightest 206 = .ok (.istore_n 1, 1) := by decide +kernel
theorem dX11_findLightest_207 : decode cX11_findLightest 207 = .ok (.iinc 2 1, 3) := by decide +kernel
theorem dX11_findLightest_210 : decode cX11_findLightest 210 = .ok (.goto (-44), 3) := by decide +kernel
theorem dX11_findLightest_213 : decode cX11_findLightest 213 = .ok (.iload_n 1, 1) := by decide +kernel
theorem dX11_findLightest_214 : decode cX11_findLightest 214 = .ok (.ireturn, 1) := by decide +kernel
set_option maxRecDepth 20000 in
theorem ggX11_spellLightest_X11_findLightest : GoodIn wsX11_spellLightest wsX11_findLightest := goodIn_r _ [12, 4, 13, 1, 2, 7, 14, 3, 15, 16, 11, 17, 26, 27, 28, 29, 30, 31, 32, 33, 34, 35, 36, 37, 38, 39, 40, 41, 42, 43, 44, 45, 46, 47, 48, 49, 50, 51, 52, 53, 54, 55, 56, 57, 58, 59, 60, 61, 62, 63, 64, 65, 66, 67, 68, 69, 70, 71, 72, 73, 74, 75] (by decide +kernel) (by decide +kernel)
set_option maxRecDepth 20000 in
theorem gX11_spellLightest_X11_findLightest : GoodIn wsX11_spellLightest (wsV RX11 319 RX11 yX11_findLightest wsX11_findLightest) := goodIn_app (goodIn_of _ (by decide +kernel)) ggX11_spellLightest_X11_findLightest
set_option maxRecDepth 20000 in
theorem ggX11_spellLightest_X11_has : GoodIn wsX11_spellLightest wsX11_has := goodIn_r _ [17] (by decide +kernel) (by decide +kernel)
set_option maxRecDepth 20000 in
theorem gX11_spellLightest_X11_has : GoodIn wsX11_spellLightest (va_wsS RX11 139 yX11_has wsX11_has) := goodIn_app (goodIn_of _ (by decide +kernel)) ggX11_spellLightest_X11_has
set_option maxRecDepth 20000 in
theorem ggX11_spellLightest_X11_goesLight : GoodIn wsX11_spellLightest wsX11_goesLight := goodIn_r _ [21, 2, 4, 7, 22, 23, 24, 11, 25, 14, 15, 16, 17, 26, 27, 28, 29, 30, 31, 32, 33, 34, 35, 36, 37, 38, 39, 40, 41, 42, 43, 44, 45, 46, 47, 48, 49, 50, 51, 52, 53, 54, 55, 56, 57, 58, 59, 60, 61, 62, 63, 64, 65, 66, 67, 68, 69, 70, 71, 72, 73, 74, 75] (by decide +kernel) (by decide +kernel)
set_option maxRecDepth 20000 in
theorem gX11_spellLightest_X11_goesLight : GoodIn wsX11_spellLightest (wsV RX11 322 RX11 yX11_goesLight wsX11_goesLight) := goodIn_app (goodIn_of _ (by decide +kernel)) ggX11_spellLightest_X11_goesLight
theorem dX11_spellLightest_0 : decode cX11_spellLightest 0 = .ok (.aload_n 0, 1) := by decide +kernel
theorem dX11_spellLightest_1 : decode cX11_spellLightest 1 = .ok (.invokevirtual 319, 3) := by decide +kernel
theorem dX11_spellLightest_4 : decode cX11_spellLightest 4 = .ok (.istore_n 1, 1) := by decide +kernel
theorem dX11_spellLightest_5 : decode cX11_spellLightest 5 = .ok (.iload_n 1, 1) := by decide +kernel
theorem dX11_spellLightest_6 : decode cX11_spellLightest 6 = .ok (.ldc_w 318, 3) := by decide +kernel
theorem dX11_spellLightest_9 : decode cX11_spellLightest 9 = .ok (.if_icmp .ne 6, 3) := by decide +kernel
theorem dX11_spellLightest_12 : decode cX11_spellLightest 12 = .ok (.bipush (-4), 2) := by decide +kernel
theorem dX11_spellLightest_14 : decode cX11_spellLightest 14 = .ok (.ireturn, 1) := by decide +kernel
theorem dX11_spellLightest_15 : decode cX11_spellLightest 15 = .ok (.iconst 0, 1) := by decide +kernel
theorem dX11_spellLightest_16 : decode cX11_spellLightest 16 = .ok (.istore_n 2, 1) := by decide +kernel
theorem dX11_spellLightest_17 : decode cX11_spellLightest 17 = .ok (.iconst 0, 1) := by decide +kernel
theorem dX11_spellLightest_18 : decode cX11_spellLightest 18 = .ok (.istore_n 3, 1) := by decide +kernel
theorem dX11_spellLightest_19 : decode cX11_spellLightest 19 = .ok (.iload_n 3, 1) := by decide +kernel
theorem dX11_spellLightest_20 : decode cX11_spellLightest 20 = .ok (.aload_n 0, 1) := by decide +kernel
theorem dX11_spellLightest_21 : decode cX11_spellLightest 21 = .ok (.getfield 19, 3) := by decide +kernel
theorem dX11_spellLightest_24 : decode cX11_spellLightest 24 = .ok (.if_icmp .ge 41, 3) := by decide +kernel
theorem dX11_spellLightest_27 : decode cX11_spellLightest 27 = .ok (.iload_n 2, 1) := by decide +kernel
theorem dX11_spellLightest_28 : decode cX11_spellLightest 28 = .ok (.aload_n 0, 1) := by decide +kernel
theorem dX11_spellLightest_29 : decode cX11_spellLightest 29 = .ok (.getfield 112, 3) := by decide +kernel
theorem dX11_spellLightest_32 : decode cX11_spellLightest 32 = .ok (.i2l, 1) := by decide +kernel
theorem dX11_spellLightest_33 : decode cX11_spellLightest 33 = .ok (.iload_n 3, 1) := by decide +kernel
theorem dX11_spellLightest_34 : decode cX11_spellLightest 34 = .ok (.invokestatic 139, 3) := by decide +kernel
theorem dX11_spellLightest_37 : decode cX11_spellLightest 37 = .ok (.ifCond .eq 19, 3) := by decide +kernel
theorem dX11_spellLightest_40 : decode cX11_spellLightest 40 = .ok (.aload_n 0, 1) := by decide +kernel
theorem dX11_spellLightest_41 : decode cX11_spellLightest 41 = .ok (.getfield 73, 3) := by decide +kernel
theorem dX11_spellLightest_44 : decode cX11_spellLightest 44 = .ok (.iload_n 3, 1) := by decide +kernel
theorem dX11_spellLightest_45 : decode cX11_spellLightest 45 = .ok (.iaload, 1) := by decide +kernel
theorem dX11_spellLightest_46 : decode cX11_spellLightest 46 = .ok (.iload_n 1, 1) := by decide +kernel
theorem dX11_spellLightest_47 : decode cX11_spellLightest 47 = .ok (.if_icmp .ne 9, 3) := by decide +kernel
theorem dX11_spellLightest_50 : decode cX11_spellLightest 50 = .ok (.iconst 1, 1) := by decide +kernel
theorem dX11_spellLightest_51 : decode cX11_spellLightest 51 = .ok (.iload_n 3, 1) := by decide +kernel
theorem dX11_spellLightest_52 : decode cX11_spellLightest 52 = .ok (.ishl, 1) := by decide +kernel
theorem dX11_spellLightest_53 : decode cX11_spellLightest 53 = .ok (.goto 4, 3) := by decide +kernel
theorem dX11_spellLightest_56 : decode cX11_spellLightest 56 = .ok (.iconst 0, 1) := by decide +kernel
theorem dX11_spellLightest_57 : decode cX11_spellLightest 57 = .ok (.ior, 1) := by decide +kernel
theorem dX11_spellLightest_58 : decode cX11_spellLightest 58 = .ok (.istore_n 2, 1) := by decide +kernel
theorem dX11_spellLightest_59 : decode cX11_spellLightest 59 = .ok (.iinc 3 1, 3) := by decide +kernel
theorem dX11_spellLightest_62 : decode cX11_spellLightest 62 = .ok (.goto (-43), 3) := by decide +kernel
theorem dX11_spellLightest_65 : decode cX11_spellLightest 65 = .ok (.aload_n 0, 1) := by decide +kernel
theorem dX11_spellLightest_66 : decode cX11_spellLightest 66 = .ok (.iload_n 1, 1) := by decide +kernel
theorem dX11_spellLightest_67 : decode cX11_spellLightest 67 = .ok (.bipush 16, 2) := by decide +kernel
theorem dX11_spellLightest_69 : decode cX11_spellLightest 69 = .ok (.irem, 1) := by decide +kernel
theorem dX11_spellLightest_70 : decode cX11_spellLightest 70 = .ok (.putfield 252, 3) := by decide +kernel
theorem dX11_spellLightest_73 : decode cX11_spellLightest 73 = .ok (.iconst 0, 1) := by decide +kernel
theorem dX11_spellLightest_74 : decode cX11_spellLightest 74 = .ok (.istore_n 3, 1) := by decide +kernel
theorem dX11_spellLightest_75 : decode cX11_spellLightest 75 = .ok (.iload_n 3, 1) := by decide +kernel
theorem dX11_spellLightest_76 : decode cX11_spellLightest 76 = .ok (.aload_n 0, 1) := by decide +kernel
theorem dX11_spellLightest_77 : decode cX11_spellLightest 77 = .ok (.getfield 252, 3) := by decide +kernel
theorem dX11_spellLightest_80 : decode cX11_spellLightest 80 = .ok (.if_icmp .ge 69, 3) := by decide +kernel
theorem dX11_spellLightest_83 : decode cX11_spellLightest 83 = .ok (.iconst 0, 1) := by decide +kernel
theorem dX11_spellLightest_84 : decode cX11_spellLightest 84 = .ok (.istore 4, 2) := by decide +kernel
theorem dX11_spellLightest_86 : decode cX11_spellLightest 86 = .ok (.aload_n 0, 1) := by decide +kernel
theorem dX11_spellLightest_87 : decode cX11_spellLightest 87 = .ok (.iload_n 2, 1) := by decide +kernel
theorem dX11_spellLightest_88 : decode cX11_spellLightest 88 = .ok (.iload 4, 2) := by decide +kernel
theorem dX11_spellLightest_90 : decode cX11_spellLightest 90 = .ok (.iload_n 1, 1) := by decide +kernel
theorem dX11_spellLightest_91 : decode cX11_spellLightest 91 = .ok (.invokevirtual 322, 3) := by decide +kernel
theorem dX11_spellLightest_94 : decode cX11_spellLightest 94 = .ok (.istore 5, 2) := by decide +kernel
theorem dX11_spellLightest_96 : decode cX11_spellLightest 96 = .ok (.iload 5, 2) := by decide +kernel
theorem dX11_spellLightest_98 : decode cX11_spellLightest 98 = .ok (.ifCond .ne 19, 3) := by decide +kernel
theorem dX11_spellLightest_101 : decode cX11_spellLightest 101 = .ok (.iinc 4 1, 3) := by decide +kernel
theorem dX11_spellLightest_104 : decode cX11_spellLightest 104 = .ok (.aload_n 0, 1) := by decide +kernel
theorem dX11_spellLightest_105 : decode cX11_spellLightest 105 = .ok (.iload_n 2, 1) := by decide +kernel
theorem dX11_spellLightest_106 : decode cX11_spellLightest 106 = .ok (.iload 4, 2) := by decide +kernel
theorem dX11_spellLightest_108 : decode cX11_spellLightest 108 = .ok (.iload_n 1, 1) := by decide +kernel
theorem dX11_spellLightest_109 : decode cX11_spellLightest 109 = .ok (.invokevirtual 322, 3) := by decide +kernel
theorem dX11_spellLightest_112 : decode cX11_spellLightest 112 = .ok (.istore 5, 2) := by decide +kernel
theorem dX11_spellLightest_114 : decode cX11_spellLightest 114 = .ok (.goto (-18), 3) := by decide +kernel
theorem dX11_spellLightest_117 : decode cX11_spellLightest 117 = .ok (.aload_n 0, 1) := by decide +kernel
theorem dX11_spellLightest_118 : decode cX11_spellLightest 118 = .ok (.getfield 51, 3) := by decide +kernel
theorem dX11_spellLightest_121 : decode cX11_spellLightest 121 = .ok (.iload_n 3, 1) := by decide +kernel
theorem dX11_spellLightest_122 : decode cX11_spellLightest 122 = .ok (.iload 4, 2) := by decide +kernel
theorem dX11_spellLightest_124 : decode cX11_spellLightest 124 = .ok (.iastore, 1) := by decide +kernel
theorem dX11_spellLightest_125 : decode cX11_spellLightest 125 = .ok (.iload_n 1, 1) := by decide +kernel
theorem dX11_spellLightest_126 : decode cX11_spellLightest 126 = .ok (.bipush 16, 2) := by decide +kernel
theorem dX11_spellLightest_128 : decode cX11_spellLightest 128 = .ok (.aload_n 0, 1) := by decide +kernel
theorem dX11_spellLightest_129 : decode cX11_spellLightest 129 = .ok (.getfield 16, 3) := by decide +kernel
theorem dX11_spellLightest_132 : decode cX11_spellLightest 132 = .ok (.iload 4, 2) := by decide +kernel
theorem dX11_spellLightest_134 : decode cX11_spellLightest 134 = .ok (.iaload, 1) := by decide +kernel
theorem dX11_spellLightest_135 : decode cX11_spellLightest 135 = .ok (.imul, 1) := by decide +kernel
theorem dX11_spellLightest_136 : decode cX11_spellLightest 136 = .ok (.iconst 1, 1) := by decide +kernel
theorem dX11_spellLightest_137 : decode cX11_spellLightest 137 = .ok (.iadd, 1) := by decide +kernel
theorem dX11_spellLightest_138 : decode cX11_spellLightest 138 = .ok (.isub, 1) := by decide +kernel
theorem dX11_spellLightest_139 : decode cX11_spellLightest 139 = .ok (.istore_n 1, 1) := by decide +kernel
theorem dX11_spellLightest_140 : decode cX11_spellLightest 140 = .ok (.iload 5, 2) := by decide +kernel
theorem dX11_spellLightest_142 : decode cX11_spellLightest 142 = .ok (.istore_n 2, 1) := by decide +kernel
theorem dX11_spellLightest_143 : decode cX11_spellLightest 143 = .ok (.iinc 3 1, 3) := by decide +kernel
theorem dX11_spellLightest_146 : decode cX11_spellLightest 146 = .ok (.goto (-71), 3) := by decide +kernel
theorem dX11_spellLightest_149 : decode cX11_spellLightest 149 = .ok (.aload_n 0, 1) := by decide +kernel
theorem dX11_spellLightest_150 : decode cX11_spellLightest 150 = .ok (.getfield 252, 3) := by decide +kernel
theorem dX11_spellLightest_153 : decode cX11_spellLightest 153 = .ok (.ireturn, 1) := by decide +kernel
set_option maxRecDepth 20000 in
theorem ggX11_goesLight_X11_step : GoodIn wsX11_goesLight wsX11_step := goodIn_r _ [8, 1, 9, 10, 11, 7, 12, 13, 14, 15, 16, 17, 18, 19, 20, 21, 22, 23, 24, 25, 26, 27, 28, 29, 30, 31, 32, 33, 34, 35, 36, 37, 38, 39, 40, 41, 42, 43, 44, 45, 46, 47, 48, 49, 50, 51, 52, 53, 54, 55, 56, 57, 58, 59, 60, 61, 62] (by decide +kernel) (by decide +kernel)
set_option maxRecDepth 20000 in
theorem gX11_goesLight_X11_step : GoodIn wsX11_goesLight (wsV RX11 143 RX11 yX11_step wsX11_step) := goodIn_app (goodIn_of _ (by decide +kernel)) ggX11_goesLight_X11_step
set_option maxRecDepth 20000 in
theorem ggX11_goesLight_X11_has : GoodIn wsX11_goesLight wsX11_has := goodIn_r _ [12] (by decide +kernel) (by decide +kernel)
set_option maxRecDepth 20000 in
theorem gX11_goesLight_X11_has : GoodIn wsX11_goesLight (va_wsS RX11 139 yX11_has wsX11_has) := goodIn_app (goodIn_of _ (by decide +kernel)) ggX11_goesLight_X11_has
theorem dX11_goesLight_0 : decode cX11_goesLight 0 = .ok (.iconst 0, 1) := by decide +kernel
theorem dX11_goesLight_1 : decode cX11_goesLight 1 = .ok (.istore 4, 2) := by decide +kernel
theorem dX11_goesLight_3 : decode cX11_goesLight 3 = .ok (.aload_n 0, 1) := by decide +kernel
theorem dX11_goesLight_4 : decode cX11_goesLight 4 = .ok (.iload_n 1, 1) := by decide +kernel
theorem dX11_goesLight_5 : decode cX11_goesLight 5 = .ok (.iload_n 2, 1) := by decide +kernel
theorem dX11_goesLight_6 : decode cX11_goesLight 6 = .ok (.invokevirtual 143, 3) := by decide +kernel
theorem dX11_goesLight_9 : decode cX11_goesLight 9 = .ok (.istore 5, 2) := by decide +kernel
theorem dX11_goesLight_11 : decode cX11_goesLight 11 = .ok (.iconst 0, 1) := by decide +kernel
theorem dX11_goesLight_12 : decode cX11_goesLight 12 = .ok (.istore 6, 2) := by decide +kernel
theorem dX11_goesLight_14 : decode cX11_goesLight 14 = .ok (.iload 6, 2) := by decide +kernel
theorem dX11_goesLight_16 : decode cX11_goesLight 16 = .ok (.aload_n 0, 1) := by decide +kernel
theorem dX11_goesLight_17 : decode cX11_goesLight 17 = .ok (.getfield 19, 3) := by decide +kernel
theorem dX11_goesLight_20 : decode cX11_goesLight 20 = .ok (.if_icmp .ge 56, 3) := by decide +kernel
theorem dX11_goesLight_23 : decode cX11_goesLight 23 = .ok (.iload 4, 2) := by decide +kernel
theorem dX11_goesLight_25 : decode cX11_goesLight 25 = .ok (.iload 5, 2) := by decide +kernel
theorem dX11_goesLight_27 : decode cX11_goesLight 27 = .ok (.i2l, 1) := by decide +kernel
theorem dX11_goesLight_28 : decode cX11_goesLight 28 = .ok (.iload 6, 2) := by decide +kernel
theorem dX11_goesLight_30 : decode cX11_goesLight 30 = .ok (.invokestatic 139, 3) := by decide +kernel
theorem dX11_goesLight_33 : decode cX11_goesLight 33 = .ok (.ifCond .eq 33, 3) := by decide +kernel
theorem dX11_goesLight_36 : decode cX11_goesLight 36 = .ok (.aload_n 0, 1) := by decide +kernel
theorem dX11_goesLight_37 : decode cX11_goesLight 37 = .ok (.getfield 73, 3) := by decide +kernel
theorem dX11_goesLight_40 : decode cX11_goesLight 40 = .ok (.iload 6, 2) := by decide +kernel
theorem dX11_goesLight_42 : decode cX11_goesLight 42 = .ok (.iaload, 1) := by decide +kernel
theorem dX11_goesLight_43 : decode cX11_goesLight 43 = .ok (.iload_n 3, 1) := by decide +kernel
theorem dX11_goesLight_44 : decode cX11_goesLight 44 = .ok (.bipush 16, 2) := by decide +kernel
theorem dX11_goesLight_46 : decode cX11_goesLight 46 = .ok (.aload_n 0, 1) := by decide +kernel
theorem dX11_goesLight_47 : decode cX11_goesLight 47 = .ok (.getfield 16, 3) := by decide +kernel
theorem dX11_goesLight_50 : decode cX11_goesLight 50 = .ok (.iload_n 2, 1) := by decide +kernel
theorem dX11_goesLight_51 : decode cX11_goesLight 51 = .ok (.iaload, 1) := by decide +kernel
theorem dX11_goesLight_52 : decode cX11_goesLight 52 = .ok (.imul, 1) := by decide +kernel
theorem dX11_goesLight_53 : decode cX11_goesLight 53 = .ok (.isub, 1) := by decide +kernel
theorem dX11_goesLight_54 : decode cX11_goesLight 54 = .ok (.iconst 1, 1) := by decide +kernel
theorem dX11_goesLight_55 : decode cX11_goesLight 55 = .ok (.isub, 1) := by decide +kernel
theorem dX11_goesLight_56 : decode cX11_goesLight 56 = .ok (.if_icmp .ne 10, 3) := by decide +kernel
theorem dX11_goesLight_59 : decode cX11_goesLight 59 = .ok (.iconst 1, 1) := by decide +kernel
theorem dX11_goesLight_60 : decode cX11_goesLight 60 = .ok (.iload 6, 2) := by decide +kernel
theorem dX11_goesLight_62 : decode cX11_goesLight 62 = .ok (.ishl, 1) := by decide +kernel
theorem dX11_goesLight_63 : decode cX11_goesLight 63 = .ok (.goto 4, 3) := by decide +kernel
theorem dX11_goesLight_66 : decode cX11_goesLight 66 = .ok (.iconst 0, 1) := by decide +kernel
theorem dX11_goesLight_67 : decode cX11_goesLight 67 = .ok (.ior, 1) := by decide +kernel
theorem dX11_goesLight_68 : decode cX11_goesLight 68 = .ok (.istore 4, 2) := by decide +kernel
theorem dX11_goesLight_70 : decode cX11_goesLight 70 = .ok (.iinc 6 1, 3) := by decide +kernel
theorem dX11_goesLight_73 : decode cX11_goesLight 73 = .ok (.goto (-59), 3) := by decide +kernel
theorem dX11_goesLight_76 : decode cX11_goesLight 76 = .ok (.iload 4, 2) := by decide +kernel
theorem dX11_goesLight_78 : decode cX11_goesLight 78 = .ok (.ireturn, 1) := by decide +kernel
set_option maxRecDepth 20000 in
theorem ggX11_spell_X11_finds : GoodIn wsX11_spell wsX11_finds := goodIn_r _ [8, 9, 10, 1, 2, 11, 12, 13, 14, 7, 15, 16, 17, 18, 19, 20, 21, 22, 23, 24, 25, 26, 27, 28, 29, 30, 31, 32, 33, 34, 35, 3, 36, 37, 38, 39, 40, 41, 42, 43, 44, 45, 46, 47, 48, 49, 50, 51, 52, 53, 54, 55, 56, 57, 58, 59, 60, 61, 62, 63, 64, 65, 66, 67, 68, 69, 70, 71, 72, 73, 74, 75, 76, 77, 78, 79, 80, 81, 82, 83, 84, 85, 86, 87, 88, 89, 90, 91, 114, 115, 116, 117, 118, 119, 120, 121, 122, 123, 124, 125, 126, 127, 128, 129, 130, 131, 132, 133, 134, 135, 136, 137, 138, 139, 140, 141, 142, 143, 144, 145, 146, 147, 148, 149, 150, 151, 152, 153, 154, 155, 156, 157, 158, 159, 160, 161, 162, 163] (by decide +kernel) (by decide +kernel)
set_option maxRecDepth 20000 in
theorem gX11_spell_X11_finds : GoodIn wsX11_spell (wsV RX11 294 RX11 yX11_finds wsX11_finds) := goodIn_app (goodIn_of _ (by decide +kernel)) ggX11_spell_X11_finds
set_option maxRecDepth 20000 in
theorem ggX11_spell_X11_spellAmbiguous : GoodIn wsX11_spell wsX11_spellAmbiguous := goodIn_r _ [34, 17, 18, 16, 35, 3, 36, 37, 38, 7, 39, 40, 41, 42, 43, 44, 45, 27, 28, 29, 30, 46, 47, 48, 49, 50, 51, 52, 53, 54, 55, 56, 57, 58, 59, 60, 61, 62, 63, 64, 65, 66, 67, 68, 69, 70, 71, 72, 73, 74, 75, 76, 77, 78, 79, 80, 114, 115, 116, 117, 118, 119, 120, 121, 122, 123, 124, 125, 126, 127, 128, 129, 130, 131, 132, 133, 134, 135, 136, 137, 138, 139, 140, 141, 142, 143, 144, 145, 146, 147, 148, 149, 150, 151, 152, 153, 154, 155, 156, 157, 158, 159, 160, 161, 162, 163] (by decide +kernel) (by decide +kernel)
set_option maxRecDepth 20000 in
theorem gX11_spell_X11_spellAmbiguous : GoodIn wsX11_spell (wsV RX11 276 RX11 yX11_spellAmbiguous wsX11_spellAmbiguous) := goodIn_app (goodIn_of _ (by decide +kernel)) ggX11_spell_X11_spellAmbiguous
set_option maxRecDepth 20000 in
theorem ggX11_spell_X11_spellLightest : GoodIn wsX11_spell wsX11_spellLightest := goodIn_r _ [95, 96, 17, 16, 97, 67, 68, 98, 99, 100, 101, 7, 102, 18, 27, 28, 29, 30, 103, 104, 105, 106, 23, 24, 25, 26, 114, 115, 116, 117, 118, 119, 120, 121, 122, 123, 124, 125, 126, 127, 128, 129, 130, 131, 132, 133, 134, 135, 136, 137, 138, 139, 140, 141, 142, 143, 144, 145, 146, 147, 148, 149, 150, 151, 152, 153, 154, 155, 156, 157, 158, 159, 160, 161, 162, 163] (by decide +kernel) (by decide +kernel)
set_option maxRecDepth 20000 in
theorem gX11_spell_X11_spellLightest : GoodIn wsX11_spell (wsV RX11 325 RX11 yX11_spellLightest wsX11_spellLightest) := goodIn_app (goodIn_of _ (by decide +kernel)) ggX11_spell_X11_spellLightest
set_option maxRecDepth 20000 in
theorem ggX11_spell_X11_nobodyIsHere : GoodIn wsX11_spell wsX11_nobodyIsHere := goodIn_r _ [61, 3, 62, 114, 115, 116, 117, 118, 119, 120, 121, 122, 123, 124, 125, 126, 127, 128, 129, 130, 131, 132, 133, 134, 135, 136, 137, 138, 139, 140, 141, 142, 143, 144, 145, 146, 147, 148, 149, 150, 151, 152, 153, 154, 155, 156, 157, 158, 159, 160, 161, 162, 163] (by decide +kernel) (by decide +kernel)
set_option maxRecDepth 20000 in
theorem gX11_spell_X11_nobodyIsHere : GoodIn wsX11_spell (wsV RX11 265 RX11 yX11_nobodyIsHere wsX11_nobodyIsHere) := goodIn_app (goodIn_of _ (by decide +kernel)) ggX11_spell_X11_nobodyIsHere
set_option maxRecDepth 20000 in
theorem ggX11_spell_X11_lowest : GoodIn wsX11_spell wsX11_lowest := goodIn_r _ [109, 28, 29, 7, 30] (by decide +kernel) (by decide +kernel)
set_option maxRecDepth 20000 in
theorem gX11_spell_X11_lowest : GoodIn wsX11_spell (va_wsS RX11 312 yX11_lowest wsX11_lowest) := goodIn_app (goodIn_of _ (by decide +kernel)) ggX11_spell_X11_lowest
set_option maxRecDepth 20000 in
theorem ggX11_spell_X11_loopOf : GoodIn wsX11_spell wsX11_loopOf := goodIn_r _ [84, 35, 36, 37, 38, 7, 39, 40, 41, 42, 43, 44, 45, 17, 27, 28, 29, 30, 46, 47, 48, 49, 50, 51, 52, 53, 54, 55, 56, 57, 114, 115, 116, 117, 118, 119, 120, 121, 122, 123, 124, 125, 126, 127, 128, 129, 130, 131, 132, 133, 134, 135, 136, 137, 138, 139, 140, 141, 142, 143, 144, 145, 146, 147, 148, 149, 150, 151, 152, 153, 154, 155, 156, 157, 158, 159, 160, 161, 162, 163] (by decide +kernel) (by decide +kernel)
set_option maxRecDepth 20000 in
theorem gX11_spell_X11_loopOf : GoodIn wsX11_spell (wsV RX11 288 RX11 yX11_loopOf wsX11_loopOf) := goodIn_app (goodIn_of _ (by decide +kernel)) ggX11_spell_X11_loopOf
set_option maxRecDepth 20000 in
theorem ggX11_spell_X11_pairNode : GoodIn wsX11_spell wsX11_pairNode := goodIn_r _ [48] (by decide +kernel) (by decide +kernel)
set_option maxRecDepth 20000 in
theorem gX11_spell_X11_pairNode : GoodIn wsX11_spell (va_wsS RX11 237 yX11_pairNode wsX11_pairNode) := goodIn_app (goodIn_of _ (by decide +kernel)) ggX11_spell_X11_pairNode
set_option maxRecDepth 20000 in
theorem ggX11_spell_X11_spells : GoodIn wsX11_spell wsX11_spells := goodIn_r _ [66, 67, 68, 3, 62, 69, 70, 71, 7, 72, 35, 73, 74, 75, 76, 27, 28, 29, 30, 77, 78, 79, 80, 114, 115, 116, 117, 118, 119, 120, 121, 122, 123, 124, 125, 126, 127, 128, 129, 130, 131, 132, 133, 134, 135, 136, 137, 138, 139, 140, 141, 142, 143, 144, 145, 146, 147, 148, 149, 150, 151, 152, 153, 154, 155, 156, 157, 158, 159, 160, 161, 162, 163] (by decide +kernel) (by decide +kernel)
set_option maxRecDepth 20000 in
theorem gX11_spell_X11_spells : GoodIn wsX11_spell (wsV RX11 268 RX11 yX11_spells wsX11_spells) := goodIn_app (goodIn_of _ (by decide +kernel)) ggX11_spell_X11_spells
set_option maxRecDepth 20000 in
theorem ggX11_spell_X11_firstSplit : GoodIn wsX11_spell wsX11_firstSplit := goodIn_r _ [113, 11, 114, 115, 116, 117, 118, 119, 120, 121, 122, 123, 124, 125, 126, 127, 128, 129, 130, 131, 132, 133, 134, 135, 136, 137, 138, 139, 140, 141, 142, 143, 144, 145, 146, 147, 148, 149, 150, 151, 152, 153, 154, 155, 156, 157, 158, 159, 160, 161, 162, 163] (by decide +kernel) (by decide +kernel)
set_option maxRecDepth 20000 in
theorem gX11_spell_X11_firstSplit : GoodIn wsX11_spell (wsV RX11 315 RX11 yX11_firstSplit wsX11_firstSplit) := goodIn_app (goodIn_of _ (by decide +kernel)) ggX11_spell_X11_firstSplit
set_option maxRecDepth 20000 in
theorem ggX11_spell_X11_splitOf : GoodIn wsX11_spell wsX11_splitOf := goodIn_r _ [88, 40, 53, 35, 45, 36, 37, 38, 7, 39, 41, 42, 43, 44, 17, 27, 28, 29, 30, 89, 90, 91, 49, 50, 51, 52, 114, 115, 116, 117, 118, 119, 120, 121, 122, 123, 124, 125, 126, 127, 128, 129, 130, 131, 132, 133, 134, 135, 136, 137, 138, 139, 140, 141, 142, 143, 144, 145, 146, 147, 148, 149, 150, 151, 152, 153, 154, 155, 156, 157, 158, 159, 160, 161, 162, 163] (by decide +kernel) (by decide +kernel)
set_option maxRecDepth 20000 in
theorem gX11_spell_X11_splitOf : GoodIn wsX11_spell (wsV RX11 291 RX11 yX11_splitOf wsX11_splitOf) := goodIn_app (goodIn_of _ (by decide +kernel)) ggX11_spell_X11_splitOf
set_option maxRecDepth 20000 in
theorem ggX11_spell_X11_triple : GoodIn wsX11_spell wsX11_triple := goodIn_r _ [91] (by decide +kernel) (by decide +kernel)
set_option maxRecDepth 20000 in
theorem gX11_spell_X11_triple : GoodIn wsX11_spell (va_wsS RX11 272 yX11_triple wsX11_triple) := goodIn_app (goodIn_of _ (by decide +kernel)) ggX11_spell_X11_triple
theorem dX11_spell_0 : decode cX11_spell 0 = .ok (.aload_n 0, 1) := by decide +kernel
theorem dX11_spell_1 : decode cX11_spell 1 = .ok (.invokevirtual 294, 3) := by decide +kernel
theorem dX11_spell_4 : decode cX11_spell 4 = .ok (.iload_n 1, 1) := by decide +kernel
theorem dX11_spell_5 : decode cX11_spell 5 = .ok (.ifCond .ne 8, 3) := by decide +kernel
theorem dX11_spell_8 : decode cX11_spell 8 = .ok (.aload_n 0, 1) := by decide +kernel
theorem dX11_spell_9 : decode cX11_spell 9 = .ok (.invokevirtual 276, 3) := by decide +kernel
theorem dX11_spell_12 : decode cX11_spell 12 = .ok (.ireturn, 1) := by decide +kernel
theorem dX11_spell_13 : decode cX11_spell 13 = .ok (.iload_n 1, 1) := by decide +kernel
theorem dX11_spell_14 : decode cX11_spell 14 = .ok (.iconst 3, 1) := by decide +kernel
theorem dX11_spell_15 : decode cX11_spell 15 = .ok (.if_icmp .ne 8, 3) := by decide +kernel
theorem dX11_spell_18 : decode cX11_spell 18 = .ok (.aload_n 0, 1) := by decide +kernel
theorem dX11_spell_19 : decode cX11_spell 19 = .ok (.invokevirtual 325, 3) := by decide +kernel
theorem dX11_spell_22 : decode cX11_spell 22 = .ok (.ireturn, 1) := by decide +kernel
theorem dX11_spell_23 : decode cX11_spell 23 = .ok (.iload_n 1, 1) := by decide +kernel
theorem dX11_spell_24 : decode cX11_spell 24 = .ok (.iconst 1, 1) := by decide +kernel
theorem dX11_spell_25 : decode cX11_spell 25 = .ok (.if_icmp .ne 13, 3) := by decide +kernel
theorem dX11_spell_28 : decode cX11_spell 28 = .ok (.aload_n 0, 1) := by decide +kernel
theorem dX11_spell_29 : decode cX11_spell 29 = .ok (.getfield 282, 3) := by decide +kernel
theorem dX11_spell_32 : decode cX11_spell 32 = .ok (.ifCond .ne 16, 3) := by decide +kernel
theorem dX11_spell_35 : decode cX11_spell 35 = .ok (.goto 10, 3) := by decide +kernel
theorem dX11_spell_38 : decode cX11_spell 38 = .ok (.aload_n 0, 1) := by decide +kernel
theorem dX11_spell_39 : decode cX11_spell 39 = .ok (.getfield 285, 3) := by decide +kernel
theorem dX11_spell_42 : decode cX11_spell 42 = .ok (.ifCond .ne 6, 3) := by decide +kernel
theorem dX11_spell_45 : decode cX11_spell 45 = .ok (.bipush (-4), 2) := by decide +kernel
theorem dX11_spell_47 : decode cX11_spell 47 = .ok (.ireturn, 1) := by decide +kernel
theorem dX11_spell_48 : decode cX11_spell 48 = .ok (.aload_n 0, 1) := by decide +kernel
theorem dX11_spell_49 : decode cX11_spell 49 = .ok (.invokevirtual 265, 3) := by decide +kernel
theorem dX11_spell_52 : decode cX11_spell 52 = .ok (.iload_n 1, 1) := by decide +kernel
theorem dX11_spell_53 : decode cX11_spell 53 = .ok (.iconst 1, 1) := by decide +kernel
theorem dX11_spell_54 : decode cX11_spell 54 = .ok (.if_icmp .ne 37, 3) := by decide +kernel
theorem dX11_spell_57 : decode cX11_spell 57 = .ok (.aload_n 0, 1) := by decide +kernel
theorem dX11_spell_58 : decode cX11_spell 58 = .ok (.getfield 282, 3) := by decide +kernel
theorem dX11_spell_61 : decode cX11_spell 61 = .ok (.invokestatic 312, 3) := by decide +kernel
theorem dX11_spell_64 : decode cX11_spell 64 = .ok (.istore_n 2, 1) := by decide +kernel
theorem dX11_spell_65 : decode cX11_spell 65 = .ok (.aload_n 0, 1) := by decide +kernel
theorem dX11_spell_66 : decode cX11_spell 66 = .ok (.iload_n 2, 1) := by decide +kernel
theorem dX11_spell_67 : decode cX11_spell 67 = .ok (.invokevirtual 288, 3) := by decide +kernel
theorem dX11_spell_70 : decode cX11_spell 70 = .ok (.istore_n 3, 1) := by decide +kernel
theorem dX11_spell_71 : decode cX11_spell 71 = .ok (.aload_n 0, 1) := by decide +kernel
theorem dX11_spell_72 : decode cX11_spell 72 = .ok (.getfield 54, 3) := by decide +kernel
theorem dX11_spell_75 : decode cX11_spell 75 = .ok (.iload_n 2, 1) := by decide +kernel
theorem dX11_spell_76 : decode cX11_spell 76 = .ok (.iload_n 2, 1) := by decide +kernel
theorem dX11_spell_77 : decode cX11_spell 77 = .ok (.iconst 0, 1) := by decide +kernel
theorem dX11_spell_78 : decode cX11_spell 78 = .ok (.invokestatic 237, 3) := by decide +kernel
theorem dX11_spell_81 : decode cX11_spell 81 = .ok (.iconst 1, 1) := by decide +kernel
theorem dX11_spell_82 : decode cX11_spell 82 = .ok (.bastore, 1) := by decide +kernel
theorem dX11_spell_83 : decode cX11_spell 83 = .ok (.aload_n 0, 1) := by decide +kernel
theorem dX11_spell_84 : decode cX11_spell 84 = .ok (.iload_n 3, 1) := by decide +kernel
theorem dX11_spell_85 : decode cX11_spell 85 = .ok (.iconst 0, 1) := by decide +kernel
theorem dX11_spell_86 : decode cX11_spell 86 = .ok (.invokevirtual 268, 3) := by decide +kernel
theorem dX11_spell_89 : decode cX11_spell 89 = .ok (.iload_n 3, 1) := by decide +kernel
theorem dX11_spell_90 : decode cX11_spell 90 = .ok (.ireturn, 1) := by decide +kernel
theorem dX11_spell_91 : decode cX11_spell 91 = .ok (.aload_n 0, 1) := by decide +kernel
theorem dX11_spell_92 : decode cX11_spell 92 = .ok (.invokevirtual 315, 3) := by decide +kernel
theorem dX11_spell_95 : decode cX11_spell 95 = .ok (.bipush 6, 2) := by decide +kernel
theorem dX11_spell_97 : decode cX11_spell 97 = .ok (.idiv, 1) := by decide +kernel
theorem dX11_spell_98 : decode cX11_spell 98 = .ok (.istore_n 2, 1) := by decide +kernel
theorem dX11_spell_99 : decode cX11_spell 99 = .ok (.aload_n 0, 1) := by decide +kernel
theorem dX11_spell_100 : decode cX11_spell 100 = .ok (.invokevirtual 315, 3) := by decide +kernel
theorem dX11_spell_103 : decode cX11_spell 103 = .ok (.bipush 6, 2) := by decide +kernel
theorem dX11_spell_105 : decode cX11_spell 105 = .ok (.irem, 1) := by decide +kernel
theorem dX11_spell_106 : decode cX11_spell 106 = .ok (.istore_n 3, 1) := by decide +kernel
theorem dX11_spell_107 : decode cX11_spell 107 = .ok (.aload_n 0, 1) := by decide +kernel
theorem dX11_spell_108 : decode cX11_spell 108 = .ok (.iload_n 2, 1) := by decide +kernel
theorem dX11_spell_109 : decode cX11_spell 109 = .ok (.iload_n 3, 1) := by decide +kernel
theorem dX11_spell_110 : decode cX11_spell 110 = .ok (.invokevirtual 291, 3) := by decide +kernel
theorem dX11_spell_113 : decode cX11_spell 113 = .ok (.istore 4, 2) := by decide +kernel
theorem dX11_spell_115 : decode cX11_spell 115 = .ok (.aload_n 0, 1) := by decide +kernel
theorem dX11_spell_116 : decode cX11_spell 116 = .ok (.getfield 54, 3) := by decide +kernel
theorem dX11_spell_119 : decode cX11_spell 119 = .ok (.iload_n 2, 1) := by decide +kernel
theorem dX11_spell_120 : decode cX11_spell 120 = .ok (.iload_n 2, 1) := by decide +kernel
theorem dX11_spell_121 : decode cX11_spell 121 = .ok (.iload_n 3, 1) := by decide +kernel
theorem dX11_spell_122 : decode cX11_spell 122 = .ok (.invokestatic 272, 3) := by decide +kernel
theorem dX11_spell_125 : decode cX11_spell 125 = .ok (.iconst 1, 1) := by decide +kernel
theorem dX11_spell_126 : decode cX11_spell 126 = .ok (.bastore, 1) := by decide +kernel
theorem dX11_spell_127 : decode cX11_spell 127 = .ok (.aload_n 0, 1) := by decide +kernel
theorem dX11_spell_128 : decode cX11_spell 128 = .ok (.iload 4, 2) := by decide +kernel
theorem dX11_spell_130 : decode cX11_spell 130 = .ok (.iconst 1, 1) := by decide +kernel
theorem dX11_spell_131 : decode cX11_spell 131 = .ok (.invokevirtual 268, 3) := by decide +kernel
theorem dX11_spell_134 : decode cX11_spell 134 = .ok (.iload 4, 2) := by decide +kernel
theorem dX11_spell_136 : decode cX11_spell 136 = .ok (.ireturn, 1) := by decide +kernel
set_option maxRecDepth 20000 in
theorem ggX11_witnessLength_X11_isBetween : GoodIn wsX11_witnessLength wsX11_isBetween := goodIn_r _ [5] (by decide +kernel) (by decide +kernel)
set_option maxRecDepth 20000 in
theorem gX11_witnessLength_X11_isBetween : GoodIn wsX11_witnessLength (va_wsS RX11 124 yX11_isBetween wsX11_isBetween) := goodIn_app (goodIn_of _ (by decide +kernel)) ggX11_witnessLength_X11_isBetween
set_option maxRecDepth 20000 in
theorem ggX11_witnessLength_X11_spell : GoodIn wsX11_witnessLength wsX11_spell := goodIn_r _ [9, 10, 11, 12, 13, 14, 15, 4, 16, 17, 18, 19, 20, 21, 22, 23, 24, 25, 26, 27, 28, 29, 30, 31, 32, 33, 34, 35, 36, 37, 38, 39, 40, 41, 42, 43, 44, 45, 46, 47, 48, 49, 50, 51, 52, 53, 54, 55, 56, 57, 58, 59, 60, 61, 62, 63, 64, 65, 66, 67, 68, 69, 70, 71, 72, 73, 74, 75, 76, 77, 78, 79, 80, 81, 82, 83, 84, 85, 86, 87, 88, 89, 90, 91, 92, 93, 94, 95, 96, 97, 98, 99, 100, 101, 102, 103, 104, 105, 106, 107, 108, 109, 110, 111, 112, 113, 114, 115, 116, 117, 118, 119, 120, 121, 122, 123, 124, 125, 126, 127, 128, 129, 130, 131, 132, 133, 134, 135, 136, 137, 138, 139, 140, 141, 142, 143, 144, 145, 146, 147, 148, 149, 150, 151, 152, 153, 154, 155, 156, 157, 158, 159, 160, 161, 162, 163, 164, 165, 166, 167, 168, 169, 170, 171] (by decide +kernel) (by decide +kernel)
set_option maxRecDepth 20000 in
theorem gX11_witnessLength_X11_spell : GoodIn wsX11_witnessLength (wsV RX11 330 RX11 yX11_spell wsX11_spell) := goodIn_app (goodIn_of _ (by decide +kernel)) ggX11_witnessLength_X11_spell
theorem dX11_witnessLength_0 : decode cX11_witnessLength 0 = .ok (.iload_n 1, 1) := by decide +kernel
theorem dX11_witnessLength_1 : decode cX11_witnessLength 1 = .ok (.i2l, 1) := by decide +kernel
theorem dX11_witnessLength_2 : decode cX11_witnessLength 2 = .ok (.lconst 0, 1) := by decide +kernel
theorem dX11_witnessLength_3 : decode cX11_witnessLength 3 = .ok (.ldc2_w 328, 3) := by decide +kernel
theorem dX11_witnessLength_6 : decode cX11_witnessLength 6 = .ok (.invokestatic 124, 3) := by decide +kernel
theorem dX11_witnessLength_9 : decode cX11_witnessLength 9 = .ok (.ifCond .eq 11, 3) := by decide +kernel
theorem dX11_witnessLength_12 : decode cX11_witnessLength 12 = .ok (.aload_n 0, 1) := by decide +kernel
theorem dX11_witnessLength_13 : decode cX11_witnessLength 13 = .ok (.iload_n 1, 1) := by decide +kernel
theorem dX11_witnessLength_14 : decode cX11_witnessLength 14 = .ok (.invokevirtual 330, 3) := by decide +kernel
theorem dX11_witnessLength_17 : decode cX11_witnessLength 17 = .ok (.goto 4, 3) := by decide +kernel
theorem dX11_witnessLength_20 : decode cX11_witnessLength 20 = .ok (.iconst (-1), 1) := by decide +kernel
theorem dX11_witnessLength_21 : decode cX11_witnessLength 21 = .ok (.ireturn, 1) := by decide +kernel
set_option maxRecDepth 20000 in
theorem ggX11_witnessLetter_X11_isBetween : GoodIn wsX11_witnessLetter wsX11_isBetween := goodIn_r _ [6] (by decide +kernel) (by decide +kernel)
set_option maxRecDepth 20000 in
theorem gX11_witnessLetter_X11_isBetween : GoodIn wsX11_witnessLetter (va_wsS RX11 124 yX11_isBetween wsX11_isBetween) := goodIn_app (goodIn_of _ (by decide +kernel)) ggX11_witnessLetter_X11_isBetween
set_option maxRecDepth 20000 in
theorem ggX11_witnessLetter_X11_spell : GoodIn wsX11_witnessLetter wsX11_spell := goodIn_r _ [10, 11, 12, 13, 14, 15, 16, 5, 17, 18, 19, 20, 21, 22, 23, 24, 25, 26, 27, 28, 29, 30, 31, 32, 33, 34, 35, 36, 37, 38, 39, 40, 41, 42, 43, 44, 45, 46, 47, 48, 49, 50, 51, 52, 53, 54, 55, 56, 57, 58, 59, 60, 61, 62, 63, 64, 65, 66, 67, 68, 69, 70, 71, 72, 73, 74, 75, 76, 2, 77, 78, 79, 80, 81, 82, 83, 84, 85, 86, 87, 88, 89, 90, 91, 92, 93, 94, 95, 96, 97, 98, 99, 100, 101, 102, 103, 104, 105, 106, 107, 108, 109, 110, 111, 112, 113, 114, 115, 116, 117, 118, 119, 120, 121, 122, 123, 124, 125, 126, 127, 128, 129, 130, 131, 132, 133, 134, 135, 136, 137, 138, 139, 140, 141, 142, 143, 144, 145, 146, 147, 148, 149, 150, 151, 152, 153, 154, 155, 156, 157, 158, 159, 160, 161, 162, 163, 164, 165, 166, 167, 168, 169, 170, 171] (by decide +kernel) (by decide +kernel)
set_option maxRecDepth 20000 in
theorem gX11_witnessLetter_X11_spell : GoodIn wsX11_witnessLetter (wsV RX11 330 RX11 yX11_spell wsX11_spell) := goodIn_app (goodIn_of _ (by decide +kernel)) ggX11_witnessLetter_X11_spell
theorem dX11_witnessLetter_0 : decode cX11_witnessLetter 0 = .ok (.iload_n 1, 1) := by decide +kernel
theorem dX11_witnessLetter_1 : decode cX11_witnessLetter 1 = .ok (.i2l, 1) := by decide +kernel
theorem dX11_witnessLetter_2 : decode cX11_witnessLetter 2 = .ok (.lconst 0, 1) := by decide +kernel
theorem dX11_witnessLetter_3 : decode cX11_witnessLetter 3 = .ok (.ldc2_w 328, 3) := by decide +kernel
theorem dX11_witnessLetter_6 : decode cX11_witnessLetter 6 = .ok (.invokestatic 124, 3) := by decide +kernel
theorem dX11_witnessLetter_9 : decode cX11_witnessLetter 9 = .ok (.ifCond .ne 5, 3) := by decide +kernel
theorem dX11_witnessLetter_12 : decode cX11_witnessLetter 12 = .ok (.iconst (-1), 1) := by decide +kernel
theorem dX11_witnessLetter_13 : decode cX11_witnessLetter 13 = .ok (.ireturn, 1) := by decide +kernel
theorem dX11_witnessLetter_14 : decode cX11_witnessLetter 14 = .ok (.aload_n 0, 1) := by decide +kernel
theorem dX11_witnessLetter_15 : decode cX11_witnessLetter 15 = .ok (.iload_n 1, 1) := by decide +kernel
theorem dX11_witnessLetter_16 : decode cX11_witnessLetter 16 = .ok (.invokevirtual 330, 3) := by decide +kernel
theorem dX11_witnessLetter_19 : decode cX11_witnessLetter 19 = .ok (.istore_n 3, 1) := by decide +kernel
theorem dX11_witnessLetter_20 : decode cX11_witnessLetter 20 = .ok (.iload_n 2, 1) := by decide +kernel
theorem dX11_witnessLetter_21 : decode cX11_witnessLetter 21 = .ok (.i2l, 1) := by decide +kernel
theorem dX11_witnessLetter_22 : decode cX11_witnessLetter 22 = .ok (.lconst 0, 1) := by decide +kernel
theorem dX11_witnessLetter_23 : decode cX11_witnessLetter 23 = .ok (.iload_n 3, 1) := by decide +kernel
theorem dX11_witnessLetter_24 : decode cX11_witnessLetter 24 = .ok (.iconst 1, 1) := by decide +kernel
theorem dX11_witnessLetter_25 : decode cX11_witnessLetter 25 = .ok (.isub, 1) := by decide +kernel
theorem dX11_witnessLetter_26 : decode cX11_witnessLetter 26 = .ok (.i2l, 1) := by decide +kernel
theorem dX11_witnessLetter_27 : decode cX11_witnessLetter 27 = .ok (.invokestatic 124, 3) := by decide +kernel
theorem dX11_witnessLetter_30 : decode cX11_witnessLetter 30 = .ok (.ifCond .eq 12, 3) := by decide +kernel
theorem dX11_witnessLetter_33 : decode cX11_witnessLetter 33 = .ok (.aload_n 0, 1) := by decide +kernel
theorem dX11_witnessLetter_34 : decode cX11_witnessLetter 34 = .ok (.getfield 51, 3) := by decide +kernel
theorem dX11_witnessLetter_37 : decode cX11_witnessLetter 37 = .ok (.iload_n 2, 1) := by decide +kernel
theorem dX11_witnessLetter_38 : decode cX11_witnessLetter 38 = .ok (.iaload, 1) := by decide +kernel
theorem dX11_witnessLetter_39 : decode cX11_witnessLetter 39 = .ok (.goto 5, 3) := by decide +kernel
theorem dX11_witnessLetter_42 : decode cX11_witnessLetter 42 = .ok (.bipush (-4), 2) := by decide +kernel
theorem dX11_witnessLetter_44 : decode cX11_witnessLetter 44 = .ok (.ireturn, 1) := by decide +kernel
set_option maxRecDepth 20000 in
theorem ggX11_takeWitness_X11_isBetween : GoodIn wsX11_takeWitness wsX11_isBetween := goodIn_r _ [8] (by decide +kernel) (by decide +kernel)
set_option maxRecDepth 20000 in
theorem gX11_takeWitness_X11_isBetween : GoodIn wsX11_takeWitness (va_wsS RX11 124 yX11_isBetween wsX11_isBetween) := goodIn_app (goodIn_of _ (by decide +kernel)) ggX11_takeWitness_X11_isBetween
set_option maxRecDepth 20000 in
theorem ggX11_takeWitness_X11_spell : GoodIn wsX11_takeWitness wsX11_spell := goodIn_r _ [12, 13, 14, 15, 16, 17, 18, 7, 19, 20, 21, 22, 23, 24, 25, 26, 27, 28, 29, 30, 31, 32, 33, 34, 35, 36, 37, 38, 39, 40, 41, 42, 43, 44, 45, 46, 47, 48, 49, 50, 51, 52, 53, 54, 55, 56, 57, 58, 59, 60, 61, 62, 63, 64, 65, 66, 67, 68, 69, 70, 71, 72, 73, 74, 75, 76, 77, 78, 4, 79, 80, 81, 82, 83, 84, 85, 86, 87, 88, 89, 90, 91, 92, 93, 94, 95, 96, 97, 98, 99, 100, 101, 102, 103, 104, 105, 106, 107, 108, 109, 110, 111, 112, 113, 114, 115, 116, 117, 118, 119, 120, 121, 122, 123, 124, 125, 126, 127, 128, 129, 130, 131, 132, 133, 134, 135, 136, 137, 138, 139, 140, 141, 142, 143, 144, 145, 146, 147, 148, 149, 150, 151, 152, 153, 154, 155, 156, 157, 158, 159, 160, 161, 162, 163, 164, 165, 166, 167, 168, 169, 170, 171, 172, 173] (by decide +kernel) (by decide +kernel)
set_option maxRecDepth 20000 in
theorem gX11_takeWitness_X11_spell : GoodIn wsX11_takeWitness (wsV RX11 330 RX11 yX11_spell wsX11_spell) := goodIn_app (goodIn_of _ (by decide +kernel)) ggX11_takeWitness_X11_spell
theorem dX11_takeWitness_0 : decode cX11_takeWitness 0 = .ok (.iload_n 1, 1) := by decide +kernel
theorem dX11_takeWitness_1 : decode cX11_takeWitness 1 = .ok (.i2l, 1) := by decide +kernel
theorem dX11_takeWitness_2 : decode cX11_takeWitness 2 = .ok (.lconst 0, 1) := by decide +kernel
theorem dX11_takeWitness_3 : decode cX11_takeWitness 3 = .ok (.ldc2_w 328, 3) := by decide +kernel
theorem dX11_takeWitness_6 : decode cX11_takeWitness 6 = .ok (.invokestatic 124, 3) := by decide +kernel
theorem dX11_takeWitness_9 : decode cX11_takeWitness 9 = .ok (.ifCond .ne 5, 3) := by decide +kernel
theorem dX11_takeWitness_12 : decode cX11_takeWitness 12 = .ok (.iconst (-1), 1) := by decide +kernel
theorem dX11_takeWitness_13 : decode cX11_takeWitness 13 = .ok (.ireturn, 1) := by decide +kernel
theorem dX11_takeWitness_14 : decode cX11_takeWitness 14 = .ok (.aload_n 0, 1) := by decide +kernel
theorem dX11_takeWitness_15 : decode cX11_takeWitness 15 = .ok (.iload_n 1, 1) := by decide +kernel
theorem dX11_takeWitness_16 : decode cX11_takeWitness 16 = .ok (.invokevirtual 330, 3) := by decide +kernel
theorem dX11_takeWitness_19 : decode cX11_takeWitness 19 = .ok (.istore_n 2, 1) := by decide +kernel
theorem dX11_takeWitness_20 : decode cX11_takeWitness 20 = .ok (.iload_n 2, 1) := by decide +kernel
theorem dX11_takeWitness_21 : decode cX11_takeWitness 21 = .ok (.ifCond .ge 6, 3) := by decide +kernel
theorem dX11_takeWitness_24 : decode cX11_takeWitness 24 = .ok (.bipush (-4), 2) := by decide +kernel
theorem dX11_takeWitness_26 : decode cX11_takeWitness 26 = .ok (.ireturn, 1) := by decide +kernel
theorem dX11_takeWitness_27 : decode cX11_takeWitness 27 = .ok (.iload_n 2, 1) := by decide +kernel
theorem dX11_takeWitness_28 : decode cX11_takeWitness 28 = .ok (.bipush 20, 2) := by decide +kernel
theorem dX11_takeWitness_30 : decode cX11_takeWitness 30 = .ok (.if_icmp .le 6, 3) := by decide +kernel
theorem dX11_takeWitness_33 : decode cX11_takeWitness 33 = .ok (.bipush (-3), 2) := by decide +kernel
theorem dX11_takeWitness_35 : decode cX11_takeWitness 35 = .ok (.ireturn, 1) := by decide +kernel
theorem dX11_takeWitness_36 : decode cX11_takeWitness 36 = .ok (.aload_n 0, 1) := by decide +kernel
theorem dX11_takeWitness_37 : decode cX11_takeWitness 37 = .ok (.iload_n 2, 1) := by decide +kernel
theorem dX11_takeWitness_38 : decode cX11_takeWitness 38 = .ok (.putfield 197, 3) := by decide +kernel
theorem dX11_takeWitness_41 : decode cX11_takeWitness 41 = .ok (.iconst 0, 1) := by decide +kernel
theorem dX11_takeWitness_42 : decode cX11_takeWitness 42 = .ok (.istore_n 3, 1) := by decide +kernel
theorem dX11_takeWitness_43 : decode cX11_takeWitness 43 = .ok (.iload_n 3, 1) := by decide +kernel
theorem dX11_takeWitness_44 : decode cX11_takeWitness 44 = .ok (.iload_n 2, 1) := by decide +kernel
theorem dX11_takeWitness_45 : decode cX11_takeWitness 45 = .ok (.if_icmp .ge 21, 3) := by decide +kernel
theorem dX11_takeWitness_48 : decode cX11_takeWitness 48 = .ok (.aload_n 0, 1) := by decide +kernel
theorem dX11_takeWitness_49 : decode cX11_takeWitness 49 = .ok (.getfield 35, 3) := by decide +kernel
theorem dX11_takeWitness_52 : decode cX11_takeWitness 52 = .ok (.iload_n 3, 1) := by decide +kernel
theorem dX11_takeWitness_53 : decode cX11_takeWitness 53 = .ok (.aload_n 0, 1) := by decide +kernel
theorem dX11_takeWitness_54 : decode cX11_takeWitness 54 = .ok (.getfield 51, 3) := by decide +kernel
theorem dX11_takeWitness_57 : decode cX11_takeWitness 57 = .ok (.iload_n 3, 1) := by decide +kernel
theorem dX11_takeWitness_58 : decode cX11_takeWitness 58 = .ok (.iaload, 1) := by decide +kernel
theorem dX11_takeWitness_59 : decode cX11_takeWitness 59 = .ok (.iastore, 1) := by decide +kernel
theorem dX11_takeWitness_60 : decode cX11_takeWitness 60 = .ok (.iinc 3 1, 3) := by decide +kernel
theorem dX11_takeWitness_63 : decode cX11_takeWitness 63 = .ok (.goto (-20), 3) := by decide +kernel
theorem dX11_takeWitness_66 : decode cX11_takeWitness 66 = .ok (.iload_n 2, 1) := by decide +kernel
theorem dX11_takeWitness_67 : decode cX11_takeWitness 67 = .ok (.ireturn, 1) := by decide +kernel
set_option maxRecDepth 20000 in
theorem ggX11_setWeight_X11_isLetter : GoodIn wsX11_setWeight wsX11_isLetter := goodIn_r _ [6] (by decide +kernel) (by decide +kernel)
set_option maxRecDepth 20000 in
theorem gX11_setWeight_X11_isLetter : GoodIn wsX11_setWeight (va_wsS RX11 136 yX11_isLetter wsX11_isLetter) := goodIn_app (goodIn_of _ (by decide +kernel)) ggX11_setWeight_X11_isLetter
set_option maxRecDepth 20000 in
theorem ggX11_setWeight_X11_isBetween : GoodIn wsX11_setWeight wsX11_isBetween := goodIn_r _ [9] (by decide +kernel) (by decide +kernel)
set_option maxRecDepth 20000 in
theorem gX11_setWeight_X11_isBetween : GoodIn wsX11_setWeight (va_wsS RX11 124 yX11_isBetween wsX11_isBetween) := goodIn_app (goodIn_of _ (by decide +kernel)) ggX11_setWeight_X11_isBetween
theorem dX11_setWeight_0 : decode cX11_setWeight 0 = .ok (.iload_n 1, 1) := by decide +kernel
theorem dX11_setWeight_1 : decode cX11_setWeight 1 = .ok (.invokestatic 136, 3) := by decide +kernel
theorem dX11_setWeight_4 : decode cX11_setWeight 4 = .ok (.ifCond .ne 5, 3) := by decide +kernel
theorem dX11_setWeight_7 : decode cX11_setWeight 7 = .ok (.iconst (-1), 1) := by decide +kernel
theorem dX11_setWeight_8 : decode cX11_setWeight 8 = .ok (.ireturn, 1) := by decide +kernel
theorem dX11_setWeight_9 : decode cX11_setWeight 9 = .ok (.iload_n 2, 1) := by decide +kernel
theorem dX11_setWeight_10 : decode cX11_setWeight 10 = .ok (.i2l, 1) := by decide +kernel
theorem dX11_setWeight_11 : decode cX11_setWeight 11 = .ok (.lconst 0, 1) := by decide +kernel
theorem dX11_setWeight_12 : decode cX11_setWeight 12 = .ok (.ldc2_w 333, 3) := by decide +kernel
theorem dX11_setWeight_15 : decode cX11_setWeight 15 = .ok (.invokestatic 124, 3) := by decide +kernel
theorem dX11_setWeight_18 : decode cX11_setWeight 18 = .ok (.ifCond .ne 6, 3) := by decide +kernel
theorem dX11_setWeight_21 : decode cX11_setWeight 21 = .ok (.bipush (-2), 2) := by decide +kernel
theorem dX11_setWeight_23 : decode cX11_setWeight 23 = .ok (.ireturn, 1) := by decide +kernel
theorem dX11_setWeight_24 : decode cX11_setWeight 24 = .ok (.aload_n 0, 1) := by decide +kernel
theorem dX11_setWeight_25 : decode cX11_setWeight 25 = .ok (.getfield 16, 3) := by decide +kernel
theorem dX11_setWeight_28 : decode cX11_setWeight 28 = .ok (.iload_n 1, 1) := by decide +kernel
theorem dX11_setWeight_29 : decode cX11_setWeight 29 = .ok (.iaload, 1) := by decide +kernel
theorem dX11_setWeight_30 : decode cX11_setWeight 30 = .ok (.istore_n 3, 1) := by decide +kernel
theorem dX11_setWeight_31 : decode cX11_setWeight 31 = .ok (.aload_n 0, 1) := by decide +kernel
theorem dX11_setWeight_32 : decode cX11_setWeight 32 = .ok (.getfield 16, 3) := by decide +kernel
theorem dX11_setWeight_35 : decode cX11_setWeight 35 = .ok (.iload_n 1, 1) := by decide +kernel
theorem dX11_setWeight_36 : decode cX11_setWeight 36 = .ok (.iload_n 2, 1) := by decide +kernel
theorem dX11_setWeight_37 : decode cX11_setWeight 37 = .ok (.iastore, 1) := by decide +kernel
theorem dX11_setWeight_38 : decode cX11_setWeight 38 = .ok (.iload_n 3, 1) := by decide +kernel
theorem dX11_setWeight_39 : decode cX11_setWeight 39 = .ok (.ireturn, 1) := by decide +kernel
set_option maxRecDepth 20000 in
theorem ggX11_lightestWeight_X11_findLightest : GoodIn wsX11_lightestWeight wsX11_findLightest := goodIn_r _ [6, 7, 8, 1, 9, 10, 11, 12, 13, 14, 5, 15, 16, 17, 18, 19, 20, 21, 22, 23, 24, 25, 26, 27, 28, 29, 30, 31, 32, 33, 34, 35, 36, 37, 38, 39, 40, 41, 42, 43, 44, 45, 46, 47, 48, 49, 50, 51, 52, 53, 54, 55, 56, 57, 58, 59, 60, 61, 62, 63, 64, 65] (by decide +kernel) (by decide +kernel)
set_option maxRecDepth 20000 in
theorem gX11_lightestWeight_X11_findLightest : GoodIn wsX11_lightestWeight (wsV RX11 319 RX11 yX11_findLightest wsX11_findLightest) := goodIn_app (goodIn_of _ (by decide +kernel)) ggX11_lightestWeight_X11_findLightest
theorem dX11_lightestWeight_0 : decode cX11_lightestWeight 0 = .ok (.aload_n 0, 1) := by decide +kernel
theorem dX11_lightestWeight_1 : decode cX11_lightestWeight 1 = .ok (.invokevirtual 319, 3) := by decide +kernel
theorem dX11_lightestWeight_4 : decode cX11_lightestWeight 4 = .ok (.istore_n 1, 1) := by decide +kernel
theorem dX11_lightestWeight_5 : decode cX11_lightestWeight 5 = .ok (.iload_n 1, 1) := by decide +kernel
theorem dX11_lightestWeight_6 : decode cX11_lightestWeight 6 = .ok (.ldc_w 318, 3) := by decide +kernel
theorem dX11_lightestWeight_9 : decode cX11_lightestWeight 9 = .ok (.if_icmp .ne 8, 3) := by decide +kernel
theorem dX11_lightestWeight_12 : decode cX11_lightestWeight 12 = .ok (.bipush (-4), 2) := by decide +kernel
theorem dX11_lightestWeight_14 : decode cX11_lightestWeight 14 = .ok (.goto 7, 3) := by decide +kernel
theorem dX11_lightestWeight_17 : decode cX11_lightestWeight 17 = .ok (.iload_n 1, 1) := by decide +kernel
theorem dX11_lightestWeight_18 : decode cX11_lightestWeight 18 = .ok (.bipush 16, 2) := by decide +kernel
theorem dX11_lightestWeight_20 : decode cX11_lightestWeight 20 = .ok (.idiv, 1) := by decide +kernel
theorem dX11_lightestWeight_21 : decode cX11_lightestWeight 21 = .ok (.ireturn, 1) := by decide +kernel
theorem dX11_numberOfState_0 : decode cX11_numberOfState 0 = .ok (.iconst 0, 1) := by decide +kernel
theorem dX11_numberOfState_1 : decode cX11_numberOfState 1 = .ok (.istore_n 3, 1) := by decide +kernel
theorem dX11_numberOfState_2 : decode cX11_numberOfState 2 = .ok (.iload_n 3, 1) := by decide +kernel
theorem dX11_numberOfState_3 : decode cX11_numberOfState 3 = .ok (.aload_n 0, 1) := by decide +kernel
theorem dX11_numberOfState_4 : decode cX11_numberOfState 4 = .ok (.getfield 335, 3) := by decide +kernel
theorem dX11_numberOfState_7 : decode cX11_numberOfState 7 = .ok (.if_icmp .ge 31, 3) := by decide +kernel
theorem dX11_numberOfState_10 : decode cX11_numberOfState 10 = .ok (.aload_n 0, 1) := by decide +kernel
theorem dX11_numberOfState_11 : decode cX11_numberOfState 11 = .ok (.getfield 82, 3) := by decide +kernel
theorem dX11_numberOfState_14 : decode cX11_numberOfState 14 = .ok (.iload_n 3, 1) := by decide +kernel
theorem dX11_numberOfState_15 : decode cX11_numberOfState 15 = .ok (.iaload, 1) := by decide +kernel
theorem dX11_numberOfState_16 : decode cX11_numberOfState 16 = .ok (.iload_n 1, 1) := by decide +kernel
theorem dX11_numberOfState_17 : decode cX11_numberOfState 17 = .ok (.if_icmp .ne 15, 3) := by decide +kernel
theorem dX11_numberOfState_20 : decode cX11_numberOfState 20 = .ok (.aload_n 0, 1) := by decide +kernel
theorem dX11_numberOfState_21 : decode cX11_numberOfState 21 = .ok (.getfield 85, 3) := by decide +kernel
theorem dX11_numberOfState_24 : decode cX11_numberOfState 24 = .ok (.iload_n 3, 1) := by decide +kernel
theorem dX11_numberOfState_25 : decode cX11_numberOfState 25 = .ok (.iaload, 1) := by decide +kernel
theorem dX11_numberOfState_26 : decode cX11_numberOfState 26 = .ok (.iload_n 2, 1) := by decide +kernel
theorem dX11_numberOfState_27 : decode cX11_numberOfState 27 = .ok (.if_icmp .ne 5, 3) := by decide +kernel
theorem dX11_numberOfState_30 : decode cX11_numberOfState 30 = .ok (.iload_n 3, 1) := by decide +kernel
theorem dX11_numberOfState_31 : decode cX11_numberOfState 31 = .ok (.ireturn, 1) := by decide +kernel
theorem dX11_numberOfState_32 : decode cX11_numberOfState 32 = .ok (.iinc 3 1, 3) := by decide +kernel
theorem dX11_numberOfState_35 : decode cX11_numberOfState 35 = .ok (.goto (-33), 3) := by decide +kernel
theorem dX11_numberOfState_38 : decode cX11_numberOfState 38 = .ok (.aload_n 0, 1) := by decide +kernel
theorem dX11_numberOfState_39 : decode cX11_numberOfState 39 = .ok (.getfield 335, 3) := by decide +kernel
theorem dX11_numberOfState_42 : decode cX11_numberOfState 42 = .ok (.bipush 64, 2) := by decide +kernel
theorem dX11_numberOfState_44 : decode cX11_numberOfState 44 = .ok (.if_icmp .ne 5, 3) := by decide +kernel
theorem dX11_numberOfState_47 : decode cX11_numberOfState 47 = .ok (.iconst (-1), 1) := by decide +kernel
theorem dX11_numberOfState_48 : decode cX11_numberOfState 48 = .ok (.ireturn, 1) := by decide +kernel
theorem dX11_numberOfState_49 : decode cX11_numberOfState 49 = .ok (.aload_n 0, 1) := by decide +kernel
theorem dX11_numberOfState_50 : decode cX11_numberOfState 50 = .ok (.getfield 82, 3) := by decide +kernel
theorem dX11_numberOfState_53 : decode cX11_numberOfState 53 = .ok (.aload_n 0, 1) := by decide +kernel
theorem dX11_numberOfState_54 : decode cX11_numberOfState 54 = .ok (.getfield 335, 3) := by decide +kernel
theorem dX11_numberOfState_57 : decode cX11_numberOfState 57 = .ok (.iload_n 1, 1) := by decide +kernel
theorem dX11_numberOfState_58 : decode cX11_numberOfState 58 = .ok (.iastore, 1) := by decide +kernel
theorem dX11_numberOfState_59 : decode cX11_numberOfState 59 = .ok (.aload_n 0, 1) := by decide +kernel
theorem dX11_numberOfState_60 : decode cX11_numberOfState 60 = .ok (.getfield 85, 3) := by decide +kernel
theorem dX11_numberOfState_63 : decode cX11_numberOfState 63 = .ok (.aload_n 0, 1) := by decide +kernel
theorem dX11_numberOfState_64 : decode cX11_numberOfState 64 = .ok (.getfield 335, 3) := by decide +kernel
theorem dX11_numberOfState_67 : decode cX11_numberOfState 67 = .ok (.iload_n 2, 1) := by decide +kernel
theorem dX11_numberOfState_68 : decode cX11_numberOfState 68 = .ok (.iastore, 1) := by decide +kernel
theorem dX11_numberOfState_69 : decode cX11_numberOfState 69 = .ok (.aload_n 0, 1) := by decide +kernel
theorem dX11_numberOfState_70 : decode cX11_numberOfState 70 = .ok (.dup, 1) := by decide +kernel
theorem dX11_numberOfState_71 : decode cX11_numberOfState 71 = .ok (.getfield 335, 3) := by decide +kernel
theorem dX11_numberOfState_74 : decode cX11_numberOfState 74 = .ok (.iconst 1, 1) := by decide +kernel
theorem dX11_numberOfState_75 : decode cX11_numberOfState 75 = .ok (.iadd, 1) := by decide +kernel
theorem dX11_numberOfState_76 : decode cX11_numberOfState 76 = .ok (.putfield 335, 3) := by decide +kernel
theorem dX11_numberOfState_79 : decode cX11_numberOfState 79 = .ok (.aload_n 0, 1) := by decide +kernel
theorem dX11_numberOfState_80 : decode cX11_numberOfState 80 = .ok (.getfield 335, 3) := by decide +kernel
theorem dX11_numberOfState_83 : decode cX11_numberOfState 83 = .ok (.iconst 1, 1) := by decide +kernel
theorem dX11_numberOfState_84 : decode cX11_numberOfState 84 = .ok (.isub, 1) := by decide +kernel
theorem dX11_numberOfState_85 : decode cX11_numberOfState 85 = .ok (.ireturn, 1) := by decide +kernel
set_option maxRecDepth 20000 in
theorem ggX11_buildsSets_X11_numberOfState : GoodIn wsX11_buildsSets wsX11_numberOfState := goodIn_r _ [9, 2, 10, 3, 20, 21, 22, 23, 24, 25, 26, 27, 28, 29, 30, 31, 32, 33, 34, 35, 36, 37, 38, 39, 40, 41, 42, 43, 44, 45, 46, 47, 48, 49, 50, 51, 52, 53, 54, 55, 56, 57, 58, 59, 60, 61, 62, 63, 64, 65, 66, 67, 68, 69] (by decide +kernel) (by decide +kernel)
set_option maxRecDepth 20000 in
theorem gX11_buildsSets_X11_numberOfState : GoodIn wsX11_buildsSets (wsV RX11 338 RX11 yX11_numberOfState wsX11_numberOfState) := goodIn_app (goodIn_of _ (by decide +kernel)) ggX11_buildsSets_X11_numberOfState
set_option maxRecDepth 20000 in
theorem ggX11_buildsSets_X11_step : GoodIn wsX11_buildsSets wsX11_step := goodIn_r _ [14, 15, 16, 17, 18, 8, 19, 20, 21, 22, 23, 24, 25, 26, 27, 28, 29, 30, 31, 32, 33, 34, 35, 36, 37, 38, 39, 40, 41, 42, 43, 44, 45, 46, 47, 48, 49, 50, 51, 52, 53, 54, 55, 56, 57, 58, 59, 60, 61, 62, 63, 64, 65, 66, 67, 68, 69] (by decide +kernel) (by decide +kernel)
set_option maxRecDepth 20000 in
theorem gX11_buildsSets_X11_step : GoodIn wsX11_buildsSets (wsV RX11 143 RX11 yX11_step wsX11_step) := goodIn_app (goodIn_of _ (by decide +kernel)) ggX11_buildsSets_X11_step
theorem dX11_buildsSets_0 : decode cX11_buildsSets 0 = .ok (.aload_n 0, 1) := by decide +kernel
theorem dX11_buildsSets_1 : decode cX11_buildsSets 1 = .ok (.getfield 112, 3) := by decide +kernel
theorem dX11_buildsSets_4 : decode cX11_buildsSets 4 = .ok (.ifCond .eq 13, 3) := by decide +kernel
theorem dX11_buildsSets_7 : decode cX11_buildsSets 7 = .ok (.aload_n 0, 1) := by decide +kernel
theorem dX11_buildsSets_8 : decode cX11_buildsSets 8 = .ok (.iconst 0, 1) := by decide +kernel
theorem dX11_buildsSets_9 : decode cX11_buildsSets 9 = .ok (.aload_n 0, 1) := by decide +kernel
theorem dX11_buildsSets_10 : decode cX11_buildsSets 10 = .ok (.getfield 112, 3) := by decide +kernel
theorem dX11_buildsSets_13 : decode cX11_buildsSets 13 = .ok (.invokevirtual 338, 3) := by decide +kernel
theorem dX11_buildsSets_16 : decode cX11_buildsSets 16 = .ok (.pop, 1) := by decide +kernel
theorem dX11_buildsSets_17 : decode cX11_buildsSets 17 = .ok (.iconst 0, 1) := by decide +kernel
theorem dX11_buildsSets_18 : decode cX11_buildsSets 18 = .ok (.istore_n 1, 1) := by decide +kernel
theorem dX11_buildsSets_19 : decode cX11_buildsSets 19 = .ok (.iload_n 1, 1) := by decide +kernel
theorem dX11_buildsSets_20 : decode cX11_buildsSets 20 = .ok (.aload_n 0, 1) := by decide +kernel
theorem dX11_buildsSets_21 : decode cX11_buildsSets 21 = .ok (.getfield 335, 3) := by decide +kernel
theorem dX11_buildsSets_24 : decode cX11_buildsSets 24 = .ok (.if_icmp .ge 60, 3) := by decide +kernel
theorem dX11_buildsSets_27 : decode cX11_buildsSets 27 = .ok (.iconst 0, 1) := by decide +kernel
theorem dX11_buildsSets_28 : decode cX11_buildsSets 28 = .ok (.istore_n 2, 1) := by decide +kernel
theorem dX11_buildsSets_29 : decode cX11_buildsSets 29 = .ok (.iload_n 2, 1) := by decide +kernel
theorem dX11_buildsSets_30 : decode cX11_buildsSets 30 = .ok (.iconst 3, 1) := by decide +kernel
theorem dX11_buildsSets_31 : decode cX11_buildsSets 31 = .ok (.if_icmp .ge 47, 3) := by decide +kernel
theorem dX11_buildsSets_34 : decode cX11_buildsSets 34 = .ok (.aload_n 0, 1) := by decide +kernel
theorem dX11_buildsSets_35 : decode cX11_buildsSets 35 = .ok (.aload_n 0, 1) := by decide +kernel
theorem dX11_buildsSets_36 : decode cX11_buildsSets 36 = .ok (.getfield 85, 3) := by decide +kernel
theorem dX11_buildsSets_39 : decode cX11_buildsSets 39 = .ok (.iload_n 1, 1) := by decide +kernel
theorem dX11_buildsSets_40 : decode cX11_buildsSets 40 = .ok (.iaload, 1) := by decide +kernel
theorem dX11_buildsSets_41 : decode cX11_buildsSets 41 = .ok (.iload_n 2, 1) := by decide +kernel
theorem dX11_buildsSets_42 : decode cX11_buildsSets 42 = .ok (.invokevirtual 143, 3) := by decide +kernel
theorem dX11_buildsSets_45 : decode cX11_buildsSets 45 = .ok (.istore_n 3, 1) := by decide +kernel
theorem dX11_buildsSets_46 : decode cX11_buildsSets 46 = .ok (.aload_n 0, 1) := by decide +kernel
theorem dX11_buildsSets_47 : decode cX11_buildsSets 47 = .ok (.getfield 91, 3) := by decide +kernel
theorem dX11_buildsSets_50 : decode cX11_buildsSets 50 = .ok (.iconst 3, 1) := by decide +kernel
theorem dX11_buildsSets_51 : decode cX11_buildsSets 51 = .ok (.iload_n 1, 1) := by decide +kernel
theorem dX11_buildsSets_52 : decode cX11_buildsSets 52 = .ok (.imul, 1) := by decide +kernel
theorem dX11_buildsSets_53 : decode cX11_buildsSets 53 = .ok (.iload_n 2, 1) := by decide +kernel
theorem dX11_buildsSets_54 : decode cX11_buildsSets 54 = .ok (.iadd, 1) := by decide +kernel
theorem dX11_buildsSets_55 : decode cX11_buildsSets 55 = .ok (.iload_n 3, 1) := by decide +kernel
theorem dX11_buildsSets_56 : decode cX11_buildsSets 56 = .ok (.ifCond .ne 7, 3) := by decide +kernel
theorem dX11_buildsSets_59 : decode cX11_buildsSets 59 = .ok (.lconst 0, 1) := by decide +kernel
theorem dX11_buildsSets_60 : decode cX11_buildsSets 60 = .ok (.goto 11, 3) := by decide +kernel
theorem dX11_buildsSets_63 : decode cX11_buildsSets 63 = .ok (.lconst 1, 1) := by decide +kernel
theorem dX11_buildsSets_64 : decode cX11_buildsSets 64 = .ok (.aload_n 0, 1) := by decide +kernel
theorem dX11_buildsSets_65 : decode cX11_buildsSets 65 = .ok (.iconst 0, 1) := by decide +kernel
theorem dX11_buildsSets_66 : decode cX11_buildsSets 66 = .ok (.iload_n 3, 1) := by decide +kernel
theorem dX11_buildsSets_67 : decode cX11_buildsSets 67 = .ok (.invokevirtual 338, 3) := by decide +kernel
theorem dX11_buildsSets_70 : decode cX11_buildsSets 70 = .ok (.lshl, 1) := by decide +kernel
theorem dX11_buildsSets_71 : decode cX11_buildsSets 71 = .ok (.lastore, 1) := by decide +kernel
theorem dX11_buildsSets_72 : decode cX11_buildsSets 72 = .ok (.iinc 2 1, 3) := by decide +kernel
theorem dX11_buildsSets_75 : decode cX11_buildsSets 75 = .ok (.goto (-46), 3) := by decide +kernel
theorem dX11_buildsSets_78 : decode cX11_buildsSets 78 = .ok (.iinc 1 1, 3) := by decide +kernel
theorem dX11_buildsSets_81 : decode cX11_buildsSets 81 = .ok (.goto (-62), 3) := by decide +kernel
theorem dX11_buildsSets_84 : decode cX11_buildsSets 84 = .ok (.iconst 1, 1) := by decide +kernel
theorem dX11_buildsSets_85 : decode cX11_buildsSets 85 = .ok (.ireturn, 1) := by decide +kernel
set_option maxRecDepth 20000 in
theorem ggX11_buildsPairs_X11_has : GoodIn wsX11_buildsPairs wsX11_has := goodIn_r _ [11] (by decide +kernel) (by decide +kernel)
set_option maxRecDepth 20000 in
theorem gX11_buildsPairs_X11_has : GoodIn wsX11_buildsPairs (va_wsS RX11 139 yX11_has wsX11_has) := goodIn_app (goodIn_of _ (by decide +kernel)) ggX11_buildsPairs_X11_has
set_option maxRecDepth 20000 in
theorem ggX11_buildsPairs_X11_numberOfState : GoodIn wsX11_buildsPairs wsX11_numberOfState := goodIn_r _ [15, 3, 5, 6, 20, 21, 22, 23, 24, 25, 26, 27, 28, 29, 30, 31, 32, 33, 34, 35, 36, 37, 38, 39, 40, 41, 42, 43, 44, 45, 46, 47, 48, 49, 50, 51, 52, 53, 54, 55, 56, 57, 58, 59, 60, 61, 62, 63, 64, 65, 66, 67, 68, 69] (by decide +kernel) (by decide +kernel)
set_option maxRecDepth 20000 in
theorem gX11_buildsPairs_X11_numberOfState : GoodIn wsX11_buildsPairs (wsV RX11 338 RX11 yX11_numberOfState wsX11_numberOfState) := goodIn_app (goodIn_of _ (by decide +kernel)) ggX11_buildsPairs_X11_numberOfState
set_option maxRecDepth 20000 in
theorem ggX11_buildsPairs_X11_step : GoodIn wsX11_buildsPairs wsX11_step := goodIn_r _ [19, 1, 4, 8, 9, 10, 11, 20, 21, 22, 23, 24, 25, 26, 27, 28, 29, 30, 31, 32, 33, 34, 35, 36, 37, 38, 39, 40, 41, 42, 43, 44, 45, 46, 47, 48, 49, 50, 51, 52, 53, 54, 55, 56, 57, 58, 59, 60, 61, 62, 63, 64, 65, 66, 67, 68, 69] (by decide +kernel) (by decide +kernel)
set_option maxRecDepth 20000 in
theorem gX11_buildsPairs_X11_step : GoodIn wsX11_buildsPairs (wsV RX11 143 RX11 yX11_step wsX11_step) := goodIn_app (goodIn_of _ (by decide +kernel)) ggX11_buildsPairs_X11_step
theorem dX11_buildsPairs_0 : decode cX11_buildsPairs 0 = .ok (.iconst 0, 1) := by decide +kernel
theorem dX11_buildsPairs_1 : decode cX11_buildsPairs 1 = .ok (.istore_n 1, 1) := by decide +kernel
theorem dX11_buildsPairs_2 : decode cX11_buildsPairs 2 = .ok (.iload_n 1, 1) := by decide +kernel
theorem dX11_buildsPairs_3 : decode cX11_buildsPairs 3 = .ok (.aload_n 0, 1) := by decide +kernel
theorem dX11_buildsPairs_4 : decode cX11_buildsPairs 4 = .ok (.getfield 19, 3) := by decide +kernel
theorem dX11_buildsPairs_7 : decode cX11_buildsPairs 7 = .ok (.if_icmp .ge 37, 3) := by decide +kernel
theorem dX11_buildsPairs_10 : decode cX11_buildsPairs 10 = .ok (.aload_n 0, 1) := by decide +kernel
theorem dX11_buildsPairs_11 : decode cX11_buildsPairs 11 = .ok (.getfield 112, 3) := by decide +kernel
theorem dX11_buildsPairs_14 : decode cX11_buildsPairs 14 = .ok (.i2l, 1) := by decide +kernel
theorem dX11_buildsPairs_15 : decode cX11_buildsPairs 15 = .ok (.iload_n 1, 1) := by decide +kernel
theorem dX11_buildsPairs_16 : decode cX11_buildsPairs 16 = .ok (.invokestatic 139, 3) := by decide +kernel
theorem dX11_buildsPairs_19 : decode cX11_buildsPairs 19 = .ok (.ifCond .eq 19, 3) := by decide +kernel
theorem dX11_buildsPairs_22 : decode cX11_buildsPairs 22 = .ok (.aload_n 0, 1) := by decide +kernel
theorem dX11_buildsPairs_23 : decode cX11_buildsPairs 23 = .ok (.iload_n 1, 1) := by decide +kernel
theorem dX11_buildsPairs_24 : decode cX11_buildsPairs 24 = .ok (.aload_n 0, 1) := by decide +kernel
theorem dX11_buildsPairs_25 : decode cX11_buildsPairs 25 = .ok (.getfield 112, 3) := by decide +kernel
theorem dX11_buildsPairs_28 : decode cX11_buildsPairs 28 = .ok (.iconst 1, 1) := by decide +kernel
theorem dX11_buildsPairs_29 : decode cX11_buildsPairs 29 = .ok (.iload_n 1, 1) := by decide +kernel
theorem dX11_buildsPairs_30 : decode cX11_buildsPairs 30 = .ok (.ishl, 1) := by decide +kernel
theorem dX11_buildsPairs_31 : decode cX11_buildsPairs 31 = .ok (.iconst 1, 1) := by decide +kernel
theorem dX11_buildsPairs_32 : decode cX11_buildsPairs 32 = .ok (.isub, 1) := by decide +kernel
theorem dX11_buildsPairs_33 : decode cX11_buildsPairs 33 = .ok (.iand, 1) := by decide +kernel
theorem dX11_buildsPairs_34 : decode cX11_buildsPairs 34 = .ok (.invokevirtual 338, 3) := by decide +kernel
theorem dX11_buildsPairs_37 : decode cX11_buildsPairs 37 = .ok (.pop, 1) := by decide +kernel
theorem dX11_buildsPairs_38 : decode cX11_buildsPairs 38 = .ok (.iinc 1 1, 3) := by decide +kernel
theorem dX11_buildsPairs_41 : decode cX11_buildsPairs 41 = .ok (.goto (-39), 3) := by decide +kernel
theorem dX11_buildsPairs_44 : decode cX11_buildsPairs 44 = .ok (.iconst 0, 1) := by decide +kernel
theorem dX11_buildsPairs_45 : decode cX11_buildsPairs 45 = .ok (.istore_n 1, 1) := by decide +kernel
theorem dX11_buildsPairs_46 : decode cX11_buildsPairs 46 = .ok (.iload_n 1, 1) := by decide +kernel
theorem dX11_buildsPairs_47 : decode cX11_buildsPairs 47 = .ok (.aload_n 0, 1) := by decide +kernel
theorem dX11_buildsPairs_48 : decode cX11_buildsPairs 48 = .ok (.getfield 335, 3) := by decide +kernel
theorem dX11_buildsPairs_51 : decode cX11_buildsPairs 51 = .ok (.if_icmp .ge 128, 3) := by decide +kernel
theorem dX11_buildsPairs_54 : decode cX11_buildsPairs 54 = .ok (.iconst 0, 1) := by decide +kernel
theorem dX11_buildsPairs_55 : decode cX11_buildsPairs 55 = .ok (.istore_n 2, 1) := by decide +kernel
theorem dX11_buildsPairs_56 : decode cX11_buildsPairs 56 = .ok (.iload_n 2, 1) := by decide +kernel
theorem dX11_buildsPairs_57 : decode cX11_buildsPairs 57 = .ok (.iconst 3, 1) := by decide +kernel
theorem dX11_buildsPairs_58 : decode cX11_buildsPairs 58 = .ok (.if_icmp .ge 115, 3) := by decide +kernel
theorem dX11_buildsPairs_61 : decode cX11_buildsPairs 61 = .ok (.lconst 0, 1) := by decide +kernel
theorem dX11_buildsPairs_62 : decode cX11_buildsPairs 62 = .ok (.lstore_n 3, 1) := by decide +kernel
theorem dX11_buildsPairs_63 : decode cX11_buildsPairs 63 = .ok (.aload_n 0, 1) := by decide +kernel
theorem dX11_buildsPairs_64 : decode cX11_buildsPairs 64 = .ok (.getfield 7, 3) := by decide +kernel
theorem dX11_buildsPairs_67 : decode cX11_buildsPairs 67 = .ok (.bipush 6, 2) := by decide +kernel
theorem dX11_buildsPairs_69 : decode cX11_buildsPairs 69 = .ok (.iload_n 2, 1) := by decide +kernel
theorem dX11_buildsPairs_70 : decode cX11_buildsPairs 70 = .ok (.imul, 1) := by decide +kernel
theorem dX11_buildsPairs_71 : decode cX11_buildsPairs 71 = .ok (.aload_n 0, 1) := by decide +kernel
theorem dX11_buildsPairs_72 : decode cX11_buildsPairs 72 = .ok (.getfield 82, 3) := by decide +kernel
theorem dX11_buildsPairs_75 : decode cX11_buildsPairs 75 = .ok (.iload_n 1, 1) := by decide +kernel
theorem dX11_buildsPairs_76 : decode cX11_buildsPairs 76 = .ok (.iaload, 1) := by decide +kernel
theorem dX11_buildsPairs_77 : decode cX11_buildsPairs 77 = .ok (.iadd, 1) := by decide +kernel
theorem dX11_buildsPairs_78 : decode cX11_buildsPairs 78 = .ok (.iaload, 1) := by decide +kernel
theorem dX11_buildsPairs_79 : decode cX11_buildsPairs 79 = .ok (.istore 5, 2) := by decide +kernel
theorem dX11_buildsPairs_81 : decode cX11_buildsPairs 81 = .ok (.iconst 0, 1) := by decide +kernel
theorem dX11_buildsPairs_82 : decode cX11_buildsPairs 82 = .ok (.istore 6, 2) := by decide +kernel
theorem dX11_buildsPairs_84 : decode cX11_buildsPairs 84 = .ok (.iload 6, 2) := by decide +kernel
theorem dX11_buildsPairs_86 : decode cX11_buildsPairs 86 = .ok (.aload_n 0, 1) := by decide +kernel
theorem dX11_buildsPairs_87 : decode cX11_buildsPairs 87 = .ok (.getfield 19, 3) := by decide +kernel
theorem dX11_buildsPairs_90 : decode cX11_buildsPairs 90 = .ok (.if_icmp .ge 66, 3) := by decide +kernel
theorem dX11_buildsPairs_93 : decode cX11_buildsPairs 93 = .ok (.iload 5, 2) := by decide +kernel
theorem dX11_buildsPairs_95 : decode cX11_buildsPairs 95 = .ok (.i2l, 1) := by decide +kernel
theorem dX11_buildsPairs_96 : decode cX11_buildsPairs 96 = .ok (.iload 6, 2) := by decide +kernel
theorem dX11_buildsPairs_98 : decode cX11_buildsPairs 98 = .ok (.invokestatic 139, 3) := by decide +kernel
theorem dX11_buildsPairs_101 : decode cX11_buildsPairs 101 = .ok (.ifCond .ne 6, 3) := by decide +kernel
theorem dX11_buildsPairs_104 : decode cX11_buildsPairs 104 = .ok (.goto 46, 3) := by decide +kernel
theorem dX11_buildsPairs_107 : decode cX11_buildsPairs 107 = .ok (.aload_n 0, 1) := by decide +kernel
theorem dX11_buildsPairs_108 : decode cX11_buildsPairs 108 = .ok (.iload 6, 2) := by decide +kernel
theorem dX11_buildsPairs_110 : decode cX11_buildsPairs 110 = .ok (.aload_n 0, 1) := by decide +kernel
theorem dX11_buildsPairs_111 : decode cX11_buildsPairs 111 = .ok (.aload_n 0, 1) := by decide +kernel
theorem dX11_buildsPairs_112 : decode cX11_buildsPairs 112 = .ok (.getfield 85, 3) := by decide +kernel
theorem dX11_buildsPairs_115 : decode cX11_buildsPairs 115 = .ok (.iload_n 1, 1) := by decide +kernel
theorem dX11_buildsPairs_116 : decode cX11_buildsPairs 116 = .ok (.iaload, 1) := by decide +kernel
theorem dX11_buildsPairs_117 : decode cX11_buildsPairs 117 = .ok (.iload_n 2, 1) := by decide +kernel
theorem dX11_buildsPairs_118 : decode cX11_buildsPairs 118 = .ok (.invokevirtual 143, 3) := by decide +kernel
theorem dX11_buildsPairs_121 : decode cX11_buildsPairs 121 = .ok (.iload 5, 2) := by decide +kernel
theorem dX11_buildsPairs_123 : decode cX11_buildsPairs 123 = .ok (.iconst 1, 1) := by decide +kernel
theorem dX11_buildsPairs_124 : decode cX11_buildsPairs 124 = .ok (.iload 6, 2) := by decide +kernel
theorem dX11_buildsPairs_126 : decode cX11_buildsPairs 126 = .ok (.ishl, 1) := by decide +kernel
theorem dX11_buildsPairs_127 : decode cX11_buildsPairs 127 = .ok (.iconst 1, 1) := by decide +kernel
theorem dX11_buildsPairs_128 : decode cX11_buildsPairs 128 = .ok (.isub, 1) := by decide +kernel
theorem dX11_buildsPairs_129 : decode cX11_buildsPairs 129 = .ok (.iand, 1) := by decide +kernel
theorem dX11_buildsPairs_130 : decode cX11_buildsPairs 130 = .ok (.ior, 1) := by decide +kernel
theorem dX11_buildsPairs_131 : decode cX11_buildsPairs 131 = .ok (.invokevirtual 338, 3) := by decide +kernel
theorem dX11_buildsPairs_134 : decode cX11_buildsPairs 134 = .ok (.istore 7, 2) := by decide +kernel
theorem dX11_buildsPairs_136 : decode cX11_buildsPairs 136 = .ok (.iload 7, 2) := by decide +kernel
theorem dX11_buildsPairs_138 : decode cX11_buildsPairs 138 = .ok (.ifCond .ge 5, 3) := by decide +kernel
theorem dX11_buildsPairs_141 : decode cX11_buildsPairs 141 = .ok (.iconst 0, 1) := by decide +kernel
theorem dX11_buildsPairs_142 : decode cX11_buildsPairs 142 = .ok (.ireturn, 1) := by decide +kernel
theorem dX11_buildsPairs_143 : decode cX11_buildsPairs 143 = .ok (.lload_n 3, 1) := by decide +kernel
theorem dX11_buildsPairs_144 : decode cX11_buildsPairs 144 = .ok (.lconst 1, 1) := by decide +kernel
theorem dX11_buildsPairs_145 : decode cX11_buildsPairs 145 = .ok (.iload 7, 2) := by decide +kernel
theorem dX11_buildsPairs_147 : decode cX11_buildsPairs 147 = .ok (.lshl, 1) := by decide +kernel
theorem dX11_buildsPairs_148 : decode cX11_buildsPairs 148 = .ok (.lor, 1) := by decide +kernel
theorem dX11_buildsPairs_149 : decode cX11_buildsPairs 149 = .ok (.lstore_n 3, 1) := by decide +kernel
theorem dX11_buildsPairs_150 : decode cX11_buildsPairs 150 = .ok (.iinc 6 1, 3) := by decide +kernel
theorem dX11_buildsPairs_153 : decode cX11_buildsPairs 153 = .ok (.goto (-69), 3) := by decide +kernel
theorem dX11_buildsPairs_156 : decode cX11_buildsPairs 156 = .ok (.aload_n 0, 1) := by decide +kernel
theorem dX11_buildsPairs_157 : decode cX11_buildsPairs 157 = .ok (.getfield 91, 3) := by decide +kernel
theorem dX11_buildsPairs_160 : decode cX11_buildsPairs 160 = .ok (.iconst 3, 1) := by decide +kernel
theorem dX11_buildsPairs_161 : decode cX11_buildsPairs 161 = .ok (.iload_n 1, 1) := by decide +kernel
theorem dX11_buildsPairs_162 : decode cX11_buildsPairs 162 = .ok (.imul, 1) := by decide +kernel
theorem dX11_buildsPairs_163 : decode cX11_buildsPairs 163 = .ok (.iload_n 2, 1) := by decide +kernel
theorem dX11_buildsPairs_164 : decode cX11_buildsPairs 164 = .ok (.iadd, 1) := by decide +kernel
theorem dX11_buildsPairs_165 : decode cX11_buildsPairs 165 = .ok (.lload_n 3, 1) := by decide +kernel
theorem dX11_buildsPairs_166 : decode cX11_buildsPairs 166 = .ok (.lastore, 1) := by decide +kernel
theorem dX11_buildsPairs_167 : decode cX11_buildsPairs 167 = .ok (.iinc 2 1, 3) := by decide +kernel
theorem dX11_buildsPairs_170 : decode cX11_buildsPairs 170 = .ok (.goto (-114), 3) := by decide +kernel
theorem dX11_buildsPairs_173 : decode cX11_buildsPairs 173 = .ok (.iinc 1 1, 3) := by decide +kernel
theorem dX11_buildsPairs_176 : decode cX11_buildsPairs 176 = .ok (.goto (-130), 3) := by decide +kernel
theorem dX11_buildsPairs_179 : decode cX11_buildsPairs 179 = .ok (.iconst 1, 1) := by decide +kernel
theorem dX11_buildsPairs_180 : decode cX11_buildsPairs 180 = .ok (.ireturn, 1) := by decide +kernel
set_option maxRecDepth 20000 in
theorem ggX11_build_X11_isBetween : GoodIn wsX11_build wsX11_isBetween := goodIn_r _ [17] (by decide +kernel) (by decide +kernel)
set_option maxRecDepth 20000 in
theorem gX11_build_X11_isBetween : GoodIn wsX11_build (va_wsS RX11 124 yX11_isBetween wsX11_isBetween) := goodIn_app (goodIn_of _ (by decide +kernel)) ggX11_build_X11_isBetween
set_option maxRecDepth 20000 in
theorem ggX11_build_X11_buildsSets : GoodIn wsX11_build wsX11_buildsSets := goodIn_r _ [21, 13, 1, 8, 10, 22, 23, 24, 16, 25, 6, 26, 27, 28, 29, 12, 30, 31, 32, 33, 38, 39, 40, 41, 42, 43, 44, 45, 46, 47, 48, 49, 50, 51, 52, 53, 54, 55, 56, 57, 58, 59, 60, 61, 62, 63, 64, 65, 66, 67, 68, 69, 70, 71, 72, 73, 74, 75, 76, 77, 78, 79, 80, 81, 82, 83, 84, 85, 86, 87] (by decide +kernel) (by decide +kernel)
set_option maxRecDepth 20000 in
theorem gX11_build_X11_buildsSets : GoodIn wsX11_build (wsV RX11 341 RX11 yX11_buildsSets wsX11_buildsSets) := goodIn_app (goodIn_of _ (by decide +kernel)) ggX11_build_X11_buildsSets
set_option maxRecDepth 20000 in
theorem ggX11_build_X11_buildsPairs : GoodIn wsX11_build wsX11_buildsPairs := goodIn_r _ [37, 12, 13, 1, 30, 6, 8, 10, 31, 32, 16, 33, 22, 23, 24, 25, 26, 27, 28, 29, 38, 39, 40, 41, 42, 43, 44, 45, 46, 47, 48, 49, 50, 51, 52, 53, 54, 55, 56, 57, 58, 59, 60, 61, 62, 63, 64, 65, 66, 67, 68, 69, 70, 71, 72, 73, 74, 75, 76, 77, 78, 79, 80, 81, 82, 83, 84, 85, 86, 87] (by decide +kernel) (by decide +kernel)
set_option maxRecDepth 20000 in
theorem gX11_build_X11_buildsPairs : GoodIn wsX11_build (wsV RX11 344 RX11 yX11_buildsPairs wsX11_buildsPairs) := goodIn_app (goodIn_of _ (by decide +kernel)) ggX11_build_X11_buildsPairs
set_option maxRecDepth 20000 in
theorem ggX11_build_X11_has : GoodIn wsX11_build wsX11_has := goodIn_r _ [33] (by decide +kernel) (by decide +kernel)
set_option maxRecDepth 20000 in
theorem gX11_build_X11_has : GoodIn wsX11_build (va_wsS RX11 139 yX11_has wsX11_has) := goodIn_app (goodIn_of _ (by decide +kernel)) ggX11_build_X11_has
theorem dX11_build_0 : decode cX11_build 0 = .ok (.iload_n 1, 1) := by decide +kernel
theorem dX11_build_1 : decode cX11_build 1 = .ok (.i2l, 1) := by decide +kernel
theorem dX11_build_2 : decode cX11_build 2 = .ok (.lconst 0, 1) := by decide +kernel
theorem dX11_build_3 : decode cX11_build 3 = .ok (.lconst 1, 1) := by decide +kernel
theorem dX11_build_4 : decode cX11_build 4 = .ok (.invokestatic 124, 3) := by decide +kernel
theorem dX11_build_7 : decode cX11_build 7 = .ok (.ifCond .ne 5, 3) := by decide +kernel
theorem dX11_build_10 : decode cX11_build 10 = .ok (.iconst (-1), 1) := by decide +kernel
theorem dX11_build_11 : decode cX11_build 11 = .ok (.ireturn, 1) := by decide +kernel
theorem dX11_build_12 : decode cX11_build 12 = .ok (.aload_n 0, 1) := by decide +kernel
theorem dX11_build_13 : decode cX11_build 13 = .ok (.iconst 0, 1) := by decide +kernel
theorem dX11_build_14 : decode cX11_build 14 = .ok (.putfield 335, 3) := by decide +kernel
theorem dX11_build_17 : decode cX11_build 17 = .ok (.iload_n 1, 1) := by decide +kernel
theorem dX11_build_18 : decode cX11_build 18 = .ok (.ifCond .ne 13, 3) := by decide +kernel
theorem dX11_build_21 : decode cX11_build 21 = .ok (.aload_n 0, 1) := by decide +kernel
theorem dX11_build_22 : decode cX11_build 22 = .ok (.invokevirtual 341, 3) := by decide +kernel
theorem dX11_build_25 : decode cX11_build 25 = .ok (.ifCond .eq 13, 3) := by decide +kernel
theorem dX11_build_28 : decode cX11_build 28 = .ok (.goto 13, 3) := by decide +kernel
theorem dX11_build_31 : decode cX11_build 31 = .ok (.aload_n 0, 1) := by decide +kernel
theorem dX11_build_32 : decode cX11_build 32 = .ok (.invokevirtual 344, 3) := by decide +kernel
theorem dX11_build_35 : decode cX11_build 35 = .ok (.ifCond .ne 6, 3) := by decide +kernel
theorem dX11_build_38 : decode cX11_build 38 = .ok (.bipush (-5), 2) := by decide +kernel
theorem dX11_build_40 : decode cX11_build 40 = .ok (.ireturn, 1) := by decide +kernel
theorem dX11_build_41 : decode cX11_build 41 = .ok (.aload_n 0, 1) := by decide +kernel
theorem dX11_build_42 : decode cX11_build 42 = .ok (.aload_n 0, 1) := by decide +kernel
theorem dX11_build_43 : decode cX11_build 43 = .ok (.getfield 335, 3) := by decide +kernel
theorem dX11_build_46 : decode cX11_build 46 = .ok (.putfield 94, 3) := by decide +kernel
theorem dX11_build_49 : decode cX11_build 49 = .ok (.aload_n 0, 1) := by decide +kernel
theorem dX11_build_50 : decode cX11_build 50 = .ok (.lconst 0, 1) := by decide +kernel
theorem dX11_build_51 : decode cX11_build 51 = .ok (.putfield 347, 3) := by decide +kernel
theorem dX11_build_54 : decode cX11_build 54 = .ok (.aload_n 0, 1) := by decide +kernel
theorem dX11_build_55 : decode cX11_build 55 = .ok (.lconst 0, 1) := by decide +kernel
theorem dX11_build_56 : decode cX11_build 56 = .ok (.putfield 351, 3) := by decide +kernel
theorem dX11_build_59 : decode cX11_build 59 = .ok (.iconst 0, 1) := by decide +kernel
theorem dX11_build_60 : decode cX11_build 60 = .ok (.istore_n 2, 1) := by decide +kernel
theorem dX11_build_61 : decode cX11_build 61 = .ok (.iload_n 2, 1) := by decide +kernel
theorem dX11_build_62 : decode cX11_build 62 = .ok (.aload_n 0, 1) := by decide +kernel
theorem dX11_build_63 : decode cX11_build 63 = .ok (.getfield 335, 3) := by decide +kernel
theorem dX11_build_66 : decode cX11_build 66 = .ok (.if_icmp .ge 149, 3) := by decide +kernel
theorem dX11_build_69 : decode cX11_build 69 = .ok (.aload_n 0, 1) := by decide +kernel
theorem dX11_build_70 : decode cX11_build 70 = .ok (.getfield 76, 3) := by decide +kernel
theorem dX11_build_73 : decode cX11_build 73 = .ok (.iload_n 2, 1) := by decide +kernel
theorem dX11_build_74 : decode cX11_build 74 = .ok (.aload_n 0, 1) := by decide +kernel
theorem dX11_build_75 : decode cX11_build 75 = .ok (.getfield 82, 3) := by decide +kernel
theorem dX11_build_78 : decode cX11_build 78 = .ok (.iload_n 2, 1) := by decide +kernel
theorem dX11_build_79 : decode cX11_build 79 = .ok (.iaload, 1) := by decide +kernel
theorem dX11_build_80 : decode cX11_build 80 = .ok (.iastore, 1) := by decide +kernel
theorem dX11_build_81 : decode cX11_build 81 = .ok (.aload_n 0, 1) := by decide +kernel
theorem dX11_build_82 : decode cX11_build 82 = .ok (.getfield 79, 3) := by decide +kernel
theorem dX11_build_85 : decode cX11_build 85 = .ok (.iload_n 2, 1) := by decide +kernel
theorem dX11_build_86 : decode cX11_build 86 = .ok (.aload_n 0, 1) := by decide +kernel
theorem dX11_build_87 : decode cX11_build 87 = .ok (.getfield 85, 3) := by decide +kernel
theorem dX11_build_90 : decode cX11_build 90 = .ok (.iload_n 2, 1) := by decide +kernel
theorem dX11_build_91 : decode cX11_build 91 = .ok (.iaload, 1) := by decide +kernel
theorem dX11_build_92 : decode cX11_build 92 = .ok (.iastore, 1) := by decide +kernel
theorem dX11_build_93 : decode cX11_build 93 = .ok (.iconst 0, 1) := by decide +kernel
theorem dX11_build_94 : decode cX11_build 94 = .ok (.istore_n 3, 1) := by decide +kernel
theorem dX11_build_95 : decode cX11_build 95 = .ok (.iload_n 3, 1) := by decide +kernel
theorem dX11_build_96 : decode cX11_build 96 = .ok (.iconst 3, 1) := by decide +kernel
theorem dX11_build_97 : decode cX11_build 97 = .ok (.if_icmp .ge 29, 3) := by decide +kernel
theorem dX11_build_100 : decode cX11_build 100 = .ok (.aload_n 0, 1) := by decide +kernel
theorem dX11_build_101 : decode cX11_build 101 = .ok (.getfield 88, 3) := by decide +kernel
theorem dX11_build_104 : decode cX11_build 104 = .ok (.iconst 3, 1) := by decide +kernel
theorem dX11_build_105 : decode cX11_build 105 = .ok (.iload_n 2, 1) := by decide +kernel
theorem dX11_build_106 : decode cX11_build 106 = .ok (.imul, 1) := by decide +kernel
theorem dX11_build_107 : decode cX11_build 107 = .ok (.iload_n 3, 1) := by decide +kernel
theorem dX11_build_108 : decode cX11_build 108 = .ok (.iadd, 1) := by decide +kernel
theorem dX11_build_109 : decode cX11_build 109 = .ok (.aload_n 0, 1) := by decide +kernel
theorem dX11_build_110 : decode cX11_build 110 = .ok (.getfield 91, 3) := by decide +kernel
theorem dX11_build_113 : decode cX11_build 113 = .ok (.iconst 3, 1) := by decide +kernel
theorem dX11_build_114 : decode cX11_build 114 = .ok (.iload_n 2, 1) := by decide +kernel
theorem dX11_build_115 : decode cX11_build 115 = .ok (.imul, 1) := by decide +kernel
theorem dX11_build_116 : decode cX11_build 116 = .ok (.iload_n 3, 1) := by decide +kernel
theorem dX11_build_117 : decode cX11_build 117 = .ok (.iadd, 1) := by decide +kernel
theorem dX11_build_118 : decode cX11_build 118 = .ok (.laload, 1) := by decide +kernel
theorem dX11_build_119 : decode cX11_build 119 = .ok (.lastore, 1) := by decide +kernel
theorem dX11_build_120 : decode cX11_build 120 = .ok (.iinc 3 1, 3) := by decide +kernel
theorem dX11_build_123 : decode cX11_build 123 = .ok (.goto (-28), 3) := by decide +kernel
theorem dX11_build_126 : decode cX11_build 126 = .ok (.iload_n 1, 1) := by decide +kernel
theorem dX11_build_127 : decode cX11_build 127 = .ok (.ifCond .ne 25, 3) := by decide +kernel
theorem dX11_build_130 : decode cX11_build 130 = .ok (.aload_n 0, 1) := by decide +kernel
theorem dX11_build_131 : decode cX11_build 131 = .ok (.getfield 79, 3) := by decide +kernel
theorem dX11_build_134 : decode cX11_build 134 = .ok (.iload_n 2, 1) := by decide +kernel
theorem dX11_build_135 : decode cX11_build 135 = .ok (.iaload, 1) := by decide +kernel
theorem dX11_build_136 : decode cX11_build 136 = .ok (.aload_n 0, 1) := by decide +kernel
theorem dX11_build_137 : decode cX11_build 137 = .ok (.getfield 115, 3) := by decide +kernel
theorem dX11_build_140 : decode cX11_build 140 = .ok (.iand, 1) := by decide +kernel
theorem dX11_build_141 : decode cX11_build 141 = .ok (.ifCond .eq 7, 3) := by decide +kernel
theorem dX11_build_144 : decode cX11_build 144 = .ok (.iconst 1, 1) := by decide +kernel
theorem dX11_build_145 : decode cX11_build 145 = .ok (.goto 43, 3) := by decide +kernel
theorem dX11_build_148 : decode cX11_build 148 = .ok (.iconst 0, 1) := by decide +kernel
theorem dX11_build_149 : decode cX11_build 149 = .ok (.goto 39, 3) := by decide +kernel
theorem dX11_build_152 : decode cX11_build 152 = .ok (.aload_n 0, 1) := by decide +kernel
theorem dX11_build_153 : decode cX11_build 153 = .ok (.getfield 115, 3) := by decide +kernel
theorem dX11_build_156 : decode cX11_build 156 = .ok (.i2l, 1) := by decide +kernel
theorem dX11_build_157 : decode cX11_build 157 = .ok (.aload_n 0, 1) := by decide +kernel
theorem dX11_build_158 : decode cX11_build 158 = .ok (.getfield 76, 3) := by decide +kernel
theorem dX11_build_161 : decode cX11_build 161 = .ok (.iload_n 2, 1) := by decide +kernel
theorem dX11_build_162 : decode cX11_build 162 = .ok (.iaload, 1) := by decide +kernel
theorem dX11_build_163 : decode cX11_build 163 = .ok (.invokestatic 139, 3) := by decide +kernel
theorem dX11_build_166 : decode cX11_build 166 = .ok (.ifCond .eq 21, 3) := by decide +kernel
theorem dX11_build_169 : decode cX11_build 169 = .ok (.aload_n 0, 1) := by decide +kernel
theorem dX11_build_170 : decode cX11_build 170 = .ok (.getfield 79, 3) := by decide +kernel
theorem dX11_build_173 : decode cX11_build 173 = .ok (.iload_n 2, 1) := by decide +kernel
theorem dX11_build_174 : decode cX11_build 174 = .ok (.iaload, 1) := by decide +kernel
theorem dX11_build_175 : decode cX11_build 175 = .ok (.aload_n 0, 1) := by decide +kernel
theorem dX11_build_176 : decode cX11_build 176 = .ok (.getfield 115, 3) := by decide +kernel
theorem dX11_build_179 : decode cX11_build 179 = .ok (.iand, 1) := by decide +kernel
theorem dX11_build_180 : decode cX11_build 180 = .ok (.ifCond .ne 7, 3) := by decide +kernel
theorem dX11_build_183 : decode cX11_build 183 = .ok (.iconst 1, 1) := by decide +kernel
theorem dX11_build_184 : decode cX11_build 184 = .ok (.goto 4, 3) := by decide +kernel
theorem dX11_build_187 : decode cX11_build 187 = .ok (.iconst 0, 1) := by decide +kernel
theorem dX11_build_188 : decode cX11_build 188 = .ok (.istore_n 3, 1) := by decide +kernel
theorem dX11_build_189 : decode cX11_build 189 = .ok (.aload_n 0, 1) := by decide +kernel
theorem dX11_build_190 : decode cX11_build 190 = .ok (.dup, 1) := by decide +kernel
theorem dX11_build_191 : decode cX11_build 191 = .ok (.getfield 351, 3) := by decide +kernel
theorem dX11_build_194 : decode cX11_build 194 = .ok (.iload_n 3, 1) := by decide +kernel
theorem dX11_build_195 : decode cX11_build 195 = .ok (.ifCond .eq 9, 3) := by decide +kernel
theorem dX11_build_198 : decode cX11_build 198 = .ok (.lconst 1, 1) := by decide +kernel
theorem dX11_build_199 : decode cX11_build 199 = .ok (.iload_n 2, 1) := by decide +kernel
theorem dX11_build_200 : decode cX11_build 200 = .ok (.lshl, 1) := by decide +kernel
theorem dX11_build_201 : decode cX11_build 201 = .ok (.goto 4, 3) := by decide +kernel
theorem dX11_build_204 : decode cX11_build 204 = .ok (.lconst 0, 1) := by decide +kernel
theorem dX11_build_205 : decode cX11_build 205 = .ok (.lor, 1) := by decide +kernel
theorem dX11_build_206 : decode cX11_build 206 = .ok (.putfield 351, 3) := by decide +kernel
theorem dX11_build_209 : decode cX11_build 209 = .ok (.iinc 2 1, 3) := by decide +kernel
theorem dX11_build_212 : decode cX11_build 212 = .ok (.goto (-151), 3) := by decide +kernel
theorem dX11_build_215 : decode cX11_build 215 = .ok (.iconst 0, 1) := by decide +kernel
theorem dX11_build_216 : decode cX11_build 216 = .ok (.istore_n 2, 1) := by decide +kernel
theorem dX11_build_217 : decode cX11_build 217 = .ok (.iconst 0, 1) := by decide +kernel
theorem dX11_build_218 : decode cX11_build 218 = .ok (.istore_n 3, 1) := by decide +kernel
theorem dX11_build_219 : decode cX11_build 219 = .ok (.iload_n 3, 1) := by decide +kernel
theorem dX11_build_220 : decode cX11_build 220 = .ok (.aload_n 0, 1) := by decide +kernel
theorem dX11_build_221 : decode cX11_build 221 = .ok (.getfield 19, 3) := by decide +kernel
theorem dX11_build_224 : decode cX11_build 224 = .ok (.if_icmp .ge 20, 3) := by decide +kernel
theorem dX11_build_227 : decode cX11_build 227 = .ok (.iload_n 2, 1) := by decide +kernel
theorem dX11_build_228 : decode cX11_build 228 = .ok (.aload_n 0, 1) := by decide +kernel
theorem dX11_build_229 : decode cX11_build 229 = .ok (.getfield 112, 3) := by decide +kernel
theorem dX11_build_232 : decode cX11_build 232 = .ok (.iload_n 3, 1) := by decide +kernel
theorem dX11_build_233 : decode cX11_build 233 = .ok (.ishr, 1) := by decide +kernel
theorem dX11_build_234 : decode cX11_build 234 = .ok (.iconst 1, 1) := by decide +kernel
theorem dX11_build_235 : decode cX11_build 235 = .ok (.iand, 1) := by decide +kernel
theorem dX11_build_236 : decode cX11_build 236 = .ok (.iadd, 1) := by decide +kernel
theorem dX11_build_237 : decode cX11_build 237 = .ok (.istore_n 2, 1) := by decide +kernel
theorem dX11_build_238 : decode cX11_build 238 = .ok (.iinc 3 1, 3) := by decide +kernel
theorem dX11_build_241 : decode cX11_build 241 = .ok (.goto (-22), 3) := by decide +kernel
theorem dX11_build_244 : decode cX11_build 244 = .ok (.iload_n 1, 1) := by decide +kernel
theorem dX11_build_245 : decode cX11_build 245 = .ok (.ifCond .ne 10, 3) := by decide +kernel
theorem dX11_build_248 : decode cX11_build 248 = .ok (.iload_n 2, 1) := by decide +kernel
theorem dX11_build_249 : decode cX11_build 249 = .ok (.iconst 1, 1) := by decide +kernel
theorem dX11_build_250 : decode cX11_build 250 = .ok (.if_icmp .le 5, 3) := by decide +kernel
theorem dX11_build_253 : decode cX11_build 253 = .ok (.iconst 1, 1) := by decide +kernel
theorem dX11_build_254 : decode cX11_build 254 = .ok (.istore_n 2, 1) := by decide +kernel
theorem dX11_build_255 : decode cX11_build 255 = .ok (.iconst 0, 1) := by decide +kernel
theorem dX11_build_256 : decode cX11_build 256 = .ok (.istore_n 3, 1) := by decide +kernel
theorem dX11_build_257 : decode cX11_build 257 = .ok (.iload_n 3, 1) := by decide +kernel
theorem dX11_build_258 : decode cX11_build 258 = .ok (.iload_n 2, 1) := by decide +kernel
theorem dX11_build_259 : decode cX11_build 259 = .ok (.if_icmp .ge 21, 3) := by decide +kernel
theorem dX11_build_262 : decode cX11_build 262 = .ok (.aload_n 0, 1) := by decide +kernel
theorem dX11_build_263 : decode cX11_build 263 = .ok (.dup, 1) := by decide +kernel
theorem dX11_build_264 : decode cX11_build 264 = .ok (.getfield 347, 3) := by decide +kernel
theorem dX11_build_267 : decode cX11_build 267 = .ok (.lconst 1, 1) := by decide +kernel
theorem dX11_build_268 : decode cX11_build 268 = .ok (.iload_n 3, 1) := by decide +kernel
theorem dX11_build_269 : decode cX11_build 269 = .ok (.lshl, 1) := by decide +kernel
theorem dX11_build_270 : decode cX11_build 270 = .ok (.lor, 1) := by decide +kernel
theorem dX11_build_271 : decode cX11_build 271 = .ok (.putfield 347, 3) := by decide +kernel
theorem dX11_build_274 : decode cX11_build 274 = .ok (.iinc 3 1, 3) := by decide +kernel
theorem dX11_build_277 : decode cX11_build 277 = .ok (.goto (-20), 3) := by decide +kernel
theorem dX11_build_280 : decode cX11_build 280 = .ok (.aload_n 0, 1) := by decide +kernel
theorem dX11_build_281 : decode cX11_build 281 = .ok (.getfield 335, 3) := by decide +kernel
theorem dX11_build_284 : decode cX11_build 284 = .ok (.ireturn, 1) := by decide +kernel
theorem dX11_resultStateCount_0 : decode cX11_resultStateCount 0 = .ok (.aload_n 0, 1) := by decide +kernel
theorem dX11_resultStateCount_1 : decode cX11_resultStateCount 1 = .ok (.getfield 94, 3) := by decide +kernel
theorem dX11_resultStateCount_4 : decode cX11_resultStateCount 4 = .ok (.ireturn, 1) := by decide +kernel
theorem dX11_resultInitials_0 : decode cX11_resultInitials 0 = .ok (.aload_n 0, 1) := by decide +kernel
theorem dX11_resultInitials_1 : decode cX11_resultInitials 1 = .ok (.getfield 347, 3) := by decide +kernel
theorem dX11_resultInitials_4 : decode cX11_resultInitials 4 = .ok (.lreturn, 1) := by decide +kernel
theorem dX11_resultFinals_0 : decode cX11_resultFinals 0 = .ok (.aload_n 0, 1) := by decide +kernel
theorem dX11_resultFinals_1 : decode cX11_resultFinals 1 = .ok (.getfield 351, 3) := by decide +kernel
theorem dX11_resultFinals_4 : decode cX11_resultFinals 4 = .ok (.lreturn, 1) := by decide +kernel
set_option maxRecDepth 20000 in
theorem ggX11_resultSuccessors_X11_isLetter : GoodIn wsX11_resultSuccessors wsX11_isLetter := goodIn_r _ [6] (by decide +kernel) (by decide +kernel)
set_option maxRecDepth 20000 in
theorem gX11_resultSuccessors_X11_isLetter : GoodIn wsX11_resultSuccessors (va_wsS RX11 136 yX11_isLetter wsX11_isLetter) := goodIn_app (goodIn_of _ (by decide +kernel)) ggX11_resultSuccessors_X11_isLetter
set_option maxRecDepth 20000 in
theorem ggX11_resultSuccessors_X11_isBetween : GoodIn wsX11_resultSuccessors wsX11_isBetween := goodIn_r _ [9] (by decide +kernel) (by decide +kernel)
set_option maxRecDepth 20000 in
theorem gX11_resultSuccessors_X11_isBetween : GoodIn wsX11_resultSuccessors (va_wsS RX11 124 yX11_isBetween wsX11_isBetween) := goodIn_app (goodIn_of _ (by decide +kernel)) ggX11_resultSuccessors_X11_isBetween
theorem dX11_resultSuccessors_0 : decode cX11_resultSuccessors 0 = .ok (.iload_n 2, 1) := by decide +kernel
theorem dX11_resultSuccessors_1 : decode cX11_resultSuccessors 1 = .ok (.invokestatic 136, 3) := by decide +kernel
theorem dX11_resultSuccessors_4 : decode cX11_resultSuccessors 4 = .ok (.ifCond .eq 32, 3) := by decide +kernel
theorem dX11_resultSuccessors_7 : decode cX11_resultSuccessors 7 = .ok (.iload_n 1, 1) := by decide +kernel
theorem dX11_resultSuccessors_8 : decode cX11_resultSuccessors 8 = .ok (.i2l, 1) := by decide +kernel
theorem dX11_resultSuccessors_9 : decode cX11_resultSuccessors 9 = .ok (.lconst 0, 1) := by decide +kernel
theorem dX11_resultSuccessors_10 : decode cX11_resultSuccessors 10 = .ok (.aload_n 0, 1) := by decide +kernel
theorem dX11_resultSuccessors_11 : decode cX11_resultSuccessors 11 = .ok (.getfield 94, 3) := by decide +kernel
theorem dX11_resultSuccessors_14 : decode cX11_resultSuccessors 14 = .ok (.iconst 1, 1) := by decide +kernel
theorem dX11_resultSuccessors_15 : decode cX11_resultSuccessors 15 = .ok (.isub, 1) := by decide +kernel
theorem dX11_resultSuccessors_16 : decode cX11_resultSuccessors 16 = .ok (.i2l, 1) := by decide +kernel
theorem dX11_resultSuccessors_17 : decode cX11_resultSuccessors 17 = .ok (.invokestatic 124, 3) := by decide +kernel
theorem dX11_resultSuccessors_20 : decode cX11_resultSuccessors 20 = .ok (.ifCond .eq 16, 3) := by decide +kernel
theorem dX11_resultSuccessors_23 : decode cX11_resultSuccessors 23 = .ok (.aload_n 0, 1) := by decide +kernel
theorem dX11_resultSuccessors_24 : decode cX11_resultSuccessors 24 = .ok (.getfield 88, 3) := by decide +kernel
theorem dX11_resultSuccessors_27 : decode cX11_resultSuccessors 27 = .ok (.iconst 3, 1) := by decide +kernel
theorem dX11_resultSuccessors_28 : decode cX11_resultSuccessors 28 = .ok (.iload_n 1, 1) := by decide +kernel
theorem dX11_resultSuccessors_29 : decode cX11_resultSuccessors 29 = .ok (.imul, 1) := by decide +kernel
theorem dX11_resultSuccessors_30 : decode cX11_resultSuccessors 30 = .ok (.iload_n 2, 1) := by decide +kernel
theorem dX11_resultSuccessors_31 : decode cX11_resultSuccessors 31 = .ok (.iadd, 1) := by decide +kernel
theorem dX11_resultSuccessors_32 : decode cX11_resultSuccessors 32 = .ok (.laload, 1) := by decide +kernel
theorem dX11_resultSuccessors_33 : decode cX11_resultSuccessors 33 = .ok (.goto 4, 3) := by decide +kernel
theorem dX11_resultSuccessors_36 : decode cX11_resultSuccessors 36 = .ok (.lconst 0, 1) := by decide +kernel
theorem dX11_resultSuccessors_37 : decode cX11_resultSuccessors 37 = .ok (.lreturn, 1) := by decide +kernel
set_option maxRecDepth 20000 in
theorem ggX11_resultAmbiguity_X11_has : GoodIn wsX11_resultAmbiguity wsX11_has := goodIn_r _ [13] (by decide +kernel) (by decide +kernel)
set_option maxRecDepth 20000 in
theorem gX11_resultAmbiguity_X11_has : GoodIn wsX11_resultAmbiguity (va_wsS RX11 139 yX11_has wsX11_has) := goodIn_app (goodIn_of _ (by decide +kernel)) ggX11_resultAmbiguity_X11_has
theorem dX11_resultAmbiguity_0 : decode cX11_resultAmbiguity 0 = .ok (.aload_n 0, 1) := by decide +kernel
theorem dX11_resultAmbiguity_1 : decode cX11_resultAmbiguity 1 = .ok (.getfield 94, 3) := by decide +kernel
theorem dX11_resultAmbiguity_4 : decode cX11_resultAmbiguity 4 = .ok (.ifCond .ge 7, 3) := by decide +kernel
theorem dX11_resultAmbiguity_7 : decode cX11_resultAmbiguity 7 = .ok (.ldc2_w 300, 3) := by decide +kernel
theorem dX11_resultAmbiguity_10 : decode cX11_resultAmbiguity 10 = .ok (.lreturn, 1) := by decide +kernel
theorem dX11_resultAmbiguity_11 : decode cX11_resultAmbiguity 11 = .ok (.iconst 0, 1) := by decide +kernel
theorem dX11_resultAmbiguity_12 : decode cX11_resultAmbiguity 12 = .ok (.istore_n 1, 1) := by decide +kernel
theorem dX11_resultAmbiguity_13 : decode cX11_resultAmbiguity 13 = .ok (.iload_n 1, 1) := by decide +kernel
theorem dX11_resultAmbiguity_14 : decode cX11_resultAmbiguity 14 = .ok (.aload_n 0, 1) := by decide +kernel
theorem dX11_resultAmbiguity_15 : decode cX11_resultAmbiguity 15 = .ok (.getfield 94, 3) := by decide +kernel
theorem dX11_resultAmbiguity_18 : decode cX11_resultAmbiguity 18 = .ok (.if_icmp .ge 31, 3) := by decide +kernel
theorem dX11_resultAmbiguity_21 : decode cX11_resultAmbiguity 21 = .ok (.aload_n 0, 1) := by decide +kernel
theorem dX11_resultAmbiguity_22 : decode cX11_resultAmbiguity 22 = .ok (.getfield 38, 3) := by decide +kernel
theorem dX11_resultAmbiguity_25 : decode cX11_resultAmbiguity 25 = .ok (.iload_n 1, 1) := by decide +kernel
theorem dX11_resultAmbiguity_26 : decode cX11_resultAmbiguity 26 = .ok (.aload_n 0, 1) := by decide +kernel
theorem dX11_resultAmbiguity_27 : decode cX11_resultAmbiguity 27 = .ok (.getfield 347, 3) := by decide +kernel
theorem dX11_resultAmbiguity_30 : decode cX11_resultAmbiguity 30 = .ok (.iload_n 1, 1) := by decide +kernel
theorem dX11_resultAmbiguity_31 : decode cX11_resultAmbiguity 31 = .ok (.invokestatic 139, 3) := by decide +kernel
theorem dX11_resultAmbiguity_34 : decode cX11_resultAmbiguity 34 = .ok (.ifCond .eq 7, 3) := by decide +kernel
theorem dX11_resultAmbiguity_37 : decode cX11_resultAmbiguity 37 = .ok (.lconst 1, 1) := by decide +kernel
theorem dX11_resultAmbiguity_38 : decode cX11_resultAmbiguity 38 = .ok (.goto 4, 3) := by decide +kernel
theorem dX11_resultAmbiguity_41 : decode cX11_resultAmbiguity 41 = .ok (.lconst 0, 1) := by decide +kernel
theorem dX11_resultAmbiguity_42 : decode cX11_resultAmbiguity 42 = .ok (.lastore, 1) := by decide +kernel
theorem dX11_resultAmbiguity_43 : decode cX11_resultAmbiguity 43 = .ok (.iinc 1 1, 3) := by decide +kernel
theorem dX11_resultAmbiguity_46 : decode cX11_resultAmbiguity 46 = .ok (.goto (-33), 3) := by decide +kernel
theorem dX11_resultAmbiguity_49 : decode cX11_resultAmbiguity 49 = .ok (.iconst 0, 1) := by decide +kernel
theorem dX11_resultAmbiguity_50 : decode cX11_resultAmbiguity 50 = .ok (.istore_n 1, 1) := by decide +kernel
theorem dX11_resultAmbiguity_51 : decode cX11_resultAmbiguity 51 = .ok (.iload_n 1, 1) := by decide +kernel
theorem dX11_resultAmbiguity_52 : decode cX11_resultAmbiguity 52 = .ok (.aload_n 0, 1) := by decide +kernel
theorem dX11_resultAmbiguity_53 : decode cX11_resultAmbiguity 53 = .ok (.getfield 197, 3) := by decide +kernel
theorem dX11_resultAmbiguity_56 : decode cX11_resultAmbiguity 56 = .ok (.if_icmp .ge 117, 3) := by decide +kernel
theorem dX11_resultAmbiguity_59 : decode cX11_resultAmbiguity 59 = .ok (.iconst 0, 1) := by decide +kernel
theorem dX11_resultAmbiguity_60 : decode cX11_resultAmbiguity 60 = .ok (.istore_n 2, 1) := by decide +kernel
theorem dX11_resultAmbiguity_61 : decode cX11_resultAmbiguity 61 = .ok (.iload_n 2, 1) := by decide +kernel
theorem dX11_resultAmbiguity_62 : decode cX11_resultAmbiguity 62 = .ok (.aload_n 0, 1) := by decide +kernel
theorem dX11_resultAmbiguity_63 : decode cX11_resultAmbiguity 63 = .ok (.getfield 94, 3) := by decide +kernel
theorem dX11_resultAmbiguity_66 : decode cX11_resultAmbiguity 66 = .ok (.if_icmp .ge 73, 3) := by decide +kernel
theorem dX11_resultAmbiguity_69 : decode cX11_resultAmbiguity 69 = .ok (.aload_n 0, 1) := by decide +kernel
theorem dX11_resultAmbiguity_70 : decode cX11_resultAmbiguity 70 = .ok (.getfield 42, 3) := by decide +kernel
theorem dX11_resultAmbiguity_73 : decode cX11_resultAmbiguity 73 = .ok (.iload_n 2, 1) := by decide +kernel
theorem dX11_resultAmbiguity_74 : decode cX11_resultAmbiguity 74 = .ok (.lconst 0, 1) := by decide +kernel
theorem dX11_resultAmbiguity_75 : decode cX11_resultAmbiguity 75 = .ok (.lastore, 1) := by decide +kernel
theorem dX11_resultAmbiguity_76 : decode cX11_resultAmbiguity 76 = .ok (.iconst 0, 1) := by decide +kernel
theorem dX11_resultAmbiguity_77 : decode cX11_resultAmbiguity 77 = .ok (.istore_n 3, 1) := by decide +kernel
theorem dX11_resultAmbiguity_78 : decode cX11_resultAmbiguity 78 = .ok (.iload_n 3, 1) := by decide +kernel
theorem dX11_resultAmbiguity_79 : decode cX11_resultAmbiguity 79 = .ok (.aload_n 0, 1) := by decide +kernel
theorem dX11_resultAmbiguity_80 : decode cX11_resultAmbiguity 80 = .ok (.getfield 94, 3) := by decide +kernel
theorem dX11_resultAmbiguity_83 : decode cX11_resultAmbiguity 83 = .ok (.if_icmp .ge 50, 3) := by decide +kernel
theorem dX11_resultAmbiguity_86 : decode cX11_resultAmbiguity 86 = .ok (.aload_n 0, 1) := by decide +kernel
theorem dX11_resultAmbiguity_87 : decode cX11_resultAmbiguity 87 = .ok (.getfield 42, 3) := by decide +kernel
theorem dX11_resultAmbiguity_90 : decode cX11_resultAmbiguity 90 = .ok (.iload_n 2, 1) := by decide +kernel
theorem dX11_resultAmbiguity_91 : decode cX11_resultAmbiguity 91 = .ok (.dup2, 1) := by decide +kernel
theorem dX11_resultAmbiguity_92 : decode cX11_resultAmbiguity 92 = .ok (.laload, 1) := by decide +kernel
theorem dX11_resultAmbiguity_93 : decode cX11_resultAmbiguity 93 = .ok (.aload_n 0, 1) := by decide +kernel
theorem dX11_resultAmbiguity_94 : decode cX11_resultAmbiguity 94 = .ok (.getfield 88, 3) := by decide +kernel
theorem dX11_resultAmbiguity_97 : decode cX11_resultAmbiguity 97 = .ok (.iconst 3, 1) := by decide +kernel
theorem dX11_resultAmbiguity_98 : decode cX11_resultAmbiguity 98 = .ok (.iload_n 3, 1) := by decide +kernel
theorem dX11_resultAmbiguity_99 : decode cX11_resultAmbiguity 99 = .ok (.imul, 1) := by decide +kernel
theorem dX11_resultAmbiguity_100 : decode cX11_resultAmbiguity 100 = .ok (.aload_n 0, 1) := by decide +kernel
theorem dX11_resultAmbiguity_101 : decode cX11_resultAmbiguity 101 = .ok (.getfield 35, 3) := by decide +kernel
theorem dX11_resultAmbiguity_104 : decode cX11_resultAmbiguity 104 = .ok (.iload_n 1, 1) := by decide +kernel
theorem dX11_resultAmbiguity_105 : decode cX11_resultAmbiguity 105 = .ok (.iaload, 1) := by decide +kernel
theorem dX11_resultAmbiguity_106 : decode cX11_resultAmbiguity 106 = .ok (.iadd, 1) := by decide +kernel
theorem dX11_resultAmbiguity_107 : decode cX11_resultAmbiguity 107 = .ok (.laload, 1) := by decide +kernel
theorem dX11_resultAmbiguity_108 : decode cX11_resultAmbiguity 108 = .ok (.iload_n 2, 1) := by decide +kernel
theorem dX11_resultAmbiguity_109 : decode cX11_resultAmbiguity 109 = .ok (.invokestatic 139, 3) := by decide +kernel
theorem dX11_resultAmbiguity_112 : decode cX11_resultAmbiguity 112 = .ok (.ifCond .eq 12, 3) := by decide +kernel
theorem dX11_resultAmbiguity_115 : decode cX11_resultAmbiguity 115 = .ok (.aload_n 0, 1) := by decide +kernel
theorem dX11_resultAmbiguity_116 : decode cX11_resultAmbiguity 116 = .ok (.getfield 38, 3) := by decide +kernel
theorem dX11_resultAmbiguity_119 : decode cX11_resultAmbiguity 119 = .ok (.iload_n 3, 1) := by decide +kernel
theorem dX11_resultAmbiguity_120 : decode cX11_resultAmbiguity 120 = .ok (.laload, 1) := by decide +kernel
theorem dX11_resultAmbiguity_121 : decode cX11_resultAmbiguity 121 = .ok (.goto 4, 3) := by decide +kernel
theorem dX11_resultAmbiguity_124 : decode cX11_resultAmbiguity 124 = .ok (.lconst 0, 1) := by decide +kernel
theorem dX11_resultAmbiguity_125 : decode cX11_resultAmbiguity 125 = .ok (.ladd, 1) := by decide +kernel
theorem dX11_resultAmbiguity_126 : decode cX11_resultAmbiguity 126 = .ok (.lastore, 1) := by decide +kernel
theorem dX11_resultAmbiguity_127 : decode cX11_resultAmbiguity 127 = .ok (.iinc 3 1, 3) := by decide +kernel
theorem dX11_resultAmbiguity_130 : decode cX11_resultAmbiguity 130 = .ok (.goto (-52), 3) := by decide +kernel
theorem dX11_resultAmbiguity_133 : decode cX11_resultAmbiguity 133 = .ok (.iinc 2 1, 3) := by decide +kernel
theorem dX11_resultAmbiguity_136 : decode cX11_resultAmbiguity 136 = .ok (.goto (-75), 3) := by decide +kernel
theorem dX11_resultAmbiguity_139 : decode cX11_resultAmbiguity 139 = .ok (.iconst 0, 1) := by decide +kernel
theorem dX11_resultAmbiguity_140 : decode cX11_resultAmbiguity 140 = .ok (.istore_n 2, 1) := by decide +kernel
theorem dX11_resultAmbiguity_141 : decode cX11_resultAmbiguity 141 = .ok (.iload_n 2, 1) := by decide +kernel
theorem dX11_resultAmbiguity_142 : decode cX11_resultAmbiguity 142 = .ok (.aload_n 0, 1) := by decide +kernel
theorem dX11_resultAmbiguity_143 : decode cX11_resultAmbiguity 143 = .ok (.getfield 94, 3) := by decide +kernel
theorem dX11_resultAmbiguity_146 : decode cX11_resultAmbiguity 146 = .ok (.if_icmp .ge 21, 3) := by decide +kernel
theorem dX11_resultAmbiguity_149 : decode cX11_resultAmbiguity 149 = .ok (.aload_n 0, 1) := by decide +kernel
theorem dX11_resultAmbiguity_150 : decode cX11_resultAmbiguity 150 = .ok (.getfield 38, 3) := by decide +kernel
theorem dX11_resultAmbiguity_153 : decode cX11_resultAmbiguity 153 = .ok (.iload_n 2, 1) := by decide +kernel
theorem dX11_resultAmbiguity_154 : decode cX11_resultAmbiguity 154 = .ok (.aload_n 0, 1) := by decide +kernel
theorem dX11_resultAmbiguity_155 : decode cX11_resultAmbiguity 155 = .ok (.getfield 42, 3) := by decide +kernel
theorem dX11_resultAmbiguity_158 : decode cX11_resultAmbiguity 158 = .ok (.iload_n 2, 1) := by decide +kernel
theorem dX11_resultAmbiguity_159 : decode cX11_resultAmbiguity 159 = .ok (.laload, 1) := by decide +kernel
theorem dX11_resultAmbiguity_160 : decode cX11_resultAmbiguity 160 = .ok (.lastore, 1) := by decide +kernel
theorem dX11_resultAmbiguity_161 : decode cX11_resultAmbiguity 161 = .ok (.iinc 2 1, 3) := by decide +kernel
theorem dX11_resultAmbiguity_164 : decode cX11_resultAmbiguity 164 = .ok (.goto (-23), 3) := by decide +kernel
theorem dX11_resultAmbiguity_167 : decode cX11_resultAmbiguity 167 = .ok (.iinc 1 1, 3) := by decide +kernel
theorem dX11_resultAmbiguity_170 : decode cX11_resultAmbiguity 170 = .ok (.goto (-119), 3) := by decide +kernel
theorem dX11_resultAmbiguity_173 : decode cX11_resultAmbiguity 173 = .ok (.lconst 0, 1) := by decide +kernel
theorem dX11_resultAmbiguity_174 : decode cX11_resultAmbiguity 174 = .ok (.lstore_n 1, 1) := by decide +kernel
theorem dX11_resultAmbiguity_175 : decode cX11_resultAmbiguity 175 = .ok (.iconst 0, 1) := by decide +kernel
theorem dX11_resultAmbiguity_176 : decode cX11_resultAmbiguity 176 = .ok (.istore_n 3, 1) := by decide +kernel
theorem dX11_resultAmbiguity_177 : decode cX11_resultAmbiguity 177 = .ok (.iload_n 3, 1) := by decide +kernel
theorem dX11_resultAmbiguity_178 : decode cX11_resultAmbiguity 178 = .ok (.aload_n 0, 1) := by decide +kernel
theorem dX11_resultAmbiguity_179 : decode cX11_resultAmbiguity 179 = .ok (.getfield 94, 3) := by decide +kernel
theorem dX11_resultAmbiguity_182 : decode cX11_resultAmbiguity 182 = .ok (.if_icmp .ge 33, 3) := by decide +kernel
theorem dX11_resultAmbiguity_185 : decode cX11_resultAmbiguity 185 = .ok (.lload_n 1, 1) := by decide +kernel
theorem dX11_resultAmbiguity_186 : decode cX11_resultAmbiguity 186 = .ok (.aload_n 0, 1) := by decide +kernel
theorem dX11_resultAmbiguity_187 : decode cX11_resultAmbiguity 187 = .ok (.getfield 351, 3) := by decide +kernel
theorem dX11_resultAmbiguity_190 : decode cX11_resultAmbiguity 190 = .ok (.iload_n 3, 1) := by decide +kernel
theorem dX11_resultAmbiguity_191 : decode cX11_resultAmbiguity 191 = .ok (.invokestatic 139, 3) := by decide +kernel
theorem dX11_resultAmbiguity_194 : decode cX11_resultAmbiguity 194 = .ok (.ifCond .eq 12, 3) := by decide +kernel
theorem dX11_resultAmbiguity_197 : decode cX11_resultAmbiguity 197 = .ok (.aload_n 0, 1) := by decide +kernel
theorem dX11_resultAmbiguity_198 : decode cX11_resultAmbiguity 198 = .ok (.getfield 38, 3) := by decide +kernel
theorem dX11_resultAmbiguity_201 : decode cX11_resultAmbiguity 201 = .ok (.iload_n 3, 1) := by decide +kernel
theorem dX11_resultAmbiguity_202 : decode cX11_resultAmbiguity 202 = .ok (.laload, 1) := by decide +kernel
theorem dX11_resultAmbiguity_203 : decode cX11_resultAmbiguity 203 = .ok (.goto 4, 3) := by decide +kernel
theorem dX11_resultAmbiguity_206 : decode cX11_resultAmbiguity 206 = .ok (.lconst 0, 1) := by decide +kernel
theorem dX11_resultAmbiguity_207 : decode cX11_resultAmbiguity 207 = .ok (.ladd, 1) := by decide +kernel
theorem dX11_resultAmbiguity_208 : decode cX11_resultAmbiguity 208 = .ok (.lstore_n 1, 1) := by decide +kernel
theorem dX11_resultAmbiguity_209 : decode cX11_resultAmbiguity 209 = .ok (.iinc 3 1, 3) := by decide +kernel
theorem dX11_resultAmbiguity_212 : decode cX11_resultAmbiguity 212 = .ok (.goto (-35), 3) := by decide +kernel
theorem dX11_resultAmbiguity_215 : decode cX11_resultAmbiguity 215 = .ok (.lload_n 1, 1) := by decide +kernel
theorem dX11_resultAmbiguity_216 : decode cX11_resultAmbiguity 216 = .ok (.lreturn, 1) := by decide +kernel
theorem dX11_isShelf_0 : decode cX11_isShelf 0 = .ok (.iload_n 0, 1) := by decide +kernel
theorem dX11_isShelf_1 : decode cX11_isShelf 1 = .ok (.ifCond .lt 12, 3) := by decide +kernel
theorem dX11_isShelf_4 : decode cX11_isShelf 4 = .ok (.iload_n 0, 1) := by decide +kernel
theorem dX11_isShelf_5 : decode cX11_isShelf 5 = .ok (.iconst 4, 1) := by decide +kernel
theorem dX11_isShelf_6 : decode cX11_isShelf 6 = .ok (.if_icmp .ge 7, 3) := by decide +kernel
theorem dX11_isShelf_9 : decode cX11_isShelf 9 = .ok (.iconst 1, 1) := by decide +kernel
theorem dX11_isShelf_10 : decode cX11_isShelf 10 = .ok (.goto 4, 3) := by decide +kernel
theorem dX11_isShelf_13 : decode cX11_isShelf 13 = .ok (.iconst 0, 1) := by decide +kernel
theorem dX11_isShelf_14 : decode cX11_isShelf 14 = .ok (.ireturn, 1) := by decide +kernel
set_option maxRecDepth 20000 in
theorem ggX11_keepWord_X11_isShelf : GoodIn wsX11_keepWord wsX11_isShelf := goodIn_r _ [9] (by decide +kernel) (by decide +kernel)
set_option maxRecDepth 20000 in
theorem gX11_keepWord_X11_isShelf : GoodIn wsX11_keepWord (va_wsS RX11 354 yX11_isShelf wsX11_isShelf) := goodIn_app (goodIn_of _ (by decide +kernel)) ggX11_keepWord_X11_isShelf
theorem dX11_keepWord_0 : decode cX11_keepWord 0 = .ok (.iload_n 1, 1) := by decide +kernel
theorem dX11_keepWord_1 : decode cX11_keepWord 1 = .ok (.invokestatic 354, 3) := by decide +kernel
theorem dX11_keepWord_4 : decode cX11_keepWord 4 = .ok (.ifCond .ne 5, 3) := by decide +kernel
theorem dX11_keepWord_7 : decode cX11_keepWord 7 = .ok (.iconst (-1), 1) := by decide +kernel
theorem dX11_keepWord_8 : decode cX11_keepWord 8 = .ok (.ireturn, 1) := by decide +kernel
theorem dX11_keepWord_9 : decode cX11_keepWord 9 = .ok (.aload_n 0, 1) := by decide +kernel
theorem dX11_keepWord_10 : decode cX11_keepWord 10 = .ok (.getfield 97, 3) := by decide +kernel
theorem dX11_keepWord_13 : decode cX11_keepWord 13 = .ok (.iload_n 1, 1) := by decide +kernel
theorem dX11_keepWord_14 : decode cX11_keepWord 14 = .ok (.iconst 1, 1) := by decide +kernel
theorem dX11_keepWord_15 : decode cX11_keepWord 15 = .ok (.iastore, 1) := by decide +kernel
theorem dX11_keepWord_16 : decode cX11_keepWord 16 = .ok (.aload_n 0, 1) := by decide +kernel
theorem dX11_keepWord_17 : decode cX11_keepWord 17 = .ok (.getfield 100, 3) := by decide +kernel
theorem dX11_keepWord_20 : decode cX11_keepWord 20 = .ok (.iload_n 1, 1) := by decide +kernel
theorem dX11_keepWord_21 : decode cX11_keepWord 21 = .ok (.aload_n 0, 1) := by decide +kernel
theorem dX11_keepWord_22 : decode cX11_keepWord 22 = .ok (.getfield 197, 3) := by decide +kernel
theorem dX11_keepWord_25 : decode cX11_keepWord 25 = .ok (.iastore, 1) := by decide +kernel
theorem dX11_keepWord_26 : decode cX11_keepWord 26 = .ok (.iconst 0, 1) := by decide +kernel
theorem dX11_keepWord_27 : decode cX11_keepWord 27 = .ok (.istore_n 2, 1) := by decide +kernel
theorem dX11_keepWord_28 : decode cX11_keepWord 28 = .ok (.iload_n 2, 1) := by decide +kernel
theorem dX11_keepWord_29 : decode cX11_keepWord 29 = .ok (.aload_n 0, 1) := by decide +kernel
theorem dX11_keepWord_30 : decode cX11_keepWord 30 = .ok (.getfield 197, 3) := by decide +kernel
theorem dX11_keepWord_33 : decode cX11_keepWord 33 = .ok (.if_icmp .ge 27, 3) := by decide +kernel
theorem dX11_keepWord_36 : decode cX11_keepWord 36 = .ok (.aload_n 0, 1) := by decide +kernel
theorem dX11_keepWord_37 : decode cX11_keepWord 37 = .ok (.getfield 103, 3) := by decide +kernel
theorem dX11_keepWord_40 : decode cX11_keepWord 40 = .ok (.bipush 31, 2) := by decide +kernel
theorem dX11_keepWord_42 : decode cX11_keepWord 42 = .ok (.iload_n 1, 1) := by decide +kernel
theorem dX11_keepWord_43 : decode cX11_keepWord 43 = .ok (.imul, 1) := by decide +kernel
theorem dX11_keepWord_44 : decode cX11_keepWord 44 = .ok (.iload_n 2, 1) := by decide +kernel
theorem dX11_keepWord_45 : decode cX11_keepWord 45 = .ok (.iadd, 1) := by decide +kernel
theorem dX11_keepWord_46 : decode cX11_keepWord 46 = .ok (.aload_n 0, 1) := by decide +kernel
theorem dX11_keepWord_47 : decode cX11_keepWord 47 = .ok (.getfield 35, 3) := by decide +kernel
theorem dX11_keepWord_50 : decode cX11_keepWord 50 = .ok (.iload_n 2, 1) := by decide +kernel
theorem dX11_keepWord_51 : decode cX11_keepWord 51 = .ok (.iaload, 1) := by decide +kernel
theorem dX11_keepWord_52 : decode cX11_keepWord 52 = .ok (.i2l, 1) := by decide +kernel
theorem dX11_keepWord_53 : decode cX11_keepWord 53 = .ok (.lastore, 1) := by decide +kernel
theorem dX11_keepWord_54 : decode cX11_keepWord 54 = .ok (.iinc 2 1, 3) := by decide +kernel
theorem dX11_keepWord_57 : decode cX11_keepWord 57 = .ok (.goto (-29), 3) := by decide +kernel
theorem dX11_keepWord_60 : decode cX11_keepWord 60 = .ok (.aload_n 0, 1) := by decide +kernel
theorem dX11_keepWord_61 : decode cX11_keepWord 61 = .ok (.getfield 197, 3) := by decide +kernel
theorem dX11_keepWord_64 : decode cX11_keepWord 64 = .ok (.ireturn, 1) := by decide +kernel
set_option maxRecDepth 20000 in
theorem ggX11_keepCounts_X11_isShelf : GoodIn wsX11_keepCounts wsX11_isShelf := goodIn_r _ [9] (by decide +kernel) (by decide +kernel)
set_option maxRecDepth 20000 in
theorem gX11_keepCounts_X11_isShelf : GoodIn wsX11_keepCounts (va_wsS RX11 354 yX11_isShelf wsX11_isShelf) := goodIn_app (goodIn_of _ (by decide +kernel)) ggX11_keepCounts_X11_isShelf
set_option maxRecDepth 20000 in
theorem ggX11_keepCounts_X11_isBetween : GoodIn wsX11_keepCounts wsX11_isBetween := goodIn_r _ [12] (by decide +kernel) (by decide +kernel)
set_option maxRecDepth 20000 in
theorem gX11_keepCounts_X11_isBetween : GoodIn wsX11_keepCounts (va_wsS RX11 124 yX11_isBetween wsX11_isBetween) := goodIn_app (goodIn_of _ (by decide +kernel)) ggX11_keepCounts_X11_isBetween
set_option maxRecDepth 20000 in
theorem ggX11_keepCounts_X11_pathsOf : GoodIn wsX11_keepCounts wsX11_pathsOf := goodIn_r _ [16, 17, 18, 19, 20, 21, 22, 23, 24, 8, 25, 26, 27, 28, 29, 30, 31, 32, 33, 34, 35, 36, 37, 38, 39, 40, 41, 42, 43, 44, 45, 46, 47, 48, 49, 50, 51, 52, 53, 54, 55, 56, 57, 58, 59, 60, 61, 62, 63, 64, 65, 66, 67, 68, 69, 70, 71, 72, 73, 74, 75, 76, 77, 78, 79, 80] (by decide +kernel) (by decide +kernel)
set_option maxRecDepth 20000 in
theorem gX11_keepCounts_X11_pathsOf : GoodIn wsX11_keepCounts (wsV RX11 214 RX11 yX11_pathsOf wsX11_pathsOf) := goodIn_app (goodIn_of _ (by decide +kernel)) ggX11_keepCounts_X11_pathsOf
theorem dX11_keepCounts_0 : decode cX11_keepCounts 0 = .ok (.iload_n 1, 1) := by decide +kernel
theorem dX11_keepCounts_1 : decode cX11_keepCounts 1 = .ok (.invokestatic 354, 3) := by decide +kernel
theorem dX11_keepCounts_4 : decode cX11_keepCounts 4 = .ok (.ifCond .ne 5, 3) := by decide +kernel
theorem dX11_keepCounts_7 : decode cX11_keepCounts 7 = .ok (.iconst (-1), 1) := by decide +kernel
theorem dX11_keepCounts_8 : decode cX11_keepCounts 8 = .ok (.ireturn, 1) := by decide +kernel
theorem dX11_keepCounts_9 : decode cX11_keepCounts 9 = .ok (.iload_n 2, 1) := by decide +kernel
theorem dX11_keepCounts_10 : decode cX11_keepCounts 10 = .ok (.i2l, 1) := by decide +kernel
theorem dX11_keepCounts_11 : decode cX11_keepCounts 11 = .ok (.lconst 0, 1) := by decide +kernel
theorem dX11_keepCounts_12 : decode cX11_keepCounts 12 = .ok (.ldc2_w 357, 3) := by decide +kernel
theorem dX11_keepCounts_15 : decode cX11_keepCounts 15 = .ok (.invokestatic 124, 3) := by decide +kernel
theorem dX11_keepCounts_18 : decode cX11_keepCounts 18 = .ok (.ifCond .ne 6, 3) := by decide +kernel
theorem dX11_keepCounts_21 : decode cX11_keepCounts 21 = .ok (.bipush (-2), 2) := by decide +kernel
theorem dX11_keepCounts_23 : decode cX11_keepCounts 23 = .ok (.ireturn, 1) := by decide +kernel
theorem dX11_keepCounts_24 : decode cX11_keepCounts 24 = .ok (.iconst 0, 1) := by decide +kernel
theorem dX11_keepCounts_25 : decode cX11_keepCounts 25 = .ok (.istore_n 3, 1) := by decide +kernel
theorem dX11_keepCounts_26 : decode cX11_keepCounts 26 = .ok (.iload_n 3, 1) := by decide +kernel
theorem dX11_keepCounts_27 : decode cX11_keepCounts 27 = .ok (.iload_n 2, 1) := by decide +kernel
theorem dX11_keepCounts_28 : decode cX11_keepCounts 28 = .ok (.if_icmp .gt 34, 3) := by decide +kernel
theorem dX11_keepCounts_31 : decode cX11_keepCounts 31 = .ok (.aload_n 0, 1) := by decide +kernel
theorem dX11_keepCounts_32 : decode cX11_keepCounts 32 = .ok (.getfield 106, 3) := by decide +kernel
theorem dX11_keepCounts_35 : decode cX11_keepCounts 35 = .ok (.iload_n 3, 1) := by decide +kernel
theorem dX11_keepCounts_36 : decode cX11_keepCounts 36 = .ok (.aload_n 0, 1) := by decide +kernel
theorem dX11_keepCounts_37 : decode cX11_keepCounts 37 = .ok (.iload_n 3, 1) := by decide +kernel
theorem dX11_keepCounts_38 : decode cX11_keepCounts 38 = .ok (.invokevirtual 214, 3) := by decide +kernel
theorem dX11_keepCounts_41 : decode cX11_keepCounts 41 = .ok (.lastore, 1) := by decide +kernel
theorem dX11_keepCounts_42 : decode cX11_keepCounts 42 = .ok (.aload_n 0, 1) := by decide +kernel
theorem dX11_keepCounts_43 : decode cX11_keepCounts 43 = .ok (.getfield 106, 3) := by decide +kernel
theorem dX11_keepCounts_46 : decode cX11_keepCounts 46 = .ok (.iload_n 3, 1) := by decide +kernel
theorem dX11_keepCounts_47 : decode cX11_keepCounts 47 = .ok (.laload, 1) := by decide +kernel
theorem dX11_keepCounts_48 : decode cX11_keepCounts 48 = .ok (.lconst 0, 1) := by decide +kernel
theorem dX11_keepCounts_49 : decode cX11_keepCounts 49 = .ok (.lcmp, 1) := by decide +kernel
theorem dX11_keepCounts_50 : decode cX11_keepCounts 50 = .ok (.ifCond .ge 6, 3) := by decide +kernel
theorem dX11_keepCounts_53 : decode cX11_keepCounts 53 = .ok (.bipush (-6), 2) := by decide +kernel
theorem dX11_keepCounts_55 : decode cX11_keepCounts 55 = .ok (.ireturn, 1) := by decide +kernel
theorem dX11_keepCounts_56 : decode cX11_keepCounts 56 = .ok (.iinc 3 1, 3) := by decide +kernel
theorem dX11_keepCounts_59 : decode cX11_keepCounts 59 = .ok (.goto (-33), 3) := by decide +kernel
theorem dX11_keepCounts_62 : decode cX11_keepCounts 62 = .ok (.aload_n 0, 1) := by decide +kernel
theorem dX11_keepCounts_63 : decode cX11_keepCounts 63 = .ok (.getfield 97, 3) := by decide +kernel
theorem dX11_keepCounts_66 : decode cX11_keepCounts 66 = .ok (.iload_n 1, 1) := by decide +kernel
theorem dX11_keepCounts_67 : decode cX11_keepCounts 67 = .ok (.iconst 2, 1) := by decide +kernel
theorem dX11_keepCounts_68 : decode cX11_keepCounts 68 = .ok (.iastore, 1) := by decide +kernel
theorem dX11_keepCounts_69 : decode cX11_keepCounts 69 = .ok (.aload_n 0, 1) := by decide +kernel
theorem dX11_keepCounts_70 : decode cX11_keepCounts 70 = .ok (.getfield 100, 3) := by decide +kernel
theorem dX11_keepCounts_73 : decode cX11_keepCounts 73 = .ok (.iload_n 1, 1) := by decide +kernel
theorem dX11_keepCounts_74 : decode cX11_keepCounts 74 = .ok (.iload_n 2, 1) := by decide +kernel
theorem dX11_keepCounts_75 : decode cX11_keepCounts 75 = .ok (.iconst 1, 1) := by decide +kernel
theorem dX11_keepCounts_76 : decode cX11_keepCounts 76 = .ok (.iadd, 1) := by decide +kernel
theorem dX11_keepCounts_77 : decode cX11_keepCounts 77 = .ok (.iastore, 1) := by decide +kernel
theorem dX11_keepCounts_78 : decode cX11_keepCounts 78 = .ok (.iconst 0, 1) := by decide +kernel
theorem dX11_keepCounts_79 : decode cX11_keepCounts 79 = .ok (.istore_n 3, 1) := by decide +kernel
theorem dX11_keepCounts_80 : decode cX11_keepCounts 80 = .ok (.iload_n 3, 1) := by decide +kernel
theorem dX11_keepCounts_81 : decode cX11_keepCounts 81 = .ok (.iload_n 2, 1) := by decide +kernel
theorem dX11_keepCounts_82 : decode cX11_keepCounts 82 = .ok (.if_icmp .gt 26, 3) := by decide +kernel
theorem dX11_keepCounts_85 : decode cX11_keepCounts 85 = .ok (.aload_n 0, 1) := by decide +kernel
theorem dX11_keepCounts_86 : decode cX11_keepCounts 86 = .ok (.getfield 103, 3) := by decide +kernel
theorem dX11_keepCounts_89 : decode cX11_keepCounts 89 = .ok (.bipush 31, 2) := by decide +kernel
theorem dX11_keepCounts_91 : decode cX11_keepCounts 91 = .ok (.iload_n 1, 1) := by decide +kernel
theorem dX11_keepCounts_92 : decode cX11_keepCounts 92 = .ok (.imul, 1) := by decide +kernel
theorem dX11_keepCounts_93 : decode cX11_keepCounts 93 = .ok (.iload_n 3, 1) := by decide +kernel
theorem dX11_keepCounts_94 : decode cX11_keepCounts 94 = .ok (.iadd, 1) := by decide +kernel
theorem dX11_keepCounts_95 : decode cX11_keepCounts 95 = .ok (.aload_n 0, 1) := by decide +kernel
theorem dX11_keepCounts_96 : decode cX11_keepCounts 96 = .ok (.getfield 106, 3) := by decide +kernel
theorem dX11_keepCounts_99 : decode cX11_keepCounts 99 = .ok (.iload_n 3, 1) := by decide +kernel
theorem dX11_keepCounts_100 : decode cX11_keepCounts 100 = .ok (.laload, 1) := by decide +kernel
theorem dX11_keepCounts_101 : decode cX11_keepCounts 101 = .ok (.lastore, 1) := by decide +kernel
theorem dX11_keepCounts_102 : decode cX11_keepCounts 102 = .ok (.iinc 3 1, 3) := by decide +kernel
theorem dX11_keepCounts_105 : decode cX11_keepCounts 105 = .ok (.goto (-25), 3) := by decide +kernel
theorem dX11_keepCounts_108 : decode cX11_keepCounts 108 = .ok (.iload_n 2, 1) := by decide +kernel
theorem dX11_keepCounts_109 : decode cX11_keepCounts 109 = .ok (.iconst 1, 1) := by decide +kernel
theorem dX11_keepCounts_110 : decode cX11_keepCounts 110 = .ok (.iadd, 1) := by decide +kernel
theorem dX11_keepCounts_111 : decode cX11_keepCounts 111 = .ok (.ireturn, 1) := by decide +kernel
set_option maxRecDepth 20000 in
theorem ggX11_useWord_X11_isShelf : GoodIn wsX11_useWord wsX11_isShelf := goodIn_r _ [9] (by decide +kernel) (by decide +kernel)
set_option maxRecDepth 20000 in
theorem gX11_useWord_X11_isShelf : GoodIn wsX11_useWord (va_wsS RX11 354 yX11_isShelf wsX11_isShelf) := goodIn_app (goodIn_of _ (by decide +kernel)) ggX11_useWord_X11_isShelf
theorem dX11_useWord_0 : decode cX11_useWord 0 = .ok (.iload_n 1, 1) := by decide +kernel
theorem dX11_useWord_1 : decode cX11_useWord 1 = .ok (.invokestatic 354, 3) := by decide +kernel
theorem dX11_useWord_4 : decode cX11_useWord 4 = .ok (.ifCond .ne 5, 3) := by decide +kernel
theorem dX11_useWord_7 : decode cX11_useWord 7 = .ok (.iconst (-1), 1) := by decide +kernel
theorem dX11_useWord_8 : decode cX11_useWord 8 = .ok (.ireturn, 1) := by decide +kernel
theorem dX11_useWord_9 : decode cX11_useWord 9 = .ok (.aload_n 0, 1) := by decide +kernel
theorem dX11_useWord_10 : decode cX11_useWord 10 = .ok (.getfield 97, 3) := by decide +kernel
theorem dX11_useWord_13 : decode cX11_useWord 13 = .ok (.iload_n 1, 1) := by decide +kernel
theorem dX11_useWord_14 : decode cX11_useWord 14 = .ok (.iaload, 1) := by decide +kernel
theorem dX11_useWord_15 : decode cX11_useWord 15 = .ok (.ifCond .ne 6, 3) := by decide +kernel
theorem dX11_useWord_18 : decode cX11_useWord 18 = .ok (.bipush (-7), 2) := by decide +kernel
theorem dX11_useWord_20 : decode cX11_useWord 20 = .ok (.ireturn, 1) := by decide +kernel
theorem dX11_useWord_21 : decode cX11_useWord 21 = .ok (.aload_n 0, 1) := by decide +kernel
theorem dX11_useWord_22 : decode cX11_useWord 22 = .ok (.getfield 97, 3) := by decide +kernel
theorem dX11_useWord_25 : decode cX11_useWord 25 = .ok (.iload_n 1, 1) := by decide +kernel
theorem dX11_useWord_26 : decode cX11_useWord 26 = .ok (.iaload, 1) := by decide +kernel
theorem dX11_useWord_27 : decode cX11_useWord 27 = .ok (.iconst 2, 1) := by decide +kernel
theorem dX11_useWord_28 : decode cX11_useWord 28 = .ok (.if_icmp .ne 6, 3) := by decide +kernel
theorem dX11_useWord_31 : decode cX11_useWord 31 = .ok (.bipush (-8), 2) := by decide +kernel
theorem dX11_useWord_33 : decode cX11_useWord 33 = .ok (.ireturn, 1) := by decide +kernel
theorem dX11_useWord_34 : decode cX11_useWord 34 = .ok (.aload_n 0, 1) := by decide +kernel
theorem dX11_useWord_35 : decode cX11_useWord 35 = .ok (.aload_n 0, 1) := by decide +kernel
theorem dX11_useWord_36 : decode cX11_useWord 36 = .ok (.getfield 100, 3) := by decide +kernel
theorem dX11_useWord_39 : decode cX11_useWord 39 = .ok (.iload_n 1, 1) := by decide +kernel
theorem dX11_useWord_40 : decode cX11_useWord 40 = .ok (.iaload, 1) := by decide +kernel
theorem dX11_useWord_41 : decode cX11_useWord 41 = .ok (.putfield 197, 3) := by decide +kernel
theorem dX11_useWord_44 : decode cX11_useWord 44 = .ok (.iconst 0, 1) := by decide +kernel
theorem dX11_useWord_45 : decode cX11_useWord 45 = .ok (.istore_n 2, 1) := by decide +kernel
theorem dX11_useWord_46 : decode cX11_useWord 46 = .ok (.iload_n 2, 1) := by decide +kernel
theorem dX11_useWord_47 : decode cX11_useWord 47 = .ok (.aload_n 0, 1) := by decide +kernel
theorem dX11_useWord_48 : decode cX11_useWord 48 = .ok (.getfield 197, 3) := by decide +kernel
theorem dX11_useWord_51 : decode cX11_useWord 51 = .ok (.if_icmp .ge 27, 3) := by decide +kernel
theorem dX11_useWord_54 : decode cX11_useWord 54 = .ok (.aload_n 0, 1) := by decide +kernel
theorem dX11_useWord_55 : decode cX11_useWord 55 = .ok (.getfield 35, 3) := by decide +kernel
theorem dX11_useWord_58 : decode cX11_useWord 58 = .ok (.iload_n 2, 1) := by decide +kernel
theorem dX11_useWord_59 : decode cX11_useWord 59 = .ok (.aload_n 0, 1) := by decide +kernel
theorem dX11_useWord_60 : decode cX11_useWord 60 = .ok (.getfield 103, 3) := by decide +kernel
theorem dX11_useWord_63 : decode cX11_useWord 63 = .ok (.bipush 31, 2) := by decide +kernel
theorem dX11_useWord_65 : decode cX11_useWord 65 = .ok (.iload_n 1, 1) := by decide +kernel
theorem dX11_useWord_66 : decode cX11_useWord 66 = .ok (.imul, 1) := by decide +kernel
theorem dX11_useWord_67 : decode cX11_useWord 67 = .ok (.iload_n 2, 1) := by decide +kernel
theorem dX11_useWord_68 : decode cX11_useWord 68 = .ok (.iadd, 1) := by decide +kernel
theorem dX11_useWord_69 : decode cX11_useWord 69 = .ok (.laload, 1) := by decide +kernel
theorem dX11_useWord_70 : decode cX11_useWord 70 = .ok (.l2i, 1) := by decide +kernel
theorem dX11_useWord_71 : decode cX11_useWord 71 = .ok (.iastore, 1) := by decide +kernel
theorem dX11_useWord_72 : decode cX11_useWord 72 = .ok (.iinc 2 1, 3) := by decide +kernel
theorem dX11_useWord_75 : decode cX11_useWord 75 = .ok (.goto (-29), 3) := by decide +kernel
theorem dX11_useWord_78 : decode cX11_useWord 78 = .ok (.aload_n 0, 1) := by decide +kernel
theorem dX11_useWord_79 : decode cX11_useWord 79 = .ok (.getfield 197, 3) := by decide +kernel
theorem dX11_useWord_82 : decode cX11_useWord 82 = .ok (.ireturn, 1) := by decide +kernel
set_option maxRecDepth 20000 in
theorem ggX11_shelfElement_X11_isShelf : GoodIn wsX11_shelfElement wsX11_isShelf := goodIn_r _ [9] (by decide +kernel) (by decide +kernel)
set_option maxRecDepth 20000 in
theorem gX11_shelfElement_X11_isShelf : GoodIn wsX11_shelfElement (va_wsS RX11 354 yX11_isShelf wsX11_isShelf) := goodIn_app (goodIn_of _ (by decide +kernel)) ggX11_shelfElement_X11_isShelf
set_option maxRecDepth 20000 in
theorem ggX11_shelfElement_X11_isBetween : GoodIn wsX11_shelfElement wsX11_isBetween := goodIn_r _ [12] (by decide +kernel) (by decide +kernel)
set_option maxRecDepth 20000 in
theorem gX11_shelfElement_X11_isBetween : GoodIn wsX11_shelfElement (va_wsS RX11 124 yX11_isBetween wsX11_isBetween) := goodIn_app (goodIn_of _ (by decide +kernel)) ggX11_shelfElement_X11_isBetween
theorem dX11_shelfElement_0 : decode cX11_shelfElement 0 = .ok (.iload_n 1, 1) := by decide +kernel
theorem dX11_shelfElement_1 : decode cX11_shelfElement 1 = .ok (.invokestatic 354, 3) := by decide +kernel
theorem dX11_shelfElement_4 : decode cX11_shelfElement 4 = .ok (.ifCond .ne 7, 3) := by decide +kernel
theorem dX11_shelfElement_7 : decode cX11_shelfElement 7 = .ok (.ldc2_w 204, 3) := by decide +kernel
theorem dX11_shelfElement_10 : decode cX11_shelfElement 10 = .ok (.lreturn, 1) := by decide +kernel
theorem dX11_shelfElement_11 : decode cX11_shelfElement 11 = .ok (.aload_n 0, 1) := by decide +kernel
theorem dX11_shelfElement_12 : decode cX11_shelfElement 12 = .ok (.getfield 97, 3) := by decide +kernel
theorem dX11_shelfElement_15 : decode cX11_shelfElement 15 = .ok (.iload_n 1, 1) := by decide +kernel
theorem dX11_shelfElement_16 : decode cX11_shelfElement 16 = .ok (.iaload, 1) := by decide +kernel
theorem dX11_shelfElement_17 : decode cX11_shelfElement 17 = .ok (.ifCond .ne 7, 3) := by decide +kernel
theorem dX11_shelfElement_20 : decode cX11_shelfElement 20 = .ok (.ldc2_w 359, 3) := by decide +kernel
theorem dX11_shelfElement_23 : decode cX11_shelfElement 23 = .ok (.lreturn, 1) := by decide +kernel
theorem dX11_shelfElement_24 : decode cX11_shelfElement 24 = .ok (.iload_n 2, 1) := by decide +kernel
theorem dX11_shelfElement_25 : decode cX11_shelfElement 25 = .ok (.i2l, 1) := by decide +kernel
theorem dX11_shelfElement_26 : decode cX11_shelfElement 26 = .ok (.lconst 0, 1) := by decide +kernel
theorem dX11_shelfElement_27 : decode cX11_shelfElement 27 = .ok (.aload_n 0, 1) := by decide +kernel
theorem dX11_shelfElement_28 : decode cX11_shelfElement 28 = .ok (.getfield 100, 3) := by decide +kernel
theorem dX11_shelfElement_31 : decode cX11_shelfElement 31 = .ok (.iload_n 1, 1) := by decide +kernel
theorem dX11_shelfElement_32 : decode cX11_shelfElement 32 = .ok (.iaload, 1) := by decide +kernel
theorem dX11_shelfElement_33 : decode cX11_shelfElement 33 = .ok (.iconst 1, 1) := by decide +kernel
theorem dX11_shelfElement_34 : decode cX11_shelfElement 34 = .ok (.isub, 1) := by decide +kernel
theorem dX11_shelfElement_35 : decode cX11_shelfElement 35 = .ok (.i2l, 1) := by decide +kernel
theorem dX11_shelfElement_36 : decode cX11_shelfElement 36 = .ok (.invokestatic 124, 3) := by decide +kernel
theorem dX11_shelfElement_39 : decode cX11_shelfElement 39 = .ok (.ifCond .eq 17, 3) := by decide +kernel
theorem dX11_shelfElement_42 : decode cX11_shelfElement 42 = .ok (.aload_n 0, 1) := by decide +kernel
theorem dX11_shelfElement_43 : decode cX11_shelfElement 43 = .ok (.getfield 103, 3) := by decide +kernel
theorem dX11_shelfElement_46 : decode cX11_shelfElement 46 = .ok (.bipush 31, 2) := by decide +kernel
theorem dX11_shelfElement_48 : decode cX11_shelfElement 48 = .ok (.iload_n 1, 1) := by decide +kernel
theorem dX11_shelfElement_49 : decode cX11_shelfElement 49 = .ok (.imul, 1) := by decide +kernel
theorem dX11_shelfElement_50 : decode cX11_shelfElement 50 = .ok (.iload_n 2, 1) := by decide +kernel
theorem dX11_shelfElement_51 : decode cX11_shelfElement 51 = .ok (.iadd, 1) := by decide +kernel
theorem dX11_shelfElement_52 : decode cX11_shelfElement 52 = .ok (.laload, 1) := by decide +kernel
theorem dX11_shelfElement_53 : decode cX11_shelfElement 53 = .ok (.goto 6, 3) := by decide +kernel
theorem dX11_shelfElement_56 : decode cX11_shelfElement 56 = .ok (.ldc2_w 204, 3) := by decide +kernel
theorem dX11_shelfElement_59 : decode cX11_shelfElement 59 = .ok (.lreturn, 1) := by decide +kernel
theorem dX11_save_0 : decode cX11_save 0 = .ok (.aload_n 0, 1) := by decide +kernel
theorem dX11_save_1 : decode cX11_save 1 = .ok (.iconst 1, 1) := by decide +kernel
theorem dX11_save_2 : decode cX11_save 2 = .ok (.putfield 361, 3) := by decide +kernel
theorem dX11_save_5 : decode cX11_save 5 = .ok (.iconst 0, 1) := by decide +kernel
theorem dX11_save_6 : decode cX11_save 6 = .ok (.istore_n 1, 1) := by decide +kernel
theorem dX11_save_7 : decode cX11_save 7 = .ok (.iload_n 1, 1) := by decide +kernel
theorem dX11_save_8 : decode cX11_save 8 = .ok (.bipush 18, 2) := by decide +kernel
theorem dX11_save_10 : decode cX11_save 10 = .ok (.if_icmp .ge 21, 3) := by decide +kernel
theorem dX11_save_13 : decode cX11_save 13 = .ok (.aload_n 0, 1) := by decide +kernel
theorem dX11_save_14 : decode cX11_save 14 = .ok (.getfield 109, 3) := by decide +kernel
theorem dX11_save_17 : decode cX11_save 17 = .ok (.iload_n 1, 1) := by decide +kernel
theorem dX11_save_18 : decode cX11_save 18 = .ok (.aload_n 0, 1) := by decide +kernel
theorem dX11_save_19 : decode cX11_save 19 = .ok (.getfield 7, 3) := by decide +kernel
theorem dX11_save_22 : decode cX11_save 22 = .ok (.iload_n 1, 1) := by decide +kernel
theorem dX11_save_23 : decode cX11_save 23 = .ok (.iaload, 1) := by decide +kernel
theorem dX11_save_24 : decode cX11_save 24 = .ok (.iastore, 1) := by decide +kernel
theorem dX11_save_25 : decode cX11_save 25 = .ok (.iinc 1 1, 3) := by decide +kernel
theorem dX11_save_28 : decode cX11_save 28 = .ok (.goto (-21), 3) := by decide +kernel
theorem dX11_save_31 : decode cX11_save 31 = .ok (.iconst 0, 1) := by decide +kernel
theorem dX11_save_32 : decode cX11_save 32 = .ok (.istore_n 1, 1) := by decide +kernel
theorem dX11_save_33 : decode cX11_save 33 = .ok (.iload_n 1, 1) := by decide +kernel
theorem dX11_save_34 : decode cX11_save 34 = .ok (.iconst 3, 1) := by decide +kernel
theorem dX11_save_35 : decode cX11_save 35 = .ok (.if_icmp .ge 24, 3) := by decide +kernel
theorem dX11_save_38 : decode cX11_save 38 = .ok (.aload_n 0, 1) := by decide +kernel
theorem dX11_save_39 : decode cX11_save 39 = .ok (.getfield 109, 3) := by decide +kernel
theorem dX11_save_42 : decode cX11_save 42 = .ok (.bipush 18, 2) := by decide +kernel
theorem dX11_save_44 : decode cX11_save 44 = .ok (.iload_n 1, 1) := by decide +kernel
theorem dX11_save_45 : decode cX11_save 45 = .ok (.iadd, 1) := by decide +kernel
theorem dX11_save_46 : decode cX11_save 46 = .ok (.aload_n 0, 1) := by decide +kernel
theorem dX11_save_47 : decode cX11_save 47 = .ok (.getfield 16, 3) := by decide +kernel
theorem dX11_save_50 : decode cX11_save 50 = .ok (.iload_n 1, 1) := by decide +kernel
theorem dX11_save_51 : decode cX11_save 51 = .ok (.iaload, 1) := by decide +kernel
theorem dX11_save_52 : decode cX11_save 52 = .ok (.iastore, 1) := by decide +kernel
theorem dX11_save_53 : decode cX11_save 53 = .ok (.iinc 1 1, 3) := by decide +kernel
theorem dX11_save_56 : decode cX11_save 56 = .ok (.goto (-23), 3) := by decide +kernel
theorem dX11_save_59 : decode cX11_save 59 = .ok (.aload_n 0, 1) := by decide +kernel
theorem dX11_save_60 : decode cX11_save 60 = .ok (.getfield 109, 3) := by decide +kernel
theorem dX11_save_63 : decode cX11_save 63 = .ok (.bipush 21, 2) := by decide +kernel
theorem dX11_save_65 : decode cX11_save 65 = .ok (.aload_n 0, 1) := by decide +kernel
theorem dX11_save_66 : decode cX11_save 66 = .ok (.getfield 19, 3) := by decide +kernel
theorem dX11_save_69 : decode cX11_save 69 = .ok (.iastore, 1) := by decide +kernel
theorem dX11_save_70 : decode cX11_save 70 = .ok (.aload_n 0, 1) := by decide +kernel
theorem dX11_save_71 : decode cX11_save 71 = .ok (.getfield 109, 3) := by decide +kernel
theorem dX11_save_74 : decode cX11_save 74 = .ok (.bipush 22, 2) := by decide +kernel
theorem dX11_save_76 : decode cX11_save 76 = .ok (.aload_n 0, 1) := by decide +kernel
theorem dX11_save_77 : decode cX11_save 77 = .ok (.getfield 112, 3) := by decide +kernel
theorem dX11_save_80 : decode cX11_save 80 = .ok (.iastore, 1) := by decide +kernel
theorem dX11_save_81 : decode cX11_save 81 = .ok (.aload_n 0, 1) := by decide +kernel
theorem dX11_save_82 : decode cX11_save 82 = .ok (.getfield 109, 3) := by decide +kernel
theorem dX11_save_85 : decode cX11_save 85 = .ok (.bipush 23, 2) := by decide +kernel
theorem dX11_save_87 : decode cX11_save 87 = .ok (.aload_n 0, 1) := by decide +kernel
theorem dX11_save_88 : decode cX11_save 88 = .ok (.getfield 115, 3) := by decide +kernel
theorem dX11_save_91 : decode cX11_save 91 = .ok (.iastore, 1) := by decide +kernel
theorem dX11_save_92 : decode cX11_save 92 = .ok (.aload_n 0, 1) := by decide +kernel
theorem dX11_save_93 : decode cX11_save 93 = .ok (.getfield 19, 3) := by decide +kernel
theorem dX11_save_96 : decode cX11_save 96 = .ok (.ireturn, 1) := by decide +kernel
theorem dX11_restore_0 : decode cX11_restore 0 = .ok (.aload_n 0, 1) := by decide +kernel
theorem dX11_restore_1 : decode cX11_restore 1 = .ok (.getfield 361, 3) := by decide +kernel
theorem dX11_restore_4 : decode cX11_restore 4 = .ok (.ifCond .ne 6, 3) := by decide +kernel
theorem dX11_restore_7 : decode cX11_restore 7 = .ok (.bipush (-4), 2) := by decide +kernel
theorem dX11_restore_9 : decode cX11_restore 9 = .ok (.ireturn, 1) := by decide +kernel
theorem dX11_restore_10 : decode cX11_restore 10 = .ok (.iconst 0, 1) := by decide +kernel
theorem dX11_restore_11 : decode cX11_restore 11 = .ok (.istore_n 1, 1) := by decide +kernel
theorem dX11_restore_12 : decode cX11_restore 12 = .ok (.iload_n 1, 1) := by decide +kernel
theorem dX11_restore_13 : decode cX11_restore 13 = .ok (.bipush 18, 2) := by decide +kernel
theorem dX11_restore_15 : decode cX11_restore 15 = .ok (.if_icmp .ge 21, 3) := by decide +kernel
theorem dX11_restore_18 : decode cX11_restore 18 = .ok (.aload_n 0, 1) := by decide +kernel
theorem dX11_restore_19 : decode cX11_restore 19 = .ok (.getfield 7, 3) := by decide +kernel
theorem dX11_restore_22 : decode cX11_restore 22 = .ok (.iload_n 1, 1) := by decide +kernel
theorem dX11_restore_23 : decode cX11_restore 23 = .ok (.aload_n 0, 1) := by decide +kernel
theorem dX11_restore_24 : decode cX11_restore 24 = .ok (.getfield 109, 3) := by decide +kernel
theorem dX11_restore_27 : decode cX11_restore 27 = .ok (.iload_n 1, 1) := by decide +kernel
theorem dX11_restore_28 : decode cX11_restore 28 = .ok (.iaload, 1) := by decide +kernel
theorem dX11_restore_29 : decode cX11_restore 29 = .ok (.iastore, 1) := by decide +kernel
theorem dX11_restore_30 : decode cX11_restore 30 = .ok (.iinc 1 1, 3) := by decide +kernel
theorem dX11_restore_33 : decode cX11_restore 33 = .ok (.goto (-21), 3) := by decide +kernel
theorem dX11_restore_36 : decode cX11_restore 36 = .ok (.iconst 0, 1) := by decide +kernel
theorem dX11_restore_37 : decode cX11_restore 37 = .ok (.istore_n 1, 1) := by decide +kernel
theorem dX11_restore_38 : decode cX11_restore 38 = .ok (.iload_n 1, 1) := by decide +kernel
theorem dX11_restore_39 : decode cX11_restore 39 = .ok (.iconst 3, 1) := by decide +kernel
theorem dX11_restore_40 : decode cX11_restore 40 = .ok (.if_icmp .ge 24, 3) := by decide +kernel
theorem dX11_restore_43 : decode cX11_restore 43 = .ok (.aload_n 0, 1) := by decide +kernel
theorem dX11_restore_44 : decode cX11_restore 44 = .ok (.getfield 16, 3) := by decide +kernel
theorem dX11_restore_47 : decode cX11_restore 47 = .ok (.iload_n 1, 1) := by decide +kernel
theorem dX11_restore_48 : decode cX11_restore 48 = .ok (.aload_n 0, 1) := by decide +kernel
theorem dX11_restore_49 : decode cX11_restore 49 = .ok (.getfield 109, 3) := by decide +kernel
theorem dX11_restore_52 : decode cX11_restore 52 = .ok (.bipush 18, 2) := by decide +kernel
theorem dX11_restore_54 : decode cX11_restore 54 = .ok (.iload_n 1, 1) := by decide +kernel
theorem dX11_restore_55 : decode cX11_restore 55 = .ok (.iadd, 1) := by decide +kernel
theorem dX11_restore_56 : decode cX11_restore 56 = .ok (.iaload, 1) := by decide +kernel
theorem dX11_restore_57 : decode cX11_restore 57 = .ok (.iastore, 1) := by decide +kernel
theorem dX11_restore_58 : decode cX11_restore 58 = .ok (.iinc 1 1, 3) := by decide +kernel
theorem dX11_restore_61 : decode cX11_restore 61 = .ok (.goto (-23), 3) := by decide +kernel
theorem dX11_restore_64 : decode cX11_restore 64 = .ok (.aload_n 0, 1) := by decide +kernel
theorem dX11_restore_65 : decode cX11_restore 65 = .ok (.aload_n 0, 1) := by decide +kernel
theorem dX11_restore_66 : decode cX11_restore 66 = .ok (.getfield 109, 3) := by decide +kernel
theorem dX11_restore_69 : decode cX11_restore 69 = .ok (.bipush 21, 2) := by decide +kernel
theorem dX11_restore_71 : decode cX11_restore 71 = .ok (.iaload, 1) := by decide +kernel
theorem dX11_restore_72 : decode cX11_restore 72 = .ok (.putfield 19, 3) := by decide +kernel
theorem dX11_restore_75 : decode cX11_restore 75 = .ok (.aload_n 0, 1) := by decide +kernel
theorem dX11_restore_76 : decode cX11_restore 76 = .ok (.aload_n 0, 1) := by decide +kernel
theorem dX11_restore_77 : decode cX11_restore 77 = .ok (.getfield 109, 3) := by decide +kernel
theorem dX11_restore_80 : decode cX11_restore 80 = .ok (.bipush 22, 2) := by decide +kernel
theorem dX11_restore_82 : decode cX11_restore 82 = .ok (.iaload, 1) := by decide +kernel
theorem dX11_restore_83 : decode cX11_restore 83 = .ok (.putfield 112, 3) := by decide +kernel
theorem dX11_restore_86 : decode cX11_restore 86 = .ok (.aload_n 0, 1) := by decide +kernel
theorem dX11_restore_87 : decode cX11_restore 87 = .ok (.aload_n 0, 1) := by decide +kernel
theorem dX11_restore_88 : decode cX11_restore 88 = .ok (.getfield 109, 3) := by decide +kernel
theorem dX11_restore_91 : decode cX11_restore 91 = .ok (.bipush 23, 2) := by decide +kernel
theorem dX11_restore_93 : decode cX11_restore 93 = .ok (.iaload, 1) := by decide +kernel
theorem dX11_restore_94 : decode cX11_restore 94 = .ok (.putfield 115, 3) := by decide +kernel
theorem dX11_restore_97 : decode cX11_restore 97 = .ok (.aload_n 0, 1) := by decide +kernel
theorem dX11_restore_98 : decode cX11_restore 98 = .ok (.iconst 0, 1) := by decide +kernel
theorem dX11_restore_99 : decode cX11_restore 99 = .ok (.putfield 118, 3) := by decide +kernel
theorem dX11_restore_102 : decode cX11_restore 102 = .ok (.aload_n 0, 1) := by decide +kernel
theorem dX11_restore_103 : decode cX11_restore 103 = .ok (.getfield 19, 3) := by decide +kernel
theorem dX11_restore_106 : decode cX11_restore 106 = .ok (.ireturn, 1) := by decide +kernel
theorem dJxe99ae_isNaN_b9ae7_0 : decode cJxe99ae_isNaN_b9ae7 0 = .ok (.dload_n 0, 1) := by decide +kernel
theorem dJxe99ae_isNaN_b9ae7_1 : decode cJxe99ae_isNaN_b9ae7 1 = .ok (.dload_n 0, 1) := by decide +kernel
theorem dJxe99ae_isNaN_b9ae7_2 : decode cJxe99ae_isNaN_b9ae7 2 = .ok (.dcmp .l, 1) := by decide +kernel
theorem dJxe99ae_isNaN_b9ae7_3 : decode cJxe99ae_isNaN_b9ae7 3 = .ok (.ifCond .eq 7, 3) := by decide +kernel
theorem dJxe99ae_isNaN_b9ae7_6 : decode cJxe99ae_isNaN_b9ae7 6 = .ok (.iconst 1, 1) := by decide +kernel
theorem dJxe99ae_isNaN_b9ae7_7 : decode cJxe99ae_isNaN_b9ae7 7 = .ok (.goto 4, 3) := by decide +kernel
theorem dJxe99ae_isNaN_b9ae7_10 : decode cJxe99ae_isNaN_b9ae7 10 = .ok (.iconst 0, 1) := by decide +kernel
theorem dJxe99ae_isNaN_b9ae7_11 : decode cJxe99ae_isNaN_b9ae7 11 = .ok (.ireturn, 1) := by decide +kernel
set_option maxRecDepth 20000 in
theorem ggJxe99ae_doubleToLongBits_ccdee_Jxe99ae_isNaN_b9ae7 : GoodIn wsJxe99ae_doubleToLongBits_ccdee wsJxe99ae_isNaN_b9ae7 := goodIn_r _ [9] (by decide +kernel) (by decide +kernel)
set_option maxRecDepth 20000 in
theorem gJxe99ae_doubleToLongBits_ccdee_Jxe99ae_isNaN_b9ae7 : GoodIn wsJxe99ae_doubleToLongBits_ccdee (va_wsS RJxe99ae 122 yJxe99ae_isNaN_b9ae7 wsJxe99ae_isNaN_b9ae7) := goodIn_app (goodIn_of _ (by decide +kernel)) ggJxe99ae_doubleToLongBits_ccdee_Jxe99ae_isNaN_b9ae7
theorem dJxe99ae_doubleToLongBits_ccdee_0 : decode cJxe99ae_doubleToLongBits_ccdee 0 = .ok (.dload_n 0, 1) := by decide +kernel
theorem dJxe99ae_doubleToLongBits_ccdee_1 : decode cJxe99ae_doubleToLongBits_ccdee 1 = .ok (.invokestatic 122, 3) := by decide +kernel
theorem dJxe99ae_doubleToLongBits_ccdee_4 : decode cJxe99ae_doubleToLongBits_ccdee 4 = .ok (.ifCond .ne 8, 3) := by decide +kernel
theorem dJxe99ae_doubleToLongBits_ccdee_7 : decode cJxe99ae_doubleToLongBits_ccdee 7 = .ok (.dload_n 0, 1) := by decide +kernel
theorem dJxe99ae_doubleToLongBits_ccdee_8 : decode cJxe99ae_doubleToLongBits_ccdee 8 = .ok (.invokestatic 134, 3) := by decide +kernel
theorem dJxe99ae_doubleToLongBits_ccdee_11 : decode cJxe99ae_doubleToLongBits_ccdee 11 = .ok (.lreturn, 1) := by decide +kernel
theorem dJxe99ae_doubleToLongBits_ccdee_12 : decode cJxe99ae_doubleToLongBits_ccdee 12 = .ok (.ldc2_w 137, 3) := by decide +kernel
theorem dJxe99ae_doubleToLongBits_ccdee_15 : decode cJxe99ae_doubleToLongBits_ccdee 15 = .ok (.lreturn, 1) := by decide +kernel
theorem dJ6_bitCount_0f7a4_0 : decode cJ6_bitCount_0f7a4 0 = .ok (.iload_n 0, 1) := by decide +kernel
theorem dJ6_bitCount_0f7a4_1 : decode cJ6_bitCount_0f7a4 1 = .ok (.iload_n 0, 1) := by decide +kernel
theorem dJ6_bitCount_0f7a4_2 : decode cJ6_bitCount_0f7a4 2 = .ok (.iconst 1, 1) := by decide +kernel
theorem dJ6_bitCount_0f7a4_3 : decode cJ6_bitCount_0f7a4 3 = .ok (.iushr, 1) := by decide +kernel
theorem dJ6_bitCount_0f7a4_4 : decode cJ6_bitCount_0f7a4 4 = .ok (.ldc_w 265, 3) := by decide +kernel
theorem dJ6_bitCount_0f7a4_7 : decode cJ6_bitCount_0f7a4 7 = .ok (.iand, 1) := by decide +kernel
theorem dJ6_bitCount_0f7a4_8 : decode cJ6_bitCount_0f7a4 8 = .ok (.isub, 1) := by decide +kernel
theorem dJ6_bitCount_0f7a4_9 : decode cJ6_bitCount_0f7a4 9 = .ok (.istore_n 0, 1) := by decide +kernel
theorem dJ6_bitCount_0f7a4_10 : decode cJ6_bitCount_0f7a4 10 = .ok (.iload_n 0, 1) := by decide +kernel
theorem dJ6_bitCount_0f7a4_11 : decode cJ6_bitCount_0f7a4 11 = .ok (.ldc_w 266, 3) := by decide +kernel
theorem dJ6_bitCount_0f7a4_14 : decode cJ6_bitCount_0f7a4 14 = .ok (.iand, 1) := by decide +kernel
theorem dJ6_bitCount_0f7a4_15 : decode cJ6_bitCount_0f7a4 15 = .ok (.iload_n 0, 1) := by decide +kernel
theorem dJ6_bitCount_0f7a4_16 : decode cJ6_bitCount_0f7a4 16 = .ok (.iconst 2, 1) := by decide +kernel
theorem dJ6_bitCount_0f7a4_17 : decode cJ6_bitCount_0f7a4 17 = .ok (.iushr, 1) := by decide +kernel
theorem dJ6_bitCount_0f7a4_18 : decode cJ6_bitCount_0f7a4 18 = .ok (.ldc_w 266, 3) := by decide +kernel
theorem dJ6_bitCount_0f7a4_21 : decode cJ6_bitCount_0f7a4 21 = .ok (.iand, 1) := by decide +kernel
theorem dJ6_bitCount_0f7a4_22 : decode cJ6_bitCount_0f7a4 22 = .ok (.iadd, 1) := by decide +kernel
theorem dJ6_bitCount_0f7a4_23 : decode cJ6_bitCount_0f7a4 23 = .ok (.istore_n 0, 1) := by decide +kernel
theorem dJ6_bitCount_0f7a4_24 : decode cJ6_bitCount_0f7a4 24 = .ok (.iload_n 0, 1) := by decide +kernel
theorem dJ6_bitCount_0f7a4_25 : decode cJ6_bitCount_0f7a4 25 = .ok (.iload_n 0, 1) := by decide +kernel
theorem dJ6_bitCount_0f7a4_26 : decode cJ6_bitCount_0f7a4 26 = .ok (.iconst 4, 1) := by decide +kernel
theorem dJ6_bitCount_0f7a4_27 : decode cJ6_bitCount_0f7a4 27 = .ok (.iushr, 1) := by decide +kernel
theorem dJ6_bitCount_0f7a4_28 : decode cJ6_bitCount_0f7a4 28 = .ok (.iadd, 1) := by decide +kernel
theorem dJ6_bitCount_0f7a4_29 : decode cJ6_bitCount_0f7a4 29 = .ok (.ldc_w 267, 3) := by decide +kernel
theorem dJ6_bitCount_0f7a4_32 : decode cJ6_bitCount_0f7a4 32 = .ok (.iand, 1) := by decide +kernel
theorem dJ6_bitCount_0f7a4_33 : decode cJ6_bitCount_0f7a4 33 = .ok (.istore_n 0, 1) := by decide +kernel
theorem dJ6_bitCount_0f7a4_34 : decode cJ6_bitCount_0f7a4 34 = .ok (.iload_n 0, 1) := by decide +kernel
theorem dJ6_bitCount_0f7a4_35 : decode cJ6_bitCount_0f7a4 35 = .ok (.iload_n 0, 1) := by decide +kernel
theorem dJ6_bitCount_0f7a4_36 : decode cJ6_bitCount_0f7a4 36 = .ok (.bipush 8, 2) := by decide +kernel
theorem dJ6_bitCount_0f7a4_38 : decode cJ6_bitCount_0f7a4 38 = .ok (.iushr, 1) := by decide +kernel
theorem dJ6_bitCount_0f7a4_39 : decode cJ6_bitCount_0f7a4 39 = .ok (.iadd, 1) := by decide +kernel
theorem dJ6_bitCount_0f7a4_40 : decode cJ6_bitCount_0f7a4 40 = .ok (.istore_n 0, 1) := by decide +kernel
theorem dJ6_bitCount_0f7a4_41 : decode cJ6_bitCount_0f7a4 41 = .ok (.iload_n 0, 1) := by decide +kernel
theorem dJ6_bitCount_0f7a4_42 : decode cJ6_bitCount_0f7a4 42 = .ok (.iload_n 0, 1) := by decide +kernel
theorem dJ6_bitCount_0f7a4_43 : decode cJ6_bitCount_0f7a4 43 = .ok (.bipush 16, 2) := by decide +kernel
theorem dJ6_bitCount_0f7a4_45 : decode cJ6_bitCount_0f7a4 45 = .ok (.iushr, 1) := by decide +kernel
theorem dJ6_bitCount_0f7a4_46 : decode cJ6_bitCount_0f7a4 46 = .ok (.iadd, 1) := by decide +kernel
theorem dJ6_bitCount_0f7a4_47 : decode cJ6_bitCount_0f7a4 47 = .ok (.istore_n 0, 1) := by decide +kernel
theorem dJ6_bitCount_0f7a4_48 : decode cJ6_bitCount_0f7a4 48 = .ok (.iload_n 0, 1) := by decide +kernel
theorem dJ6_bitCount_0f7a4_49 : decode cJ6_bitCount_0f7a4 49 = .ok (.bipush 63, 2) := by decide +kernel
theorem dJ6_bitCount_0f7a4_51 : decode cJ6_bitCount_0f7a4 51 = .ok (.iand, 1) := by decide +kernel
theorem dJ6_bitCount_0f7a4_52 : decode cJ6_bitCount_0f7a4 52 = .ok (.ireturn, 1) := by decide +kernel
theorem dJ9_max_7cf53_0 : decode cJ9_max_7cf53 0 = .ok (.iload_n 0, 1) := by decide +kernel
theorem dJ9_max_7cf53_1 : decode cJ9_max_7cf53 1 = .ok (.iload_n 1, 1) := by decide +kernel
theorem dJ9_max_7cf53_2 : decode cJ9_max_7cf53 2 = .ok (.if_icmp .lt 7, 3) := by decide +kernel
theorem dJ9_max_7cf53_5 : decode cJ9_max_7cf53 5 = .ok (.iload_n 0, 1) := by decide +kernel
theorem dJ9_max_7cf53_6 : decode cJ9_max_7cf53 6 = .ok (.goto 4, 3) := by decide +kernel
theorem dJ9_max_7cf53_9 : decode cJ9_max_7cf53 9 = .ok (.iload_n 1, 1) := by decide +kernel
theorem dJ9_max_7cf53_10 : decode cJ9_max_7cf53 10 = .ok (.ireturn, 1) := by decide +kernel
theorem dJ9_max_f86c9_0 : decode cJ9_max_f86c9 0 = .ok (.lload_n 0, 1) := by decide +kernel
theorem dJ9_max_f86c9_1 : decode cJ9_max_f86c9 1 = .ok (.lload_n 2, 1) := by decide +kernel
theorem dJ9_max_f86c9_2 : decode cJ9_max_f86c9 2 = .ok (.lcmp, 1) := by decide +kernel
theorem dJ9_max_f86c9_3 : decode cJ9_max_f86c9 3 = .ok (.ifCond .lt 7, 3) := by decide +kernel
theorem dJ9_max_f86c9_6 : decode cJ9_max_f86c9 6 = .ok (.lload_n 0, 1) := by decide +kernel
theorem dJ9_max_f86c9_7 : decode cJ9_max_f86c9 7 = .ok (.goto 4, 3) := by decide +kernel
theorem dJ9_max_f86c9_10 : decode cJ9_max_f86c9 10 = .ok (.lload_n 2, 1) := by decide +kernel
theorem dJ9_max_f86c9_11 : decode cJ9_max_f86c9 11 = .ok (.lreturn, 1) := by decide +kernel
theorem dJ9_min_7cf53_0 : decode cJ9_min_7cf53 0 = .ok (.iload_n 0, 1) := by decide +kernel
theorem dJ9_min_7cf53_1 : decode cJ9_min_7cf53 1 = .ok (.iload_n 1, 1) := by decide +kernel
theorem dJ9_min_7cf53_2 : decode cJ9_min_7cf53 2 = .ok (.if_icmp .gt 7, 3) := by decide +kernel
theorem dJ9_min_7cf53_5 : decode cJ9_min_7cf53 5 = .ok (.iload_n 0, 1) := by decide +kernel
theorem dJ9_min_7cf53_6 : decode cJ9_min_7cf53 6 = .ok (.goto 4, 3) := by decide +kernel
theorem dJ9_min_7cf53_9 : decode cJ9_min_7cf53 9 = .ok (.iload_n 1, 1) := by decide +kernel
theorem dJ9_min_7cf53_10 : decode cJ9_min_7cf53 10 = .ok (.ireturn, 1) := by decide +kernel
