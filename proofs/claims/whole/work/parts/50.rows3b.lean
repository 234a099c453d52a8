set_option maxRecDepth 20000 in
theorem gX11_kind_X11_kindOf : GoodIn wsX11_kind (wsV RX11 297 RX11 yX11_kindOf wsX11_kindOf) := goodIn_app (goodIn_of _ (by decide +kernel)) ggX11_kind_X11_kindOf
theorem dX11_kind_0 : decode cX11_kind 0 = .ok (.aload_n 0, 1) := by decide +kernel
theorem dX11_kind_1 : decode cX11_kind 1 = .ok (.invokevirtual 297, 3) := by decide +kernel
theorem dX11_kind_4 : decode cX11_kind 4 = .ok (.ireturn, 1) := by decide +kernel
set_option maxRecDepth 20000 in
theorem ggX11_degree_X11_kindOf : GoodIn wsX11_degree wsX11_kindOf := goodIn_r _ [7, 8, 9, 10, 11, 12, 13, 6, 14, 15, 2, 16, 17, 18, 19, 20, 21, 22, 23, 24, 25, 26, 27, 28, 29, 30, 31, 32, 33, 34, 35, 36, 37, 38, 39, 40, 41, 42, 43, 44, 45, 46, 47, 48, 49, 50, 51, 52, 53, 54, 55, 56, 57, 58, 59, 60, 61, 62, 63, 64, 65, 66, 67, 68, 69, 70, 71, 72, 73, 74, 75, 76, 77, 78, 79, 80, 81, 82, 83, 84, 85, 86, 87, 88, 89, 90, 91, 92, 93, 94, 95, 96, 97, 98, 99, 100, 101, 102, 103, 104, 105, 106, 107, 108, 109, 110, 111, 112, 113, 114, 115, 116, 117, 118, 119, 120, 121, 122, 123, 124, 125, 126, 127, 128, 129, 130, 131, 132, 133, 134, 135, 136, 137, 138, 139, 140, 141, 142, 143, 144, 145, 146] (by rfl) (by decide +kernel)
set_option maxRecDepth 20000 in
theorem gX11_degree_X11_kindOf : GoodIn wsX11_degree (wsV RX11 297 RX11 yX11_kindOf wsX11_kindOf) := goodIn_app (goodIn_of _ (by decide +kernel)) ggX11_degree_X11_kindOf
set_option maxRecDepth 20000 in
theorem ggX11_degree_X11_reachedFrom : GoodIn wsX11_degree wsX11_reachedFrom := goodIn_r _ [26, 27, 28, 29, 6, 30, 21, 31, 32, 33, 34, 97, 98, 99, 100, 101, 102, 103, 104, 105, 106, 107, 108, 109, 110, 111, 112, 113, 114, 115, 116, 117, 118, 119, 120, 121, 122, 123, 124, 125, 126, 127, 128, 129, 130, 131, 132, 133, 134, 135, 136, 137, 138, 139, 140, 141, 142, 143, 144, 145, 146] (by rfl) (by decide +kernel)
set_option maxRecDepth 20000 in
theorem gX11_degree_X11_reachedFrom : GoodIn wsX11_degree (wsV RX11 147 RX11 yX11_reachedFrom wsX11_reachedFrom) := goodIn_app (goodIn_of _ (by decide +kernel)) ggX11_degree_X11_reachedFrom
set_option maxRecDepth 20000 in
theorem ggX11_degree_X11_has : GoodIn wsX11_degree wsX11_has := goodIn_r _ [34] (by decide +kernel) (by decide +kernel)
set_option maxRecDepth 20000 in
theorem gX11_degree_X11_has : GoodIn wsX11_degree (va_wsS RX11 139 yX11_has wsX11_has) := goodIn_app (goodIn_of _ (by decide +kernel)) ggX11_degree_X11_has
theorem dX11_degree_0 : decode cX11_degree 0 = .ok (.aload_n 0, 1) := by decide +kernel
theorem dX11_degree_1 : decode cX11_degree 1 = .ok (.invokevirtual 297, 3) := by decide +kernel
theorem dX11_degree_4 : decode cX11_degree 4 = .ok (.istore_n 1, 1) := by decide +kernel
theorem dX11_degree_5 : decode cX11_degree 5 = .ok (.iload_n 1, 1) := by decide +kernel
theorem dX11_degree_6 : decode cX11_degree 6 = .ok (.iconst 3, 1) := by decide +kernel
theorem dX11_degree_7 : decode cX11_degree 7 = .ok (.if_icmp .ne 6, 3) := by decide +kernel
theorem dX11_degree_10 : decode cX11_degree 10 = .ok (.bipush (-4), 2) := by decide +kernel
theorem dX11_degree_12 : decode cX11_degree 12 = .ok (.ireturn, 1) := by decide +kernel
theorem dX11_degree_13 : decode cX11_degree 13 = .ok (.iload_n 1, 1) := by decide +kernel
theorem dX11_degree_14 : decode cX11_degree 14 = .ok (.iconst 2, 1) := by decide +kernel
theorem dX11_degree_15 : decode cX11_degree 15 = .ok (.if_icmp .ge 5, 3) := by decide +kernel
theorem dX11_degree_18 : decode cX11_degree 18 = .ok (.iconst 0, 1) := by decide +kernel
theorem dX11_degree_19 : decode cX11_degree 19 = .ok (.ireturn, 1) := by decide +kernel
theorem dX11_degree_20 : decode cX11_degree 20 = .ok (.iconst 0, 1) := by decide +kernel
theorem dX11_degree_21 : decode cX11_degree 21 = .ok (.istore_n 2, 1) := by decide +kernel
theorem dX11_degree_22 : decode cX11_degree 22 = .ok (.iconst 0, 1) := by decide +kernel
theorem dX11_degree_23 : decode cX11_degree 23 = .ok (.istore_n 3, 1) := by decide +kernel
theorem dX11_degree_24 : decode cX11_degree 24 = .ok (.iload_n 3, 1) := by decide +kernel
theorem dX11_degree_25 : decode cX11_degree 25 = .ok (.bipush 36, 2) := by decide +kernel
theorem dX11_degree_27 : decode cX11_degree 27 = .ok (.if_icmp .ge 29, 3) := by decide +kernel
theorem dX11_degree_30 : decode cX11_degree 30 = .ok (.aload_n 0, 1) := by decide +kernel
theorem dX11_degree_31 : decode cX11_degree 31 = .ok (.getfield 64, 3) := by decide +kernel
theorem dX11_degree_34 : decode cX11_degree 34 = .ok (.iload_n 3, 1) := by decide +kernel
theorem dX11_degree_35 : decode cX11_degree 35 = .ok (.aload_n 0, 1) := by decide +kernel
theorem dX11_degree_36 : decode cX11_degree 36 = .ok (.getfield 61, 3) := by decide +kernel
theorem dX11_degree_39 : decode cX11_degree 39 = .ok (.iload_n 3, 1) := by decide +kernel
theorem dX11_degree_40 : decode cX11_degree 40 = .ok (.baload, 1) := by decide +kernel
theorem dX11_degree_41 : decode cX11_degree 41 = .ok (.ifCond .eq 7, 3) := by decide +kernel
theorem dX11_degree_44 : decode cX11_degree 44 = .ok (.iconst 1, 1) := by decide +kernel
theorem dX11_degree_45 : decode cX11_degree 45 = .ok (.goto 4, 3) := by decide +kernel
theorem dX11_degree_48 : decode cX11_degree 48 = .ok (.iconst 0, 1) := by decide +kernel
theorem dX11_degree_49 : decode cX11_degree 49 = .ok (.iastore, 1) := by decide +kernel
theorem dX11_degree_50 : decode cX11_degree 50 = .ok (.iinc 3 1, 3) := by decide +kernel
theorem dX11_degree_53 : decode cX11_degree 53 = .ok (.goto (-29), 3) := by decide +kernel
theorem dX11_degree_56 : decode cX11_degree 56 = .ok (.iconst 0, 1) := by decide +kernel
theorem dX11_degree_57 : decode cX11_degree 57 = .ok (.istore_n 3, 1) := by decide +kernel
theorem dX11_degree_58 : decode cX11_degree 58 = .ok (.iload_n 3, 1) := by decide +kernel
theorem dX11_degree_59 : decode cX11_degree 59 = .ok (.bipush 36, 2) := by decide +kernel
theorem dX11_degree_61 : decode cX11_degree 61 = .ok (.if_icmp .ge 123, 3) := by decide +kernel
theorem dX11_degree_64 : decode cX11_degree 64 = .ok (.iconst 0, 1) := by decide +kernel
theorem dX11_degree_65 : decode cX11_degree 65 = .ok (.istore 4, 2) := by decide +kernel
theorem dX11_degree_67 : decode cX11_degree 67 = .ok (.iload 4, 2) := by decide +kernel
theorem dX11_degree_69 : decode cX11_degree 69 = .ok (.bipush 36, 2) := by decide +kernel
theorem dX11_degree_71 : decode cX11_degree 71 = .ok (.if_icmp .ge 107, 3) := by decide +kernel
theorem dX11_degree_74 : decode cX11_degree 74 = .ok (.aload_n 0, 1) := by decide +kernel
theorem dX11_degree_75 : decode cX11_degree 75 = .ok (.iconst 1, 1) := by decide +kernel
theorem dX11_degree_76 : decode cX11_degree 76 = .ok (.iload 4, 2) := by decide +kernel
theorem dX11_degree_78 : decode cX11_degree 78 = .ok (.bipush 6, 2) := by decide +kernel
theorem dX11_degree_80 : decode cX11_degree 80 = .ok (.irem, 1) := by decide +kernel
theorem dX11_degree_81 : decode cX11_degree 81 = .ok (.ishl, 1) := by decide +kernel
theorem dX11_degree_82 : decode cX11_degree 82 = .ok (.invokevirtual 147, 3) := by decide +kernel
theorem dX11_degree_85 : decode cX11_degree 85 = .ok (.istore 5, 2) := by decide +kernel
theorem dX11_degree_87 : decode cX11_degree 87 = .ok (.iconst 0, 1) := by decide +kernel
theorem dX11_degree_88 : decode cX11_degree 88 = .ok (.istore 6, 2) := by decide +kernel
theorem dX11_degree_90 : decode cX11_degree 90 = .ok (.iload 6, 2) := by decide +kernel
theorem dX11_degree_92 : decode cX11_degree 92 = .ok (.bipush 36, 2) := by decide +kernel
theorem dX11_degree_94 : decode cX11_degree 94 = .ok (.if_icmp .ge 78, 3) := by decide +kernel
theorem dX11_degree_97 : decode cX11_degree 97 = .ok (.aload_n 0, 1) := by decide +kernel
theorem dX11_degree_98 : decode cX11_degree 98 = .ok (.getfield 61, 3) := by decide +kernel
theorem dX11_degree_101 : decode cX11_degree 101 = .ok (.iload 4, 2) := by decide +kernel
theorem dX11_degree_103 : decode cX11_degree 103 = .ok (.baload, 1) := by decide +kernel
theorem dX11_degree_104 : decode cX11_degree 104 = .ok (.ifCond .eq 68, 3) := by decide +kernel
theorem dX11_degree_107 : decode cX11_degree 107 = .ok (.aload_n 0, 1) := by decide +kernel
theorem dX11_degree_108 : decode cX11_degree 108 = .ok (.getfield 61, 3) := by decide +kernel
theorem dX11_degree_111 : decode cX11_degree 111 = .ok (.iload 6, 2) := by decide +kernel
theorem dX11_degree_113 : decode cX11_degree 113 = .ok (.baload, 1) := by decide +kernel
theorem dX11_degree_114 : decode cX11_degree 114 = .ok (.ifCond .eq 52, 3) := by decide +kernel
theorem dX11_degree_117 : decode cX11_degree 117 = .ok (.iload 5, 2) := by decide +kernel
theorem dX11_degree_119 : decode cX11_degree 119 = .ok (.i2l, 1) := by decide +kernel
theorem dX11_degree_120 : decode cX11_degree 120 = .ok (.iload 6, 2) := by decide +kernel
theorem dX11_degree_122 : decode cX11_degree 122 = .ok (.bipush 6, 2) := by decide +kernel
theorem dX11_degree_124 : decode cX11_degree 124 = .ok (.idiv, 1) := by decide +kernel
theorem dX11_degree_125 : decode cX11_degree 125 = .ok (.invokestatic 139, 3) := by decide +kernel
theorem dX11_degree_128 : decode cX11_degree 128 = .ok (.ifCond .eq 38, 3) := by decide +kernel
theorem dX11_degree_131 : decode cX11_degree 131 = .ok (.aload_n 0, 1) := by decide +kernel
theorem dX11_degree_132 : decode cX11_degree 132 = .ok (.getfield 64, 3) := by decide +kernel
theorem dX11_degree_135 : decode cX11_degree 135 = .ok (.iload 4, 2) := by decide +kernel
theorem dX11_degree_137 : decode cX11_degree 137 = .ok (.iaload, 1) := by decide +kernel
theorem dX11_degree_138 : decode cX11_degree 138 = .ok (.iconst 1, 1) := by decide +kernel
theorem dX11_degree_139 : decode cX11_degree 139 = .ok (.iadd, 1) := by decide +kernel
theorem dX11_degree_140 : decode cX11_degree 140 = .ok (.aload_n 0, 1) := by decide +kernel
theorem dX11_degree_141 : decode cX11_degree 141 = .ok (.getfield 64, 3) := by decide +kernel
theorem dX11_degree_144 : decode cX11_degree 144 = .ok (.iload 6, 2) := by decide +kernel
theorem dX11_degree_146 : decode cX11_degree 146 = .ok (.iaload, 1) := by decide +kernel
theorem dX11_degree_147 : decode cX11_degree 147 = .ok (.if_icmp .le 19, 3) := by decide +kernel
theorem dX11_degree_150 : decode cX11_degree 150 = .ok (.aload_n 0, 1) := by decide +kernel
theorem dX11_degree_151 : decode cX11_degree 151 = .ok (.getfield 64, 3) := by decide +kernel
theorem dX11_degree_154 : decode cX11_degree 154 = .ok (.iload 6, 2) := by decide +kernel
theorem dX11_degree_156 : decode cX11_degree 156 = .ok (.aload_n 0, 1) := by decide +kernel
theorem dX11_degree_157 : decode cX11_degree 157 = .ok (.getfield 64, 3) := by decide +kernel
theorem dX11_degree_160 : decode cX11_degree 160 = .ok (.iload 4, 2) := by decide +kernel
theorem dX11_degree_162 : decode cX11_degree 162 = .ok (.iaload, 1) := by decide +kernel
theorem dX11_degree_163 : decode cX11_degree 163 = .ok (.iconst 1, 1) := by decide +kernel
theorem dX11_degree_164 : decode cX11_degree 164 = .ok (.iadd, 1) := by decide +kernel
theorem dX11_degree_165 : decode cX11_degree 165 = .ok (.iastore, 1) := by decide +kernel
theorem dX11_degree_166 : decode cX11_degree 166 = .ok (.iinc 6 1, 3) := by decide +kernel
theorem dX11_degree_169 : decode cX11_degree 169 = .ok (.goto (-79), 3) := by decide +kernel
theorem dX11_degree_172 : decode cX11_degree 172 = .ok (.iinc 4 1, 3) := by decide +kernel
theorem dX11_degree_175 : decode cX11_degree 175 = .ok (.goto (-108), 3) := by decide +kernel
theorem dX11_degree_178 : decode cX11_degree 178 = .ok (.iinc 3 1, 3) := by decide +kernel
theorem dX11_degree_181 : decode cX11_degree 181 = .ok (.goto (-123), 3) := by decide +kernel
theorem dX11_degree_184 : decode cX11_degree 184 = .ok (.iconst 0, 1) := by decide +kernel
theorem dX11_degree_185 : decode cX11_degree 185 = .ok (.istore_n 3, 1) := by decide +kernel
theorem dX11_degree_186 : decode cX11_degree 186 = .ok (.iload_n 3, 1) := by decide +kernel
theorem dX11_degree_187 : decode cX11_degree 187 = .ok (.bipush 36, 2) := by decide +kernel
theorem dX11_degree_189 : decode cX11_degree 189 = .ok (.if_icmp .ge 30, 3) := by decide +kernel
theorem dX11_degree_192 : decode cX11_degree 192 = .ok (.aload_n 0, 1) := by decide +kernel
theorem dX11_degree_193 : decode cX11_degree 193 = .ok (.getfield 64, 3) := by decide +kernel
theorem dX11_degree_196 : decode cX11_degree 196 = .ok (.iload_n 3, 1) := by decide +kernel
theorem dX11_degree_197 : decode cX11_degree 197 = .ok (.iaload, 1) := by decide +kernel
theorem dX11_degree_198 : decode cX11_degree 198 = .ok (.iload_n 2, 1) := by decide +kernel
theorem dX11_degree_199 : decode cX11_degree 199 = .ok (.if_icmp .le 12, 3) := by decide +kernel
theorem dX11_degree_202 : decode cX11_degree 202 = .ok (.aload_n 0, 1) := by decide +kernel
theorem dX11_degree_203 : decode cX11_degree 203 = .ok (.getfield 64, 3) := by decide +kernel
theorem dX11_degree_206 : decode cX11_degree 206 = .ok (.iload_n 3, 1) := by decide +kernel
theorem dX11_degree_207 : decode cX11_degree 207 = .ok (.iaload, 1) := by decide +kernel
theorem dX11_degree_208 : decode cX11_degree 208 = .ok (.goto 4, 3) := by decide +kernel
theorem dX11_degree_211 : decode cX11_degree 211 = .ok (.iload_n 2, 1) := by decide +kernel
theorem dX11_degree_212 : decode cX11_degree 212 = .ok (.istore_n 2, 1) := by decide +kernel
theorem dX11_degree_213 : decode cX11_degree 213 = .ok (.iinc 3 1, 3) := by decide +kernel
theorem dX11_degree_216 : decode cX11_degree 216 = .ok (.goto (-30), 3) := by decide +kernel
theorem dX11_degree_219 : decode cX11_degree 219 = .ok (.iload_n 2, 1) := by decide +kernel
theorem dX11_degree_220 : decode cX11_degree 220 = .ok (.ireturn, 1) := by decide +kernel
theorem dX11_isNewRow_0 : decode cX11_isNewRow 0 = .ok (.iconst 0, 1) := by decide +kernel
theorem dX11_isNewRow_1 : decode cX11_isNewRow 1 = .ok (.istore_n 2, 1) := by decide +kernel
theorem dX11_isNewRow_2 : decode cX11_isNewRow 2 = .ok (.iload_n 2, 1) := by decide +kernel
theorem dX11_isNewRow_3 : decode cX11_isNewRow 3 = .ok (.iload_n 1, 1) := by decide +kernel
theorem dX11_isNewRow_4 : decode cX11_isNewRow 4 = .ok (.if_icmp .ge 52, 3) := by decide +kernel
theorem dX11_isNewRow_7 : decode cX11_isNewRow 7 = .ok (.iconst 0, 1) := by decide +kernel
theorem dX11_isNewRow_8 : decode cX11_isNewRow 8 = .ok (.istore_n 3, 1) := by decide +kernel
theorem dX11_isNewRow_9 : decode cX11_isNewRow 9 = .ok (.iload_n 3, 1) := by decide +kernel
theorem dX11_isNewRow_10 : decode cX11_isNewRow 10 = .ok (.bipush 6, 2) := by decide +kernel
theorem dX11_isNewRow_12 : decode cX11_isNewRow 12 = .ok (.if_icmp .ge 30, 3) := by decide +kernel
theorem dX11_isNewRow_15 : decode cX11_isNewRow 15 = .ok (.aload_n 0, 1) := by decide +kernel
theorem dX11_isNewRow_16 : decode cX11_isNewRow 16 = .ok (.getfield 67, 3) := by decide +kernel
theorem dX11_isNewRow_19 : decode cX11_isNewRow 19 = .ok (.bipush 6, 2) := by decide +kernel
theorem dX11_isNewRow_21 : decode cX11_isNewRow 21 = .ok (.iload_n 2, 1) := by decide +kernel
theorem dX11_isNewRow_22 : decode cX11_isNewRow 22 = .ok (.imul, 1) := by decide +kernel
theorem dX11_isNewRow_23 : decode cX11_isNewRow 23 = .ok (.iload_n 3, 1) := by decide +kernel
theorem dX11_isNewRow_24 : decode cX11_isNewRow 24 = .ok (.iadd, 1) := by decide +kernel
theorem dX11_isNewRow_25 : decode cX11_isNewRow 25 = .ok (.laload, 1) := by decide +kernel
theorem dX11_isNewRow_26 : decode cX11_isNewRow 26 = .ok (.aload_n 0, 1) := by decide +kernel
theorem dX11_isNewRow_27 : decode cX11_isNewRow 27 = .ok (.getfield 70, 3) := by decide +kernel
theorem dX11_isNewRow_30 : decode cX11_isNewRow 30 = .ok (.iload_n 3, 1) := by decide +kernel
theorem dX11_isNewRow_31 : decode cX11_isNewRow 31 = .ok (.laload, 1) := by decide +kernel
theorem dX11_isNewRow_32 : decode cX11_isNewRow 32 = .ok (.lcmp, 1) := by decide +kernel
theorem dX11_isNewRow_33 : decode cX11_isNewRow 33 = .ok (.ifCond .ne 9, 3) := by decide +kernel
theorem dX11_isNewRow_36 : decode cX11_isNewRow 36 = .ok (.iinc 3 1, 3) := by decide +kernel
theorem dX11_isNewRow_39 : decode cX11_isNewRow 39 = .ok (.goto (-30), 3) := by decide +kernel
theorem dX11_isNewRow_42 : decode cX11_isNewRow 42 = .ok (.iload_n 3, 1) := by decide +kernel
theorem dX11_isNewRow_43 : decode cX11_isNewRow 43 = .ok (.bipush 6, 2) := by decide +kernel
theorem dX11_isNewRow_45 : decode cX11_isNewRow 45 = .ok (.if_icmp .ne 5, 3) := by decide +kernel
theorem dX11_isNewRow_48 : decode cX11_isNewRow 48 = .ok (.iconst 0, 1) := by decide +kernel
theorem dX11_isNewRow_49 : decode cX11_isNewRow 49 = .ok (.ireturn, 1) := by decide +kernel
theorem dX11_isNewRow_50 : decode cX11_isNewRow 50 = .ok (.iinc 2 1, 3) := by decide +kernel
theorem dX11_isNewRow_53 : decode cX11_isNewRow 53 = .ok (.goto (-51), 3) := by decide +kernel
theorem dX11_isNewRow_56 : decode cX11_isNewRow 56 = .ok (.iconst 1, 1) := by decide +kernel
theorem dX11_isNewRow_57 : decode cX11_isNewRow 57 = .ok (.ireturn, 1) := by decide +kernel
theorem dX11_addRow_0 : decode cX11_addRow 0 = .ok (.iconst 0, 1) := by decide +kernel
theorem dX11_addRow_1 : decode cX11_addRow 1 = .ok (.istore_n 2, 1) := by decide +kernel
theorem dX11_addRow_2 : decode cX11_addRow 2 = .ok (.iload_n 2, 1) := by decide +kernel
theorem dX11_addRow_3 : decode cX11_addRow 3 = .ok (.bipush 6, 2) := by decide +kernel
theorem dX11_addRow_5 : decode cX11_addRow 5 = .ok (.if_icmp .ge 26, 3) := by decide +kernel
theorem dX11_addRow_8 : decode cX11_addRow 8 = .ok (.aload_n 0, 1) := by decide +kernel
theorem dX11_addRow_9 : decode cX11_addRow 9 = .ok (.getfield 67, 3) := by decide +kernel
theorem dX11_addRow_12 : decode cX11_addRow 12 = .ok (.bipush 6, 2) := by decide +kernel
theorem dX11_addRow_14 : decode cX11_addRow 14 = .ok (.iload_n 1, 1) := by decide +kernel
theorem dX11_addRow_15 : decode cX11_addRow 15 = .ok (.imul, 1) := by decide +kernel
theorem dX11_addRow_16 : decode cX11_addRow 16 = .ok (.iload_n 2, 1) := by decide +kernel
theorem dX11_addRow_17 : decode cX11_addRow 17 = .ok (.iadd, 1) := by decide +kernel
theorem dX11_addRow_18 : decode cX11_addRow 18 = .ok (.aload_n 0, 1) := by decide +kernel
theorem dX11_addRow_19 : decode cX11_addRow 19 = .ok (.getfield 70, 3) := by decide +kernel
theorem dX11_addRow_22 : decode cX11_addRow 22 = .ok (.iload_n 2, 1) := by decide +kernel
theorem dX11_addRow_23 : decode cX11_addRow 23 = .ok (.laload, 1) := by decide +kernel
theorem dX11_addRow_24 : decode cX11_addRow 24 = .ok (.lastore, 1) := by decide +kernel
theorem dX11_addRow_25 : decode cX11_addRow 25 = .ok (.iinc 2 1, 3) := by decide +kernel
theorem dX11_addRow_28 : decode cX11_addRow 28 = .ok (.goto (-26), 3) := by decide +kernel
theorem dX11_addRow_31 : decode cX11_addRow 31 = .ok (.return_, 1) := by decide +kernel
set_option maxRecDepth 20000 in
theorem ggX11_maximumAmbiguity_X11_kindOf : GoodIn wsX11_maximumAmbiguity wsX11_kindOf := goodIn_r _ [13, 14, 15, 16, 17, 18, 19, 12, 20, 21, 22, 23, 24, 25, 26, 3, 6, 4, 27, 28, 29, 30, 31, 32, 33, 34, 7, 35, 36, 37, 38, 39, 40, 41, 42, 43, 44, 45, 46, 47, 48, 49, 50, 51, 52, 53, 54, 55, 56, 57, 58, 59, 60, 61, 62, 63, 64, 65, 66, 67, 68, 69, 70, 71, 72, 73, 74, 75, 76, 77, 78, 79, 80, 81, 82, 83, 84, 85, 86, 87, 88, 89, 90, 91, 92, 93, 94, 95, 96, 97, 98, 99, 108, 109, 110, 111, 112, 113, 114, 115, 116, 117, 118, 119, 120, 121, 122, 123, 124, 125, 126, 127, 128, 129, 130, 131, 132, 133, 134, 135, 136, 137, 138, 139, 140, 141, 142, 143, 144, 145, 146, 147, 148, 149, 150, 151, 152, 153, 154, 155, 156, 157] (by rfl) (by decide +kernel)
set_option maxRecDepth 20000 in
theorem gX11_maximumAmbiguity_X11_kindOf : GoodIn wsX11_maximumAmbiguity (wsV RX11 297 RX11 yX11_kindOf wsX11_kindOf) := goodIn_app (goodIn_of _ (by decide +kernel)) ggX11_maximumAmbiguity_X11_kindOf
set_option maxRecDepth 20000 in
theorem ggX11_maximumAmbiguity_X11_useful : GoodIn wsX11_maximumAmbiguity wsX11_useful := goodIn_r _ [26, 3, 6, 4, 27, 28, 29, 12, 30, 31, 32, 33, 34, 7, 35, 36, 37, 108, 109, 110, 111, 112, 113, 114, 115, 116, 117, 118, 119, 120, 121, 122, 123, 124, 125, 126, 127, 128, 129, 130, 131, 132, 133, 134, 135, 136, 137, 138, 139, 140, 141, 142, 143, 144, 145, 146, 147, 148, 149, 150, 151, 152, 153, 154, 155, 156, 157] (by rfl) (by decide +kernel)
set_option maxRecDepth 20000 in
theorem gX11_maximumAmbiguity_X11_useful : GoodIn wsX11_maximumAmbiguity (wsV RX11 151 RX11 yX11_useful wsX11_useful) := goodIn_app (goodIn_of _ (by decide +kernel)) ggX11_maximumAmbiguity_X11_useful
set_option maxRecDepth 20000 in
theorem ggX11_maximumAmbiguity_X11_has : GoodIn wsX11_maximumAmbiguity wsX11_has := goodIn_r _ [37] (by decide +kernel) (by decide +kernel)
set_option maxRecDepth 20000 in
theorem gX11_maximumAmbiguity_X11_has : GoodIn wsX11_maximumAmbiguity (va_wsS RX11 139 yX11_has wsX11_has) := goodIn_app (goodIn_of _ (by decide +kernel)) ggX11_maximumAmbiguity_X11_has
set_option maxRecDepth 20000 in
theorem ggX11_maximumAmbiguity_X11_addRow : GoodIn wsX11_maximumAmbiguity wsX11_addRow := goodIn_r _ [103, 5, 2, 108, 109, 110, 111, 112, 113, 114, 115, 116, 117, 118, 119, 120, 121, 122, 123, 124, 125, 126, 127, 128, 129, 130, 131, 132, 133, 134, 135, 136, 137, 138, 139, 140, 141, 142, 143, 144, 145, 146, 147, 148, 149, 150, 151, 152, 153, 154, 155, 156, 157] (by decide +kernel) (by decide +kernel)
set_option maxRecDepth 20000 in
theorem gX11_maximumAmbiguity_X11_addRow : GoodIn wsX11_maximumAmbiguity (wsV RX11 302 RX11 yX11_addRow wsX11_addRow) := goodIn_app (goodIn_of _ (by decide +kernel)) ggX11_maximumAmbiguity_X11_addRow
set_option maxRecDepth 20000 in
theorem ggX11_maximumAmbiguity_X11_isNewRow : GoodIn wsX11_maximumAmbiguity wsX11_isNewRow := goodIn_r _ [107, 5, 2, 108, 109, 110, 111, 112, 113, 114, 115, 116, 117, 118, 119, 120, 121, 122, 123, 124, 125, 126, 127, 128, 129, 130, 131, 132, 133, 134, 135, 136, 137, 138, 139, 140, 141, 142, 143, 144, 145, 146, 147, 148, 149, 150, 151, 152, 153, 154, 155, 156, 157] (by decide +kernel) (by decide +kernel)
