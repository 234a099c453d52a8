theorem dX7_characterAt_9 : decode cX7_characterAt 9 = .ok (.if_icmp .ge 21, 3) := by decide +kernel
theorem dX7_characterAt_12 : decode cX7_characterAt 12 = .ok (.iload_n 1, 1) := by decide +kernel
theorem dX7_characterAt_13 : decode cX7_characterAt 13 = .ok (.aload_n 0, 1) := by decide +kernel
theorem dX7_characterAt_14 : decode cX7_characterAt 14 = .ok (.getfield 9, 3) := by decide +kernel
theorem dX7_characterAt_17 : decode cX7_characterAt 17 = .ok (.arraylength, 1) := by decide +kernel
theorem dX7_characterAt_18 : decode cX7_characterAt 18 = .ok (.if_icmp .ge 12, 3) := by decide +kernel
theorem dX7_characterAt_21 : decode cX7_characterAt 21 = .ok (.aload_n 0, 1) := by decide +kernel
theorem dX7_characterAt_22 : decode cX7_characterAt 22 = .ok (.getfield 9, 3) := by decide +kernel
theorem dX7_characterAt_25 : decode cX7_characterAt 25 = .ok (.iload_n 1, 1) := by decide +kernel
theorem dX7_characterAt_26 : decode cX7_characterAt 26 = .ok (.iaload, 1) := by decide +kernel
theorem dX7_characterAt_27 : decode cX7_characterAt 27 = .ok (.goto 4, 3) := by decide +kernel
theorem dX7_characterAt_30 : decode cX7_characterAt 30 = .ok (.iconst 0, 1) := by decide +kernel
theorem dX7_characterAt_31 : decode cX7_characterAt 31 = .ok (.ireturn, 1) := by decide +kernel
set_option maxRecDepth 20000 in
theorem ggX7_errorPosition_X7_characterAt : GoodIn wsX7_errorPosition wsX7_characterAt := goodIn_r _ [6, 1, 7, 14, 15] (by decide +kernel) (by decide +kernel)
set_option maxRecDepth 20000 in
theorem gX7_errorPosition_X7_characterAt : GoodIn wsX7_errorPosition (wsV RX7 19 RX7 yX7_characterAt wsX7_characterAt) := goodIn_app (goodIn_of _ (by decide +kernel)) ggX7_errorPosition_X7_characterAt
set_option maxRecDepth 20000 in
theorem ggX7_errorPosition_X7_nextMode : GoodIn wsX7_errorPosition wsX7_nextMode := goodIn_r _ [10, 11, 12, 13] (by decide +kernel) (by decide +kernel)
set_option maxRecDepth 20000 in
theorem gX7_errorPosition_X7_nextMode : GoodIn wsX7_errorPosition (va_wsS RX7 23 yX7_nextMode wsX7_nextMode) := goodIn_app (goodIn_of _ (by decide +kernel)) ggX7_errorPosition_X7_nextMode
theorem dX7_errorPosition_0 : decode cX7_errorPosition 0 = .ok (.iconst 0, 1) := by decide +kernel
theorem dX7_errorPosition_1 : decode cX7_errorPosition 1 = .ok (.istore_n 2, 1) := by decide +kernel
theorem dX7_errorPosition_2 : decode cX7_errorPosition 2 = .ok (.iconst 0, 1) := by decide +kernel
theorem dX7_errorPosition_3 : decode cX7_errorPosition 3 = .ok (.istore_n 3, 1) := by decide +kernel
theorem dX7_errorPosition_4 : decode cX7_errorPosition 4 = .ok (.iload_n 3, 1) := by decide +kernel
theorem dX7_errorPosition_5 : decode cX7_errorPosition 5 = .ok (.aload_n 0, 1) := by decide +kernel
theorem dX7_errorPosition_6 : decode cX7_errorPosition 6 = .ok (.getfield 15, 3) := by decide +kernel
theorem dX7_errorPosition_9 : decode cX7_errorPosition 9 = .ok (.if_icmp .ge 27, 3) := by decide +kernel
theorem dX7_errorPosition_12 : decode cX7_errorPosition 12 = .ok (.iload_n 2, 1) := by decide +kernel
theorem dX7_errorPosition_13 : decode cX7_errorPosition 13 = .ok (.aload_n 0, 1) := by decide +kernel
theorem dX7_errorPosition_14 : decode cX7_errorPosition 14 = .ok (.iload_n 3, 1) := by decide +kernel
theorem dX7_errorPosition_15 : decode cX7_errorPosition 15 = .ok (.invokevirtual 19, 3) := by decide +kernel
theorem dX7_errorPosition_18 : decode cX7_errorPosition 18 = .ok (.iload_n 1, 1) := by decide +kernel
theorem dX7_errorPosition_19 : decode cX7_errorPosition 19 = .ok (.invokestatic 23, 3) := by decide +kernel
theorem dX7_errorPosition_22 : decode cX7_errorPosition 22 = .ok (.istore_n 2, 1) := by decide +kernel
theorem dX7_errorPosition_23 : decode cX7_errorPosition 23 = .ok (.iload_n 2, 1) := by decide +kernel
theorem dX7_errorPosition_24 : decode cX7_errorPosition 24 = .ok (.iconst (-1), 1) := by decide +kernel
theorem dX7_errorPosition_25 : decode cX7_errorPosition 25 = .ok (.if_icmp .ne 5, 3) := by decide +kernel
theorem dX7_errorPosition_28 : decode cX7_errorPosition 28 = .ok (.iload_n 3, 1) := by decide +kernel
theorem dX7_errorPosition_29 : decode cX7_errorPosition 29 = .ok (.ireturn, 1) := by decide +kernel
theorem dX7_errorPosition_30 : decode cX7_errorPosition 30 = .ok (.iinc 3 1, 3) := by decide +kernel
theorem dX7_errorPosition_33 : decode cX7_errorPosition 33 = .ok (.goto (-29), 3) := by decide +kernel
theorem dX7_errorPosition_36 : decode cX7_errorPosition 36 = .ok (.iload_n 2, 1) := by decide +kernel
theorem dX7_errorPosition_37 : decode cX7_errorPosition 37 = .ok (.iconst 4, 1) := by decide +kernel
theorem dX7_errorPosition_38 : decode cX7_errorPosition 38 = .ok (.if_icmp .ne 7, 3) := by decide +kernel
theorem dX7_errorPosition_41 : decode cX7_errorPosition 41 = .ok (.iconst (-1), 1) := by decide +kernel
theorem dX7_errorPosition_42 : decode cX7_errorPosition 42 = .ok (.goto 7, 3) := by decide +kernel
theorem dX7_errorPosition_45 : decode cX7_errorPosition 45 = .ok (.aload_n 0, 1) := by decide +kernel
theorem dX7_errorPosition_46 : decode cX7_errorPosition 46 = .ok (.getfield 15, 3) := by decide +kernel
theorem dX7_errorPosition_49 : decode cX7_errorPosition 49 = .ok (.ireturn, 1) := by decide +kernel
set_option maxRecDepth 20000 in
theorem ggX7_nextMode_X10_isLetter : GoodIn wsX7_nextMode wsX10_isLetter := goodIn_r _ [3] (by decide +kernel) (by decide +kernel)
set_option maxRecDepth 20000 in
theorem gX7_nextMode_X10_isLetter_n27 : GoodIn wsX7_nextMode (wsX10_isLetter) := ggX7_nextMode_X10_isLetter
theorem dX7_nextMode_0 : decode cX7_nextMode 0 = .ok (.iload_n 1, 1) := by decide +kernel
theorem dX7_nextMode_1 : decode cX7_nextMode 1 = .ok (.bipush 48, 2) := by decide +kernel
theorem dX7_nextMode_3 : decode cX7_nextMode 3 = .ok (.if_icmp .lt 15, 3) := by decide +kernel
theorem dX7_nextMode_6 : decode cX7_nextMode 6 = .ok (.iload_n 1, 1) := by decide +kernel
theorem dX7_nextMode_7 : decode cX7_nextMode 7 = .ok (.bipush 48, 2) := by decide +kernel
theorem dX7_nextMode_9 : decode cX7_nextMode 9 = .ok (.iload_n 2, 1) := by decide +kernel
theorem dX7_nextMode_10 : decode cX7_nextMode 10 = .ok (.iadd, 1) := by decide +kernel
theorem dX7_nextMode_11 : decode cX7_nextMode 11 = .ok (.if_icmp .ge 7, 3) := by decide +kernel
theorem dX7_nextMode_14 : decode cX7_nextMode 14 = .ok (.iconst 1, 1) := by decide +kernel
theorem dX7_nextMode_15 : decode cX7_nextMode 15 = .ok (.goto 4, 3) := by decide +kernel
theorem dX7_nextMode_18 : decode cX7_nextMode 18 = .ok (.iconst 0, 1) := by decide +kernel
theorem dX7_nextMode_19 : decode cX7_nextMode 19 = .ok (.istore_n 3, 1) := by decide +kernel
theorem dX7_nextMode_20 : decode cX7_nextMode 20 = .ok (.iload_n 0, 1) := by decide +kernel
theorem dX7_nextMode_21 : decode cX7_nextMode 21 = .ok (.tableswitch 97 0 3 #[31, 51, 61, 87], 31) := by decide +kernel
theorem dX7_nextMode_52 : decode cX7_nextMode 52 = .ok (.iload_n 1, 1) := by decide +kernel
theorem dX7_nextMode_53 : decode cX7_nextMode 53 = .ok (.bipush 62, 2) := by decide +kernel
theorem dX7_nextMode_55 : decode cX7_nextMode 55 = .ok (.if_icmp .ne 7, 3) := by decide +kernel
theorem dX7_nextMode_58 : decode cX7_nextMode 58 = .ok (.iconst 1, 1) := by decide +kernel
theorem dX7_nextMode_59 : decode cX7_nextMode 59 = .ok (.goto 12, 3) := by decide +kernel
theorem dX7_nextMode_62 : decode cX7_nextMode 62 = .ok (.iload_n 3, 1) := by decide +kernel
theorem dX7_nextMode_63 : decode cX7_nextMode 63 = .ok (.ifCond .eq 7, 3) := by decide +kernel
theorem dX7_nextMode_66 : decode cX7_nextMode 66 = .ok (.iconst 2, 1) := by decide +kernel
theorem dX7_nextMode_67 : decode cX7_nextMode 67 = .ok (.goto 4, 3) := by decide +kernel
theorem dX7_nextMode_70 : decode cX7_nextMode 70 = .ok (.iconst (-1), 1) := by decide +kernel
theorem dX7_nextMode_71 : decode cX7_nextMode 71 = .ok (.ireturn, 1) := by decide +kernel
theorem dX7_nextMode_72 : decode cX7_nextMode 72 = .ok (.iload_n 3, 1) := by decide +kernel
theorem dX7_nextMode_73 : decode cX7_nextMode 73 = .ok (.ifCond .eq 7, 3) := by decide +kernel
theorem dX7_nextMode_76 : decode cX7_nextMode 76 = .ok (.iconst 4, 1) := by decide +kernel
theorem dX7_nextMode_77 : decode cX7_nextMode 77 = .ok (.goto 4, 3) := by decide +kernel
theorem dX7_nextMode_80 : decode cX7_nextMode 80 = .ok (.iconst (-1), 1) := by decide +kernel
theorem dX7_nextMode_81 : decode cX7_nextMode 81 = .ok (.ireturn, 1) := by decide +kernel
theorem dX7_nextMode_82 : decode cX7_nextMode 82 = .ok (.iload_n 1, 1) := by decide +kernel
theorem dX7_nextMode_83 : decode cX7_nextMode 83 = .ok (.bipush 33, 2) := by decide +kernel
theorem dX7_nextMode_85 : decode cX7_nextMode 85 = .ok (.if_icmp .ne 7, 3) := by decide +kernel
theorem dX7_nextMode_88 : decode cX7_nextMode 88 = .ok (.iconst 4, 1) := by decide +kernel
theorem dX7_nextMode_89 : decode cX7_nextMode 89 = .ok (.goto 18, 3) := by decide +kernel
theorem dX7_nextMode_92 : decode cX7_nextMode 92 = .ok (.iload_n 1, 1) := by decide +kernel
theorem dX7_nextMode_93 : decode cX7_nextMode 93 = .ok (.bipush 97, 2) := by decide +kernel
theorem dX7_nextMode_95 : decode cX7_nextMode 95 = .ok (.isub, 1) := by decide +kernel
theorem dX7_nextMode_96 : decode cX7_nextMode 96 = .ok (.invokestatic 27, 3) := by decide +kernel
theorem dX7_nextMode_99 : decode cX7_nextMode 99 = .ok (.ifCond .eq 7, 3) := by decide +kernel
theorem dX7_nextMode_102 : decode cX7_nextMode 102 = .ok (.iconst 3, 1) := by decide +kernel
theorem dX7_nextMode_103 : decode cX7_nextMode 103 = .ok (.goto 4, 3) := by decide +kernel
theorem dX7_nextMode_106 : decode cX7_nextMode 106 = .ok (.iconst (-1), 1) := by decide +kernel
theorem dX7_nextMode_107 : decode cX7_nextMode 107 = .ok (.ireturn, 1) := by decide +kernel
theorem dX7_nextMode_108 : decode cX7_nextMode 108 = .ok (.iload_n 3, 1) := by decide +kernel
theorem dX7_nextMode_109 : decode cX7_nextMode 109 = .ok (.ifCond .eq 7, 3) := by decide +kernel
theorem dX7_nextMode_112 : decode cX7_nextMode 112 = .ok (.iconst 4, 1) := by decide +kernel
theorem dX7_nextMode_113 : decode cX7_nextMode 113 = .ok (.goto 4, 3) := by decide +kernel
theorem dX7_nextMode_116 : decode cX7_nextMode 116 = .ok (.iconst (-1), 1) := by decide +kernel
theorem dX7_nextMode_117 : decode cX7_nextMode 117 = .ok (.ireturn, 1) := by decide +kernel
theorem dX7_nextMode_118 : decode cX7_nextMode 118 = .ok (.iload_n 1, 1) := by decide +kernel
theorem dX7_nextMode_119 : decode cX7_nextMode 119 = .ok (.bipush 59, 2) := by decide +kernel
theorem dX7_nextMode_121 : decode cX7_nextMode 121 = .ok (.if_icmp .ne 7, 3) := by decide +kernel
theorem dX7_nextMode_124 : decode cX7_nextMode 124 = .ok (.iconst 0, 1) := by decide +kernel
theorem dX7_nextMode_125 : decode cX7_nextMode 125 = .ok (.goto 4, 3) := by decide +kernel
theorem dX7_nextMode_128 : decode cX7_nextMode 128 = .ok (.iconst (-1), 1) := by decide +kernel
theorem dX7_nextMode_129 : decode cX7_nextMode 129 = .ok (.ireturn, 1) := by decide +kernel
set_option maxRecDepth 20000 in
theorem ggX7_addItemsTo_X7_addItemTo : GoodIn wsX7_addItemsTo wsX7_addItemTo := goodIn_r _ [6, 7, 8, 9, 10, 11, 5, 12, 1, 13, 14, 15, 16, 17, 18, 19, 20, 21, 22, 23, 24, 25, 26, 27, 28, 29, 30, 31, 32, 33, 34, 35, 36, 37, 40, 41, 42, 43, 38, 39] (by decide +kernel) (by decide +kernel)
set_option maxRecDepth 20000 in
theorem gX7_addItemsTo_X7_addItemTo : GoodIn wsX7_addItemsTo (wsV RX7 31 RX7 yX7_addItemTo wsX7_addItemTo) := goodIn_app (goodIn_of _ (by decide +kernel)) ggX7_addItemsTo_X7_addItemTo
theorem dX7_addItemsTo_0 : decode cX7_addItemsTo 0 = .ok (.iconst 0, 1) := by decide +kernel
theorem dX7_addItemsTo_1 : decode cX7_addItemsTo 1 = .ok (.istore_n 2, 1) := by decide +kernel
theorem dX7_addItemsTo_2 : decode cX7_addItemsTo 2 = .ok (.iconst 0, 1) := by decide +kernel
theorem dX7_addItemsTo_3 : decode cX7_addItemsTo 3 = .ok (.istore_n 3, 1) := by decide +kernel
theorem dX7_addItemsTo_4 : decode cX7_addItemsTo 4 = .ok (.iload_n 3, 1) := by decide +kernel
theorem dX7_addItemsTo_5 : decode cX7_addItemsTo 5 = .ok (.aload_n 0, 1) := by decide +kernel
theorem dX7_addItemsTo_6 : decode cX7_addItemsTo 6 = .ok (.getfield 15, 3) := by decide +kernel
theorem dX7_addItemsTo_9 : decode cX7_addItemsTo 9 = .ok (.if_icmp .ge 30, 3) := by decide +kernel
theorem dX7_addItemsTo_12 : decode cX7_addItemsTo 12 = .ok (.iload_n 2, 1) := by decide +kernel
theorem dX7_addItemsTo_13 : decode cX7_addItemsTo 13 = .ok (.bipush 60, 2) := by decide +kernel
theorem dX7_addItemsTo_15 : decode cX7_addItemsTo 15 = .ok (.if_icmp .ge 24, 3) := by decide +kernel
theorem dX7_addItemsTo_18 : decode cX7_addItemsTo 18 = .ok (.aload_n 0, 1) := by decide +kernel
theorem dX7_addItemsTo_19 : decode cX7_addItemsTo 19 = .ok (.aload_n 1, 1) := by decide +kernel
theorem dX7_addItemsTo_20 : decode cX7_addItemsTo 20 = .ok (.iload_n 3, 1) := by decide +kernel
theorem dX7_addItemsTo_21 : decode cX7_addItemsTo 21 = .ok (.invokevirtual 31, 3) := by decide +kernel
theorem dX7_addItemsTo_24 : decode cX7_addItemsTo 24 = .ok (.istore 4, 2) := by decide +kernel
theorem dX7_addItemsTo_26 : decode cX7_addItemsTo 26 = .ok (.iload_n 3, 1) := by decide +kernel
theorem dX7_addItemsTo_27 : decode cX7_addItemsTo 27 = .ok (.iload 4, 2) := by decide +kernel
theorem dX7_addItemsTo_29 : decode cX7_addItemsTo 29 = .ok (.iconst 1, 1) := by decide +kernel
theorem dX7_addItemsTo_30 : decode cX7_addItemsTo 30 = .ok (.iadd, 1) := by decide +kernel
theorem dX7_addItemsTo_31 : decode cX7_addItemsTo 31 = .ok (.iadd, 1) := by decide +kernel
theorem dX7_addItemsTo_32 : decode cX7_addItemsTo 32 = .ok (.istore_n 3, 1) := by decide +kernel
theorem dX7_addItemsTo_33 : decode cX7_addItemsTo 33 = .ok (.iinc 2 1, 3) := by decide +kernel
theorem dX7_addItemsTo_36 : decode cX7_addItemsTo 36 = .ok (.goto (-32), 3) := by decide +kernel
theorem dX7_addItemsTo_39 : decode cX7_addItemsTo 39 = .ok (.iload_n 2, 1) := by decide +kernel
theorem dX7_addItemsTo_40 : decode cX7_addItemsTo 40 = .ok (.ireturn, 1) := by decide +kernel
set_option maxRecDepth 20000 in
theorem ggX7_addItemTo_X7_characterAt : GoodIn wsX7_addItemTo wsX7_characterAt := goodIn_r _ [7, 8, 9, 38, 39] (by decide +kernel) (by decide +kernel)
set_option maxRecDepth 20000 in
theorem gX7_addItemTo_X7_characterAt : GoodIn wsX7_addItemTo (wsV RX7 19 RX7 yX7_characterAt wsX7_characterAt) := goodIn_app (goodIn_of _ (by decide +kernel)) ggX7_addItemTo_X7_characterAt
set_option maxRecDepth 20000 in
theorem ggX7_addItemTo_X0_add : GoodIn wsX7_addItemTo wsX0_add := goodIn_r _ [14, 15, 16, 17, 18, 13, 19, 20, 21, 22, 23, 24, 25, 26, 27, 28, 29, 30, 31, 32, 33, 34, 35, 36, 37] (by decide +kernel) (by decide +kernel)
set_option maxRecDepth 20000 in
theorem gX7_addItemTo_X0_add : GoodIn wsX7_addItemTo (wsV RX7 43 RX0 yX0_add wsX0_add) := goodIn_app (goodIn_of _ (by decide +kernel)) ggX7_addItemTo_X0_add
theorem dX7_addItemTo_0 : decode cX7_addItemTo 0 = .ok (.aload_n 0, 1) := by decide +kernel
theorem dX7_addItemTo_1 : decode cX7_addItemTo 1 = .ok (.iload_n 2, 1) := by decide +kernel
theorem dX7_addItemTo_2 : decode cX7_addItemTo 2 = .ok (.invokevirtual 19, 3) := by decide +kernel
theorem dX7_addItemTo_5 : decode cX7_addItemTo 5 = .ok (.istore_n 3, 1) := by decide +kernel
theorem dX7_addItemTo_6 : decode cX7_addItemTo 6 = .ok (.aload_n 0, 1) := by decide +kernel
theorem dX7_addItemTo_7 : decode cX7_addItemTo 7 = .ok (.iload_n 2, 1) := by decide +kernel
theorem dX7_addItemTo_8 : decode cX7_addItemTo 8 = .ok (.iconst 1, 1) := by decide +kernel
theorem dX7_addItemTo_9 : decode cX7_addItemTo 9 = .ok (.iadd, 1) := by decide +kernel
theorem dX7_addItemTo_10 : decode cX7_addItemTo 10 = .ok (.invokevirtual 19, 3) := by decide +kernel
theorem dX7_addItemTo_13 : decode cX7_addItemTo 13 = .ok (.istore 4, 2) := by decide +kernel
theorem dX7_addItemTo_15 : decode cX7_addItemTo 15 = .ok (.iload_n 3, 1) := by decide +kernel
theorem dX7_addItemTo_16 : decode cX7_addItemTo 16 = .ok (.bipush 62, 2) := by decide +kernel
theorem dX7_addItemTo_18 : decode cX7_addItemTo 18 = .ok (.if_icmp .ne 21, 3) := by decide +kernel
theorem dX7_addItemTo_21 : decode cX7_addItemTo 21 = .ok (.aload_n 1, 1) := by decide +kernel
theorem dX7_addItemTo_22 : decode cX7_addItemTo 22 = .ok (.dup, 1) := by decide +kernel
theorem dX7_addItemTo_23 : decode cX7_addItemTo 23 = .ok (.getfield 35, 3) := by decide +kernel
theorem dX7_addItemTo_26 : decode cX7_addItemTo 26 = .ok (.iconst 1, 1) := by decide +kernel
theorem dX7_addItemTo_27 : decode cX7_addItemTo 27 = .ok (.iload 4, 2) := by decide +kernel
theorem dX7_addItemTo_29 : decode cX7_addItemTo 29 = .ok (.bipush 48, 2) := by decide +kernel
theorem dX7_addItemTo_31 : decode cX7_addItemTo 31 = .ok (.isub, 1) := by decide +kernel
theorem dX7_addItemTo_32 : decode cX7_addItemTo 32 = .ok (.ishl, 1) := by decide +kernel
theorem dX7_addItemTo_33 : decode cX7_addItemTo 33 = .ok (.ior, 1) := by decide +kernel
theorem dX7_addItemTo_34 : decode cX7_addItemTo 34 = .ok (.putfield 35, 3) := by decide +kernel
theorem dX7_addItemTo_37 : decode cX7_addItemTo 37 = .ok (.iconst 2, 1) := by decide +kernel
theorem dX7_addItemTo_38 : decode cX7_addItemTo 38 = .ok (.ireturn, 1) := by decide +kernel
theorem dX7_addItemTo_39 : decode cX7_addItemTo 39 = .ok (.iload 4, 2) := by decide +kernel
theorem dX7_addItemTo_41 : decode cX7_addItemTo 41 = .ok (.bipush 33, 2) := by decide +kernel
theorem dX7_addItemTo_43 : decode cX7_addItemTo 43 = .ok (.if_icmp .ne 20, 3) := by decide +kernel
theorem dX7_addItemTo_46 : decode cX7_addItemTo 46 = .ok (.aload_n 1, 1) := by decide +kernel
theorem dX7_addItemTo_47 : decode cX7_addItemTo 47 = .ok (.dup, 1) := by decide +kernel
theorem dX7_addItemTo_48 : decode cX7_addItemTo 48 = .ok (.getfield 40, 3) := by decide +kernel
theorem dX7_addItemTo_51 : decode cX7_addItemTo 51 = .ok (.iconst 1, 1) := by decide +kernel
theorem dX7_addItemTo_52 : decode cX7_addItemTo 52 = .ok (.iload_n 3, 1) := by decide +kernel
theorem dX7_addItemTo_53 : decode cX7_addItemTo 53 = .ok (.bipush 48, 2) := by decide +kernel
theorem dX7_addItemTo_55 : decode cX7_addItemTo 55 = .ok (.isub, 1) := by decide +kernel
theorem dX7_addItemTo_56 : decode cX7_addItemTo 56 = .ok (.ishl, 1) := by decide +kernel
theorem dX7_addItemTo_57 : decode cX7_addItemTo 57 = .ok (.ior, 1) := by decide +kernel
theorem dX7_addItemTo_58 : decode cX7_addItemTo 58 = .ok (.putfield 40, 3) := by decide +kernel
theorem dX7_addItemTo_61 : decode cX7_addItemTo 61 = .ok (.iconst 2, 1) := by decide +kernel
theorem dX7_addItemTo_62 : decode cX7_addItemTo 62 = .ok (.ireturn, 1) := by decide +kernel
theorem dX7_addItemTo_63 : decode cX7_addItemTo 63 = .ok (.aload_n 1, 1) := by decide +kernel
theorem dX7_addItemTo_64 : decode cX7_addItemTo 64 = .ok (.iload_n 3, 1) := by decide +kernel
theorem dX7_addItemTo_65 : decode cX7_addItemTo 65 = .ok (.bipush 48, 2) := by decide +kernel
theorem dX7_addItemTo_67 : decode cX7_addItemTo 67 = .ok (.isub, 1) := by decide +kernel
theorem dX7_addItemTo_68 : decode cX7_addItemTo 68 = .ok (.iload 4, 2) := by decide +kernel
theorem dX7_addItemTo_70 : decode cX7_addItemTo 70 = .ok (.bipush 97, 2) := by decide +kernel
theorem dX7_addItemTo_72 : decode cX7_addItemTo 72 = .ok (.isub, 1) := by decide +kernel
theorem dX7_addItemTo_73 : decode cX7_addItemTo 73 = .ok (.aload_n 0, 1) := by decide +kernel
theorem dX7_addItemTo_74 : decode cX7_addItemTo 74 = .ok (.iload_n 2, 1) := by decide +kernel
theorem dX7_addItemTo_75 : decode cX7_addItemTo 75 = .ok (.iconst 2, 1) := by decide +kernel
theorem dX7_addItemTo_76 : decode cX7_addItemTo 76 = .ok (.iadd, 1) := by decide +kernel
theorem dX7_addItemTo_77 : decode cX7_addItemTo 77 = .ok (.invokevirtual 19, 3) := by decide +kernel
theorem dX7_addItemTo_80 : decode cX7_addItemTo 80 = .ok (.bipush 48, 2) := by decide +kernel
theorem dX7_addItemTo_82 : decode cX7_addItemTo 82 = .ok (.isub, 1) := by decide +kernel
theorem dX7_addItemTo_83 : decode cX7_addItemTo 83 = .ok (.invokevirtual 43, 3) := by decide +kernel
theorem dX7_addItemTo_86 : decode cX7_addItemTo 86 = .ok (.pop, 1) := by decide +kernel
theorem dX7_addItemTo_87 : decode cX7_addItemTo 87 = .ok (.iconst 3, 1) := by decide +kernel
theorem dX7_addItemTo_88 : decode cX7_addItemTo 88 = .ok (.ireturn, 1) := by decide +kernel
theorem dX8_init_0 : decode cX8_init 0 = .ok (.aload_n 0, 1) := by decide +kernel
theorem dX8_init_1 : decode cX8_init 1 = .ok (.invokespecial 3, 3) := by decide +kernel
theorem dX8_init_4 : decode cX8_init 4 = .ok (.aload_n 0, 1) := by decide +kernel
theorem dX8_init_5 : decode cX8_init 5 = .ok (.sipush 216, 3) := by decide +kernel
theorem dX8_init_8 : decode cX8_init 8 = .ok (.newarray .int, 2) := by decide +kernel
theorem dX8_init_10 : decode cX8_init 10 = .ok (.putfield 9, 3) := by decide +kernel
theorem dX8_init_13 : decode cX8_init 13 = .ok (.return_, 1) := by decide +kernel
theorem dX8_hasPosition_0 : decode cX8_hasPosition 0 = .ok (.iload_n 1, 1) := by decide +kernel
theorem dX8_hasPosition_1 : decode cX8_hasPosition 1 = .ok (.ifCond .lt 24, 3) := by decide +kernel
theorem dX8_hasPosition_4 : decode cX8_hasPosition 4 = .ok (.iload_n 1, 1) := by decide +kernel
theorem dX8_hasPosition_5 : decode cX8_hasPosition 5 = .ok (.aload_n 0, 1) := by decide +kernel
theorem dX8_hasPosition_6 : decode cX8_hasPosition 6 = .ok (.getfield 15, 3) := by decide +kernel
theorem dX8_hasPosition_9 : decode cX8_hasPosition 9 = .ok (.if_icmp .ge 16, 3) := by decide +kernel
theorem dX8_hasPosition_12 : decode cX8_hasPosition 12 = .ok (.iload_n 1, 1) := by decide +kernel
theorem dX8_hasPosition_13 : decode cX8_hasPosition 13 = .ok (.aload_n 0, 1) := by decide +kernel
theorem dX8_hasPosition_14 : decode cX8_hasPosition 14 = .ok (.getfield 9, 3) := by decide +kernel
theorem dX8_hasPosition_17 : decode cX8_hasPosition 17 = .ok (.arraylength, 1) := by decide +kernel
theorem dX8_hasPosition_18 : decode cX8_hasPosition 18 = .ok (.if_icmp .ge 7, 3) := by decide +kernel
theorem dX8_hasPosition_21 : decode cX8_hasPosition 21 = .ok (.iconst 1, 1) := by decide +kernel
theorem dX8_hasPosition_22 : decode cX8_hasPosition 22 = .ok (.goto 4, 3) := by decide +kernel
theorem dX8_hasPosition_25 : decode cX8_hasPosition 25 = .ok (.iconst 0, 1) := by decide +kernel
theorem dX8_hasPosition_26 : decode cX8_hasPosition 26 = .ok (.ireturn, 1) := by decide +kernel
set_option maxRecDepth 20000 in
theorem ggX8_letterAt_X8_hasPosition : GoodIn wsX8_letterAt wsX8_hasPosition := goodIn_r _ [6, 7, 1, 8, 9] (by decide +kernel) (by decide +kernel)
set_option maxRecDepth 20000 in
theorem gX8_letterAt_X8_hasPosition : GoodIn wsX8_letterAt (wsV RX8 19 RX8 yX8_hasPosition wsX8_hasPosition) := goodIn_app (goodIn_of _ (by decide +kernel)) ggX8_letterAt_X8_hasPosition
theorem dX8_letterAt_0 : decode cX8_letterAt 0 = .ok (.aload_n 0, 1) := by decide +kernel
theorem dX8_letterAt_1 : decode cX8_letterAt 1 = .ok (.iload_n 1, 1) := by decide +kernel
theorem dX8_letterAt_2 : decode cX8_letterAt 2 = .ok (.invokevirtual 19, 3) := by decide +kernel
theorem dX8_letterAt_5 : decode cX8_letterAt 5 = .ok (.ifCond .eq 12, 3) := by decide +kernel
theorem dX8_letterAt_8 : decode cX8_letterAt 8 = .ok (.aload_n 0, 1) := by decide +kernel
theorem dX8_letterAt_9 : decode cX8_letterAt 9 = .ok (.getfield 9, 3) := by decide +kernel
theorem dX8_letterAt_12 : decode cX8_letterAt 12 = .ok (.iload_n 1, 1) := by decide +kernel
theorem dX8_letterAt_13 : decode cX8_letterAt 13 = .ok (.iaload, 1) := by decide +kernel
theorem dX8_letterAt_14 : decode cX8_letterAt 14 = .ok (.goto 4, 3) := by decide +kernel
theorem dX8_letterAt_17 : decode cX8_letterAt 17 = .ok (.iconst 0, 1) := by decide +kernel
theorem dX8_letterAt_18 : decode cX8_letterAt 18 = .ok (.ireturn, 1) := by decide +kernel
set_option maxRecDepth 20000 in
theorem ggX8_setLetter_X8_hasPosition : GoodIn wsX8_setLetter wsX8_hasPosition := goodIn_r _ [6, 7, 1, 8, 9] (by decide +kernel) (by decide +kernel)
set_option maxRecDepth 20000 in
theorem gX8_setLetter_X8_hasPosition : GoodIn wsX8_setLetter (wsV RX8 19 RX8 yX8_hasPosition wsX8_hasPosition) := goodIn_app (goodIn_of _ (by decide +kernel)) ggX8_setLetter_X8_hasPosition
theorem dX8_setLetter_0 : decode cX8_setLetter 0 = .ok (.aload_n 0, 1) := by decide +kernel
theorem dX8_setLetter_1 : decode cX8_setLetter 1 = .ok (.iload_n 1, 1) := by decide +kernel
theorem dX8_setLetter_2 : decode cX8_setLetter 2 = .ok (.invokevirtual 19, 3) := by decide +kernel
theorem dX8_setLetter_5 : decode cX8_setLetter 5 = .ok (.ifCond .eq 10, 3) := by decide +kernel
theorem dX8_setLetter_8 : decode cX8_setLetter 8 = .ok (.aload_n 0, 1) := by decide +kernel
theorem dX8_setLetter_9 : decode cX8_setLetter 9 = .ok (.getfield 9, 3) := by decide +kernel
theorem dX8_setLetter_12 : decode cX8_setLetter 12 = .ok (.iload_n 1, 1) := by decide +kernel
theorem dX8_setLetter_13 : decode cX8_setLetter 13 = .ok (.iload_n 2, 1) := by decide +kernel
theorem dX8_setLetter_14 : decode cX8_setLetter 14 = .ok (.iastore, 1) := by decide +kernel
theorem dX8_setLetter_15 : decode cX8_setLetter 15 = .ok (.return_, 1) := by decide +kernel
set_option maxRecDepth 20000 in
theorem ggX8_add_X8_setLetter : GoodIn wsX8_add wsX8_setLetter := goodIn_r _ [7, 2, 8, 9, 10, 6, 11, 1, 12, 13] (by decide +kernel) (by decide +kernel)
set_option maxRecDepth 20000 in
theorem gX8_add_X8_setLetter : GoodIn wsX8_add (wsV RX8 23 RX8 yX8_setLetter wsX8_setLetter) := goodIn_app (goodIn_of _ (by decide +kernel)) ggX8_add_X8_setLetter
theorem dX8_add_0 : decode cX8_add 0 = .ok (.aload_n 0, 1) := by decide +kernel
theorem dX8_add_1 : decode cX8_add 1 = .ok (.getfield 15, 3) := by decide +kernel
theorem dX8_add_4 : decode cX8_add 4 = .ok (.aload_n 0, 1) := by decide +kernel
theorem dX8_add_5 : decode cX8_add 5 = .ok (.getfield 9, 3) := by decide +kernel
theorem dX8_add_8 : decode cX8_add 8 = .ok (.arraylength, 1) := by decide +kernel
theorem dX8_add_9 : decode cX8_add 9 = .ok (.if_icmp .ge 24, 3) := by decide +kernel
theorem dX8_add_12 : decode cX8_add 12 = .ok (.aload_n 0, 1) := by decide +kernel
theorem dX8_add_13 : decode cX8_add 13 = .ok (.dup, 1) := by decide +kernel
theorem dX8_add_14 : decode cX8_add 14 = .ok (.getfield 15, 3) := by decide +kernel
theorem dX8_add_17 : decode cX8_add 17 = .ok (.iconst 1, 1) := by decide +kernel
theorem dX8_add_18 : decode cX8_add 18 = .ok (.iadd, 1) := by decide +kernel
theorem dX8_add_19 : decode cX8_add 19 = .ok (.putfield 15, 3) := by decide +kernel
theorem dX8_add_22 : decode cX8_add 22 = .ok (.aload_n 0, 1) := by decide +kernel
theorem dX8_add_23 : decode cX8_add 23 = .ok (.aload_n 0, 1) := by decide +kernel
theorem dX8_add_24 : decode cX8_add 24 = .ok (.getfield 15, 3) := by decide +kernel
theorem dX8_add_27 : decode cX8_add 27 = .ok (.iconst 1, 1) := by decide +kernel
theorem dX8_add_28 : decode cX8_add 28 = .ok (.isub, 1) := by decide +kernel
theorem dX8_add_29 : decode cX8_add 29 = .ok (.iload_n 1, 1) := by decide +kernel
theorem dX8_add_30 : decode cX8_add 30 = .ok (.invokevirtual 23, 3) := by decide +kernel
theorem dX8_add_33 : decode cX8_add 33 = .ok (.return_, 1) := by decide +kernel
set_option maxRecDepth 20000 in
theorem ggX8_copyFrom_X8_letterAt : GoodIn wsX8_copyFrom wsX8_letterAt := goodIn_r _ [6, 7, 8, 9, 10, 5, 11, 1, 16, 17] (by decide +kernel) (by decide +kernel)
set_option maxRecDepth 20000 in
theorem gX8_copyFrom_X8_letterAt : GoodIn wsX8_copyFrom (wsV RX8 27 RX8 yX8_letterAt wsX8_letterAt) := goodIn_app (goodIn_of _ (by decide +kernel)) ggX8_copyFrom_X8_letterAt
set_option maxRecDepth 20000 in
theorem ggX8_copyFrom_X8_setLetter : GoodIn wsX8_copyFrom wsX8_setLetter := goodIn_r _ [15, 7, 8, 9, 10, 5, 11, 1, 16, 17] (by decide +kernel) (by decide +kernel)
set_option maxRecDepth 20000 in
theorem gX8_copyFrom_X8_setLetter : GoodIn wsX8_copyFrom (wsV RX8 23 RX8 yX8_setLetter wsX8_setLetter) := goodIn_app (goodIn_of _ (by decide +kernel)) ggX8_copyFrom_X8_setLetter
theorem dX8_copyFrom_0 : decode cX8_copyFrom 0 = .ok (.aload_n 0, 1) := by decide +kernel
theorem dX8_copyFrom_1 : decode cX8_copyFrom 1 = .ok (.aload_n 1, 1) := by decide +kernel
theorem dX8_copyFrom_2 : decode cX8_copyFrom 2 = .ok (.getfield 15, 3) := by decide +kernel
theorem dX8_copyFrom_5 : decode cX8_copyFrom 5 = .ok (.putfield 15, 3) := by decide +kernel
theorem dX8_copyFrom_8 : decode cX8_copyFrom 8 = .ok (.iconst 0, 1) := by decide +kernel
theorem dX8_copyFrom_9 : decode cX8_copyFrom 9 = .ok (.istore_n 2, 1) := by decide +kernel
theorem dX8_copyFrom_10 : decode cX8_copyFrom 10 = .ok (.iload_n 2, 1) := by decide +kernel
theorem dX8_copyFrom_11 : decode cX8_copyFrom 11 = .ok (.aload_n 0, 1) := by decide +kernel
theorem dX8_copyFrom_12 : decode cX8_copyFrom 12 = .ok (.getfield 15, 3) := by decide +kernel
theorem dX8_copyFrom_15 : decode cX8_copyFrom 15 = .ok (.if_icmp .ge 19, 3) := by decide +kernel
theorem dX8_copyFrom_18 : decode cX8_copyFrom 18 = .ok (.aload_n 0, 1) := by decide +kernel
theorem dX8_copyFrom_19 : decode cX8_copyFrom 19 = .ok (.iload_n 2, 1) := by decide +kernel
theorem dX8_copyFrom_20 : decode cX8_copyFrom 20 = .ok (.aload_n 1, 1) := by decide +kernel
theorem dX8_copyFrom_21 : decode cX8_copyFrom 21 = .ok (.iload_n 2, 1) := by decide +kernel
theorem dX8_copyFrom_22 : decode cX8_copyFrom 22 = .ok (.invokevirtual 27, 3) := by decide +kernel
theorem dX8_copyFrom_25 : decode cX8_copyFrom 25 = .ok (.invokevirtual 23, 3) := by decide +kernel
theorem dX8_copyFrom_28 : decode cX8_copyFrom 28 = .ok (.iinc 2 1, 3) := by decide +kernel
theorem dX8_copyFrom_31 : decode cX8_copyFrom 31 = .ok (.goto (-21), 3) := by decide +kernel
theorem dX8_copyFrom_34 : decode cX8_copyFrom 34 = .ok (.return_, 1) := by decide +kernel
set_option maxRecDepth 20000 in
theorem ggX9_init_X6_init : GoodIn wsX9_init wsX6_init := goodIn_r _ [15, 16, 2, 3, 8, 17, 18, 19, 20] (by decide +kernel) (by decide +kernel)
set_option maxRecDepth 20000 in
theorem gX9_init_X6_init_n13 : GoodIn wsX9_init (wsX6_init) := ggX9_init_X6_init
theorem dX9_init_0 : decode cX9_init 0 = .ok (.aload_n 0, 1) := by decide +kernel
theorem dX9_init_1 : decode cX9_init 1 = .ok (.invokespecial 5, 3) := by decide +kernel
theorem dX9_init_4 : decode cX9_init 4 = .ok (.aload_n 0, 1) := by decide +kernel
theorem dX9_init_5 : decode cX9_init 5 = .ok (.new 11, 3) := by decide +kernel
theorem dX9_init_8 : decode cX9_init 8 = .ok (.dup, 1) := by decide +kernel
theorem dX9_init_9 : decode cX9_init 9 = .ok (.invokespecial 13, 3) := by decide +kernel
theorem dX9_init_12 : decode cX9_init 12 = .ok (.putfield 14, 3) := by decide +kernel
theorem dX9_init_15 : decode cX9_init 15 = .ok (.aload_n 0, 1) := by decide +kernel
theorem dX9_init_16 : decode cX9_init 16 = .ok (.sipush 4096, 3) := by decide +kernel
theorem dX9_init_19 : decode cX9_init 19 = .ok (.newarray .int, 2) := by decide +kernel
theorem dX9_init_21 : decode cX9_init 21 = .ok (.putfield 18, 3) := by decide +kernel
theorem dX9_init_24 : decode cX9_init 24 = .ok (.aload_n 0, 1) := by decide +kernel
theorem dX9_init_25 : decode cX9_init 25 = .ok (.iconst (-1), 1) := by decide +kernel
theorem dX9_init_26 : decode cX9_init 26 = .ok (.putfield 22, 3) := by decide +kernel
theorem dX9_init_29 : decode cX9_init 29 = .ok (.aload_n 0, 1) := by decide +kernel
theorem dX9_init_30 : decode cX9_init 30 = .ok (.bipush 64, 2) := by decide +kernel
theorem dX9_init_32 : decode cX9_init 32 = .ok (.newarray .long, 2) := by decide +kernel
theorem dX9_init_34 : decode cX9_init 34 = .ok (.putfield 26, 3) := by decide +kernel
theorem dX9_init_37 : decode cX9_init 37 = .ok (.aload_n 0, 1) := by decide +kernel
theorem dX9_init_38 : decode cX9_init 38 = .ok (.bipush 6, 2) := by decide +kernel
theorem dX9_init_40 : decode cX9_init 40 = .ok (.newarray .int, 2) := by decide +kernel
theorem dX9_init_42 : decode cX9_init 42 = .ok (.putfield 30, 3) := by decide +kernel
theorem dX9_init_45 : decode cX9_init 45 = .ok (.return_, 1) := by decide +kernel
set_option maxRecDepth 20000 in
theorem ggX9_look_X6_load : GoodIn wsX9_look wsX6_load := goodIn_r _ [13, 14, 15, 16, 17, 18, 19, 20, 21, 22, 23, 12, 24, 25, 26, 27, 28, 29, 64, 65, 66, 67, 68, 69] (by decide +kernel) (by decide +kernel)
set_option maxRecDepth 20000 in
theorem gX9_look_X6_load : GoodIn wsX9_look (wsV RX9 33 RX6 yX6_load wsX6_load) := goodIn_app (goodIn_of _ (by decide +kernel)) ggX9_look_X6_load
set_option maxRecDepth 20000 in
theorem ggX9_look_X0_usefulSet : GoodIn wsX9_look wsX0_usefulSet := goodIn_r _ [33, 34, 35, 36, 37, 38, 17, 39, 19, 40, 28, 41, 42, 43, 44, 45, 46, 15, 16, 18, 20, 47, 48, 49, 50, 64, 65, 66, 67] (by decide +kernel) (by decide +kernel)
set_option maxRecDepth 20000 in
theorem gX9_look_X0_usefulSet : GoodIn wsX9_look (wsV RX9 51 RX0 yX0_usefulSet wsX0_usefulSet) := goodIn_app (goodIn_of _ (by decide +kernel)) ggX9_look_X0_usefulSet
theorem dX9_look_0 : decode cX9_look 0 = .ok (.aload_n 0, 1) := by decide +kernel
theorem dX9_look_1 : decode cX9_look 1 = .ok (.getfield 14, 3) := by decide +kernel
theorem dX9_look_4 : decode cX9_look 4 = .ok (.aload_n 1, 1) := by decide +kernel
theorem dX9_look_5 : decode cX9_look 5 = .ok (.invokevirtual 33, 3) := by decide +kernel
theorem dX9_look_8 : decode cX9_look 8 = .ok (.aload_n 0, 1) := by decide +kernel
theorem dX9_look_9 : decode cX9_look 9 = .ok (.aload_n 1, 1) := by decide +kernel
theorem dX9_look_10 : decode cX9_look 10 = .ok (.getfield 37, 3) := by decide +kernel
theorem dX9_look_13 : decode cX9_look 13 = .ok (.putfield 42, 3) := by decide +kernel
theorem dX9_look_16 : decode cX9_look 16 = .ok (.aload_n 0, 1) := by decide +kernel
theorem dX9_look_17 : decode cX9_look 17 = .ok (.aload_n 1, 1) := by decide +kernel
theorem dX9_look_18 : decode cX9_look 18 = .ok (.getfield 43, 3) := by decide +kernel
theorem dX9_look_21 : decode cX9_look 21 = .ok (.putfield 46, 3) := by decide +kernel
theorem dX9_look_24 : decode cX9_look 24 = .ok (.aload_n 0, 1) := by decide +kernel
theorem dX9_look_25 : decode cX9_look 25 = .ok (.aload_n 1, 1) := by decide +kernel
theorem dX9_look_26 : decode cX9_look 26 = .ok (.getfield 47, 3) := by decide +kernel
theorem dX9_look_29 : decode cX9_look 29 = .ok (.putfield 50, 3) := by decide +kernel
theorem dX9_look_32 : decode cX9_look 32 = .ok (.aload_n 0, 1) := by decide +kernel
theorem dX9_look_33 : decode cX9_look 33 = .ok (.aload_n 1, 1) := by decide +kernel
theorem dX9_look_34 : decode cX9_look 34 = .ok (.invokevirtual 51, 3) := by decide +kernel
theorem dX9_look_37 : decode cX9_look 37 = .ok (.putfield 55, 3) := by decide +kernel
theorem dX9_look_40 : decode cX9_look 40 = .ok (.return_, 1) := by decide +kernel
set_option maxRecDepth 20000 in
theorem ggX9_growthKind_X9_findAmbiguousWord : GoodIn wsX9_growthKind wsX9_findAmbiguousWord := goodIn_r _ [5, 6, 7, 8, 9, 10, 4, 11, 12, 13, 14, 15, 16, 17, 18, 19, 20, 21, 22, 23, 24, 25, 26, 27, 28, 29, 30, 31, 32, 33, 34, 35, 36, 37, 38, 39, 40, 41, 42, 43, 44, 45, 46, 47, 48, 49, 50, 51, 52, 53, 54, 55, 56, 57, 58, 59, 60, 61, 83, 84, 85, 86, 87, 88, 89, 90, 91, 92, 93, 94, 95, 96, 97] (by decide +kernel) (by decide +kernel)
set_option maxRecDepth 20000 in
theorem gX9_growthKind_X9_findAmbiguousWord : GoodIn wsX9_growthKind (wsV RX9 58 RX9 yX9_findAmbiguousWord wsX9_findAmbiguousWord) := goodIn_app (goodIn_of _ (by decide +kernel)) ggX9_growthKind_X9_findAmbiguousWord
set_option maxRecDepth 20000 in
theorem ggX9_growthKind_X9_lowestLoopState : GoodIn wsX9_growthKind wsX9_lowestLoopState := goodIn_r _ [65, 66, 67, 68, 69, 4, 70, 6, 36, 71, 72, 73, 74, 8, 9, 10, 11, 12, 13, 14, 15, 16, 17, 18, 19, 20, 21, 22, 23, 24, 25, 26, 27, 28, 29, 30, 31, 32, 33, 34, 35, 37, 38, 39, 40, 41, 42, 43, 44, 45, 46, 47, 48, 49, 50, 51, 52, 53, 54, 55, 56, 57, 58, 59, 60, 61, 83, 84, 85, 86, 87, 88, 89, 90, 91, 92, 93, 94, 95, 96, 97] (by decide +kernel) (by decide +kernel)
set_option maxRecDepth 20000 in
theorem gX9_growthKind_X9_lowestLoopState : GoodIn wsX9_growthKind (wsV RX9 62 RX9 yX9_lowestLoopState wsX9_lowestLoopState) := goodIn_app (goodIn_of _ (by decide +kernel)) ggX9_growthKind_X9_lowestLoopState
set_option maxRecDepth 20000 in
theorem ggX9_growthKind_X9_firstSplitPair : GoodIn wsX9_growthKind wsX9_firstSplitPair := goodIn_r _ [78, 66, 79, 80, 81, 4, 82, 6, 36, 37, 71, 72, 73, 74, 8, 9, 10, 11, 12, 13, 14, 15, 16, 17, 18, 19, 20, 21, 22, 23, 24, 25, 26, 27, 28, 29, 30, 31, 32, 33, 34, 35, 38, 39, 40, 41, 42, 43, 44, 45, 46, 47, 48, 49, 50, 51, 52, 53, 54, 55, 56, 57, 58, 59, 60, 61, 83, 84, 85, 86, 87, 88, 89, 90, 91, 92, 93, 94, 95, 96, 97] (by decide +kernel) (by decide +kernel)
set_option maxRecDepth 20000 in
theorem gX9_growthKind_X9_firstSplitPair : GoodIn wsX9_growthKind (wsV RX9 65 RX9 yX9_firstSplitPair wsX9_firstSplitPair) := goodIn_app (goodIn_of _ (by decide +kernel)) ggX9_growthKind_X9_firstSplitPair
theorem dX9_growthKind_0 : decode cX9_growthKind 0 = .ok (.aload_n 0, 1) := by decide +kernel
theorem dX9_growthKind_1 : decode cX9_growthKind 1 = .ok (.invokevirtual 58, 3) := by decide +kernel
theorem dX9_growthKind_4 : decode cX9_growthKind 4 = .ok (.ifCond .ne 5, 3) := by decide +kernel
theorem dX9_growthKind_7 : decode cX9_growthKind 7 = .ok (.iconst 0, 1) := by decide +kernel
theorem dX9_growthKind_8 : decode cX9_growthKind 8 = .ok (.ireturn, 1) := by decide +kernel
theorem dX9_growthKind_9 : decode cX9_growthKind 9 = .ok (.aload_n 0, 1) := by decide +kernel
theorem dX9_growthKind_10 : decode cX9_growthKind 10 = .ok (.invokevirtual 62, 3) := by decide +kernel
theorem dX9_growthKind_13 : decode cX9_growthKind 13 = .ok (.iconst (-1), 1) := by decide +kernel
theorem dX9_growthKind_14 : decode cX9_growthKind 14 = .ok (.if_icmp .eq 5, 3) := by decide +kernel
theorem dX9_growthKind_17 : decode cX9_growthKind 17 = .ok (.iconst 3, 1) := by decide +kernel
theorem dX9_growthKind_18 : decode cX9_growthKind 18 = .ok (.ireturn, 1) := by decide +kernel
theorem dX9_growthKind_19 : decode cX9_growthKind 19 = .ok (.aload_n 0, 1) := by decide +kernel
theorem dX9_growthKind_20 : decode cX9_growthKind 20 = .ok (.invokevirtual 65, 3) := by decide +kernel
theorem dX9_growthKind_23 : decode cX9_growthKind 23 = .ok (.iconst (-1), 1) := by decide +kernel
theorem dX9_growthKind_24 : decode cX9_growthKind 24 = .ok (.if_icmp .eq 7, 3) := by decide +kernel
theorem dX9_growthKind_27 : decode cX9_growthKind 27 = .ok (.iconst 2, 1) := by decide +kernel
theorem dX9_growthKind_28 : decode cX9_growthKind 28 = .ok (.goto 4, 3) := by decide +kernel
theorem dX9_growthKind_31 : decode cX9_growthKind 31 = .ok (.iconst 1, 1) := by decide +kernel
theorem dX9_growthKind_32 : decode cX9_growthKind 32 = .ok (.ireturn, 1) := by decide +kernel
set_option maxRecDepth 20000 in
theorem ggX9_findAmbiguousWord_X9_run : GoodIn wsX9_findAmbiguousWord wsX9_run := goodIn_r _ [7, 8, 9, 10, 11, 12, 13, 14, 6, 15, 16, 17, 18, 19, 20, 21, 22, 23, 24, 25, 26, 27, 28, 29, 30, 31, 1, 32, 33, 34, 35, 36, 37, 38, 39, 40, 41, 42, 43, 44, 45, 46, 47, 48, 49, 50, 51, 52, 53, 54, 55, 56, 57, 58, 59, 60, 61, 62, 63, 64, 65, 66, 67, 68, 69, 70, 71, 72] (by decide +kernel) (by decide +kernel)
set_option maxRecDepth 20000 in
theorem gX9_findAmbiguousWord_X9_run : GoodIn wsX9_findAmbiguousWord (wsV RX9 71 RX9 yX9_run wsX9_run) := goodIn_app (goodIn_of _ (by decide +kernel)) ggX9_findAmbiguousWord_X9_run
theorem dX9_findAmbiguousWord_0 : decode cX9_findAmbiguousWord 0 = .ok (.aload_n 0, 1) := by decide +kernel
theorem dX9_findAmbiguousWord_1 : decode cX9_findAmbiguousWord 1 = .ok (.iconst 0, 1) := by decide +kernel
theorem dX9_findAmbiguousWord_2 : decode cX9_findAmbiguousWord 2 = .ok (.putfield 68, 3) := by decide +kernel
theorem dX9_findAmbiguousWord_5 : decode cX9_findAmbiguousWord 5 = .ok (.aload_n 0, 1) := by decide +kernel
theorem dX9_findAmbiguousWord_6 : decode cX9_findAmbiguousWord 6 = .ok (.aload_n 0, 1) := by decide +kernel
theorem dX9_findAmbiguousWord_7 : decode cX9_findAmbiguousWord 7 = .ok (.getfield 46, 3) := by decide +kernel
theorem dX9_findAmbiguousWord_10 : decode cX9_findAmbiguousWord 10 = .ok (.iconst 0, 1) := by decide +kernel
theorem dX9_findAmbiguousWord_11 : decode cX9_findAmbiguousWord 11 = .ok (.invokevirtual 71, 3) := by decide +kernel
theorem dX9_findAmbiguousWord_14 : decode cX9_findAmbiguousWord 14 = .ok (.ireturn, 1) := by decide +kernel
set_option maxRecDepth 20000 in
theorem ggX9_findLoopWord_X10_contains : GoodIn wsX9_findLoopWord wsX10_contains := goodIn_r _ [6] (by decide +kernel) (by decide +kernel)
set_option maxRecDepth 20000 in
theorem gX9_findLoopWord_X10_contains_n78 : GoodIn wsX9_findLoopWord (wsX10_contains) := ggX9_findLoopWord_X10_contains
set_option maxRecDepth 20000 in
theorem ggX9_findLoopWord_X9_run : GoodIn wsX9_findLoopWord wsX9_run := goodIn_r _ [11, 12, 13, 14, 15, 16, 17, 18, 10, 19, 20, 21, 22, 23, 24, 25, 26, 27, 28, 29, 30, 31, 32, 33, 34, 35, 1, 2, 36, 37, 38, 39, 40, 41, 42, 43, 44, 45, 46, 47, 48, 49, 50, 51, 52, 53, 54, 55, 56, 57, 58, 59, 60, 61, 62, 63, 64, 65, 66, 67, 68, 69, 70, 71, 72, 73, 74, 75] (by decide +kernel) (by decide +kernel)
set_option maxRecDepth 20000 in
theorem gX9_findLoopWord_X9_run : GoodIn wsX9_findLoopWord (wsV RX9 71 RX9 yX9_run wsX9_run) := goodIn_app (goodIn_of _ (by decide +kernel)) ggX9_findLoopWord_X9_run
theorem dX9_findLoopWord_0 : decode cX9_findLoopWord 0 = .ok (.aload_n 0, 1) := by decide +kernel
theorem dX9_findLoopWord_1 : decode cX9_findLoopWord 1 = .ok (.iconst 1, 1) := by decide +kernel
theorem dX9_findLoopWord_2 : decode cX9_findLoopWord 2 = .ok (.putfield 68, 3) := by decide +kernel
theorem dX9_findLoopWord_5 : decode cX9_findLoopWord 5 = .ok (.aload_n 0, 1) := by decide +kernel
theorem dX9_findLoopWord_6 : decode cX9_findLoopWord 6 = .ok (.iconst 1, 1) := by decide +kernel
theorem dX9_findLoopWord_7 : decode cX9_findLoopWord 7 = .ok (.iload_n 1, 1) := by decide +kernel
theorem dX9_findLoopWord_8 : decode cX9_findLoopWord 8 = .ok (.ishl, 1) := by decide +kernel
theorem dX9_findLoopWord_9 : decode cX9_findLoopWord 9 = .ok (.putfield 75, 3) := by decide +kernel
theorem dX9_findLoopWord_12 : decode cX9_findLoopWord 12 = .ok (.aload_n 0, 1) := by decide +kernel
theorem dX9_findLoopWord_13 : decode cX9_findLoopWord 13 = .ok (.getfield 55, 3) := by decide +kernel
theorem dX9_findLoopWord_16 : decode cX9_findLoopWord 16 = .ok (.iload_n 1, 1) := by decide +kernel
theorem dX9_findLoopWord_17 : decode cX9_findLoopWord 17 = .ok (.invokestatic 78, 3) := by decide +kernel
theorem dX9_findLoopWord_20 : decode cX9_findLoopWord 20 = .ok (.ifCond .eq 19, 3) := by decide +kernel
theorem dX9_findLoopWord_23 : decode cX9_findLoopWord 23 = .ok (.aload_n 0, 1) := by decide +kernel
theorem dX9_findLoopWord_24 : decode cX9_findLoopWord 24 = .ok (.aload_n 0, 1) := by decide +kernel
theorem dX9_findLoopWord_25 : decode cX9_findLoopWord 25 = .ok (.getfield 75, 3) := by decide +kernel
theorem dX9_findLoopWord_28 : decode cX9_findLoopWord 28 = .ok (.iconst 0, 1) := by decide +kernel
theorem dX9_findLoopWord_29 : decode cX9_findLoopWord 29 = .ok (.invokevirtual 71, 3) := by decide +kernel
theorem dX9_findLoopWord_32 : decode cX9_findLoopWord 32 = .ok (.ifCond .eq 7, 3) := by decide +kernel
theorem dX9_findLoopWord_35 : decode cX9_findLoopWord 35 = .ok (.iconst 1, 1) := by decide +kernel
theorem dX9_findLoopWord_36 : decode cX9_findLoopWord 36 = .ok (.goto 4, 3) := by decide +kernel
theorem dX9_findLoopWord_39 : decode cX9_findLoopWord 39 = .ok (.iconst 0, 1) := by decide +kernel
theorem dX9_findLoopWord_40 : decode cX9_findLoopWord 40 = .ok (.ireturn, 1) := by decide +kernel
set_option maxRecDepth 20000 in
theorem ggX9_findSplitWord_X10_contains : GoodIn wsX9_findSplitWord wsX10_contains := goodIn_r _ [7] (by decide +kernel) (by decide +kernel)
set_option maxRecDepth 20000 in
theorem gX9_findSplitWord_X10_contains_n78 : GoodIn wsX9_findSplitWord (wsX10_contains) := ggX9_findSplitWord_X10_contains
set_option maxRecDepth 20000 in
theorem ggX9_findSplitWord_X9_run : GoodIn wsX9_findSplitWord wsX9_run := goodIn_r _ [12, 13, 14, 15, 16, 17, 18, 19, 11, 20, 21, 22, 23, 24, 25, 26, 27, 28, 29, 30, 31, 32, 33, 34, 35, 36, 1, 2, 3, 37, 38, 39, 40, 41, 42, 43, 44, 45, 46, 47, 48, 49, 50, 51, 52, 53, 54, 55, 56, 57, 58, 59, 60, 61, 62, 63, 64, 65, 66, 67, 68, 69, 70, 71, 72, 73, 74, 75] (by decide +kernel) (by decide +kernel)
set_option maxRecDepth 20000 in
theorem gX9_findSplitWord_X9_run : GoodIn wsX9_findSplitWord (wsV RX9 71 RX9 yX9_run wsX9_run) := goodIn_app (goodIn_of _ (by decide +kernel)) ggX9_findSplitWord_X9_run
theorem dX9_findSplitWord_0 : decode cX9_findSplitWord 0 = .ok (.aload_n 0, 1) := by decide +kernel
theorem dX9_findSplitWord_1 : decode cX9_findSplitWord 1 = .ok (.iconst 2, 1) := by decide +kernel
theorem dX9_findSplitWord_2 : decode cX9_findSplitWord 2 = .ok (.putfield 68, 3) := by decide +kernel
theorem dX9_findSplitWord_5 : decode cX9_findSplitWord 5 = .ok (.aload_n 0, 1) := by decide +kernel
theorem dX9_findSplitWord_6 : decode cX9_findSplitWord 6 = .ok (.iconst 1, 1) := by decide +kernel
theorem dX9_findSplitWord_7 : decode cX9_findSplitWord 7 = .ok (.iload_n 1, 1) := by decide +kernel
theorem dX9_findSplitWord_8 : decode cX9_findSplitWord 8 = .ok (.ishl, 1) := by decide +kernel
theorem dX9_findSplitWord_9 : decode cX9_findSplitWord 9 = .ok (.putfield 75, 3) := by decide +kernel
theorem dX9_findSplitWord_12 : decode cX9_findSplitWord 12 = .ok (.aload_n 0, 1) := by decide +kernel
theorem dX9_findSplitWord_13 : decode cX9_findSplitWord 13 = .ok (.iconst 1, 1) := by decide +kernel
theorem dX9_findSplitWord_14 : decode cX9_findSplitWord 14 = .ok (.iload_n 2, 1) := by decide +kernel
theorem dX9_findSplitWord_15 : decode cX9_findSplitWord 15 = .ok (.ishl, 1) := by decide +kernel
theorem dX9_findSplitWord_16 : decode cX9_findSplitWord 16 = .ok (.putfield 81, 3) := by decide +kernel
theorem dX9_findSplitWord_19 : decode cX9_findSplitWord 19 = .ok (.iload_n 1, 1) := by decide +kernel
theorem dX9_findSplitWord_20 : decode cX9_findSplitWord 20 = .ok (.iload_n 2, 1) := by decide +kernel
theorem dX9_findSplitWord_21 : decode cX9_findSplitWord 21 = .ok (.if_icmp .eq 44, 3) := by decide +kernel
theorem dX9_findSplitWord_24 : decode cX9_findSplitWord 24 = .ok (.aload_n 0, 1) := by decide +kernel
theorem dX9_findSplitWord_25 : decode cX9_findSplitWord 25 = .ok (.getfield 55, 3) := by decide +kernel
theorem dX9_findSplitWord_28 : decode cX9_findSplitWord 28 = .ok (.iload_n 1, 1) := by decide +kernel
theorem dX9_findSplitWord_29 : decode cX9_findSplitWord 29 = .ok (.invokestatic 78, 3) := by decide +kernel
theorem dX9_findSplitWord_32 : decode cX9_findSplitWord 32 = .ok (.ifCond .eq 33, 3) := by decide +kernel
theorem dX9_findSplitWord_35 : decode cX9_findSplitWord 35 = .ok (.aload_n 0, 1) := by decide +kernel
theorem dX9_findSplitWord_36 : decode cX9_findSplitWord 36 = .ok (.getfield 55, 3) := by decide +kernel
theorem dX9_findSplitWord_39 : decode cX9_findSplitWord 39 = .ok (.iload_n 2, 1) := by decide +kernel
theorem dX9_findSplitWord_40 : decode cX9_findSplitWord 40 = .ok (.invokestatic 78, 3) := by decide +kernel
theorem dX9_findSplitWord_43 : decode cX9_findSplitWord 43 = .ok (.ifCond .eq 22, 3) := by decide +kernel
theorem dX9_findSplitWord_46 : decode cX9_findSplitWord 46 = .ok (.aload_n 0, 1) := by decide +kernel
theorem dX9_findSplitWord_47 : decode cX9_findSplitWord 47 = .ok (.aload_n 0, 1) := by decide +kernel
theorem dX9_findSplitWord_48 : decode cX9_findSplitWord 48 = .ok (.getfield 75, 3) := by decide +kernel
theorem dX9_findSplitWord_51 : decode cX9_findSplitWord 51 = .ok (.aload_n 0, 1) := by decide +kernel
theorem dX9_findSplitWord_52 : decode cX9_findSplitWord 52 = .ok (.getfield 81, 3) := by decide +kernel
theorem dX9_findSplitWord_55 : decode cX9_findSplitWord 55 = .ok (.invokevirtual 71, 3) := by decide +kernel
theorem dX9_findSplitWord_58 : decode cX9_findSplitWord 58 = .ok (.ifCond .eq 7, 3) := by decide +kernel
theorem dX9_findSplitWord_61 : decode cX9_findSplitWord 61 = .ok (.iconst 1, 1) := by decide +kernel
theorem dX9_findSplitWord_62 : decode cX9_findSplitWord 62 = .ok (.goto 4, 3) := by decide +kernel
theorem dX9_findSplitWord_65 : decode cX9_findSplitWord 65 = .ok (.iconst 0, 1) := by decide +kernel
theorem dX9_findSplitWord_66 : decode cX9_findSplitWord 66 = .ok (.ireturn, 1) := by decide +kernel
set_option maxRecDepth 20000 in
theorem ggX9_lowestLoopState_X9_findLoopWord : GoodIn wsX9_lowestLoopState wsX9_findLoopWord := goodIn_r _ [6, 7, 8, 9, 10, 11, 12, 13, 14, 15, 5, 16, 17, 18, 19, 20, 21, 22, 23, 24, 25, 26, 27, 28, 29, 30, 31, 32, 33, 34, 35, 36, 37, 38, 39, 40, 41, 42, 43, 44, 45, 46, 47, 48, 49, 50, 51, 52, 53, 54, 55, 56, 57, 58, 59, 60, 61, 62, 63, 64, 65, 66, 67, 68, 69, 70, 71, 72, 73, 74, 75, 76, 77, 78, 79, 80] (by decide +kernel) (by decide +kernel)
set_option maxRecDepth 20000 in
theorem gX9_lowestLoopState_X9_findLoopWord : GoodIn wsX9_lowestLoopState (wsV RX9 84 RX9 yX9_findLoopWord wsX9_findLoopWord) := goodIn_app (goodIn_of _ (by decide +kernel)) ggX9_lowestLoopState_X9_findLoopWord
theorem dX9_lowestLoopState_0 : decode cX9_lowestLoopState 0 = .ok (.iconst 0, 1) := by decide +kernel
theorem dX9_lowestLoopState_1 : decode cX9_lowestLoopState 1 = .ok (.istore_n 1, 1) := by decide +kernel
theorem dX9_lowestLoopState_2 : decode cX9_lowestLoopState 2 = .ok (.iload_n 1, 1) := by decide +kernel
theorem dX9_lowestLoopState_3 : decode cX9_lowestLoopState 3 = .ok (.aload_n 0, 1) := by decide +kernel
theorem dX9_lowestLoopState_4 : decode cX9_lowestLoopState 4 = .ok (.getfield 42, 3) := by decide +kernel
theorem dX9_lowestLoopState_7 : decode cX9_lowestLoopState 7 = .ok (.if_icmp .ge 19, 3) := by decide +kernel
theorem dX9_lowestLoopState_10 : decode cX9_lowestLoopState 10 = .ok (.aload_n 0, 1) := by decide +kernel
theorem dX9_lowestLoopState_11 : decode cX9_lowestLoopState 11 = .ok (.iload_n 1, 1) := by decide +kernel
theorem dX9_lowestLoopState_12 : decode cX9_lowestLoopState 12 = .ok (.invokevirtual 84, 3) := by decide +kernel
theorem dX9_lowestLoopState_15 : decode cX9_lowestLoopState 15 = .ok (.ifCond .eq 5, 3) := by decide +kernel
theorem dX9_lowestLoopState_18 : decode cX9_lowestLoopState 18 = .ok (.iload_n 1, 1) := by decide +kernel
theorem dX9_lowestLoopState_19 : decode cX9_lowestLoopState 19 = .ok (.ireturn, 1) := by decide +kernel
theorem dX9_lowestLoopState_20 : decode cX9_lowestLoopState 20 = .ok (.iinc 1 1, 3) := by decide +kernel
theorem dX9_lowestLoopState_23 : decode cX9_lowestLoopState 23 = .ok (.goto (-21), 3) := by decide +kernel
theorem dX9_lowestLoopState_26 : decode cX9_lowestLoopState 26 = .ok (.iconst (-1), 1) := by decide +kernel
theorem dX9_lowestLoopState_27 : decode cX9_lowestLoopState 27 = .ok (.ireturn, 1) := by decide +kernel
set_option maxRecDepth 20000 in
theorem ggX9_firstSplitPair_X9_findSplitWord : GoodIn wsX9_firstSplitPair wsX9_findSplitWord := goodIn_r _ [6, 7, 8, 9, 10, 11, 12, 13, 14, 15, 16, 5, 17, 18, 19, 20, 21, 22, 23, 24, 25, 26, 27, 28, 29, 30, 31, 32, 33, 34, 35, 36, 37, 38, 39, 40, 41, 42, 43, 44, 45, 46, 47, 48, 49, 50, 51, 52, 53, 54, 55, 56, 57, 58, 59, 60, 61, 62, 63, 64, 65, 66, 67, 68, 69, 70, 71, 72, 73, 74, 75, 76, 77, 78, 79, 80] (by decide +kernel) (by decide +kernel)
set_option maxRecDepth 20000 in
theorem gX9_firstSplitPair_X9_findSplitWord : GoodIn wsX9_firstSplitPair (wsV RX9 88 RX9 yX9_findSplitWord wsX9_findSplitWord) := goodIn_app (goodIn_of _ (by decide +kernel)) ggX9_firstSplitPair_X9_findSplitWord
theorem dX9_firstSplitPair_0 : decode cX9_firstSplitPair 0 = .ok (.iconst 0, 1) := by decide +kernel
theorem dX9_firstSplitPair_1 : decode cX9_firstSplitPair 1 = .ok (.istore_n 1, 1) := by decide +kernel
theorem dX9_firstSplitPair_2 : decode cX9_firstSplitPair 2 = .ok (.iload_n 1, 1) := by decide +kernel
theorem dX9_firstSplitPair_3 : decode cX9_firstSplitPair 3 = .ok (.aload_n 0, 1) := by decide +kernel
theorem dX9_firstSplitPair_4 : decode cX9_firstSplitPair 4 = .ok (.getfield 42, 3) := by decide +kernel
theorem dX9_firstSplitPair_7 : decode cX9_firstSplitPair 7 = .ok (.if_icmp .ge 41, 3) := by decide +kernel
theorem dX9_firstSplitPair_10 : decode cX9_firstSplitPair 10 = .ok (.iconst 0, 1) := by decide +kernel
theorem dX9_firstSplitPair_11 : decode cX9_firstSplitPair 11 = .ok (.istore_n 2, 1) := by decide +kernel
theorem dX9_firstSplitPair_12 : decode cX9_firstSplitPair 12 = .ok (.iload_n 2, 1) := by decide +kernel
theorem dX9_firstSplitPair_13 : decode cX9_firstSplitPair 13 = .ok (.aload_n 0, 1) := by decide +kernel
theorem dX9_firstSplitPair_14 : decode cX9_firstSplitPair 14 = .ok (.getfield 42, 3) := by decide +kernel
theorem dX9_firstSplitPair_17 : decode cX9_firstSplitPair 17 = .ok (.if_icmp .ge 25, 3) := by decide +kernel
theorem dX9_firstSplitPair_20 : decode cX9_firstSplitPair 20 = .ok (.aload_n 0, 1) := by decide +kernel
theorem dX9_firstSplitPair_21 : decode cX9_firstSplitPair 21 = .ok (.iload_n 1, 1) := by decide +kernel
theorem dX9_firstSplitPair_22 : decode cX9_firstSplitPair 22 = .ok (.iload_n 2, 1) := by decide +kernel
theorem dX9_firstSplitPair_23 : decode cX9_firstSplitPair 23 = .ok (.invokevirtual 88, 3) := by decide +kernel
theorem dX9_firstSplitPair_26 : decode cX9_firstSplitPair 26 = .ok (.ifCond .eq 10, 3) := by decide +kernel
theorem dX9_firstSplitPair_29 : decode cX9_firstSplitPair 29 = .ok (.bipush 8, 2) := by decide +kernel
theorem dX9_firstSplitPair_31 : decode cX9_firstSplitPair 31 = .ok (.iload_n 1, 1) := by decide +kernel
theorem dX9_firstSplitPair_32 : decode cX9_firstSplitPair 32 = .ok (.imul, 1) := by decide +kernel
theorem dX9_firstSplitPair_33 : decode cX9_firstSplitPair 33 = .ok (.iload_n 2, 1) := by decide +kernel
theorem dX9_firstSplitPair_34 : decode cX9_firstSplitPair 34 = .ok (.iadd, 1) := by decide +kernel
theorem dX9_firstSplitPair_35 : decode cX9_firstSplitPair 35 = .ok (.ireturn, 1) := by decide +kernel
theorem dX9_firstSplitPair_36 : decode cX9_firstSplitPair 36 = .ok (.iinc 2 1, 3) := by decide +kernel
theorem dX9_firstSplitPair_39 : decode cX9_firstSplitPair 39 = .ok (.goto (-27), 3) := by decide +kernel
theorem dX9_firstSplitPair_42 : decode cX9_firstSplitPair 42 = .ok (.iinc 1 1, 3) := by decide +kernel
theorem dX9_firstSplitPair_45 : decode cX9_firstSplitPair 45 = .ok (.goto (-43), 3) := by decide +kernel
theorem dX9_firstSplitPair_48 : decode cX9_firstSplitPair 48 = .ok (.iconst (-1), 1) := by decide +kernel
theorem dX9_firstSplitPair_49 : decode cX9_firstSplitPair 49 = .ok (.ireturn, 1) := by decide +kernel
set_option maxRecDepth 20000 in
theorem ggX9_longestChain_X9_splitPairs : GoodIn wsX9_longestChain wsX9_splitPairs := goodIn_r _ [11, 2, 12, 13, 14, 10, 15, 16, 17, 18, 19, 20, 21, 22, 23, 24, 25, 26, 27, 28, 29, 30, 31, 32, 33, 34, 35, 36, 37, 38, 39, 40, 41, 42, 43, 44, 45, 46, 47, 48, 49, 50, 51, 52, 53, 54, 55, 56, 57, 58, 59, 60, 61, 62, 63, 64, 65, 66, 67, 68, 69, 70, 71, 72, 73, 74, 94, 95, 96, 97, 98, 99, 100, 101, 102, 103, 104, 105, 106, 107, 108] (by decide +kernel) (by decide +kernel)
set_option maxRecDepth 20000 in
theorem gX9_longestChain_X9_splitPairs : GoodIn wsX9_longestChain (wsV RX9 91 RX9 yX9_splitPairs wsX9_splitPairs) := goodIn_app (goodIn_of _ (by decide +kernel)) ggX9_longestChain_X9_splitPairs
set_option maxRecDepth 20000 in
theorem ggX9_longestChain_X9_prolongChains : GoodIn wsX9_longestChain wsX9_prolongChains := goodIn_r _ [78, 1, 3, 4, 5, 6, 79, 80, 81, 82, 83, 84, 20, 21, 22, 85, 86, 87, 88, 89, 90, 91, 92, 93, 94, 95, 96, 97, 98, 99, 100, 101, 102, 103, 104, 105, 106, 109, 110, 111, 112] (by decide +kernel) (by decide +kernel)
set_option maxRecDepth 20000 in
theorem gX9_longestChain_X9_prolongChains : GoodIn wsX9_longestChain (wsV RX9 95 RX9 yX9_prolongChains wsX9_prolongChains) := goodIn_app (goodIn_of _ (by decide +kernel)) ggX9_longestChain_X9_prolongChains
theorem dX9_longestChain_0 : decode cX9_longestChain 0 = .ok (.aload_n 0, 1) := by decide +kernel
theorem dX9_longestChain_1 : decode cX9_longestChain 1 = .ok (.invokevirtual 91, 3) := by decide +kernel
theorem dX9_longestChain_4 : decode cX9_longestChain 4 = .ok (.lstore_n 2, 1) := by decide +kernel
theorem dX9_longestChain_5 : decode cX9_longestChain 5 = .ok (.iconst 0, 1) := by decide +kernel
theorem dX9_longestChain_6 : decode cX9_longestChain 6 = .ok (.istore 4, 2) := by decide +kernel
theorem dX9_longestChain_8 : decode cX9_longestChain 8 = .ok (.iload 4, 2) := by decide +kernel
theorem dX9_longestChain_10 : decode cX9_longestChain 10 = .ok (.bipush 6, 2) := by decide +kernel
theorem dX9_longestChain_12 : decode cX9_longestChain 12 = .ok (.if_icmp .ge 17, 3) := by decide +kernel
theorem dX9_longestChain_15 : decode cX9_longestChain 15 = .ok (.aload_n 0, 1) := by decide +kernel
theorem dX9_longestChain_16 : decode cX9_longestChain 16 = .ok (.getfield 30, 3) := by decide +kernel
theorem dX9_longestChain_19 : decode cX9_longestChain 19 = .ok (.iload 4, 2) := by decide +kernel
theorem dX9_longestChain_21 : decode cX9_longestChain 21 = .ok (.iconst 0, 1) := by decide +kernel
theorem dX9_longestChain_22 : decode cX9_longestChain 22 = .ok (.iastore, 1) := by decide +kernel
theorem dX9_longestChain_23 : decode cX9_longestChain 23 = .ok (.iinc 4 1, 3) := by decide +kernel
theorem dX9_longestChain_26 : decode cX9_longestChain 26 = .ok (.goto (-18), 3) := by decide +kernel
theorem dX9_longestChain_29 : decode cX9_longestChain 29 = .ok (.iconst 1, 1) := by decide +kernel
theorem dX9_longestChain_30 : decode cX9_longestChain 30 = .ok (.istore 4, 2) := by decide +kernel
theorem dX9_longestChain_32 : decode cX9_longestChain 32 = .ok (.iload 4, 2) := by decide +kernel
theorem dX9_longestChain_34 : decode cX9_longestChain 34 = .ok (.aload_n 0, 1) := by decide +kernel
theorem dX9_longestChain_35 : decode cX9_longestChain 35 = .ok (.getfield 42, 3) := by decide +kernel
theorem dX9_longestChain_38 : decode cX9_longestChain 38 = .ok (.if_icmp .ge 51, 3) := by decide +kernel
theorem dX9_longestChain_41 : decode cX9_longestChain 41 = .ok (.iconst 0, 1) := by decide +kernel
theorem dX9_longestChain_42 : decode cX9_longestChain 42 = .ok (.istore 5, 2) := by decide +kernel
theorem dX9_longestChain_44 : decode cX9_longestChain 44 = .ok (.iload 5, 2) := by decide +kernel
theorem dX9_longestChain_46 : decode cX9_longestChain 46 = .ok (.bipush 36, 2) := by decide +kernel
theorem dX9_longestChain_48 : decode cX9_longestChain 48 = .ok (.if_icmp .ge 35, 3) := by decide +kernel
theorem dX9_longestChain_51 : decode cX9_longestChain 51 = .ok (.lload_n 2, 1) := by decide +kernel
theorem dX9_longestChain_52 : decode cX9_longestChain 52 = .ok (.iload 5, 2) := by decide +kernel
theorem dX9_longestChain_54 : decode cX9_longestChain 54 = .ok (.lshr, 1) := by decide +kernel
theorem dX9_longestChain_55 : decode cX9_longestChain 55 = .ok (.lconst 1, 1) := by decide +kernel
theorem dX9_longestChain_56 : decode cX9_longestChain 56 = .ok (.land, 1) := by decide +kernel
theorem dX9_longestChain_57 : decode cX9_longestChain 57 = .ok (.lconst 0, 1) := by decide +kernel
theorem dX9_longestChain_58 : decode cX9_longestChain 58 = .ok (.lcmp, 1) := by decide +kernel
theorem dX9_longestChain_59 : decode cX9_longestChain 59 = .ok (.ifCond .eq 18, 3) := by decide +kernel
theorem dX9_longestChain_62 : decode cX9_longestChain 62 = .ok (.aload_n 0, 1) := by decide +kernel
theorem dX9_longestChain_63 : decode cX9_longestChain 63 = .ok (.aload_n 1, 1) := by decide +kernel
theorem dX9_longestChain_64 : decode cX9_longestChain 64 = .ok (.iload 5, 2) := by decide +kernel
theorem dX9_longestChain_66 : decode cX9_longestChain 66 = .ok (.bipush 6, 2) := by decide +kernel
theorem dX9_longestChain_68 : decode cX9_longestChain 68 = .ok (.idiv, 1) := by decide +kernel
theorem dX9_longestChain_69 : decode cX9_longestChain 69 = .ok (.iload 5, 2) := by decide +kernel
theorem dX9_longestChain_71 : decode cX9_longestChain 71 = .ok (.bipush 6, 2) := by decide +kernel
theorem dX9_longestChain_73 : decode cX9_longestChain 73 = .ok (.irem, 1) := by decide +kernel
theorem dX9_longestChain_74 : decode cX9_longestChain 74 = .ok (.invokevirtual 95, 3) := by decide +kernel
theorem dX9_longestChain_77 : decode cX9_longestChain 77 = .ok (.iinc 5 1, 3) := by decide +kernel
theorem dX9_longestChain_80 : decode cX9_longestChain 80 = .ok (.goto (-36), 3) := by decide +kernel
theorem dX9_longestChain_83 : decode cX9_longestChain 83 = .ok (.iinc 4 1, 3) := by decide +kernel
theorem dX9_longestChain_86 : decode cX9_longestChain 86 = .ok (.goto (-54), 3) := by decide +kernel
theorem dX9_longestChain_89 : decode cX9_longestChain 89 = .ok (.iconst 0, 1) := by decide +kernel
theorem dX9_longestChain_90 : decode cX9_longestChain 90 = .ok (.istore 4, 2) := by decide +kernel
theorem dX9_longestChain_92 : decode cX9_longestChain 92 = .ok (.iconst 0, 1) := by decide +kernel
theorem dX9_longestChain_93 : decode cX9_longestChain 93 = .ok (.istore 5, 2) := by decide +kernel
theorem dX9_longestChain_95 : decode cX9_longestChain 95 = .ok (.iload 5, 2) := by decide +kernel
theorem dX9_longestChain_97 : decode cX9_longestChain 97 = .ok (.bipush 6, 2) := by decide +kernel
theorem dX9_longestChain_99 : decode cX9_longestChain 99 = .ok (.if_icmp .ge 23, 3) := by decide +kernel
theorem dX9_longestChain_102 : decode cX9_longestChain 102 = .ok (.iload 4, 2) := by decide +kernel
theorem dX9_longestChain_104 : decode cX9_longestChain 104 = .ok (.aload_n 0, 1) := by decide +kernel
theorem dX9_longestChain_105 : decode cX9_longestChain 105 = .ok (.getfield 30, 3) := by decide +kernel
theorem dX9_longestChain_108 : decode cX9_longestChain 108 = .ok (.iload 5, 2) := by decide +kernel
theorem dX9_longestChain_110 : decode cX9_longestChain 110 = .ok (.iaload, 1) := by decide +kernel
theorem dX9_longestChain_111 : decode cX9_longestChain 111 = .ok (.invokestatic 99, 3) := by decide +kernel
theorem dX9_longestChain_114 : decode cX9_longestChain 114 = .ok (.istore 4, 2) := by decide +kernel
theorem dX9_longestChain_116 : decode cX9_longestChain 116 = .ok (.iinc 5 1, 3) := by decide +kernel
theorem dX9_longestChain_119 : decode cX9_longestChain 119 = .ok (.goto (-24), 3) := by decide +kernel
theorem dX9_longestChain_122 : decode cX9_longestChain 122 = .ok (.iload 4, 2) := by decide +kernel
theorem dX9_longestChain_124 : decode cX9_longestChain 124 = .ok (.ireturn, 1) := by decide +kernel
set_option maxRecDepth 20000 in
theorem ggX9_splitPairs_X9_findSplitWord : GoodIn wsX9_splitPairs wsX9_findSplitWord := goodIn_r _ [6, 7, 8, 9, 10, 11, 12, 13, 14, 15, 16, 5, 17, 18, 19, 20, 21, 22, 23, 24, 25, 26, 27, 28, 29, 30, 31, 32, 33, 34, 35, 36, 37, 38, 39, 40, 41, 42, 43, 44, 45, 46, 47, 48, 49, 50, 51, 52, 53, 54, 55, 56, 57, 58, 59, 60, 61, 62, 63, 64, 65, 66, 67, 68, 69, 70, 71, 72, 73, 74, 75, 76, 77, 78, 79, 80] (by decide +kernel) (by decide +kernel)
set_option maxRecDepth 20000 in
theorem gX9_splitPairs_X9_findSplitWord : GoodIn wsX9_splitPairs (wsV RX9 88 RX9 yX9_findSplitWord wsX9_findSplitWord) := goodIn_app (goodIn_of _ (by decide +kernel)) ggX9_splitPairs_X9_findSplitWord
theorem dX9_splitPairs_0 : decode cX9_splitPairs 0 = .ok (.lconst 0, 1) := by decide +kernel
theorem dX9_splitPairs_1 : decode cX9_splitPairs 1 = .ok (.lstore_n 1, 1) := by decide +kernel
theorem dX9_splitPairs_2 : decode cX9_splitPairs 2 = .ok (.iconst 0, 1) := by decide +kernel
theorem dX9_splitPairs_3 : decode cX9_splitPairs 3 = .ok (.istore_n 3, 1) := by decide +kernel
theorem dX9_splitPairs_4 : decode cX9_splitPairs 4 = .ok (.iload_n 3, 1) := by decide +kernel
theorem dX9_splitPairs_5 : decode cX9_splitPairs 5 = .ok (.aload_n 0, 1) := by decide +kernel
theorem dX9_splitPairs_6 : decode cX9_splitPairs 6 = .ok (.getfield 42, 3) := by decide +kernel
theorem dX9_splitPairs_9 : decode cX9_splitPairs 9 = .ok (.if_icmp .ge 53, 3) := by decide +kernel
theorem dX9_splitPairs_12 : decode cX9_splitPairs 12 = .ok (.iconst 0, 1) := by decide +kernel
theorem dX9_splitPairs_13 : decode cX9_splitPairs 13 = .ok (.istore 4, 2) := by decide +kernel
theorem dX9_splitPairs_15 : decode cX9_splitPairs 15 = .ok (.iload 4, 2) := by decide +kernel
theorem dX9_splitPairs_17 : decode cX9_splitPairs 17 = .ok (.aload_n 0, 1) := by decide +kernel
theorem dX9_splitPairs_18 : decode cX9_splitPairs 18 = .ok (.getfield 42, 3) := by decide +kernel
theorem dX9_splitPairs_21 : decode cX9_splitPairs 21 = .ok (.if_icmp .ge 35, 3) := by decide +kernel
theorem dX9_splitPairs_24 : decode cX9_splitPairs 24 = .ok (.lload_n 1, 1) := by decide +kernel
theorem dX9_splitPairs_25 : decode cX9_splitPairs 25 = .ok (.aload_n 0, 1) := by decide +kernel
theorem dX9_splitPairs_26 : decode cX9_splitPairs 26 = .ok (.iload_n 3, 1) := by decide +kernel
theorem dX9_splitPairs_27 : decode cX9_splitPairs 27 = .ok (.iload 4, 2) := by decide +kernel
theorem dX9_splitPairs_29 : decode cX9_splitPairs 29 = .ok (.invokevirtual 88, 3) := by decide +kernel
theorem dX9_splitPairs_32 : decode cX9_splitPairs 32 = .ok (.ifCond .eq 15, 3) := by decide +kernel
theorem dX9_splitPairs_35 : decode cX9_splitPairs 35 = .ok (.lconst 1, 1) := by decide +kernel
theorem dX9_splitPairs_36 : decode cX9_splitPairs 36 = .ok (.iload_n 3, 1) := by decide +kernel
theorem dX9_splitPairs_37 : decode cX9_splitPairs 37 = .ok (.bipush 6, 2) := by decide +kernel
theorem dX9_splitPairs_39 : decode cX9_splitPairs 39 = .ok (.imul, 1) := by decide +kernel
theorem dX9_splitPairs_40 : decode cX9_splitPairs 40 = .ok (.iload 4, 2) := by decide +kernel
theorem dX9_splitPairs_42 : decode cX9_splitPairs 42 = .ok (.iadd, 1) := by decide +kernel
theorem dX9_splitPairs_43 : decode cX9_splitPairs 43 = .ok (.lshl, 1) := by decide +kernel
theorem dX9_splitPairs_44 : decode cX9_splitPairs 44 = .ok (.goto 4, 3) := by decide +kernel
theorem dX9_splitPairs_47 : decode cX9_splitPairs 47 = .ok (.lconst 0, 1) := by decide +kernel
theorem dX9_splitPairs_48 : decode cX9_splitPairs 48 = .ok (.lor, 1) := by decide +kernel
theorem dX9_splitPairs_49 : decode cX9_splitPairs 49 = .ok (.lstore_n 1, 1) := by decide +kernel
theorem dX9_splitPairs_50 : decode cX9_splitPairs 50 = .ok (.iinc 4 1, 3) := by decide +kernel
theorem dX9_splitPairs_53 : decode cX9_splitPairs 53 = .ok (.goto (-38), 3) := by decide +kernel
theorem dX9_splitPairs_56 : decode cX9_splitPairs 56 = .ok (.iinc 3 1, 3) := by decide +kernel
theorem dX9_splitPairs_59 : decode cX9_splitPairs 59 = .ok (.goto (-55), 3) := by decide +kernel
theorem dX9_splitPairs_62 : decode cX9_splitPairs 62 = .ok (.lload_n 1, 1) := by decide +kernel
theorem dX9_splitPairs_63 : decode cX9_splitPairs 63 = .ok (.lreturn, 1) := by decide +kernel
set_option maxRecDepth 20000 in
theorem ggX9_prolongChains_X0_reachedFrom : GoodIn wsX9_prolongChains wsX0_reachedFrom := goodIn_r _ [10, 11, 12, 13, 14, 15, 16, 17, 9, 18, 19, 20, 21, 22, 23, 37, 38, 39, 40] (by decide +kernel) (by decide +kernel)
set_option maxRecDepth 20000 in
theorem gX9_prolongChains_X0_reachedFrom : GoodIn wsX9_prolongChains (wsV RX9 105 RX0 yX0_reachedFrom wsX0_reachedFrom) := goodIn_app (goodIn_of _ (by decide +kernel)) ggX9_prolongChains_X0_reachedFrom
set_option maxRecDepth 20000 in
theorem ggX9_prolongChains_X10_contains : GoodIn wsX9_prolongChains wsX10_contains := goodIn_r _ [14] (by decide +kernel) (by decide +kernel)
set_option maxRecDepth 20000 in
theorem gX9_prolongChains_X10_contains_n78 : GoodIn wsX9_prolongChains (wsX10_contains) := ggX9_prolongChains_X10_contains
theorem dX9_prolongChains_0 : decode cX9_prolongChains 0 = .ok (.iload_n 2, 1) := by decide +kernel
theorem dX9_prolongChains_1 : decode cX9_prolongChains 1 = .ok (.ifCond .lt 9, 3) := by decide +kernel
theorem dX9_prolongChains_4 : decode cX9_prolongChains 4 = .ok (.iload_n 2, 1) := by decide +kernel
theorem dX9_prolongChains_5 : decode cX9_prolongChains 5 = .ok (.bipush 6, 2) := by decide +kernel
theorem dX9_prolongChains_7 : decode cX9_prolongChains 7 = .ok (.if_icmp .lt 4, 3) := by decide +kernel
theorem dX9_prolongChains_10 : decode cX9_prolongChains 10 = .ok (.return_, 1) := by decide +kernel
theorem dX9_prolongChains_11 : decode cX9_prolongChains 11 = .ok (.aload_n 0, 1) := by decide +kernel
theorem dX9_prolongChains_12 : decode cX9_prolongChains 12 = .ok (.getfield 30, 3) := by decide +kernel
theorem dX9_prolongChains_15 : decode cX9_prolongChains 15 = .ok (.iload_n 2, 1) := by decide +kernel
theorem dX9_prolongChains_16 : decode cX9_prolongChains 16 = .ok (.iaload, 1) := by decide +kernel
theorem dX9_prolongChains_17 : decode cX9_prolongChains 17 = .ok (.iconst 1, 1) := by decide +kernel
theorem dX9_prolongChains_18 : decode cX9_prolongChains 18 = .ok (.iadd, 1) := by decide +kernel
theorem dX9_prolongChains_19 : decode cX9_prolongChains 19 = .ok (.istore 4, 2) := by decide +kernel
theorem dX9_prolongChains_21 : decode cX9_prolongChains 21 = .ok (.aload_n 1, 1) := by decide +kernel
theorem dX9_prolongChains_22 : decode cX9_prolongChains 22 = .ok (.iconst 1, 1) := by decide +kernel
theorem dX9_prolongChains_23 : decode cX9_prolongChains 23 = .ok (.iload_n 3, 1) := by decide +kernel
theorem dX9_prolongChains_24 : decode cX9_prolongChains 24 = .ok (.ishl, 1) := by decide +kernel
theorem dX9_prolongChains_25 : decode cX9_prolongChains 25 = .ok (.invokevirtual 105, 3) := by decide +kernel
theorem dX9_prolongChains_28 : decode cX9_prolongChains 28 = .ok (.istore 5, 2) := by decide +kernel
theorem dX9_prolongChains_30 : decode cX9_prolongChains 30 = .ok (.iconst 0, 1) := by decide +kernel
theorem dX9_prolongChains_31 : decode cX9_prolongChains 31 = .ok (.istore 6, 2) := by decide +kernel
theorem dX9_prolongChains_33 : decode cX9_prolongChains 33 = .ok (.iload 6, 2) := by decide +kernel
theorem dX9_prolongChains_35 : decode cX9_prolongChains 35 = .ok (.bipush 6, 2) := by decide +kernel
theorem dX9_prolongChains_37 : decode cX9_prolongChains 37 = .ok (.if_icmp .ge 38, 3) := by decide +kernel
theorem dX9_prolongChains_40 : decode cX9_prolongChains 40 = .ok (.iload 5, 2) := by decide +kernel
theorem dX9_prolongChains_42 : decode cX9_prolongChains 42 = .ok (.iload 6, 2) := by decide +kernel
theorem dX9_prolongChains_44 : decode cX9_prolongChains 44 = .ok (.invokestatic 78, 3) := by decide +kernel
theorem dX9_prolongChains_47 : decode cX9_prolongChains 47 = .ok (.ifCond .eq 22, 3) := by decide +kernel
theorem dX9_prolongChains_50 : decode cX9_prolongChains 50 = .ok (.aload_n 0, 1) := by decide +kernel
theorem dX9_prolongChains_51 : decode cX9_prolongChains 51 = .ok (.getfield 30, 3) := by decide +kernel
theorem dX9_prolongChains_54 : decode cX9_prolongChains 54 = .ok (.iload 6, 2) := by decide +kernel
theorem dX9_prolongChains_56 : decode cX9_prolongChains 56 = .ok (.aload_n 0, 1) := by decide +kernel
theorem dX9_prolongChains_57 : decode cX9_prolongChains 57 = .ok (.getfield 30, 3) := by decide +kernel
theorem dX9_prolongChains_60 : decode cX9_prolongChains 60 = .ok (.iload 6, 2) := by decide +kernel
theorem dX9_prolongChains_62 : decode cX9_prolongChains 62 = .ok (.iaload, 1) := by decide +kernel
theorem dX9_prolongChains_63 : decode cX9_prolongChains 63 = .ok (.iload 4, 2) := by decide +kernel
theorem dX9_prolongChains_65 : decode cX9_prolongChains 65 = .ok (.invokestatic 99, 3) := by decide +kernel
theorem dX9_prolongChains_68 : decode cX9_prolongChains 68 = .ok (.iastore, 1) := by decide +kernel
theorem dX9_prolongChains_69 : decode cX9_prolongChains 69 = .ok (.iinc 6 1, 3) := by decide +kernel
theorem dX9_prolongChains_72 : decode cX9_prolongChains 72 = .ok (.goto (-39), 3) := by decide +kernel
theorem dX9_prolongChains_75 : decode cX9_prolongChains 75 = .ok (.return_, 1) := by decide +kernel
set_option maxRecDepth 20000 in
theorem ggX9_run_X9_meet : GoodIn wsX9_run wsX9_meet := goodIn_r _ [9, 2, 4, 1, 53, 54, 55, 56, 57, 58, 59, 60, 61, 62, 63, 64, 65] (by decide +kernel) (by decide +kernel)
set_option maxRecDepth 20000 in
theorem gX9_run_X9_meet : GoodIn wsX9_run (wsV RX9 112 RX9 yX9_meet wsX9_meet) := goodIn_app (goodIn_of _ (by decide +kernel)) ggX9_run_X9_meet
set_option maxRecDepth 20000 in
theorem ggX9_run_X9_firstSet : GoodIn wsX9_run wsX9_firstSet := goodIn_r _ [13, 14, 15, 16, 8, 17, 4, 53, 54, 55, 56, 57, 58, 59, 60, 61, 62, 63, 64, 65] (by decide +kernel) (by decide +kernel)
set_option maxRecDepth 20000 in
theorem gX9_run_X9_firstSet : GoodIn wsX9_run (wsV RX9 116 RX9 yX9_firstSet wsX9_firstSet) := goodIn_app (goodIn_of _ (by decide +kernel)) ggX9_run_X9_firstSet
set_option maxRecDepth 20000 in
theorem ggX9_run_X9_secondSet : GoodIn wsX9_run wsX9_secondSet := goodIn_r _ [21, 14, 15, 16, 8, 17, 4, 53, 54, 55, 56, 57, 58, 59, 60, 61, 62, 63, 64, 65] (by decide +kernel) (by decide +kernel)
set_option maxRecDepth 20000 in
theorem gX9_run_X9_secondSet : GoodIn wsX9_run (wsV RX9 119 RX9 yX9_secondSet wsX9_secondSet) := goodIn_app (goodIn_of _ (by decide +kernel)) ggX9_run_X9_secondSet
set_option maxRecDepth 20000 in
theorem ggX9_run_X9_isGoal : GoodIn wsX9_run wsX9_isGoal := goodIn_r _ [25, 26, 27, 28, 29, 30, 31, 32, 33, 34, 35, 36, 53, 54, 55, 56, 57, 58, 59, 60, 61, 62, 63, 64, 65] (by decide +kernel) (by decide +kernel)
set_option maxRecDepth 20000 in
theorem gX9_run_X9_isGoal : GoodIn wsX9_run (wsV RX9 122 RX9 yX9_isGoal wsX9_isGoal) := goodIn_app (goodIn_of _ (by decide +kernel)) ggX9_run_X9_isGoal
set_option maxRecDepth 20000 in
theorem ggX9_run_X9_goOn : GoodIn wsX9_run wsX9_goOn := goodIn_r _ [40, 41, 26, 10, 11, 12, 8, 13, 14, 15, 16, 17, 4, 18, 19, 20, 21, 42, 43, 44, 45, 46, 47, 48, 49, 50, 51, 52, 5, 6, 7, 9, 2, 1, 53, 54, 55, 56, 57, 58, 59, 60, 61, 62, 63, 64, 65, 66, 67] (by decide +kernel) (by decide +kernel)
set_option maxRecDepth 20000 in
theorem gX9_run_X9_goOn : GoodIn wsX9_run (wsV RX9 125 RX9 yX9_goOn wsX9_goOn) := goodIn_app (goodIn_of _ (by decide +kernel)) ggX9_run_X9_goOn
theorem dX9_run_0 : decode cX9_run 0 = .ok (.iconst 0, 1) := by decide +kernel
theorem dX9_run_1 : decode cX9_run 1 = .ok (.istore_n 3, 1) := by decide +kernel
theorem dX9_run_2 : decode cX9_run 2 = .ok (.iload_n 3, 1) := by decide +kernel
theorem dX9_run_3 : decode cX9_run 3 = .ok (.bipush 64, 2) := by decide +kernel
theorem dX9_run_5 : decode cX9_run 5 = .ok (.if_icmp .ge 16, 3) := by decide +kernel
theorem dX9_run_8 : decode cX9_run 8 = .ok (.aload_n 0, 1) := by decide +kernel
theorem dX9_run_9 : decode cX9_run 9 = .ok (.getfield 26, 3) := by decide +kernel
theorem dX9_run_12 : decode cX9_run 12 = .ok (.iload_n 3, 1) := by decide +kernel
theorem dX9_run_13 : decode cX9_run 13 = .ok (.lconst 0, 1) := by decide +kernel
theorem dX9_run_14 : decode cX9_run 14 = .ok (.lastore, 1) := by decide +kernel
theorem dX9_run_15 : decode cX9_run 15 = .ok (.iinc 3 1, 3) := by decide +kernel
theorem dX9_run_18 : decode cX9_run 18 = .ok (.goto (-16), 3) := by decide +kernel
theorem dX9_run_21 : decode cX9_run 21 = .ok (.aload_n 0, 1) := by decide +kernel
theorem dX9_run_22 : decode cX9_run 22 = .ok (.iconst 0, 1) := by decide +kernel
theorem dX9_run_23 : decode cX9_run 23 = .ok (.putfield 109, 3) := by decide +kernel
theorem dX9_run_26 : decode cX9_run 26 = .ok (.aload_n 0, 1) := by decide +kernel
theorem dX9_run_27 : decode cX9_run 27 = .ok (.iconst (-1), 1) := by decide +kernel
theorem dX9_run_28 : decode cX9_run 28 = .ok (.putfield 22, 3) := by decide +kernel
theorem dX9_run_31 : decode cX9_run 31 = .ok (.aload_n 0, 1) := by decide +kernel
theorem dX9_run_32 : decode cX9_run 32 = .ok (.iload_n 1, 1) := by decide +kernel
theorem dX9_run_33 : decode cX9_run 33 = .ok (.iload_n 2, 1) := by decide +kernel
theorem dX9_run_34 : decode cX9_run 34 = .ok (.iconst 0, 1) := by decide +kernel
theorem dX9_run_35 : decode cX9_run 35 = .ok (.invokevirtual 112, 3) := by decide +kernel
theorem dX9_run_38 : decode cX9_run 38 = .ok (.iconst 0, 1) := by decide +kernel
theorem dX9_run_39 : decode cX9_run 39 = .ok (.istore_n 3, 1) := by decide +kernel
theorem dX9_run_40 : decode cX9_run 40 = .ok (.iload_n 3, 1) := by decide +kernel
theorem dX9_run_41 : decode cX9_run 41 = .ok (.aload_n 0, 1) := by decide +kernel
theorem dX9_run_42 : decode cX9_run 42 = .ok (.getfield 109, 3) := by decide +kernel
theorem dX9_run_45 : decode cX9_run 45 = .ok (.if_icmp .ge 64, 3) := by decide +kernel
theorem dX9_run_48 : decode cX9_run 48 = .ok (.iload_n 3, 1) := by decide +kernel
theorem dX9_run_49 : decode cX9_run 49 = .ok (.aload_n 0, 1) := by decide +kernel
theorem dX9_run_50 : decode cX9_run 50 = .ok (.getfield 18, 3) := by decide +kernel
theorem dX9_run_53 : decode cX9_run 53 = .ok (.arraylength, 1) := by decide +kernel
theorem dX9_run_54 : decode cX9_run 54 = .ok (.if_icmp .ge 55, 3) := by decide +kernel
theorem dX9_run_57 : decode cX9_run 57 = .ok (.aload_n 0, 1) := by decide +kernel
theorem dX9_run_58 : decode cX9_run 58 = .ok (.aload_n 0, 1) := by decide +kernel
theorem dX9_run_59 : decode cX9_run 59 = .ok (.iload_n 3, 1) := by decide +kernel
theorem dX9_run_60 : decode cX9_run 60 = .ok (.invokevirtual 116, 3) := by decide +kernel
theorem dX9_run_63 : decode cX9_run 63 = .ok (.aload_n 0, 1) := by decide +kernel
theorem dX9_run_64 : decode cX9_run 64 = .ok (.iload_n 3, 1) := by decide +kernel
theorem dX9_run_65 : decode cX9_run 65 = .ok (.invokevirtual 119, 3) := by decide +kernel
theorem dX9_run_68 : decode cX9_run 68 = .ok (.invokevirtual 122, 3) := by decide +kernel
theorem dX9_run_71 : decode cX9_run 71 = .ok (.ifCond .eq 10, 3) := by decide +kernel
theorem dX9_run_74 : decode cX9_run 74 = .ok (.aload_n 0, 1) := by decide +kernel
theorem dX9_run_75 : decode cX9_run 75 = .ok (.iload_n 3, 1) := by decide +kernel
theorem dX9_run_76 : decode cX9_run 76 = .ok (.putfield 22, 3) := by decide +kernel
theorem dX9_run_79 : decode cX9_run 79 = .ok (.iconst 1, 1) := by decide +kernel
theorem dX9_run_80 : decode cX9_run 80 = .ok (.ireturn, 1) := by decide +kernel
theorem dX9_run_81 : decode cX9_run 81 = .ok (.iconst 0, 1) := by decide +kernel
theorem dX9_run_82 : decode cX9_run 82 = .ok (.istore 4, 2) := by decide +kernel
theorem dX9_run_84 : decode cX9_run 84 = .ok (.iload 4, 2) := by decide +kernel
theorem dX9_run_86 : decode cX9_run 86 = .ok (.iconst 3, 1) := by decide +kernel
theorem dX9_run_87 : decode cX9_run 87 = .ok (.if_icmp .ge 16, 3) := by decide +kernel
theorem dX9_run_90 : decode cX9_run 90 = .ok (.aload_n 0, 1) := by decide +kernel
theorem dX9_run_91 : decode cX9_run 91 = .ok (.iload_n 3, 1) := by decide +kernel
theorem dX9_run_92 : decode cX9_run 92 = .ok (.iload 4, 2) := by decide +kernel
theorem dX9_run_94 : decode cX9_run 94 = .ok (.invokevirtual 125, 3) := by decide +kernel
theorem dX9_run_97 : decode cX9_run 97 = .ok (.iinc 4 1, 3) := by decide +kernel
theorem dX9_run_100 : decode cX9_run 100 = .ok (.goto (-16), 3) := by decide +kernel
theorem dX9_run_103 : decode cX9_run 103 = .ok (.iinc 3 1, 3) := by decide +kernel
theorem dX9_run_106 : decode cX9_run 106 = .ok (.goto (-66), 3) := by decide +kernel
theorem dX9_run_109 : decode cX9_run 109 = .ok (.iconst 0, 1) := by decide +kernel
theorem dX9_run_110 : decode cX9_run 110 = .ok (.ireturn, 1) := by decide +kernel
set_option maxRecDepth 20000 in
theorem ggX9_goOn_X9_firstSet : GoodIn wsX9_goOn wsX9_firstSet := goodIn_r _ [7, 8, 9, 10, 6, 11, 12, 34, 35, 36, 37, 38, 39, 40, 41, 42, 43, 44, 45, 46] (by decide +kernel) (by decide +kernel)
set_option maxRecDepth 20000 in
theorem gX9_goOn_X9_firstSet : GoodIn wsX9_goOn (wsV RX9 116 RX9 yX9_firstSet wsX9_firstSet) := goodIn_app (goodIn_of _ (by decide +kernel)) ggX9_goOn_X9_firstSet
set_option maxRecDepth 20000 in
theorem ggX9_goOn_X9_secondSet : GoodIn wsX9_goOn wsX9_secondSet := goodIn_r _ [16, 8, 9, 10, 6, 11, 12, 34, 35, 36, 37, 38, 39, 40, 41, 42, 43, 44, 45, 46] (by decide +kernel) (by decide +kernel)
set_option maxRecDepth 20000 in
theorem gX9_goOn_X9_secondSet : GoodIn wsX9_goOn (wsV RX9 119 RX9 yX9_secondSet wsX9_secondSet) := goodIn_app (goodIn_of _ (by decide +kernel)) ggX9_goOn_X9_secondSet
set_option maxRecDepth 20000 in
theorem ggX9_goOn_X6_reachedOnce : GoodIn wsX9_goOn wsX6_reachedOnce := goodIn_r _ [21, 22, 47, 48] (by decide +kernel) (by decide +kernel)
set_option maxRecDepth 20000 in
theorem gX9_goOn_X6_reachedOnce : GoodIn wsX9_goOn (wsV RX9 129 RX6 yX6_reachedOnce wsX6_reachedOnce) := goodIn_app (goodIn_of _ (by decide +kernel)) ggX9_goOn_X6_reachedOnce
set_option maxRecDepth 20000 in
theorem ggX9_goOn_X6_reachedTwice : GoodIn wsX9_goOn wsX6_reachedTwice := goodIn_r _ [26, 27, 47, 48] (by decide +kernel) (by decide +kernel)
set_option maxRecDepth 20000 in
theorem gX9_goOn_X6_reachedTwice : GoodIn wsX9_goOn (wsV RX9 132 RX6 yX6_reachedTwice wsX6_reachedTwice) := goodIn_app (goodIn_of _ (by decide +kernel)) ggX9_goOn_X6_reachedTwice
set_option maxRecDepth 20000 in
theorem ggX9_goOn_X9_meet : GoodIn wsX9_goOn wsX9_meet := goodIn_r _ [31, 32, 12, 33, 34, 35, 36, 37, 38, 39, 40, 41, 42, 43, 44, 45, 46] (by decide +kernel) (by decide +kernel)
set_option maxRecDepth 20000 in
theorem gX9_goOn_X9_meet : GoodIn wsX9_goOn (wsV RX9 112 RX9 yX9_meet wsX9_meet) := goodIn_app (goodIn_of _ (by decide +kernel)) ggX9_goOn_X9_meet
theorem dX9_goOn_0 : decode cX9_goOn 0 = .ok (.aload_n 0, 1) := by decide +kernel
theorem dX9_goOn_1 : decode cX9_goOn 1 = .ok (.iload_n 1, 1) := by decide +kernel
theorem dX9_goOn_2 : decode cX9_goOn 2 = .ok (.invokevirtual 116, 3) := by decide +kernel
theorem dX9_goOn_5 : decode cX9_goOn 5 = .ok (.istore_n 3, 1) := by decide +kernel
theorem dX9_goOn_6 : decode cX9_goOn 6 = .ok (.aload_n 0, 1) := by decide +kernel
theorem dX9_goOn_7 : decode cX9_goOn 7 = .ok (.iload_n 1, 1) := by decide +kernel
theorem dX9_goOn_8 : decode cX9_goOn 8 = .ok (.invokevirtual 119, 3) := by decide +kernel
theorem dX9_goOn_11 : decode cX9_goOn 11 = .ok (.istore 4, 2) := by decide +kernel
theorem dX9_goOn_13 : decode cX9_goOn 13 = .ok (.aload_n 0, 1) := by decide +kernel
theorem dX9_goOn_14 : decode cX9_goOn 14 = .ok (.getfield 14, 3) := by decide +kernel
theorem dX9_goOn_17 : decode cX9_goOn 17 = .ok (.iload_n 3, 1) := by decide +kernel
theorem dX9_goOn_18 : decode cX9_goOn 18 = .ok (.iload_n 2, 1) := by decide +kernel
theorem dX9_goOn_19 : decode cX9_goOn 19 = .ok (.invokevirtual 129, 3) := by decide +kernel
theorem dX9_goOn_22 : decode cX9_goOn 22 = .ok (.istore 5, 2) := by decide +kernel
theorem dX9_goOn_24 : decode cX9_goOn 24 = .ok (.aload_n 0, 1) := by decide +kernel
theorem dX9_goOn_25 : decode cX9_goOn 25 = .ok (.getfield 14, 3) := by decide +kernel
theorem dX9_goOn_28 : decode cX9_goOn 28 = .ok (.iload 4, 2) := by decide +kernel
theorem dX9_goOn_30 : decode cX9_goOn 30 = .ok (.iload_n 2, 1) := by decide +kernel
theorem dX9_goOn_31 : decode cX9_goOn 31 = .ok (.invokevirtual 129, 3) := by decide +kernel
theorem dX9_goOn_34 : decode cX9_goOn 34 = .ok (.istore 6, 2) := by decide +kernel
theorem dX9_goOn_36 : decode cX9_goOn 36 = .ok (.aload_n 0, 1) := by decide +kernel
theorem dX9_goOn_37 : decode cX9_goOn 37 = .ok (.getfield 68, 3) := by decide +kernel
theorem dX9_goOn_40 : decode cX9_goOn 40 = .ok (.iconst 2, 1) := by decide +kernel
theorem dX9_goOn_41 : decode cX9_goOn 41 = .ok (.if_icmp .eq 22, 3) := by decide +kernel
theorem dX9_goOn_44 : decode cX9_goOn 44 = .ok (.iload 6, 2) := by decide +kernel
theorem dX9_goOn_46 : decode cX9_goOn 46 = .ok (.aload_n 0, 1) := by decide +kernel
theorem dX9_goOn_47 : decode cX9_goOn 47 = .ok (.getfield 14, 3) := by decide +kernel
theorem dX9_goOn_50 : decode cX9_goOn 50 = .ok (.iload_n 3, 1) := by decide +kernel
theorem dX9_goOn_51 : decode cX9_goOn 51 = .ok (.iload 4, 2) := by decide +kernel
theorem dX9_goOn_53 : decode cX9_goOn 53 = .ok (.iconst (-1), 1) := by decide +kernel
theorem dX9_goOn_54 : decode cX9_goOn 54 = .ok (.ixor, 1) := by decide +kernel
theorem dX9_goOn_55 : decode cX9_goOn 55 = .ok (.iand, 1) := by decide +kernel
theorem dX9_goOn_56 : decode cX9_goOn 56 = .ok (.iload_n 2, 1) := by decide +kernel
theorem dX9_goOn_57 : decode cX9_goOn 57 = .ok (.invokevirtual 132, 3) := by decide +kernel
theorem dX9_goOn_60 : decode cX9_goOn 60 = .ok (.ior, 1) := by decide +kernel
theorem dX9_goOn_61 : decode cX9_goOn 61 = .ok (.istore 6, 2) := by decide +kernel
theorem dX9_goOn_63 : decode cX9_goOn 63 = .ok (.aload_n 0, 1) := by decide +kernel
theorem dX9_goOn_64 : decode cX9_goOn 64 = .ok (.iload 5, 2) := by decide +kernel
theorem dX9_goOn_66 : decode cX9_goOn 66 = .ok (.iload 6, 2) := by decide +kernel
theorem dX9_goOn_68 : decode cX9_goOn 68 = .ok (.iload_n 1, 1) := by decide +kernel
theorem dX9_goOn_69 : decode cX9_goOn 69 = .ok (.bipush 14, 2) := by decide +kernel
theorem dX9_goOn_71 : decode cX9_goOn 71 = .ok (.ishl, 1) := by decide +kernel
theorem dX9_goOn_72 : decode cX9_goOn 72 = .ok (.iload_n 2, 1) := by decide +kernel
theorem dX9_goOn_73 : decode cX9_goOn 73 = .ok (.bipush 12, 2) := by decide +kernel
theorem dX9_goOn_75 : decode cX9_goOn 75 = .ok (.ishl, 1) := by decide +kernel
theorem dX9_goOn_76 : decode cX9_goOn 76 = .ok (.ior, 1) := by decide +kernel
theorem dX9_goOn_77 : decode cX9_goOn 77 = .ok (.invokevirtual 112, 3) := by decide +kernel
theorem dX9_goOn_80 : decode cX9_goOn 80 = .ok (.return_, 1) := by decide +kernel
theorem dX9_meet_0 : decode cX9_meet 0 = .ok (.iload_n 1, 1) := by decide +kernel
theorem dX9_meet_1 : decode cX9_meet 1 = .ok (.ifCond .lt 21, 3) := by decide +kernel
theorem dX9_meet_4 : decode cX9_meet 4 = .ok (.iload_n 1, 1) := by decide +kernel
theorem dX9_meet_5 : decode cX9_meet 5 = .ok (.bipush 64, 2) := by decide +kernel
theorem dX9_meet_7 : decode cX9_meet 7 = .ok (.if_icmp .ge 15, 3) := by decide +kernel
theorem dX9_meet_10 : decode cX9_meet 10 = .ok (.aload_n 0, 1) := by decide +kernel
theorem dX9_meet_11 : decode cX9_meet 11 = .ok (.getfield 109, 3) := by decide +kernel
theorem dX9_meet_14 : decode cX9_meet 14 = .ok (.aload_n 0, 1) := by decide +kernel
theorem dX9_meet_15 : decode cX9_meet 15 = .ok (.getfield 18, 3) := by decide +kernel
theorem dX9_meet_18 : decode cX9_meet 18 = .ok (.arraylength, 1) := by decide +kernel
theorem dX9_meet_19 : decode cX9_meet 19 = .ok (.if_icmp .lt 4, 3) := by decide +kernel
theorem dX9_meet_22 : decode cX9_meet 22 = .ok (.return_, 1) := by decide +kernel
theorem dX9_meet_23 : decode cX9_meet 23 = .ok (.aload_n 0, 1) := by decide +kernel
theorem dX9_meet_24 : decode cX9_meet 24 = .ok (.getfield 26, 3) := by decide +kernel
theorem dX9_meet_27 : decode cX9_meet 27 = .ok (.iload_n 1, 1) := by decide +kernel
theorem dX9_meet_28 : decode cX9_meet 28 = .ok (.laload, 1) := by decide +kernel
theorem dX9_meet_29 : decode cX9_meet 29 = .ok (.iload_n 2, 1) := by decide +kernel
theorem dX9_meet_30 : decode cX9_meet 30 = .ok (.lshr, 1) := by decide +kernel
theorem dX9_meet_31 : decode cX9_meet 31 = .ok (.lconst 1, 1) := by decide +kernel
theorem dX9_meet_32 : decode cX9_meet 32 = .ok (.land, 1) := by decide +kernel
theorem dX9_meet_33 : decode cX9_meet 33 = .ok (.lconst 0, 1) := by decide +kernel
theorem dX9_meet_34 : decode cX9_meet 34 = .ok (.lcmp, 1) := by decide +kernel
theorem dX9_meet_35 : decode cX9_meet 35 = .ok (.ifCond .eq 4, 3) := by decide +kernel
theorem dX9_meet_38 : decode cX9_meet 38 = .ok (.return_, 1) := by decide +kernel
theorem dX9_meet_39 : decode cX9_meet 39 = .ok (.aload_n 0, 1) := by decide +kernel
theorem dX9_meet_40 : decode cX9_meet 40 = .ok (.getfield 26, 3) := by decide +kernel
theorem dX9_meet_43 : decode cX9_meet 43 = .ok (.iload_n 1, 1) := by decide +kernel
theorem dX9_meet_44 : decode cX9_meet 44 = .ok (.dup2, 1) := by decide +kernel
theorem dX9_meet_45 : decode cX9_meet 45 = .ok (.laload, 1) := by decide +kernel
theorem dX9_meet_46 : decode cX9_meet 46 = .ok (.lconst 1, 1) := by decide +kernel
theorem dX9_meet_47 : decode cX9_meet 47 = .ok (.iload_n 2, 1) := by decide +kernel
theorem dX9_meet_48 : decode cX9_meet 48 = .ok (.lshl, 1) := by decide +kernel
theorem dX9_meet_49 : decode cX9_meet 49 = .ok (.lor, 1) := by decide +kernel
theorem dX9_meet_50 : decode cX9_meet 50 = .ok (.lastore, 1) := by decide +kernel
theorem dX9_meet_51 : decode cX9_meet 51 = .ok (.aload_n 0, 1) := by decide +kernel
theorem dX9_meet_52 : decode cX9_meet 52 = .ok (.getfield 18, 3) := by decide +kernel
theorem dX9_meet_55 : decode cX9_meet 55 = .ok (.aload_n 0, 1) := by decide +kernel
theorem dX9_meet_56 : decode cX9_meet 56 = .ok (.getfield 109, 3) := by decide +kernel
theorem dX9_meet_59 : decode cX9_meet 59 = .ok (.iload_n 3, 1) := by decide +kernel
theorem dX9_meet_60 : decode cX9_meet 60 = .ok (.iload_n 1, 1) := by decide +kernel
theorem dX9_meet_61 : decode cX9_meet 61 = .ok (.bipush 6, 2) := by decide +kernel
theorem dX9_meet_63 : decode cX9_meet 63 = .ok (.ishl, 1) := by decide +kernel
theorem dX9_meet_64 : decode cX9_meet 64 = .ok (.ior, 1) := by decide +kernel
theorem dX9_meet_65 : decode cX9_meet 65 = .ok (.iload_n 2, 1) := by decide +kernel
theorem dX9_meet_66 : decode cX9_meet 66 = .ok (.ior, 1) := by decide +kernel
theorem dX9_meet_67 : decode cX9_meet 67 = .ok (.iastore, 1) := by decide +kernel
theorem dX9_meet_68 : decode cX9_meet 68 = .ok (.aload_n 0, 1) := by decide +kernel
theorem dX9_meet_69 : decode cX9_meet 69 = .ok (.dup, 1) := by decide +kernel
theorem dX9_meet_70 : decode cX9_meet 70 = .ok (.getfield 109, 3) := by decide +kernel
theorem dX9_meet_73 : decode cX9_meet 73 = .ok (.iconst 1, 1) := by decide +kernel
theorem dX9_meet_74 : decode cX9_meet 74 = .ok (.iadd, 1) := by decide +kernel
theorem dX9_meet_75 : decode cX9_meet 75 = .ok (.putfield 109, 3) := by decide +kernel
theorem dX9_meet_78 : decode cX9_meet 78 = .ok (.return_, 1) := by decide +kernel
set_option maxRecDepth 20000 in
theorem ggX9_isGoal_J6_bitCount_0f7a4 : GoodIn wsX9_isGoal wsJ6_bitCount_0f7a4 := goodIn_r _ [8, 9, 10, 11] (by decide +kernel) (by decide +kernel)
set_option maxRecDepth 20000 in
theorem gX9_isGoal_J6_bitCount_0f7a4 : GoodIn wsX9_isGoal (va_wsS RX9 135 yJ6_bitCount_0f7a4 wsJ6_bitCount_0f7a4) := goodIn_app (goodIn_of _ (by decide +kernel)) ggX9_isGoal_J6_bitCount_0f7a4
theorem dX9_isGoal_0 : decode cX9_isGoal 0 = .ok (.aload_n 0, 1) := by decide +kernel
theorem dX9_isGoal_1 : decode cX9_isGoal 1 = .ok (.getfield 68, 3) := by decide +kernel
theorem dX9_isGoal_4 : decode cX9_isGoal 4 = .ok (.iconst 2, 1) := by decide +kernel
theorem dX9_isGoal_5 : decode cX9_isGoal 5 = .ok (.if_icmp .ne 35, 3) := by decide +kernel
theorem dX9_isGoal_8 : decode cX9_isGoal 8 = .ok (.aload_n 0, 1) := by decide +kernel
theorem dX9_isGoal_9 : decode cX9_isGoal 9 = .ok (.getfield 75, 3) := by decide +kernel
theorem dX9_isGoal_12 : decode cX9_isGoal 12 = .ok (.aload_n 0, 1) := by decide +kernel
theorem dX9_isGoal_13 : decode cX9_isGoal 13 = .ok (.getfield 81, 3) := by decide +kernel
theorem dX9_isGoal_16 : decode cX9_isGoal 16 = .ok (.ior, 1) := by decide +kernel
theorem dX9_isGoal_17 : decode cX9_isGoal 17 = .ok (.istore_n 3, 1) := by decide +kernel
theorem dX9_isGoal_18 : decode cX9_isGoal 18 = .ok (.iload_n 1, 1) := by decide +kernel
theorem dX9_isGoal_19 : decode cX9_isGoal 19 = .ok (.iload_n 3, 1) := by decide +kernel
theorem dX9_isGoal_20 : decode cX9_isGoal 20 = .ok (.iand, 1) := by decide +kernel
theorem dX9_isGoal_21 : decode cX9_isGoal 21 = .ok (.iload_n 3, 1) := by decide +kernel
theorem dX9_isGoal_22 : decode cX9_isGoal 22 = .ok (.if_icmp .ne 16, 3) := by decide +kernel
theorem dX9_isGoal_25 : decode cX9_isGoal 25 = .ok (.iload_n 2, 1) := by decide +kernel
theorem dX9_isGoal_26 : decode cX9_isGoal 26 = .ok (.aload_n 0, 1) := by decide +kernel
theorem dX9_isGoal_27 : decode cX9_isGoal 27 = .ok (.getfield 81, 3) := by decide +kernel
theorem dX9_isGoal_30 : decode cX9_isGoal 30 = .ok (.iand, 1) := by decide +kernel
theorem dX9_isGoal_31 : decode cX9_isGoal 31 = .ok (.ifCond .eq 7, 3) := by decide +kernel
theorem dX9_isGoal_34 : decode cX9_isGoal 34 = .ok (.iconst 1, 1) := by decide +kernel
theorem dX9_isGoal_35 : decode cX9_isGoal 35 = .ok (.goto 4, 3) := by decide +kernel
theorem dX9_isGoal_38 : decode cX9_isGoal 38 = .ok (.iconst 0, 1) := by decide +kernel
theorem dX9_isGoal_39 : decode cX9_isGoal 39 = .ok (.ireturn, 1) := by decide +kernel
theorem dX9_isGoal_40 : decode cX9_isGoal 40 = .ok (.aload_n 0, 1) := by decide +kernel
theorem dX9_isGoal_41 : decode cX9_isGoal 41 = .ok (.getfield 68, 3) := by decide +kernel
theorem dX9_isGoal_44 : decode cX9_isGoal 44 = .ok (.iconst 1, 1) := by decide +kernel
theorem dX9_isGoal_45 : decode cX9_isGoal 45 = .ok (.if_icmp .ne 18, 3) := by decide +kernel
theorem dX9_isGoal_48 : decode cX9_isGoal 48 = .ok (.iload_n 2, 1) := by decide +kernel
theorem dX9_isGoal_49 : decode cX9_isGoal 49 = .ok (.aload_n 0, 1) := by decide +kernel
theorem dX9_isGoal_50 : decode cX9_isGoal 50 = .ok (.getfield 75, 3) := by decide +kernel
theorem dX9_isGoal_53 : decode cX9_isGoal 53 = .ok (.iand, 1) := by decide +kernel
theorem dX9_isGoal_54 : decode cX9_isGoal 54 = .ok (.ifCond .eq 7, 3) := by decide +kernel
theorem dX9_isGoal_57 : decode cX9_isGoal 57 = .ok (.iconst 1, 1) := by decide +kernel
theorem dX9_isGoal_58 : decode cX9_isGoal 58 = .ok (.goto 4, 3) := by decide +kernel
theorem dX9_isGoal_61 : decode cX9_isGoal 61 = .ok (.iconst 0, 1) := by decide +kernel
theorem dX9_isGoal_62 : decode cX9_isGoal 62 = .ok (.ireturn, 1) := by decide +kernel
theorem dX9_isGoal_63 : decode cX9_isGoal 63 = .ok (.iload_n 2, 1) := by decide +kernel
theorem dX9_isGoal_64 : decode cX9_isGoal 64 = .ok (.aload_n 0, 1) := by decide +kernel
theorem dX9_isGoal_65 : decode cX9_isGoal 65 = .ok (.getfield 50, 3) := by decide +kernel
theorem dX9_isGoal_68 : decode cX9_isGoal 68 = .ok (.iand, 1) := by decide +kernel
theorem dX9_isGoal_69 : decode cX9_isGoal 69 = .ok (.ifCond .ne 16, 3) := by decide +kernel
theorem dX9_isGoal_72 : decode cX9_isGoal 72 = .ok (.iload_n 1, 1) := by decide +kernel
theorem dX9_isGoal_73 : decode cX9_isGoal 73 = .ok (.aload_n 0, 1) := by decide +kernel
theorem dX9_isGoal_74 : decode cX9_isGoal 74 = .ok (.getfield 50, 3) := by decide +kernel
theorem dX9_isGoal_77 : decode cX9_isGoal 77 = .ok (.iand, 1) := by decide +kernel
theorem dX9_isGoal_78 : decode cX9_isGoal 78 = .ok (.invokestatic 135, 3) := by decide +kernel
theorem dX9_isGoal_81 : decode cX9_isGoal 81 = .ok (.iconst 1, 1) := by decide +kernel
theorem dX9_isGoal_82 : decode cX9_isGoal 82 = .ok (.if_icmp .le 7, 3) := by decide +kernel
theorem dX9_isGoal_85 : decode cX9_isGoal 85 = .ok (.iconst 1, 1) := by decide +kernel
theorem dX9_isGoal_86 : decode cX9_isGoal 86 = .ok (.goto 4, 3) := by decide +kernel
theorem dX9_isGoal_89 : decode cX9_isGoal 89 = .ok (.iconst 0, 1) := by decide +kernel
theorem dX9_isGoal_90 : decode cX9_isGoal 90 = .ok (.ireturn, 1) := by decide +kernel
theorem dX9_nodeAt_0 : decode cX9_nodeAt 0 = .ok (.iload_n 1, 1) := by decide +kernel
theorem dX9_nodeAt_1 : decode cX9_nodeAt 1 = .ok (.ifCond .lt 21, 3) := by decide +kernel
theorem dX9_nodeAt_4 : decode cX9_nodeAt 4 = .ok (.iload_n 1, 1) := by decide +kernel
theorem dX9_nodeAt_5 : decode cX9_nodeAt 5 = .ok (.aload_n 0, 1) := by decide +kernel
theorem dX9_nodeAt_6 : decode cX9_nodeAt 6 = .ok (.getfield 18, 3) := by decide +kernel
theorem dX9_nodeAt_9 : decode cX9_nodeAt 9 = .ok (.arraylength, 1) := by decide +kernel
theorem dX9_nodeAt_10 : decode cX9_nodeAt 10 = .ok (.if_icmp .ge 12, 3) := by decide +kernel
theorem dX9_nodeAt_13 : decode cX9_nodeAt 13 = .ok (.aload_n 0, 1) := by decide +kernel
theorem dX9_nodeAt_14 : decode cX9_nodeAt 14 = .ok (.getfield 18, 3) := by decide +kernel
theorem dX9_nodeAt_17 : decode cX9_nodeAt 17 = .ok (.iload_n 1, 1) := by decide +kernel
theorem dX9_nodeAt_18 : decode cX9_nodeAt 18 = .ok (.iaload, 1) := by decide +kernel
theorem dX9_nodeAt_19 : decode cX9_nodeAt 19 = .ok (.goto 4, 3) := by decide +kernel
theorem dX9_nodeAt_22 : decode cX9_nodeAt 22 = .ok (.iconst 0, 1) := by decide +kernel
theorem dX9_nodeAt_23 : decode cX9_nodeAt 23 = .ok (.ireturn, 1) := by decide +kernel
set_option maxRecDepth 20000 in
theorem ggX9_firstSet_X9_nodeAt : GoodIn wsX9_firstSet wsX9_nodeAt := goodIn_r _ [5, 6, 7, 8, 9, 10, 11, 12, 13, 14, 15, 16, 17, 18, 19] (by decide +kernel) (by decide +kernel)
set_option maxRecDepth 20000 in
theorem gX9_firstSet_X9_nodeAt : GoodIn wsX9_firstSet (wsV RX9 140 RX9 yX9_nodeAt wsX9_nodeAt) := goodIn_app (goodIn_of _ (by decide +kernel)) ggX9_firstSet_X9_nodeAt
theorem dX9_firstSet_0 : decode cX9_firstSet 0 = .ok (.aload_n 0, 1) := by decide +kernel
theorem dX9_firstSet_1 : decode cX9_firstSet 1 = .ok (.iload_n 1, 1) := by decide +kernel
theorem dX9_firstSet_2 : decode cX9_firstSet 2 = .ok (.invokevirtual 140, 3) := by decide +kernel
theorem dX9_firstSet_5 : decode cX9_firstSet 5 = .ok (.bipush 6, 2) := by decide +kernel
theorem dX9_firstSet_7 : decode cX9_firstSet 7 = .ok (.ishr, 1) := by decide +kernel
theorem dX9_firstSet_8 : decode cX9_firstSet 8 = .ok (.bipush 63, 2) := by decide +kernel
theorem dX9_firstSet_10 : decode cX9_firstSet 10 = .ok (.iand, 1) := by decide +kernel
theorem dX9_firstSet_11 : decode cX9_firstSet 11 = .ok (.ireturn, 1) := by decide +kernel
set_option maxRecDepth 20000 in
theorem ggX9_secondSet_X9_nodeAt : GoodIn wsX9_secondSet wsX9_nodeAt := goodIn_r _ [5, 6, 7, 8, 9, 10, 11, 12, 13, 14, 15, 16, 17, 18, 19] (by decide +kernel) (by decide +kernel)
set_option maxRecDepth 20000 in
theorem gX9_secondSet_X9_nodeAt : GoodIn wsX9_secondSet (wsV RX9 140 RX9 yX9_nodeAt wsX9_nodeAt) := goodIn_app (goodIn_of _ (by decide +kernel)) ggX9_secondSet_X9_nodeAt
theorem dX9_secondSet_0 : decode cX9_secondSet 0 = .ok (.aload_n 0, 1) := by decide +kernel
theorem dX9_secondSet_1 : decode cX9_secondSet 1 = .ok (.iload_n 1, 1) := by decide +kernel
theorem dX9_secondSet_2 : decode cX9_secondSet 2 = .ok (.invokevirtual 140, 3) := by decide +kernel
theorem dX9_secondSet_5 : decode cX9_secondSet 5 = .ok (.bipush 63, 2) := by decide +kernel
theorem dX9_secondSet_7 : decode cX9_secondSet 7 = .ok (.iand, 1) := by decide +kernel
theorem dX9_secondSet_8 : decode cX9_secondSet 8 = .ok (.ireturn, 1) := by decide +kernel
set_option maxRecDepth 20000 in
theorem ggX9_copyFoundWordTo_X9_nodeAt : GoodIn wsX9_copyFoundWordTo wsX9_nodeAt := goodIn_r _ [7, 8, 20, 21, 22, 23, 24, 25, 26, 27, 28, 29, 30, 31, 32] (by decide +kernel) (by decide +kernel)
set_option maxRecDepth 20000 in
theorem gX9_copyFoundWordTo_X9_nodeAt : GoodIn wsX9_copyFoundWordTo (wsV RX9 140 RX9 yX9_nodeAt wsX9_nodeAt) := goodIn_app (goodIn_of _ (by decide +kernel)) ggX9_copyFoundWordTo_X9_nodeAt
set_option maxRecDepth 20000 in
theorem ggX9_copyFoundWordTo_X8_setLetter : GoodIn wsX9_copyFoundWordTo wsX8_setLetter := goodIn_r _ [13, 14, 15, 16, 17, 12, 18, 19, 33, 34] (by decide +kernel) (by decide +kernel)
set_option maxRecDepth 20000 in
theorem gX9_copyFoundWordTo_X8_setLetter : GoodIn wsX9_copyFoundWordTo (wsV RX9 148 RX8 yX8_setLetter wsX8_setLetter) := goodIn_app (goodIn_of _ (by decide +kernel)) ggX9_copyFoundWordTo_X8_setLetter
theorem dX9_copyFoundWordTo_0 : decode cX9_copyFoundWordTo 0 = .ok (.iconst 0, 1) := by decide +kernel
theorem dX9_copyFoundWordTo_1 : decode cX9_copyFoundWordTo 1 = .ok (.istore_n 2, 1) := by decide +kernel
theorem dX9_copyFoundWordTo_2 : decode cX9_copyFoundWordTo 2 = .ok (.aload_n 0, 1) := by decide +kernel
theorem dX9_copyFoundWordTo_3 : decode cX9_copyFoundWordTo 3 = .ok (.getfield 22, 3) := by decide +kernel
theorem dX9_copyFoundWordTo_6 : decode cX9_copyFoundWordTo 6 = .ok (.istore_n 3, 1) := by decide +kernel
theorem dX9_copyFoundWordTo_7 : decode cX9_copyFoundWordTo 7 = .ok (.iload_n 3, 1) := by decide +kernel
theorem dX9_copyFoundWordTo_8 : decode cX9_copyFoundWordTo 8 = .ok (.ifCond .le 25, 3) := by decide +kernel
theorem dX9_copyFoundWordTo_11 : decode cX9_copyFoundWordTo 11 = .ok (.iload_n 2, 1) := by decide +kernel
theorem dX9_copyFoundWordTo_12 : decode cX9_copyFoundWordTo 12 = .ok (.sipush 216, 3) := by decide +kernel
theorem dX9_copyFoundWordTo_15 : decode cX9_copyFoundWordTo 15 = .ok (.if_icmp .ge 18, 3) := by decide +kernel
theorem dX9_copyFoundWordTo_18 : decode cX9_copyFoundWordTo 18 = .ok (.aload_n 0, 1) := by decide +kernel
theorem dX9_copyFoundWordTo_19 : decode cX9_copyFoundWordTo 19 = .ok (.iload_n 3, 1) := by decide +kernel
theorem dX9_copyFoundWordTo_20 : decode cX9_copyFoundWordTo 20 = .ok (.invokevirtual 140, 3) := by decide +kernel
theorem dX9_copyFoundWordTo_23 : decode cX9_copyFoundWordTo 23 = .ok (.bipush 14, 2) := by decide +kernel
theorem dX9_copyFoundWordTo_25 : decode cX9_copyFoundWordTo 25 = .ok (.ishr, 1) := by decide +kernel
theorem dX9_copyFoundWordTo_26 : decode cX9_copyFoundWordTo 26 = .ok (.istore_n 3, 1) := by decide +kernel
theorem dX9_copyFoundWordTo_27 : decode cX9_copyFoundWordTo 27 = .ok (.iinc 2 1, 3) := by decide +kernel
theorem dX9_copyFoundWordTo_30 : decode cX9_copyFoundWordTo 30 = .ok (.goto (-23), 3) := by decide +kernel
theorem dX9_copyFoundWordTo_33 : decode cX9_copyFoundWordTo 33 = .ok (.aload_n 1, 1) := by decide +kernel
theorem dX9_copyFoundWordTo_34 : decode cX9_copyFoundWordTo 34 = .ok (.iload_n 2, 1) := by decide +kernel
theorem dX9_copyFoundWordTo_35 : decode cX9_copyFoundWordTo 35 = .ok (.putfield 143, 3) := by decide +kernel
theorem dX9_copyFoundWordTo_38 : decode cX9_copyFoundWordTo 38 = .ok (.aload_n 0, 1) := by decide +kernel
theorem dX9_copyFoundWordTo_39 : decode cX9_copyFoundWordTo 39 = .ok (.getfield 22, 3) := by decide +kernel
theorem dX9_copyFoundWordTo_42 : decode cX9_copyFoundWordTo 42 = .ok (.istore_n 3, 1) := by decide +kernel
theorem dX9_copyFoundWordTo_43 : decode cX9_copyFoundWordTo 43 = .ok (.iload_n 2, 1) := by decide +kernel
theorem dX9_copyFoundWordTo_44 : decode cX9_copyFoundWordTo 44 = .ok (.iconst 1, 1) := by decide +kernel
theorem dX9_copyFoundWordTo_45 : decode cX9_copyFoundWordTo 45 = .ok (.isub, 1) := by decide +kernel
theorem dX9_copyFoundWordTo_46 : decode cX9_copyFoundWordTo 46 = .ok (.istore 4, 2) := by decide +kernel
theorem dX9_copyFoundWordTo_48 : decode cX9_copyFoundWordTo 48 = .ok (.iload 4, 2) := by decide +kernel
theorem dX9_copyFoundWordTo_50 : decode cX9_copyFoundWordTo 50 = .ok (.ifCond .lt 34, 3) := by decide +kernel
theorem dX9_copyFoundWordTo_53 : decode cX9_copyFoundWordTo 53 = .ok (.aload_n 1, 1) := by decide +kernel
theorem dX9_copyFoundWordTo_54 : decode cX9_copyFoundWordTo 54 = .ok (.iload 4, 2) := by decide +kernel
theorem dX9_copyFoundWordTo_56 : decode cX9_copyFoundWordTo 56 = .ok (.aload_n 0, 1) := by decide +kernel
theorem dX9_copyFoundWordTo_57 : decode cX9_copyFoundWordTo 57 = .ok (.iload_n 3, 1) := by decide +kernel
theorem dX9_copyFoundWordTo_58 : decode cX9_copyFoundWordTo 58 = .ok (.invokevirtual 140, 3) := by decide +kernel
theorem dX9_copyFoundWordTo_61 : decode cX9_copyFoundWordTo 61 = .ok (.bipush 12, 2) := by decide +kernel
theorem dX9_copyFoundWordTo_63 : decode cX9_copyFoundWordTo 63 = .ok (.ishr, 1) := by decide +kernel
theorem dX9_copyFoundWordTo_64 : decode cX9_copyFoundWordTo 64 = .ok (.iconst 3, 1) := by decide +kernel
theorem dX9_copyFoundWordTo_65 : decode cX9_copyFoundWordTo 65 = .ok (.iand, 1) := by decide +kernel
theorem dX9_copyFoundWordTo_66 : decode cX9_copyFoundWordTo 66 = .ok (.invokevirtual 148, 3) := by decide +kernel
theorem dX9_copyFoundWordTo_69 : decode cX9_copyFoundWordTo 69 = .ok (.aload_n 0, 1) := by decide +kernel
theorem dX9_copyFoundWordTo_70 : decode cX9_copyFoundWordTo 70 = .ok (.iload_n 3, 1) := by decide +kernel
theorem dX9_copyFoundWordTo_71 : decode cX9_copyFoundWordTo 71 = .ok (.invokevirtual 140, 3) := by decide +kernel
theorem dX9_copyFoundWordTo_74 : decode cX9_copyFoundWordTo 74 = .ok (.bipush 14, 2) := by decide +kernel
theorem dX9_copyFoundWordTo_76 : decode cX9_copyFoundWordTo 76 = .ok (.ishr, 1) := by decide +kernel
theorem dX9_copyFoundWordTo_77 : decode cX9_copyFoundWordTo 77 = .ok (.istore_n 3, 1) := by decide +kernel
theorem dX9_copyFoundWordTo_78 : decode cX9_copyFoundWordTo 78 = .ok (.iinc 4 (-1), 3) := by decide +kernel
theorem dX9_copyFoundWordTo_81 : decode cX9_copyFoundWordTo 81 = .ok (.goto (-33), 3) := by decide +kernel
theorem dX9_copyFoundWordTo_84 : decode cX9_copyFoundWordTo 84 = .ok (.return_, 1) := by decide +kernel
set_option maxRecDepth 20000 in
theorem ggX10_init_X0_init : GoodIn wsX10_init wsX0_init := goodIn_r _ [49, 50, 2, 3, 51, 9, 52, 97, 98, 99, 100] (by decide +kernel) (by decide +kernel)
set_option maxRecDepth 20000 in
theorem gX10_init_X0_init_n11 : GoodIn wsX10_init (wsX0_init) := ggX10_init_X0_init
set_option maxRecDepth 20000 in
theorem ggX10_init_X7_init : GoodIn wsX10_init wsX7_init := goodIn_r _ [54, 55, 2, 3, 9, 56, 119, 120] (by decide +kernel) (by decide +kernel)
set_option maxRecDepth 20000 in
theorem gX10_init_X7_init_n28 : GoodIn wsX10_init (wsX7_init) := ggX10_init_X7_init
set_option maxRecDepth 20000 in
theorem ggX10_init_X8_init : GoodIn wsX10_init wsX8_init := goodIn_r _ [58, 59, 2, 3, 9, 60, 121, 122] (by decide +kernel) (by decide +kernel)
set_option maxRecDepth 20000 in
theorem gX10_init_X8_init_n35 : GoodIn wsX10_init (wsX8_init) := ggX10_init_X8_init
set_option maxRecDepth 20000 in
theorem ggX10_init_X6_init : GoodIn wsX10_init wsX6_init := goodIn_r _ [62, 63, 2, 3, 9, 64, 65, 123, 124] (by decide +kernel) (by decide +kernel)
set_option maxRecDepth 20000 in
theorem gX10_init_X6_init_n55 : GoodIn wsX10_init (wsX6_init) := ggX10_init_X6_init
set_option maxRecDepth 20000 in
theorem ggX10_init_X1_init : GoodIn wsX10_init wsX1_init := goodIn_r _ [67, 68, 2, 3, 23, 69, 70, 71, 72, 125, 126, 127, 128] (by decide +kernel) (by decide +kernel)
set_option maxRecDepth 20000 in
theorem gX10_init_X1_init_n62 : GoodIn wsX10_init (wsX1_init) := ggX10_init_X1_init
set_option maxRecDepth 20000 in
theorem ggX10_init_X9_init : GoodIn wsX10_init wsX9_init := goodIn_r _ [74, 75, 2, 3, 76, 26, 27, 77, 9, 78, 79, 23, 80, 81, 61, 62, 63, 64, 65, 123, 124, 129, 130, 131, 132, 133, 134, 135, 136, 137, 138, 139, 140, 141] (by decide +kernel) (by decide +kernel)
set_option maxRecDepth 20000 in
theorem gX10_init_X9_init_n69 : GoodIn wsX10_init (wsX9_init) := ggX10_init_X9_init
set_option maxRecDepth 20000 in
theorem ggX10_init_X2_init : GoodIn wsX10_init wsX2_init := goodIn_r _ [83, 84, 2, 3, 9, 85, 142] (by decide +kernel) (by decide +kernel)
set_option maxRecDepth 20000 in
theorem gX10_init_X2_init_n76 : GoodIn wsX10_init (wsX2_init) := ggX10_init_X2_init
set_option maxRecDepth 20000 in
theorem ggX10_init_X3_init : GoodIn wsX10_init wsX3_init := goodIn_r _ [87, 88, 2, 3, 23, 89, 9, 90, 91, 143, 144, 145, 146, 147, 148] (by decide +kernel) (by decide +kernel)
set_option maxRecDepth 20000 in
theorem gX10_init_X3_init_n83 : GoodIn wsX10_init (wsX3_init) := ggX10_init_X3_init
set_option maxRecDepth 20000 in
theorem ggX10_init_X5_init : GoodIn wsX10_init wsX5_init := goodIn_r _ [93, 94, 2, 3, 95, 23, 96, 149, 150, 151] (by decide +kernel) (by decide +kernel)
set_option maxRecDepth 20000 in
theorem gX10_init_X5_init_n91 : GoodIn wsX10_init (wsX5_init) := ggX10_init_X5_init
theorem dX10_init_0 : decode cX10_init 0 = .ok (.aload_n 0, 1) := by decide +kernel
theorem dX10_init_1 : decode cX10_init 1 = .ok (.invokespecial 3, 3) := by decide +kernel
theorem dX10_init_4 : decode cX10_init 4 = .ok (.aload_n 0, 1) := by decide +kernel
theorem dX10_init_5 : decode cX10_init 5 = .ok (.new 9, 3) := by decide +kernel
theorem dX10_init_8 : decode cX10_init 8 = .ok (.dup, 1) := by decide +kernel
theorem dX10_init_9 : decode cX10_init 9 = .ok (.invokespecial 11, 3) := by decide +kernel
theorem dX10_init_12 : decode cX10_init 12 = .ok (.putfield 12, 3) := by decide +kernel
theorem dX10_init_15 : decode cX10_init 15 = .ok (.aload_n 0, 1) := by decide +kernel
theorem dX10_init_16 : decode cX10_init 16 = .ok (.new 9, 3) := by decide +kernel
theorem dX10_init_19 : decode cX10_init 19 = .ok (.dup, 1) := by decide +kernel
theorem dX10_init_20 : decode cX10_init 20 = .ok (.invokespecial 11, 3) := by decide +kernel
theorem dX10_init_23 : decode cX10_init 23 = .ok (.putfield 16, 3) := by decide +kernel
theorem dX10_init_26 : decode cX10_init 26 = .ok (.aload_n 0, 1) := by decide +kernel
theorem dX10_init_27 : decode cX10_init 27 = .ok (.iconst 3, 1) := by decide +kernel
theorem dX10_init_28 : decode cX10_init 28 = .ok (.newarray .int, 2) := by decide +kernel
theorem dX10_init_30 : decode cX10_init 30 = .ok (.putfield 19, 3) := by decide +kernel
theorem dX10_init_33 : decode cX10_init 33 = .ok (.aload_n 0, 1) := by decide +kernel
theorem dX10_init_34 : decode cX10_init 34 = .ok (.iconst 3, 1) := by decide +kernel
theorem dX10_init_35 : decode cX10_init 35 = .ok (.newarray .int, 2) := by decide +kernel
theorem dX10_init_37 : decode cX10_init 37 = .ok (.putfield 23, 3) := by decide +kernel
theorem dX10_init_40 : decode cX10_init 40 = .ok (.aload_n 0, 1) := by decide +kernel
theorem dX10_init_41 : decode cX10_init 41 = .ok (.new 26, 3) := by decide +kernel
theorem dX10_init_44 : decode cX10_init 44 = .ok (.dup, 1) := by decide +kernel
theorem dX10_init_45 : decode cX10_init 45 = .ok (.invokespecial 28, 3) := by decide +kernel
theorem dX10_init_48 : decode cX10_init 48 = .ok (.putfield 29, 3) := by decide +kernel
theorem dX10_init_51 : decode cX10_init 51 = .ok (.aload_n 0, 1) := by decide +kernel
theorem dX10_init_52 : decode cX10_init 52 = .ok (.new 33, 3) := by decide +kernel
theorem dX10_init_55 : decode cX10_init 55 = .ok (.dup, 1) := by decide +kernel
theorem dX10_init_56 : decode cX10_init 56 = .ok (.invokespecial 35, 3) := by decide +kernel
theorem dX10_init_59 : decode cX10_init 59 = .ok (.putfield 36, 3) := by decide +kernel
theorem dX10_init_62 : decode cX10_init 62 = .ok (.aload_n 0, 1) := by decide +kernel
theorem dX10_init_63 : decode cX10_init 63 = .ok (.new 33, 3) := by decide +kernel
theorem dX10_init_66 : decode cX10_init 66 = .ok (.dup, 1) := by decide +kernel
theorem dX10_init_67 : decode cX10_init 67 = .ok (.invokespecial 35, 3) := by decide +kernel
theorem dX10_init_70 : decode cX10_init 70 = .ok (.putfield 40, 3) := by decide +kernel
theorem dX10_init_73 : decode cX10_init 73 = .ok (.aload_n 0, 1) := by decide +kernel
theorem dX10_init_74 : decode cX10_init 74 = .ok (.iconst 4, 1) := by decide +kernel
theorem dX10_init_75 : decode cX10_init 75 = .ok (.anewarray 43, 3) := by decide +kernel
theorem dX10_init_78 : decode cX10_init 78 = .ok (.putfield 45, 3) := by decide +kernel
theorem dX10_init_81 : decode cX10_init 81 = .ok (.aload_n 0, 1) := by decide +kernel
theorem dX10_init_82 : decode cX10_init 82 = .ok (.bipush 31, 2) := by decide +kernel
theorem dX10_init_84 : decode cX10_init 84 = .ok (.newarray .long, 2) := by decide +kernel
theorem dX10_init_86 : decode cX10_init 86 = .ok (.putfield 49, 3) := by decide +kernel
theorem dX10_init_89 : decode cX10_init 89 = .ok (.aload_n 0, 1) := by decide +kernel
theorem dX10_init_90 : decode cX10_init 90 = .ok (.new 53, 3) := by decide +kernel
theorem dX10_init_93 : decode cX10_init 93 = .ok (.dup, 1) := by decide +kernel
theorem dX10_init_94 : decode cX10_init 94 = .ok (.invokespecial 55, 3) := by decide +kernel
theorem dX10_init_97 : decode cX10_init 97 = .ok (.putfield 56, 3) := by decide +kernel
theorem dX10_init_100 : decode cX10_init 100 = .ok (.aload_n 0, 1) := by decide +kernel
theorem dX10_init_101 : decode cX10_init 101 = .ok (.new 60, 3) := by decide +kernel
theorem dX10_init_104 : decode cX10_init 104 = .ok (.dup, 1) := by decide +kernel
theorem dX10_init_105 : decode cX10_init 105 = .ok (.invokespecial 62, 3) := by decide +kernel
theorem dX10_init_108 : decode cX10_init 108 = .ok (.putfield 63, 3) := by decide +kernel
theorem dX10_init_111 : decode cX10_init 111 = .ok (.aload_n 0, 1) := by decide +kernel
theorem dX10_init_112 : decode cX10_init 112 = .ok (.new 67, 3) := by decide +kernel
theorem dX10_init_115 : decode cX10_init 115 = .ok (.dup, 1) := by decide +kernel
theorem dX10_init_116 : decode cX10_init 116 = .ok (.invokespecial 69, 3) := by decide +kernel
theorem dX10_init_119 : decode cX10_init 119 = .ok (.putfield 70, 3) := by decide +kernel
theorem dX10_init_122 : decode cX10_init 122 = .ok (.aload_n 0, 1) := by decide +kernel
theorem dX10_init_123 : decode cX10_init 123 = .ok (.new 74, 3) := by decide +kernel
theorem dX10_init_126 : decode cX10_init 126 = .ok (.dup, 1) := by decide +kernel
theorem dX10_init_127 : decode cX10_init 127 = .ok (.invokespecial 76, 3) := by decide +kernel
theorem dX10_init_130 : decode cX10_init 130 = .ok (.putfield 77, 3) := by decide +kernel
theorem dX10_init_133 : decode cX10_init 133 = .ok (.aload_n 0, 1) := by decide +kernel
theorem dX10_init_134 : decode cX10_init 134 = .ok (.new 81, 3) := by decide +kernel
theorem dX10_init_137 : decode cX10_init 137 = .ok (.dup, 1) := by decide +kernel
theorem dX10_init_138 : decode cX10_init 138 = .ok (.invokespecial 83, 3) := by decide +kernel
theorem dX10_init_141 : decode cX10_init 141 = .ok (.putfield 84, 3) := by decide +kernel
theorem dX10_init_144 : decode cX10_init 144 = .ok (.aload_n 0, 1) := by decide +kernel
theorem dX10_init_145 : decode cX10_init 145 = .ok (.new 81, 3) := by decide +kernel
theorem dX10_init_148 : decode cX10_init 148 = .ok (.dup, 1) := by decide +kernel
theorem dX10_init_149 : decode cX10_init 149 = .ok (.invokespecial 83, 3) := by decide +kernel
theorem dX10_init_152 : decode cX10_init 152 = .ok (.putfield 88, 3) := by decide +kernel
theorem dX10_init_155 : decode cX10_init 155 = .ok (.iconst 0, 1) := by decide +kernel
theorem dX10_init_156 : decode cX10_init 156 = .ok (.istore_n 1, 1) := by decide +kernel
theorem dX10_init_157 : decode cX10_init 157 = .ok (.iload_n 1, 1) := by decide +kernel
theorem dX10_init_158 : decode cX10_init 158 = .ok (.iconst 3, 1) := by decide +kernel
theorem dX10_init_159 : decode cX10_init 159 = .ok (.if_icmp .ge 16, 3) := by decide +kernel
theorem dX10_init_162 : decode cX10_init 162 = .ok (.aload_n 0, 1) := by decide +kernel
theorem dX10_init_163 : decode cX10_init 163 = .ok (.getfield 19, 3) := by decide +kernel
theorem dX10_init_166 : decode cX10_init 166 = .ok (.iload_n 1, 1) := by decide +kernel
theorem dX10_init_167 : decode cX10_init 167 = .ok (.iconst 1, 1) := by decide +kernel
theorem dX10_init_168 : decode cX10_init 168 = .ok (.iastore, 1) := by decide +kernel
theorem dX10_init_169 : decode cX10_init 169 = .ok (.iinc 1 1, 3) := by decide +kernel
theorem dX10_init_172 : decode cX10_init 172 = .ok (.goto (-15), 3) := by decide +kernel
theorem dX10_init_175 : decode cX10_init 175 = .ok (.iconst 0, 1) := by decide +kernel
theorem dX10_init_176 : decode cX10_init 176 = .ok (.istore_n 1, 1) := by decide +kernel
theorem dX10_init_177 : decode cX10_init 177 = .ok (.iload_n 1, 1) := by decide +kernel
theorem dX10_init_178 : decode cX10_init 178 = .ok (.iconst 4, 1) := by decide +kernel
theorem dX10_init_179 : decode cX10_init 179 = .ok (.if_icmp .ge 22, 3) := by decide +kernel
theorem dX10_init_182 : decode cX10_init 182 = .ok (.aload_n 0, 1) := by decide +kernel
theorem dX10_init_183 : decode cX10_init 183 = .ok (.getfield 45, 3) := by decide +kernel
theorem dX10_init_186 : decode cX10_init 186 = .ok (.iload_n 1, 1) := by decide +kernel
theorem dX10_init_187 : decode cX10_init 187 = .ok (.new 43, 3) := by decide +kernel
theorem dX10_init_190 : decode cX10_init 190 = .ok (.dup, 1) := by decide +kernel
theorem dX10_init_191 : decode cX10_init 191 = .ok (.invokespecial 91, 3) := by decide +kernel
theorem dX10_init_194 : decode cX10_init 194 = .ok (.aastore, 1) := by decide +kernel
theorem dX10_init_195 : decode cX10_init 195 = .ok (.iinc 1 1, 3) := by decide +kernel
theorem dX10_init_198 : decode cX10_init 198 = .ok (.goto (-21), 3) := by decide +kernel
theorem dX10_init_201 : decode cX10_init 201 = .ok (.return_, 1) := by decide +kernel
set_option maxRecDepth 20000 in
theorem ggX10_reset_X0_clear : GoodIn wsX10_reset wsX0_clear := goodIn_r _ [7, 8, 9, 10, 11, 30, 31, 32, 33] (by decide +kernel) (by decide +kernel)
set_option maxRecDepth 20000 in
theorem gX10_reset_X0_clear : GoodIn wsX10_reset (wsV RX10 96 RX0 yX0_clear wsX0_clear) := goodIn_app (goodIn_of _ (by decide +kernel)) ggX10_reset_X0_clear
theorem dX10_reset_0 : decode cX10_reset 0 = .ok (.iload_n 1, 1) := by decide +kernel
theorem dX10_reset_1 : decode cX10_reset 1 = .ok (.iconst 1, 1) := by decide +kernel
theorem dX10_reset_2 : decode cX10_reset 2 = .ok (.if_icmp .lt 9, 3) := by decide +kernel
theorem dX10_reset_5 : decode cX10_reset 5 = .ok (.iload_n 1, 1) := by decide +kernel
theorem dX10_reset_6 : decode cX10_reset 6 = .ok (.bipush 6, 2) := by decide +kernel
theorem dX10_reset_8 : decode cX10_reset 8 = .ok (.if_icmp .le 6, 3) := by decide +kernel
theorem dX10_reset_11 : decode cX10_reset 11 = .ok (.bipush (-2), 2) := by decide +kernel
theorem dX10_reset_13 : decode cX10_reset 13 = .ok (.ireturn, 1) := by decide +kernel
theorem dX10_reset_14 : decode cX10_reset 14 = .ok (.aload_n 0, 1) := by decide +kernel
theorem dX10_reset_15 : decode cX10_reset 15 = .ok (.getfield 12, 3) := by decide +kernel
theorem dX10_reset_18 : decode cX10_reset 18 = .ok (.getfield 92, 3) := by decide +kernel
theorem dX10_reset_21 : decode cX10_reset 21 = .ok (.istore_n 2, 1) := by decide +kernel
theorem dX10_reset_22 : decode cX10_reset 22 = .ok (.aload_n 0, 1) := by decide +kernel
theorem dX10_reset_23 : decode cX10_reset 23 = .ok (.getfield 12, 3) := by decide +kernel
theorem dX10_reset_26 : decode cX10_reset 26 = .ok (.iload_n 1, 1) := by decide +kernel
theorem dX10_reset_27 : decode cX10_reset 27 = .ok (.invokevirtual 96, 3) := by decide +kernel
theorem dX10_reset_30 : decode cX10_reset 30 = .ok (.iload_n 2, 1) := by decide +kernel
theorem dX10_reset_31 : decode cX10_reset 31 = .ok (.ireturn, 1) := by decide +kernel
theorem dX10_stateCount_0 : decode cX10_stateCount 0 = .ok (.aload_n 0, 1) := by decide +kernel
theorem dX10_stateCount_1 : decode cX10_stateCount 1 = .ok (.getfield 12, 3) := by decide +kernel
theorem dX10_stateCount_4 : decode cX10_stateCount 4 = .ok (.getfield 92, 3) := by decide +kernel
theorem dX10_stateCount_7 : decode cX10_stateCount 7 = .ok (.ireturn, 1) := by decide +kernel
set_option maxRecDepth 20000 in
theorem ggX10_addTransition_X0_couldHave : GoodIn wsX10_addTransition wsX0_couldHave := goodIn_r _ [6, 7, 8, 9, 5, 10, 11, 12, 13, 14, 45, 46, 47, 48] (by decide +kernel) (by decide +kernel)
set_option maxRecDepth 20000 in
theorem gX10_addTransition_X0_couldHave : GoodIn wsX10_addTransition (wsV RX10 100 RX0 yX0_couldHave wsX0_couldHave) := goodIn_app (goodIn_of _ (by decide +kernel)) ggX10_addTransition_X0_couldHave
set_option maxRecDepth 20000 in
theorem ggX10_addTransition_X0_add : GoodIn wsX10_addTransition wsX0_add := goodIn_r _ [18, 19, 20, 3, 4, 5, 6, 7, 8, 9, 10, 11, 12, 13, 14, 21, 22, 23, 24, 25, 26, 45, 46, 47, 48] (by decide +kernel) (by decide +kernel)
set_option maxRecDepth 20000 in
theorem gX10_addTransition_X0_add : GoodIn wsX10_addTransition (wsV RX10 104 RX0 yX0_add wsX0_add) := goodIn_app (goodIn_of _ (by decide +kernel)) ggX10_addTransition_X0_add
theorem dX10_addTransition_0 : decode cX10_addTransition 0 = .ok (.aload_n 0, 1) := by decide +kernel
theorem dX10_addTransition_1 : decode cX10_addTransition 1 = .ok (.getfield 12, 3) := by decide +kernel
theorem dX10_addTransition_4 : decode cX10_addTransition 4 = .ok (.iload_n 1, 1) := by decide +kernel
theorem dX10_addTransition_5 : decode cX10_addTransition 5 = .ok (.iload_n 2, 1) := by decide +kernel
theorem dX10_addTransition_6 : decode cX10_addTransition 6 = .ok (.iload_n 3, 1) := by decide +kernel
theorem dX10_addTransition_7 : decode cX10_addTransition 7 = .ok (.invokevirtual 100, 3) := by decide +kernel
theorem dX10_addTransition_10 : decode cX10_addTransition 10 = .ok (.ifCond .ne 5, 3) := by decide +kernel
theorem dX10_addTransition_13 : decode cX10_addTransition 13 = .ok (.iconst (-1), 1) := by decide +kernel
theorem dX10_addTransition_14 : decode cX10_addTransition 14 = .ok (.ireturn, 1) := by decide +kernel
theorem dX10_addTransition_15 : decode cX10_addTransition 15 = .ok (.aload_n 0, 1) := by decide +kernel
theorem dX10_addTransition_16 : decode cX10_addTransition 16 = .ok (.getfield 12, 3) := by decide +kernel
theorem dX10_addTransition_19 : decode cX10_addTransition 19 = .ok (.iload_n 1, 1) := by decide +kernel
theorem dX10_addTransition_20 : decode cX10_addTransition 20 = .ok (.iload_n 2, 1) := by decide +kernel
theorem dX10_addTransition_21 : decode cX10_addTransition 21 = .ok (.iload_n 3, 1) := by decide +kernel
theorem dX10_addTransition_22 : decode cX10_addTransition 22 = .ok (.invokevirtual 104, 3) := by decide +kernel
theorem dX10_addTransition_25 : decode cX10_addTransition 25 = .ok (.ifCond .eq 7, 3) := by decide +kernel
theorem dX10_addTransition_28 : decode cX10_addTransition 28 = .ok (.iconst 1, 1) := by decide +kernel
theorem dX10_addTransition_29 : decode cX10_addTransition 29 = .ok (.goto 4, 3) := by decide +kernel
theorem dX10_addTransition_32 : decode cX10_addTransition 32 = .ok (.iconst 0, 1) := by decide +kernel
theorem dX10_addTransition_33 : decode cX10_addTransition 33 = .ok (.ireturn, 1) := by decide +kernel
set_option maxRecDepth 20000 in
theorem ggX10_removeTransition_X0_couldHave : GoodIn wsX10_removeTransition wsX0_couldHave := goodIn_r _ [6, 7, 8, 9, 5, 10, 11, 12, 13, 14, 45, 46, 47, 48] (by decide +kernel) (by decide +kernel)
set_option maxRecDepth 20000 in
theorem gX10_removeTransition_X0_couldHave : GoodIn wsX10_removeTransition (wsV RX10 100 RX0 yX0_couldHave wsX0_couldHave) := goodIn_app (goodIn_of _ (by decide +kernel)) ggX10_removeTransition_X0_couldHave
set_option maxRecDepth 20000 in
theorem ggX10_removeTransition_X0_remove : GoodIn wsX10_removeTransition wsX0_remove := goodIn_r _ [18, 19, 20, 3, 4, 5, 6, 7, 8, 9, 10, 11, 12, 13, 14, 21, 22, 23, 24, 25, 26, 45, 46, 47, 48] (by decide +kernel) (by decide +kernel)
set_option maxRecDepth 20000 in
theorem gX10_removeTransition_X0_remove : GoodIn wsX10_removeTransition (wsV RX10 107 RX0 yX0_remove wsX0_remove) := goodIn_app (goodIn_of _ (by decide +kernel)) ggX10_removeTransition_X0_remove
theorem dX10_removeTransition_0 : decode cX10_removeTransition 0 = .ok (.aload_n 0, 1) := by decide +kernel
theorem dX10_removeTransition_1 : decode cX10_removeTransition 1 = .ok (.getfield 12, 3) := by decide +kernel
theorem dX10_removeTransition_4 : decode cX10_removeTransition 4 = .ok (.iload_n 1, 1) := by decide +kernel
theorem dX10_removeTransition_5 : decode cX10_removeTransition 5 = .ok (.iload_n 2, 1) := by decide +kernel
theorem dX10_removeTransition_6 : decode cX10_removeTransition 6 = .ok (.iload_n 3, 1) := by decide +kernel
theorem dX10_removeTransition_7 : decode cX10_removeTransition 7 = .ok (.invokevirtual 100, 3) := by decide +kernel
theorem dX10_removeTransition_10 : decode cX10_removeTransition 10 = .ok (.ifCond .ne 5, 3) := by decide +kernel
theorem dX10_removeTransition_13 : decode cX10_removeTransition 13 = .ok (.iconst (-1), 1) := by decide +kernel
theorem dX10_removeTransition_14 : decode cX10_removeTransition 14 = .ok (.ireturn, 1) := by decide +kernel
theorem dX10_removeTransition_15 : decode cX10_removeTransition 15 = .ok (.aload_n 0, 1) := by decide +kernel
theorem dX10_removeTransition_16 : decode cX10_removeTransition 16 = .ok (.getfield 12, 3) := by decide +kernel
theorem dX10_removeTransition_19 : decode cX10_removeTransition 19 = .ok (.iload_n 1, 1) := by decide +kernel
theorem dX10_removeTransition_20 : decode cX10_removeTransition 20 = .ok (.iload_n 2, 1) := by decide +kernel
theorem dX10_removeTransition_21 : decode cX10_removeTransition 21 = .ok (.iload_n 3, 1) := by decide +kernel
theorem dX10_removeTransition_22 : decode cX10_removeTransition 22 = .ok (.invokevirtual 107, 3) := by decide +kernel
theorem dX10_removeTransition_25 : decode cX10_removeTransition 25 = .ok (.ifCond .eq 7, 3) := by decide +kernel
theorem dX10_removeTransition_28 : decode cX10_removeTransition 28 = .ok (.iconst 1, 1) := by decide +kernel
theorem dX10_removeTransition_29 : decode cX10_removeTransition 29 = .ok (.goto 4, 3) := by decide +kernel
theorem dX10_removeTransition_32 : decode cX10_removeTransition 32 = .ok (.iconst 0, 1) := by decide +kernel
theorem dX10_removeTransition_33 : decode cX10_removeTransition 33 = .ok (.ireturn, 1) := by decide +kernel
set_option maxRecDepth 20000 in
theorem ggX10_transitionCount_X0_countTransitions : GoodIn wsX10_transitionCount wsX0_countTransitions := goodIn_r _ [6, 7, 8, 9, 10, 11, 12, 13, 14, 33, 34, 35, 36] (by decide +kernel) (by decide +kernel)
set_option maxRecDepth 20000 in
theorem gX10_transitionCount_X0_countTransitions : GoodIn wsX10_transitionCount (wsV RX10 110 RX0 yX0_countTransitions wsX0_countTransitions) := goodIn_app (goodIn_of _ (by decide +kernel)) ggX10_transitionCount_X0_countTransitions
theorem dX10_transitionCount_0 : decode cX10_transitionCount 0 = .ok (.aload_n 0, 1) := by decide +kernel
theorem dX10_transitionCount_1 : decode cX10_transitionCount 1 = .ok (.getfield 12, 3) := by decide +kernel
theorem dX10_transitionCount_4 : decode cX10_transitionCount 4 = .ok (.invokevirtual 110, 3) := by decide +kernel
theorem dX10_transitionCount_7 : decode cX10_transitionCount 7 = .ok (.ireturn, 1) := by decide +kernel
set_option maxRecDepth 20000 in
theorem ggX10_setInitial_X0_hasState : GoodIn wsX10_setInitial wsX0_hasState := goodIn_r _ [7, 8, 31, 32, 33, 34] (by decide +kernel) (by decide +kernel)
set_option maxRecDepth 20000 in
theorem gX10_setInitial_X0_hasState : GoodIn wsX10_setInitial (wsV RX10 114 RX0 yX0_hasState wsX0_hasState) := goodIn_app (goodIn_of _ (by decide +kernel)) ggX10_setInitial_X0_hasState
set_option maxRecDepth 20000 in
theorem ggX10_setInitial_X10_withBit : GoodIn wsX10_setInitial wsX10_withBit := goodIn_r _ [12] (by decide +kernel) (by decide +kernel)
set_option maxRecDepth 20000 in
theorem gX10_setInitial_X10_withBit : GoodIn wsX10_setInitial (va_wsS RX10 121 yX10_withBit wsX10_withBit) := goodIn_app (goodIn_of _ (by decide +kernel)) ggX10_setInitial_X10_withBit
theorem dX10_setInitial_0 : decode cX10_setInitial 0 = .ok (.aload_n 0, 1) := by decide +kernel
theorem dX10_setInitial_1 : decode cX10_setInitial 1 = .ok (.getfield 12, 3) := by decide +kernel
theorem dX10_setInitial_4 : decode cX10_setInitial 4 = .ok (.iload_n 1, 1) := by decide +kernel
theorem dX10_setInitial_5 : decode cX10_setInitial 5 = .ok (.invokevirtual 114, 3) := by decide +kernel
theorem dX10_setInitial_8 : decode cX10_setInitial 8 = .ok (.ifCond .ne 5, 3) := by decide +kernel
theorem dX10_setInitial_11 : decode cX10_setInitial 11 = .ok (.iconst (-1), 1) := by decide +kernel
theorem dX10_setInitial_12 : decode cX10_setInitial 12 = .ok (.ireturn, 1) := by decide +kernel
theorem dX10_setInitial_13 : decode cX10_setInitial 13 = .ok (.aload_n 0, 1) := by decide +kernel
theorem dX10_setInitial_14 : decode cX10_setInitial 14 = .ok (.getfield 12, 3) := by decide +kernel
theorem dX10_setInitial_17 : decode cX10_setInitial 17 = .ok (.getfield 118, 3) := by decide +kernel
theorem dX10_setInitial_20 : decode cX10_setInitial 20 = .ok (.iload_n 1, 1) := by decide +kernel
theorem dX10_setInitial_21 : decode cX10_setInitial 21 = .ok (.ishr, 1) := by decide +kernel
theorem dX10_setInitial_22 : decode cX10_setInitial 22 = .ok (.iconst 1, 1) := by decide +kernel
theorem dX10_setInitial_23 : decode cX10_setInitial 23 = .ok (.iand, 1) := by decide +kernel
theorem dX10_setInitial_24 : decode cX10_setInitial 24 = .ok (.istore_n 3, 1) := by decide +kernel
theorem dX10_setInitial_25 : decode cX10_setInitial 25 = .ok (.aload_n 0, 1) := by decide +kernel
theorem dX10_setInitial_26 : decode cX10_setInitial 26 = .ok (.getfield 12, 3) := by decide +kernel
theorem dX10_setInitial_29 : decode cX10_setInitial 29 = .ok (.aload_n 0, 1) := by decide +kernel
theorem dX10_setInitial_30 : decode cX10_setInitial 30 = .ok (.getfield 12, 3) := by decide +kernel
theorem dX10_setInitial_33 : decode cX10_setInitial 33 = .ok (.getfield 118, 3) := by decide +kernel
theorem dX10_setInitial_36 : decode cX10_setInitial 36 = .ok (.iload_n 1, 1) := by decide +kernel
theorem dX10_setInitial_37 : decode cX10_setInitial 37 = .ok (.iload_n 2, 1) := by decide +kernel
theorem dX10_setInitial_38 : decode cX10_setInitial 38 = .ok (.invokestatic 121, 3) := by decide +kernel
theorem dX10_setInitial_41 : decode cX10_setInitial 41 = .ok (.putfield 118, 3) := by decide +kernel
theorem dX10_setInitial_44 : decode cX10_setInitial 44 = .ok (.iload_n 3, 1) := by decide +kernel
theorem dX10_setInitial_45 : decode cX10_setInitial 45 = .ok (.ireturn, 1) := by decide +kernel
set_option maxRecDepth 20000 in
theorem ggX10_setFinal_X0_hasState : GoodIn wsX10_setFinal wsX0_hasState := goodIn_r _ [7, 8, 31, 32, 33, 34] (by decide +kernel) (by decide +kernel)
set_option maxRecDepth 20000 in
theorem gX10_setFinal_X0_hasState : GoodIn wsX10_setFinal (wsV RX10 114 RX0 yX0_hasState wsX0_hasState) := goodIn_app (goodIn_of _ (by decide +kernel)) ggX10_setFinal_X0_hasState
set_option maxRecDepth 20000 in
theorem ggX10_setFinal_X10_withBit : GoodIn wsX10_setFinal wsX10_withBit := goodIn_r _ [12] (by decide +kernel) (by decide +kernel)
set_option maxRecDepth 20000 in
theorem gX10_setFinal_X10_withBit : GoodIn wsX10_setFinal (va_wsS RX10 121 yX10_withBit wsX10_withBit) := goodIn_app (goodIn_of _ (by decide +kernel)) ggX10_setFinal_X10_withBit
theorem dX10_setFinal_0 : decode cX10_setFinal 0 = .ok (.aload_n 0, 1) := by decide +kernel
theorem dX10_setFinal_1 : decode cX10_setFinal 1 = .ok (.getfield 12, 3) := by decide +kernel
theorem dX10_setFinal_4 : decode cX10_setFinal 4 = .ok (.iload_n 1, 1) := by decide +kernel
theorem dX10_setFinal_5 : decode cX10_setFinal 5 = .ok (.invokevirtual 114, 3) := by decide +kernel
theorem dX10_setFinal_8 : decode cX10_setFinal 8 = .ok (.ifCond .ne 5, 3) := by decide +kernel
theorem dX10_setFinal_11 : decode cX10_setFinal 11 = .ok (.iconst (-1), 1) := by decide +kernel
theorem dX10_setFinal_12 : decode cX10_setFinal 12 = .ok (.ireturn, 1) := by decide +kernel
theorem dX10_setFinal_13 : decode cX10_setFinal 13 = .ok (.aload_n 0, 1) := by decide +kernel
theorem dX10_setFinal_14 : decode cX10_setFinal 14 = .ok (.getfield 12, 3) := by decide +kernel
theorem dX10_setFinal_17 : decode cX10_setFinal 17 = .ok (.getfield 125, 3) := by decide +kernel
theorem dX10_setFinal_20 : decode cX10_setFinal 20 = .ok (.iload_n 1, 1) := by decide +kernel
theorem dX10_setFinal_21 : decode cX10_setFinal 21 = .ok (.ishr, 1) := by decide +kernel
theorem dX10_setFinal_22 : decode cX10_setFinal 22 = .ok (.iconst 1, 1) := by decide +kernel
theorem dX10_setFinal_23 : decode cX10_setFinal 23 = .ok (.iand, 1) := by decide +kernel
theorem dX10_setFinal_24 : decode cX10_setFinal 24 = .ok (.istore_n 3, 1) := by decide +kernel
theorem dX10_setFinal_25 : decode cX10_setFinal 25 = .ok (.aload_n 0, 1) := by decide +kernel
theorem dX10_setFinal_26 : decode cX10_setFinal 26 = .ok (.getfield 12, 3) := by decide +kernel
theorem dX10_setFinal_29 : decode cX10_setFinal 29 = .ok (.aload_n 0, 1) := by decide +kernel
theorem dX10_setFinal_30 : decode cX10_setFinal 30 = .ok (.getfield 12, 3) := by decide +kernel
theorem dX10_setFinal_33 : decode cX10_setFinal 33 = .ok (.getfield 125, 3) := by decide +kernel
theorem dX10_setFinal_36 : decode cX10_setFinal 36 = .ok (.iload_n 1, 1) := by decide +kernel
theorem dX10_setFinal_37 : decode cX10_setFinal 37 = .ok (.iload_n 2, 1) := by decide +kernel
theorem dX10_setFinal_38 : decode cX10_setFinal 38 = .ok (.invokestatic 121, 3) := by decide +kernel
theorem dX10_setFinal_41 : decode cX10_setFinal 41 = .ok (.putfield 125, 3) := by decide +kernel
theorem dX10_setFinal_44 : decode cX10_setFinal 44 = .ok (.iload_n 3, 1) := by decide +kernel
theorem dX10_setFinal_45 : decode cX10_setFinal 45 = .ok (.ireturn, 1) := by decide +kernel
theorem dX10_initialStates_0 : decode cX10_initialStates 0 = .ok (.aload_n 0, 1) := by decide +kernel
theorem dX10_initialStates_1 : decode cX10_initialStates 1 = .ok (.getfield 12, 3) := by decide +kernel
theorem dX10_initialStates_4 : decode cX10_initialStates 4 = .ok (.getfield 118, 3) := by decide +kernel
theorem dX10_initialStates_7 : decode cX10_initialStates 7 = .ok (.ireturn, 1) := by decide +kernel
theorem dX10_finalStates_0 : decode cX10_finalStates 0 = .ok (.aload_n 0, 1) := by decide +kernel
theorem dX10_finalStates_1 : decode cX10_finalStates 1 = .ok (.getfield 12, 3) := by decide +kernel
theorem dX10_finalStates_4 : decode cX10_finalStates 4 = .ok (.getfield 125, 3) := by decide +kernel
theorem dX10_finalStates_7 : decode cX10_finalStates 7 = .ok (.ireturn, 1) := by decide +kernel
set_option maxRecDepth 20000 in
theorem ggX10_successors_X0_hasState : GoodIn wsX10_successors wsX0_hasState := goodIn_r _ [6, 7, 35, 36, 37, 38] (by decide +kernel) (by decide +kernel)
set_option maxRecDepth 20000 in
theorem gX10_successors_X0_hasState : GoodIn wsX10_successors (wsV RX10 114 RX0 yX0_hasState wsX0_hasState) := goodIn_app (goodIn_of _ (by decide +kernel)) ggX10_successors_X0_hasState
set_option maxRecDepth 20000 in
theorem ggX10_successors_X10_isLetter : GoodIn wsX10_successors wsX10_isLetter := goodIn_r _ [11] (by decide +kernel) (by decide +kernel)
set_option maxRecDepth 20000 in
theorem gX10_successors_X10_isLetter : GoodIn wsX10_successors (va_wsS RX10 128 yX10_isLetter wsX10_isLetter) := goodIn_app (goodIn_of _ (by decide +kernel)) ggX10_successors_X10_isLetter
set_option maxRecDepth 20000 in
theorem ggX10_successors_X0_targetsOf : GoodIn wsX10_successors wsX0_targetsOf := goodIn_r _ [15, 7, 16, 35, 36, 37, 38] (by decide +kernel) (by decide +kernel)
set_option maxRecDepth 20000 in
theorem gX10_successors_X0_targetsOf : GoodIn wsX10_successors (wsV RX10 131 RX0 yX0_targetsOf wsX0_targetsOf) := goodIn_app (goodIn_of _ (by decide +kernel)) ggX10_successors_X0_targetsOf
theorem dX10_successors_0 : decode cX10_successors 0 = .ok (.aload_n 0, 1) := by decide +kernel
theorem dX10_successors_1 : decode cX10_successors 1 = .ok (.getfield 12, 3) := by decide +kernel
theorem dX10_successors_4 : decode cX10_successors 4 = .ok (.iload_n 1, 1) := by decide +kernel
theorem dX10_successors_5 : decode cX10_successors 5 = .ok (.invokevirtual 114, 3) := by decide +kernel
theorem dX10_successors_8 : decode cX10_successors 8 = .ok (.ifCond .eq 10, 3) := by decide +kernel
theorem dX10_successors_11 : decode cX10_successors 11 = .ok (.iload_n 2, 1) := by decide +kernel
theorem dX10_successors_12 : decode cX10_successors 12 = .ok (.invokestatic 128, 3) := by decide +kernel
theorem dX10_successors_15 : decode cX10_successors 15 = .ok (.ifCond .ne 5, 3) := by decide +kernel
theorem dX10_successors_18 : decode cX10_successors 18 = .ok (.iconst (-1), 1) := by decide +kernel
theorem dX10_successors_19 : decode cX10_successors 19 = .ok (.ireturn, 1) := by decide +kernel
theorem dX10_successors_20 : decode cX10_successors 20 = .ok (.aload_n 0, 1) := by decide +kernel
theorem dX10_successors_21 : decode cX10_successors 21 = .ok (.getfield 12, 3) := by decide +kernel
theorem dX10_successors_24 : decode cX10_successors 24 = .ok (.iload_n 1, 1) := by decide +kernel
theorem dX10_successors_25 : decode cX10_successors 25 = .ok (.iload_n 2, 1) := by decide +kernel
theorem dX10_successors_26 : decode cX10_successors 26 = .ok (.invokevirtual 131, 3) := by decide +kernel
theorem dX10_successors_29 : decode cX10_successors 29 = .ok (.ireturn, 1) := by decide +kernel
set_option maxRecDepth 20000 in
theorem ggX10_usefulStates_X0_usefulSet : GoodIn wsX10_usefulStates wsX0_usefulSet := goodIn_r _ [6, 7, 8, 9, 10, 11, 5, 12, 13, 14, 15, 16, 17, 18, 19, 20, 21, 22, 23, 24, 25, 26, 27, 28, 29, 48, 49, 50, 51] (by decide +kernel) (by decide +kernel)
set_option maxRecDepth 20000 in
theorem gX10_usefulStates_X0_usefulSet : GoodIn wsX10_usefulStates (wsV RX10 135 RX0 yX0_usefulSet wsX0_usefulSet) := goodIn_app (goodIn_of _ (by decide +kernel)) ggX10_usefulStates_X0_usefulSet
theorem dX10_usefulStates_0 : decode cX10_usefulStates 0 = .ok (.aload_n 0, 1) := by decide +kernel
theorem dX10_usefulStates_1 : decode cX10_usefulStates 1 = .ok (.getfield 12, 3) := by decide +kernel
theorem dX10_usefulStates_4 : decode cX10_usefulStates 4 = .ok (.invokevirtual 135, 3) := by decide +kernel
theorem dX10_usefulStates_7 : decode cX10_usefulStates 7 = .ok (.ireturn, 1) := by decide +kernel
set_option maxRecDepth 20000 in
theorem ggX10_trim_X0_usefulSet : GoodIn wsX10_trim wsX0_usefulSet := goodIn_r _ [7, 8, 9, 10, 11, 12, 6, 13, 14, 15, 16, 17, 18, 19, 20, 21, 22, 23, 24, 25, 26, 27, 28, 29, 30, 64, 65, 66, 67] (by decide +kernel) (by decide +kernel)
set_option maxRecDepth 20000 in
theorem gX10_trim_X0_usefulSet : GoodIn wsX10_trim (wsV RX10 135 RX0 yX0_usefulSet wsX0_usefulSet) := goodIn_app (goodIn_of _ (by decide +kernel)) ggX10_trim_X0_usefulSet
set_option maxRecDepth 20000 in
theorem ggX10_trim_X0_clear : GoodIn wsX10_trim wsX0_clear := goodIn_r _ [34, 14, 8, 9, 26, 64, 65, 66, 67] (by decide +kernel) (by decide +kernel)
set_option maxRecDepth 20000 in
theorem gX10_trim_X0_clear : GoodIn wsX10_trim (wsV RX10 96 RX0 yX0_clear wsX0_clear) := goodIn_app (goodIn_of _ (by decide +kernel)) ggX10_trim_X0_clear
set_option maxRecDepth 20000 in
theorem ggX10_trim_X0_keepOnly : GoodIn wsX10_trim wsX0_keepOnly := goodIn_r _ [38, 14, 26, 8, 9, 15, 16, 17, 39, 40, 41, 6, 42, 22, 23, 24, 25, 43, 44, 45, 64, 65, 66, 67] (by decide +kernel) (by decide +kernel)
set_option maxRecDepth 20000 in
theorem gX10_trim_X0_keepOnly : GoodIn wsX10_trim (wsV RX10 138 RX0 yX0_keepOnly wsX0_keepOnly) := goodIn_app (goodIn_of _ (by decide +kernel)) ggX10_trim_X0_keepOnly
theorem dX10_trim_0 : decode cX10_trim 0 = .ok (.aload_n 0, 1) := by decide +kernel
theorem dX10_trim_1 : decode cX10_trim 1 = .ok (.getfield 12, 3) := by decide +kernel
theorem dX10_trim_4 : decode cX10_trim 4 = .ok (.invokevirtual 135, 3) := by decide +kernel
theorem dX10_trim_7 : decode cX10_trim 7 = .ok (.istore_n 1, 1) := by decide +kernel
theorem dX10_trim_8 : decode cX10_trim 8 = .ok (.iload_n 1, 1) := by decide +kernel
theorem dX10_trim_9 : decode cX10_trim 9 = .ok (.ifCond .ne 14, 3) := by decide +kernel
theorem dX10_trim_12 : decode cX10_trim 12 = .ok (.aload_n 0, 1) := by decide +kernel
theorem dX10_trim_13 : decode cX10_trim 13 = .ok (.getfield 12, 3) := by decide +kernel
theorem dX10_trim_16 : decode cX10_trim 16 = .ok (.iconst 1, 1) := by decide +kernel
theorem dX10_trim_17 : decode cX10_trim 17 = .ok (.invokevirtual 96, 3) := by decide +kernel
theorem dX10_trim_20 : decode cX10_trim 20 = .ok (.goto 11, 3) := by decide +kernel
theorem dX10_trim_23 : decode cX10_trim 23 = .ok (.aload_n 0, 1) := by decide +kernel
theorem dX10_trim_24 : decode cX10_trim 24 = .ok (.getfield 12, 3) := by decide +kernel
theorem dX10_trim_27 : decode cX10_trim 27 = .ok (.iload_n 1, 1) := by decide +kernel
theorem dX10_trim_28 : decode cX10_trim 28 = .ok (.invokevirtual 138, 3) := by decide +kernel
theorem dX10_trim_31 : decode cX10_trim 31 = .ok (.aload_n 0, 1) := by decide +kernel
theorem dX10_trim_32 : decode cX10_trim 32 = .ok (.getfield 12, 3) := by decide +kernel
theorem dX10_trim_35 : decode cX10_trim 35 = .ok (.getfield 92, 3) := by decide +kernel
theorem dX10_trim_38 : decode cX10_trim 38 = .ok (.ireturn, 1) := by decide +kernel
set_option maxRecDepth 20000 in
theorem ggX10_randomize_X0_addRandom : GoodIn wsX10_randomize wsX0_addRandom := goodIn_r _ [6, 7, 8, 9, 5, 10, 11, 12, 13, 14, 15, 16, 17, 18, 19, 20, 21, 22, 23, 24, 25, 26, 27, 28, 29, 30, 31, 32, 33, 34, 35, 36, 66, 67, 68, 69] (by decide +kernel) (by decide +kernel)
set_option maxRecDepth 20000 in
theorem gX10_randomize_X0_addRandom : GoodIn wsX10_randomize (wsV RX10 141 RX0 yX0_addRandom wsX0_addRandom) := goodIn_app (goodIn_of _ (by decide +kernel)) ggX10_randomize_X0_addRandom
set_option maxRecDepth 20000 in
theorem ggX10_randomize_X0_countTransitions : GoodIn wsX10_randomize wsX0_countTransitions := goodIn_r _ [40, 19, 41, 42, 43, 44, 45, 46, 47, 66, 67, 68, 69] (by decide +kernel) (by decide +kernel)
set_option maxRecDepth 20000 in
theorem gX10_randomize_X0_countTransitions : GoodIn wsX10_randomize (wsV RX10 110 RX0 yX0_countTransitions wsX0_countTransitions) := goodIn_app (goodIn_of _ (by decide +kernel)) ggX10_randomize_X0_countTransitions
theorem dX10_randomize_0 : decode cX10_randomize 0 = .ok (.iload_n 2, 1) := by decide +kernel
theorem dX10_randomize_1 : decode cX10_randomize 1 = .ok (.ifCond .lt 9, 3) := by decide +kernel
theorem dX10_randomize_4 : decode cX10_randomize 4 = .ok (.iload_n 2, 1) := by decide +kernel
theorem dX10_randomize_5 : decode cX10_randomize 5 = .ok (.bipush 20, 2) := by decide +kernel
theorem dX10_randomize_7 : decode cX10_randomize 7 = .ok (.if_icmp .le 6, 3) := by decide +kernel
theorem dX10_randomize_10 : decode cX10_randomize 10 = .ok (.bipush (-2), 2) := by decide +kernel
theorem dX10_randomize_12 : decode cX10_randomize 12 = .ok (.ireturn, 1) := by decide +kernel
theorem dX10_randomize_13 : decode cX10_randomize 13 = .ok (.aload_n 0, 1) := by decide +kernel
theorem dX10_randomize_14 : decode cX10_randomize 14 = .ok (.getfield 12, 3) := by decide +kernel
theorem dX10_randomize_17 : decode cX10_randomize 17 = .ok (.iload_n 1, 1) := by decide +kernel
theorem dX10_randomize_18 : decode cX10_randomize 18 = .ok (.iload_n 2, 1) := by decide +kernel
theorem dX10_randomize_19 : decode cX10_randomize 19 = .ok (.invokevirtual 141, 3) := by decide +kernel
theorem dX10_randomize_22 : decode cX10_randomize 22 = .ok (.aload_n 0, 1) := by decide +kernel
theorem dX10_randomize_23 : decode cX10_randomize 23 = .ok (.getfield 12, 3) := by decide +kernel
theorem dX10_randomize_26 : decode cX10_randomize 26 = .ok (.invokevirtual 110, 3) := by decide +kernel
theorem dX10_randomize_29 : decode cX10_randomize 29 = .ok (.ireturn, 1) := by decide +kernel
set_option maxRecDepth 20000 in
theorem ggX10_append_X7_add : GoodIn wsX10_append wsX7_add := goodIn_r _ [7, 8, 9, 28, 29] (by decide +kernel) (by decide +kernel)
set_option maxRecDepth 20000 in
theorem gX10_append_X7_add : GoodIn wsX10_append (wsV RX10 145 RX7 yX7_add wsX7_add) := goodIn_app (goodIn_of _ (by decide +kernel)) ggX10_append_X7_add
theorem dX10_append_0 : decode cX10_append 0 = .ok (.iload_n 1, 1) := by decide +kernel
theorem dX10_append_1 : decode cX10_append 1 = .ok (.bipush 32, 2) := by decide +kernel
theorem dX10_append_3 : decode cX10_append 3 = .ok (.if_icmp .lt 9, 3) := by decide +kernel
theorem dX10_append_6 : decode cX10_append 6 = .ok (.iload_n 1, 1) := by decide +kernel
theorem dX10_append_7 : decode cX10_append 7 = .ok (.bipush 126, 2) := by decide +kernel
theorem dX10_append_9 : decode cX10_append 9 = .ok (.if_icmp .le 6, 3) := by decide +kernel
theorem dX10_append_12 : decode cX10_append 12 = .ok (.bipush (-2), 2) := by decide +kernel
theorem dX10_append_14 : decode cX10_append 14 = .ok (.ireturn, 1) := by decide +kernel
theorem dX10_append_15 : decode cX10_append 15 = .ok (.aload_n 0, 1) := by decide +kernel
theorem dX10_append_16 : decode cX10_append 16 = .ok (.getfield 29, 3) := by decide +kernel
theorem dX10_append_19 : decode cX10_append 19 = .ok (.iload_n 1, 1) := by decide +kernel
theorem dX10_append_20 : decode cX10_append 20 = .ok (.invokevirtual 145, 3) := by decide +kernel
theorem dX10_append_23 : decode cX10_append 23 = .ok (.ifCond .eq 13, 3) := by decide +kernel
theorem dX10_append_26 : decode cX10_append 26 = .ok (.aload_n 0, 1) := by decide +kernel
theorem dX10_append_27 : decode cX10_append 27 = .ok (.getfield 29, 3) := by decide +kernel
theorem dX10_append_30 : decode cX10_append 30 = .ok (.getfield 147, 3) := by decide +kernel
theorem dX10_append_33 : decode cX10_append 33 = .ok (.goto 5, 3) := by decide +kernel
theorem dX10_append_36 : decode cX10_append 36 = .ok (.bipush (-3), 2) := by decide +kernel
theorem dX10_append_38 : decode cX10_append 38 = .ok (.ireturn, 1) := by decide +kernel
set_option maxRecDepth 20000 in
theorem ggX10_parse_X7_errorPosition : GoodIn wsX10_parse wsX7_errorPosition := goodIn_r _ [9, 10, 11, 12, 13, 8, 14, 15, 16, 17, 18, 19, 20, 21, 75, 76] (by decide +kernel) (by decide +kernel)
set_option maxRecDepth 20000 in
theorem gX10_parse_X7_errorPosition : GoodIn wsX10_parse (wsV RX10 150 RX7 yX7_errorPosition wsX7_errorPosition) := goodIn_app (goodIn_of _ (by decide +kernel)) ggX10_parse_X7_errorPosition
set_option maxRecDepth 20000 in
theorem ggX10_parse_X7_addItemsTo : GoodIn wsX10_parse wsX7_addItemsTo := goodIn_r _ [25, 10, 26, 27, 28, 8, 29, 30, 31, 11, 12, 13, 14, 15, 32, 33, 34, 35, 36, 37, 38, 39, 40, 41, 42, 43, 44, 45, 46, 19, 20, 21, 47, 48, 49, 50, 51, 52, 75, 76, 71, 72, 73, 74] (by decide +kernel) (by decide +kernel)
set_option maxRecDepth 20000 in
theorem gX10_parse_X7_addItemsTo : GoodIn wsX10_parse (wsV RX10 154 RX7 yX7_addItemsTo wsX7_addItemsTo) := goodIn_app (goodIn_of _ (by decide +kernel)) ggX10_parse_X7_addItemsTo
theorem dX10_parse_0 : decode cX10_parse 0 = .ok (.aload_n 0, 1) := by decide +kernel
theorem dX10_parse_1 : decode cX10_parse 1 = .ok (.getfield 29, 3) := by decide +kernel
theorem dX10_parse_4 : decode cX10_parse 4 = .ok (.aload_n 0, 1) := by decide +kernel
theorem dX10_parse_5 : decode cX10_parse 5 = .ok (.getfield 12, 3) := by decide +kernel
theorem dX10_parse_8 : decode cX10_parse 8 = .ok (.getfield 92, 3) := by decide +kernel
theorem dX10_parse_11 : decode cX10_parse 11 = .ok (.invokevirtual 150, 3) := by decide +kernel
theorem dX10_parse_14 : decode cX10_parse 14 = .ok (.istore_n 1, 1) := by decide +kernel
theorem dX10_parse_15 : decode cX10_parse 15 = .ok (.iload_n 1, 1) := by decide +kernel
theorem dX10_parse_16 : decode cX10_parse 16 = .ok (.iconst (-1), 1) := by decide +kernel
theorem dX10_parse_17 : decode cX10_parse 17 = .ok (.if_icmp .ne 17, 3) := by decide +kernel
theorem dX10_parse_20 : decode cX10_parse 20 = .ok (.aload_n 0, 1) := by decide +kernel
theorem dX10_parse_21 : decode cX10_parse 21 = .ok (.getfield 29, 3) := by decide +kernel
theorem dX10_parse_24 : decode cX10_parse 24 = .ok (.aload_n 0, 1) := by decide +kernel
theorem dX10_parse_25 : decode cX10_parse 25 = .ok (.getfield 12, 3) := by decide +kernel
theorem dX10_parse_28 : decode cX10_parse 28 = .ok (.invokevirtual 154, 3) := by decide +kernel
theorem dX10_parse_31 : decode cX10_parse 31 = .ok (.goto 7, 3) := by decide +kernel
theorem dX10_parse_34 : decode cX10_parse 34 = .ok (.bipush (-100), 2) := by decide +kernel
theorem dX10_parse_36 : decode cX10_parse 36 = .ok (.iload_n 1, 1) := by decide +kernel
theorem dX10_parse_37 : decode cX10_parse 37 = .ok (.isub, 1) := by decide +kernel
theorem dX10_parse_38 : decode cX10_parse 38 = .ok (.istore_n 2, 1) := by decide +kernel
theorem dX10_parse_39 : decode cX10_parse 39 = .ok (.aload_n 0, 1) := by decide +kernel
theorem dX10_parse_40 : decode cX10_parse 40 = .ok (.getfield 29, 3) := by decide +kernel
theorem dX10_parse_43 : decode cX10_parse 43 = .ok (.iconst 0, 1) := by decide +kernel
theorem dX10_parse_44 : decode cX10_parse 44 = .ok (.putfield 147, 3) := by decide +kernel
theorem dX10_parse_47 : decode cX10_parse 47 = .ok (.iload_n 2, 1) := by decide +kernel
theorem dX10_parse_48 : decode cX10_parse 48 = .ok (.ireturn, 1) := by decide +kernel
set_option maxRecDepth 20000 in
theorem ggX10_appendLetter_X10_isLetter : GoodIn wsX10_appendLetter wsX10_isLetter := goodIn_r _ [6] (by decide +kernel) (by decide +kernel)
set_option maxRecDepth 20000 in
theorem gX10_appendLetter_X10_isLetter : GoodIn wsX10_appendLetter (va_wsS RX10 128 yX10_isLetter wsX10_isLetter) := goodIn_app (goodIn_of _ (by decide +kernel)) ggX10_appendLetter_X10_isLetter
set_option maxRecDepth 20000 in
theorem ggX10_appendLetter_X8_add : GoodIn wsX10_appendLetter wsX8_add := goodIn_r _ [11, 12, 13, 14, 15, 16, 10, 17, 18, 19, 20, 21, 40, 41] (by decide +kernel) (by decide +kernel)
set_option maxRecDepth 20000 in
theorem gX10_appendLetter_X8_add : GoodIn wsX10_appendLetter (wsV RX10 159 RX8 yX8_add wsX8_add) := goodIn_app (goodIn_of _ (by decide +kernel)) ggX10_appendLetter_X8_add
theorem dX10_appendLetter_0 : decode cX10_appendLetter 0 = .ok (.iload_n 1, 1) := by decide +kernel
theorem dX10_appendLetter_1 : decode cX10_appendLetter 1 = .ok (.invokestatic 128, 3) := by decide +kernel
theorem dX10_appendLetter_4 : decode cX10_appendLetter 4 = .ok (.ifCond .ne 5, 3) := by decide +kernel
theorem dX10_appendLetter_7 : decode cX10_appendLetter 7 = .ok (.iconst (-1), 1) := by decide +kernel
theorem dX10_appendLetter_8 : decode cX10_appendLetter 8 = .ok (.ireturn, 1) := by decide +kernel
theorem dX10_appendLetter_9 : decode cX10_appendLetter 9 = .ok (.aload_n 0, 1) := by decide +kernel
theorem dX10_appendLetter_10 : decode cX10_appendLetter 10 = .ok (.getfield 36, 3) := by decide +kernel
theorem dX10_appendLetter_13 : decode cX10_appendLetter 13 = .ok (.getfield 158, 3) := by decide +kernel
theorem dX10_appendLetter_16 : decode cX10_appendLetter 16 = .ok (.bipush 20, 2) := by decide +kernel
theorem dX10_appendLetter_18 : decode cX10_appendLetter 18 = .ok (.if_icmp .lt 6, 3) := by decide +kernel
theorem dX10_appendLetter_21 : decode cX10_appendLetter 21 = .ok (.bipush (-3), 2) := by decide +kernel
theorem dX10_appendLetter_23 : decode cX10_appendLetter 23 = .ok (.ireturn, 1) := by decide +kernel
theorem dX10_appendLetter_24 : decode cX10_appendLetter 24 = .ok (.aload_n 0, 1) := by decide +kernel
theorem dX10_appendLetter_25 : decode cX10_appendLetter 25 = .ok (.getfield 36, 3) := by decide +kernel
theorem dX10_appendLetter_28 : decode cX10_appendLetter 28 = .ok (.iload_n 1, 1) := by decide +kernel
theorem dX10_appendLetter_29 : decode cX10_appendLetter 29 = .ok (.invokevirtual 159, 3) := by decide +kernel
theorem dX10_appendLetter_32 : decode cX10_appendLetter 32 = .ok (.aload_n 0, 1) := by decide +kernel
theorem dX10_appendLetter_33 : decode cX10_appendLetter 33 = .ok (.getfield 36, 3) := by decide +kernel
theorem dX10_appendLetter_36 : decode cX10_appendLetter 36 = .ok (.getfield 158, 3) := by decide +kernel
theorem dX10_appendLetter_39 : decode cX10_appendLetter 39 = .ok (.ireturn, 1) := by decide +kernel
theorem dX10_clearWord_0 : decode cX10_clearWord 0 = .ok (.aload_n 0, 1) := by decide +kernel
theorem dX10_clearWord_1 : decode cX10_clearWord 1 = .ok (.getfield 36, 3) := by decide +kernel
theorem dX10_clearWord_4 : decode cX10_clearWord 4 = .ok (.getfield 158, 3) := by decide +kernel
theorem dX10_clearWord_7 : decode cX10_clearWord 7 = .ok (.istore_n 1, 1) := by decide +kernel
theorem dX10_clearWord_8 : decode cX10_clearWord 8 = .ok (.aload_n 0, 1) := by decide +kernel
theorem dX10_clearWord_9 : decode cX10_clearWord 9 = .ok (.getfield 36, 3) := by decide +kernel
theorem dX10_clearWord_12 : decode cX10_clearWord 12 = .ok (.iconst 0, 1) := by decide +kernel
theorem dX10_clearWord_13 : decode cX10_clearWord 13 = .ok (.putfield 158, 3) := by decide +kernel
theorem dX10_clearWord_16 : decode cX10_clearWord 16 = .ok (.iload_n 1, 1) := by decide +kernel
theorem dX10_clearWord_17 : decode cX10_clearWord 17 = .ok (.ireturn, 1) := by decide +kernel
theorem dX10_wordLength_0 : decode cX10_wordLength 0 = .ok (.aload_n 0, 1) := by decide +kernel
theorem dX10_wordLength_1 : decode cX10_wordLength 1 = .ok (.getfield 36, 3) := by decide +kernel
theorem dX10_wordLength_4 : decode cX10_wordLength 4 = .ok (.getfield 158, 3) := by decide +kernel
theorem dX10_wordLength_7 : decode cX10_wordLength 7 = .ok (.ireturn, 1) := by decide +kernel
set_option maxRecDepth 20000 in
theorem ggX10_wordLetter_X8_hasPosition : GoodIn wsX10_wordLetter wsX8_hasPosition := goodIn_r _ [6, 7, 8, 32, 33] (by decide +kernel) (by decide +kernel)
set_option maxRecDepth 20000 in
theorem gX10_wordLetter_X8_hasPosition : GoodIn wsX10_wordLetter (wsV RX10 161 RX8 yX8_hasPosition wsX8_hasPosition) := goodIn_app (goodIn_of _ (by decide +kernel)) ggX10_wordLetter_X8_hasPosition
set_option maxRecDepth 20000 in
theorem ggX10_wordLetter_X8_letterAt : GoodIn wsX10_wordLetter wsX8_letterAt := goodIn_r _ [12, 8, 13, 3, 4, 5, 6, 7, 32, 33] (by decide +kernel) (by decide +kernel)
set_option maxRecDepth 20000 in
theorem gX10_wordLetter_X8_letterAt : GoodIn wsX10_wordLetter (wsV RX10 164 RX8 yX8_letterAt wsX8_letterAt) := goodIn_app (goodIn_of _ (by decide +kernel)) ggX10_wordLetter_X8_letterAt
theorem dX10_wordLetter_0 : decode cX10_wordLetter 0 = .ok (.aload_n 0, 1) := by decide +kernel
theorem dX10_wordLetter_1 : decode cX10_wordLetter 1 = .ok (.getfield 36, 3) := by decide +kernel
theorem dX10_wordLetter_4 : decode cX10_wordLetter 4 = .ok (.iload_n 1, 1) := by decide +kernel
theorem dX10_wordLetter_5 : decode cX10_wordLetter 5 = .ok (.invokevirtual 161, 3) := by decide +kernel
theorem dX10_wordLetter_8 : decode cX10_wordLetter 8 = .ok (.ifCond .eq 14, 3) := by decide +kernel
theorem dX10_wordLetter_11 : decode cX10_wordLetter 11 = .ok (.aload_n 0, 1) := by decide +kernel
theorem dX10_wordLetter_12 : decode cX10_wordLetter 12 = .ok (.getfield 36, 3) := by decide +kernel
theorem dX10_wordLetter_15 : decode cX10_wordLetter 15 = .ok (.iload_n 1, 1) := by decide +kernel
theorem dX10_wordLetter_16 : decode cX10_wordLetter 16 = .ok (.invokevirtual 164, 3) := by decide +kernel
theorem dX10_wordLetter_19 : decode cX10_wordLetter 19 = .ok (.goto 4, 3) := by decide +kernel
theorem dX10_wordLetter_22 : decode cX10_wordLetter 22 = .ok (.iconst (-1), 1) := by decide +kernel
theorem dX10_wordLetter_23 : decode cX10_wordLetter 23 = .ok (.ireturn, 1) := by decide +kernel
set_option maxRecDepth 20000 in
theorem ggX10_wordAmbiguity_X1_pathsOf : GoodIn wsX10_wordAmbiguity wsX1_pathsOf := goodIn_r _ [8, 9, 10, 11, 12, 7, 13, 14, 15, 16, 17, 18, 19, 20, 21, 22, 23, 24, 25, 26, 27, 28, 29, 30, 31, 32, 33, 34, 35, 36, 37, 38, 39, 40, 41, 42, 43, 44, 45, 46, 47, 48, 49, 50, 51, 52, 53, 54, 73, 74, 75, 76, 77, 78, 79, 80, 81, 82] (by decide +kernel) (by decide +kernel)
set_option maxRecDepth 20000 in
theorem gX10_wordAmbiguity_X1_pathsOf : GoodIn wsX10_wordAmbiguity (wsV RX10 167 RX1 yX1_pathsOf wsX1_pathsOf) := goodIn_app (goodIn_of _ (by decide +kernel)) ggX10_wordAmbiguity_X1_pathsOf
theorem dX10_wordAmbiguity_0 : decode cX10_wordAmbiguity 0 = .ok (.aload_n 0, 1) := by decide +kernel
theorem dX10_wordAmbiguity_1 : decode cX10_wordAmbiguity 1 = .ok (.getfield 63, 3) := by decide +kernel
theorem dX10_wordAmbiguity_4 : decode cX10_wordAmbiguity 4 = .ok (.aload_n 0, 1) := by decide +kernel
theorem dX10_wordAmbiguity_5 : decode cX10_wordAmbiguity 5 = .ok (.getfield 12, 3) := by decide +kernel
theorem dX10_wordAmbiguity_8 : decode cX10_wordAmbiguity 8 = .ok (.aload_n 0, 1) := by decide +kernel
theorem dX10_wordAmbiguity_9 : decode cX10_wordAmbiguity 9 = .ok (.getfield 36, 3) := by decide +kernel
theorem dX10_wordAmbiguity_12 : decode cX10_wordAmbiguity 12 = .ok (.invokevirtual 167, 3) := by decide +kernel
theorem dX10_wordAmbiguity_15 : decode cX10_wordAmbiguity 15 = .ok (.lreturn, 1) := by decide +kernel
set_option maxRecDepth 20000 in
theorem ggX10_pathsOfLength_X10_isCountedLength : GoodIn wsX10_pathsOfLength wsX10_isCountedLength := goodIn_r _ [7] (by decide +kernel) (by decide +kernel)
set_option maxRecDepth 20000 in
theorem gX10_pathsOfLength_X10_isCountedLength : GoodIn wsX10_pathsOfLength (va_wsS RX10 171 yX10_isCountedLength wsX10_isCountedLength) := goodIn_app (goodIn_of _ (by decide +kernel)) ggX10_pathsOfLength_X10_isCountedLength
set_option maxRecDepth 20000 in
theorem ggX10_pathsOfLength_X1_countPaths : GoodIn wsX10_pathsOfLength wsX1_countPaths := goodIn_r _ [12, 13, 14, 15, 11, 16, 17, 18, 19, 20, 6, 21, 22, 23, 24, 25, 26, 27, 28, 29, 30, 31, 32, 33, 34, 35, 36, 37, 38, 39, 40, 41, 42, 43, 44, 45, 46, 47, 48, 49, 68, 69, 70, 71, 72, 73, 74, 75] (by decide +kernel) (by decide +kernel)
set_option maxRecDepth 20000 in
theorem gX10_pathsOfLength_X1_countPaths : GoodIn wsX10_pathsOfLength (wsV RX10 176 RX1 yX1_countPaths wsX1_countPaths) := goodIn_app (goodIn_of _ (by decide +kernel)) ggX10_pathsOfLength_X1_countPaths
theorem dX10_pathsOfLength_0 : decode cX10_pathsOfLength 0 = .ok (.iload_n 1, 1) := by decide +kernel
theorem dX10_pathsOfLength_1 : decode cX10_pathsOfLength 1 = .ok (.invokestatic 171, 3) := by decide +kernel
theorem dX10_pathsOfLength_4 : decode cX10_pathsOfLength 4 = .ok (.ifCond .ne 7, 3) := by decide +kernel
theorem dX10_pathsOfLength_7 : decode cX10_pathsOfLength 7 = .ok (.ldc2_w 174, 3) := by decide +kernel
theorem dX10_pathsOfLength_10 : decode cX10_pathsOfLength 10 = .ok (.lreturn, 1) := by decide +kernel
theorem dX10_pathsOfLength_11 : decode cX10_pathsOfLength 11 = .ok (.aload_n 0, 1) := by decide +kernel
theorem dX10_pathsOfLength_12 : decode cX10_pathsOfLength 12 = .ok (.getfield 63, 3) := by decide +kernel
theorem dX10_pathsOfLength_15 : decode cX10_pathsOfLength 15 = .ok (.aload_n 0, 1) := by decide +kernel
theorem dX10_pathsOfLength_16 : decode cX10_pathsOfLength 16 = .ok (.getfield 12, 3) := by decide +kernel
theorem dX10_pathsOfLength_19 : decode cX10_pathsOfLength 19 = .ok (.iload_n 1, 1) := by decide +kernel
theorem dX10_pathsOfLength_20 : decode cX10_pathsOfLength 20 = .ok (.invokevirtual 176, 3) := by decide +kernel
theorem dX10_pathsOfLength_23 : decode cX10_pathsOfLength 23 = .ok (.lreturn, 1) := by decide +kernel
set_option maxRecDepth 20000 in
theorem ggX10_wordsOfLength_X10_isCountedLength : GoodIn wsX10_wordsOfLength wsX10_isCountedLength := goodIn_r _ [8] (by decide +kernel) (by decide +kernel)
set_option maxRecDepth 20000 in
theorem gX10_wordsOfLength_X10_isCountedLength : GoodIn wsX10_wordsOfLength (va_wsS RX10 171 yX10_isCountedLength wsX10_isCountedLength) := goodIn_app (goodIn_of _ (by decide +kernel)) ggX10_wordsOfLength_X10_isCountedLength
set_option maxRecDepth 20000 in
theorem ggX10_wordsOfLength_X6_load : GoodIn wsX10_wordsOfLength wsX6_load := goodIn_r _ [13, 14, 15, 16, 17, 18, 19, 20, 21, 22, 23, 12, 24, 25, 26, 27, 7, 28, 68, 69, 70, 71, 72, 73] (by decide +kernel) (by decide +kernel)
set_option maxRecDepth 20000 in
theorem gX10_wordsOfLength_X6_load : GoodIn wsX10_wordsOfLength (wsV RX10 180 RX6 yX6_load wsX6_load) := goodIn_app (goodIn_of _ (by decide +kernel)) ggX10_wordsOfLength_X6_load
set_option maxRecDepth 20000 in
theorem ggX10_wordsOfLength_X1_countWords : GoodIn wsX10_wordsOfLength wsX1_countWords := goodIn_r _ [33, 34, 35, 36, 37, 38, 39, 32, 40, 41, 42, 43, 44, 12, 45, 25, 46, 47, 48, 49, 74, 75, 76, 77, 68, 69, 70, 71, 72, 73] (by decide +kernel) (by decide +kernel)
set_option maxRecDepth 20000 in
theorem gX10_wordsOfLength_X1_countWords : GoodIn wsX10_wordsOfLength (wsV RX10 184 RX1 yX1_countWords wsX1_countWords) := goodIn_app (goodIn_of _ (by decide +kernel)) ggX10_wordsOfLength_X1_countWords
theorem dX10_wordsOfLength_0 : decode cX10_wordsOfLength 0 = .ok (.iload_n 1, 1) := by decide +kernel
theorem dX10_wordsOfLength_1 : decode cX10_wordsOfLength 1 = .ok (.invokestatic 171, 3) := by decide +kernel
theorem dX10_wordsOfLength_4 : decode cX10_wordsOfLength 4 = .ok (.ifCond .ne 7, 3) := by decide +kernel
theorem dX10_wordsOfLength_7 : decode cX10_wordsOfLength 7 = .ok (.ldc2_w 174, 3) := by decide +kernel
theorem dX10_wordsOfLength_10 : decode cX10_wordsOfLength 10 = .ok (.lreturn, 1) := by decide +kernel
theorem dX10_wordsOfLength_11 : decode cX10_wordsOfLength 11 = .ok (.aload_n 0, 1) := by decide +kernel
theorem dX10_wordsOfLength_12 : decode cX10_wordsOfLength 12 = .ok (.getfield 56, 3) := by decide +kernel
theorem dX10_wordsOfLength_15 : decode cX10_wordsOfLength 15 = .ok (.aload_n 0, 1) := by decide +kernel
theorem dX10_wordsOfLength_16 : decode cX10_wordsOfLength 16 = .ok (.getfield 12, 3) := by decide +kernel
theorem dX10_wordsOfLength_19 : decode cX10_wordsOfLength 19 = .ok (.invokevirtual 180, 3) := by decide +kernel
theorem dX10_wordsOfLength_22 : decode cX10_wordsOfLength 22 = .ok (.aload_n 0, 1) := by decide +kernel
theorem dX10_wordsOfLength_23 : decode cX10_wordsOfLength 23 = .ok (.getfield 63, 3) := by decide +kernel
theorem dX10_wordsOfLength_26 : decode cX10_wordsOfLength 26 = .ok (.aload_n 0, 1) := by decide +kernel
theorem dX10_wordsOfLength_27 : decode cX10_wordsOfLength 27 = .ok (.getfield 12, 3) := by decide +kernel
theorem dX10_wordsOfLength_30 : decode cX10_wordsOfLength 30 = .ok (.aload_n 0, 1) := by decide +kernel
theorem dX10_wordsOfLength_31 : decode cX10_wordsOfLength 31 = .ok (.getfield 56, 3) := by decide +kernel
theorem dX10_wordsOfLength_34 : decode cX10_wordsOfLength 34 = .ok (.iload_n 1, 1) := by decide +kernel
theorem dX10_wordsOfLength_35 : decode cX10_wordsOfLength 35 = .ok (.invokevirtual 184, 3) := by decide +kernel
theorem dX10_wordsOfLength_38 : decode cX10_wordsOfLength 38 = .ok (.lreturn, 1) := by decide +kernel
set_option maxRecDepth 20000 in
theorem ggX10_averageBits_X10_isCountedLength : GoodIn wsX10_averageBits wsX10_isCountedLength := goodIn_r _ [9] (by decide +kernel) (by decide +kernel)
set_option maxRecDepth 20000 in
theorem gX10_averageBits_X10_isCountedLength : GoodIn wsX10_averageBits (va_wsS RX10 171 yX10_isCountedLength wsX10_isCountedLength) := goodIn_app (goodIn_of _ (by decide +kernel)) ggX10_averageBits_X10_isCountedLength
set_option maxRecDepth 20000 in
theorem ggX10_averageBits_X6_load : GoodIn wsX10_averageBits wsX6_load := goodIn_r _ [14, 15, 16, 17, 18, 19, 20, 21, 22, 23, 24, 13, 25, 26, 27, 28, 8, 29, 104, 105, 106, 107, 108, 109] (by decide +kernel) (by decide +kernel)
set_option maxRecDepth 20000 in
theorem gX10_averageBits_X6_load : GoodIn wsX10_averageBits (wsV RX10 180 RX6 yX6_load wsX6_load) := goodIn_app (goodIn_of _ (by decide +kernel)) ggX10_averageBits_X6_load
set_option maxRecDepth 20000 in
theorem ggX10_averageBits_X1_countPaths : GoodIn wsX10_averageBits wsX1_countPaths := goodIn_r _ [34, 35, 36, 37, 33, 38, 39, 40, 41, 42, 8, 43, 44, 45, 46, 47, 48, 49, 50, 51, 52, 16, 17, 18, 19, 20, 21, 53, 54, 55, 56, 57, 58, 59, 60, 61, 62, 63, 64, 65, 110, 111, 112, 113, 104, 105, 106, 107] (by decide +kernel) (by decide +kernel)
set_option maxRecDepth 20000 in
theorem gX10_averageBits_X1_countPaths : GoodIn wsX10_averageBits (wsV RX10 176 RX1 yX1_countPaths wsX1_countPaths) := goodIn_app (goodIn_of _ (by decide +kernel)) ggX10_averageBits_X1_countPaths
set_option maxRecDepth 20000 in
theorem ggX10_averageBits_X1_countWords : GoodIn wsX10_averageBits wsX1_countWords := goodIn_r _ [69, 70, 40, 65, 71, 72, 73, 33, 74, 75, 76, 77, 78, 13, 79, 26, 53, 54, 55, 56, 110, 111, 112, 113, 104, 105, 106, 107, 108, 109] (by decide +kernel) (by decide +kernel)
set_option maxRecDepth 20000 in
theorem gX10_averageBits_X1_countWords : GoodIn wsX10_averageBits (wsV RX10 184 RX1 yX1_countWords wsX1_countWords) := goodIn_app (goodIn_of _ (by decide +kernel)) ggX10_averageBits_X1_countWords
set_option maxRecDepth 20000 in
theorem ggX10_averageBits_X1_bitsOfQuotient : GoodIn wsX10_averageBits wsX1_bitsOfQuotient := goodIn_r _ [82, 83, 84, 85] (by decide +kernel) (by decide +kernel)
set_option maxRecDepth 20000 in
theorem gX10_averageBits_X1_bitsOfQuotient : GoodIn wsX10_averageBits (va_wsS RX10 190 yX1_bitsOfQuotient wsX1_bitsOfQuotient) := goodIn_app (goodIn_of _ (by decide +kernel)) ggX10_averageBits_X1_bitsOfQuotient
theorem dX10_averageBits_0 : decode cX10_averageBits 0 = .ok (.iload_n 1, 1) := by decide +kernel
theorem dX10_averageBits_1 : decode cX10_averageBits 1 = .ok (.invokestatic 171, 3) := by decide +kernel
theorem dX10_averageBits_4 : decode cX10_averageBits 4 = .ok (.ifCond .ne 7, 3) := by decide +kernel
theorem dX10_averageBits_7 : decode cX10_averageBits 7 = .ok (.ldc2_w 174, 3) := by decide +kernel
theorem dX10_averageBits_10 : decode cX10_averageBits 10 = .ok (.lreturn, 1) := by decide +kernel
theorem dX10_averageBits_11 : decode cX10_averageBits 11 = .ok (.aload_n 0, 1) := by decide +kernel
theorem dX10_averageBits_12 : decode cX10_averageBits 12 = .ok (.getfield 56, 3) := by decide +kernel
theorem dX10_averageBits_15 : decode cX10_averageBits 15 = .ok (.aload_n 0, 1) := by decide +kernel
theorem dX10_averageBits_16 : decode cX10_averageBits 16 = .ok (.getfield 12, 3) := by decide +kernel
theorem dX10_averageBits_19 : decode cX10_averageBits 19 = .ok (.invokevirtual 180, 3) := by decide +kernel
theorem dX10_averageBits_22 : decode cX10_averageBits 22 = .ok (.aload_n 0, 1) := by decide +kernel
theorem dX10_averageBits_23 : decode cX10_averageBits 23 = .ok (.getfield 63, 3) := by decide +kernel
theorem dX10_averageBits_26 : decode cX10_averageBits 26 = .ok (.aload_n 0, 1) := by decide +kernel
theorem dX10_averageBits_27 : decode cX10_averageBits 27 = .ok (.getfield 12, 3) := by decide +kernel
theorem dX10_averageBits_30 : decode cX10_averageBits 30 = .ok (.iload_n 1, 1) := by decide +kernel
theorem dX10_averageBits_31 : decode cX10_averageBits 31 = .ok (.invokevirtual 176, 3) := by decide +kernel
theorem dX10_averageBits_34 : decode cX10_averageBits 34 = .ok (.lstore_n 2, 1) := by decide +kernel
theorem dX10_averageBits_35 : decode cX10_averageBits 35 = .ok (.aload_n 0, 1) := by decide +kernel
theorem dX10_averageBits_36 : decode cX10_averageBits 36 = .ok (.getfield 63, 3) := by decide +kernel
theorem dX10_averageBits_39 : decode cX10_averageBits 39 = .ok (.aload_n 0, 1) := by decide +kernel
theorem dX10_averageBits_40 : decode cX10_averageBits 40 = .ok (.getfield 12, 3) := by decide +kernel
theorem dX10_averageBits_43 : decode cX10_averageBits 43 = .ok (.aload_n 0, 1) := by decide +kernel
theorem dX10_averageBits_44 : decode cX10_averageBits 44 = .ok (.getfield 56, 3) := by decide +kernel
theorem dX10_averageBits_47 : decode cX10_averageBits 47 = .ok (.iload_n 1, 1) := by decide +kernel
theorem dX10_averageBits_48 : decode cX10_averageBits 48 = .ok (.invokevirtual 184, 3) := by decide +kernel
theorem dX10_averageBits_51 : decode cX10_averageBits 51 = .ok (.lstore 4, 2) := by decide +kernel
theorem dX10_averageBits_53 : decode cX10_averageBits 53 = .ok (.lload_n 2, 1) := by decide +kernel
theorem dX10_averageBits_54 : decode cX10_averageBits 54 = .ok (.lconst 0, 1) := by decide +kernel
theorem dX10_averageBits_55 : decode cX10_averageBits 55 = .ok (.lcmp, 1) := by decide +kernel
theorem dX10_averageBits_56 : decode cX10_averageBits 56 = .ok (.ifCond .lt 10, 3) := by decide +kernel
theorem dX10_averageBits_59 : decode cX10_averageBits 59 = .ok (.lload 4, 2) := by decide +kernel
theorem dX10_averageBits_61 : decode cX10_averageBits 61 = .ok (.lconst 0, 1) := by decide +kernel
theorem dX10_averageBits_62 : decode cX10_averageBits 62 = .ok (.lcmp, 1) := by decide +kernel
theorem dX10_averageBits_63 : decode cX10_averageBits 63 = .ok (.ifCond .ge 7, 3) := by decide +kernel
theorem dX10_averageBits_66 : decode cX10_averageBits 66 = .ok (.ldc2_w 188, 3) := by decide +kernel
theorem dX10_averageBits_69 : decode cX10_averageBits 69 = .ok (.lreturn, 1) := by decide +kernel
theorem dX10_averageBits_70 : decode cX10_averageBits 70 = .ok (.lload_n 2, 1) := by decide +kernel
theorem dX10_averageBits_71 : decode cX10_averageBits 71 = .ok (.lload 4, 2) := by decide +kernel
theorem dX10_averageBits_73 : decode cX10_averageBits 73 = .ok (.invokestatic 190, 3) := by decide +kernel
theorem dX10_averageBits_76 : decode cX10_averageBits 76 = .ok (.lreturn, 1) := by decide +kernel
set_option maxRecDepth 20000 in
theorem ggX10_kind_X10_freshSearch : GoodIn wsX10_kind wsX10_freshSearch := goodIn_r _ [5, 6, 7, 8, 9, 10, 11, 12, 13, 14, 15, 16, 17, 18, 19, 20, 21, 22, 23, 24, 25, 26, 27, 28, 29, 30, 31, 32, 33, 34, 35, 36, 37, 38, 39, 4, 40, 41, 42, 43, 44, 45, 46, 47, 48, 49, 50, 51, 52, 53, 54, 55, 56, 57, 58, 59, 60, 61, 136, 137, 138, 139, 140, 141, 142, 143, 144, 145, 146, 147, 148, 149, 150, 151, 152, 153, 154, 155, 156, 157, 158, 159, 160, 161, 162, 163, 164, 165, 166, 167, 168, 169, 170, 171, 172] (by decide +kernel) (by decide +kernel)
set_option maxRecDepth 20000 in
theorem gX10_kind_X10_freshSearch : GoodIn wsX10_kind (wsV RX10 194 RX10 yX10_freshSearch wsX10_freshSearch) := goodIn_app (goodIn_of _ (by decide +kernel)) ggX10_kind_X10_freshSearch
set_option maxRecDepth 20000 in
theorem ggX10_kind_X9_growthKind : GoodIn wsX10_kind wsX9_growthKind := goodIn_r _ [65, 66, 67, 68, 11, 69, 70, 17, 71, 72, 73, 74, 75, 76, 77, 78, 79, 80, 81, 82, 83, 84, 85, 86, 87, 88, 89, 90, 91, 92, 93, 94, 95, 96, 97, 98, 99, 100, 19, 101, 102, 103, 104, 105, 106, 107, 108, 109, 110, 111, 13, 112, 113, 114, 24, 115, 37, 116, 117, 118, 119, 38, 120, 121, 122, 123, 15, 124, 125, 126, 127, 20, 51, 4, 52, 128, 129, 130, 131, 132, 133, 134, 135, 154, 155, 156, 157, 158, 159, 160, 161, 162, 163, 164, 165, 166, 171, 172] (by decide +kernel) (by decide +kernel)
set_option maxRecDepth 20000 in
theorem gX10_kind_X9_growthKind : GoodIn wsX10_kind (wsV RX10 198 RX9 yX9_growthKind wsX9_growthKind) := goodIn_app (goodIn_of _ (by decide +kernel)) ggX10_kind_X9_growthKind
theorem dX10_kind_0 : decode cX10_kind 0 = .ok (.aload_n 0, 1) := by decide +kernel
theorem dX10_kind_1 : decode cX10_kind 1 = .ok (.invokevirtual 194, 3) := by decide +kernel
theorem dX10_kind_4 : decode cX10_kind 4 = .ok (.invokevirtual 198, 3) := by decide +kernel
theorem dX10_kind_7 : decode cX10_kind 7 = .ok (.ireturn, 1) := by decide +kernel
set_option maxRecDepth 20000 in
theorem ggX10_degree_X10_freshSearch : GoodIn wsX10_degree wsX10_freshSearch := goodIn_r _ [6, 7, 1, 8, 9, 10, 11, 12, 13, 14, 15, 16, 17, 18, 19, 20, 21, 22, 23, 24, 25, 26, 27, 28, 29, 30, 31, 32, 33, 34, 35, 36, 37, 38, 39, 5, 40, 41, 42, 43, 44, 45, 46, 47, 48, 49, 50, 51, 52, 53, 54, 55, 56, 57, 58, 59, 60, 61, 154, 155, 156, 157, 158, 159, 160, 161, 162, 163, 164, 165, 166, 167, 168, 169, 170, 171, 172, 173, 174, 175, 176, 177, 178, 179, 180, 181, 182, 183, 184, 185, 186, 187, 188, 189, 190] (by decide +kernel) (by decide +kernel)
set_option maxRecDepth 20000 in
theorem gX10_degree_X10_freshSearch : GoodIn wsX10_degree (wsV RX10 194 RX10 yX10_freshSearch wsX10_freshSearch) := goodIn_app (goodIn_of _ (by decide +kernel)) ggX10_degree_X10_freshSearch
set_option maxRecDepth 20000 in
theorem ggX10_degree_X9_growthKind : GoodIn wsX10_degree wsX9_growthKind := goodIn_r _ [65, 66, 67, 68, 11, 69, 70, 17, 71, 72, 73, 74, 75, 76, 77, 78, 79, 80, 81, 82, 83, 84, 85, 86, 87, 88, 89, 90, 91, 92, 93, 94, 95, 96, 97, 98, 99, 100, 19, 101, 102, 103, 104, 105, 106, 107, 108, 109, 110, 111, 13, 112, 113, 114, 24, 115, 37, 116, 117, 118, 119, 38, 120, 121, 122, 123, 15, 124, 125, 126, 127, 20, 51, 5, 52, 128, 129, 130, 131, 132, 133, 134, 135, 172, 173, 174, 175, 176, 177, 178, 179, 180, 181, 182, 183, 184, 189, 190] (by decide +kernel) (by decide +kernel)
set_option maxRecDepth 20000 in
theorem gX10_degree_X9_growthKind : GoodIn wsX10_degree (wsV RX10 198 RX9 yX9_growthKind wsX9_growthKind) := goodIn_app (goodIn_of _ (by decide +kernel)) ggX10_degree_X9_growthKind
set_option maxRecDepth 20000 in
theorem ggX10_degree_X9_longestChain : GoodIn wsX10_degree wsX9_longestChain := goodIn_r _ [139, 140, 15, 141, 142, 143, 144, 145, 146, 147, 11, 148, 132, 133, 134, 135, 70, 99, 100, 20, 51, 5, 52, 71, 72, 73, 74, 75, 76, 77, 78, 79, 80, 81, 82, 83, 84, 85, 86, 87, 88, 89, 90, 91, 92, 93, 94, 95, 96, 97, 98, 19, 101, 102, 103, 104, 105, 106, 107, 108, 109, 110, 111, 13, 112, 113, 114, 24, 115, 37, 116, 117, 118, 119, 38, 149, 150, 151, 152, 153, 48, 49, 29, 50, 31, 53, 54, 55, 56, 57, 27, 28, 30, 32, 172, 173, 174, 175, 176, 177, 178, 179, 180, 181, 182, 183, 184, 189, 190, 185, 186, 187, 188] (by decide +kernel) (by decide +kernel)
set_option maxRecDepth 20000 in
theorem gX10_degree_X9_longestChain : GoodIn wsX10_degree (wsV RX10 201 RX9 yX9_longestChain wsX9_longestChain) := goodIn_app (goodIn_of _ (by decide +kernel)) ggX10_degree_X9_longestChain
theorem dX10_degree_0 : decode cX10_degree 0 = .ok (.aload_n 0, 1) := by decide +kernel
theorem dX10_degree_1 : decode cX10_degree 1 = .ok (.invokevirtual 194, 3) := by decide +kernel
theorem dX10_degree_4 : decode cX10_degree 4 = .ok (.astore_n 1, 1) := by decide +kernel
theorem dX10_degree_5 : decode cX10_degree 5 = .ok (.aload_n 1, 1) := by decide +kernel
theorem dX10_degree_6 : decode cX10_degree 6 = .ok (.invokevirtual 198, 3) := by decide +kernel
theorem dX10_degree_9 : decode cX10_degree 9 = .ok (.istore_n 2, 1) := by decide +kernel
theorem dX10_degree_10 : decode cX10_degree 10 = .ok (.iload_n 2, 1) := by decide +kernel
theorem dX10_degree_11 : decode cX10_degree 11 = .ok (.iconst 3, 1) := by decide +kernel
theorem dX10_degree_12 : decode cX10_degree 12 = .ok (.if_icmp .ne 6, 3) := by decide +kernel
theorem dX10_degree_15 : decode cX10_degree 15 = .ok (.bipush (-4), 2) := by decide +kernel
theorem dX10_degree_17 : decode cX10_degree 17 = .ok (.ireturn, 1) := by decide +kernel
theorem dX10_degree_18 : decode cX10_degree 18 = .ok (.iload_n 2, 1) := by decide +kernel
theorem dX10_degree_19 : decode cX10_degree 19 = .ok (.iconst 2, 1) := by decide +kernel
theorem dX10_degree_20 : decode cX10_degree 20 = .ok (.if_icmp .ne 14, 3) := by decide +kernel
theorem dX10_degree_23 : decode cX10_degree 23 = .ok (.aload_n 1, 1) := by decide +kernel
theorem dX10_degree_24 : decode cX10_degree 24 = .ok (.aload_n 0, 1) := by decide +kernel
theorem dX10_degree_25 : decode cX10_degree 25 = .ok (.getfield 12, 3) := by decide +kernel
theorem dX10_degree_28 : decode cX10_degree 28 = .ok (.invokevirtual 201, 3) := by decide +kernel
theorem dX10_degree_31 : decode cX10_degree 31 = .ok (.goto 4, 3) := by decide +kernel
theorem dX10_degree_34 : decode cX10_degree 34 = .ok (.iconst 0, 1) := by decide +kernel
theorem dX10_degree_35 : decode cX10_degree 35 = .ok (.ireturn, 1) := by decide +kernel
set_option maxRecDepth 20000 in
theorem ggX10_maximumAmbiguity_X10_freshSearch : GoodIn wsX10_maximumAmbiguity wsX10_freshSearch := goodIn_r _ [11, 12, 6, 13, 14, 15, 16, 17, 18, 19, 20, 21, 22, 23, 24, 25, 26, 27, 28, 29, 30, 31, 32, 33, 34, 35, 36, 37, 38, 39, 40, 41, 42, 43, 44, 10, 45, 46, 47, 48, 49, 50, 51, 52, 53, 54, 55, 56, 57, 58, 59, 60, 61, 62, 63, 64, 65, 66, 199, 200, 201, 202, 203, 204, 205, 206, 207, 208, 209, 210, 211, 212, 213, 214, 215, 216, 222, 223, 224, 225, 226, 227, 228, 229, 230, 231, 232, 233, 234, 235, 236, 237, 238, 239, 240] (by decide +kernel) (by decide +kernel)
set_option maxRecDepth 20000 in
theorem gX10_maximumAmbiguity_X10_freshSearch : GoodIn wsX10_maximumAmbiguity (wsV RX10 194 RX10 yX10_freshSearch wsX10_freshSearch) := goodIn_app (goodIn_of _ (by decide +kernel)) ggX10_maximumAmbiguity_X10_freshSearch
set_option maxRecDepth 20000 in
theorem ggX10_maximumAmbiguity_X9_growthKind : GoodIn wsX10_maximumAmbiguity wsX9_growthKind := goodIn_r _ [70, 71, 72, 73, 16, 74, 75, 22, 76, 77, 78, 79, 80, 81, 82, 83, 84, 85, 86, 87, 88, 89, 90, 91, 92, 93, 94, 95, 96, 97, 98, 99, 100, 101, 102, 103, 104, 105, 24, 106, 107, 108, 109, 110, 111, 112, 113, 114, 115, 116, 18, 117, 118, 119, 29, 120, 42, 121, 122, 123, 124, 43, 125, 126, 127, 128, 20, 129, 130, 131, 132, 25, 56, 10, 57, 133, 134, 135, 136, 137, 138, 139, 140, 222, 223, 224, 225, 226, 227, 228, 229, 230, 231, 232, 233, 234, 239, 240] (by decide +kernel) (by decide +kernel)
set_option maxRecDepth 20000 in
theorem gX10_maximumAmbiguity_X9_growthKind : GoodIn wsX10_maximumAmbiguity (wsV RX10 198 RX9 yX9_growthKind wsX9_growthKind) := goodIn_app (goodIn_of _ (by decide +kernel)) ggX10_maximumAmbiguity_X9_growthKind
set_option maxRecDepth 20000 in
theorem ggX10_maximumAmbiguity_X4_init : GoodIn wsX10_maximumAmbiguity wsX4_init := goodIn_r _ [142, 143, 144, 145, 146, 147, 148, 149, 150, 151, 217, 218, 219, 220, 221] (by decide +kernel) (by decide +kernel)
set_option maxRecDepth 20000 in
theorem gX10_maximumAmbiguity_X4_init_n212 : GoodIn wsX10_maximumAmbiguity (wsX4_init) := ggX10_maximumAmbiguity_X4_init
set_option maxRecDepth 20000 in
theorem ggX10_maximumAmbiguity_X4_highestAmbiguity : GoodIn wsX10_maximumAmbiguity wsX4_highestAmbiguity := goodIn_r _ [155, 148, 156, 157, 158, 159, 160, 161, 162, 163, 164, 47, 48, 34, 49, 50, 51, 52, 53, 54, 55, 36, 56, 10, 57, 58, 59, 60, 61, 62, 32, 33, 35, 37, 63, 64, 65, 66, 165, 166, 167, 5, 168, 150, 169, 170, 171, 172, 147, 151, 173, 174, 175, 176, 177, 178, 179, 180, 181, 182, 183, 184, 185, 186, 187, 188, 189, 190, 191, 192, 193, 194, 195, 196, 197, 198, 217, 218, 219, 220, 221, 235, 236, 237, 238] (by decide +kernel) (by decide +kernel)
set_option maxRecDepth 20000 in
theorem gX10_maximumAmbiguity_X4_highestAmbiguity : GoodIn wsX10_maximumAmbiguity (wsV RX10 213 RX4 yX4_highestAmbiguity wsX4_highestAmbiguity) := goodIn_app (goodIn_of _ (by decide +kernel)) ggX10_maximumAmbiguity_X4_highestAmbiguity
theorem dX10_maximumAmbiguity_0 : decode cX10_maximumAmbiguity 0 = .ok (.aload_n 0, 1) := by decide +kernel
theorem dX10_maximumAmbiguity_1 : decode cX10_maximumAmbiguity 1 = .ok (.invokevirtual 194, 3) := by decide +kernel
theorem dX10_maximumAmbiguity_4 : decode cX10_maximumAmbiguity 4 = .ok (.invokevirtual 198, 3) := by decide +kernel
theorem dX10_maximumAmbiguity_7 : decode cX10_maximumAmbiguity 7 = .ok (.iconst 2, 1) := by decide +kernel
theorem dX10_maximumAmbiguity_8 : decode cX10_maximumAmbiguity 8 = .ok (.if_icmp .lt 7, 3) := by decide +kernel
theorem dX10_maximumAmbiguity_11 : decode cX10_maximumAmbiguity 11 = .ok (.ldc2_w 204, 3) := by decide +kernel
theorem dX10_maximumAmbiguity_14 : decode cX10_maximumAmbiguity 14 = .ok (.lreturn, 1) := by decide +kernel
theorem dX10_maximumAmbiguity_15 : decode cX10_maximumAmbiguity 15 = .ok (.aload_n 0, 1) := by decide +kernel
theorem dX10_maximumAmbiguity_16 : decode cX10_maximumAmbiguity 16 = .ok (.getfield 206, 3) := by decide +kernel
theorem dX10_maximumAmbiguity_19 : decode cX10_maximumAmbiguity 19 = .ok (.ifnonnull 14, 3) := by decide +kernel
theorem dX10_maximumAmbiguity_22 : decode cX10_maximumAmbiguity 22 = .ok (.aload_n 0, 1) := by decide +kernel
theorem dX10_maximumAmbiguity_23 : decode cX10_maximumAmbiguity 23 = .ok (.new 210, 3) := by decide +kernel
theorem dX10_maximumAmbiguity_26 : decode cX10_maximumAmbiguity 26 = .ok (.dup, 1) := by decide +kernel
theorem dX10_maximumAmbiguity_27 : decode cX10_maximumAmbiguity 27 = .ok (.invokespecial 212, 3) := by decide +kernel
theorem dX10_maximumAmbiguity_30 : decode cX10_maximumAmbiguity 30 = .ok (.putfield 206, 3) := by decide +kernel
theorem dX10_maximumAmbiguity_33 : decode cX10_maximumAmbiguity 33 = .ok (.aload_n 0, 1) := by decide +kernel
theorem dX10_maximumAmbiguity_34 : decode cX10_maximumAmbiguity 34 = .ok (.getfield 206, 3) := by decide +kernel
theorem dX10_maximumAmbiguity_37 : decode cX10_maximumAmbiguity 37 = .ok (.aload_n 0, 1) := by decide +kernel
theorem dX10_maximumAmbiguity_38 : decode cX10_maximumAmbiguity 38 = .ok (.getfield 12, 3) := by decide +kernel
theorem dX10_maximumAmbiguity_41 : decode cX10_maximumAmbiguity 41 = .ok (.invokevirtual 213, 3) := by decide +kernel
theorem dX10_maximumAmbiguity_44 : decode cX10_maximumAmbiguity 44 = .ok (.lreturn, 1) := by decide +kernel
set_option maxRecDepth 20000 in
theorem ggX10_isLoopState_X0_hasState : GoodIn wsX10_isLoopState wsX0_hasState := goodIn_r _ [6, 7, 138, 139, 140, 141] (by decide +kernel) (by decide +kernel)
set_option maxRecDepth 20000 in
theorem gX10_isLoopState_X0_hasState : GoodIn wsX10_isLoopState (wsV RX10 114 RX0 yX0_hasState wsX0_hasState) := goodIn_app (goodIn_of _ (by decide +kernel)) ggX10_isLoopState_X0_hasState
set_option maxRecDepth 20000 in
theorem ggX10_isLoopState_X10_freshSearch : GoodIn wsX10_isLoopState wsX10_freshSearch := goodIn_r _ [12, 13, 1, 14, 15, 16, 17, 18, 19, 20, 21, 22, 23, 24, 25, 26, 27, 28, 29, 30, 31, 32, 33, 34, 5, 35, 7, 36, 37, 38, 39, 40, 41, 42, 43, 11, 44, 45, 46, 47, 48, 49, 50, 51, 52, 53, 54, 55, 56, 57, 58, 59, 60, 61, 62, 63, 64, 65, 120, 121, 122, 123, 124, 125, 126, 127, 128, 129, 130, 131, 132, 133, 134, 135, 136, 137, 142, 143, 144, 145, 146, 147, 148, 149, 150, 151, 152, 153, 154, 138, 139, 140, 141, 155, 156] (by decide +kernel) (by decide +kernel)
set_option maxRecDepth 20000 in
theorem gX10_isLoopState_X10_freshSearch : GoodIn wsX10_isLoopState (wsV RX10 194 RX10 yX10_freshSearch wsX10_freshSearch) := goodIn_app (goodIn_of _ (by decide +kernel)) ggX10_isLoopState_X10_freshSearch
set_option maxRecDepth 20000 in
theorem ggX10_isLoopState_X9_findLoopWord : GoodIn wsX10_isLoopState wsX9_findLoopWord := goodIn_r _ [69, 70, 71, 26, 55, 11, 56, 72, 73, 74, 17, 75, 76, 77, 78, 79, 80, 81, 82, 83, 84, 85, 86, 87, 88, 89, 90, 91, 92, 93, 94, 95, 96, 97, 98, 99, 100, 25, 101, 102, 103, 104, 105, 106, 107, 108, 109, 110, 111, 19, 112, 113, 114, 30, 115, 41, 116, 117, 118, 119, 42, 142, 143, 144, 145, 146, 147, 148, 149, 150, 151, 152, 153, 154, 155, 156] (by decide +kernel) (by decide +kernel)
set_option maxRecDepth 20000 in
theorem gX10_isLoopState_X9_findLoopWord : GoodIn wsX10_isLoopState (wsV RX10 217 RX9 yX9_findLoopWord wsX9_findLoopWord) := goodIn_app (goodIn_of _ (by decide +kernel)) ggX10_isLoopState_X9_findLoopWord
theorem dX10_isLoopState_0 : decode cX10_isLoopState 0 = .ok (.aload_n 0, 1) := by decide +kernel
theorem dX10_isLoopState_1 : decode cX10_isLoopState 1 = .ok (.getfield 12, 3) := by decide +kernel
theorem dX10_isLoopState_4 : decode cX10_isLoopState 4 = .ok (.iload_n 1, 1) := by decide +kernel
theorem dX10_isLoopState_5 : decode cX10_isLoopState 5 = .ok (.invokevirtual 114, 3) := by decide +kernel
theorem dX10_isLoopState_8 : decode cX10_isLoopState 8 = .ok (.ifCond .ne 5, 3) := by decide +kernel
theorem dX10_isLoopState_11 : decode cX10_isLoopState 11 = .ok (.iconst (-1), 1) := by decide +kernel
theorem dX10_isLoopState_12 : decode cX10_isLoopState 12 = .ok (.ireturn, 1) := by decide +kernel
theorem dX10_isLoopState_13 : decode cX10_isLoopState 13 = .ok (.aload_n 0, 1) := by decide +kernel
theorem dX10_isLoopState_14 : decode cX10_isLoopState 14 = .ok (.invokevirtual 194, 3) := by decide +kernel
theorem dX10_isLoopState_17 : decode cX10_isLoopState 17 = .ok (.iload_n 1, 1) := by decide +kernel
theorem dX10_isLoopState_18 : decode cX10_isLoopState 18 = .ok (.invokevirtual 217, 3) := by decide +kernel
theorem dX10_isLoopState_21 : decode cX10_isLoopState 21 = .ok (.ifCond .eq 7, 3) := by decide +kernel
theorem dX10_isLoopState_24 : decode cX10_isLoopState 24 = .ok (.iconst 1, 1) := by decide +kernel
theorem dX10_isLoopState_25 : decode cX10_isLoopState 25 = .ok (.goto 4, 3) := by decide +kernel
theorem dX10_isLoopState_28 : decode cX10_isLoopState 28 = .ok (.iconst 0, 1) := by decide +kernel
theorem dX10_isLoopState_29 : decode cX10_isLoopState 29 = .ok (.ireturn, 1) := by decide +kernel
set_option maxRecDepth 20000 in
theorem ggX10_isSplitPair_X0_hasState : GoodIn wsX10_isSplitPair wsX0_hasState := goodIn_r _ [6, 7, 138, 139, 140, 141] (by decide +kernel) (by decide +kernel)
set_option maxRecDepth 20000 in
theorem gX10_isSplitPair_X0_hasState : GoodIn wsX10_isSplitPair (wsV RX10 114 RX0 yX0_hasState wsX0_hasState) := goodIn_app (goodIn_of _ (by decide +kernel)) ggX10_isSplitPair_X0_hasState
set_option maxRecDepth 20000 in
theorem ggX10_isSplitPair_X10_freshSearch : GoodIn wsX10_isSplitPair wsX10_freshSearch := goodIn_r _ [12, 13, 1, 14, 15, 16, 17, 18, 19, 20, 21, 22, 23, 24, 25, 26, 27, 28, 29, 30, 31, 32, 33, 34, 5, 35, 7, 36, 37, 38, 39, 40, 41, 42, 43, 11, 44, 45, 46, 47, 48, 49, 50, 51, 52, 53, 54, 55, 56, 57, 58, 59, 60, 61, 62, 63, 64, 65, 120, 121, 122, 123, 124, 125, 126, 127, 128, 129, 130, 131, 132, 133, 134, 135, 136, 137, 142, 143, 144, 145, 146, 147, 148, 149, 150, 151, 152, 153, 154, 138, 139, 140, 141, 155, 156] (by decide +kernel) (by decide +kernel)
set_option maxRecDepth 20000 in
theorem gX10_isSplitPair_X10_freshSearch : GoodIn wsX10_isSplitPair (wsV RX10 194 RX10 yX10_freshSearch wsX10_freshSearch) := goodIn_app (goodIn_of _ (by decide +kernel)) ggX10_isSplitPair_X10_freshSearch
set_option maxRecDepth 20000 in
theorem ggX10_isSplitPair_X9_findSplitWord : GoodIn wsX10_isSplitPair wsX9_findSplitWord := goodIn_r _ [69, 70, 71, 72, 26, 55, 11, 56, 73, 74, 75, 17, 76, 77, 78, 79, 80, 81, 82, 83, 84, 85, 86, 87, 88, 89, 90, 91, 92, 93, 94, 95, 96, 97, 98, 99, 100, 25, 101, 102, 103, 104, 105, 106, 107, 108, 109, 110, 111, 19, 112, 113, 114, 30, 115, 41, 116, 117, 118, 119, 42, 142, 143, 144, 145, 146, 147, 148, 149, 150, 151, 152, 153, 154, 155, 156] (by decide +kernel) (by decide +kernel)
set_option maxRecDepth 20000 in
theorem gX10_isSplitPair_X9_findSplitWord : GoodIn wsX10_isSplitPair (wsV RX10 220 RX9 yX9_findSplitWord wsX9_findSplitWord) := goodIn_app (goodIn_of _ (by decide +kernel)) ggX10_isSplitPair_X9_findSplitWord
theorem dX10_isSplitPair_0 : decode cX10_isSplitPair 0 = .ok (.aload_n 0, 1) := by decide +kernel
theorem dX10_isSplitPair_1 : decode cX10_isSplitPair 1 = .ok (.getfield 12, 3) := by decide +kernel
theorem dX10_isSplitPair_4 : decode cX10_isSplitPair 4 = .ok (.iload_n 1, 1) := by decide +kernel
theorem dX10_isSplitPair_5 : decode cX10_isSplitPair 5 = .ok (.invokevirtual 114, 3) := by decide +kernel
theorem dX10_isSplitPair_8 : decode cX10_isSplitPair 8 = .ok (.ifCond .eq 14, 3) := by decide +kernel
theorem dX10_isSplitPair_11 : decode cX10_isSplitPair 11 = .ok (.aload_n 0, 1) := by decide +kernel
theorem dX10_isSplitPair_12 : decode cX10_isSplitPair 12 = .ok (.getfield 12, 3) := by decide +kernel
theorem dX10_isSplitPair_15 : decode cX10_isSplitPair 15 = .ok (.iload_n 2, 1) := by decide +kernel
theorem dX10_isSplitPair_16 : decode cX10_isSplitPair 16 = .ok (.invokevirtual 114, 3) := by decide +kernel
theorem dX10_isSplitPair_19 : decode cX10_isSplitPair 19 = .ok (.ifCond .ne 5, 3) := by decide +kernel
theorem dX10_isSplitPair_22 : decode cX10_isSplitPair 22 = .ok (.iconst (-1), 1) := by decide +kernel
theorem dX10_isSplitPair_23 : decode cX10_isSplitPair 23 = .ok (.ireturn, 1) := by decide +kernel
theorem dX10_isSplitPair_24 : decode cX10_isSplitPair 24 = .ok (.aload_n 0, 1) := by decide +kernel
theorem dX10_isSplitPair_25 : decode cX10_isSplitPair 25 = .ok (.invokevirtual 194, 3) := by decide +kernel
theorem dX10_isSplitPair_28 : decode cX10_isSplitPair 28 = .ok (.iload_n 1, 1) := by decide +kernel
theorem dX10_isSplitPair_29 : decode cX10_isSplitPair 29 = .ok (.iload_n 2, 1) := by decide +kernel
theorem dX10_isSplitPair_30 : decode cX10_isSplitPair 30 = .ok (.invokevirtual 220, 3) := by decide +kernel
theorem dX10_isSplitPair_33 : decode cX10_isSplitPair 33 = .ok (.ifCond .eq 7, 3) := by decide +kernel
theorem dX10_isSplitPair_36 : decode cX10_isSplitPair 36 = .ok (.iconst 1, 1) := by decide +kernel
theorem dX10_isSplitPair_37 : decode cX10_isSplitPair 37 = .ok (.goto 4, 3) := by decide +kernel
theorem dX10_isSplitPair_40 : decode cX10_isSplitPair 40 = .ok (.iconst 0, 1) := by decide +kernel
theorem dX10_isSplitPair_41 : decode cX10_isSplitPair 41 = .ok (.ireturn, 1) := by decide +kernel
set_option maxRecDepth 20000 in
theorem ggX10_witnessState_X10_freshSearch : GoodIn wsX10_witnessState wsX10_freshSearch := goodIn_r _ [5, 6, 7, 8, 9, 10, 11, 12, 13, 14, 15, 16, 17, 18, 19, 20, 21, 22, 23, 24, 25, 26, 27, 28, 29, 30, 31, 32, 33, 34, 35, 36, 37, 38, 39, 4, 40, 41, 42, 43, 44, 45, 46, 47, 48, 49, 50, 51, 52, 53, 54, 55, 56, 57, 58, 59, 60, 61, 128, 129, 130, 131, 132, 133, 134, 135, 136, 137, 138, 139, 140, 141, 142, 143, 144, 145, 146, 147, 148, 149, 150, 151, 152, 153, 154, 155, 156, 157, 158, 159, 160, 161, 162, 163, 164] (by decide +kernel) (by decide +kernel)
set_option maxRecDepth 20000 in
theorem gX10_witnessState_X10_freshSearch : GoodIn wsX10_witnessState (wsV RX10 194 RX10 yX10_freshSearch wsX10_freshSearch) := goodIn_app (goodIn_of _ (by decide +kernel)) ggX10_witnessState_X10_freshSearch
set_option maxRecDepth 20000 in
theorem ggX10_witnessState_X9_lowestLoopState : GoodIn wsX10_witnessState wsX9_lowestLoopState := goodIn_r _ [65, 15, 66, 67, 68, 11, 69, 70, 71, 20, 51, 4, 52, 72, 73, 74, 75, 76, 77, 78, 79, 80, 81, 82, 83, 84, 85, 86, 87, 88, 89, 90, 91, 92, 93, 94, 95, 96, 97, 98, 99, 100, 19, 101, 102, 103, 104, 105, 106, 107, 108, 109, 110, 111, 13, 112, 113, 114, 24, 115, 37, 116, 117, 118, 119, 38, 146, 147, 148, 149, 150, 151, 152, 153, 154, 155, 156, 157, 158, 163, 164] (by decide +kernel) (by decide +kernel)
set_option maxRecDepth 20000 in
theorem gX10_witnessState_X9_lowestLoopState : GoodIn wsX10_witnessState (wsV RX10 224 RX9 yX9_lowestLoopState wsX9_lowestLoopState) := goodIn_app (goodIn_of _ (by decide +kernel)) ggX10_witnessState_X9_lowestLoopState
set_option maxRecDepth 20000 in
theorem ggX10_witnessState_X9_firstSplitPair : GoodIn wsX10_witnessState wsX9_firstSplitPair := goodIn_r _ [123, 15, 124, 125, 126, 11, 127, 70, 71, 100, 20, 51, 4, 52, 72, 73, 74, 75, 76, 77, 78, 79, 80, 81, 82, 83, 84, 85, 86, 87, 88, 89, 90, 91, 92, 93, 94, 95, 96, 97, 98, 99, 19, 101, 102, 103, 104, 105, 106, 107, 108, 109, 110, 111, 13, 112, 113, 114, 24, 115, 37, 116, 117, 118, 119, 38, 146, 147, 148, 149, 150, 151, 152, 153, 154, 155, 156, 157, 158, 163, 164] (by decide +kernel) (by decide +kernel)
set_option maxRecDepth 20000 in
theorem gX10_witnessState_X9_firstSplitPair : GoodIn wsX10_witnessState (wsV RX10 227 RX9 yX9_firstSplitPair wsX9_firstSplitPair) := goodIn_app (goodIn_of _ (by decide +kernel)) ggX10_witnessState_X9_firstSplitPair
theorem dX10_witnessState_0 : decode cX10_witnessState 0 = .ok (.iload_n 1, 1) := by decide +kernel
theorem dX10_witnessState_1 : decode cX10_witnessState 1 = .ok (.iconst 1, 1) := by decide +kernel
theorem dX10_witnessState_2 : decode cX10_witnessState 2 = .ok (.if_icmp .eq 10, 3) := by decide +kernel
theorem dX10_witnessState_5 : decode cX10_witnessState 5 = .ok (.iload_n 1, 1) := by decide +kernel
theorem dX10_witnessState_6 : decode cX10_witnessState 6 = .ok (.iconst 2, 1) := by decide +kernel
theorem dX10_witnessState_7 : decode cX10_witnessState 7 = .ok (.if_icmp .eq 5, 3) := by decide +kernel
theorem dX10_witnessState_10 : decode cX10_witnessState 10 = .ok (.iconst (-1), 1) := by decide +kernel
theorem dX10_witnessState_11 : decode cX10_witnessState 11 = .ok (.ireturn, 1) := by decide +kernel
theorem dX10_witnessState_12 : decode cX10_witnessState 12 = .ok (.aload_n 0, 1) := by decide +kernel
theorem dX10_witnessState_13 : decode cX10_witnessState 13 = .ok (.invokevirtual 194, 3) := by decide +kernel
theorem dX10_witnessState_16 : decode cX10_witnessState 16 = .ok (.astore_n 2, 1) := by decide +kernel
theorem dX10_witnessState_17 : decode cX10_witnessState 17 = .ok (.iload_n 1, 1) := by decide +kernel
theorem dX10_witnessState_18 : decode cX10_witnessState 18 = .ok (.iconst 1, 1) := by decide +kernel
theorem dX10_witnessState_19 : decode cX10_witnessState 19 = .ok (.if_icmp .ne 10, 3) := by decide +kernel
theorem dX10_witnessState_22 : decode cX10_witnessState 22 = .ok (.aload_n 2, 1) := by decide +kernel
theorem dX10_witnessState_23 : decode cX10_witnessState 23 = .ok (.invokevirtual 224, 3) := by decide +kernel
theorem dX10_witnessState_26 : decode cX10_witnessState 26 = .ok (.goto 7, 3) := by decide +kernel
theorem dX10_witnessState_29 : decode cX10_witnessState 29 = .ok (.aload_n 2, 1) := by decide +kernel
theorem dX10_witnessState_30 : decode cX10_witnessState 30 = .ok (.invokevirtual 227, 3) := by decide +kernel
theorem dX10_witnessState_33 : decode cX10_witnessState 33 = .ok (.istore_n 3, 1) := by decide +kernel
theorem dX10_witnessState_34 : decode cX10_witnessState 34 = .ok (.iload_n 3, 1) := by decide +kernel
theorem dX10_witnessState_35 : decode cX10_witnessState 35 = .ok (.iconst (-1), 1) := by decide +kernel
theorem dX10_witnessState_36 : decode cX10_witnessState 36 = .ok (.if_icmp .ne 8, 3) := by decide +kernel
theorem dX10_witnessState_39 : decode cX10_witnessState 39 = .ok (.bipush (-4), 2) := by decide +kernel
theorem dX10_witnessState_41 : decode cX10_witnessState 41 = .ok (.goto 4, 3) := by decide +kernel
theorem dX10_witnessState_44 : decode cX10_witnessState 44 = .ok (.iload_n 3, 1) := by decide +kernel
theorem dX10_witnessState_45 : decode cX10_witnessState 45 = .ok (.ireturn, 1) := by decide +kernel
set_option maxRecDepth 20000 in
theorem ggX10_witnessLength_X10_isWitness : GoodIn wsX10_witnessLength wsX10_isWitness := goodIn_r _ [6] (by decide +kernel) (by decide +kernel)
set_option maxRecDepth 20000 in
theorem gX10_witnessLength_X10_isWitness : GoodIn wsX10_witnessLength (va_wsS RX10 230 yX10_isWitness wsX10_isWitness) := goodIn_app (goodIn_of _ (by decide +kernel)) ggX10_witnessLength_X10_isWitness
set_option maxRecDepth 20000 in
theorem ggX10_witnessLength_X10_findWitness : GoodIn wsX10_witnessLength wsX10_findWitness := goodIn_r _ [10, 11, 12, 13, 1, 14, 15, 16, 17, 18, 19, 20, 21, 22, 23, 24, 25, 26, 27, 28, 29, 30, 31, 32, 33, 5, 34, 35, 36, 37, 38, 39, 40, 41, 42, 43, 44, 45, 46, 47, 48, 49, 50, 51, 52, 53, 54, 55, 56, 57, 58, 59, 60, 61, 62, 63, 64, 65, 66, 67, 68, 69, 70, 71, 72, 73, 74, 75, 76, 77, 78, 79, 80, 81, 82, 83, 84, 85, 86, 87, 88, 89, 90, 91, 92, 93, 94, 95, 96, 97, 98, 99, 100, 101, 102, 103, 104, 105, 106, 107, 108, 109, 110, 111, 112, 113, 114, 115, 116, 117, 118, 119, 120, 121, 122, 123, 124, 125, 126, 127, 128, 129, 130, 131, 132, 133, 134, 135, 136, 137, 138, 139, 140, 141, 142, 143, 144, 145, 146, 147, 148, 149, 150, 151, 152, 153, 154, 155, 156, 157, 158, 159, 160, 161, 162, 163, 164, 165, 166, 167, 168, 169, 170, 171, 172, 173, 174, 175, 176, 177, 178, 179, 180, 181, 182, 183, 184, 185, 186, 187, 188, 189, 190, 191, 192, 193, 194, 195, 196, 197, 198, 199, 200, 201, 202, 203, 204, 205, 206, 207, 208, 209, 210, 211, 212, 213, 214, 215, 216, 217, 218, 219, 222, 223, 224, 225, 220, 221, 226, 227, 228, 229, 230, 231, 232, 233, 234, 235, 236, 237, 238, 239, 240, 241] (by decide +kernel) (by decide +kernel)
set_option maxRecDepth 20000 in
theorem gX10_witnessLength_X10_findWitness : GoodIn wsX10_witnessLength (wsV RX10 233 RX10 yX10_findWitness wsX10_findWitness) := goodIn_app (goodIn_of _ (by decide +kernel)) ggX10_witnessLength_X10_findWitness
theorem dX10_witnessLength_0 : decode cX10_witnessLength 0 = .ok (.iload_n 1, 1) := by decide +kernel
theorem dX10_witnessLength_1 : decode cX10_witnessLength 1 = .ok (.invokestatic 230, 3) := by decide +kernel
theorem dX10_witnessLength_4 : decode cX10_witnessLength 4 = .ok (.ifCond .ne 5, 3) := by decide +kernel
theorem dX10_witnessLength_7 : decode cX10_witnessLength 7 = .ok (.iconst (-1), 1) := by decide +kernel
theorem dX10_witnessLength_8 : decode cX10_witnessLength 8 = .ok (.ireturn, 1) := by decide +kernel
theorem dX10_witnessLength_9 : decode cX10_witnessLength 9 = .ok (.aload_n 0, 1) := by decide +kernel
theorem dX10_witnessLength_10 : decode cX10_witnessLength 10 = .ok (.iload_n 1, 1) := by decide +kernel
theorem dX10_witnessLength_11 : decode cX10_witnessLength 11 = .ok (.invokevirtual 233, 3) := by decide +kernel
theorem dX10_witnessLength_14 : decode cX10_witnessLength 14 = .ok (.ifCond .eq 13, 3) := by decide +kernel
theorem dX10_witnessLength_17 : decode cX10_witnessLength 17 = .ok (.aload_n 0, 1) := by decide +kernel
theorem dX10_witnessLength_18 : decode cX10_witnessLength 18 = .ok (.getfield 40, 3) := by decide +kernel
theorem dX10_witnessLength_21 : decode cX10_witnessLength 21 = .ok (.getfield 158, 3) := by decide +kernel
theorem dX10_witnessLength_24 : decode cX10_witnessLength 24 = .ok (.goto 5, 3) := by decide +kernel
theorem dX10_witnessLength_27 : decode cX10_witnessLength 27 = .ok (.bipush (-4), 2) := by decide +kernel
theorem dX10_witnessLength_29 : decode cX10_witnessLength 29 = .ok (.ireturn, 1) := by decide +kernel
set_option maxRecDepth 20000 in
theorem ggX10_witnessLetter_X10_isWitness : GoodIn wsX10_witnessLetter wsX10_isWitness := goodIn_r _ [5] (by decide +kernel) (by decide +kernel)
set_option maxRecDepth 20000 in
theorem gX10_witnessLetter_X10_isWitness : GoodIn wsX10_witnessLetter (va_wsS RX10 230 yX10_isWitness wsX10_isWitness) := goodIn_app (goodIn_of _ (by decide +kernel)) ggX10_witnessLetter_X10_isWitness
set_option maxRecDepth 20000 in
theorem ggX10_witnessLetter_X10_findWitness : GoodIn wsX10_witnessLetter wsX10_findWitness := goodIn_r _ [9, 10, 11, 12, 1, 13, 14, 15, 16, 17, 18, 19, 20, 21, 22, 23, 24, 25, 26, 27, 28, 29, 30, 31, 32, 4, 33, 34, 35, 36, 37, 38, 39, 40, 41, 42, 43, 44, 45, 46, 47, 48, 49, 50, 51, 52, 53, 54, 55, 56, 57, 58, 59, 60, 61, 62, 63, 64, 65, 66, 67, 68, 69, 70, 71, 72, 73, 74, 75, 76, 77, 78, 79, 80, 81, 82, 83, 84, 85, 86, 87, 88, 89, 90, 91, 92, 93, 94, 95, 96, 97, 98, 99, 100, 101, 102, 103, 104, 105, 106, 107, 108, 109, 110, 111, 112, 113, 114, 115, 116, 117, 118, 119, 120, 121, 122, 123, 124, 125, 126, 127, 128, 129, 130, 131, 132, 133, 134, 135, 136, 137, 138, 139, 140, 141, 142, 143, 144, 145, 146, 147, 148, 149, 150, 151, 152, 153, 154, 155, 156, 157, 158, 159, 160, 161, 162, 163, 164, 165, 166, 167, 168, 169, 170, 171, 172, 173, 174, 175, 176, 177, 178, 179, 180, 181, 182, 183, 184, 185, 186, 187, 188, 189, 190, 191, 192, 193, 194, 195, 196, 197, 198, 199, 200, 206, 207, 208, 209, 210, 211, 212, 213, 214, 215, 216, 217, 218, 219, 220, 221, 222, 223, 224, 225, 226, 227, 228, 229, 230, 231, 232, 233, 234, 235, 236, 237, 238, 239, 240, 241, 242, 243, 244, 245] (by decide +kernel) (by decide +kernel)
set_option maxRecDepth 20000 in
theorem gX10_witnessLetter_X10_findWitness : GoodIn wsX10_witnessLetter (wsV RX10 233 RX10 yX10_findWitness wsX10_findWitness) := goodIn_app (goodIn_of _ (by decide +kernel)) ggX10_witnessLetter_X10_findWitness
set_option maxRecDepth 20000 in
theorem ggX10_witnessLetter_X8_hasPosition : GoodIn wsX10_witnessLetter wsX8_hasPosition := goodIn_r _ [73, 64, 65, 228, 229] (by decide +kernel) (by decide +kernel)
set_option maxRecDepth 20000 in
theorem gX10_witnessLetter_X8_hasPosition : GoodIn wsX10_witnessLetter (wsV RX10 161 RX8 yX8_hasPosition wsX8_hasPosition) := goodIn_app (goodIn_of _ (by decide +kernel)) ggX10_witnessLetter_X8_hasPosition
set_option maxRecDepth 20000 in
theorem ggX10_witnessLetter_X8_letterAt : GoodIn wsX10_witnessLetter wsX8_letterAt := goodIn_r _ [205, 65, 70, 71, 72, 62, 73, 64, 228, 229] (by decide +kernel) (by decide +kernel)
set_option maxRecDepth 20000 in
theorem gX10_witnessLetter_X8_letterAt : GoodIn wsX10_witnessLetter (wsV RX10 164 RX8 yX8_letterAt wsX8_letterAt) := goodIn_app (goodIn_of _ (by decide +kernel)) ggX10_witnessLetter_X8_letterAt
theorem dX10_witnessLetter_0 : decode cX10_witnessLetter 0 = .ok (.iload_n 1, 1) := by decide +kernel
theorem dX10_witnessLetter_1 : decode cX10_witnessLetter 1 = .ok (.invokestatic 230, 3) := by decide +kernel
theorem dX10_witnessLetter_4 : decode cX10_witnessLetter 4 = .ok (.ifCond .ne 5, 3) := by decide +kernel
theorem dX10_witnessLetter_7 : decode cX10_witnessLetter 7 = .ok (.iconst (-1), 1) := by decide +kernel
theorem dX10_witnessLetter_8 : decode cX10_witnessLetter 8 = .ok (.ireturn, 1) := by decide +kernel
theorem dX10_witnessLetter_9 : decode cX10_witnessLetter 9 = .ok (.aload_n 0, 1) := by decide +kernel
theorem dX10_witnessLetter_10 : decode cX10_witnessLetter 10 = .ok (.iload_n 1, 1) := by decide +kernel
theorem dX10_witnessLetter_11 : decode cX10_witnessLetter 11 = .ok (.invokevirtual 233, 3) := by decide +kernel
theorem dX10_witnessLetter_14 : decode cX10_witnessLetter 14 = .ok (.ifCond .eq 14, 3) := by decide +kernel
theorem dX10_witnessLetter_17 : decode cX10_witnessLetter 17 = .ok (.aload_n 0, 1) := by decide +kernel
theorem dX10_witnessLetter_18 : decode cX10_witnessLetter 18 = .ok (.getfield 40, 3) := by decide +kernel
theorem dX10_witnessLetter_21 : decode cX10_witnessLetter 21 = .ok (.iload_n 2, 1) := by decide +kernel
theorem dX10_witnessLetter_22 : decode cX10_witnessLetter 22 = .ok (.invokevirtual 161, 3) := by decide +kernel
theorem dX10_witnessLetter_25 : decode cX10_witnessLetter 25 = .ok (.ifCond .ne 6, 3) := by decide +kernel
theorem dX10_witnessLetter_28 : decode cX10_witnessLetter 28 = .ok (.bipush (-4), 2) := by decide +kernel
theorem dX10_witnessLetter_30 : decode cX10_witnessLetter 30 = .ok (.ireturn, 1) := by decide +kernel
theorem dX10_witnessLetter_31 : decode cX10_witnessLetter 31 = .ok (.aload_n 0, 1) := by decide +kernel
theorem dX10_witnessLetter_32 : decode cX10_witnessLetter 32 = .ok (.getfield 40, 3) := by decide +kernel
theorem dX10_witnessLetter_35 : decode cX10_witnessLetter 35 = .ok (.iload_n 2, 1) := by decide +kernel
theorem dX10_witnessLetter_36 : decode cX10_witnessLetter 36 = .ok (.invokevirtual 164, 3) := by decide +kernel
theorem dX10_witnessLetter_39 : decode cX10_witnessLetter 39 = .ok (.ireturn, 1) := by decide +kernel
set_option maxRecDepth 20000 in
theorem ggX10_takeWitness_X10_isWitness : GoodIn wsX10_takeWitness wsX10_isWitness := goodIn_r _ [7] (by decide +kernel) (by decide +kernel)
set_option maxRecDepth 20000 in
theorem gX10_takeWitness_X10_isWitness : GoodIn wsX10_takeWitness (va_wsS RX10 230 yX10_isWitness wsX10_isWitness) := goodIn_app (goodIn_of _ (by decide +kernel)) ggX10_takeWitness_X10_isWitness
set_option maxRecDepth 20000 in
theorem ggX10_takeWitness_X10_findWitness : GoodIn wsX10_takeWitness wsX10_findWitness := goodIn_r _ [11, 12, 13, 14, 1, 15, 16, 17, 18, 19, 20, 21, 22, 23, 24, 25, 26, 27, 28, 29, 30, 31, 32, 33, 34, 6, 35, 36, 37, 38, 39, 40, 41, 42, 43, 44, 45, 46, 47, 48, 49, 50, 51, 52, 53, 54, 55, 56, 57, 58, 59, 60, 61, 62, 63, 64, 65, 66, 67, 68, 69, 70, 71, 72, 73, 74, 75, 76, 77, 78, 79, 80, 81, 82, 83, 84, 85, 86, 87, 88, 89, 90, 91, 92, 93, 94, 95, 96, 97, 98, 99, 100, 101, 102, 103, 104, 105, 106, 107, 108, 109, 110, 111, 112, 113, 114, 115, 116, 117, 118, 119, 120, 121, 122, 123, 124, 125, 126, 127, 128, 129, 130, 131, 132, 133, 134, 135, 136, 137, 138, 139, 140, 141, 142, 143, 144, 145, 146, 147, 148, 149, 150, 151, 152, 153, 154, 155, 156, 157, 158, 159, 160, 161, 162, 163, 164, 165, 166, 167, 168, 169, 170, 171, 172, 173, 174, 175, 176, 177, 178, 179, 180, 181, 182, 183, 184, 185, 186, 187, 188, 189, 190, 191, 192, 193, 194, 195, 196, 197, 198, 199, 200, 201, 202, 211, 212, 213, 214, 215, 216, 217, 218, 219, 220, 221, 222, 223, 224, 225, 226, 227, 228, 231, 232, 233, 234, 229, 230, 235, 236, 237, 238, 239, 240, 241, 242, 243, 244, 245, 246, 247, 248, 249, 250] (by decide +kernel) (by decide +kernel)
set_option maxRecDepth 20000 in
theorem gX10_takeWitness_X10_findWitness : GoodIn wsX10_takeWitness (wsV RX10 233 RX10 yX10_findWitness wsX10_findWitness) := goodIn_app (goodIn_of _ (by decide +kernel)) ggX10_takeWitness_X10_findWitness
set_option maxRecDepth 20000 in
theorem ggX10_takeWitness_X8_copyFrom : GoodIn wsX10_takeWitness wsX8_copyFrom := goodIn_r _ [206, 66, 207, 208, 209, 64, 210, 67, 72, 73, 74, 75, 68, 69, 70, 71, 229, 230] (by decide +kernel) (by decide +kernel)
set_option maxRecDepth 20000 in
theorem gX10_takeWitness_X8_copyFrom : GoodIn wsX10_takeWitness (wsV RX10 236 RX8 yX8_copyFrom wsX8_copyFrom) := goodIn_app (goodIn_of _ (by decide +kernel)) ggX10_takeWitness_X8_copyFrom
theorem dX10_takeWitness_0 : decode cX10_takeWitness 0 = .ok (.iload_n 1, 1) := by decide +kernel
theorem dX10_takeWitness_1 : decode cX10_takeWitness 1 = .ok (.invokestatic 230, 3) := by decide +kernel
theorem dX10_takeWitness_4 : decode cX10_takeWitness 4 = .ok (.ifCond .ne 5, 3) := by decide +kernel
theorem dX10_takeWitness_7 : decode cX10_takeWitness 7 = .ok (.iconst (-1), 1) := by decide +kernel
theorem dX10_takeWitness_8 : decode cX10_takeWitness 8 = .ok (.ireturn, 1) := by decide +kernel
theorem dX10_takeWitness_9 : decode cX10_takeWitness 9 = .ok (.aload_n 0, 1) := by decide +kernel
theorem dX10_takeWitness_10 : decode cX10_takeWitness 10 = .ok (.iload_n 1, 1) := by decide +kernel
theorem dX10_takeWitness_11 : decode cX10_takeWitness 11 = .ok (.invokevirtual 233, 3) := by decide +kernel
theorem dX10_takeWitness_14 : decode cX10_takeWitness 14 = .ok (.ifCond .ne 6, 3) := by decide +kernel
theorem dX10_takeWitness_17 : decode cX10_takeWitness 17 = .ok (.bipush (-4), 2) := by decide +kernel
theorem dX10_takeWitness_19 : decode cX10_takeWitness 19 = .ok (.ireturn, 1) := by decide +kernel
theorem dX10_takeWitness_20 : decode cX10_takeWitness 20 = .ok (.aload_n 0, 1) := by decide +kernel
theorem dX10_takeWitness_21 : decode cX10_takeWitness 21 = .ok (.getfield 40, 3) := by decide +kernel
theorem dX10_takeWitness_24 : decode cX10_takeWitness 24 = .ok (.getfield 158, 3) := by decide +kernel
theorem dX10_takeWitness_27 : decode cX10_takeWitness 27 = .ok (.bipush 20, 2) := by decide +kernel
theorem dX10_takeWitness_29 : decode cX10_takeWitness 29 = .ok (.if_icmp .le 6, 3) := by decide +kernel
theorem dX10_takeWitness_32 : decode cX10_takeWitness 32 = .ok (.bipush (-3), 2) := by decide +kernel
theorem dX10_takeWitness_34 : decode cX10_takeWitness 34 = .ok (.ireturn, 1) := by decide +kernel
theorem dX10_takeWitness_35 : decode cX10_takeWitness 35 = .ok (.aload_n 0, 1) := by decide +kernel
theorem dX10_takeWitness_36 : decode cX10_takeWitness 36 = .ok (.getfield 36, 3) := by decide +kernel
theorem dX10_takeWitness_39 : decode cX10_takeWitness 39 = .ok (.aload_n 0, 1) := by decide +kernel
theorem dX10_takeWitness_40 : decode cX10_takeWitness 40 = .ok (.getfield 40, 3) := by decide +kernel
theorem dX10_takeWitness_43 : decode cX10_takeWitness 43 = .ok (.invokevirtual 236, 3) := by decide +kernel
theorem dX10_takeWitness_46 : decode cX10_takeWitness 46 = .ok (.aload_n 0, 1) := by decide +kernel
theorem dX10_takeWitness_47 : decode cX10_takeWitness 47 = .ok (.getfield 36, 3) := by decide +kernel
theorem dX10_takeWitness_50 : decode cX10_takeWitness 50 = .ok (.getfield 158, 3) := by decide +kernel
theorem dX10_takeWitness_53 : decode cX10_takeWitness 53 = .ok (.ireturn, 1) := by decide +kernel
set_option maxRecDepth 20000 in
theorem ggX10_setWeight_X10_isLetter : GoodIn wsX10_setWeight wsX10_isLetter := goodIn_r _ [5] (by decide +kernel) (by decide +kernel)
set_option maxRecDepth 20000 in
theorem gX10_setWeight_X10_isLetter : GoodIn wsX10_setWeight (va_wsS RX10 128 yX10_isLetter wsX10_isLetter) := goodIn_app (goodIn_of _ (by decide +kernel)) ggX10_setWeight_X10_isLetter
theorem dX10_setWeight_0 : decode cX10_setWeight 0 = .ok (.iload_n 1, 1) := by decide +kernel
theorem dX10_setWeight_1 : decode cX10_setWeight 1 = .ok (.invokestatic 128, 3) := by decide +kernel
theorem dX10_setWeight_4 : decode cX10_setWeight 4 = .ok (.ifCond .ne 5, 3) := by decide +kernel
theorem dX10_setWeight_7 : decode cX10_setWeight 7 = .ok (.iconst (-1), 1) := by decide +kernel
theorem dX10_setWeight_8 : decode cX10_setWeight 8 = .ok (.ireturn, 1) := by decide +kernel
theorem dX10_setWeight_9 : decode cX10_setWeight 9 = .ok (.iload_n 2, 1) := by decide +kernel
theorem dX10_setWeight_10 : decode cX10_setWeight 10 = .ok (.ifCond .lt 9, 3) := by decide +kernel
theorem dX10_setWeight_13 : decode cX10_setWeight 13 = .ok (.iload_n 2, 1) := by decide +kernel
theorem dX10_setWeight_14 : decode cX10_setWeight 14 = .ok (.bipush 100, 2) := by decide +kernel
theorem dX10_setWeight_16 : decode cX10_setWeight 16 = .ok (.if_icmp .le 6, 3) := by decide +kernel
theorem dX10_setWeight_19 : decode cX10_setWeight 19 = .ok (.bipush (-2), 2) := by decide +kernel
theorem dX10_setWeight_21 : decode cX10_setWeight 21 = .ok (.ireturn, 1) := by decide +kernel
theorem dX10_setWeight_22 : decode cX10_setWeight 22 = .ok (.aload_n 0, 1) := by decide +kernel
theorem dX10_setWeight_23 : decode cX10_setWeight 23 = .ok (.getfield 19, 3) := by decide +kernel
theorem dX10_setWeight_26 : decode cX10_setWeight 26 = .ok (.iload_n 1, 1) := by decide +kernel
theorem dX10_setWeight_27 : decode cX10_setWeight 27 = .ok (.iaload, 1) := by decide +kernel
theorem dX10_setWeight_28 : decode cX10_setWeight 28 = .ok (.istore_n 3, 1) := by decide +kernel
theorem dX10_setWeight_29 : decode cX10_setWeight 29 = .ok (.aload_n 0, 1) := by decide +kernel
theorem dX10_setWeight_30 : decode cX10_setWeight 30 = .ok (.getfield 19, 3) := by decide +kernel
theorem dX10_setWeight_33 : decode cX10_setWeight 33 = .ok (.iload_n 1, 1) := by decide +kernel
theorem dX10_setWeight_34 : decode cX10_setWeight 34 = .ok (.iload_n 2, 1) := by decide +kernel
theorem dX10_setWeight_35 : decode cX10_setWeight 35 = .ok (.iastore, 1) := by decide +kernel
theorem dX10_setWeight_36 : decode cX10_setWeight 36 = .ok (.iload_n 3, 1) := by decide +kernel
theorem dX10_setWeight_37 : decode cX10_setWeight 37 = .ok (.ireturn, 1) := by decide +kernel
set_option maxRecDepth 20000 in
theorem ggX10_lightestWeight_X10_findWitness : GoodIn wsX10_lightestWeight wsX10_findWitness := goodIn_r _ [8, 9, 10, 3, 1, 11, 12, 13, 14, 15, 16, 17, 18, 19, 20, 21, 22, 23, 24, 25, 26, 27, 28, 29, 30, 7, 31, 32, 33, 34, 35, 36, 37, 38, 39, 40, 41, 42, 43, 44, 45, 46, 47, 48, 49, 50, 51, 52, 53, 54, 55, 56, 57, 58, 59, 60, 61, 62, 63, 64, 65, 66, 67, 68, 69, 70, 71, 72, 73, 74, 75, 76, 77, 78, 79, 80, 81, 82, 83, 84, 85, 86, 87, 88, 89, 90, 91, 92, 93, 94, 95, 96, 97, 98, 99, 100, 101, 102, 103, 104, 105, 106, 107, 108, 109, 110, 111, 112, 113, 114, 115, 116, 117, 118, 119, 120, 121, 122, 123, 124, 125, 126, 127, 128, 129, 130, 131, 132, 133, 134, 135, 136, 137, 138, 139, 140, 141, 142, 143, 144, 145, 146, 147, 148, 149, 150, 151, 152, 153, 154, 155, 156, 157, 158, 159, 160, 161, 162, 163, 164, 165, 166, 167, 168, 169, 170, 171, 172, 173, 174, 175, 176, 177, 178, 179, 180, 181, 182, 183, 184, 185, 186, 187, 188, 189, 190, 191, 192, 193, 194, 195, 196, 197, 198, 204, 205, 206, 207, 208, 209, 210, 211, 212, 213, 214, 215, 216, 217, 218, 219, 220, 221, 224, 225, 226, 227, 222, 223, 228, 229, 230, 231, 232, 233, 234, 235, 236, 237, 238, 239, 240, 241, 242, 243] (by decide +kernel) (by decide +kernel)
set_option maxRecDepth 20000 in
theorem gX10_lightestWeight_X10_findWitness : GoodIn wsX10_lightestWeight (wsV RX10 233 RX10 yX10_findWitness wsX10_findWitness) := goodIn_app (goodIn_of _ (by decide +kernel)) ggX10_lightestWeight_X10_findWitness
set_option maxRecDepth 20000 in
theorem ggX10_lightestWeight_X8_letterAt : GoodIn wsX10_lightestWeight wsX8_letterAt := goodIn_r _ [202, 63, 68, 69, 70, 60, 71, 62, 222, 223] (by decide +kernel) (by decide +kernel)
set_option maxRecDepth 20000 in
theorem gX10_lightestWeight_X8_letterAt : GoodIn wsX10_lightestWeight (wsV RX10 164 RX8 yX8_letterAt wsX8_letterAt) := goodIn_app (goodIn_of _ (by decide +kernel)) ggX10_lightestWeight_X8_letterAt
set_option maxRecDepth 20000 in
theorem ggX10_lightestWeight_X10_isLetter : GoodIn wsX10_lightestWeight wsX10_isLetter := goodIn_r _ [103] (by decide +kernel) (by decide +kernel)
set_option maxRecDepth 20000 in
theorem gX10_lightestWeight_X10_isLetter : GoodIn wsX10_lightestWeight (va_wsS RX10 128 yX10_isLetter wsX10_isLetter) := goodIn_app (goodIn_of _ (by decide +kernel)) ggX10_lightestWeight_X10_isLetter
theorem dX10_lightestWeight_0 : decode cX10_lightestWeight 0 = .ok (.aload_n 0, 1) := by decide +kernel
theorem dX10_lightestWeight_1 : decode cX10_lightestWeight 1 = .ok (.iconst 3, 1) := by decide +kernel
theorem dX10_lightestWeight_2 : decode cX10_lightestWeight 2 = .ok (.invokevirtual 233, 3) := by decide +kernel
theorem dX10_lightestWeight_5 : decode cX10_lightestWeight 5 = .ok (.ifCond .ne 6, 3) := by decide +kernel
theorem dX10_lightestWeight_8 : decode cX10_lightestWeight 8 = .ok (.bipush (-4), 2) := by decide +kernel
theorem dX10_lightestWeight_10 : decode cX10_lightestWeight 10 = .ok (.ireturn, 1) := by decide +kernel
theorem dX10_lightestWeight_11 : decode cX10_lightestWeight 11 = .ok (.iconst 0, 1) := by decide +kernel
theorem dX10_lightestWeight_12 : decode cX10_lightestWeight 12 = .ok (.istore_n 1, 1) := by decide +kernel
theorem dX10_lightestWeight_13 : decode cX10_lightestWeight 13 = .ok (.iconst 0, 1) := by decide +kernel
theorem dX10_lightestWeight_14 : decode cX10_lightestWeight 14 = .ok (.istore_n 2, 1) := by decide +kernel
theorem dX10_lightestWeight_15 : decode cX10_lightestWeight 15 = .ok (.iload_n 2, 1) := by decide +kernel
theorem dX10_lightestWeight_16 : decode cX10_lightestWeight 16 = .ok (.aload_n 0, 1) := by decide +kernel
theorem dX10_lightestWeight_17 : decode cX10_lightestWeight 17 = .ok (.getfield 40, 3) := by decide +kernel
theorem dX10_lightestWeight_20 : decode cX10_lightestWeight 20 = .ok (.getfield 158, 3) := by decide +kernel
theorem dX10_lightestWeight_23 : decode cX10_lightestWeight 23 = .ok (.if_icmp .ge 38, 3) := by decide +kernel
theorem dX10_lightestWeight_26 : decode cX10_lightestWeight 26 = .ok (.aload_n 0, 1) := by decide +kernel
theorem dX10_lightestWeight_27 : decode cX10_lightestWeight 27 = .ok (.getfield 40, 3) := by decide +kernel
theorem dX10_lightestWeight_30 : decode cX10_lightestWeight 30 = .ok (.iload_n 2, 1) := by decide +kernel
theorem dX10_lightestWeight_31 : decode cX10_lightestWeight 31 = .ok (.invokevirtual 164, 3) := by decide +kernel
theorem dX10_lightestWeight_34 : decode cX10_lightestWeight 34 = .ok (.istore_n 3, 1) := by decide +kernel
theorem dX10_lightestWeight_35 : decode cX10_lightestWeight 35 = .ok (.iload_n 1, 1) := by decide +kernel
theorem dX10_lightestWeight_36 : decode cX10_lightestWeight 36 = .ok (.iload_n 3, 1) := by decide +kernel
theorem dX10_lightestWeight_37 : decode cX10_lightestWeight 37 = .ok (.invokestatic 128, 3) := by decide +kernel
theorem dX10_lightestWeight_40 : decode cX10_lightestWeight 40 = .ok (.ifCond .eq 12, 3) := by decide +kernel
theorem dX10_lightestWeight_43 : decode cX10_lightestWeight 43 = .ok (.aload_n 0, 1) := by decide +kernel
theorem dX10_lightestWeight_44 : decode cX10_lightestWeight 44 = .ok (.getfield 19, 3) := by decide +kernel
theorem dX10_lightestWeight_47 : decode cX10_lightestWeight 47 = .ok (.iload_n 3, 1) := by decide +kernel
theorem dX10_lightestWeight_48 : decode cX10_lightestWeight 48 = .ok (.iaload, 1) := by decide +kernel
theorem dX10_lightestWeight_49 : decode cX10_lightestWeight 49 = .ok (.goto 4, 3) := by decide +kernel
theorem dX10_lightestWeight_52 : decode cX10_lightestWeight 52 = .ok (.iconst 0, 1) := by decide +kernel
theorem dX10_lightestWeight_53 : decode cX10_lightestWeight 53 = .ok (.iadd, 1) := by decide +kernel
theorem dX10_lightestWeight_54 : decode cX10_lightestWeight 54 = .ok (.istore_n 1, 1) := by decide +kernel
theorem dX10_lightestWeight_55 : decode cX10_lightestWeight 55 = .ok (.iinc 2 1, 3) := by decide +kernel
theorem dX10_lightestWeight_58 : decode cX10_lightestWeight 58 = .ok (.goto (-43), 3) := by decide +kernel
theorem dX10_lightestWeight_61 : decode cX10_lightestWeight 61 = .ok (.iload_n 1, 1) := by decide +kernel
theorem dX10_lightestWeight_62 : decode cX10_lightestWeight 62 = .ok (.ireturn, 1) := by decide +kernel
set_option maxRecDepth 20000 in
theorem ggX10_build_X6_load : GoodIn wsX10_build wsX6_load := goodIn_r _ [11, 12, 13, 14, 15, 16, 17, 18, 19, 20, 21, 10, 22, 23, 24, 25, 26, 27, 100, 101, 102, 103, 104, 105] (by decide +kernel) (by decide +kernel)
set_option maxRecDepth 20000 in
theorem gX10_build_X6_load : GoodIn wsX10_build (wsV RX10 180 RX6 yX6_load wsX6_load) := goodIn_app (goodIn_of _ (by decide +kernel)) ggX10_build_X6_load
set_option maxRecDepth 20000 in
theorem ggX10_build_X3_makeSubsets : GoodIn wsX10_build wsX3_makeSubsets := goodIn_r _ [32, 33, 34, 35, 36, 37, 38, 39, 40, 31, 41, 42, 43, 44, 45, 46, 47, 48, 49, 50, 51, 52, 53, 54, 55, 10, 56, 23, 100, 101, 102, 103, 94, 95, 96, 97, 98, 99, 104, 105] (by decide +kernel) (by decide +kernel)
set_option maxRecDepth 20000 in
theorem gX10_build_X3_makeSubsets : GoodIn wsX10_build (wsV RX10 240 RX3 yX3_makeSubsets wsX3_makeSubsets) := goodIn_app (goodIn_of _ (by decide +kernel)) ggX10_build_X3_makeSubsets
set_option maxRecDepth 20000 in
theorem ggX10_build_X3_makeLeastPaths : GoodIn wsX10_build wsX3_makeLeastPaths := goodIn_r _ [60, 61, 33, 34, 35, 38, 39, 40, 31, 41, 42, 37, 43, 62, 26, 63, 64, 65, 66, 67, 68, 69, 70, 48, 49, 50, 51, 52, 36, 71, 72, 73, 74, 75, 13, 14, 15, 16, 17, 18, 53, 54, 55, 10, 56, 23, 100, 101, 102, 103, 94, 95, 96, 97, 98, 99, 104, 105] (by decide +kernel) (by decide +kernel)
set_option maxRecDepth 20000 in
theorem gX10_build_X3_makeLeastPaths : GoodIn wsX10_build (wsV RX10 244 RX3 yX3_makeLeastPaths wsX3_makeLeastPaths) := goodIn_app (goodIn_of _ (by decide +kernel)) ggX10_build_X3_makeLeastPaths
theorem dX10_build_0 : decode cX10_build 0 = .ok (.iload_n 1, 1) := by decide +kernel
theorem dX10_build_1 : decode cX10_build 1 = .ok (.ifCond .eq 10, 3) := by decide +kernel
theorem dX10_build_4 : decode cX10_build 4 = .ok (.iload_n 1, 1) := by decide +kernel
theorem dX10_build_5 : decode cX10_build 5 = .ok (.iconst 1, 1) := by decide +kernel
theorem dX10_build_6 : decode cX10_build 6 = .ok (.if_icmp .eq 5, 3) := by decide +kernel
theorem dX10_build_9 : decode cX10_build 9 = .ok (.iconst (-1), 1) := by decide +kernel
theorem dX10_build_10 : decode cX10_build 10 = .ok (.ireturn, 1) := by decide +kernel
theorem dX10_build_11 : decode cX10_build 11 = .ok (.aload_n 0, 1) := by decide +kernel
theorem dX10_build_12 : decode cX10_build 12 = .ok (.getfield 56, 3) := by decide +kernel
theorem dX10_build_15 : decode cX10_build 15 = .ok (.aload_n 0, 1) := by decide +kernel
theorem dX10_build_16 : decode cX10_build 16 = .ok (.getfield 12, 3) := by decide +kernel
theorem dX10_build_19 : decode cX10_build 19 = .ok (.invokevirtual 180, 3) := by decide +kernel
theorem dX10_build_22 : decode cX10_build 22 = .ok (.iload_n 1, 1) := by decide +kernel
theorem dX10_build_23 : decode cX10_build 23 = .ok (.ifCond .ne 21, 3) := by decide +kernel
theorem dX10_build_26 : decode cX10_build 26 = .ok (.aload_n 0, 1) := by decide +kernel
theorem dX10_build_27 : decode cX10_build 27 = .ok (.getfield 88, 3) := by decide +kernel
theorem dX10_build_30 : decode cX10_build 30 = .ok (.aload_n 0, 1) := by decide +kernel
theorem dX10_build_31 : decode cX10_build 31 = .ok (.getfield 12, 3) := by decide +kernel
theorem dX10_build_34 : decode cX10_build 34 = .ok (.aload_n 0, 1) := by decide +kernel
theorem dX10_build_35 : decode cX10_build 35 = .ok (.getfield 56, 3) := by decide +kernel
theorem dX10_build_38 : decode cX10_build 38 = .ok (.invokevirtual 240, 3) := by decide +kernel
theorem dX10_build_41 : decode cX10_build 41 = .ok (.goto 18, 3) := by decide +kernel
theorem dX10_build_44 : decode cX10_build 44 = .ok (.aload_n 0, 1) := by decide +kernel
theorem dX10_build_45 : decode cX10_build 45 = .ok (.getfield 88, 3) := by decide +kernel
theorem dX10_build_48 : decode cX10_build 48 = .ok (.aload_n 0, 1) := by decide +kernel
theorem dX10_build_49 : decode cX10_build 49 = .ok (.getfield 12, 3) := by decide +kernel
theorem dX10_build_52 : decode cX10_build 52 = .ok (.aload_n 0, 1) := by decide +kernel
theorem dX10_build_53 : decode cX10_build 53 = .ok (.getfield 56, 3) := by decide +kernel
theorem dX10_build_56 : decode cX10_build 56 = .ok (.invokevirtual 244, 3) := by decide +kernel
theorem dX10_build_59 : decode cX10_build 59 = .ok (.istore_n 2, 1) := by decide +kernel
theorem dX10_build_60 : decode cX10_build 60 = .ok (.iload_n 2, 1) := by decide +kernel
theorem dX10_build_61 : decode cX10_build 61 = .ok (.ifCond .ne 6, 3) := by decide +kernel
theorem dX10_build_64 : decode cX10_build 64 = .ok (.bipush (-5), 2) := by decide +kernel
theorem dX10_build_66 : decode cX10_build 66 = .ok (.ireturn, 1) := by decide +kernel
theorem dX10_build_67 : decode cX10_build 67 = .ok (.aload_n 0, 1) := by decide +kernel
theorem dX10_build_68 : decode cX10_build 68 = .ok (.getfield 84, 3) := by decide +kernel
theorem dX10_build_71 : decode cX10_build 71 = .ok (.astore_n 3, 1) := by decide +kernel
theorem dX10_build_72 : decode cX10_build 72 = .ok (.aload_n 0, 1) := by decide +kernel
theorem dX10_build_73 : decode cX10_build 73 = .ok (.aload_n 0, 1) := by decide +kernel
theorem dX10_build_74 : decode cX10_build 74 = .ok (.getfield 88, 3) := by decide +kernel
theorem dX10_build_77 : decode cX10_build 77 = .ok (.putfield 84, 3) := by decide +kernel
theorem dX10_build_80 : decode cX10_build 80 = .ok (.aload_n 0, 1) := by decide +kernel
theorem dX10_build_81 : decode cX10_build 81 = .ok (.aload_n 3, 1) := by decide +kernel
theorem dX10_build_82 : decode cX10_build 82 = .ok (.putfield 88, 3) := by decide +kernel
theorem dX10_build_85 : decode cX10_build 85 = .ok (.aload_n 0, 1) := by decide +kernel
theorem dX10_build_86 : decode cX10_build 86 = .ok (.iconst 1, 1) := by decide +kernel
theorem dX10_build_87 : decode cX10_build 87 = .ok (.putfield 247, 3) := by decide +kernel
theorem dX10_build_90 : decode cX10_build 90 = .ok (.aload_n 0, 1) := by decide +kernel
theorem dX10_build_91 : decode cX10_build 91 = .ok (.getfield 84, 3) := by decide +kernel
theorem dX10_build_94 : decode cX10_build 94 = .ok (.getfield 251, 3) := by decide +kernel
theorem dX10_build_97 : decode cX10_build 97 = .ok (.ireturn, 1) := by decide +kernel
theorem dX10_resultStateCount_0 : decode cX10_resultStateCount 0 = .ok (.aload_n 0, 1) := by decide +kernel
theorem dX10_resultStateCount_1 : decode cX10_resultStateCount 1 = .ok (.getfield 247, 3) := by decide +kernel
theorem dX10_resultStateCount_4 : decode cX10_resultStateCount 4 = .ok (.ifCond .eq 13, 3) := by decide +kernel
theorem dX10_resultStateCount_7 : decode cX10_resultStateCount 7 = .ok (.aload_n 0, 1) := by decide +kernel
theorem dX10_resultStateCount_8 : decode cX10_resultStateCount 8 = .ok (.getfield 84, 3) := by decide +kernel
theorem dX10_resultStateCount_11 : decode cX10_resultStateCount 11 = .ok (.getfield 251, 3) := by decide +kernel
theorem dX10_resultStateCount_14 : decode cX10_resultStateCount 14 = .ok (.goto 5, 3) := by decide +kernel
theorem dX10_resultStateCount_17 : decode cX10_resultStateCount 17 = .ok (.bipush (-4), 2) := by decide +kernel
theorem dX10_resultStateCount_19 : decode cX10_resultStateCount 19 = .ok (.ireturn, 1) := by decide +kernel
theorem dX10_resultInitials_0 : decode cX10_resultInitials 0 = .ok (.aload_n 0, 1) := by decide +kernel
theorem dX10_resultInitials_1 : decode cX10_resultInitials 1 = .ok (.getfield 247, 3) := by decide +kernel
theorem dX10_resultInitials_4 : decode cX10_resultInitials 4 = .ok (.ifCond .eq 13, 3) := by decide +kernel
theorem dX10_resultInitials_7 : decode cX10_resultInitials 7 = .ok (.aload_n 0, 1) := by decide +kernel
theorem dX10_resultInitials_8 : decode cX10_resultInitials 8 = .ok (.getfield 84, 3) := by decide +kernel
theorem dX10_resultInitials_11 : decode cX10_resultInitials 11 = .ok (.getfield 254, 3) := by decide +kernel
theorem dX10_resultInitials_14 : decode cX10_resultInitials 14 = .ok (.goto 4, 3) := by decide +kernel
theorem dX10_resultInitials_17 : decode cX10_resultInitials 17 = .ok (.lconst 0, 1) := by decide +kernel
theorem dX10_resultInitials_18 : decode cX10_resultInitials 18 = .ok (.lreturn, 1) := by decide +kernel
theorem dX10_resultFinals_0 : decode cX10_resultFinals 0 = .ok (.aload_n 0, 1) := by decide +kernel
theorem dX10_resultFinals_1 : decode cX10_resultFinals 1 = .ok (.getfield 247, 3) := by decide +kernel
theorem dX10_resultFinals_4 : decode cX10_resultFinals 4 = .ok (.ifCond .eq 13, 3) := by decide +kernel
theorem dX10_resultFinals_7 : decode cX10_resultFinals 7 = .ok (.aload_n 0, 1) := by decide +kernel
theorem dX10_resultFinals_8 : decode cX10_resultFinals 8 = .ok (.getfield 84, 3) := by decide +kernel
theorem dX10_resultFinals_11 : decode cX10_resultFinals 11 = .ok (.getfield 257, 3) := by decide +kernel
theorem dX10_resultFinals_14 : decode cX10_resultFinals 14 = .ok (.goto 4, 3) := by decide +kernel
theorem dX10_resultFinals_17 : decode cX10_resultFinals 17 = .ok (.lconst 0, 1) := by decide +kernel
theorem dX10_resultFinals_18 : decode cX10_resultFinals 18 = .ok (.lreturn, 1) := by decide +kernel
set_option maxRecDepth 20000 in
theorem ggX10_resultSuccessors_X3_targetsOf : GoodIn wsX10_resultSuccessors wsX3_targetsOf := goodIn_r _ [7, 8, 9, 10, 11, 12, 31, 32, 33, 34, 35, 36] (by decide +kernel) (by decide +kernel)
set_option maxRecDepth 20000 in
theorem gX10_resultSuccessors_X3_targetsOf : GoodIn wsX10_resultSuccessors (wsV RX10 259 RX3 yX3_targetsOf wsX3_targetsOf) := goodIn_app (goodIn_of _ (by decide +kernel)) ggX10_resultSuccessors_X3_targetsOf
theorem dX10_resultSuccessors_0 : decode cX10_resultSuccessors 0 = .ok (.aload_n 0, 1) := by decide +kernel
theorem dX10_resultSuccessors_1 : decode cX10_resultSuccessors 1 = .ok (.getfield 247, 3) := by decide +kernel
theorem dX10_resultSuccessors_4 : decode cX10_resultSuccessors 4 = .ok (.ifCond .eq 15, 3) := by decide +kernel
theorem dX10_resultSuccessors_7 : decode cX10_resultSuccessors 7 = .ok (.aload_n 0, 1) := by decide +kernel
theorem dX10_resultSuccessors_8 : decode cX10_resultSuccessors 8 = .ok (.getfield 84, 3) := by decide +kernel
theorem dX10_resultSuccessors_11 : decode cX10_resultSuccessors 11 = .ok (.iload_n 1, 1) := by decide +kernel
theorem dX10_resultSuccessors_12 : decode cX10_resultSuccessors 12 = .ok (.iload_n 2, 1) := by decide +kernel
theorem dX10_resultSuccessors_13 : decode cX10_resultSuccessors 13 = .ok (.invokevirtual 259, 3) := by decide +kernel
theorem dX10_resultSuccessors_16 : decode cX10_resultSuccessors 16 = .ok (.goto 4, 3) := by decide +kernel
theorem dX10_resultSuccessors_19 : decode cX10_resultSuccessors 19 = .ok (.lconst 0, 1) := by decide +kernel
theorem dX10_resultSuccessors_20 : decode cX10_resultSuccessors 20 = .ok (.lreturn, 1) := by decide +kernel
set_option maxRecDepth 20000 in
theorem ggX10_resultAmbiguity_X3_accepts : GoodIn wsX10_resultAmbiguity wsX3_accepts := goodIn_r _ [9, 10, 11, 12, 13, 14, 15, 16, 17, 18, 19, 20, 21, 22, 23, 24, 25, 26, 27, 8, 28, 29, 30, 31, 32, 51, 52, 53, 54, 55, 56, 57, 58] (by decide +kernel) (by decide +kernel)
set_option maxRecDepth 20000 in
theorem gX10_resultAmbiguity_X3_accepts : GoodIn wsX10_resultAmbiguity (wsV RX10 262 RX3 yX3_accepts wsX3_accepts) := goodIn_app (goodIn_of _ (by decide +kernel)) ggX10_resultAmbiguity_X3_accepts
theorem dX10_resultAmbiguity_0 : decode cX10_resultAmbiguity 0 = .ok (.aload_n 0, 1) := by decide +kernel
theorem dX10_resultAmbiguity_1 : decode cX10_resultAmbiguity 1 = .ok (.getfield 247, 3) := by decide +kernel
theorem dX10_resultAmbiguity_4 : decode cX10_resultAmbiguity 4 = .ok (.ifCond .ne 7, 3) := by decide +kernel
theorem dX10_resultAmbiguity_7 : decode cX10_resultAmbiguity 7 = .ok (.ldc2_w 204, 3) := by decide +kernel
theorem dX10_resultAmbiguity_10 : decode cX10_resultAmbiguity 10 = .ok (.lreturn, 1) := by decide +kernel
theorem dX10_resultAmbiguity_11 : decode cX10_resultAmbiguity 11 = .ok (.aload_n 0, 1) := by decide +kernel
theorem dX10_resultAmbiguity_12 : decode cX10_resultAmbiguity 12 = .ok (.getfield 84, 3) := by decide +kernel
theorem dX10_resultAmbiguity_15 : decode cX10_resultAmbiguity 15 = .ok (.aload_n 0, 1) := by decide +kernel
theorem dX10_resultAmbiguity_16 : decode cX10_resultAmbiguity 16 = .ok (.getfield 36, 3) := by decide +kernel
theorem dX10_resultAmbiguity_19 : decode cX10_resultAmbiguity 19 = .ok (.invokevirtual 262, 3) := by decide +kernel
theorem dX10_resultAmbiguity_22 : decode cX10_resultAmbiguity 22 = .ok (.ifCond .eq 7, 3) := by decide +kernel
theorem dX10_resultAmbiguity_25 : decode cX10_resultAmbiguity 25 = .ok (.lconst 1, 1) := by decide +kernel
theorem dX10_resultAmbiguity_26 : decode cX10_resultAmbiguity 26 = .ok (.goto 4, 3) := by decide +kernel
theorem dX10_resultAmbiguity_29 : decode cX10_resultAmbiguity 29 = .ok (.lconst 0, 1) := by decide +kernel
theorem dX10_resultAmbiguity_30 : decode cX10_resultAmbiguity 30 = .ok (.lreturn, 1) := by decide +kernel
set_option maxRecDepth 20000 in
theorem ggX10_keepWord_X10_shelfAt : GoodIn wsX10_keepWord wsX10_shelfAt := goodIn_r _ [7, 8, 29, 30, 31, 32, 33, 34, 35, 36, 37, 38, 39, 40, 41, 42, 43, 44, 45, 46] (by decide +kernel) (by decide +kernel)
set_option maxRecDepth 20000 in
theorem gX10_keepWord_X10_shelfAt : GoodIn wsX10_keepWord (wsV RX10 266 RX10 yX10_shelfAt wsX10_shelfAt) := goodIn_app (goodIn_of _ (by decide +kernel)) ggX10_keepWord_X10_shelfAt
set_option maxRecDepth 20000 in
theorem ggX10_keepWord_X5_putWord : GoodIn wsX10_keepWord wsX5_putWord := goodIn_r _ [13, 14, 15, 16, 17, 18, 19, 20, 21, 22, 23, 24, 25, 26, 27, 28, 49, 50, 51, 47, 48] (by decide +kernel) (by decide +kernel)
set_option maxRecDepth 20000 in
theorem gX10_keepWord_X5_putWord : GoodIn wsX10_keepWord (wsV RX10 270 RX5 yX5_putWord wsX5_putWord) := goodIn_app (goodIn_of _ (by decide +kernel)) ggX10_keepWord_X5_putWord
theorem dX10_keepWord_0 : decode cX10_keepWord 0 = .ok (.aload_n 0, 1) := by decide +kernel
theorem dX10_keepWord_1 : decode cX10_keepWord 1 = .ok (.iload_n 1, 1) := by decide +kernel
theorem dX10_keepWord_2 : decode cX10_keepWord 2 = .ok (.invokevirtual 266, 3) := by decide +kernel
theorem dX10_keepWord_5 : decode cX10_keepWord 5 = .ok (.astore_n 2, 1) := by decide +kernel
theorem dX10_keepWord_6 : decode cX10_keepWord 6 = .ok (.aload_n 2, 1) := by decide +kernel
theorem dX10_keepWord_7 : decode cX10_keepWord 7 = .ok (.ifnonnull 5, 3) := by decide +kernel
theorem dX10_keepWord_10 : decode cX10_keepWord 10 = .ok (.iconst (-1), 1) := by decide +kernel
theorem dX10_keepWord_11 : decode cX10_keepWord 11 = .ok (.ireturn, 1) := by decide +kernel
theorem dX10_keepWord_12 : decode cX10_keepWord 12 = .ok (.aload_n 2, 1) := by decide +kernel
theorem dX10_keepWord_13 : decode cX10_keepWord 13 = .ok (.aload_n 0, 1) := by decide +kernel
theorem dX10_keepWord_14 : decode cX10_keepWord 14 = .ok (.getfield 36, 3) := by decide +kernel
theorem dX10_keepWord_17 : decode cX10_keepWord 17 = .ok (.invokevirtual 270, 3) := by decide +kernel
theorem dX10_keepWord_20 : decode cX10_keepWord 20 = .ok (.aload_n 0, 1) := by decide +kernel
theorem dX10_keepWord_21 : decode cX10_keepWord 21 = .ok (.getfield 36, 3) := by decide +kernel
theorem dX10_keepWord_24 : decode cX10_keepWord 24 = .ok (.getfield 158, 3) := by decide +kernel
theorem dX10_keepWord_27 : decode cX10_keepWord 27 = .ok (.ireturn, 1) := by decide +kernel
set_option maxRecDepth 20000 in
theorem ggX10_keepCounts_X10_shelfAt : GoodIn wsX10_keepCounts wsX10_shelfAt := goodIn_r _ [8, 9, 60, 61, 62, 63, 64, 65, 66, 67, 68, 69, 70, 71, 72, 73, 74, 75, 76, 77] (by decide +kernel) (by decide +kernel)
set_option maxRecDepth 20000 in
theorem gX10_keepCounts_X10_shelfAt : GoodIn wsX10_keepCounts (wsV RX10 266 RX10 yX10_shelfAt wsX10_shelfAt) := goodIn_app (goodIn_of _ (by decide +kernel)) ggX10_keepCounts_X10_shelfAt
set_option maxRecDepth 20000 in
theorem ggX10_keepCounts_X1_fillCounts : GoodIn wsX10_keepCounts wsX1_fillCounts := goodIn_r _ [14, 15, 16, 17, 13, 18, 19, 20, 21, 22, 7, 23, 24, 25, 26, 27, 28, 29, 30, 31, 32, 33, 34, 35, 36, 37, 38, 39, 40, 41, 42, 43, 44, 45, 46, 47, 48, 49, 50, 51, 78, 79, 80, 81, 82, 83, 84, 85] (by decide +kernel) (by decide +kernel)
set_option maxRecDepth 20000 in
theorem gX10_keepCounts_X1_fillCounts : GoodIn wsX10_keepCounts (wsV RX10 273 RX1 yX1_fillCounts wsX1_fillCounts) := goodIn_app (goodIn_of _ (by decide +kernel)) ggX10_keepCounts_X1_fillCounts
set_option maxRecDepth 20000 in
theorem ggX10_keepCounts_X5_putCounts : GoodIn wsX10_keepCounts wsX5_putCounts := goodIn_r _ [56, 57, 58, 59, 86, 87, 88] (by decide +kernel) (by decide +kernel)
set_option maxRecDepth 20000 in
theorem gX10_keepCounts_X5_putCounts : GoodIn wsX10_keepCounts (wsV RX10 277 RX5 yX5_putCounts wsX5_putCounts) := goodIn_app (goodIn_of _ (by decide +kernel)) ggX10_keepCounts_X5_putCounts
theorem dX10_keepCounts_0 : decode cX10_keepCounts 0 = .ok (.aload_n 0, 1) := by decide +kernel
theorem dX10_keepCounts_1 : decode cX10_keepCounts 1 = .ok (.iload_n 1, 1) := by decide +kernel
theorem dX10_keepCounts_2 : decode cX10_keepCounts 2 = .ok (.invokevirtual 266, 3) := by decide +kernel
theorem dX10_keepCounts_5 : decode cX10_keepCounts 5 = .ok (.astore_n 3, 1) := by decide +kernel
theorem dX10_keepCounts_6 : decode cX10_keepCounts 6 = .ok (.aload_n 3, 1) := by decide +kernel
theorem dX10_keepCounts_7 : decode cX10_keepCounts 7 = .ok (.ifnonnull 5, 3) := by decide +kernel
theorem dX10_keepCounts_10 : decode cX10_keepCounts 10 = .ok (.iconst (-1), 1) := by decide +kernel
theorem dX10_keepCounts_11 : decode cX10_keepCounts 11 = .ok (.ireturn, 1) := by decide +kernel
theorem dX10_keepCounts_12 : decode cX10_keepCounts 12 = .ok (.iload_n 2, 1) := by decide +kernel
theorem dX10_keepCounts_13 : decode cX10_keepCounts 13 = .ok (.ifCond .lt 9, 3) := by decide +kernel
theorem dX10_keepCounts_16 : decode cX10_keepCounts 16 = .ok (.iload_n 2, 1) := by decide +kernel
theorem dX10_keepCounts_17 : decode cX10_keepCounts 17 = .ok (.bipush 30, 2) := by decide +kernel
theorem dX10_keepCounts_19 : decode cX10_keepCounts 19 = .ok (.if_icmp .le 6, 3) := by decide +kernel
theorem dX10_keepCounts_22 : decode cX10_keepCounts 22 = .ok (.bipush (-2), 2) := by decide +kernel
theorem dX10_keepCounts_24 : decode cX10_keepCounts 24 = .ok (.ireturn, 1) := by decide +kernel
theorem dX10_keepCounts_25 : decode cX10_keepCounts 25 = .ok (.aload_n 0, 1) := by decide +kernel
theorem dX10_keepCounts_26 : decode cX10_keepCounts 26 = .ok (.getfield 63, 3) := by decide +kernel
theorem dX10_keepCounts_29 : decode cX10_keepCounts 29 = .ok (.aload_n 0, 1) := by decide +kernel
theorem dX10_keepCounts_30 : decode cX10_keepCounts 30 = .ok (.getfield 12, 3) := by decide +kernel
theorem dX10_keepCounts_33 : decode cX10_keepCounts 33 = .ok (.aload_n 0, 1) := by decide +kernel
theorem dX10_keepCounts_34 : decode cX10_keepCounts 34 = .ok (.getfield 49, 3) := by decide +kernel
theorem dX10_keepCounts_37 : decode cX10_keepCounts 37 = .ok (.iload_n 2, 1) := by decide +kernel
theorem dX10_keepCounts_38 : decode cX10_keepCounts 38 = .ok (.iconst 1, 1) := by decide +kernel
theorem dX10_keepCounts_39 : decode cX10_keepCounts 39 = .ok (.iadd, 1) := by decide +kernel
theorem dX10_keepCounts_40 : decode cX10_keepCounts 40 = .ok (.invokevirtual 273, 3) := by decide +kernel
theorem dX10_keepCounts_43 : decode cX10_keepCounts 43 = .ok (.ifCond .ne 6, 3) := by decide +kernel
theorem dX10_keepCounts_46 : decode cX10_keepCounts 46 = .ok (.bipush (-6), 2) := by decide +kernel
theorem dX10_keepCounts_48 : decode cX10_keepCounts 48 = .ok (.ireturn, 1) := by decide +kernel
theorem dX10_keepCounts_49 : decode cX10_keepCounts 49 = .ok (.aload_n 3, 1) := by decide +kernel
theorem dX10_keepCounts_50 : decode cX10_keepCounts 50 = .ok (.aload_n 0, 1) := by decide +kernel
theorem dX10_keepCounts_51 : decode cX10_keepCounts 51 = .ok (.getfield 49, 3) := by decide +kernel
theorem dX10_keepCounts_54 : decode cX10_keepCounts 54 = .ok (.iload_n 2, 1) := by decide +kernel
theorem dX10_keepCounts_55 : decode cX10_keepCounts 55 = .ok (.iconst 1, 1) := by decide +kernel
theorem dX10_keepCounts_56 : decode cX10_keepCounts 56 = .ok (.iadd, 1) := by decide +kernel
theorem dX10_keepCounts_57 : decode cX10_keepCounts 57 = .ok (.invokevirtual 277, 3) := by decide +kernel
theorem dX10_keepCounts_60 : decode cX10_keepCounts 60 = .ok (.iload_n 2, 1) := by decide +kernel
theorem dX10_keepCounts_61 : decode cX10_keepCounts 61 = .ok (.iconst 1, 1) := by decide +kernel
theorem dX10_keepCounts_62 : decode cX10_keepCounts 62 = .ok (.iadd, 1) := by decide +kernel
theorem dX10_keepCounts_63 : decode cX10_keepCounts 63 = .ok (.ireturn, 1) := by decide +kernel
set_option maxRecDepth 20000 in
theorem ggX10_useWord_X10_shelfAt : GoodIn wsX10_useWord wsX10_shelfAt := goodIn_r _ [8, 9, 44, 45, 46, 47, 48, 49, 50, 51, 52, 53, 54, 55, 56, 57, 58, 59, 60, 61] (by decide +kernel) (by decide +kernel)
set_option maxRecDepth 20000 in
theorem gX10_useWord_X10_shelfAt : GoodIn wsX10_useWord (wsV RX10 266 RX10 yX10_shelfAt wsX10_shelfAt) := goodIn_app (goodIn_of _ (by decide +kernel)) ggX10_useWord_X10_shelfAt
set_option maxRecDepth 20000 in
theorem ggX10_useWord_X5_copyWordTo : GoodIn wsX10_useWord wsX5_copyWordTo := goodIn_r _ [14, 15, 16, 17, 18, 19, 13, 20, 21, 22, 23, 24, 25, 26, 27, 28, 29, 30, 31, 32, 33, 34, 35, 36, 37, 38, 39, 40, 62, 63, 41, 42, 43] (by decide +kernel) (by decide +kernel)
set_option maxRecDepth 20000 in
theorem gX10_useWord_X5_copyWordTo : GoodIn wsX10_useWord (wsV RX10 284 RX5 yX5_copyWordTo wsX5_copyWordTo) := goodIn_app (goodIn_of _ (by decide +kernel)) ggX10_useWord_X5_copyWordTo
theorem dX10_useWord_0 : decode cX10_useWord 0 = .ok (.aload_n 0, 1) := by decide +kernel
theorem dX10_useWord_1 : decode cX10_useWord 1 = .ok (.iload_n 1, 1) := by decide +kernel
theorem dX10_useWord_2 : decode cX10_useWord 2 = .ok (.invokevirtual 266, 3) := by decide +kernel
theorem dX10_useWord_5 : decode cX10_useWord 5 = .ok (.astore_n 2, 1) := by decide +kernel
theorem dX10_useWord_6 : decode cX10_useWord 6 = .ok (.aload_n 2, 1) := by decide +kernel
theorem dX10_useWord_7 : decode cX10_useWord 7 = .ok (.ifnonnull 5, 3) := by decide +kernel
theorem dX10_useWord_10 : decode cX10_useWord 10 = .ok (.iconst (-1), 1) := by decide +kernel
theorem dX10_useWord_11 : decode cX10_useWord 11 = .ok (.ireturn, 1) := by decide +kernel
theorem dX10_useWord_12 : decode cX10_useWord 12 = .ok (.aload_n 2, 1) := by decide +kernel
theorem dX10_useWord_13 : decode cX10_useWord 13 = .ok (.getfield 281, 3) := by decide +kernel
theorem dX10_useWord_16 : decode cX10_useWord 16 = .ok (.ifCond .ne 6, 3) := by decide +kernel
theorem dX10_useWord_19 : decode cX10_useWord 19 = .ok (.bipush (-7), 2) := by decide +kernel
theorem dX10_useWord_21 : decode cX10_useWord 21 = .ok (.ireturn, 1) := by decide +kernel
theorem dX10_useWord_22 : decode cX10_useWord 22 = .ok (.aload_n 2, 1) := by decide +kernel
theorem dX10_useWord_23 : decode cX10_useWord 23 = .ok (.getfield 281, 3) := by decide +kernel
theorem dX10_useWord_26 : decode cX10_useWord 26 = .ok (.iconst 1, 1) := by decide +kernel
theorem dX10_useWord_27 : decode cX10_useWord 27 = .ok (.if_icmp .eq 6, 3) := by decide +kernel
theorem dX10_useWord_30 : decode cX10_useWord 30 = .ok (.bipush (-8), 2) := by decide +kernel
theorem dX10_useWord_32 : decode cX10_useWord 32 = .ok (.ireturn, 1) := by decide +kernel
theorem dX10_useWord_33 : decode cX10_useWord 33 = .ok (.aload_n 2, 1) := by decide +kernel
theorem dX10_useWord_34 : decode cX10_useWord 34 = .ok (.aload_n 0, 1) := by decide +kernel
theorem dX10_useWord_35 : decode cX10_useWord 35 = .ok (.getfield 36, 3) := by decide +kernel
theorem dX10_useWord_38 : decode cX10_useWord 38 = .ok (.invokevirtual 284, 3) := by decide +kernel
theorem dX10_useWord_41 : decode cX10_useWord 41 = .ok (.aload_n 0, 1) := by decide +kernel
theorem dX10_useWord_42 : decode cX10_useWord 42 = .ok (.getfield 36, 3) := by decide +kernel
theorem dX10_useWord_45 : decode cX10_useWord 45 = .ok (.getfield 158, 3) := by decide +kernel
theorem dX10_useWord_48 : decode cX10_useWord 48 = .ok (.ireturn, 1) := by decide +kernel
set_option maxRecDepth 20000 in
theorem ggX10_shelfElement_X10_shelfAt : GoodIn wsX10_shelfElement wsX10_shelfAt := goodIn_r _ [8, 9, 25, 26, 27, 28, 29, 30, 31, 32, 33, 34, 35, 36, 37, 38, 39, 40, 41, 42] (by decide +kernel) (by decide +kernel)
set_option maxRecDepth 20000 in
theorem gX10_shelfElement_X10_shelfAt : GoodIn wsX10_shelfElement (wsV RX10 266 RX10 yX10_shelfAt wsX10_shelfAt) := goodIn_app (goodIn_of _ (by decide +kernel)) ggX10_shelfElement_X10_shelfAt
set_option maxRecDepth 20000 in
theorem ggX10_shelfElement_X5_hasPosition : GoodIn wsX10_shelfElement wsX5_hasPosition := goodIn_r _ [14, 15, 16, 22, 23, 24] (by decide +kernel) (by decide +kernel)
set_option maxRecDepth 20000 in
theorem gX10_shelfElement_X5_hasPosition : GoodIn wsX10_shelfElement (wsV RX10 291 RX5 yX5_hasPosition wsX5_hasPosition) := goodIn_app (goodIn_of _ (by decide +kernel)) ggX10_shelfElement_X5_hasPosition
set_option maxRecDepth 20000 in
theorem ggX10_shelfElement_X5_elementAt : GoodIn wsX10_shelfElement wsX5_elementAt := goodIn_r _ [20, 16, 21, 11, 12, 13, 14, 15, 22, 23, 24] (by decide +kernel) (by decide +kernel)
set_option maxRecDepth 20000 in
theorem gX10_shelfElement_X5_elementAt : GoodIn wsX10_shelfElement (wsV RX10 292 RX5 yX5_elementAt wsX5_elementAt) := goodIn_app (goodIn_of _ (by decide +kernel)) ggX10_shelfElement_X5_elementAt
theorem dX10_shelfElement_0 : decode cX10_shelfElement 0 = .ok (.aload_n 0, 1) := by decide +kernel
theorem dX10_shelfElement_1 : decode cX10_shelfElement 1 = .ok (.iload_n 1, 1) := by decide +kernel
theorem dX10_shelfElement_2 : decode cX10_shelfElement 2 = .ok (.invokevirtual 266, 3) := by decide +kernel
theorem dX10_shelfElement_5 : decode cX10_shelfElement 5 = .ok (.astore_n 3, 1) := by decide +kernel
theorem dX10_shelfElement_6 : decode cX10_shelfElement 6 = .ok (.aload_n 3, 1) := by decide +kernel
theorem dX10_shelfElement_7 : decode cX10_shelfElement 7 = .ok (.ifnonnull 7, 3) := by decide +kernel
theorem dX10_shelfElement_10 : decode cX10_shelfElement 10 = .ok (.ldc2_w 287, 3) := by decide +kernel
theorem dX10_shelfElement_13 : decode cX10_shelfElement 13 = .ok (.lreturn, 1) := by decide +kernel
theorem dX10_shelfElement_14 : decode cX10_shelfElement 14 = .ok (.aload_n 3, 1) := by decide +kernel
theorem dX10_shelfElement_15 : decode cX10_shelfElement 15 = .ok (.getfield 281, 3) := by decide +kernel
theorem dX10_shelfElement_18 : decode cX10_shelfElement 18 = .ok (.ifCond .ne 7, 3) := by decide +kernel
theorem dX10_shelfElement_21 : decode cX10_shelfElement 21 = .ok (.ldc2_w 289, 3) := by decide +kernel
theorem dX10_shelfElement_24 : decode cX10_shelfElement 24 = .ok (.lreturn, 1) := by decide +kernel
theorem dX10_shelfElement_25 : decode cX10_shelfElement 25 = .ok (.aload_n 3, 1) := by decide +kernel
theorem dX10_shelfElement_26 : decode cX10_shelfElement 26 = .ok (.iload_n 2, 1) := by decide +kernel
theorem dX10_shelfElement_27 : decode cX10_shelfElement 27 = .ok (.invokevirtual 291, 3) := by decide +kernel
theorem dX10_shelfElement_30 : decode cX10_shelfElement 30 = .ok (.ifCond .eq 11, 3) := by decide +kernel
theorem dX10_shelfElement_33 : decode cX10_shelfElement 33 = .ok (.aload_n 3, 1) := by decide +kernel
theorem dX10_shelfElement_34 : decode cX10_shelfElement 34 = .ok (.iload_n 2, 1) := by decide +kernel
theorem dX10_shelfElement_35 : decode cX10_shelfElement 35 = .ok (.invokevirtual 292, 3) := by decide +kernel
theorem dX10_shelfElement_38 : decode cX10_shelfElement 38 = .ok (.goto 6, 3) := by decide +kernel
theorem dX10_shelfElement_41 : decode cX10_shelfElement 41 = .ok (.ldc2_w 287, 3) := by decide +kernel
theorem dX10_shelfElement_44 : decode cX10_shelfElement 44 = .ok (.lreturn, 1) := by decide +kernel
set_option maxRecDepth 20000 in
theorem ggX10_save_X0_copyFrom : GoodIn wsX10_save wsX0_copyFrom := goodIn_r _ [11, 12, 13, 14, 15, 38, 39, 40, 41] (by decide +kernel) (by decide +kernel)
set_option maxRecDepth 20000 in
theorem gX10_save_X0_copyFrom : GoodIn wsX10_save (wsV RX10 296 RX0 yX0_copyFrom wsX0_copyFrom) := goodIn_app (goodIn_of _ (by decide +kernel)) ggX10_save_X0_copyFrom
set_option maxRecDepth 20000 in
theorem ggX10_save_X10_copyWeights : GoodIn wsX10_save wsX10_copyWeights := goodIn_r _ [19] (by decide +kernel) (by decide +kernel)
set_option maxRecDepth 20000 in
theorem gX10_save_X10_copyWeights : GoodIn wsX10_save (va_wsS RX10 298 yX10_copyWeights wsX10_copyWeights) := goodIn_app (goodIn_of _ (by decide +kernel)) ggX10_save_X10_copyWeights
theorem dX10_save_0 : decode cX10_save 0 = .ok (.aload_n 0, 1) := by decide +kernel
theorem dX10_save_1 : decode cX10_save 1 = .ok (.getfield 16, 3) := by decide +kernel
theorem dX10_save_4 : decode cX10_save 4 = .ok (.aload_n 0, 1) := by decide +kernel
theorem dX10_save_5 : decode cX10_save 5 = .ok (.getfield 12, 3) := by decide +kernel
theorem dX10_save_8 : decode cX10_save 8 = .ok (.invokevirtual 296, 3) := by decide +kernel
theorem dX10_save_11 : decode cX10_save 11 = .ok (.aload_n 0, 1) := by decide +kernel
theorem dX10_save_12 : decode cX10_save 12 = .ok (.getfield 19, 3) := by decide +kernel
theorem dX10_save_15 : decode cX10_save 15 = .ok (.aload_n 0, 1) := by decide +kernel
theorem dX10_save_16 : decode cX10_save 16 = .ok (.getfield 23, 3) := by decide +kernel
theorem dX10_save_19 : decode cX10_save 19 = .ok (.invokestatic 298, 3) := by decide +kernel
theorem dX10_save_22 : decode cX10_save 22 = .ok (.aload_n 0, 1) := by decide +kernel
theorem dX10_save_23 : decode cX10_save 23 = .ok (.iconst 1, 1) := by decide +kernel
theorem dX10_save_24 : decode cX10_save 24 = .ok (.putfield 302, 3) := by decide +kernel
theorem dX10_save_27 : decode cX10_save 27 = .ok (.aload_n 0, 1) := by decide +kernel
theorem dX10_save_28 : decode cX10_save 28 = .ok (.getfield 12, 3) := by decide +kernel
theorem dX10_save_31 : decode cX10_save 31 = .ok (.getfield 92, 3) := by decide +kernel
theorem dX10_save_34 : decode cX10_save 34 = .ok (.ireturn, 1) := by decide +kernel
set_option maxRecDepth 20000 in
theorem ggX10_restore_X0_copyFrom : GoodIn wsX10_restore wsX0_copyFrom := goodIn_r _ [11, 12, 13, 14, 15, 38, 39, 40, 41] (by decide +kernel) (by decide +kernel)
set_option maxRecDepth 20000 in
theorem gX10_restore_X0_copyFrom : GoodIn wsX10_restore (wsV RX10 296 RX0 yX0_copyFrom wsX0_copyFrom) := goodIn_app (goodIn_of _ (by decide +kernel)) ggX10_restore_X0_copyFrom
set_option maxRecDepth 20000 in
theorem ggX10_restore_X10_copyWeights : GoodIn wsX10_restore wsX10_copyWeights := goodIn_r _ [19] (by decide +kernel) (by decide +kernel)
set_option maxRecDepth 20000 in
theorem gX10_restore_X10_copyWeights : GoodIn wsX10_restore (va_wsS RX10 298 yX10_copyWeights wsX10_copyWeights) := goodIn_app (goodIn_of _ (by decide +kernel)) ggX10_restore_X10_copyWeights
theorem dX10_restore_0 : decode cX10_restore 0 = .ok (.aload_n 0, 1) := by decide +kernel
theorem dX10_restore_1 : decode cX10_restore 1 = .ok (.getfield 302, 3) := by decide +kernel
theorem dX10_restore_4 : decode cX10_restore 4 = .ok (.ifCond .ne 6, 3) := by decide +kernel
theorem dX10_restore_7 : decode cX10_restore 7 = .ok (.bipush (-4), 2) := by decide +kernel
theorem dX10_restore_9 : decode cX10_restore 9 = .ok (.ireturn, 1) := by decide +kernel
theorem dX10_restore_10 : decode cX10_restore 10 = .ok (.aload_n 0, 1) := by decide +kernel
theorem dX10_restore_11 : decode cX10_restore 11 = .ok (.getfield 12, 3) := by decide +kernel
theorem dX10_restore_14 : decode cX10_restore 14 = .ok (.aload_n 0, 1) := by decide +kernel
theorem dX10_restore_15 : decode cX10_restore 15 = .ok (.getfield 16, 3) := by decide +kernel
theorem dX10_restore_18 : decode cX10_restore 18 = .ok (.invokevirtual 296, 3) := by decide +kernel
theorem dX10_restore_21 : decode cX10_restore 21 = .ok (.aload_n 0, 1) := by decide +kernel
theorem dX10_restore_22 : decode cX10_restore 22 = .ok (.getfield 23, 3) := by decide +kernel
theorem dX10_restore_25 : decode cX10_restore 25 = .ok (.aload_n 0, 1) := by decide +kernel
theorem dX10_restore_26 : decode cX10_restore 26 = .ok (.getfield 19, 3) := by decide +kernel
theorem dX10_restore_29 : decode cX10_restore 29 = .ok (.invokestatic 298, 3) := by decide +kernel
theorem dX10_restore_32 : decode cX10_restore 32 = .ok (.aload_n 0, 1) := by decide +kernel
theorem dX10_restore_33 : decode cX10_restore 33 = .ok (.getfield 12, 3) := by decide +kernel
theorem dX10_restore_36 : decode cX10_restore 36 = .ok (.getfield 92, 3) := by decide +kernel
theorem dX10_restore_39 : decode cX10_restore 39 = .ok (.ireturn, 1) := by decide +kernel
set_option maxRecDepth 20000 in
theorem ggX10_freshSearch_X9_look : GoodIn wsX10_freshSearch wsX9_look := goodIn_r _ [7, 8, 9, 10, 11, 12, 13, 14, 15, 16, 17, 18, 19, 20, 21, 22, 23, 24, 25, 26, 27, 28, 29, 30, 31, 32, 33, 34, 35, 36, 37, 38, 39, 40, 41, 42, 43, 44, 45, 46, 47, 48, 49, 50, 51, 52, 53, 54, 55, 56, 57, 76, 77, 78, 79, 80, 81, 82, 83, 84, 85, 86, 87, 88, 89, 90, 91, 92, 93, 94] (by decide +kernel) (by decide +kernel)
set_option maxRecDepth 20000 in
theorem gX10_freshSearch_X9_look : GoodIn wsX10_freshSearch (wsV RX10 305 RX9 yX9_look wsX9_look) := goodIn_app (goodIn_of _ (by decide +kernel)) ggX10_freshSearch_X9_look
theorem dX10_freshSearch_0 : decode cX10_freshSearch 0 = .ok (.aload_n 0, 1) := by decide +kernel
theorem dX10_freshSearch_1 : decode cX10_freshSearch 1 = .ok (.getfield 70, 3) := by decide +kernel
theorem dX10_freshSearch_4 : decode cX10_freshSearch 4 = .ok (.aload_n 0, 1) := by decide +kernel
theorem dX10_freshSearch_5 : decode cX10_freshSearch 5 = .ok (.getfield 12, 3) := by decide +kernel
theorem dX10_freshSearch_8 : decode cX10_freshSearch 8 = .ok (.invokevirtual 305, 3) := by decide +kernel
theorem dX10_freshSearch_11 : decode cX10_freshSearch 11 = .ok (.aload_n 0, 1) := by decide +kernel
theorem dX10_freshSearch_12 : decode cX10_freshSearch 12 = .ok (.getfield 70, 3) := by decide +kernel
theorem dX10_freshSearch_15 : decode cX10_freshSearch 15 = .ok (.areturn, 1) := by decide +kernel
set_option maxRecDepth 20000 in
theorem ggX10_findWitness_X2_find : GoodIn wsX10_findWitness wsX2_find := goodIn_r _ [9, 10, 11, 12, 13, 14, 15, 8, 16, 17, 18, 19, 20, 21, 22, 23, 24, 25, 26, 27, 28, 29, 30, 31, 32, 33, 34, 35, 36, 37, 38, 39, 40, 41, 42, 43, 44, 45, 46, 47, 48, 49, 50, 51, 52, 53, 54, 55, 56, 57, 58, 59, 60, 61, 62, 63, 64, 65, 66, 212, 213, 214, 215, 216, 217, 218] (by decide +kernel) (by decide +kernel)
set_option maxRecDepth 20000 in
theorem gX10_findWitness_X2_find : GoodIn wsX10_findWitness (wsV RX10 308 RX2 yX2_find wsX2_find) := goodIn_app (goodIn_of _ (by decide +kernel)) ggX10_findWitness_X2_find
set_option maxRecDepth 20000 in
theorem ggX10_findWitness_X10_freshSearch : GoodIn wsX10_findWitness wsX10_freshSearch := goodIn_r _ [70, 71, 2, 72, 73, 74, 75, 76, 77, 78, 79, 80, 81, 82, 83, 84, 85, 86, 87, 88, 89, 90, 28, 29, 30, 31, 32, 33, 91, 92, 93, 94, 95, 96, 97, 25, 98, 99, 100, 101, 102, 103, 104, 105, 106, 107, 108, 24, 26, 109, 110, 111, 112, 113, 114, 115, 116, 117, 194, 195, 196, 197, 198, 199, 200, 201, 202, 203, 204, 205, 206, 207, 208, 209, 210, 211, 219, 220, 221, 222, 223, 224, 225, 226, 227, 228, 229, 230, 231, 212, 213, 214, 215, 232, 233] (by decide +kernel) (by decide +kernel)
set_option maxRecDepth 20000 in
theorem gX10_findWitness_X10_freshSearch : GoodIn wsX10_findWitness (wsV RX10 194 RX10 yX10_freshSearch wsX10_freshSearch) := goodIn_app (goodIn_of _ (by decide +kernel)) ggX10_findWitness_X10_freshSearch
set_option maxRecDepth 20000 in
theorem ggX10_findWitness_X9_findAmbiguousWord : GoodIn wsX10_findWitness wsX9_findAmbiguousWord := goodIn_r _ [121, 122, 81, 123, 124, 125, 75, 126, 127, 128, 129, 130, 131, 132, 133, 134, 135, 136, 137, 138, 139, 140, 141, 142, 143, 144, 145, 146, 147, 148, 149, 150, 151, 152, 83, 153, 154, 155, 156, 157, 158, 159, 160, 161, 162, 163, 77, 164, 165, 166, 88, 167, 95, 168, 169, 170, 171, 96, 219, 220, 221, 222, 223, 224, 225, 226, 227, 228, 229, 230, 231, 232, 233] (by decide +kernel) (by decide +kernel)
set_option maxRecDepth 20000 in
theorem gX10_findWitness_X9_findAmbiguousWord : GoodIn wsX10_findWitness (wsV RX10 312 RX9 yX9_findAmbiguousWord wsX9_findAmbiguousWord) := goodIn_app (goodIn_of _ (by decide +kernel)) ggX10_findWitness_X9_findAmbiguousWord
set_option maxRecDepth 20000 in
theorem ggX10_findWitness_X9_lowestLoopState : GoodIn wsX10_findWitness wsX9_lowestLoopState := goodIn_r _ [175, 79, 176, 177, 178, 75, 179, 122, 151, 84, 24, 25, 26, 123, 124, 125, 126, 127, 128, 129, 130, 131, 132, 133, 134, 135, 136, 137, 138, 139, 140, 141, 142, 143, 144, 145, 146, 147, 148, 149, 150, 152, 83, 153, 154, 155, 156, 157, 158, 159, 160, 161, 162, 163, 77, 164, 165, 166, 88, 167, 95, 168, 169, 170, 171, 96, 219, 220, 221, 222, 223, 224, 225, 226, 227, 228, 229, 230, 231, 232, 233] (by decide +kernel) (by decide +kernel)
set_option maxRecDepth 20000 in
theorem gX10_findWitness_X9_lowestLoopState : GoodIn wsX10_findWitness (wsV RX10 224 RX9 yX9_lowestLoopState wsX9_lowestLoopState) := goodIn_app (goodIn_of _ (by decide +kernel)) ggX10_findWitness_X9_lowestLoopState
set_option maxRecDepth 20000 in
theorem ggX10_findWitness_X9_firstSplitPair : GoodIn wsX10_findWitness wsX9_firstSplitPair := goodIn_r _ [183, 79, 184, 185, 186, 75, 187, 122, 151, 152, 84, 24, 25, 26, 123, 124, 125, 126, 127, 128, 129, 130, 131, 132, 133, 134, 135, 136, 137, 138, 139, 140, 141, 142, 143, 144, 145, 146, 147, 148, 149, 150, 83, 153, 154, 155, 156, 157, 158, 159, 160, 161, 162, 163, 77, 164, 165, 166, 88, 167, 95, 168, 169, 170, 171, 96, 219, 220, 221, 222, 223, 224, 225, 226, 227, 228, 229, 230, 231, 232, 233] (by decide +kernel) (by decide +kernel)
set_option maxRecDepth 20000 in
theorem gX10_findWitness_X9_firstSplitPair : GoodIn wsX10_findWitness (wsV RX10 227 RX9 yX9_firstSplitPair wsX9_firstSplitPair) := goodIn_app (goodIn_of _ (by decide +kernel)) ggX10_findWitness_X9_firstSplitPair
set_option maxRecDepth 20000 in
theorem ggX10_findWitness_X9_copyFoundWordTo : GoodIn wsX10_findWitness wsX9_copyFoundWordTo := goodIn_r _ [191, 129, 192, 139, 140, 141, 75, 142, 130, 193, 60, 61, 55, 62, 58, 63, 64, 65, 66, 57, 219, 220, 221, 222, 223, 224, 225, 226, 227, 228, 229, 230, 231, 216, 217] (by decide +kernel) (by decide +kernel)
set_option maxRecDepth 20000 in
theorem gX10_findWitness_X9_copyFoundWordTo : GoodIn wsX10_findWitness (wsV RX10 316 RX9 yX9_copyFoundWordTo wsX9_copyFoundWordTo) := goodIn_app (goodIn_of _ (by decide +kernel)) ggX10_findWitness_X9_copyFoundWordTo
theorem dX10_findWitness_0 : decode cX10_findWitness 0 = .ok (.iload_n 1, 1) := by decide +kernel
theorem dX10_findWitness_1 : decode cX10_findWitness 1 = .ok (.iconst 3, 1) := by decide +kernel
theorem dX10_findWitness_2 : decode cX10_findWitness 2 = .ok (.if_icmp .ne 23, 3) := by decide +kernel
theorem dX10_findWitness_5 : decode cX10_findWitness 5 = .ok (.aload_n 0, 1) := by decide +kernel
theorem dX10_findWitness_6 : decode cX10_findWitness 6 = .ok (.getfield 77, 3) := by decide +kernel
theorem dX10_findWitness_9 : decode cX10_findWitness 9 = .ok (.aload_n 0, 1) := by decide +kernel
theorem dX10_findWitness_10 : decode cX10_findWitness 10 = .ok (.getfield 12, 3) := by decide +kernel
theorem dX10_findWitness_13 : decode cX10_findWitness 13 = .ok (.aload_n 0, 1) := by decide +kernel
theorem dX10_findWitness_14 : decode cX10_findWitness 14 = .ok (.getfield 19, 3) := by decide +kernel
theorem dX10_findWitness_17 : decode cX10_findWitness 17 = .ok (.aload_n 0, 1) := by decide +kernel
theorem dX10_findWitness_18 : decode cX10_findWitness 18 = .ok (.getfield 40, 3) := by decide +kernel
theorem dX10_findWitness_21 : decode cX10_findWitness 21 = .ok (.invokevirtual 308, 3) := by decide +kernel
theorem dX10_findWitness_24 : decode cX10_findWitness 24 = .ok (.ireturn, 1) := by decide +kernel
theorem dX10_findWitness_25 : decode cX10_findWitness 25 = .ok (.aload_n 0, 1) := by decide +kernel
theorem dX10_findWitness_26 : decode cX10_findWitness 26 = .ok (.invokevirtual 194, 3) := by decide +kernel
theorem dX10_findWitness_29 : decode cX10_findWitness 29 = .ok (.astore_n 2, 1) := by decide +kernel
theorem dX10_findWitness_30 : decode cX10_findWitness 30 = .ok (.iconst 0, 1) := by decide +kernel
theorem dX10_findWitness_31 : decode cX10_findWitness 31 = .ok (.istore_n 3, 1) := by decide +kernel
theorem dX10_findWitness_32 : decode cX10_findWitness 32 = .ok (.iload_n 1, 1) := by decide +kernel
theorem dX10_findWitness_33 : decode cX10_findWitness 33 = .ok (.ifCond .ne 11, 3) := by decide +kernel
theorem dX10_findWitness_36 : decode cX10_findWitness 36 = .ok (.aload_n 2, 1) := by decide +kernel
theorem dX10_findWitness_37 : decode cX10_findWitness 37 = .ok (.invokevirtual 312, 3) := by decide +kernel
theorem dX10_findWitness_40 : decode cX10_findWitness 40 = .ok (.istore_n 3, 1) := by decide +kernel
theorem dX10_findWitness_41 : decode cX10_findWitness 41 = .ok (.goto 44, 3) := by decide +kernel
theorem dX10_findWitness_44 : decode cX10_findWitness 44 = .ok (.iload_n 1, 1) := by decide +kernel
theorem dX10_findWitness_45 : decode cX10_findWitness 45 = .ok (.iconst 1, 1) := by decide +kernel
theorem dX10_findWitness_46 : decode cX10_findWitness 46 = .ok (.if_icmp .ne 20, 3) := by decide +kernel
theorem dX10_findWitness_49 : decode cX10_findWitness 49 = .ok (.aload_n 2, 1) := by decide +kernel
theorem dX10_findWitness_50 : decode cX10_findWitness 50 = .ok (.invokevirtual 224, 3) := by decide +kernel
theorem dX10_findWitness_53 : decode cX10_findWitness 53 = .ok (.iconst (-1), 1) := by decide +kernel
theorem dX10_findWitness_54 : decode cX10_findWitness 54 = .ok (.if_icmp .eq 7, 3) := by decide +kernel
theorem dX10_findWitness_57 : decode cX10_findWitness 57 = .ok (.iconst 1, 1) := by decide +kernel
theorem dX10_findWitness_58 : decode cX10_findWitness 58 = .ok (.goto 4, 3) := by decide +kernel
theorem dX10_findWitness_61 : decode cX10_findWitness 61 = .ok (.iconst 0, 1) := by decide +kernel
theorem dX10_findWitness_62 : decode cX10_findWitness 62 = .ok (.istore_n 3, 1) := by decide +kernel
theorem dX10_findWitness_63 : decode cX10_findWitness 63 = .ok (.goto 22, 3) := by decide +kernel
theorem dX10_findWitness_66 : decode cX10_findWitness 66 = .ok (.iload_n 1, 1) := by decide +kernel
theorem dX10_findWitness_67 : decode cX10_findWitness 67 = .ok (.iconst 2, 1) := by decide +kernel
theorem dX10_findWitness_68 : decode cX10_findWitness 68 = .ok (.if_icmp .ne 17, 3) := by decide +kernel
theorem dX10_findWitness_71 : decode cX10_findWitness 71 = .ok (.aload_n 2, 1) := by decide +kernel
theorem dX10_findWitness_72 : decode cX10_findWitness 72 = .ok (.invokevirtual 227, 3) := by decide +kernel
theorem dX10_findWitness_75 : decode cX10_findWitness 75 = .ok (.iconst (-1), 1) := by decide +kernel
theorem dX10_findWitness_76 : decode cX10_findWitness 76 = .ok (.if_icmp .eq 7, 3) := by decide +kernel
theorem dX10_findWitness_79 : decode cX10_findWitness 79 = .ok (.iconst 1, 1) := by decide +kernel
theorem dX10_findWitness_80 : decode cX10_findWitness 80 = .ok (.goto 4, 3) := by decide +kernel
theorem dX10_findWitness_83 : decode cX10_findWitness 83 = .ok (.iconst 0, 1) := by decide +kernel
theorem dX10_findWitness_84 : decode cX10_findWitness 84 = .ok (.istore_n 3, 1) := by decide +kernel
theorem dX10_findWitness_85 : decode cX10_findWitness 85 = .ok (.iload_n 3, 1) := by decide +kernel
theorem dX10_findWitness_86 : decode cX10_findWitness 86 = .ok (.ifCond .eq 11, 3) := by decide +kernel
theorem dX10_findWitness_89 : decode cX10_findWitness 89 = .ok (.aload_n 2, 1) := by decide +kernel
theorem dX10_findWitness_90 : decode cX10_findWitness 90 = .ok (.aload_n 0, 1) := by decide +kernel
theorem dX10_findWitness_91 : decode cX10_findWitness 91 = .ok (.getfield 40, 3) := by decide +kernel
theorem dX10_findWitness_94 : decode cX10_findWitness 94 = .ok (.invokevirtual 316, 3) := by decide +kernel
theorem dX10_findWitness_97 : decode cX10_findWitness 97 = .ok (.iload_n 3, 1) := by decide +kernel
theorem dX10_findWitness_98 : decode cX10_findWitness 98 = .ok (.ireturn, 1) := by decide +kernel
theorem dX10_shelfAt_0 : decode cX10_shelfAt 0 = .ok (.iload_n 1, 1) := by decide +kernel
theorem dX10_shelfAt_1 : decode cX10_shelfAt 1 = .ok (.ifCond .lt 17, 3) := by decide +kernel
theorem dX10_shelfAt_4 : decode cX10_shelfAt 4 = .ok (.iload_n 1, 1) := by decide +kernel
theorem dX10_shelfAt_5 : decode cX10_shelfAt 5 = .ok (.iconst 4, 1) := by decide +kernel
theorem dX10_shelfAt_6 : decode cX10_shelfAt 6 = .ok (.if_icmp .ge 12, 3) := by decide +kernel
theorem dX10_shelfAt_9 : decode cX10_shelfAt 9 = .ok (.aload_n 0, 1) := by decide +kernel
theorem dX10_shelfAt_10 : decode cX10_shelfAt 10 = .ok (.getfield 45, 3) := by decide +kernel
theorem dX10_shelfAt_13 : decode cX10_shelfAt 13 = .ok (.iload_n 1, 1) := by decide +kernel
theorem dX10_shelfAt_14 : decode cX10_shelfAt 14 = .ok (.aaload, 1) := by decide +kernel
theorem dX10_shelfAt_15 : decode cX10_shelfAt 15 = .ok (.goto 4, 3) := by decide +kernel
theorem dX10_shelfAt_18 : decode cX10_shelfAt 18 = .ok (.aconst_null, 1) := by decide +kernel
theorem dX10_shelfAt_19 : decode cX10_shelfAt 19 = .ok (.areturn, 1) := by decide +kernel
theorem dX10_isLetter_0 : decode cX10_isLetter 0 = .ok (.iload_n 0, 1) := by decide +kernel
theorem dX10_isLetter_1 : decode cX10_isLetter 1 = .ok (.ifCond .lt 12, 3) := by decide +kernel
theorem dX10_isLetter_4 : decode cX10_isLetter 4 = .ok (.iload_n 0, 1) := by decide +kernel
theorem dX10_isLetter_5 : decode cX10_isLetter 5 = .ok (.iconst 3, 1) := by decide +kernel
theorem dX10_isLetter_6 : decode cX10_isLetter 6 = .ok (.if_icmp .ge 7, 3) := by decide +kernel
theorem dX10_isLetter_9 : decode cX10_isLetter 9 = .ok (.iconst 1, 1) := by decide +kernel
theorem dX10_isLetter_10 : decode cX10_isLetter 10 = .ok (.goto 4, 3) := by decide +kernel
theorem dX10_isLetter_13 : decode cX10_isLetter 13 = .ok (.iconst 0, 1) := by decide +kernel
theorem dX10_isLetter_14 : decode cX10_isLetter 14 = .ok (.ireturn, 1) := by decide +kernel
theorem dX10_isWitness_0 : decode cX10_isWitness 0 = .ok (.iload_n 0, 1) := by decide +kernel
theorem dX10_isWitness_1 : decode cX10_isWitness 1 = .ok (.ifCond .lt 12, 3) := by decide +kernel
theorem dX10_isWitness_4 : decode cX10_isWitness 4 = .ok (.iload_n 0, 1) := by decide +kernel
theorem dX10_isWitness_5 : decode cX10_isWitness 5 = .ok (.iconst 3, 1) := by decide +kernel
theorem dX10_isWitness_6 : decode cX10_isWitness 6 = .ok (.if_icmp .gt 7, 3) := by decide +kernel
theorem dX10_isWitness_9 : decode cX10_isWitness 9 = .ok (.iconst 1, 1) := by decide +kernel
theorem dX10_isWitness_10 : decode cX10_isWitness 10 = .ok (.goto 4, 3) := by decide +kernel
theorem dX10_isWitness_13 : decode cX10_isWitness 13 = .ok (.iconst 0, 1) := by decide +kernel
theorem dX10_isWitness_14 : decode cX10_isWitness 14 = .ok (.ireturn, 1) := by decide +kernel
theorem dX10_isCountedLength_0 : decode cX10_isCountedLength 0 = .ok (.iload_n 0, 1) := by decide +kernel
theorem dX10_isCountedLength_1 : decode cX10_isCountedLength 1 = .ok (.ifCond .lt 13, 3) := by decide +kernel
theorem dX10_isCountedLength_4 : decode cX10_isCountedLength 4 = .ok (.iload_n 0, 1) := by decide +kernel
theorem dX10_isCountedLength_5 : decode cX10_isCountedLength 5 = .ok (.bipush 60, 2) := by decide +kernel
theorem dX10_isCountedLength_7 : decode cX10_isCountedLength 7 = .ok (.if_icmp .gt 7, 3) := by decide +kernel
theorem dX10_isCountedLength_10 : decode cX10_isCountedLength 10 = .ok (.iconst 1, 1) := by decide +kernel
theorem dX10_isCountedLength_11 : decode cX10_isCountedLength 11 = .ok (.goto 4, 3) := by decide +kernel
theorem dX10_isCountedLength_14 : decode cX10_isCountedLength 14 = .ok (.iconst 0, 1) := by decide +kernel
theorem dX10_isCountedLength_15 : decode cX10_isCountedLength 15 = .ok (.ireturn, 1) := by decide +kernel
theorem dX10_contains_0 : decode cX10_contains 0 = .ok (.iload_n 0, 1) := by decide +kernel
theorem dX10_contains_1 : decode cX10_contains 1 = .ok (.iload_n 1, 1) := by decide +kernel
theorem dX10_contains_2 : decode cX10_contains 2 = .ok (.ishr, 1) := by decide +kernel
theorem dX10_contains_3 : decode cX10_contains 3 = .ok (.iconst 1, 1) := by decide +kernel
theorem dX10_contains_4 : decode cX10_contains 4 = .ok (.iand, 1) := by decide +kernel
theorem dX10_contains_5 : decode cX10_contains 5 = .ok (.ifCond .eq 7, 3) := by decide +kernel
theorem dX10_contains_8 : decode cX10_contains 8 = .ok (.iconst 1, 1) := by decide +kernel
theorem dX10_contains_9 : decode cX10_contains 9 = .ok (.goto 4, 3) := by decide +kernel
theorem dX10_contains_12 : decode cX10_contains 12 = .ok (.iconst 0, 1) := by decide +kernel
theorem dX10_contains_13 : decode cX10_contains 13 = .ok (.ireturn, 1) := by decide +kernel
theorem dX10_withBit_0 : decode cX10_withBit 0 = .ok (.iload_n 2, 1) := by decide +kernel
theorem dX10_withBit_1 : decode cX10_withBit 1 = .ok (.ifCond .eq 11, 3) := by decide +kernel
theorem dX10_withBit_4 : decode cX10_withBit 4 = .ok (.iload_n 0, 1) := by decide +kernel
theorem dX10_withBit_5 : decode cX10_withBit 5 = .ok (.iconst 1, 1) := by decide +kernel
theorem dX10_withBit_6 : decode cX10_withBit 6 = .ok (.iload_n 1, 1) := by decide +kernel
theorem dX10_withBit_7 : decode cX10_withBit 7 = .ok (.ishl, 1) := by decide +kernel
theorem dX10_withBit_8 : decode cX10_withBit 8 = .ok (.ior, 1) := by decide +kernel
theorem dX10_withBit_9 : decode cX10_withBit 9 = .ok (.goto 10, 3) := by decide +kernel
theorem dX10_withBit_12 : decode cX10_withBit 12 = .ok (.iload_n 0, 1) := by decide +kernel
theorem dX10_withBit_13 : decode cX10_withBit 13 = .ok (.iconst 1, 1) := by decide +kernel
theorem dX10_withBit_14 : decode cX10_withBit 14 = .ok (.iload_n 1, 1) := by decide +kernel
theorem dX10_withBit_15 : decode cX10_withBit 15 = .ok (.ishl, 1) := by decide +kernel
theorem dX10_withBit_16 : decode cX10_withBit 16 = .ok (.iconst (-1), 1) := by decide +kernel
theorem dX10_withBit_17 : decode cX10_withBit 17 = .ok (.ixor, 1) := by decide +kernel
theorem dX10_withBit_18 : decode cX10_withBit 18 = .ok (.iand, 1) := by decide +kernel
theorem dX10_withBit_19 : decode cX10_withBit 19 = .ok (.ireturn, 1) := by decide +kernel
theorem dX10_copyWeights_0 : decode cX10_copyWeights 0 = .ok (.iconst 0, 1) := by decide +kernel
theorem dX10_copyWeights_1 : decode cX10_copyWeights 1 = .ok (.istore_n 2, 1) := by decide +kernel
theorem dX10_copyWeights_2 : decode cX10_copyWeights 2 = .ok (.iload_n 2, 1) := by decide +kernel
theorem dX10_copyWeights_3 : decode cX10_copyWeights 3 = .ok (.iconst 3, 1) := by decide +kernel
theorem dX10_copyWeights_4 : decode cX10_copyWeights 4 = .ok (.if_icmp .ge 15, 3) := by decide +kernel
theorem dX10_copyWeights_7 : decode cX10_copyWeights 7 = .ok (.aload_n 1, 1) := by decide +kernel
theorem dX10_copyWeights_8 : decode cX10_copyWeights 8 = .ok (.iload_n 2, 1) := by decide +kernel
theorem dX10_copyWeights_9 : decode cX10_copyWeights 9 = .ok (.aload_n 0, 1) := by decide +kernel
theorem dX10_copyWeights_10 : decode cX10_copyWeights 10 = .ok (.iload_n 2, 1) := by decide +kernel
theorem dX10_copyWeights_11 : decode cX10_copyWeights 11 = .ok (.iaload, 1) := by decide +kernel
theorem dX10_copyWeights_12 : decode cX10_copyWeights 12 = .ok (.iastore, 1) := by decide +kernel
theorem dX10_copyWeights_13 : decode cX10_copyWeights 13 = .ok (.iinc 2 1, 3) := by decide +kernel
theorem dX10_copyWeights_16 : decode cX10_copyWeights 16 = .ok (.goto (-14), 3) := by decide +kernel
theorem dX10_copyWeights_19 : decode cX10_copyWeights 19 = .ok (.return_, 1) := by decide +kernel
theorem dX11_init_0 : decode cX11_init 0 = .ok (.aload_n 0, 1) := by decide +kernel
theorem dX11_init_1 : decode cX11_init 1 = .ok (.invokespecial 1, 3) := by decide +kernel
theorem dX11_init_4 : decode cX11_init 4 = .ok (.aload_n 0, 1) := by decide +kernel
theorem dX11_init_5 : decode cX11_init 5 = .ok (.bipush 18, 2) := by decide +kernel
theorem dX11_init_7 : decode cX11_init 7 = .ok (.newarray .int, 2) := by decide +kernel
theorem dX11_init_9 : decode cX11_init 9 = .ok (.putfield 7, 3) := by decide +kernel
theorem dX11_init_12 : decode cX11_init 12 = .ok (.aload_n 0, 1) := by decide +kernel
theorem dX11_init_13 : decode cX11_init 13 = .ok (.bipush 18, 2) := by decide +kernel
theorem dX11_init_15 : decode cX11_init 15 = .ok (.newarray .int, 2) := by decide +kernel
theorem dX11_init_17 : decode cX11_init 17 = .ok (.putfield 13, 3) := by decide +kernel
theorem dX11_init_20 : decode cX11_init 20 = .ok (.aload_n 0, 1) := by decide +kernel
theorem dX11_init_21 : decode cX11_init 21 = .ok (.iconst 3, 1) := by decide +kernel
theorem dX11_init_22 : decode cX11_init 22 = .ok (.newarray .int, 2) := by decide +kernel
theorem dX11_init_24 : decode cX11_init 24 = .ok (.dup, 1) := by decide +kernel
theorem dX11_init_25 : decode cX11_init 25 = .ok (.iconst 0, 1) := by decide +kernel
theorem dX11_init_26 : decode cX11_init 26 = .ok (.iconst 1, 1) := by decide +kernel
theorem dX11_init_27 : decode cX11_init 27 = .ok (.iastore, 1) := by decide +kernel
theorem dX11_init_28 : decode cX11_init 28 = .ok (.dup, 1) := by decide +kernel
theorem dX11_init_29 : decode cX11_init 29 = .ok (.iconst 1, 1) := by decide +kernel
theorem dX11_init_30 : decode cX11_init 30 = .ok (.iconst 1, 1) := by decide +kernel
theorem dX11_init_31 : decode cX11_init 31 = .ok (.iastore, 1) := by decide +kernel
theorem dX11_init_32 : decode cX11_init 32 = .ok (.dup, 1) := by decide +kernel
theorem dX11_init_33 : decode cX11_init 33 = .ok (.iconst 2, 1) := by decide +kernel
theorem dX11_init_34 : decode cX11_init 34 = .ok (.iconst 1, 1) := by decide +kernel
theorem dX11_init_35 : decode cX11_init 35 = .ok (.iastore, 1) := by decide +kernel
theorem dX11_init_36 : decode cX11_init 36 = .ok (.putfield 16, 3) := by decide +kernel
theorem dX11_init_39 : decode cX11_init 39 = .ok (.aload_n 0, 1) := by decide +kernel
theorem dX11_init_40 : decode cX11_init 40 = .ok (.iconst 1, 1) := by decide +kernel
theorem dX11_init_41 : decode cX11_init 41 = .ok (.putfield 19, 3) := by decide +kernel
theorem dX11_init_44 : decode cX11_init 44 = .ok (.aload_n 0, 1) := by decide +kernel
theorem dX11_init_45 : decode cX11_init 45 = .ok (.bipush 6, 2) := by decide +kernel
theorem dX11_init_47 : decode cX11_init 47 = .ok (.newarray .int, 2) := by decide +kernel
theorem dX11_init_49 : decode cX11_init 49 = .ok (.putfield 23, 3) := by decide +kernel
theorem dX11_init_52 : decode cX11_init 52 = .ok (.aload_n 0, 1) := by decide +kernel
theorem dX11_init_53 : decode cX11_init 53 = .ok (.bipush 18, 2) := by decide +kernel
theorem dX11_init_55 : decode cX11_init 55 = .ok (.newarray .int, 2) := by decide +kernel
theorem dX11_init_57 : decode cX11_init 57 = .ok (.putfield 26, 3) := by decide +kernel
theorem dX11_init_60 : decode cX11_init 60 = .ok (.aload_n 0, 1) := by decide +kernel
theorem dX11_init_61 : decode cX11_init 61 = .ok (.bipush 60, 2) := by decide +kernel
theorem dX11_init_63 : decode cX11_init 63 = .ok (.newarray .int, 2) := by decide +kernel
theorem dX11_init_65 : decode cX11_init 65 = .ok (.putfield 29, 3) := by decide +kernel
theorem dX11_init_68 : decode cX11_init 68 = .ok (.aload_n 0, 1) := by decide +kernel
theorem dX11_init_69 : decode cX11_init 69 = .ok (.bipush 90, 2) := by decide +kernel
theorem dX11_init_71 : decode cX11_init 71 = .ok (.newarray .int, 2) := by decide +kernel
theorem dX11_init_73 : decode cX11_init 73 = .ok (.putfield 32, 3) := by decide +kernel
theorem dX11_init_76 : decode cX11_init 76 = .ok (.aload_n 0, 1) := by decide +kernel
theorem dX11_init_77 : decode cX11_init 77 = .ok (.bipush 20, 2) := by decide +kernel
theorem dX11_init_79 : decode cX11_init 79 = .ok (.newarray .int, 2) := by decide +kernel
theorem dX11_init_81 : decode cX11_init 81 = .ok (.putfield 35, 3) := by decide +kernel
theorem dX11_init_84 : decode cX11_init 84 = .ok (.aload_n 0, 1) := by decide +kernel
theorem dX11_init_85 : decode cX11_init 85 = .ok (.bipush 64, 2) := by decide +kernel
theorem dX11_init_87 : decode cX11_init 87 = .ok (.newarray .long, 2) := by decide +kernel
theorem dX11_init_89 : decode cX11_init 89 = .ok (.putfield 38, 3) := by decide +kernel
theorem dX11_init_92 : decode cX11_init 92 = .ok (.aload_n 0, 1) := by decide +kernel
theorem dX11_init_93 : decode cX11_init 93 = .ok (.bipush 64, 2) := by decide +kernel
theorem dX11_init_95 : decode cX11_init 95 = .ok (.newarray .long, 2) := by decide +kernel
theorem dX11_init_97 : decode cX11_init 97 = .ok (.putfield 42, 3) := by decide +kernel
theorem dX11_init_100 : decode cX11_init 100 = .ok (.aload_n 0, 1) := by decide +kernel
theorem dX11_init_101 : decode cX11_init 101 = .ok (.sipush 216, 3) := by decide +kernel
