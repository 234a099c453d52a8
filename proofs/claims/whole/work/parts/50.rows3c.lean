set_option maxRecDepth 20000 in
theorem gX11_isLoopState_X11_finds : GoodIn wsX11_isLoopState (wsV RX11 294 RX11 yX11_finds wsX11_finds) := goodIn_app (goodIn_of _ (by decide +kernel)) ggX11_isLoopState_X11_finds
theorem dX11_isLoopState_0 : decode cX11_isLoopState 0 = .ok (.aload_n 0, 1) := by decide +kernel
theorem dX11_isLoopState_1 : decode cX11_isLoopState 1 = .ok (.iload_n 1, 1) := by decide +kernel
theorem dX11_isLoopState_2 : decode cX11_isLoopState 2 = .ok (.invokevirtual 132, 3) := by decide +kernel
theorem dX11_isLoopState_5 : decode cX11_isLoopState 5 = .ok (.ifCond .ne 5, 3) := by decide +kernel
theorem dX11_isLoopState_8 : decode cX11_isLoopState 8 = .ok (.iconst (-1), 1) := by decide +kernel
theorem dX11_isLoopState_9 : decode cX11_isLoopState 9 = .ok (.ireturn, 1) := by decide +kernel
theorem dX11_isLoopState_10 : decode cX11_isLoopState 10 = .ok (.aload_n 0, 1) := by decide +kernel
theorem dX11_isLoopState_11 : decode cX11_isLoopState 11 = .ok (.invokevirtual 294, 3) := by decide +kernel
theorem dX11_isLoopState_14 : decode cX11_isLoopState 14 = .ok (.aload_n 0, 1) := by decide +kernel
theorem dX11_isLoopState_15 : decode cX11_isLoopState 15 = .ok (.getfield 282, 3) := by decide +kernel
theorem dX11_isLoopState_18 : decode cX11_isLoopState 18 = .ok (.iload_n 1, 1) := by decide +kernel
theorem dX11_isLoopState_19 : decode cX11_isLoopState 19 = .ok (.ishr, 1) := by decide +kernel
theorem dX11_isLoopState_20 : decode cX11_isLoopState 20 = .ok (.iconst 1, 1) := by decide +kernel
theorem dX11_isLoopState_21 : decode cX11_isLoopState 21 = .ok (.iand, 1) := by decide +kernel
theorem dX11_isLoopState_22 : decode cX11_isLoopState 22 = .ok (.ireturn, 1) := by decide +kernel
set_option maxRecDepth 20000 in
theorem ggX11_isSplitPair_X11_isState : GoodIn wsX11_isSplitPair wsX11_isState := goodIn_r _ [6, 7, 96, 97, 98, 99, 100, 101, 102, 103, 104, 105, 106, 107, 108, 109, 110, 111, 112, 113, 114, 115, 116, 117, 118, 119, 120, 121, 122, 123, 124, 125, 126, 127, 128, 129, 130, 131, 132, 133, 134, 135, 136, 137, 138, 139, 140, 141, 142, 143, 144, 145] (by decide +kernel) (by decide +kernel)
set_option maxRecDepth 20000 in
theorem gX11_isSplitPair_X11_isState : GoodIn wsX11_isSplitPair (wsV RX11 132 RX11 yX11_isState wsX11_isState) := goodIn_app (goodIn_of _ (by decide +kernel)) ggX11_isSplitPair_X11_isState
set_option maxRecDepth 20000 in
theorem ggX11_isSplitPair_X11_finds : GoodIn wsX11_isSplitPair wsX11_finds := goodIn_r _ [11, 12, 13, 14, 15, 1, 16, 17, 18, 5, 19, 20, 7, 21, 22, 23, 24, 25, 26, 27, 28, 29, 30, 31, 32, 33, 34, 35, 36, 37, 38, 39, 40, 41, 42, 43, 44, 45, 46, 47, 48, 49, 50, 51, 52, 53, 54, 55, 56, 57, 58, 59, 60, 61, 62, 63, 64, 65, 66, 67, 68, 69, 70, 71, 72, 73, 74, 75, 76, 77, 78, 79, 80, 81, 82, 83, 84, 85, 86, 87, 88, 89, 90, 91, 92, 93, 94, 95, 96, 97, 98, 99, 100, 101, 102, 103, 104, 105, 106, 107, 108, 109, 110, 111, 112, 113, 114, 115, 116, 117, 118, 119, 120, 121, 122, 123, 124, 125, 126, 127, 128, 129, 130, 131, 132, 133, 134, 135, 136, 137, 138, 139, 140, 141, 142, 143, 144, 145] (by rfl) (by decide +kernel)
set_option maxRecDepth 20000 in
theorem gX11_isSplitPair_X11_finds : GoodIn wsX11_isSplitPair (wsV RX11 294 RX11 yX11_finds wsX11_finds) := goodIn_app (goodIn_of _ (by decide +kernel)) ggX11_isSplitPair_X11_finds
theorem dX11_isSplitPair_0 : decode cX11_isSplitPair 0 = .ok (.aload_n 0, 1) := by decide +kernel
theorem dX11_isSplitPair_1 : decode cX11_isSplitPair 1 = .ok (.iload_n 1, 1) := by decide +kernel
theorem dX11_isSplitPair_2 : decode cX11_isSplitPair 2 = .ok (.invokevirtual 132, 3) := by decide +kernel
theorem dX11_isSplitPair_5 : decode cX11_isSplitPair 5 = .ok (.ifCond .eq 11, 3) := by decide +kernel
theorem dX11_isSplitPair_8 : decode cX11_isSplitPair 8 = .ok (.aload_n 0, 1) := by decide +kernel
theorem dX11_isSplitPair_9 : decode cX11_isSplitPair 9 = .ok (.iload_n 2, 1) := by decide +kernel
theorem dX11_isSplitPair_10 : decode cX11_isSplitPair 10 = .ok (.invokevirtual 132, 3) := by decide +kernel
theorem dX11_isSplitPair_13 : decode cX11_isSplitPair 13 = .ok (.ifCond .ne 5, 3) := by decide +kernel
theorem dX11_isSplitPair_16 : decode cX11_isSplitPair 16 = .ok (.iconst (-1), 1) := by decide +kernel
theorem dX11_isSplitPair_17 : decode cX11_isSplitPair 17 = .ok (.ireturn, 1) := by decide +kernel
theorem dX11_isSplitPair_18 : decode cX11_isSplitPair 18 = .ok (.aload_n 0, 1) := by decide +kernel
theorem dX11_isSplitPair_19 : decode cX11_isSplitPair 19 = .ok (.invokevirtual 294, 3) := by decide +kernel
theorem dX11_isSplitPair_22 : decode cX11_isSplitPair 22 = .ok (.aload_n 0, 1) := by decide +kernel
theorem dX11_isSplitPair_23 : decode cX11_isSplitPair 23 = .ok (.getfield 61, 3) := by decide +kernel
theorem dX11_isSplitPair_26 : decode cX11_isSplitPair 26 = .ok (.bipush 6, 2) := by decide +kernel
theorem dX11_isSplitPair_28 : decode cX11_isSplitPair 28 = .ok (.iload_n 1, 1) := by decide +kernel
theorem dX11_isSplitPair_29 : decode cX11_isSplitPair 29 = .ok (.imul, 1) := by decide +kernel
theorem dX11_isSplitPair_30 : decode cX11_isSplitPair 30 = .ok (.iload_n 2, 1) := by decide +kernel
theorem dX11_isSplitPair_31 : decode cX11_isSplitPair 31 = .ok (.iadd, 1) := by decide +kernel
theorem dX11_isSplitPair_32 : decode cX11_isSplitPair 32 = .ok (.baload, 1) := by decide +kernel
theorem dX11_isSplitPair_33 : decode cX11_isSplitPair 33 = .ok (.ifCond .eq 7, 3) := by decide +kernel
theorem dX11_isSplitPair_36 : decode cX11_isSplitPair 36 = .ok (.iconst 1, 1) := by decide +kernel
theorem dX11_isSplitPair_37 : decode cX11_isSplitPair 37 = .ok (.goto 4, 3) := by decide +kernel
theorem dX11_isSplitPair_40 : decode cX11_isSplitPair 40 = .ok (.iconst 0, 1) := by decide +kernel
theorem dX11_isSplitPair_41 : decode cX11_isSplitPair 41 = .ok (.ireturn, 1) := by decide +kernel
set_option maxRecDepth 20000 in
theorem ggX11_lowest_X11_has : GoodIn wsX11_lowest wsX11_has := goodIn_r _ [4] (by decide +kernel) (by decide +kernel)
set_option maxRecDepth 20000 in
theorem gX11_lowest_X11_has : GoodIn wsX11_lowest (va_wsS RX11 139 yX11_has wsX11_has) := goodIn_app (goodIn_of _ (by decide +kernel)) ggX11_lowest_X11_has
theorem dX11_lowest_0 : decode cX11_lowest 0 = .ok (.iconst 0, 1) := by decide +kernel
theorem dX11_lowest_1 : decode cX11_lowest 1 = .ok (.istore_n 1, 1) := by decide +kernel
theorem dX11_lowest_2 : decode cX11_lowest 2 = .ok (.iload_n 0, 1) := by decide +kernel
theorem dX11_lowest_3 : decode cX11_lowest 3 = .ok (.i2l, 1) := by decide +kernel
theorem dX11_lowest_4 : decode cX11_lowest 4 = .ok (.iload_n 1, 1) := by decide +kernel
theorem dX11_lowest_5 : decode cX11_lowest 5 = .ok (.invokestatic 139, 3) := by decide +kernel
theorem dX11_lowest_8 : decode cX11_lowest 8 = .ok (.ifCond .ne 9, 3) := by decide +kernel
theorem dX11_lowest_11 : decode cX11_lowest 11 = .ok (.iinc 1 1, 3) := by decide +kernel
theorem dX11_lowest_14 : decode cX11_lowest 14 = .ok (.goto (-12), 3) := by decide +kernel
theorem dX11_lowest_17 : decode cX11_lowest 17 = .ok (.iload_n 1, 1) := by decide +kernel
theorem dX11_lowest_18 : decode cX11_lowest 18 = .ok (.ireturn, 1) := by decide +kernel
theorem dX11_firstSplit_0 : decode cX11_firstSplit 0 = .ok (.iconst 0, 1) := by decide +kernel
theorem dX11_firstSplit_1 : decode cX11_firstSplit 1 = .ok (.istore_n 1, 1) := by decide +kernel
theorem dX11_firstSplit_2 : decode cX11_firstSplit 2 = .ok (.aload_n 0, 1) := by decide +kernel
theorem dX11_firstSplit_3 : decode cX11_firstSplit 3 = .ok (.getfield 61, 3) := by decide +kernel
theorem dX11_firstSplit_6 : decode cX11_firstSplit 6 = .ok (.iload_n 1, 1) := by decide +kernel
theorem dX11_firstSplit_7 : decode cX11_firstSplit 7 = .ok (.baload, 1) := by decide +kernel
theorem dX11_firstSplit_8 : decode cX11_firstSplit 8 = .ok (.ifCond .ne 9, 3) := by decide +kernel
theorem dX11_firstSplit_11 : decode cX11_firstSplit 11 = .ok (.iinc 1 1, 3) := by decide +kernel
theorem dX11_firstSplit_14 : decode cX11_firstSplit 14 = .ok (.goto (-12), 3) := by decide +kernel
theorem dX11_firstSplit_17 : decode cX11_firstSplit 17 = .ok (.iload_n 1, 1) := by decide +kernel
theorem dX11_firstSplit_18 : decode cX11_firstSplit 18 = .ok (.ireturn, 1) := by decide +kernel
set_option maxRecDepth 20000 in
theorem ggX11_witnessState_X11_isBetween : GoodIn wsX11_witnessState wsX11_isBetween := goodIn_r _ [7] (by decide +kernel) (by decide +kernel)
set_option maxRecDepth 20000 in
theorem gX11_witnessState_X11_isBetween : GoodIn wsX11_witnessState (va_wsS RX11 124 yX11_isBetween wsX11_isBetween) := goodIn_app (goodIn_of _ (by decide +kernel)) ggX11_witnessState_X11_isBetween
set_option maxRecDepth 20000 in
theorem ggX11_witnessState_X11_finds : GoodIn wsX11_witnessState wsX11_finds := goodIn_r _ [11, 12, 13, 2, 3, 14, 15, 16, 17, 6, 18, 19, 20, 21, 22, 23, 24, 25, 26, 27, 28, 29, 30, 31, 32, 33, 34, 35, 36, 37, 38, 39, 40, 41, 42, 43, 44, 45, 46, 47, 48, 49, 50, 51, 52, 53, 54, 55, 56, 57, 58, 59, 60, 61, 62, 63, 64, 65, 66, 67, 68, 69, 70, 71, 72, 73, 74, 75, 76, 77, 78, 79, 80, 81, 82, 83, 84, 85, 86, 87, 88, 89, 90, 91, 92, 93, 94, 95, 103, 104, 105, 106, 107, 108, 109, 110, 111, 112, 113, 114, 115, 116, 117, 118, 119, 120, 121, 122, 123, 124, 125, 126, 127, 128, 129, 130, 131, 132, 133, 134, 135, 136, 137, 138, 139, 140, 141, 142, 143, 144, 145, 146, 147, 148, 149, 150, 151, 152] (by rfl) (by decide +kernel)
set_option maxRecDepth 20000 in
theorem gX11_witnessState_X11_finds : GoodIn wsX11_witnessState (wsV RX11 294 RX11 yX11_finds wsX11_finds) := goodIn_app (goodIn_of _ (by decide +kernel)) ggX11_witnessState_X11_finds
set_option maxRecDepth 20000 in
theorem ggX11_witnessState_X11_lowest : GoodIn wsX11_witnessState wsX11_lowest := goodIn_r _ [98, 31, 32, 6, 33] (by decide +kernel) (by decide +kernel)
set_option maxRecDepth 20000 in
theorem gX11_witnessState_X11_lowest : GoodIn wsX11_witnessState (va_wsS RX11 312 yX11_lowest wsX11_lowest) := goodIn_app (goodIn_of _ (by decide +kernel)) ggX11_witnessState_X11_lowest
set_option maxRecDepth 20000 in
theorem ggX11_witnessState_X11_firstSplit : GoodIn wsX11_witnessState wsX11_firstSplit := goodIn_r _ [102, 14, 103, 104, 105, 106, 107, 108, 109, 110, 111, 112, 113, 114, 115, 116, 117, 118, 119, 120, 121, 122, 123, 124, 125, 126, 127, 128, 129, 130, 131, 132, 133, 134, 135, 136, 137, 138, 139, 140, 141, 142, 143, 144, 145, 146, 147, 148, 149, 150, 151, 152] (by decide +kernel) (by decide +kernel)
set_option maxRecDepth 20000 in
theorem gX11_witnessState_X11_firstSplit : GoodIn wsX11_witnessState (wsV RX11 315 RX11 yX11_firstSplit wsX11_firstSplit) := goodIn_app (goodIn_of _ (by decide +kernel)) ggX11_witnessState_X11_firstSplit
theorem dX11_witnessState_0 : decode cX11_witnessState 0 = .ok (.iload_n 1, 1) := by decide +kernel
theorem dX11_witnessState_1 : decode cX11_witnessState 1 = .ok (.i2l, 1) := by decide +kernel
theorem dX11_witnessState_2 : decode cX11_witnessState 2 = .ok (.lconst 1, 1) := by decide +kernel
theorem dX11_witnessState_3 : decode cX11_witnessState 3 = .ok (.ldc2_w 310, 3) := by decide +kernel
theorem dX11_witnessState_6 : decode cX11_witnessState 6 = .ok (.invokestatic 124, 3) := by decide +kernel
theorem dX11_witnessState_9 : decode cX11_witnessState 9 = .ok (.ifCond .ne 5, 3) := by decide +kernel
theorem dX11_witnessState_12 : decode cX11_witnessState 12 = .ok (.iconst (-1), 1) := by decide +kernel
theorem dX11_witnessState_13 : decode cX11_witnessState 13 = .ok (.ireturn, 1) := by decide +kernel
theorem dX11_witnessState_14 : decode cX11_witnessState 14 = .ok (.aload_n 0, 1) := by decide +kernel
theorem dX11_witnessState_15 : decode cX11_witnessState 15 = .ok (.invokevirtual 294, 3) := by decide +kernel
theorem dX11_witnessState_18 : decode cX11_witnessState 18 = .ok (.iload_n 1, 1) := by decide +kernel
theorem dX11_witnessState_19 : decode cX11_witnessState 19 = .ok (.iconst 1, 1) := by decide +kernel
theorem dX11_witnessState_20 : decode cX11_witnessState 20 = .ok (.if_icmp .ne 23, 3) := by decide +kernel
theorem dX11_witnessState_23 : decode cX11_witnessState 23 = .ok (.aload_n 0, 1) := by decide +kernel
theorem dX11_witnessState_24 : decode cX11_witnessState 24 = .ok (.getfield 282, 3) := by decide +kernel
theorem dX11_witnessState_27 : decode cX11_witnessState 27 = .ok (.ifCond .ne 8, 3) := by decide +kernel
theorem dX11_witnessState_30 : decode cX11_witnessState 30 = .ok (.bipush (-4), 2) := by decide +kernel
theorem dX11_witnessState_32 : decode cX11_witnessState 32 = .ok (.goto 10, 3) := by decide +kernel
theorem dX11_witnessState_35 : decode cX11_witnessState 35 = .ok (.aload_n 0, 1) := by decide +kernel
theorem dX11_witnessState_36 : decode cX11_witnessState 36 = .ok (.getfield 282, 3) := by decide +kernel
theorem dX11_witnessState_39 : decode cX11_witnessState 39 = .ok (.invokestatic 312, 3) := by decide +kernel
theorem dX11_witnessState_42 : decode cX11_witnessState 42 = .ok (.ireturn, 1) := by decide +kernel
theorem dX11_witnessState_43 : decode cX11_witnessState 43 = .ok (.aload_n 0, 1) := by decide +kernel
theorem dX11_witnessState_44 : decode cX11_witnessState 44 = .ok (.getfield 285, 3) := by decide +kernel
theorem dX11_witnessState_47 : decode cX11_witnessState 47 = .ok (.ifCond .ne 8, 3) := by decide +kernel
theorem dX11_witnessState_50 : decode cX11_witnessState 50 = .ok (.bipush (-4), 2) := by decide +kernel
theorem dX11_witnessState_52 : decode cX11_witnessState 52 = .ok (.goto 21, 3) := by decide +kernel
theorem dX11_witnessState_55 : decode cX11_witnessState 55 = .ok (.aload_n 0, 1) := by decide +kernel
theorem dX11_witnessState_56 : decode cX11_witnessState 56 = .ok (.invokevirtual 315, 3) := by decide +kernel
theorem dX11_witnessState_59 : decode cX11_witnessState 59 = .ok (.bipush 6, 2) := by decide +kernel
theorem dX11_witnessState_61 : decode cX11_witnessState 61 = .ok (.idiv, 1) := by decide +kernel
theorem dX11_witnessState_62 : decode cX11_witnessState 62 = .ok (.bipush 8, 2) := by decide +kernel
theorem dX11_witnessState_64 : decode cX11_witnessState 64 = .ok (.imul, 1) := by decide +kernel
theorem dX11_witnessState_65 : decode cX11_witnessState 65 = .ok (.aload_n 0, 1) := by decide +kernel
theorem dX11_witnessState_66 : decode cX11_witnessState 66 = .ok (.invokevirtual 315, 3) := by decide +kernel
theorem dX11_witnessState_69 : decode cX11_witnessState 69 = .ok (.bipush 6, 2) := by decide +kernel
theorem dX11_witnessState_71 : decode cX11_witnessState 71 = .ok (.irem, 1) := by decide +kernel
theorem dX11_witnessState_72 : decode cX11_witnessState 72 = .ok (.iadd, 1) := by decide +kernel
theorem dX11_witnessState_73 : decode cX11_witnessState 73 = .ok (.ireturn, 1) := by decide +kernel
set_option maxRecDepth 20000 in
theorem ggX11_findLightest_X11_has : GoodIn wsX11_findLightest wsX11_has := goodIn_r _ [11] (by decide +kernel) (by decide +kernel)
set_option maxRecDepth 20000 in
theorem gX11_findLightest_X11_has : GoodIn wsX11_findLightest (va_wsS RX11 139 yX11_has wsX11_has) := goodIn_app (goodIn_of _ (by decide +kernel)) ggX11_findLightest_X11_has
theorem dX11_findLightest_0 : decode cX11_findLightest 0 = .ok (.iconst 0, 1) := by decide +kernel
theorem dX11_findLightest_1 : decode cX11_findLightest 1 = .ok (.istore_n 1, 1) := by decide +kernel
theorem dX11_findLightest_2 : decode cX11_findLightest 2 = .ok (.iload_n 1, 1) := by decide +kernel
theorem dX11_findLightest_3 : decode cX11_findLightest 3 = .ok (.bipush 6, 2) := by decide +kernel
theorem dX11_findLightest_5 : decode cX11_findLightest 5 = .ok (.if_icmp .ge 34, 3) := by decide +kernel
theorem dX11_findLightest_8 : decode cX11_findLightest 8 = .ok (.aload_n 0, 1) := by decide +kernel
theorem dX11_findLightest_9 : decode cX11_findLightest 9 = .ok (.getfield 73, 3) := by decide +kernel
theorem dX11_findLightest_12 : decode cX11_findLightest 12 = .ok (.iload_n 1, 1) := by decide +kernel
theorem dX11_findLightest_13 : decode cX11_findLightest 13 = .ok (.aload_n 0, 1) := by decide +kernel
theorem dX11_findLightest_14 : decode cX11_findLightest 14 = .ok (.getfield 115, 3) := by decide +kernel
theorem dX11_findLightest_17 : decode cX11_findLightest 17 = .ok (.i2l, 1) := by decide +kernel
theorem dX11_findLightest_18 : decode cX11_findLightest 18 = .ok (.iload_n 1, 1) := by decide +kernel
theorem dX11_findLightest_19 : decode cX11_findLightest 19 = .ok (.invokestatic 139, 3) := by decide +kernel
theorem dX11_findLightest_22 : decode cX11_findLightest 22 = .ok (.ifCond .eq 7, 3) := by decide +kernel
theorem dX11_findLightest_25 : decode cX11_findLightest 25 = .ok (.iconst 0, 1) := by decide +kernel
theorem dX11_findLightest_26 : decode cX11_findLightest 26 = .ok (.goto 6, 3) := by decide +kernel
theorem dX11_findLightest_29 : decode cX11_findLightest 29 = .ok (.ldc_w 318, 3) := by decide +kernel
theorem dX11_findLightest_32 : decode cX11_findLightest 32 = .ok (.iastore, 1) := by decide +kernel
theorem dX11_findLightest_33 : decode cX11_findLightest 33 = .ok (.iinc 1 1, 3) := by decide +kernel
theorem dX11_findLightest_36 : decode cX11_findLightest 36 = .ok (.goto (-34), 3) := by decide +kernel
theorem dX11_findLightest_39 : decode cX11_findLightest 39 = .ok (.iconst 0, 1) := by decide +kernel
theorem dX11_findLightest_40 : decode cX11_findLightest 40 = .ok (.istore_n 1, 1) := by decide +kernel
theorem dX11_findLightest_41 : decode cX11_findLightest 41 = .ok (.iload_n 1, 1) := by decide +kernel
theorem dX11_findLightest_42 : decode cX11_findLightest 42 = .ok (.bipush 12, 2) := by decide +kernel
theorem dX11_findLightest_44 : decode cX11_findLightest 44 = .ok (.if_icmp .ge 116, 3) := by decide +kernel
theorem dX11_findLightest_47 : decode cX11_findLightest 47 = .ok (.iconst 0, 1) := by decide +kernel
theorem dX11_findLightest_48 : decode cX11_findLightest 48 = .ok (.istore_n 2, 1) := by decide +kernel
theorem dX11_findLightest_49 : decode cX11_findLightest 49 = .ok (.iload_n 2, 1) := by decide +kernel
theorem dX11_findLightest_50 : decode cX11_findLightest 50 = .ok (.aload_n 0, 1) := by decide +kernel
theorem dX11_findLightest_51 : decode cX11_findLightest 51 = .ok (.getfield 19, 3) := by decide +kernel
theorem dX11_findLightest_54 : decode cX11_findLightest 54 = .ok (.if_icmp .ge 100, 3) := by decide +kernel
theorem dX11_findLightest_57 : decode cX11_findLightest 57 = .ok (.iconst 0, 1) := by decide +kernel
theorem dX11_findLightest_58 : decode cX11_findLightest 58 = .ok (.istore_n 3, 1) := by decide +kernel
theorem dX11_findLightest_59 : decode cX11_findLightest 59 = .ok (.iload_n 3, 1) := by decide +kernel
theorem dX11_findLightest_60 : decode cX11_findLightest 60 = .ok (.iconst 3, 1) := by decide +kernel
theorem dX11_findLightest_61 : decode cX11_findLightest 61 = .ok (.if_icmp .ge 87, 3) := by decide +kernel
theorem dX11_findLightest_64 : decode cX11_findLightest 64 = .ok (.iconst 0, 1) := by decide +kernel
theorem dX11_findLightest_65 : decode cX11_findLightest 65 = .ok (.istore 4, 2) := by decide +kernel
theorem dX11_findLightest_67 : decode cX11_findLightest 67 = .ok (.iload 4, 2) := by decide +kernel
theorem dX11_findLightest_69 : decode cX11_findLightest 69 = .ok (.aload_n 0, 1) := by decide +kernel
theorem dX11_findLightest_70 : decode cX11_findLightest 70 = .ok (.getfield 19, 3) := by decide +kernel
theorem dX11_findLightest_73 : decode cX11_findLightest 73 = .ok (.if_icmp .ge 69, 3) := by decide +kernel
theorem dX11_findLightest_76 : decode cX11_findLightest 76 = .ok (.aload_n 0, 1) := by decide +kernel
theorem dX11_findLightest_77 : decode cX11_findLightest 77 = .ok (.getfield 73, 3) := by decide +kernel
theorem dX11_findLightest_80 : decode cX11_findLightest 80 = .ok (.iload 4, 2) := by decide +kernel
theorem dX11_findLightest_82 : decode cX11_findLightest 82 = .ok (.iaload, 1) := by decide +kernel
theorem dX11_findLightest_83 : decode cX11_findLightest 83 = .ok (.bipush 16, 2) := by decide +kernel
theorem dX11_findLightest_85 : decode cX11_findLightest 85 = .ok (.aload_n 0, 1) := by decide +kernel
theorem dX11_findLightest_86 : decode cX11_findLightest 86 = .ok (.getfield 16, 3) := by decide +kernel
theorem dX11_findLightest_89 : decode cX11_findLightest 89 = .ok (.iload_n 3, 1) := by decide +kernel
theorem dX11_findLightest_90 : decode cX11_findLightest 90 = .ok (.iaload, 1) := by decide +kernel
theorem dX11_findLightest_91 : decode cX11_findLightest 91 = .ok (.imul, 1) := by decide +kernel
theorem dX11_findLightest_92 : decode cX11_findLightest 92 = .ok (.iadd, 1) := by decide +kernel
theorem dX11_findLightest_93 : decode cX11_findLightest 93 = .ok (.iconst 1, 1) := by decide +kernel
theorem dX11_findLightest_94 : decode cX11_findLightest 94 = .ok (.iadd, 1) := by decide +kernel
theorem dX11_findLightest_95 : decode cX11_findLightest 95 = .ok (.istore 5, 2) := by decide +kernel
theorem dX11_findLightest_97 : decode cX11_findLightest 97 = .ok (.aload_n 0, 1) := by decide +kernel
theorem dX11_findLightest_98 : decode cX11_findLightest 98 = .ok (.getfield 7, 3) := by decide +kernel
theorem dX11_findLightest_101 : decode cX11_findLightest 101 = .ok (.bipush 6, 2) := by decide +kernel
theorem dX11_findLightest_103 : decode cX11_findLightest 103 = .ok (.iload_n 3, 1) := by decide +kernel
theorem dX11_findLightest_104 : decode cX11_findLightest 104 = .ok (.imul, 1) := by decide +kernel
theorem dX11_findLightest_105 : decode cX11_findLightest 105 = .ok (.iload_n 2, 1) := by decide +kernel
theorem dX11_findLightest_106 : decode cX11_findLightest 106 = .ok (.iadd, 1) := by decide +kernel
theorem dX11_findLightest_107 : decode cX11_findLightest 107 = .ok (.iaload, 1) := by decide +kernel
theorem dX11_findLightest_108 : decode cX11_findLightest 108 = .ok (.i2l, 1) := by decide +kernel
theorem dX11_findLightest_109 : decode cX11_findLightest 109 = .ok (.iload 4, 2) := by decide +kernel
theorem dX11_findLightest_111 : decode cX11_findLightest 111 = .ok (.invokestatic 139, 3) := by decide +kernel
theorem dX11_findLightest_114 : decode cX11_findLightest 114 = .ok (.ifCond .eq 22, 3) := by decide +kernel
theorem dX11_findLightest_117 : decode cX11_findLightest 117 = .ok (.iload 5, 2) := by decide +kernel
theorem dX11_findLightest_119 : decode cX11_findLightest 119 = .ok (.aload_n 0, 1) := by decide +kernel
theorem dX11_findLightest_120 : decode cX11_findLightest 120 = .ok (.getfield 73, 3) := by decide +kernel
theorem dX11_findLightest_123 : decode cX11_findLightest 123 = .ok (.iload_n 2, 1) := by decide +kernel
theorem dX11_findLightest_124 : decode cX11_findLightest 124 = .ok (.iaload, 1) := by decide +kernel
theorem dX11_findLightest_125 : decode cX11_findLightest 125 = .ok (.if_icmp .ge 11, 3) := by decide +kernel
theorem dX11_findLightest_128 : decode cX11_findLightest 128 = .ok (.aload_n 0, 1) := by decide +kernel
theorem dX11_findLightest_129 : decode cX11_findLightest 129 = .ok (.getfield 73, 3) := by decide +kernel
theorem dX11_findLightest_132 : decode cX11_findLightest 132 = .ok (.iload_n 2, 1) := by decide +kernel
theorem dX11_findLightest_133 : decode cX11_findLightest 133 = .ok (.iload 5, 2) := by decide +kernel
theorem dX11_findLightest_135 : decode cX11_findLightest 135 = .ok (.iastore, 1) := by decide +kernel
theorem dX11_findLightest_136 : decode cX11_findLightest 136 = .ok (.iinc 4 1, 3) := by decide +kernel
theorem dX11_findLightest_139 : decode cX11_findLightest 139 = .ok (.goto (-72), 3) := by decide +kernel
theorem dX11_findLightest_142 : decode cX11_findLightest 142 = .ok (.iinc 3 1, 3) := by decide +kernel
theorem dX11_findLightest_145 : decode cX11_findLightest 145 = .ok (.goto (-86), 3) := by decide +kernel
theorem dX11_findLightest_148 : decode cX11_findLightest 148 = .ok (.iinc 2 1, 3) := by decide +kernel
theorem dX11_findLightest_151 : decode cX11_findLightest 151 = .ok (.goto (-102), 3) := by decide +kernel
theorem dX11_findLightest_154 : decode cX11_findLightest 154 = .ok (.iinc 1 1, 3) := by decide +kernel
theorem dX11_findLightest_157 : decode cX11_findLightest 157 = .ok (.goto (-116), 3) := by decide +kernel
theorem dX11_findLightest_160 : decode cX11_findLightest 160 = .ok (.ldc_w 318, 3) := by decide +kernel
theorem dX11_findLightest_163 : decode cX11_findLightest 163 = .ok (.istore_n 1, 1) := by decide +kernel
theorem dX11_findLightest_164 : decode cX11_findLightest 164 = .ok (.iconst 0, 1) := by decide +kernel
theorem dX11_findLightest_165 : decode cX11_findLightest 165 = .ok (.istore_n 2, 1) := by decide +kernel
theorem dX11_findLightest_166 : decode cX11_findLightest 166 = .ok (.iload_n 2, 1) := by decide +kernel
theorem dX11_findLightest_167 : decode cX11_findLightest 167 = .ok (.aload_n 0, 1) := by decide +kernel
theorem dX11_findLightest_168 : decode cX11_findLightest 168 = .ok (.getfield 19, 3) := by decide +kernel
theorem dX11_findLightest_171 : decode cX11_findLightest 171 = .ok (.if_icmp .ge 42, 3) := by decide +kernel
theorem dX11_findLightest_174 : decode cX11_findLightest 174 = .ok (.aload_n 0, 1) := by decide +kernel
theorem dX11_findLightest_175 : decode cX11_findLightest 175 = .ok (.getfield 112, 3) := by decide +kernel
theorem dX11_findLightest_178 : decode cX11_findLightest 178 = .ok (.i2l, 1) := by decide +kernel
theorem dX11_findLightest_179 : decode cX11_findLightest 179 = .ok (.iload_n 2, 1) := by decide +kernel
theorem dX11_findLightest_180 : decode cX11_findLightest 180 = .ok (.invokestatic 139, 3) := by decide +kernel
theorem dX11_findLightest_183 : decode cX11_findLightest 183 = .ok (.ifCond .eq 22, 3) := by decide +kernel
theorem dX11_findLightest_186 : decode cX11_findLightest 186 = .ok (.aload_n 0, 1) := by decide +kernel
theorem dX11_findLightest_187 : decode cX11_findLightest 187 = .ok (.getfield 73, 3) := by decide +kernel
theorem dX11_findLightest_190 : decode cX11_findLightest 190 = .ok (.iload_n 2, 1) := by decide +kernel
theorem dX11_findLightest_191 : decode cX11_findLightest 191 = .ok (.iaload, 1) := by decide +kernel
theorem dX11_findLightest_192 : decode cX11_findLightest 192 = .ok (.iload_n 1, 1) := by decide +kernel
theorem dX11_findLightest_193 : decode cX11_findLightest 193 = .ok (.if_icmp .ge 12, 3) := by decide +kernel
theorem dX11_findLightest_196 : decode cX11_findLightest 196 = .ok (.aload_n 0, 1) := by decide +kernel
theorem dX11_findLightest_197 : decode cX11_findLightest 197 = .ok (.getfield 73, 3) := by decide +kernel
theorem dX11_findLightest_200 : decode cX11_findLightest 200 = .ok (.iload_n 2, 1) := by decide +kernel
theorem dX11_findLightest_201 : decode cX11_findLightest 201 = .ok (.iaload, 1) := by decide +kernel
theorem dX11_findLightest_202 : decode cX11_findLightest 202 = .ok (.goto 4, 3) := by decide +kernel
theorem dX11_findLightest_205 : decode cX11_findLightest 205 = .ok (.iload_n 1, 1) := by decide +kernel
theorem dX11_findLightest_206 : decode cX11_findLightest 206 = .ok (.istore_n 1, 1) := by decide +kernel
theorem dX11_findLightest_207 : decode cX11_findLightest 207 = .ok (.iinc 2 1, 3) := by decide +kernel
theorem dX11_findLightest_210 : decode cX11_findLightest 210 = .ok (.goto (-44), 3) := by decide +kernel
theorem dX11_findLightest_213 : decode cX11_findLightest 213 = .ok (.iload_n 1, 1) := by decide +kernel
theorem dX11_findLightest_214 : decode cX11_findLightest 214 = .ok (.ireturn, 1) := by decide +kernel
set_option maxRecDepth 20000 in
theorem ggX11_spellLightest_X11_findLightest : GoodIn wsX11_spellLightest wsX11_findLightest := goodIn_r _ [12, 4, 13, 1, 2, 7, 14, 3, 15, 16, 11, 17, 26, 27, 28, 29, 30, 31, 32, 33, 34, 35, 36, 37, 38, 39, 40, 41, 42, 43, 44, 45, 46, 47, 48, 49, 50, 51, 52, 53, 54, 55, 56, 57, 58, 59, 60, 61, 62, 63, 64, 65, 66, 67, 68, 69, 70, 71, 72, 73, 74, 75] (by rfl) (by decide +kernel)
set_option maxRecDepth 20000 in
theorem gX11_spellLightest_X11_findLightest : GoodIn wsX11_spellLightest (wsV RX11 319 RX11 yX11_findLightest wsX11_findLightest) := goodIn_app (goodIn_of _ (by decide +kernel)) ggX11_spellLightest_X11_findLightest
set_option maxRecDepth 20000 in
theorem ggX11_spellLightest_X11_has : GoodIn wsX11_spellLightest wsX11_has := goodIn_r _ [17] (by decide +kernel) (by decide +kernel)
set_option maxRecDepth 20000 in
theorem gX11_spellLightest_X11_has : GoodIn wsX11_spellLightest (va_wsS RX11 139 yX11_has wsX11_has) := goodIn_app (goodIn_of _ (by decide +kernel)) ggX11_spellLightest_X11_has
set_option maxRecDepth 20000 in
theorem ggX11_spellLightest_X11_goesLight : GoodIn wsX11_spellLightest wsX11_goesLight := goodIn_r _ [21, 2, 4, 7, 22, 23, 24, 11, 25, 14, 15, 16, 17, 26, 27, 28, 29, 30, 31, 32, 33, 34, 35, 36, 37, 38, 39, 40, 41, 42, 43, 44, 45, 46, 47, 48, 49, 50, 51, 52, 53, 54, 55, 56, 57, 58, 59, 60, 61, 62, 63, 64, 65, 66, 67, 68, 69, 70, 71, 72, 73, 74, 75] (by rfl) (by decide +kernel)
