set_option maxRecDepth 20000 in
theorem gX11_witnessLetter_X11_isBetween : GoodIn wsX11_witnessLetter (va_wsS RX11 124 yX11_isBetween wsX11_isBetween) := goodIn_app (goodIn_of _ (by decide +kernel)) ggX11_witnessLetter_X11_isBetween
set_option maxRecDepth 20000 in
theorem ggX11_witnessLetter_X11_spell : GoodIn wsX11_witnessLetter wsX11_spell := goodIn_r _ [10, 11, 12, 13, 14, 15, 16, 5, 17, 18, 19, 20, 21, 22, 23, 24, 25, 26, 27, 28, 29, 30, 31, 32, 33, 34, 35, 36, 37, 38, 39, 40, 41, 42, 43, 44, 45, 46, 47, 48, 49, 50, 51, 52, 53, 54, 55, 56, 57, 58, 59, 60, 61, 62, 63, 64, 65, 66, 67, 68, 69, 70, 71, 72, 73, 74, 75, 76, 2, 77, 78, 79, 80, 81, 82, 83, 84, 85, 86, 87, 88, 89, 90, 91, 92, 93, 94, 95, 96, 97, 98, 99, 100, 101, 102, 103, 104, 105, 106, 107, 108, 109, 110, 111, 112, 113, 114, 115, 116, 117, 118, 119, 120, 121, 122, 123, 124, 125, 126, 127, 128, 129, 130, 131, 132, 133, 134, 135, 136, 137, 138, 139, 140, 141, 142, 143, 144, 145, 146, 147, 148, 149, 150, 151, 152, 153, 154, 155, 156, 157, 158, 159, 160, 161, 162, 163, 164, 165, 166, 167, 168, 169, 170, 171] (by rfl) (by decide +kernel)
set_option maxRecDepth 20000 in
theorem gX11_witnessLetter_X11_spell : GoodIn wsX11_witnessLetter (wsV RX11 330 RX11 yX11_spell wsX11_spell) := goodIn_app (goodIn_of _ (by decide +kernel)) ggX11_witnessLetter_X11_spell
theorem dX11_witnessLetter_0 : decode cX11_witnessLetter 0 = .ok (.iload_n 1, 1) := by decide +kernel
theorem dX11_witnessLetter_1 : decode cX11_witnessLetter 1 = .ok (.i2l, 1) := by decide +kernel
theorem dX11_witnessLetter_2 : decode cX11_witnessLetter 2 = .ok (.lconst 0, 1) := by decide +kernel
theorem dX11_witnessLetter_3 : decode cX11_witnessLetter 3 = .ok (.ldc2_w 328, 3) := by decide +kernel
theorem dX11_witnessLetter_6 : decode cX11_witnessLetter 6 = .ok (.invokestatic 124, 3) := by decide +kernel
theorem dX11_witnessLetter_9 : decode cX11_witnessLetter 9 = .ok (.ifCond .ne 5, 3) := by decide +kernel
theorem dX11_witnessLetter_12 : decode cX11_witnessLetter 12 = .ok (.iconst (-1), 1) := by decide +kernel
theorem dX11_witnessLetter_13 : decode cX11_witnessLetter 13 = .ok (.ireturn, 1) := by decide +kernel
theorem dX11_witnessLetter_14 : decode cX11_witnessLetter 14 = .ok (.aload_n 0, 1) := by decide +kernel
theorem dX11_witnessLetter_15 : decode cX11_witnessLetter 15 = .ok (.iload_n 1, 1) := by decide +kernel
theorem dX11_witnessLetter_16 : decode cX11_witnessLetter 16 = .ok (.invokevirtual 330, 3) := by decide +kernel
theorem dX11_witnessLetter_19 : decode cX11_witnessLetter 19 = .ok (.istore_n 3, 1) := by decide +kernel
theorem dX11_witnessLetter_20 : decode cX11_witnessLetter 20 = .ok (.iload_n 2, 1) := by decide +kernel
theorem dX11_witnessLetter_21 : decode cX11_witnessLetter 21 = .ok (.i2l, 1) := by decide +kernel
theorem dX11_witnessLetter_22 : decode cX11_witnessLetter 22 = .ok (.lconst 0, 1) := by decide +kernel
theorem dX11_witnessLetter_23 : decode cX11_witnessLetter 23 = .ok (.iload_n 3, 1) := by decide +kernel
theorem dX11_witnessLetter_24 : decode cX11_witnessLetter 24 = .ok (.iconst 1, 1) := by decide +kernel
theorem dX11_witnessLetter_25 : decode cX11_witnessLetter 25 = .ok (.isub, 1) := by decide +kernel
theorem dX11_witnessLetter_26 : decode cX11_witnessLetter 26 = .ok (.i2l, 1) := by decide +kernel
theorem dX11_witnessLetter_27 : decode cX11_witnessLetter 27 = .ok (.invokestatic 124, 3) := by decide +kernel
theorem dX11_witnessLetter_30 : decode cX11_witnessLetter 30 = .ok (.ifCond .eq 12, 3) := by decide +kernel
theorem dX11_witnessLetter_33 : decode cX11_witnessLetter 33 = .ok (.aload_n 0, 1) := by decide +kernel
theorem dX11_witnessLetter_34 : decode cX11_witnessLetter 34 = .ok (.getfield 51, 3) := by decide +kernel
theorem dX11_witnessLetter_37 : decode cX11_witnessLetter 37 = .ok (.iload_n 2, 1) := by decide +kernel
theorem dX11_witnessLetter_38 : decode cX11_witnessLetter 38 = .ok (.iaload, 1) := by decide +kernel
theorem dX11_witnessLetter_39 : decode cX11_witnessLetter 39 = .ok (.goto 5, 3) := by decide +kernel
theorem dX11_witnessLetter_42 : decode cX11_witnessLetter 42 = .ok (.bipush (-4), 2) := by decide +kernel
theorem dX11_witnessLetter_44 : decode cX11_witnessLetter 44 = .ok (.ireturn, 1) := by decide +kernel
set_option maxRecDepth 20000 in
theorem ggX11_takeWitness_X11_isBetween : GoodIn wsX11_takeWitness wsX11_isBetween := goodIn_r _ [8] (by decide +kernel) (by decide +kernel)
set_option maxRecDepth 20000 in
theorem gX11_takeWitness_X11_isBetween : GoodIn wsX11_takeWitness (va_wsS RX11 124 yX11_isBetween wsX11_isBetween) := goodIn_app (goodIn_of _ (by decide +kernel)) ggX11_takeWitness_X11_isBetween
set_option maxRecDepth 20000 in
theorem ggX11_takeWitness_X11_spell : GoodIn wsX11_takeWitness wsX11_spell := goodIn_r _ [12, 13, 14, 15, 16, 17, 18, 7, 19, 20, 21, 22, 23, 24, 25, 26, 27, 28, 29, 30, 31, 32, 33, 34, 35, 36, 37, 38, 39, 40, 41, 42, 43, 44, 45, 46, 47, 48, 49, 50, 51, 52, 53, 54, 55, 56, 57, 58, 59, 60, 61, 62, 63, 64, 65, 66, 67, 68, 69, 70, 71, 72, 73, 74, 75, 76, 77, 78, 4, 79, 80, 81, 82, 83, 84, 85, 86, 87, 88, 89, 90, 91, 92, 93, 94, 95, 96, 97, 98, 99, 100, 101, 102, 103, 104, 105, 106, 107, 108, 109, 110, 111, 112, 113, 114, 115, 116, 117, 118, 119, 120, 121, 122, 123, 124, 125, 126, 127, 128, 129, 130, 131, 132, 133, 134, 135, 136, 137, 138, 139, 140, 141, 142, 143, 144, 145, 146, 147, 148, 149, 150, 151, 152, 153, 154, 155, 156, 157, 158, 159, 160, 161, 162, 163, 164, 165, 166, 167, 168, 169, 170, 171, 172, 173] (by rfl) (by decide +kernel)
set_option maxRecDepth 20000 in
theorem gX11_takeWitness_X11_spell : GoodIn wsX11_takeWitness (wsV RX11 330 RX11 yX11_spell wsX11_spell) := goodIn_app (goodIn_of _ (by decide +kernel)) ggX11_takeWitness_X11_spell
theorem dX11_takeWitness_0 : decode cX11_takeWitness 0 = .ok (.iload_n 1, 1) := by decide +kernel
theorem dX11_takeWitness_1 : decode cX11_takeWitness 1 = .ok (.i2l, 1) := by decide +kernel
theorem dX11_takeWitness_2 : decode cX11_takeWitness 2 = .ok (.lconst 0, 1) := by decide +kernel
theorem dX11_takeWitness_3 : decode cX11_takeWitness 3 = .ok (.ldc2_w 328, 3) := by decide +kernel
theorem dX11_takeWitness_6 : decode cX11_takeWitness 6 = .ok (.invokestatic 124, 3) := by decide +kernel
theorem dX11_takeWitness_9 : decode cX11_takeWitness 9 = .ok (.ifCond .ne 5, 3) := by decide +kernel
theorem dX11_takeWitness_12 : decode cX11_takeWitness 12 = .ok (.iconst (-1), 1) := by decide +kernel
theorem dX11_takeWitness_13 : decode cX11_takeWitness 13 = .ok (.ireturn, 1) := by decide +kernel
theorem dX11_takeWitness_14 : decode cX11_takeWitness 14 = .ok (.aload_n 0, 1) := by decide +kernel
theorem dX11_takeWitness_15 : decode cX11_takeWitness 15 = .ok (.iload_n 1, 1) := by decide +kernel
theorem dX11_takeWitness_16 : decode cX11_takeWitness 16 = .ok (.invokevirtual 330, 3) := by decide +kernel
theorem dX11_takeWitness_19 : decode cX11_takeWitness 19 = .ok (.istore_n 2, 1) := by decide +kernel
theorem dX11_takeWitness_20 : decode cX11_takeWitness 20 = .ok (.iload_n 2, 1) := by decide +kernel
theorem dX11_takeWitness_21 : decode cX11_takeWitness 21 = .ok (.ifCond .ge 6, 3) := by decide +kernel
theorem dX11_takeWitness_24 : decode cX11_takeWitness 24 = .ok (.bipush (-4), 2) := by decide +kernel
theorem dX11_takeWitness_26 : decode cX11_takeWitness 26 = .ok (.ireturn, 1) := by decide +kernel
theorem dX11_takeWitness_27 : decode cX11_takeWitness 27 = .ok (.iload_n 2, 1) := by decide +kernel
theorem dX11_takeWitness_28 : decode cX11_takeWitness 28 = .ok (.bipush 20, 2) := by decide +kernel
theorem dX11_takeWitness_30 : decode cX11_takeWitness 30 = .ok (.if_icmp .le 6, 3) := by decide +kernel
theorem dX11_takeWitness_33 : decode cX11_takeWitness 33 = .ok (.bipush (-3), 2) := by decide +kernel
theorem dX11_takeWitness_35 : decode cX11_takeWitness 35 = .ok (.ireturn, 1) := by decide +kernel
theorem dX11_takeWitness_36 : decode cX11_takeWitness 36 = .ok (.aload_n 0, 1) := by decide +kernel
theorem dX11_takeWitness_37 : decode cX11_takeWitness 37 = .ok (.iload_n 2, 1) := by decide +kernel
theorem dX11_takeWitness_38 : decode cX11_takeWitness 38 = .ok (.putfield 197, 3) := by decide +kernel
theorem dX11_takeWitness_41 : decode cX11_takeWitness 41 = .ok (.iconst 0, 1) := by decide +kernel
theorem dX11_takeWitness_42 : decode cX11_takeWitness 42 = .ok (.istore_n 3, 1) := by decide +kernel
theorem dX11_takeWitness_43 : decode cX11_takeWitness 43 = .ok (.iload_n 3, 1) := by decide +kernel
theorem dX11_takeWitness_44 : decode cX11_takeWitness 44 = .ok (.iload_n 2, 1) := by decide +kernel
theorem dX11_takeWitness_45 : decode cX11_takeWitness 45 = .ok (.if_icmp .ge 21, 3) := by decide +kernel
theorem dX11_takeWitness_48 : decode cX11_takeWitness 48 = .ok (.aload_n 0, 1) := by decide +kernel
theorem dX11_takeWitness_49 : decode cX11_takeWitness 49 = .ok (.getfield 35, 3) := by decide +kernel
theorem dX11_takeWitness_52 : decode cX11_takeWitness 52 = .ok (.iload_n 3, 1) := by decide +kernel
theorem dX11_takeWitness_53 : decode cX11_takeWitness 53 = .ok (.aload_n 0, 1) := by decide +kernel
theorem dX11_takeWitness_54 : decode cX11_takeWitness 54 = .ok (.getfield 51, 3) := by decide +kernel
theorem dX11_takeWitness_57 : decode cX11_takeWitness 57 = .ok (.iload_n 3, 1) := by decide +kernel
theorem dX11_takeWitness_58 : decode cX11_takeWitness 58 = .ok (.iaload, 1) := by decide +kernel
theorem dX11_takeWitness_59 : decode cX11_takeWitness 59 = .ok (.iastore, 1) := by decide +kernel
theorem dX11_takeWitness_60 : decode cX11_takeWitness 60 = .ok (.iinc 3 1, 3) := by decide +kernel
theorem dX11_takeWitness_63 : decode cX11_takeWitness 63 = .ok (.goto (-20), 3) := by decide +kernel
theorem dX11_takeWitness_66 : decode cX11_takeWitness 66 = .ok (.iload_n 2, 1) := by decide +kernel
theorem dX11_takeWitness_67 : decode cX11_takeWitness 67 = .ok (.ireturn, 1) := by decide +kernel
set_option maxRecDepth 20000 in
theorem ggX11_setWeight_X11_isLetter : GoodIn wsX11_setWeight wsX11_isLetter := goodIn_r _ [6] (by decide +kernel) (by decide +kernel)
set_option maxRecDepth 20000 in
theorem gX11_setWeight_X11_isLetter : GoodIn wsX11_setWeight (va_wsS RX11 136 yX11_isLetter wsX11_isLetter) := goodIn_app (goodIn_of _ (by decide +kernel)) ggX11_setWeight_X11_isLetter
set_option maxRecDepth 20000 in
theorem ggX11_setWeight_X11_isBetween : GoodIn wsX11_setWeight wsX11_isBetween := goodIn_r _ [9] (by decide +kernel) (by decide +kernel)
set_option maxRecDepth 20000 in
theorem gX11_setWeight_X11_isBetween : GoodIn wsX11_setWeight (va_wsS RX11 124 yX11_isBetween wsX11_isBetween) := goodIn_app (goodIn_of _ (by decide +kernel)) ggX11_setWeight_X11_isBetween
theorem dX11_setWeight_0 : decode cX11_setWeight 0 = .ok (.iload_n 1, 1) := by decide +kernel
theorem dX11_setWeight_1 : decode cX11_setWeight 1 = .ok (.invokestatic 136, 3) := by decide +kernel
theorem dX11_setWeight_4 : decode cX11_setWeight 4 = .ok (.ifCond .ne 5, 3) := by decide +kernel
theorem dX11_setWeight_7 : decode cX11_setWeight 7 = .ok (.iconst (-1), 1) := by decide +kernel
theorem dX11_setWeight_8 : decode cX11_setWeight 8 = .ok (.ireturn, 1) := by decide +kernel
theorem dX11_setWeight_9 : decode cX11_setWeight 9 = .ok (.iload_n 2, 1) := by decide +kernel
theorem dX11_setWeight_10 : decode cX11_setWeight 10 = .ok (.i2l, 1) := by decide +kernel
theorem dX11_setWeight_11 : decode cX11_setWeight 11 = .ok (.lconst 0, 1) := by decide +kernel
theorem dX11_setWeight_12 : decode cX11_setWeight 12 = .ok (.ldc2_w 333, 3) := by decide +kernel
theorem dX11_setWeight_15 : decode cX11_setWeight 15 = .ok (.invokestatic 124, 3) := by decide +kernel
theorem dX11_setWeight_18 : decode cX11_setWeight 18 = .ok (.ifCond .ne 6, 3) := by decide +kernel
theorem dX11_setWeight_21 : decode cX11_setWeight 21 = .ok (.bipush (-2), 2) := by decide +kernel
theorem dX11_setWeight_23 : decode cX11_setWeight 23 = .ok (.ireturn, 1) := by decide +kernel
theorem dX11_setWeight_24 : decode cX11_setWeight 24 = .ok (.aload_n 0, 1) := by decide +kernel
theorem dX11_setWeight_25 : decode cX11_setWeight 25 = .ok (.getfield 16, 3) := by decide +kernel
theorem dX11_setWeight_28 : decode cX11_setWeight 28 = .ok (.iload_n 1, 1) := by decide +kernel
theorem dX11_setWeight_29 : decode cX11_setWeight 29 = .ok (.iaload, 1) := by decide +kernel
theorem dX11_setWeight_30 : decode cX11_setWeight 30 = .ok (.istore_n 3, 1) := by decide +kernel
theorem dX11_setWeight_31 : decode cX11_setWeight 31 = .ok (.aload_n 0, 1) := by decide +kernel
theorem dX11_setWeight_32 : decode cX11_setWeight 32 = .ok (.getfield 16, 3) := by decide +kernel
theorem dX11_setWeight_35 : decode cX11_setWeight 35 = .ok (.iload_n 1, 1) := by decide +kernel
theorem dX11_setWeight_36 : decode cX11_setWeight 36 = .ok (.iload_n 2, 1) := by decide +kernel
theorem dX11_setWeight_37 : decode cX11_setWeight 37 = .ok (.iastore, 1) := by decide +kernel
theorem dX11_setWeight_38 : decode cX11_setWeight 38 = .ok (.iload_n 3, 1) := by decide +kernel
theorem dX11_setWeight_39 : decode cX11_setWeight 39 = .ok (.ireturn, 1) := by decide +kernel
set_option maxRecDepth 20000 in
theorem ggX11_lightestWeight_X11_findLightest : GoodIn wsX11_lightestWeight wsX11_findLightest := goodIn_r _ [6, 7, 8, 1, 9, 10, 11, 12, 13, 14, 5, 15, 16, 17, 18, 19, 20, 21, 22, 23, 24, 25, 26, 27, 28, 29, 30, 31, 32, 33, 34, 35, 36, 37, 38, 39, 40, 41, 42, 43, 44, 45, 46, 47, 48, 49, 50, 51, 52, 53, 54, 55, 56, 57, 58, 59, 60, 61, 62, 63, 64, 65] (by rfl) (by decide +kernel)
set_option maxRecDepth 20000 in
theorem gX11_lightestWeight_X11_findLightest : GoodIn wsX11_lightestWeight (wsV RX11 319 RX11 yX11_findLightest wsX11_findLightest) := goodIn_app (goodIn_of _ (by decide +kernel)) ggX11_lightestWeight_X11_findLightest
theorem dX11_lightestWeight_0 : decode cX11_lightestWeight 0 = .ok (.aload_n 0, 1) := by decide +kernel
theorem dX11_lightestWeight_1 : decode cX11_lightestWeight 1 = .ok (.invokevirtual 319, 3) := by decide +kernel
theorem dX11_lightestWeight_4 : decode cX11_lightestWeight 4 = .ok (.istore_n 1, 1) := by decide +kernel
theorem dX11_lightestWeight_5 : decode cX11_lightestWeight 5 = .ok (.iload_n 1, 1) := by decide +kernel
theorem dX11_lightestWeight_6 : decode cX11_lightestWeight 6 = .ok (.ldc_w 318, 3) := by decide +kernel
theorem dX11_lightestWeight_9 : decode cX11_lightestWeight 9 = .ok (.if_icmp .ne 8, 3) := by decide +kernel
theorem dX11_lightestWeight_12 : decode cX11_lightestWeight 12 = .ok (.bipush (-4), 2) := by decide +kernel
theorem dX11_lightestWeight_14 : decode cX11_lightestWeight 14 = .ok (.goto 7, 3) := by decide +kernel
theorem dX11_lightestWeight_17 : decode cX11_lightestWeight 17 = .ok (.iload_n 1, 1) := by decide +kernel
theorem dX11_lightestWeight_18 : decode cX11_lightestWeight 18 = .ok (.bipush 16, 2) := by decide +kernel
theorem dX11_lightestWeight_20 : decode cX11_lightestWeight 20 = .ok (.idiv, 1) := by decide +kernel
theorem dX11_lightestWeight_21 : decode cX11_lightestWeight 21 = .ok (.ireturn, 1) := by decide +kernel
theorem dX11_numberOfState_0 : decode cX11_numberOfState 0 = .ok (.iconst 0, 1) := by decide +kernel
theorem dX11_numberOfState_1 : decode cX11_numberOfState 1 = .ok (.istore_n 3, 1) := by decide +kernel
theorem dX11_numberOfState_2 : decode cX11_numberOfState 2 = .ok (.iload_n 3, 1) := by decide +kernel
theorem dX11_numberOfState_3 : decode cX11_numberOfState 3 = .ok (.aload_n 0, 1) := by decide +kernel
theorem dX11_numberOfState_4 : decode cX11_numberOfState 4 = .ok (.getfield 335, 3) := by decide +kernel
theorem dX11_numberOfState_7 : decode cX11_numberOfState 7 = .ok (.if_icmp .ge 31, 3) := by decide +kernel
theorem dX11_numberOfState_10 : decode cX11_numberOfState 10 = .ok (.aload_n 0, 1) := by decide +kernel
theorem dX11_numberOfState_11 : decode cX11_numberOfState 11 = .ok (.getfield 82, 3) := by decide +kernel
theorem dX11_numberOfState_14 : decode cX11_numberOfState 14 = .ok (.iload_n 3, 1) := by decide +kernel
theorem dX11_numberOfState_15 : decode cX11_numberOfState 15 = .ok (.iaload, 1) := by decide +kernel
theorem dX11_numberOfState_16 : decode cX11_numberOfState 16 = .ok (.iload_n 1, 1) := by decide +kernel
theorem dX11_numberOfState_17 : decode cX11_numberOfState 17 = .ok (.if_icmp .ne 15, 3) := by decide +kernel
theorem dX11_numberOfState_20 : decode cX11_numberOfState 20 = .ok (.aload_n 0, 1) := by decide +kernel
theorem dX11_numberOfState_21 : decode cX11_numberOfState 21 = .ok (.getfield 85, 3) := by decide +kernel
theorem dX11_numberOfState_24 : decode cX11_numberOfState 24 = .ok (.iload_n 3, 1) := by decide +kernel
theorem dX11_numberOfState_25 : decode cX11_numberOfState 25 = .ok (.iaload, 1) := by decide +kernel
theorem dX11_numberOfState_26 : decode cX11_numberOfState 26 = .ok (.iload_n 2, 1) := by decide +kernel
theorem dX11_numberOfState_27 : decode cX11_numberOfState 27 = .ok (.if_icmp .ne 5, 3) := by decide +kernel
theorem dX11_numberOfState_30 : decode cX11_numberOfState 30 = .ok (.iload_n 3, 1) := by decide +kernel
theorem dX11_numberOfState_31 : decode cX11_numberOfState 31 = .ok (.ireturn, 1) := by decide +kernel
theorem dX11_numberOfState_32 : decode cX11_numberOfState 32 = .ok (.iinc 3 1, 3) := by decide +kernel
theorem dX11_numberOfState_35 : decode cX11_numberOfState 35 = .ok (.goto (-33), 3) := by decide +kernel
theorem dX11_numberOfState_38 : decode cX11_numberOfState 38 = .ok (.aload_n 0, 1) := by decide +kernel
theorem dX11_numberOfState_39 : decode cX11_numberOfState 39 = .ok (.getfield 335, 3) := by decide +kernel
theorem dX11_numberOfState_42 : decode cX11_numberOfState 42 = .ok (.bipush 64, 2) := by decide +kernel
theorem dX11_numberOfState_44 : decode cX11_numberOfState 44 = .ok (.if_icmp .ne 5, 3) := by decide +kernel
theorem dX11_numberOfState_47 : decode cX11_numberOfState 47 = .ok (.iconst (-1), 1) := by decide +kernel
theorem dX11_numberOfState_48 : decode cX11_numberOfState 48 = .ok (.ireturn, 1) := by decide +kernel
theorem dX11_numberOfState_49 : decode cX11_numberOfState 49 = .ok (.aload_n 0, 1) := by decide +kernel
theorem dX11_numberOfState_50 : decode cX11_numberOfState 50 = .ok (.getfield 82, 3) := by decide +kernel
theorem dX11_numberOfState_53 : decode cX11_numberOfState 53 = .ok (.aload_n 0, 1) := by decide +kernel
theorem dX11_numberOfState_54 : decode cX11_numberOfState 54 = .ok (.getfield 335, 3) := by decide +kernel
theorem dX11_numberOfState_57 : decode cX11_numberOfState 57 = .ok (.iload_n 1, 1) := by decide +kernel
theorem dX11_numberOfState_58 : decode cX11_numberOfState 58 = .ok (.iastore, 1) := by decide +kernel
theorem dX11_numberOfState_59 : decode cX11_numberOfState 59 = .ok (.aload_n 0, 1) := by decide +kernel
theorem dX11_numberOfState_60 : decode cX11_numberOfState 60 = .ok (.getfield 85, 3) := by decide +kernel
theorem dX11_numberOfState_63 : decode cX11_numberOfState 63 = .ok (.aload_n 0, 1) := by decide +kernel
theorem dX11_numberOfState_64 : decode cX11_numberOfState 64 = .ok (.getfield 335, 3) := by decide +kernel
theorem dX11_numberOfState_67 : decode cX11_numberOfState 67 = .ok (.iload_n 2, 1) := by decide +kernel
theorem dX11_numberOfState_68 : decode cX11_numberOfState 68 = .ok (.iastore, 1) := by decide +kernel
theorem dX11_numberOfState_69 : decode cX11_numberOfState 69 = .ok (.aload_n 0, 1) := by decide +kernel
theorem dX11_numberOfState_70 : decode cX11_numberOfState 70 = .ok (.dup, 1) := by decide +kernel
theorem dX11_numberOfState_71 : decode cX11_numberOfState 71 = .ok (.getfield 335, 3) := by decide +kernel
theorem dX11_numberOfState_74 : decode cX11_numberOfState 74 = .ok (.iconst 1, 1) := by decide +kernel
theorem dX11_numberOfState_75 : decode cX11_numberOfState 75 = .ok (.iadd, 1) := by decide +kernel
theorem dX11_numberOfState_76 : decode cX11_numberOfState 76 = .ok (.putfield 335, 3) := by decide +kernel
theorem dX11_numberOfState_79 : decode cX11_numberOfState 79 = .ok (.aload_n 0, 1) := by decide +kernel
theorem dX11_numberOfState_80 : decode cX11_numberOfState 80 = .ok (.getfield 335, 3) := by decide +kernel
theorem dX11_numberOfState_83 : decode cX11_numberOfState 83 = .ok (.iconst 1, 1) := by decide +kernel
theorem dX11_numberOfState_84 : decode cX11_numberOfState 84 = .ok (.isub, 1) := by decide +kernel
theorem dX11_numberOfState_85 : decode cX11_numberOfState 85 = .ok (.ireturn, 1) := by decide +kernel
set_option maxRecDepth 20000 in
theorem ggX11_buildsSets_X11_numberOfState : GoodIn wsX11_buildsSets wsX11_numberOfState := goodIn_r _ [9, 2, 10, 3, 20, 21, 22, 23, 24, 25, 26, 27, 28, 29, 30, 31, 32, 33, 34, 35, 36, 37, 38, 39, 40, 41, 42, 43, 44, 45, 46, 47, 48, 49, 50, 51, 52, 53, 54, 55, 56, 57, 58, 59, 60, 61, 62, 63, 64, 65, 66, 67, 68, 69] (by decide +kernel) (by decide +kernel)
set_option maxRecDepth 20000 in
theorem gX11_buildsSets_X11_numberOfState : GoodIn wsX11_buildsSets (wsV RX11 338 RX11 yX11_numberOfState wsX11_numberOfState) := goodIn_app (goodIn_of _ (by decide +kernel)) ggX11_buildsSets_X11_numberOfState
set_option maxRecDepth 20000 in
theorem ggX11_buildsSets_X11_step : GoodIn wsX11_buildsSets wsX11_step := goodIn_r _ [14, 15, 16, 17, 18, 8, 19, 20, 21, 22, 23, 24, 25, 26, 27, 28, 29, 30, 31, 32, 33, 34, 35, 36, 37, 38, 39, 40, 41, 42, 43, 44, 45, 46, 47, 48, 49, 50, 51, 52, 53, 54, 55, 56, 57, 58, 59, 60, 61, 62, 63, 64, 65, 66, 67, 68, 69] (by rfl) (by decide +kernel)
set_option maxRecDepth 20000 in
theorem gX11_buildsSets_X11_step : GoodIn wsX11_buildsSets (wsV RX11 143 RX11 yX11_step wsX11_step) := goodIn_app (goodIn_of _ (by decide +kernel)) ggX11_buildsSets_X11_step
theorem dX11_buildsSets_0 : decode cX11_buildsSets 0 = .ok (.aload_n 0, 1) := by decide +kernel
theorem dX11_buildsSets_1 : decode cX11_buildsSets 1 = .ok (.getfield 112, 3) := by decide +kernel
theorem dX11_buildsSets_4 : decode cX11_buildsSets 4 = .ok (.ifCond .eq 13, 3) := by decide +kernel
theorem dX11_buildsSets_7 : decode cX11_buildsSets 7 = .ok (.aload_n 0, 1) := by decide +kernel
theorem dX11_buildsSets_8 : decode cX11_buildsSets 8 = .ok (.iconst 0, 1) := by decide +kernel
theorem dX11_buildsSets_9 : decode cX11_buildsSets 9 = .ok (.aload_n 0, 1) := by decide +kernel
theorem dX11_buildsSets_10 : decode cX11_buildsSets 10 = .ok (.getfield 112, 3) := by decide +kernel
theorem dX11_buildsSets_13 : decode cX11_buildsSets 13 = .ok (.invokevirtual 338, 3) := by decide +kernel
theorem dX11_buildsSets_16 : decode cX11_buildsSets 16 = .ok (.pop, 1) := by decide +kernel
theorem dX11_buildsSets_17 : decode cX11_buildsSets 17 = .ok (.iconst 0, 1) := by decide +kernel
theorem dX11_buildsSets_18 : decode cX11_buildsSets 18 = .ok (.istore_n 1, 1) := by decide +kernel
theorem dX11_buildsSets_19 : decode cX11_buildsSets 19 = .ok (.iload_n 1, 1) := by decide +kernel
theorem dX11_buildsSets_20 : decode cX11_buildsSets 20 = .ok (.aload_n 0, 1) := by decide +kernel
theorem dX11_buildsSets_21 : decode cX11_buildsSets 21 = .ok (.getfield 335, 3) := by decide +kernel
theorem dX11_buildsSets_24 : decode cX11_buildsSets 24 = .ok (.if_icmp .ge 60, 3) := by decide +kernel
theorem dX11_buildsSets_27 : decode cX11_buildsSets 27 = .ok (.iconst 0, 1) := by decide +kernel
theorem dX11_buildsSets_28 : decode cX11_buildsSets 28 = .ok (.istore_n 2, 1) := by decide +kernel
theorem dX11_buildsSets_29 : decode cX11_buildsSets 29 = .ok (.iload_n 2, 1) := by decide +kernel
theorem dX11_buildsSets_30 : decode cX11_buildsSets 30 = .ok (.iconst 3, 1) := by decide +kernel
theorem dX11_buildsSets_31 : decode cX11_buildsSets 31 = .ok (.if_icmp .ge 47, 3) := by decide +kernel
theorem dX11_buildsSets_34 : decode cX11_buildsSets 34 = .ok (.aload_n 0, 1) := by decide +kernel
