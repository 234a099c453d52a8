set_option maxRecDepth 20000 in
theorem gX11_takeWitness_X11_spell : GoodIn wsX11_takeWitness (wsV RX11 330 RX11 yX11_spell wsX11_spell) := goodIn_app (goodIn_of _ (by decide +kernel)) ggX11_takeWitness_X11_spell
theorem dX11_takeWitness_0 : decode cX11_takeWitness 0 = .ok (.iload_n 1, 1) := by decide +kernel
theorem dX11_takeWitness_1 : decode cX11_takeWitness 1 = .ok (.i2l, 1) := by decide +kernel
theorem dX11_takeWitness_2 : decode cX11_takeWitness 2 = .ok (.lconst 0, 1) := by decide +kernel
theorem dX11_takeWitness_3 : decode cX11_takeWitness 3 = .ok (.ldc2_w 328, 3) := by decide +kernel
theorem dX11_takeWitness_6 : decode cX11_takeWitness 6 = .ok (.invokestatic 124, 3) := by decide +kernel
theorem dX11_takeWitness_9 : decode cX11_takeWitness 9 = .ok (.ifCond .ne 5, 3) := by decide +kernel
theorem dX11_takeWitness_12 : decode cX11_takeWitness 12 = .ok (.iconst (-1), 1) := by decide +kernel
theorem dX11_takeWitness_13 : decode cX11_takeWitness 13 = .ok (.ireturn, 1) := by decide +kernel
theorem dX11_takeWitness_14 : decode cX11_takeWitness 14 = .ok (.aload_n 0, 1) := by decide +kernel
theorem dX11_takeWitness_15 : decode cX11_takeWitness 15 = .ok (.iload_n 1, 1) := by decide +kernel
theorem dX11_takeWitness_16 : decode cX11_takeWitness 16 = .ok (.invokevirtual 330, 3) := by decide +kernel
theorem dX11_takeWitness_19 : decode cX11_takeWitness 19 = .ok (.istore_n 2, 1) := by decide +kernel
theorem dX11_takeWitness_20 : decode cX11_takeWitness 20 = .ok (.iload_n 2, 1) := by decide +kernel
theorem dX11_takeWitness_21 : decode cX11_takeWitness 21 = .ok (.ifCond .ge 6, 3) := by decide +kernel
theorem dX11_takeWitness_24 : decode cX11_takeWitness 24 = .ok (.bipush (-4), 2) := by decide +kernel
theorem dX11_takeWitness_26 : decode cX11_takeWitness 26 = .ok (.ireturn, 1) := by decide +kernel
theorem dX11_takeWitness_27 : decode cX11_takeWitness 27 = .ok (.iload_n 2, 1) := by decide +kernel
theorem dX11_takeWitness_28 : decode cX11_takeWitness 28 = .ok (.bipush 20, 2) := by decide +kernel
theorem dX11_takeWitness_30 : decode cX11_takeWitness 30 = .ok (.if_icmp .le 6, 3) := by decide +kernel
theorem dX11_takeWitness_33 : decode cX11_takeWitness 33 = .ok (.bipush (-3), 2) := by decide +kernel
theorem dX11_takeWitness_35 : decode cX11_takeWitness 35 = .ok (.ireturn, 1) := by decide +kernel
theorem dX11_takeWitness_36 : decode cX11_takeWitness 36 = .ok (.aload_n 0, 1) := by decide +kernel
theorem dX11_takeWitness_37 : decode cX11_takeWitness 37 = .ok (.iload_n 2, 1) := by decide +kernel
theorem dX11_takeWitness_38 : decode cX11_takeWitness 38 = .ok (.putfield 197, 3) := by decide +kernel
theorem dX11_takeWitness_41 : decode cX11_takeWitness 41 = .ok (.iconst 0, 1) := by decide +kernel
theorem dX11_takeWitness_42 : decode cX11_takeWitness 42 = .ok (.istore_n 3, 1) := by decide +kernel
theorem dX11_takeWitness_43 : decode cX11_takeWitness 43 = .ok (.iload_n 3, 1) := by decide +kernel
theorem dX11_takeWitness_44 : decode cX11_takeWitness 44 = .ok (.iload_n 2, 1) := by decide +kernel
theorem dX11_takeWitness_45 : decode cX11_takeWitness 45 = .ok (.if_icmp .ge 21, 3) := by decide +kernel
theorem dX11_takeWitness_48 : decode cX11_takeWitness 48 = .ok (.aload_n 0, 1) := by decide +kernel
theorem dX11_takeWitness_49 : decode cX11_takeWitness 49 = .ok (.getfield 35, 3) := by decide +kernel
theorem dX11_takeWitness_52 : decode cX11_takeWitness 52 = .ok (.iload_n 3, 1) := by decide +kernel
theorem dX11_takeWitness_53 : decode cX11_takeWitness 53 = .ok (.aload_n 0, 1) := by decide +kernel
theorem dX11_takeWitness_54 : decode cX11_takeWitness 54 = .ok (.getfield 51, 3) := by decide +kernel
theorem dX11_takeWitness_57 : decode cX11_takeWitness 57 = .ok (.iload_n 3, 1) := by decide +kernel
theorem dX11_takeWitness_58 : decode cX11_takeWitness 58 = .ok (.iaload, 1) := by decide +kernel
theorem dX11_takeWitness_59 : decode cX11_takeWitness 59 = .ok (.iastore, 1) := by decide +kernel
theorem dX11_takeWitness_60 : decode cX11_takeWitness 60 = .ok (.iinc 3 1, 3) := by decide +kernel
theorem dX11_takeWitness_63 : decode cX11_takeWitness 63 = .ok (.goto (-20), 3) := by decide +kernel
theorem dX11_takeWitness_66 : decode cX11_takeWitness 66 = .ok (.iload_n 2, 1) := by decide +kernel
theorem dX11_takeWitness_67 : decode cX11_takeWitness 67 = .ok (.ireturn, 1) := by decide +kernel
set_option maxRecDepth 20000 in
theorem ggX11_setWeight_X11_isLetter : GoodIn wsX11_setWeight wsX11_isLetter := goodIn_r _ [6] (by decide +kernel) (by decide +kernel)
set_option maxRecDepth 20000 in
theorem gX11_setWeight_X11_isLetter : GoodIn wsX11_setWeight (va_wsS RX11 136 yX11_isLetter wsX11_isLetter) := goodIn_app (goodIn_of _ (by decide +kernel)) ggX11_setWeight_X11_isLetter
set_option maxRecDepth 20000 in
theorem ggX11_setWeight_X11_isBetween : GoodIn wsX11_setWeight wsX11_isBetween := goodIn_r _ [9] (by decide +kernel) (by decide +kernel)
set_option maxRecDepth 20000 in
theorem gX11_setWeight_X11_isBetween : GoodIn wsX11_setWeight (va_wsS RX11 124 yX11_isBetween wsX11_isBetween) := goodIn_app (goodIn_of _ (by decide +kernel)) ggX11_setWeight_X11_isBetween
theorem dX11_setWeight_0 : decode cX11_setWeight 0 = .ok (.iload_n 1, 1) := by decide +kernel
theorem dX11_setWeight_1 : decode cX11_setWeight 1 = .ok (.invokestatic 136, 3) := by decide +kernel
theorem dX11_setWeight_4 : decode cX11_setWeight 4 = .ok (.ifCond .ne 5, 3) := by decide +kernel
theorem dX11_setWeight_7 : decode cX11_setWeight 7 = .ok (.iconst (-1), 1) := by decide +kernel
theorem dX11_setWeight_8 : decode cX11_setWeight 8 = .ok (.ireturn, 1) := by decide +kernel
theorem dX11_setWeight_9 : decode cX11_setWeight 9 = .ok (.iload_n 2, 1) := by decide +kernel
theorem dX11_setWeight_10 : decode cX11_setWeight 10 = .ok (.i2l, 1) := by decide +kernel
theorem dX11_setWeight_11 : decode cX11_setWeight 11 = .ok (.lconst 0, 1) := by decide +kernel
theorem dX11_setWeight_12 : decode cX11_setWeight 12 = .ok (.ldc2_w 333, 3) := by decide +kernel
theorem dX11_setWeight_15 : decode cX11_setWeight 15 = .ok (.invokestatic 124, 3) := by decide +kernel
theorem dX11_setWeight_18 : decode cX11_setWeight 18 = .ok (.ifCond .ne 6, 3) := by decide +kernel
theorem dX11_setWeight_21 : decode cX11_setWeight 21 = .ok (.bipush (-2), 2) := by decide +kernel
theorem dX11_setWeight_23 : decode cX11_setWeight 23 = .ok (.ireturn, 1) := by decide +kernel
theorem dX11_setWeight_24 : decode cX11_setWeight 24 = .ok (.aload_n 0, 1) := by decide +kernel
theorem dX11_setWeight_25 : decode cX11_setWeight 25 = .ok (.getfield 16, 3) := by decide +kernel
theorem dX11_setWeight_28 : decode cX11_setWeight 28 = .ok (.iload_n 1, 1) := by decide +kernel
theorem dX11_setWeight_29 : decode cX11_setWeight 29 = .ok (.iaload, 1) := by decide +kernel
theorem dX11_setWeight_30 : decode cX11_setWeight 30 = .ok (.istore_n 3, 1) := by decide +kernel
theorem dX11_setWeight_31 : decode cX11_setWeight 31 = .ok (.aload_n 0, 1) := by decide +kernel
theorem dX11_setWeight_32 : decode cX11_setWeight 32 = .ok (.getfield 16, 3) := by decide +kernel
theorem dX11_setWeight_35 : decode cX11_setWeight 35 = .ok (.iload_n 1, 1) := by decide +kernel
theorem dX11_setWeight_36 : decode cX11_setWeight 36 = .ok (.iload_n 2, 1) := by decide +kernel
theorem dX11_setWeight_37 : decode cX11_setWeight 37 = .ok (.iastore, 1) := by decide +kernel
theorem dX11_setWeight_38 : decode cX11_setWeight 38 = .ok (.iload_n 3, 1) := by decide +kernel
theorem dX11_setWeight_39 : decode cX11_setWeight 39 = .ok (.ireturn, 1) := by decide +kernel
set_option maxRecDepth 20000 in
theorem ggX11_lightestWeight_X11_findLightest : GoodIn wsX11_lightestWeight wsX11_findLightest := goodIn_r _ [6, 7, 8, 1, 9, 10, 11, 12, 13, 14, 5, 15, 16, 17, 18, 19, 20, 21, 22, 23, 24, 25, 26, 27, 28, 29, 30, 31, 32, 33, 34, 35, 36, 37, 38, 39, 40, 41, 42, 43, 44, 45, 46, 47, 48, 49, 50, 51, 52, 53, 54, 55, 56, 57, 58, 59, 60, 61, 62, 63, 64, 65] (by rfl) (by decide +kernel)
set_option maxRecDepth 20000 in
theorem gX11_lightestWeight_X11_findLightest : GoodIn wsX11_lightestWeight (wsV RX11 319 RX11 yX11_findLightest wsX11_findLightest) := goodIn_app (goodIn_of _ (by decide +kernel)) ggX11_lightestWeight_X11_findLightest
theorem dX11_lightestWeight_0 : decode cX11_lightestWeight 0 = .ok (.aload_n 0, 1) := by decide +kernel
theorem dX11_lightestWeight_1 : decode cX11_lightestWeight 1 = .ok (.invokevirtual 319, 3) := by decide +kernel
theorem dX11_lightestWeight_4 : decode cX11_lightestWeight 4 = .ok (.istore_n 1, 1) := by decide +kernel
theorem dX11_lightestWeight_5 : decode cX11_lightestWeight 5 = .ok (.iload_n 1, 1) := by decide +kernel
theorem dX11_lightestWeight_6 : decode cX11_lightestWeight 6 = .ok (.ldc_w 318, 3) := by decide +kernel
theorem dX11_lightestWeight_9 : decode cX11_lightestWeight 9 = .ok (.if_icmp .ne 8, 3) := by decide +kernel
theorem dX11_lightestWeight_12 : decode cX11_lightestWeight 12 = .ok (.bipush (-4), 2) := by decide +kernel
theorem dX11_lightestWeight_14 : decode cX11_lightestWeight 14 = .ok (.goto 7, 3) := by decide +kernel
theorem dX11_lightestWeight_17 : decode cX11_lightestWeight 17 = .ok (.iload_n 1, 1) := by decide +kernel
theorem dX11_lightestWeight_18 : decode cX11_lightestWeight 18 = .ok (.bipush 16, 2) := by decide +kernel
theorem dX11_lightestWeight_20 : decode cX11_lightestWeight 20 = .ok (.idiv, 1) := by decide +kernel
theorem dX11_lightestWeight_21 : decode cX11_lightestWeight 21 = .ok (.ireturn, 1) := by decide +kernel
theorem dX11_numberOfState_0 : decode cX11_numberOfState 0 = .ok (.iconst 0, 1) := by decide +kernel
theorem dX11_numberOfState_1 : decode cX11_numberOfState 1 = .ok (.istore_n 3, 1) := by decide +kernel
theorem dX11_numberOfState_2 : decode cX11_numberOfState 2 = .ok (.iload_n 3, 1) := by decide +kernel
theorem dX11_numberOfState_3 : decode cX11_numberOfState 3 = .ok (.aload_n 0, 1) := by decide +kernel
theorem dX11_numberOfState_4 : decode cX11_numberOfState 4 = .ok (.getfield 335, 3) := by decide +kernel
theorem dX11_numberOfState_7 : decode cX11_numberOfState 7 = .ok (.if_icmp .ge 31, 3) := by decide +kernel
theorem dX11_numberOfState_10 : decode cX11_numberOfState 10 = .ok (.aload_n 0, 1) := by decide +kernel
theorem dX11_numberOfState_11 : decode cX11_numberOfState 11 = .ok (.getfield 82, 3) := by decide +kernel
theorem dX11_numberOfState_14 : decode cX11_numberOfState 14 = .ok (.iload_n 3, 1) := by decide +kernel
theorem dX11_numberOfState_15 : decode cX11_numberOfState 15 = .ok (.iaload, 1) := by decide +kernel
theorem dX11_numberOfState_16 : decode cX11_numberOfState 16 = .ok (.iload_n 1, 1) := by decide +kernel
theorem dX11_numberOfState_17 : decode cX11_numberOfState 17 = .ok (.if_icmp .ne 15, 3) := by decide +kernel
theorem dX11_numberOfState_20 : decode cX11_numberOfState 20 = .ok (.aload_n 0, 1) := by decide +kernel
theorem dX11_numberOfState_21 : decode cX11_numberOfState 21 = .ok (.getfield 85, 3) := by decide +kernel
theorem dX11_numberOfState_24 : decode cX11_numberOfState 24 = .ok (.iload_n 3, 1) := by decide +kernel
theorem dX11_numberOfState_25 : decode cX11_numberOfState 25 = .ok (.iaload, 1) := by decide +kernel
theorem dX11_numberOfState_26 : decode cX11_numberOfState 26 = .ok (.iload_n 2, 1) := by decide +kernel
theorem dX11_numberOfState_27 : decode cX11_numberOfState 27 = .ok (.if_icmp .ne 5, 3) := by decide +kernel
theorem dX11_numberOfState_30 : decode cX11_numberOfState 30 = .ok (.iload_n 3, 1) := by decide +kernel
theorem dX11_numberOfState_31 : decode cX11_numberOfState 31 = .ok (.ireturn, 1) := by decide +kernel
theorem dX11_numberOfState_32 : decode cX11_numberOfState 32 = .ok (.iinc 3 1, 3) := by decide +kernel
theorem dX11_numberOfState_35 : decode cX11_numberOfState 35 = .ok (.goto (-33), 3) := by decide +kernel
theorem dX11_numberOfState_38 : decode cX11_numberOfState 38 = .ok (.aload_n 0, 1) := by decide +kernel
theorem dX11_numberOfState_39 : decode cX11_numberOfState 39 = .ok (.getfield 335, 3) := by decide +kernel
theorem dX11_numberOfState_42 : decode cX11_numberOfState 42 = .ok (.bipush 64, 2) := by decide +kernel
theorem dX11_numberOfState_44 : decode cX11_numberOfState 44 = .ok (.if_icmp .ne 5, 3) := by decide +kernel
theorem dX11_numberOfState_47 : decode cX11_numberOfState 47 = .ok (.iconst (-1), 1) := by decide +kernel
theorem dX11_numberOfState_48 : decode cX11_numberOfState 48 = .ok (.ireturn, 1) := by decide +kernel
theorem dX11_numberOfState_49 : decode cX11_numberOfState 49 = .ok (.aload_n 0, 1) := by decide +kernel
theorem dX11_numberOfState_50 : decode cX11_numberOfState 50 = .ok (.getfield 82, 3) := by decide +kernel
theorem dX11_numberOfState_53 : decode cX11_numberOfState 53 = .ok (.aload_n 0, 1) := by decide +kernel
theorem dX11_numberOfState_54 : decode cX11_numberOfState 54 = .ok (.getfield 335, 3) := by decide +kernel
theorem dX11_numberOfState_57 : decode cX11_numberOfState 57 = .ok (.iload_n 1, 1) := by decide +kernel
theorem dX11_numberOfState_58 : decode cX11_numberOfState 58 = .ok (.iastore, 1) := by decide +kernel
theorem dX11_numberOfState_59 : decode cX11_numberOfState 59 = .ok (.aload_n 0, 1) := by decide +kernel
theorem dX11_numberOfState_60 : decode cX11_numberOfState 60 = .ok (.getfield 85, 3) := by decide +kernel
theorem dX11_numberOfState_63 : decode cX11_numberOfState 63 = .ok (.aload_n 0, 1) := by decide +kernel
theorem dX11_numberOfState_64 : decode cX11_numberOfState 64 = .ok (.getfield 335, 3) := by decide +kernel
theorem dX11_numberOfState_67 : decode cX11_numberOfState 67 = .ok (.iload_n 2, 1) := by decide +kernel
theorem dX11_numberOfState_68 : decode cX11_numberOfState 68 = .ok (.iastore, 1) := by decide +kernel
theorem dX11_numberOfState_69 : decode cX11_numberOfState 69 = .ok (.aload_n 0, 1) := by decide +kernel
theorem dX11_numberOfState_70 : decode cX11_numberOfState 70 = .ok (.dup, 1) := by decide +kernel
theorem dX11_numberOfState_71 : decode cX11_numberOfState 71 = .ok (.getfield 335, 3) := by decide +kernel
theorem dX11_numberOfState_74 : decode cX11_numberOfState 74 = .ok (.iconst 1, 1) := by decide +kernel
theorem dX11_numberOfState_75 : decode cX11_numberOfState 75 = .ok (.iadd, 1) := by decide +kernel
theorem dX11_numberOfState_76 : decode cX11_numberOfState 76 = .ok (.putfield 335, 3) := by decide +kernel
theorem dX11_numberOfState_79 : decode cX11_numberOfState 79 = .ok (.aload_n 0, 1) := by decide +kernel
theorem dX11_numberOfState_80 : decode cX11_numberOfState 80 = .ok (.getfield 335, 3) := by decide +kernel
theorem dX11_numberOfState_83 : decode cX11_numberOfState 83 = .ok (.iconst 1, 1) := by decide +kernel
theorem dX11_numberOfState_84 : decode cX11_numberOfState 84 = .ok (.isub, 1) := by decide +kernel
theorem dX11_numberOfState_85 : decode cX11_numberOfState 85 = .ok (.ireturn, 1) := by decide +kernel
set_option maxRecDepth 20000 in
theorem ggX11_buildsSets_X11_numberOfState : GoodIn wsX11_buildsSets wsX11_numberOfState := goodIn_r _ [9, 2, 10, 3, 20, 21, 22, 23, 24, 25, 26, 27, 28, 29, 30, 31, 32, 33, 34, 35, 36, 37, 38, 39, 40, 41, 42, 43, 44, 45, 46, 47, 48, 49, 50, 51, 52, 53, 54, 55, 56, 57, 58, 59, 60, 61, 62, 63, 64, 65, 66, 67, 68, 69] (by decide +kernel) (by decide +kernel)
set_option maxRecDepth 20000 in
theorem gX11_buildsSets_X11_numberOfState : GoodIn wsX11_buildsSets (wsV RX11 338 RX11 yX11_numberOfState wsX11_numberOfState) := goodIn_app (goodIn_of _ (by decide +kernel)) ggX11_buildsSets_X11_numberOfState
set_option maxRecDepth 20000 in
theorem ggX11_buildsSets_X11_step : GoodIn wsX11_buildsSets wsX11_step := goodIn_r _ [14, 15, 16, 17, 18, 8, 19, 20, 21, 22, 23, 24, 25, 26, 27, 28, 29, 30, 31, 32, 33, 34, 35, 36, 37, 38, 39, 40, 41, 42, 43, 44, 45, 46, 47, 48, 49, 50, 51, 52, 53, 54, 55, 56, 57, 58, 59, 60, 61, 62, 63, 64, 65, 66, 67, 68, 69] (by rfl) (by decide +kernel)
set_option maxRecDepth 20000 in
theorem gX11_buildsSets_X11_step : GoodIn wsX11_buildsSets (wsV RX11 143 RX11 yX11_step wsX11_step) := goodIn_app (goodIn_of _ (by decide +kernel)) ggX11_buildsSets_X11_step
theorem dX11_buildsSets_0 : decode cX11_buildsSets 0 = .ok (.aload_n 0, 1) := by decide +kernel
theorem dX11_buildsSets_1 : decode cX11_buildsSets 1 = .ok (.getfield 112, 3) := by decide +kernel
theorem dX11_buildsSets_4 : decode cX11_buildsSets 4 = .ok (.ifCond .eq 13, 3) := by decide +kernel
theorem dX11_buildsSets_7 : decode cX11_buildsSets 7 = .ok (.aload_n 0, 1) := by decide +kernel
theorem dX11_buildsSets_8 : decode cX11_buildsSets 8 = .ok (.iconst 0, 1) := by decide +kernel
theorem dX11_buildsSets_9 : decode cX11_buildsSets 9 = .ok (.aload_n 0, 1) := by decide +kernel
theorem dX11_buildsSets_10 : decode cX11_buildsSets 10 = .ok (.getfield 112, 3) := by decide +kernel
theorem dX11_buildsSets_13 : decode cX11_buildsSets 13 = .ok (.invokevirtual 338, 3) := by decide +kernel
theorem dX11_buildsSets_16 : decode cX11_buildsSets 16 = .ok (.pop, 1) := by decide +kernel
theorem dX11_buildsSets_17 : decode cX11_buildsSets 17 = .ok (.iconst 0, 1) := by decide +kernel
theorem dX11_buildsSets_18 : decode cX11_buildsSets 18 = .ok (.istore_n 1, 1) := by decide +kernel
theorem dX11_buildsSets_19 : decode cX11_buildsSets 19 = .ok (.iload_n 1, 1) := by decide +kernel
theorem dX11_buildsSets_20 : decode cX11_buildsSets 20 = .ok (.aload_n 0, 1) := by decide +kernel
theorem dX11_buildsSets_21 : decode cX11_buildsSets 21 = .ok (.getfield 335, 3) := by decide +kernel
theorem dX11_buildsSets_24 : decode cX11_buildsSets 24 = .ok (.if_icmp .ge 60, 3) := by decide +kernel
theorem dX11_buildsSets_27 : decode cX11_buildsSets 27 = .ok (.iconst 0, 1) := by decide +kernel
theorem dX11_buildsSets_28 : decode cX11_buildsSets 28 = .ok (.istore_n 2, 1) := by decide +kernel
theorem dX11_buildsSets_29 : decode cX11_buildsSets 29 = .ok (.iload_n 2, 1) := by decide +kernel
theorem dX11_buildsSets_30 : decode cX11_buildsSets 30 = .ok (.iconst 3, 1) := by decide +kernel
theorem dX11_buildsSets_31 : decode cX11_buildsSets 31 = .ok (.if_icmp .ge 47, 3) := by decide +kernel
theorem dX11_buildsSets_34 : decode cX11_buildsSets 34 = .ok (.aload_n 0, 1) := by decide +kernel
theorem dX11_buildsSets_35 : decode cX11_buildsSets 35 = .ok (.aload_n 0, 1) := by decide +kernel
theorem dX11_buildsSets_36 : decode cX11_buildsSets 36 = .ok (.getfield 85, 3) := by decide +kernel
theorem dX11_buildsSets_39 : decode cX11_buildsSets 39 = .ok (.iload_n 1, 1) := by decide +kernel
theorem dX11_buildsSets_40 : decode cX11_buildsSets 40 = .ok (.iaload, 1) := by decide +kernel
theorem dX11_buildsSets_41 : decode cX11_buildsSets 41 = .ok (.iload_n 2, 1) := by decide +kernel
theorem dX11_buildsSets_42 : decode cX11_buildsSets 42 = .ok (.invokevirtual 143, 3) := by decide +kernel
theorem dX11_buildsSets_45 : decode cX11_buildsSets 45 = .ok (.istore_n 3, 1) := by decide +kernel
theorem dX11_buildsSets_46 : decode cX11_buildsSets 46 = .ok (.aload_n 0, 1) := by decide +kernel
theorem dX11_buildsSets_47 : decode cX11_buildsSets 47 = .ok (.getfield 91, 3) := by decide +kernel
theorem dX11_buildsSets_50 : decode cX11_buildsSets 50 = .ok (.iconst 3, 1) := by decide +kernel
theorem dX11_buildsSets_51 : decode cX11_buildsSets 51 = .ok (.iload_n 1, 1) := by decide +kernel
theorem dX11_buildsSets_52 : decode cX11_buildsSets 52 = .ok (.imul, 1) := by decide +kernel
theorem dX11_buildsSets_53 : decode cX11_buildsSets 53 = .ok (.iload_n 2, 1) := by decide +kernel
theorem dX11_buildsSets_54 : decode cX11_buildsSets 54 = .ok (.iadd, 1) := by decide +kernel
theorem dX11_buildsSets_55 : decode cX11_buildsSets 55 = .ok (.iload_n 3, 1) := by decide +kernel
theorem dX11_buildsSets_56 : decode cX11_buildsSets 56 = .ok (.ifCond .ne 7, 3) := by decide +kernel
theorem dX11_buildsSets_59 : decode cX11_buildsSets 59 = .ok (.lconst 0, 1) := by decide +kernel
theorem dX11_buildsSets_60 : decode cX11_buildsSets 60 = .ok (.goto 11, 3) := by decide +kernel
theorem dX11_buildsSets_63 : decode cX11_buildsSets 63 = .ok (.lconst 1, 1) := by decide +kernel
theorem dX11_buildsSets_64 : decode cX11_buildsSets 64 = .ok (.aload_n 0, 1) := by decide +kernel
theorem dX11_buildsSets_65 : decode cX11_buildsSets 65 = .ok (.iconst 0, 1) := by decide +kernel
theorem dX11_buildsSets_66 : decode cX11_buildsSets 66 = .ok (.iload_n 3, 1) := by decide +kernel
theorem dX11_buildsSets_67 : decode cX11_buildsSets 67 = .ok (.invokevirtual 338, 3) := by decide +kernel
theorem dX11_buildsSets_70 : decode cX11_buildsSets 70 = .ok (.lshl, 1) := by decide +kernel
theorem dX11_buildsSets_71 : decode cX11_buildsSets 71 = .ok (.lastore, 1) := by decide +kernel
theorem dX11_buildsSets_72 : decode cX11_buildsSets 72 = .ok (.iinc 2 1, 3) := by decide +kernel
theorem dX11_buildsSets_75 : decode cX11_buildsSets 75 = .ok (.goto (-46), 3) := by decide +kernel
theorem dX11_buildsSets_78 : decode cX11_buildsSets 78 = .ok (.iinc 1 1, 3) := by decide +kernel
theorem dX11_buildsSets_81 : decode cX11_buildsSets 81 = .ok (.goto (-62), 3) := by decide +kernel
theorem dX11_buildsSets_84 : decode cX11_buildsSets 84 = .ok (.iconst 1, 1) := by decide +kernel
theorem dX11_buildsSets_85 : decode cX11_buildsSets 85 = .ok (.ireturn, 1) := by decide +kernel
set_option maxRecDepth 20000 in
theorem ggX11_buildsPairs_X11_has : GoodIn wsX11_buildsPairs wsX11_has := goodIn_r _ [11] (by decide +kernel) (by decide +kernel)
set_option maxRecDepth 20000 in
theorem gX11_buildsPairs_X11_has : GoodIn wsX11_buildsPairs (va_wsS RX11 139 yX11_has wsX11_has) := goodIn_app (goodIn_of _ (by decide +kernel)) ggX11_buildsPairs_X11_has
set_option maxRecDepth 20000 in
theorem ggX11_buildsPairs_X11_numberOfState : GoodIn wsX11_buildsPairs wsX11_numberOfState := goodIn_r _ [15, 3, 5, 6, 20, 21, 22, 23, 24, 25, 26, 27, 28, 29, 30, 31, 32, 33, 34, 35, 36, 37, 38, 39, 40, 41, 42, 43, 44, 45, 46, 47, 48, 49, 50, 51, 52, 53, 54, 55, 56, 57, 58, 59, 60, 61, 62, 63, 64, 65, 66, 67, 68, 69] (by decide +kernel) (by decide +kernel)
set_option maxRecDepth 20000 in
theorem gX11_buildsPairs_X11_numberOfState : GoodIn wsX11_buildsPairs (wsV RX11 338 RX11 yX11_numberOfState wsX11_numberOfState) := goodIn_app (goodIn_of _ (by decide +kernel)) ggX11_buildsPairs_X11_numberOfState
set_option maxRecDepth 20000 in
theorem ggX11_buildsPairs_X11_step : GoodIn wsX11_buildsPairs wsX11_step := goodIn_r _ [19, 1, 4, 8, 9, 10, 11, 20, 21, 22, 23, 24, 25, 26, 27, 28, 29, 30, 31, 32, 33, 34, 35, 36, 37, 38, 39, 40, 41, 42, 43, 44, 45, 46, 47, 48, 49, 50, 51, 52, 53, 54, 55, 56, 57, 58, 59, 60, 61, 62, 63, 64, 65, 66, 67, 68, 69] (by rfl) (by decide +kernel)
set_option maxRecDepth 20000 in
theorem gX11_buildsPairs_X11_step : GoodIn wsX11_buildsPairs (wsV RX11 143 RX11 yX11_step wsX11_step) := goodIn_app (goodIn_of _ (by decide +kernel)) ggX11_buildsPairs_X11_step
theorem dX11_buildsPairs_0 : decode cX11_buildsPairs 0 = .ok (.iconst 0, 1) := by decide +kernel
theorem dX11_buildsPairs_1 : decode cX11_buildsPairs 1 = .ok (.istore_n 1, 1) := by decide +kernel
theorem dX11_buildsPairs_2 : decode cX11_buildsPairs 2 = .ok (.iload_n 1, 1) := by decide +kernel
theorem dX11_buildsPairs_3 : decode cX11_buildsPairs 3 = .ok (.aload_n 0, 1) := by decide +kernel
theorem dX11_buildsPairs_4 : decode cX11_buildsPairs 4 = .ok (.getfield 19, 3) := by decide +kernel
theorem dX11_buildsPairs_7 : decode cX11_buildsPairs 7 = .ok (.if_icmp .ge 37, 3) := by decide +kernel
theorem dX11_buildsPairs_10 : decode cX11_buildsPairs 10 = .ok (.aload_n 0, 1) := by decide +kernel
theorem dX11_buildsPairs_11 : decode cX11_buildsPairs 11 = .ok (.getfield 112, 3) := by decide +kernel
theorem dX11_buildsPairs_14 : decode cX11_buildsPairs 14 = .ok (.i2l, 1) := by decide +kernel
theorem dX11_buildsPairs_15 : decode cX11_buildsPairs 15 = .ok (.iload_n 1, 1) := by decide +kernel
theorem dX11_buildsPairs_16 : decode cX11_buildsPairs 16 = .ok (.invokestatic 139, 3) := by decide +kernel
theorem dX11_buildsPairs_19 : decode cX11_buildsPairs 19 = .ok (.ifCond .eq 19, 3) := by decide +kernel
theorem dX11_buildsPairs_22 : decode cX11_buildsPairs 22 = .ok (.aload_n 0, 1) := by decide +kernel
theorem dX11_buildsPairs_23 : decode cX11_buildsPairs 23 = .ok (.iload_n 1, 1) := by decide +kernel
theorem dX11_buildsPairs_24 : decode cX11_buildsPairs 24 = .ok (.aload_n 0, 1) := by decide +kernel
theorem dX11_buildsPairs_25 : decode cX11_buildsPairs 25 = .ok (.getfield 112, 3) := by decide +kernel
theorem dX11_buildsPairs_28 : decode cX11_buildsPairs 28 = .ok (.iconst 1, 1) := by decide +kernel
theorem dX11_buildsPairs_29 : decode cX11_buildsPairs 29 = .ok (.iload_n 1, 1) := by decide +kernel
theorem dX11_buildsPairs_30 : decode cX11_buildsPairs 30 = .ok (.ishl, 1) := by decide +kernel
theorem dX11_buildsPairs_31 : decode cX11_buildsPairs 31 = .ok (.iconst 1, 1) := by decide +kernel
theorem dX11_buildsPairs_32 : decode cX11_buildsPairs 32 = .ok (.isub, 1) := by decide +kernel
theorem dX11_buildsPairs_33 : decode cX11_buildsPairs 33 = .ok (.iand, 1) := by decide +kernel
theorem dX11_buildsPairs_34 : decode cX11_buildsPairs 34 = .ok (.invokevirtual 338, 3) := by decide +kernel
theorem dX11_buildsPairs_37 : decode cX11_buildsPairs 37 = .ok (.pop, 1) := by decide +kernel
theorem dX11_buildsPairs_38 : decode cX11_buildsPairs 38 = .ok (.iinc 1 1, 3) := by decide +kernel
theorem dX11_buildsPairs_41 : decode cX11_buildsPairs 41 = .ok (.goto (-39), 3) := by decide +kernel
theorem dX11_buildsPairs_44 : decode cX11_buildsPairs 44 = .ok (.iconst 0, 1) := by decide +kernel
theorem dX11_buildsPairs_45 : decode cX11_buildsPairs 45 = .ok (.istore_n 1, 1) := by decide +kernel
theorem dX11_buildsPairs_46 : decode cX11_buildsPairs 46 = .ok (.iload_n 1, 1) := by decide +kernel
theorem dX11_buildsPairs_47 : decode cX11_buildsPairs 47 = .ok (.aload_n 0, 1) := by decide +kernel
theorem dX11_buildsPairs_48 : decode cX11_buildsPairs 48 = .ok (.getfield 335, 3) := by decide +kernel
theorem dX11_buildsPairs_51 : decode cX11_buildsPairs 51 = .ok (.if_icmp .ge 128, 3) := by decide +kernel
theorem dX11_buildsPairs_54 : decode cX11_buildsPairs 54 = .ok (.iconst 0, 1) := by decide +kernel
theorem dX11_buildsPairs_55 : decode cX11_buildsPairs 55 = .ok (.istore_n 2, 1) := by decide +kernel
theorem dX11_buildsPairs_56 : decode cX11_buildsPairs 56 = .ok (.iload_n 2, 1) := by decide +kernel
theorem dX11_buildsPairs_57 : decode cX11_buildsPairs 57 = .ok (.iconst 3, 1) := by decide +kernel
theorem dX11_buildsPairs_58 : decode cX11_buildsPairs 58 = .ok (.if_icmp .ge 115, 3) := by decide +kernel
theorem dX11_buildsPairs_61 : decode cX11_buildsPairs 61 = .ok (.lconst 0, 1) := by decide +kernel
theorem dX11_buildsPairs_62 : decode cX11_buildsPairs 62 = .ok (.lstore_n 3, 1) := by decide +kernel
theorem dX11_buildsPairs_63 : decode cX11_buildsPairs 63 = .ok (.aload_n 0, 1) := by decide +kernel
theorem dX11_buildsPairs_64 : decode cX11_buildsPairs 64 = .ok (.getfield 7, 3) := by decide +kernel
theorem dX11_buildsPairs_67 : decode cX11_buildsPairs 67 = .ok (.bipush 6, 2) := by decide +kernel
theorem dX11_buildsPairs_69 : decode cX11_buildsPairs 69 = .ok (.iload_n 2, 1) := by decide +kernel
theorem dX11_buildsPairs_70 : decode cX11_buildsPairs 70 = .ok (.imul, 1) := by decide +kernel
theorem dX11_buildsPairs_71 : decode cX11_buildsPairs 71 = .ok (.aload_n 0, 1) := by decide +kernel
theorem dX11_buildsPairs_72 : decode cX11_buildsPairs 72 = .ok (.getfield 82, 3) := by decide +kernel
theorem dX11_buildsPairs_75 : decode cX11_buildsPairs 75 = .ok (.iload_n 1, 1) := by decide +kernel
theorem dX11_buildsPairs_76 : decode cX11_buildsPairs 76 = .ok (.iaload, 1) := by decide +kernel
theorem dX11_buildsPairs_77 : decode cX11_buildsPairs 77 = .ok (.iadd, 1) := by decide +kernel
theorem dX11_buildsPairs_78 : decode cX11_buildsPairs 78 = .ok (.iaload, 1) := by decide +kernel
theorem dX11_buildsPairs_79 : decode cX11_buildsPairs 79 = .ok (.istore 5, 2) := by decide +kernel
theorem dX11_buildsPairs_81 : decode cX11_buildsPairs 81 = .ok (.iconst 0, 1) := by decide +kernel
theorem dX11_buildsPairs_82 : decode cX11_buildsPairs 82 = .ok (.istore 6, 2) := by decide +kernel
theorem dX11_buildsPairs_84 : decode cX11_buildsPairs 84 = .ok (.iload 6, 2) := by decide +kernel
theorem dX11_buildsPairs_86 : decode cX11_buildsPairs 86 = .ok (.aload_n 0, 1) := by decide +kernel
theorem dX11_buildsPairs_87 : decode cX11_buildsPairs 87 = .ok (.getfield 19, 3) := by decide +kernel
theorem dX11_buildsPairs_90 : decode cX11_buildsPairs 90 = .ok (.if_icmp .ge 66, 3) := by decide +kernel
theorem dX11_buildsPairs_93 : decode cX11_buildsPairs 93 = .ok (.iload 5, 2) := by decide +kernel
theorem dX11_buildsPairs_95 : decode cX11_buildsPairs 95 = .ok (.i2l, 1) := by decide +kernel
theorem dX11_buildsPairs_96 : decode cX11_buildsPairs 96 = .ok (.iload 6, 2) := by decide +kernel
theorem dX11_buildsPairs_98 : decode cX11_buildsPairs 98 = .ok (.invokestatic 139, 3) := by decide +kernel
theorem dX11_buildsPairs_101 : decode cX11_buildsPairs 101 = .ok (.ifCond .ne 6, 3) := by decide +kernel
theorem dX11_buildsPairs_104 : decode cX11_buildsPairs 104 = .ok (.goto 46, 3) := by decide +kernel
theorem dX11_buildsPairs_107 : decode cX11_buildsPairs 107 = .ok (.aload_n 0, 1) := by decide +kernel
theorem dX11_buildsPairs_108 : decode cX11_buildsPairs 108 = .ok (.iload 6, 2) := by decide +kernel
theorem dX11_buildsPairs_110 : decode cX11_buildsPairs 110 = .ok (.aload_n 0, 1) := by decide +kernel
theorem dX11_buildsPairs_111 : decode cX11_buildsPairs 111 = .ok (.aload_n 0, 1) := by decide +kernel
theorem dX11_buildsPairs_112 : decode cX11_buildsPairs 112 = .ok (.getfield 85, 3) := by decide +kernel
theorem dX11_buildsPairs_115 : decode cX11_buildsPairs 115 = .ok (.iload_n 1, 1) := by decide +kernel
theorem dX11_buildsPairs_116 : decode cX11_buildsPairs 116 = .ok (.iaload, 1) := by decide +kernel
theorem dX11_buildsPairs_117 : decode cX11_buildsPairs 117 = .ok (.iload_n 2, 1) := by decide +kernel
theorem dX11_buildsPairs_118 : decode cX11_buildsPairs 118 = .ok (.invokevirtual 143, 3) := by decide +kernel
theorem dX11_buildsPairs_121 : decode cX11_buildsPairs 121 = .ok (.iload 5, 2) := by decide +kernel
theorem dX11_buildsPairs_123 : decode cX11_buildsPairs 123 = .ok (.iconst 1, 1) := by decide +kernel
theorem dX11_buildsPairs_124 : decode cX11_buildsPairs 124 = .ok (.iload 6, 2) := by decide +kernel
theorem dX11_buildsPairs_126 : decode cX11_buildsPairs 126 = .ok (.ishl, 1) := by decide +kernel
theorem dX11_buildsPairs_127 : decode cX11_buildsPairs 127 = .ok (.iconst 1, 1) := by decide +kernel
theorem dX11_buildsPairs_128 : decode cX11_buildsPairs 128 = .ok (.isub, 1) := by decide +kernel
theorem dX11_buildsPairs_129 : decode cX11_buildsPairs 129 = .ok (.iand, 1) := by decide +kernel
theorem dX11_buildsPairs_130 : decode cX11_buildsPairs 130 = .ok (.ior, 1) := by decide +kernel
theorem dX11_buildsPairs_131 : decode cX11_buildsPairs 131 = .ok (.invokevirtual 338, 3) := by decide +kernel
theorem dX11_buildsPairs_134 : decode cX11_buildsPairs 134 = .ok (.istore 7, 2) := by decide +kernel
theorem dX11_buildsPairs_136 : decode cX11_buildsPairs 136 = .ok (.iload 7, 2) := by decide +kernel
theorem dX11_buildsPairs_138 : decode cX11_buildsPairs 138 = .ok (.ifCond .ge 5, 3) := by decide +kernel
theorem dX11_buildsPairs_141 : decode cX11_buildsPairs 141 = .ok (.iconst 0, 1) := by decide +kernel
theorem dX11_buildsPairs_142 : decode cX11_buildsPairs 142 = .ok (.ireturn, 1) := by decide +kernel
theorem dX11_buildsPairs_143 : decode cX11_buildsPairs 143 = .ok (.lload_n 3, 1) := by decide +kernel
theorem dX11_buildsPairs_144 : decode cX11_buildsPairs 144 = .ok (.lconst 1, 1) := by decide +kernel
theorem dX11_buildsPairs_145 : decode cX11_buildsPairs 145 = .ok (.iload 7, 2) := by decide +kernel
theorem dX11_buildsPairs_147 : decode cX11_buildsPairs 147 = .ok (.lshl, 1) := by decide +kernel
theorem dX11_buildsPairs_148 : decode cX11_buildsPairs 148 = .ok (.lor, 1) := by decide +kernel
theorem dX11_buildsPairs_149 : decode cX11_buildsPairs 149 = .ok (.lstore_n 3, 1) := by decide +kernel
theorem dX11_buildsPairs_150 : decode cX11_buildsPairs 150 = .ok (.iinc 6 1, 3) := by decide +kernel
theorem dX11_buildsPairs_153 : decode cX11_buildsPairs 153 = .ok (.goto (-69), 3) := by decide +kernel
theorem dX11_buildsPairs_156 : decode cX11_buildsPairs 156 = .ok (.aload_n 0, 1) := by decide +kernel
theorem dX11_buildsPairs_157 : decode cX11_buildsPairs 157 = .ok (.getfield 91, 3) := by decide +kernel
theorem dX11_buildsPairs_160 : decode cX11_buildsPairs 160 = .ok (.iconst 3, 1) := by decide +kernel
theorem dX11_buildsPairs_161 : decode cX11_buildsPairs 161 = .ok (.iload_n 1, 1) := by decide +kernel
theorem dX11_buildsPairs_162 : decode cX11_buildsPairs 162 = .ok (.imul, 1) := by decide +kernel
theorem dX11_buildsPairs_163 : decode cX11_buildsPairs 163 = .ok (.iload_n 2, 1) := by decide +kernel
theorem dX11_buildsPairs_164 : decode cX11_buildsPairs 164 = .ok (.iadd, 1) := by decide +kernel
theorem dX11_buildsPairs_165 : decode cX11_buildsPairs 165 = .ok (.lload_n 3, 1) := by decide +kernel
theorem dX11_buildsPairs_166 : decode cX11_buildsPairs 166 = .ok (.lastore, 1) := by decide +kernel
theorem dX11_buildsPairs_167 : decode cX11_buildsPairs 167 = .ok (.iinc 2 1, 3) := by decide +kernel
theorem dX11_buildsPairs_170 : decode cX11_buildsPairs 170 = .ok (.goto (-114), 3) := by decide +kernel
theorem dX11_buildsPairs_173 : decode cX11_buildsPairs 173 = .ok (.iinc 1 1, 3) := by decide +kernel
theorem dX11_buildsPairs_176 : decode cX11_buildsPairs 176 = .ok (.goto (-130), 3) := by decide +kernel
theorem dX11_buildsPairs_179 : decode cX11_buildsPairs 179 = .ok (.iconst 1, 1) := by decide +kernel
theorem dX11_buildsPairs_180 : decode cX11_buildsPairs 180 = .ok (.ireturn, 1) := by decide +kernel
set_option maxRecDepth 20000 in
theorem ggX11_build_X11_isBetween : GoodIn wsX11_build wsX11_isBetween := goodIn_r _ [17] (by decide +kernel) (by decide +kernel)
set_option maxRecDepth 20000 in
theorem gX11_build_X11_isBetween : GoodIn wsX11_build (va_wsS RX11 124 yX11_isBetween wsX11_isBetween) := goodIn_app (goodIn_of _ (by decide +kernel)) ggX11_build_X11_isBetween
set_option maxRecDepth 20000 in
theorem ggX11_build_X11_buildsSets : GoodIn wsX11_build wsX11_buildsSets := goodIn_r _ [21, 13, 1, 8, 10, 22, 23, 24, 16, 25, 6, 26, 27, 28, 29, 12, 30, 31, 32, 33, 38, 39, 40, 41, 42, 43, 44, 45, 46, 47, 48, 49, 50, 51, 52, 53, 54, 55, 56, 57, 58, 59, 60, 61, 62, 63, 64, 65, 66, 67, 68, 69, 70, 71, 72, 73, 74, 75, 76, 77, 78, 79, 80, 81, 82, 83, 84, 85, 86, 87] (by rfl) (by decide +kernel)
set_option maxRecDepth 20000 in
theorem gX11_build_X11_buildsSets : GoodIn wsX11_build (wsV RX11 341 RX11 yX11_buildsSets wsX11_buildsSets) := goodIn_app (goodIn_of _ (by decide +kernel)) ggX11_build_X11_buildsSets
set_option maxRecDepth 20000 in
theorem ggX11_build_X11_buildsPairs : GoodIn wsX11_build wsX11_buildsPairs := goodIn_r _ [37, 12, 13, 1, 30, 6, 8, 10, 31, 32, 16, 33, 22, 23, 24, 25, 26, 27, 28, 29, 38, 39, 40, 41, 42, 43, 44, 45, 46, 47, 48, 49, 50, 51, 52, 53, 54, 55, 56, 57, 58, 59, 60, 61, 62, 63, 64, 65, 66, 67, 68, 69, 70, 71, 72, 73, 74, 75, 76, 77, 78, 79, 80, 81, 82, 83, 84, 85, 86, 87] (by rfl) (by decide +kernel)
