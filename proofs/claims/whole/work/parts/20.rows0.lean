theorem dX0_init_0 : decode cX0_init 0 = .ok (.aload_n 0, 1) := by decide +kernel
theorem dX0_init_1 : decode cX0_init 1 = .ok (.invokespecial 3, 3) := by decide +kernel
theorem dX0_init_4 : decode cX0_init 4 = .ok (.aload_n 0, 1) := by decide +kernel
theorem dX0_init_5 : decode cX0_init 5 = .ok (.iconst 1, 1) := by decide +kernel
theorem dX0_init_6 : decode cX0_init 6 = .ok (.putfield 9, 3) := by decide +kernel
theorem dX0_init_9 : decode cX0_init 9 = .ok (.aload_n 0, 1) := by decide +kernel
theorem dX0_init_10 : decode cX0_init 10 = .ok (.bipush 18, 2) := by decide +kernel
theorem dX0_init_12 : decode cX0_init 12 = .ok (.newarray .int, 2) := by decide +kernel
theorem dX0_init_14 : decode cX0_init 14 = .ok (.putfield 15, 3) := by decide +kernel
theorem dX0_init_17 : decode cX0_init 17 = .ok (.return_, 1) := by decide +kernel
theorem dX0_clear_0 : decode cX0_clear 0 = .ok (.aload_n 0, 1) := by decide +kernel
theorem dX0_clear_1 : decode cX0_clear 1 = .ok (.iload_n 1, 1) := by decide +kernel
theorem dX0_clear_2 : decode cX0_clear 2 = .ok (.putfield 9, 3) := by decide +kernel
theorem dX0_clear_5 : decode cX0_clear 5 = .ok (.aload_n 0, 1) := by decide +kernel
theorem dX0_clear_6 : decode cX0_clear 6 = .ok (.iconst 0, 1) := by decide +kernel
theorem dX0_clear_7 : decode cX0_clear 7 = .ok (.putfield 19, 3) := by decide +kernel
theorem dX0_clear_10 : decode cX0_clear 10 = .ok (.aload_n 0, 1) := by decide +kernel
theorem dX0_clear_11 : decode cX0_clear 11 = .ok (.iconst 0, 1) := by decide +kernel
theorem dX0_clear_12 : decode cX0_clear 12 = .ok (.putfield 22, 3) := by decide +kernel
theorem dX0_clear_15 : decode cX0_clear 15 = .ok (.iconst 0, 1) := by decide +kernel
theorem dX0_clear_16 : decode cX0_clear 16 = .ok (.istore_n 2, 1) := by decide +kernel
theorem dX0_clear_17 : decode cX0_clear 17 = .ok (.iload_n 2, 1) := by decide +kernel
theorem dX0_clear_18 : decode cX0_clear 18 = .ok (.aload_n 0, 1) := by decide +kernel
theorem dX0_clear_19 : decode cX0_clear 19 = .ok (.getfield 15, 3) := by decide +kernel
theorem dX0_clear_22 : decode cX0_clear 22 = .ok (.arraylength, 1) := by decide +kernel
theorem dX0_clear_23 : decode cX0_clear 23 = .ok (.if_icmp .ge 16, 3) := by decide +kernel
theorem dX0_clear_26 : decode cX0_clear 26 = .ok (.aload_n 0, 1) := by decide +kernel
theorem dX0_clear_27 : decode cX0_clear 27 = .ok (.getfield 15, 3) := by decide +kernel
theorem dX0_clear_30 : decode cX0_clear 30 = .ok (.iload_n 2, 1) := by decide +kernel
theorem dX0_clear_31 : decode cX0_clear 31 = .ok (.iconst 0, 1) := by decide +kernel
theorem dX0_clear_32 : decode cX0_clear 32 = .ok (.iastore, 1) := by decide +kernel
theorem dX0_clear_33 : decode cX0_clear 33 = .ok (.iinc 2 1, 3) := by decide +kernel
theorem dX0_clear_36 : decode cX0_clear 36 = .ok (.goto (-19), 3) := by decide +kernel
theorem dX0_clear_39 : decode cX0_clear 39 = .ok (.return_, 1) := by decide +kernel
theorem dX0_copyFrom_0 : decode cX0_copyFrom 0 = .ok (.aload_n 0, 1) := by decide +kernel
theorem dX0_copyFrom_1 : decode cX0_copyFrom 1 = .ok (.aload_n 1, 1) := by decide +kernel
theorem dX0_copyFrom_2 : decode cX0_copyFrom 2 = .ok (.getfield 9, 3) := by decide +kernel
theorem dX0_copyFrom_5 : decode cX0_copyFrom 5 = .ok (.putfield 9, 3) := by decide +kernel
theorem dX0_copyFrom_8 : decode cX0_copyFrom 8 = .ok (.aload_n 0, 1) := by decide +kernel
theorem dX0_copyFrom_9 : decode cX0_copyFrom 9 = .ok (.aload_n 1, 1) := by decide +kernel
theorem dX0_copyFrom_10 : decode cX0_copyFrom 10 = .ok (.getfield 19, 3) := by decide +kernel
theorem dX0_copyFrom_13 : decode cX0_copyFrom 13 = .ok (.putfield 19, 3) := by decide +kernel
theorem dX0_copyFrom_16 : decode cX0_copyFrom 16 = .ok (.aload_n 0, 1) := by decide +kernel
theorem dX0_copyFrom_17 : decode cX0_copyFrom 17 = .ok (.aload_n 1, 1) := by decide +kernel
theorem dX0_copyFrom_18 : decode cX0_copyFrom 18 = .ok (.getfield 22, 3) := by decide +kernel
theorem dX0_copyFrom_21 : decode cX0_copyFrom 21 = .ok (.putfield 22, 3) := by decide +kernel
theorem dX0_copyFrom_24 : decode cX0_copyFrom 24 = .ok (.iconst 0, 1) := by decide +kernel
theorem dX0_copyFrom_25 : decode cX0_copyFrom 25 = .ok (.istore_n 2, 1) := by decide +kernel
theorem dX0_copyFrom_26 : decode cX0_copyFrom 26 = .ok (.iload_n 2, 1) := by decide +kernel
theorem dX0_copyFrom_27 : decode cX0_copyFrom 27 = .ok (.aload_n 0, 1) := by decide +kernel
theorem dX0_copyFrom_28 : decode cX0_copyFrom 28 = .ok (.getfield 15, 3) := by decide +kernel
theorem dX0_copyFrom_31 : decode cX0_copyFrom 31 = .ok (.arraylength, 1) := by decide +kernel
theorem dX0_copyFrom_32 : decode cX0_copyFrom 32 = .ok (.if_icmp .ge 21, 3) := by decide +kernel
theorem dX0_copyFrom_35 : decode cX0_copyFrom 35 = .ok (.aload_n 0, 1) := by decide +kernel
theorem dX0_copyFrom_36 : decode cX0_copyFrom 36 = .ok (.getfield 15, 3) := by decide +kernel
theorem dX0_copyFrom_39 : decode cX0_copyFrom 39 = .ok (.iload_n 2, 1) := by decide +kernel
theorem dX0_copyFrom_40 : decode cX0_copyFrom 40 = .ok (.aload_n 1, 1) := by decide +kernel
theorem dX0_copyFrom_41 : decode cX0_copyFrom 41 = .ok (.getfield 15, 3) := by decide +kernel
theorem dX0_copyFrom_44 : decode cX0_copyFrom 44 = .ok (.iload_n 2, 1) := by decide +kernel
theorem dX0_copyFrom_45 : decode cX0_copyFrom 45 = .ok (.iaload, 1) := by decide +kernel
theorem dX0_copyFrom_46 : decode cX0_copyFrom 46 = .ok (.iastore, 1) := by decide +kernel
theorem dX0_copyFrom_47 : decode cX0_copyFrom 47 = .ok (.iinc 2 1, 3) := by decide +kernel
theorem dX0_copyFrom_50 : decode cX0_copyFrom 50 = .ok (.goto (-24), 3) := by decide +kernel
theorem dX0_copyFrom_53 : decode cX0_copyFrom 53 = .ok (.return_, 1) := by decide +kernel
theorem dX0_hasState_0 : decode cX0_hasState 0 = .ok (.iload_n 1, 1) := by decide +kernel
theorem dX0_hasState_1 : decode cX0_hasState 1 = .ok (.ifCond .lt 15, 3) := by decide +kernel
theorem dX0_hasState_4 : decode cX0_hasState 4 = .ok (.iload_n 1, 1) := by decide +kernel
theorem dX0_hasState_5 : decode cX0_hasState 5 = .ok (.aload_n 0, 1) := by decide +kernel
theorem dX0_hasState_6 : decode cX0_hasState 6 = .ok (.getfield 9, 3) := by decide +kernel
theorem dX0_hasState_9 : decode cX0_hasState 9 = .ok (.if_icmp .ge 7, 3) := by decide +kernel
theorem dX0_hasState_12 : decode cX0_hasState 12 = .ok (.iconst 1, 1) := by decide +kernel
theorem dX0_hasState_13 : decode cX0_hasState 13 = .ok (.goto 4, 3) := by decide +kernel
theorem dX0_hasState_16 : decode cX0_hasState 16 = .ok (.iconst 0, 1) := by decide +kernel
theorem dX0_hasState_17 : decode cX0_hasState 17 = .ok (.ireturn, 1) := by decide +kernel
set_option maxRecDepth 20000 in
theorem ggX0_couldHave_X0_hasState : GoodIn wsX0_couldHave wsX0_hasState := goodIn_r _ [5, 6, 10, 11, 12, 13] (by decide +kernel) (by decide +kernel)
set_option maxRecDepth 20000 in
theorem gX0_couldHave_X0_hasState : GoodIn wsX0_couldHave (wsV RX0 25 RX0 yX0_hasState wsX0_hasState) := goodIn_app (goodIn_of _ (by decide +kernel)) ggX0_couldHave_X0_hasState
set_option maxRecDepth 20000 in
theorem ggX0_couldHave_X10_isLetter : GoodIn wsX0_couldHave wsX10_isLetter := goodIn_r _ [9] (by decide +kernel) (by decide +kernel)
set_option maxRecDepth 20000 in
theorem gX0_couldHave_X10_isLetter_n29 : GoodIn wsX0_couldHave (wsX10_isLetter) := ggX0_couldHave_X10_isLetter
theorem dX0_couldHave_0 : decode cX0_couldHave 0 = .ok (.aload_n 0, 1) := by decide +kernel
theorem dX0_couldHave_1 : decode cX0_couldHave 1 = .ok (.iload_n 1, 1) := by decide +kernel
theorem dX0_couldHave_2 : decode cX0_couldHave 2 = .ok (.invokevirtual 25, 3) := by decide +kernel
theorem dX0_couldHave_5 : decode cX0_couldHave 5 = .ok (.ifCond .eq 22, 3) := by decide +kernel
theorem dX0_couldHave_8 : decode cX0_couldHave 8 = .ok (.iload_n 2, 1) := by decide +kernel
theorem dX0_couldHave_9 : decode cX0_couldHave 9 = .ok (.invokestatic 29, 3) := by decide +kernel
theorem dX0_couldHave_12 : decode cX0_couldHave 12 = .ok (.ifCond .eq 15, 3) := by decide +kernel
theorem dX0_couldHave_15 : decode cX0_couldHave 15 = .ok (.aload_n 0, 1) := by decide +kernel
theorem dX0_couldHave_16 : decode cX0_couldHave 16 = .ok (.iload_n 3, 1) := by decide +kernel
theorem dX0_couldHave_17 : decode cX0_couldHave 17 = .ok (.invokevirtual 25, 3) := by decide +kernel
theorem dX0_couldHave_20 : decode cX0_couldHave 20 = .ok (.ifCond .eq 7, 3) := by decide +kernel
theorem dX0_couldHave_23 : decode cX0_couldHave 23 = .ok (.iconst 1, 1) := by decide +kernel
theorem dX0_couldHave_24 : decode cX0_couldHave 24 = .ok (.goto 4, 3) := by decide +kernel
theorem dX0_couldHave_27 : decode cX0_couldHave 27 = .ok (.iconst 0, 1) := by decide +kernel
theorem dX0_couldHave_28 : decode cX0_couldHave 28 = .ok (.ireturn, 1) := by decide +kernel
theorem dX0_targetsOf_0 : decode cX0_targetsOf 0 = .ok (.iload_n 1, 1) := by decide +kernel
theorem dX0_targetsOf_1 : decode cX0_targetsOf 1 = .ok (.ifCond .lt 24, 3) := by decide +kernel
theorem dX0_targetsOf_4 : decode cX0_targetsOf 4 = .ok (.iload_n 1, 1) := by decide +kernel
theorem dX0_targetsOf_5 : decode cX0_targetsOf 5 = .ok (.aload_n 0, 1) := by decide +kernel
theorem dX0_targetsOf_6 : decode cX0_targetsOf 6 = .ok (.getfield 9, 3) := by decide +kernel
theorem dX0_targetsOf_9 : decode cX0_targetsOf 9 = .ok (.if_icmp .ge 16, 3) := by decide +kernel
theorem dX0_targetsOf_12 : decode cX0_targetsOf 12 = .ok (.iload_n 2, 1) := by decide +kernel
theorem dX0_targetsOf_13 : decode cX0_targetsOf 13 = .ok (.ifCond .lt 12, 3) := by decide +kernel
theorem dX0_targetsOf_16 : decode cX0_targetsOf 16 = .ok (.iload_n 2, 1) := by decide +kernel
theorem dX0_targetsOf_17 : decode cX0_targetsOf 17 = .ok (.iconst 3, 1) := by decide +kernel
theorem dX0_targetsOf_18 : decode cX0_targetsOf 18 = .ok (.if_icmp .ge 7, 3) := by decide +kernel
theorem dX0_targetsOf_21 : decode cX0_targetsOf 21 = .ok (.iconst 1, 1) := by decide +kernel
theorem dX0_targetsOf_22 : decode cX0_targetsOf 22 = .ok (.goto 4, 3) := by decide +kernel
theorem dX0_targetsOf_25 : decode cX0_targetsOf 25 = .ok (.iconst 0, 1) := by decide +kernel
theorem dX0_targetsOf_26 : decode cX0_targetsOf 26 = .ok (.istore_n 3, 1) := by decide +kernel
theorem dX0_targetsOf_27 : decode cX0_targetsOf 27 = .ok (.iload_n 3, 1) := by decide +kernel
theorem dX0_targetsOf_28 : decode cX0_targetsOf 28 = .ok (.ifCond .eq 16, 3) := by decide +kernel
theorem dX0_targetsOf_31 : decode cX0_targetsOf 31 = .ok (.aload_n 0, 1) := by decide +kernel
theorem dX0_targetsOf_32 : decode cX0_targetsOf 32 = .ok (.getfield 15, 3) := by decide +kernel
theorem dX0_targetsOf_35 : decode cX0_targetsOf 35 = .ok (.iload_n 1, 1) := by decide +kernel
theorem dX0_targetsOf_36 : decode cX0_targetsOf 36 = .ok (.iconst 3, 1) := by decide +kernel
theorem dX0_targetsOf_37 : decode cX0_targetsOf 37 = .ok (.imul, 1) := by decide +kernel
theorem dX0_targetsOf_38 : decode cX0_targetsOf 38 = .ok (.iload_n 2, 1) := by decide +kernel
theorem dX0_targetsOf_39 : decode cX0_targetsOf 39 = .ok (.iadd, 1) := by decide +kernel
theorem dX0_targetsOf_40 : decode cX0_targetsOf 40 = .ok (.iaload, 1) := by decide +kernel
theorem dX0_targetsOf_41 : decode cX0_targetsOf 41 = .ok (.goto 4, 3) := by decide +kernel
theorem dX0_targetsOf_44 : decode cX0_targetsOf 44 = .ok (.iconst 0, 1) := by decide +kernel
theorem dX0_targetsOf_45 : decode cX0_targetsOf 45 = .ok (.ireturn, 1) := by decide +kernel
set_option maxRecDepth 20000 in
theorem ggX0_add_X0_couldHave : GoodIn wsX0_add wsX0_couldHave := goodIn_r _ [6, 7, 8, 9, 5, 10, 11, 12, 13, 14, 21, 22, 23, 24] (by decide +kernel) (by decide +kernel)
set_option maxRecDepth 20000 in
theorem gX0_add_X0_couldHave : GoodIn wsX0_add (wsV RX0 32 RX0 yX0_couldHave wsX0_couldHave) := goodIn_app (goodIn_of _ (by decide +kernel)) ggX0_add_X0_couldHave
set_option maxRecDepth 20000 in
theorem ggX0_add_X0_targetsOf : GoodIn wsX0_add wsX0_targetsOf := goodIn_r _ [18, 11, 1, 21, 22, 23, 24] (by decide +kernel) (by decide +kernel)
set_option maxRecDepth 20000 in
theorem gX0_add_X0_targetsOf : GoodIn wsX0_add (wsV RX0 36 RX0 yX0_targetsOf wsX0_targetsOf) := goodIn_app (goodIn_of _ (by decide +kernel)) ggX0_add_X0_targetsOf
set_option maxRecDepth 20000 in
theorem ggX0_add_X10_contains : GoodIn wsX0_add wsX10_contains := goodIn_r _ [20] (by decide +kernel) (by decide +kernel)
set_option maxRecDepth 20000 in
theorem gX0_add_X10_contains_n40 : GoodIn wsX0_add (wsX10_contains) := ggX0_add_X10_contains
theorem dX0_add_0 : decode cX0_add 0 = .ok (.aload_n 0, 1) := by decide +kernel
theorem dX0_add_1 : decode cX0_add 1 = .ok (.iload_n 1, 1) := by decide +kernel
theorem dX0_add_2 : decode cX0_add 2 = .ok (.iload_n 2, 1) := by decide +kernel
theorem dX0_add_3 : decode cX0_add 3 = .ok (.iload_n 3, 1) := by decide +kernel
theorem dX0_add_4 : decode cX0_add 4 = .ok (.invokevirtual 32, 3) := by decide +kernel
theorem dX0_add_7 : decode cX0_add 7 = .ok (.ifCond .eq 16, 3) := by decide +kernel
theorem dX0_add_10 : decode cX0_add 10 = .ok (.aload_n 0, 1) := by decide +kernel
theorem dX0_add_11 : decode cX0_add 11 = .ok (.iload_n 1, 1) := by decide +kernel
theorem dX0_add_12 : decode cX0_add 12 = .ok (.iload_n 2, 1) := by decide +kernel
theorem dX0_add_13 : decode cX0_add 13 = .ok (.invokevirtual 36, 3) := by decide +kernel
theorem dX0_add_16 : decode cX0_add 16 = .ok (.iload_n 3, 1) := by decide +kernel
theorem dX0_add_17 : decode cX0_add 17 = .ok (.invokestatic 40, 3) := by decide +kernel
theorem dX0_add_20 : decode cX0_add 20 = .ok (.ifCond .eq 5, 3) := by decide +kernel
theorem dX0_add_23 : decode cX0_add 23 = .ok (.iconst 0, 1) := by decide +kernel
theorem dX0_add_24 : decode cX0_add 24 = .ok (.ireturn, 1) := by decide +kernel
theorem dX0_add_25 : decode cX0_add 25 = .ok (.aload_n 0, 1) := by decide +kernel
theorem dX0_add_26 : decode cX0_add 26 = .ok (.getfield 15, 3) := by decide +kernel
theorem dX0_add_29 : decode cX0_add 29 = .ok (.iload_n 1, 1) := by decide +kernel
theorem dX0_add_30 : decode cX0_add 30 = .ok (.iconst 3, 1) := by decide +kernel
theorem dX0_add_31 : decode cX0_add 31 = .ok (.imul, 1) := by decide +kernel
theorem dX0_add_32 : decode cX0_add 32 = .ok (.iload_n 2, 1) := by decide +kernel
theorem dX0_add_33 : decode cX0_add 33 = .ok (.iadd, 1) := by decide +kernel
theorem dX0_add_34 : decode cX0_add 34 = .ok (.dup2, 1) := by decide +kernel
theorem dX0_add_35 : decode cX0_add 35 = .ok (.iaload, 1) := by decide +kernel
theorem dX0_add_36 : decode cX0_add 36 = .ok (.iconst 1, 1) := by decide +kernel
theorem dX0_add_37 : decode cX0_add 37 = .ok (.iload_n 3, 1) := by decide +kernel
theorem dX0_add_38 : decode cX0_add 38 = .ok (.ishl, 1) := by decide +kernel
theorem dX0_add_39 : decode cX0_add 39 = .ok (.ior, 1) := by decide +kernel
theorem dX0_add_40 : decode cX0_add 40 = .ok (.iastore, 1) := by decide +kernel
theorem dX0_add_41 : decode cX0_add 41 = .ok (.iconst 1, 1) := by decide +kernel
theorem dX0_add_42 : decode cX0_add 42 = .ok (.ireturn, 1) := by decide +kernel
set_option maxRecDepth 20000 in
theorem ggX0_remove_X0_couldHave : GoodIn wsX0_remove wsX0_couldHave := goodIn_r _ [6, 7, 8, 9, 5, 10, 11, 12, 13, 14, 21, 22, 23, 24] (by decide +kernel) (by decide +kernel)
set_option maxRecDepth 20000 in
theorem gX0_remove_X0_couldHave : GoodIn wsX0_remove (wsV RX0 32 RX0 yX0_couldHave wsX0_couldHave) := goodIn_app (goodIn_of _ (by decide +kernel)) ggX0_remove_X0_couldHave
set_option maxRecDepth 20000 in
theorem ggX0_remove_X0_targetsOf : GoodIn wsX0_remove wsX0_targetsOf := goodIn_r _ [18, 11, 1, 21, 22, 23, 24] (by decide +kernel) (by decide +kernel)
set_option maxRecDepth 20000 in
theorem gX0_remove_X0_targetsOf : GoodIn wsX0_remove (wsV RX0 36 RX0 yX0_targetsOf wsX0_targetsOf) := goodIn_app (goodIn_of _ (by decide +kernel)) ggX0_remove_X0_targetsOf
set_option maxRecDepth 20000 in
theorem ggX0_remove_X10_contains : GoodIn wsX0_remove wsX10_contains := goodIn_r _ [20] (by decide +kernel) (by decide +kernel)
set_option maxRecDepth 20000 in
theorem gX0_remove_X10_contains_n40 : GoodIn wsX0_remove (wsX10_contains) := ggX0_remove_X10_contains
theorem dX0_remove_0 : decode cX0_remove 0 = .ok (.aload_n 0, 1) := by decide +kernel
theorem dX0_remove_1 : decode cX0_remove 1 = .ok (.iload_n 1, 1) := by decide +kernel
theorem dX0_remove_2 : decode cX0_remove 2 = .ok (.iload_n 2, 1) := by decide +kernel
theorem dX0_remove_3 : decode cX0_remove 3 = .ok (.iload_n 3, 1) := by decide +kernel
theorem dX0_remove_4 : decode cX0_remove 4 = .ok (.invokevirtual 32, 3) := by decide +kernel
theorem dX0_remove_7 : decode cX0_remove 7 = .ok (.ifCond .eq 16, 3) := by decide +kernel
theorem dX0_remove_10 : decode cX0_remove 10 = .ok (.aload_n 0, 1) := by decide +kernel
theorem dX0_remove_11 : decode cX0_remove 11 = .ok (.iload_n 1, 1) := by decide +kernel
theorem dX0_remove_12 : decode cX0_remove 12 = .ok (.iload_n 2, 1) := by decide +kernel
theorem dX0_remove_13 : decode cX0_remove 13 = .ok (.invokevirtual 36, 3) := by decide +kernel
theorem dX0_remove_16 : decode cX0_remove 16 = .ok (.iload_n 3, 1) := by decide +kernel
theorem dX0_remove_17 : decode cX0_remove 17 = .ok (.invokestatic 40, 3) := by decide +kernel
theorem dX0_remove_20 : decode cX0_remove 20 = .ok (.ifCond .ne 5, 3) := by decide +kernel
theorem dX0_remove_23 : decode cX0_remove 23 = .ok (.iconst 0, 1) := by decide +kernel
theorem dX0_remove_24 : decode cX0_remove 24 = .ok (.ireturn, 1) := by decide +kernel
theorem dX0_remove_25 : decode cX0_remove 25 = .ok (.aload_n 0, 1) := by decide +kernel
theorem dX0_remove_26 : decode cX0_remove 26 = .ok (.getfield 15, 3) := by decide +kernel
theorem dX0_remove_29 : decode cX0_remove 29 = .ok (.iload_n 1, 1) := by decide +kernel
theorem dX0_remove_30 : decode cX0_remove 30 = .ok (.iconst 3, 1) := by decide +kernel
theorem dX0_remove_31 : decode cX0_remove 31 = .ok (.imul, 1) := by decide +kernel
theorem dX0_remove_32 : decode cX0_remove 32 = .ok (.iload_n 2, 1) := by decide +kernel
theorem dX0_remove_33 : decode cX0_remove 33 = .ok (.iadd, 1) := by decide +kernel
theorem dX0_remove_34 : decode cX0_remove 34 = .ok (.dup2, 1) := by decide +kernel
theorem dX0_remove_35 : decode cX0_remove 35 = .ok (.iaload, 1) := by decide +kernel
theorem dX0_remove_36 : decode cX0_remove 36 = .ok (.iconst 1, 1) := by decide +kernel
theorem dX0_remove_37 : decode cX0_remove 37 = .ok (.iload_n 3, 1) := by decide +kernel
theorem dX0_remove_38 : decode cX0_remove 38 = .ok (.ishl, 1) := by decide +kernel
theorem dX0_remove_39 : decode cX0_remove 39 = .ok (.iconst (-1), 1) := by decide +kernel
theorem dX0_remove_40 : decode cX0_remove 40 = .ok (.ixor, 1) := by decide +kernel
theorem dX0_remove_41 : decode cX0_remove 41 = .ok (.iand, 1) := by decide +kernel
theorem dX0_remove_42 : decode cX0_remove 42 = .ok (.iastore, 1) := by decide +kernel
theorem dX0_remove_43 : decode cX0_remove 43 = .ok (.iconst 1, 1) := by decide +kernel
theorem dX0_remove_44 : decode cX0_remove 44 = .ok (.ireturn, 1) := by decide +kernel
set_option maxRecDepth 20000 in
theorem ggX0_countTransitions_J6_bitCount_0f7a4 : GoodIn wsX0_countTransitions wsJ6_bitCount_0f7a4 := goodIn_r _ [5, 6, 7, 8] (by decide +kernel) (by decide +kernel)
set_option maxRecDepth 20000 in
theorem gX0_countTransitions_J6_bitCount_0f7a4 : GoodIn wsX0_countTransitions (va_wsS RX0 44 yJ6_bitCount_0f7a4 wsJ6_bitCount_0f7a4) := goodIn_app (goodIn_of _ (by decide +kernel)) ggX0_countTransitions_J6_bitCount_0f7a4
theorem dX0_countTransitions_0 : decode cX0_countTransitions 0 = .ok (.iconst 0, 1) := by decide +kernel
theorem dX0_countTransitions_1 : decode cX0_countTransitions 1 = .ok (.istore_n 1, 1) := by decide +kernel
theorem dX0_countTransitions_2 : decode cX0_countTransitions 2 = .ok (.iconst 0, 1) := by decide +kernel
theorem dX0_countTransitions_3 : decode cX0_countTransitions 3 = .ok (.istore_n 2, 1) := by decide +kernel
theorem dX0_countTransitions_4 : decode cX0_countTransitions 4 = .ok (.iload_n 2, 1) := by decide +kernel
theorem dX0_countTransitions_5 : decode cX0_countTransitions 5 = .ok (.aload_n 0, 1) := by decide +kernel
theorem dX0_countTransitions_6 : decode cX0_countTransitions 6 = .ok (.getfield 15, 3) := by decide +kernel
theorem dX0_countTransitions_9 : decode cX0_countTransitions 9 = .ok (.arraylength, 1) := by decide +kernel
theorem dX0_countTransitions_10 : decode cX0_countTransitions 10 = .ok (.if_icmp .ge 21, 3) := by decide +kernel
theorem dX0_countTransitions_13 : decode cX0_countTransitions 13 = .ok (.iload_n 1, 1) := by decide +kernel
theorem dX0_countTransitions_14 : decode cX0_countTransitions 14 = .ok (.aload_n 0, 1) := by decide +kernel
theorem dX0_countTransitions_15 : decode cX0_countTransitions 15 = .ok (.getfield 15, 3) := by decide +kernel
theorem dX0_countTransitions_18 : decode cX0_countTransitions 18 = .ok (.iload_n 2, 1) := by decide +kernel
theorem dX0_countTransitions_19 : decode cX0_countTransitions 19 = .ok (.iaload, 1) := by decide +kernel
theorem dX0_countTransitions_20 : decode cX0_countTransitions 20 = .ok (.invokestatic 44, 3) := by decide +kernel
theorem dX0_countTransitions_23 : decode cX0_countTransitions 23 = .ok (.iadd, 1) := by decide +kernel
theorem dX0_countTransitions_24 : decode cX0_countTransitions 24 = .ok (.istore_n 1, 1) := by decide +kernel
theorem dX0_countTransitions_25 : decode cX0_countTransitions 25 = .ok (.iinc 2 1, 3) := by decide +kernel
theorem dX0_countTransitions_28 : decode cX0_countTransitions 28 = .ok (.goto (-24), 3) := by decide +kernel
theorem dX0_countTransitions_31 : decode cX0_countTransitions 31 = .ok (.iload_n 1, 1) := by decide +kernel
theorem dX0_countTransitions_32 : decode cX0_countTransitions 32 = .ok (.ireturn, 1) := by decide +kernel
set_option maxRecDepth 20000 in
theorem ggX0_addRandom_X0_nextRandom : GoodIn wsX0_addRandom wsX0_nextRandom := goodIn_r _ [5, 6] (by decide +kernel) (by decide +kernel)
set_option maxRecDepth 20000 in
theorem gX0_addRandom_X0_nextRandom : GoodIn wsX0_addRandom (va_wsS RX0 50 yX0_nextRandom wsX0_nextRandom) := goodIn_app (goodIn_of _ (by decide +kernel)) ggX0_addRandom_X0_nextRandom
set_option maxRecDepth 20000 in
theorem ggX0_addRandom_X0_draw : GoodIn wsX0_addRandom wsX0_draw := goodIn_r _ [9] (by decide +kernel) (by decide +kernel)
set_option maxRecDepth 20000 in
theorem gX0_addRandom_X0_draw : GoodIn wsX0_addRandom (va_wsS RX0 53 yX0_draw wsX0_draw) := goodIn_app (goodIn_of _ (by decide +kernel)) ggX0_addRandom_X0_draw
set_option maxRecDepth 20000 in
theorem ggX0_addRandom_X0_add : GoodIn wsX0_addRandom wsX0_add := goodIn_r _ [13, 14, 15, 16, 17, 4, 18, 19, 20, 21, 22, 1, 23, 24, 25, 26, 27, 28, 29, 30, 31, 32, 33, 34, 35] (by decide +kernel) (by decide +kernel)
set_option maxRecDepth 20000 in
theorem gX0_addRandom_X0_add : GoodIn wsX0_addRandom (wsV RX0 56 RX0 yX0_add wsX0_add) := goodIn_app (goodIn_of _ (by decide +kernel)) ggX0_addRandom_X0_add
theorem dX0_addRandom_0 : decode cX0_addRandom 0 = .ok (.iload_n 1, 1) := by decide +kernel
theorem dX0_addRandom_1 : decode cX0_addRandom 1 = .ok (.istore_n 3, 1) := by decide +kernel
theorem dX0_addRandom_2 : decode cX0_addRandom 2 = .ok (.iconst 0, 1) := by decide +kernel
theorem dX0_addRandom_3 : decode cX0_addRandom 3 = .ok (.istore 4, 2) := by decide +kernel
theorem dX0_addRandom_5 : decode cX0_addRandom 5 = .ok (.iload 4, 2) := by decide +kernel
theorem dX0_addRandom_7 : decode cX0_addRandom 7 = .ok (.iload_n 2, 1) := by decide +kernel
theorem dX0_addRandom_8 : decode cX0_addRandom 8 = .ok (.if_icmp .ge 62, 3) := by decide +kernel
theorem dX0_addRandom_11 : decode cX0_addRandom 11 = .ok (.iload_n 3, 1) := by decide +kernel
theorem dX0_addRandom_12 : decode cX0_addRandom 12 = .ok (.invokestatic 50, 3) := by decide +kernel
theorem dX0_addRandom_15 : decode cX0_addRandom 15 = .ok (.istore_n 3, 1) := by decide +kernel
theorem dX0_addRandom_16 : decode cX0_addRandom 16 = .ok (.iload_n 3, 1) := by decide +kernel
theorem dX0_addRandom_17 : decode cX0_addRandom 17 = .ok (.aload_n 0, 1) := by decide +kernel
theorem dX0_addRandom_18 : decode cX0_addRandom 18 = .ok (.getfield 9, 3) := by decide +kernel
theorem dX0_addRandom_21 : decode cX0_addRandom 21 = .ok (.invokestatic 53, 3) := by decide +kernel
theorem dX0_addRandom_24 : decode cX0_addRandom 24 = .ok (.istore 5, 2) := by decide +kernel
theorem dX0_addRandom_26 : decode cX0_addRandom 26 = .ok (.iload_n 3, 1) := by decide +kernel
theorem dX0_addRandom_27 : decode cX0_addRandom 27 = .ok (.invokestatic 50, 3) := by decide +kernel
theorem dX0_addRandom_30 : decode cX0_addRandom 30 = .ok (.istore_n 3, 1) := by decide +kernel
theorem dX0_addRandom_31 : decode cX0_addRandom 31 = .ok (.iload_n 3, 1) := by decide +kernel
theorem dX0_addRandom_32 : decode cX0_addRandom 32 = .ok (.iconst 3, 1) := by decide +kernel
theorem dX0_addRandom_33 : decode cX0_addRandom 33 = .ok (.invokestatic 53, 3) := by decide +kernel
theorem dX0_addRandom_36 : decode cX0_addRandom 36 = .ok (.istore 6, 2) := by decide +kernel
theorem dX0_addRandom_38 : decode cX0_addRandom 38 = .ok (.iload_n 3, 1) := by decide +kernel
theorem dX0_addRandom_39 : decode cX0_addRandom 39 = .ok (.invokestatic 50, 3) := by decide +kernel
theorem dX0_addRandom_42 : decode cX0_addRandom 42 = .ok (.istore_n 3, 1) := by decide +kernel
theorem dX0_addRandom_43 : decode cX0_addRandom 43 = .ok (.iload_n 3, 1) := by decide +kernel
theorem dX0_addRandom_44 : decode cX0_addRandom 44 = .ok (.aload_n 0, 1) := by decide +kernel
theorem dX0_addRandom_45 : decode cX0_addRandom 45 = .ok (.getfield 9, 3) := by decide +kernel
theorem dX0_addRandom_48 : decode cX0_addRandom 48 = .ok (.invokestatic 53, 3) := by decide +kernel
theorem dX0_addRandom_51 : decode cX0_addRandom 51 = .ok (.istore 7, 2) := by decide +kernel
theorem dX0_addRandom_53 : decode cX0_addRandom 53 = .ok (.aload_n 0, 1) := by decide +kernel
theorem dX0_addRandom_54 : decode cX0_addRandom 54 = .ok (.iload 5, 2) := by decide +kernel
theorem dX0_addRandom_56 : decode cX0_addRandom 56 = .ok (.iload 6, 2) := by decide +kernel
theorem dX0_addRandom_58 : decode cX0_addRandom 58 = .ok (.iload 7, 2) := by decide +kernel
theorem dX0_addRandom_60 : decode cX0_addRandom 60 = .ok (.invokevirtual 56, 3) := by decide +kernel
theorem dX0_addRandom_63 : decode cX0_addRandom 63 = .ok (.pop, 1) := by decide +kernel
theorem dX0_addRandom_64 : decode cX0_addRandom 64 = .ok (.iinc 4 1, 3) := by decide +kernel
theorem dX0_addRandom_67 : decode cX0_addRandom 67 = .ok (.goto (-62), 3) := by decide +kernel
theorem dX0_addRandom_70 : decode cX0_addRandom 70 = .ok (.return_, 1) := by decide +kernel
theorem dX0_nextRandom_0 : decode cX0_nextRandom 0 = .ok (.iload_n 0, 1) := by decide +kernel
theorem dX0_nextRandom_1 : decode cX0_nextRandom 1 = .ok (.ldc 59, 2) := by decide +kernel
theorem dX0_nextRandom_3 : decode cX0_nextRandom 3 = .ok (.imul, 1) := by decide +kernel
theorem dX0_nextRandom_4 : decode cX0_nextRandom 4 = .ok (.sipush 12345, 3) := by decide +kernel
theorem dX0_nextRandom_7 : decode cX0_nextRandom 7 = .ok (.iadd, 1) := by decide +kernel
theorem dX0_nextRandom_8 : decode cX0_nextRandom 8 = .ok (.ireturn, 1) := by decide +kernel
theorem dX0_draw_0 : decode cX0_draw 0 = .ok (.iload_n 1, 1) := by decide +kernel
theorem dX0_draw_1 : decode cX0_draw 1 = .ok (.iconst 1, 1) := by decide +kernel
theorem dX0_draw_2 : decode cX0_draw 2 = .ok (.if_icmp .ge 7, 3) := by decide +kernel
theorem dX0_draw_5 : decode cX0_draw 5 = .ok (.iconst 0, 1) := by decide +kernel
theorem dX0_draw_6 : decode cX0_draw 6 = .ok (.goto 9, 3) := by decide +kernel
theorem dX0_draw_9 : decode cX0_draw 9 = .ok (.iload_n 0, 1) := by decide +kernel
theorem dX0_draw_10 : decode cX0_draw 10 = .ok (.bipush 16, 2) := by decide +kernel
theorem dX0_draw_12 : decode cX0_draw 12 = .ok (.iushr, 1) := by decide +kernel
theorem dX0_draw_13 : decode cX0_draw 13 = .ok (.iload_n 1, 1) := by decide +kernel
theorem dX0_draw_14 : decode cX0_draw 14 = .ok (.irem, 1) := by decide +kernel
theorem dX0_draw_15 : decode cX0_draw 15 = .ok (.ireturn, 1) := by decide +kernel
set_option maxRecDepth 20000 in
theorem ggX0_usefulSet_X0_reachedFrom : GoodIn wsX0_usefulSet wsX0_reachedFrom := goodIn_r _ [7, 8, 9, 10, 11, 12, 13, 14, 6, 15, 16, 17, 18, 19, 20, 25, 26, 27, 28] (by decide +kernel) (by decide +kernel)
set_option maxRecDepth 20000 in
theorem gX0_usefulSet_X0_reachedFrom : GoodIn wsX0_usefulSet (wsV RX0 60 RX0 yX0_reachedFrom wsX0_reachedFrom) := goodIn_app (goodIn_of _ (by decide +kernel)) ggX0_usefulSet_X0_reachedFrom
set_option maxRecDepth 20000 in
theorem ggX0_usefulSet_X0_reaching : GoodIn wsX0_usefulSet wsX0_reaching := goodIn_r _ [24, 8, 12, 13, 14, 6, 15, 16, 17, 18, 19, 20, 25, 26, 27, 28] (by decide +kernel) (by decide +kernel)
set_option maxRecDepth 20000 in
theorem gX0_usefulSet_X0_reaching : GoodIn wsX0_usefulSet (wsV RX0 63 RX0 yX0_reaching wsX0_reaching) := goodIn_app (goodIn_of _ (by decide +kernel)) ggX0_usefulSet_X0_reaching
theorem dX0_usefulSet_0 : decode cX0_usefulSet 0 = .ok (.aload_n 0, 1) := by decide +kernel
theorem dX0_usefulSet_1 : decode cX0_usefulSet 1 = .ok (.aload_n 0, 1) := by decide +kernel
theorem dX0_usefulSet_2 : decode cX0_usefulSet 2 = .ok (.getfield 19, 3) := by decide +kernel
theorem dX0_usefulSet_5 : decode cX0_usefulSet 5 = .ok (.invokevirtual 60, 3) := by decide +kernel
theorem dX0_usefulSet_8 : decode cX0_usefulSet 8 = .ok (.aload_n 0, 1) := by decide +kernel
theorem dX0_usefulSet_9 : decode cX0_usefulSet 9 = .ok (.aload_n 0, 1) := by decide +kernel
theorem dX0_usefulSet_10 : decode cX0_usefulSet 10 = .ok (.getfield 22, 3) := by decide +kernel
theorem dX0_usefulSet_13 : decode cX0_usefulSet 13 = .ok (.invokevirtual 63, 3) := by decide +kernel
theorem dX0_usefulSet_16 : decode cX0_usefulSet 16 = .ok (.iand, 1) := by decide +kernel
theorem dX0_usefulSet_17 : decode cX0_usefulSet 17 = .ok (.ireturn, 1) := by decide +kernel
set_option maxRecDepth 20000 in
theorem ggX0_neighbours_X0_targetsOf : GoodIn wsX0_neighbours wsX0_targetsOf := goodIn_r _ [5, 6, 7, 8, 9, 10, 11] (by decide +kernel) (by decide +kernel)
set_option maxRecDepth 20000 in
theorem gX0_neighbours_X0_targetsOf : GoodIn wsX0_neighbours (wsV RX0 36 RX0 yX0_targetsOf wsX0_targetsOf) := goodIn_app (goodIn_of _ (by decide +kernel)) ggX0_neighbours_X0_targetsOf
theorem dX0_neighbours_0 : decode cX0_neighbours 0 = .ok (.iconst 0, 1) := by decide +kernel
theorem dX0_neighbours_1 : decode cX0_neighbours 1 = .ok (.istore_n 2, 1) := by decide +kernel
theorem dX0_neighbours_2 : decode cX0_neighbours 2 = .ok (.iconst 0, 1) := by decide +kernel
theorem dX0_neighbours_3 : decode cX0_neighbours 3 = .ok (.istore_n 3, 1) := by decide +kernel
theorem dX0_neighbours_4 : decode cX0_neighbours 4 = .ok (.iload_n 3, 1) := by decide +kernel
theorem dX0_neighbours_5 : decode cX0_neighbours 5 = .ok (.iconst 3, 1) := by decide +kernel
theorem dX0_neighbours_6 : decode cX0_neighbours 6 = .ok (.if_icmp .ge 18, 3) := by decide +kernel
theorem dX0_neighbours_9 : decode cX0_neighbours 9 = .ok (.iload_n 2, 1) := by decide +kernel
theorem dX0_neighbours_10 : decode cX0_neighbours 10 = .ok (.aload_n 0, 1) := by decide +kernel
theorem dX0_neighbours_11 : decode cX0_neighbours 11 = .ok (.iload_n 1, 1) := by decide +kernel
theorem dX0_neighbours_12 : decode cX0_neighbours 12 = .ok (.iload_n 3, 1) := by decide +kernel
theorem dX0_neighbours_13 : decode cX0_neighbours 13 = .ok (.invokevirtual 36, 3) := by decide +kernel
theorem dX0_neighbours_16 : decode cX0_neighbours 16 = .ok (.ior, 1) := by decide +kernel
theorem dX0_neighbours_17 : decode cX0_neighbours 17 = .ok (.istore_n 2, 1) := by decide +kernel
theorem dX0_neighbours_18 : decode cX0_neighbours 18 = .ok (.iinc 3 1, 3) := by decide +kernel
theorem dX0_neighbours_21 : decode cX0_neighbours 21 = .ok (.goto (-17), 3) := by decide +kernel
theorem dX0_neighbours_24 : decode cX0_neighbours 24 = .ok (.iload_n 2, 1) := by decide +kernel
theorem dX0_neighbours_25 : decode cX0_neighbours 25 = .ok (.ireturn, 1) := by decide +kernel
set_option maxRecDepth 20000 in
theorem ggX0_reachedFrom_X10_contains : GoodIn wsX0_reachedFrom wsX10_contains := goodIn_r _ [4] (by decide +kernel) (by decide +kernel)
set_option maxRecDepth 20000 in
theorem gX0_reachedFrom_X10_contains_n40 : GoodIn wsX0_reachedFrom (wsX10_contains) := ggX0_reachedFrom_X10_contains
set_option maxRecDepth 20000 in
theorem ggX0_reachedFrom_X0_neighbours : GoodIn wsX0_reachedFrom wsX0_neighbours := goodIn_r _ [9, 10, 11, 12, 8, 13, 1, 14, 15, 16, 17, 18] (by decide +kernel) (by decide +kernel)
set_option maxRecDepth 20000 in
theorem gX0_reachedFrom_X0_neighbours : GoodIn wsX0_reachedFrom (wsV RX0 66 RX0 yX0_neighbours wsX0_neighbours) := goodIn_app (goodIn_of _ (by decide +kernel)) ggX0_reachedFrom_X0_neighbours
theorem dX0_reachedFrom_0 : decode cX0_reachedFrom 0 = .ok (.iload_n 1, 1) := by decide +kernel
theorem dX0_reachedFrom_1 : decode cX0_reachedFrom 1 = .ok (.istore_n 2, 1) := by decide +kernel
theorem dX0_reachedFrom_2 : decode cX0_reachedFrom 2 = .ok (.iconst 0, 1) := by decide +kernel
theorem dX0_reachedFrom_3 : decode cX0_reachedFrom 3 = .ok (.istore_n 3, 1) := by decide +kernel
theorem dX0_reachedFrom_4 : decode cX0_reachedFrom 4 = .ok (.iload_n 3, 1) := by decide +kernel
theorem dX0_reachedFrom_5 : decode cX0_reachedFrom 5 = .ok (.aload_n 0, 1) := by decide +kernel
theorem dX0_reachedFrom_6 : decode cX0_reachedFrom 6 = .ok (.getfield 9, 3) := by decide +kernel
theorem dX0_reachedFrom_9 : decode cX0_reachedFrom 9 = .ok (.if_icmp .ge 49, 3) := by decide +kernel
theorem dX0_reachedFrom_12 : decode cX0_reachedFrom 12 = .ok (.iconst 0, 1) := by decide +kernel
theorem dX0_reachedFrom_13 : decode cX0_reachedFrom 13 = .ok (.istore 4, 2) := by decide +kernel
theorem dX0_reachedFrom_15 : decode cX0_reachedFrom 15 = .ok (.iload 4, 2) := by decide +kernel
theorem dX0_reachedFrom_17 : decode cX0_reachedFrom 17 = .ok (.aload_n 0, 1) := by decide +kernel
theorem dX0_reachedFrom_18 : decode cX0_reachedFrom 18 = .ok (.getfield 9, 3) := by decide +kernel
theorem dX0_reachedFrom_21 : decode cX0_reachedFrom 21 = .ok (.if_icmp .ge 31, 3) := by decide +kernel
theorem dX0_reachedFrom_24 : decode cX0_reachedFrom 24 = .ok (.iload_n 2, 1) := by decide +kernel
theorem dX0_reachedFrom_25 : decode cX0_reachedFrom 25 = .ok (.iload_n 2, 1) := by decide +kernel
theorem dX0_reachedFrom_26 : decode cX0_reachedFrom 26 = .ok (.iload 4, 2) := by decide +kernel
theorem dX0_reachedFrom_28 : decode cX0_reachedFrom 28 = .ok (.invokestatic 40, 3) := by decide +kernel
theorem dX0_reachedFrom_31 : decode cX0_reachedFrom 31 = .ok (.ifCond .eq 12, 3) := by decide +kernel
theorem dX0_reachedFrom_34 : decode cX0_reachedFrom 34 = .ok (.aload_n 0, 1) := by decide +kernel
theorem dX0_reachedFrom_35 : decode cX0_reachedFrom 35 = .ok (.iload 4, 2) := by decide +kernel
theorem dX0_reachedFrom_37 : decode cX0_reachedFrom 37 = .ok (.invokevirtual 66, 3) := by decide +kernel
theorem dX0_reachedFrom_40 : decode cX0_reachedFrom 40 = .ok (.goto 4, 3) := by decide +kernel
theorem dX0_reachedFrom_43 : decode cX0_reachedFrom 43 = .ok (.iconst 0, 1) := by decide +kernel
theorem dX0_reachedFrom_44 : decode cX0_reachedFrom 44 = .ok (.ior, 1) := by decide +kernel
theorem dX0_reachedFrom_45 : decode cX0_reachedFrom 45 = .ok (.istore_n 2, 1) := by decide +kernel
theorem dX0_reachedFrom_46 : decode cX0_reachedFrom 46 = .ok (.iinc 4 1, 3) := by decide +kernel
theorem dX0_reachedFrom_49 : decode cX0_reachedFrom 49 = .ok (.goto (-34), 3) := by decide +kernel
theorem dX0_reachedFrom_52 : decode cX0_reachedFrom 52 = .ok (.iinc 3 1, 3) := by decide +kernel
theorem dX0_reachedFrom_55 : decode cX0_reachedFrom 55 = .ok (.goto (-51), 3) := by decide +kernel
theorem dX0_reachedFrom_58 : decode cX0_reachedFrom 58 = .ok (.iload_n 2, 1) := by decide +kernel
theorem dX0_reachedFrom_59 : decode cX0_reachedFrom 59 = .ok (.ireturn, 1) := by decide +kernel
set_option maxRecDepth 20000 in
theorem ggX0_reaching_X0_neighbours : GoodIn wsX0_reaching wsX0_neighbours := goodIn_r _ [6, 7, 8, 9, 5, 10, 1, 11, 12, 13, 14, 15] (by decide +kernel) (by decide +kernel)
set_option maxRecDepth 20000 in
theorem gX0_reaching_X0_neighbours : GoodIn wsX0_reaching (wsV RX0 66 RX0 yX0_neighbours wsX0_neighbours) := goodIn_app (goodIn_of _ (by decide +kernel)) ggX0_reaching_X0_neighbours
theorem dX0_reaching_0 : decode cX0_reaching 0 = .ok (.iload_n 1, 1) := by decide +kernel
theorem dX0_reaching_1 : decode cX0_reaching 1 = .ok (.istore_n 2, 1) := by decide +kernel
theorem dX0_reaching_2 : decode cX0_reaching 2 = .ok (.iconst 0, 1) := by decide +kernel
theorem dX0_reaching_3 : decode cX0_reaching 3 = .ok (.istore_n 3, 1) := by decide +kernel
theorem dX0_reaching_4 : decode cX0_reaching 4 = .ok (.iload_n 3, 1) := by decide +kernel
theorem dX0_reaching_5 : decode cX0_reaching 5 = .ok (.aload_n 0, 1) := by decide +kernel
theorem dX0_reaching_6 : decode cX0_reaching 6 = .ok (.getfield 9, 3) := by decide +kernel
theorem dX0_reaching_9 : decode cX0_reaching 9 = .ok (.if_icmp .ge 49, 3) := by decide +kernel
theorem dX0_reaching_12 : decode cX0_reaching 12 = .ok (.iconst 0, 1) := by decide +kernel
theorem dX0_reaching_13 : decode cX0_reaching 13 = .ok (.istore 4, 2) := by decide +kernel
theorem dX0_reaching_15 : decode cX0_reaching 15 = .ok (.iload 4, 2) := by decide +kernel
theorem dX0_reaching_17 : decode cX0_reaching 17 = .ok (.aload_n 0, 1) := by decide +kernel
theorem dX0_reaching_18 : decode cX0_reaching 18 = .ok (.getfield 9, 3) := by decide +kernel
theorem dX0_reaching_21 : decode cX0_reaching 21 = .ok (.if_icmp .ge 31, 3) := by decide +kernel
theorem dX0_reaching_24 : decode cX0_reaching 24 = .ok (.iload_n 2, 1) := by decide +kernel
theorem dX0_reaching_25 : decode cX0_reaching 25 = .ok (.aload_n 0, 1) := by decide +kernel
theorem dX0_reaching_26 : decode cX0_reaching 26 = .ok (.iload 4, 2) := by decide +kernel
theorem dX0_reaching_28 : decode cX0_reaching 28 = .ok (.invokevirtual 66, 3) := by decide +kernel
theorem dX0_reaching_31 : decode cX0_reaching 31 = .ok (.iload_n 2, 1) := by decide +kernel
theorem dX0_reaching_32 : decode cX0_reaching 32 = .ok (.iand, 1) := by decide +kernel
theorem dX0_reaching_33 : decode cX0_reaching 33 = .ok (.ifCond .eq 10, 3) := by decide +kernel
theorem dX0_reaching_36 : decode cX0_reaching 36 = .ok (.iconst 1, 1) := by decide +kernel
theorem dX0_reaching_37 : decode cX0_reaching 37 = .ok (.iload 4, 2) := by decide +kernel
theorem dX0_reaching_39 : decode cX0_reaching 39 = .ok (.ishl, 1) := by decide +kernel
theorem dX0_reaching_40 : decode cX0_reaching 40 = .ok (.goto 4, 3) := by decide +kernel
theorem dX0_reaching_43 : decode cX0_reaching 43 = .ok (.iconst 0, 1) := by decide +kernel
theorem dX0_reaching_44 : decode cX0_reaching 44 = .ok (.ior, 1) := by decide +kernel
theorem dX0_reaching_45 : decode cX0_reaching 45 = .ok (.istore_n 2, 1) := by decide +kernel
theorem dX0_reaching_46 : decode cX0_reaching 46 = .ok (.iinc 4 1, 3) := by decide +kernel
theorem dX0_reaching_49 : decode cX0_reaching 49 = .ok (.goto (-34), 3) := by decide +kernel
theorem dX0_reaching_52 : decode cX0_reaching 52 = .ok (.iinc 3 1, 3) := by decide +kernel
theorem dX0_reaching_55 : decode cX0_reaching 55 = .ok (.goto (-51), 3) := by decide +kernel
theorem dX0_reaching_58 : decode cX0_reaching 58 = .ok (.iload_n 2, 1) := by decide +kernel
theorem dX0_reaching_59 : decode cX0_reaching 59 = .ok (.ireturn, 1) := by decide +kernel
set_option maxRecDepth 20000 in
theorem ggX0_keepOnly_X10_contains : GoodIn wsX0_keepOnly wsX10_contains := goodIn_r _ [7] (by decide +kernel) (by decide +kernel)
set_option maxRecDepth 20000 in
theorem gX0_keepOnly_X10_contains_n40 : GoodIn wsX0_keepOnly (wsX10_contains) := ggX0_keepOnly_X10_contains
set_option maxRecDepth 20000 in
theorem ggX0_keepOnly_X0_moveTargets : GoodIn wsX0_keepOnly wsX0_moveTargets := goodIn_r _ [12, 2, 13, 14, 15, 11, 16, 1, 17, 18, 19, 5, 6, 7, 20, 21, 22, 23] (by decide +kernel) (by decide +kernel)
set_option maxRecDepth 20000 in
theorem gX0_keepOnly_X0_moveTargets : GoodIn wsX0_keepOnly (wsV RX0 69 RX0 yX0_moveTargets wsX0_moveTargets) := goodIn_app (goodIn_of _ (by decide +kernel)) ggX0_keepOnly_X0_moveTargets
set_option maxRecDepth 20000 in
theorem ggX0_keepOnly_X0_squeeze : GoodIn wsX0_keepOnly wsX0_squeeze := goodIn_r _ [19, 5, 6, 7] (by decide +kernel) (by decide +kernel)
set_option maxRecDepth 20000 in
theorem gX0_keepOnly_X0_squeeze : GoodIn wsX0_keepOnly (va_wsS RX0 73 yX0_squeeze wsX0_squeeze) := goodIn_app (goodIn_of _ (by decide +kernel)) ggX0_keepOnly_X0_squeeze
theorem dX0_keepOnly_0 : decode cX0_keepOnly 0 = .ok (.iconst 0, 1) := by decide +kernel
theorem dX0_keepOnly_1 : decode cX0_keepOnly 1 = .ok (.istore_n 2, 1) := by decide +kernel
theorem dX0_keepOnly_2 : decode cX0_keepOnly 2 = .ok (.iconst 0, 1) := by decide +kernel
theorem dX0_keepOnly_3 : decode cX0_keepOnly 3 = .ok (.istore_n 3, 1) := by decide +kernel
theorem dX0_keepOnly_4 : decode cX0_keepOnly 4 = .ok (.iload_n 3, 1) := by decide +kernel
theorem dX0_keepOnly_5 : decode cX0_keepOnly 5 = .ok (.aload_n 0, 1) := by decide +kernel
theorem dX0_keepOnly_6 : decode cX0_keepOnly 6 = .ok (.getfield 9, 3) := by decide +kernel
theorem dX0_keepOnly_9 : decode cX0_keepOnly 9 = .ok (.if_icmp .ge 27, 3) := by decide +kernel
theorem dX0_keepOnly_12 : decode cX0_keepOnly 12 = .ok (.iload_n 1, 1) := by decide +kernel
theorem dX0_keepOnly_13 : decode cX0_keepOnly 13 = .ok (.iload_n 3, 1) := by decide +kernel
theorem dX0_keepOnly_14 : decode cX0_keepOnly 14 = .ok (.invokestatic 40, 3) := by decide +kernel
theorem dX0_keepOnly_17 : decode cX0_keepOnly 17 = .ok (.ifCond .eq 13, 3) := by decide +kernel
theorem dX0_keepOnly_20 : decode cX0_keepOnly 20 = .ok (.aload_n 0, 1) := by decide +kernel
theorem dX0_keepOnly_21 : decode cX0_keepOnly 21 = .ok (.iload_n 3, 1) := by decide +kernel
theorem dX0_keepOnly_22 : decode cX0_keepOnly 22 = .ok (.iload_n 2, 1) := by decide +kernel
theorem dX0_keepOnly_23 : decode cX0_keepOnly 23 = .ok (.iload_n 1, 1) := by decide +kernel
theorem dX0_keepOnly_24 : decode cX0_keepOnly 24 = .ok (.invokevirtual 69, 3) := by decide +kernel
theorem dX0_keepOnly_27 : decode cX0_keepOnly 27 = .ok (.iinc 2 1, 3) := by decide +kernel
theorem dX0_keepOnly_30 : decode cX0_keepOnly 30 = .ok (.iinc 3 1, 3) := by decide +kernel
theorem dX0_keepOnly_33 : decode cX0_keepOnly 33 = .ok (.goto (-29), 3) := by decide +kernel
theorem dX0_keepOnly_36 : decode cX0_keepOnly 36 = .ok (.iload_n 2, 1) := by decide +kernel
theorem dX0_keepOnly_37 : decode cX0_keepOnly 37 = .ok (.iconst 3, 1) := by decide +kernel
theorem dX0_keepOnly_38 : decode cX0_keepOnly 38 = .ok (.imul, 1) := by decide +kernel
theorem dX0_keepOnly_39 : decode cX0_keepOnly 39 = .ok (.istore_n 3, 1) := by decide +kernel
theorem dX0_keepOnly_40 : decode cX0_keepOnly 40 = .ok (.iload_n 3, 1) := by decide +kernel
theorem dX0_keepOnly_41 : decode cX0_keepOnly 41 = .ok (.aload_n 0, 1) := by decide +kernel
theorem dX0_keepOnly_42 : decode cX0_keepOnly 42 = .ok (.getfield 15, 3) := by decide +kernel
theorem dX0_keepOnly_45 : decode cX0_keepOnly 45 = .ok (.arraylength, 1) := by decide +kernel
theorem dX0_keepOnly_46 : decode cX0_keepOnly 46 = .ok (.if_icmp .ge 16, 3) := by decide +kernel
theorem dX0_keepOnly_49 : decode cX0_keepOnly 49 = .ok (.aload_n 0, 1) := by decide +kernel
theorem dX0_keepOnly_50 : decode cX0_keepOnly 50 = .ok (.getfield 15, 3) := by decide +kernel
theorem dX0_keepOnly_53 : decode cX0_keepOnly 53 = .ok (.iload_n 3, 1) := by decide +kernel
theorem dX0_keepOnly_54 : decode cX0_keepOnly 54 = .ok (.iconst 0, 1) := by decide +kernel
theorem dX0_keepOnly_55 : decode cX0_keepOnly 55 = .ok (.iastore, 1) := by decide +kernel
theorem dX0_keepOnly_56 : decode cX0_keepOnly 56 = .ok (.iinc 3 1, 3) := by decide +kernel
theorem dX0_keepOnly_59 : decode cX0_keepOnly 59 = .ok (.goto (-19), 3) := by decide +kernel
theorem dX0_keepOnly_62 : decode cX0_keepOnly 62 = .ok (.aload_n 0, 1) := by decide +kernel
theorem dX0_keepOnly_63 : decode cX0_keepOnly 63 = .ok (.aload_n 0, 1) := by decide +kernel
theorem dX0_keepOnly_64 : decode cX0_keepOnly 64 = .ok (.getfield 19, 3) := by decide +kernel
theorem dX0_keepOnly_67 : decode cX0_keepOnly 67 = .ok (.iload_n 1, 1) := by decide +kernel
theorem dX0_keepOnly_68 : decode cX0_keepOnly 68 = .ok (.invokestatic 73, 3) := by decide +kernel
theorem dX0_keepOnly_71 : decode cX0_keepOnly 71 = .ok (.putfield 19, 3) := by decide +kernel
theorem dX0_keepOnly_74 : decode cX0_keepOnly 74 = .ok (.aload_n 0, 1) := by decide +kernel
theorem dX0_keepOnly_75 : decode cX0_keepOnly 75 = .ok (.aload_n 0, 1) := by decide +kernel
theorem dX0_keepOnly_76 : decode cX0_keepOnly 76 = .ok (.getfield 22, 3) := by decide +kernel
theorem dX0_keepOnly_79 : decode cX0_keepOnly 79 = .ok (.iload_n 1, 1) := by decide +kernel
theorem dX0_keepOnly_80 : decode cX0_keepOnly 80 = .ok (.invokestatic 73, 3) := by decide +kernel
theorem dX0_keepOnly_83 : decode cX0_keepOnly 83 = .ok (.putfield 22, 3) := by decide +kernel
theorem dX0_keepOnly_86 : decode cX0_keepOnly 86 = .ok (.aload_n 0, 1) := by decide +kernel
theorem dX0_keepOnly_87 : decode cX0_keepOnly 87 = .ok (.iload_n 2, 1) := by decide +kernel
theorem dX0_keepOnly_88 : decode cX0_keepOnly 88 = .ok (.putfield 9, 3) := by decide +kernel
theorem dX0_keepOnly_91 : decode cX0_keepOnly 91 = .ok (.return_, 1) := by decide +kernel
set_option maxRecDepth 20000 in
theorem ggX0_moveTargets_X0_targetsOf : GoodIn wsX0_moveTargets wsX0_targetsOf := goodIn_r _ [6, 7, 1, 14, 15, 16, 17] (by decide +kernel) (by decide +kernel)
set_option maxRecDepth 20000 in
theorem gX0_moveTargets_X0_targetsOf : GoodIn wsX0_moveTargets (wsV RX0 36 RX0 yX0_targetsOf wsX0_targetsOf) := goodIn_app (goodIn_of _ (by decide +kernel)) ggX0_moveTargets_X0_targetsOf
set_option maxRecDepth 20000 in
theorem ggX0_moveTargets_X0_squeeze : GoodIn wsX0_moveTargets wsX0_squeeze := goodIn_r _ [10, 11, 12, 13] (by decide +kernel) (by decide +kernel)
set_option maxRecDepth 20000 in
theorem gX0_moveTargets_X0_squeeze : GoodIn wsX0_moveTargets (va_wsS RX0 73 yX0_squeeze wsX0_squeeze) := goodIn_app (goodIn_of _ (by decide +kernel)) ggX0_moveTargets_X0_squeeze
theorem dX0_moveTargets_0 : decode cX0_moveTargets 0 = .ok (.iload_n 2, 1) := by decide +kernel
theorem dX0_moveTargets_1 : decode cX0_moveTargets 1 = .ok (.ifCond .lt 9, 3) := by decide +kernel
theorem dX0_moveTargets_4 : decode cX0_moveTargets 4 = .ok (.iload_n 2, 1) := by decide +kernel
theorem dX0_moveTargets_5 : decode cX0_moveTargets 5 = .ok (.bipush 6, 2) := by decide +kernel
theorem dX0_moveTargets_7 : decode cX0_moveTargets 7 = .ok (.if_icmp .lt 4, 3) := by decide +kernel
theorem dX0_moveTargets_10 : decode cX0_moveTargets 10 = .ok (.return_, 1) := by decide +kernel
theorem dX0_moveTargets_11 : decode cX0_moveTargets 11 = .ok (.iconst 0, 1) := by decide +kernel
theorem dX0_moveTargets_12 : decode cX0_moveTargets 12 = .ok (.istore 4, 2) := by decide +kernel
theorem dX0_moveTargets_14 : decode cX0_moveTargets 14 = .ok (.iload 4, 2) := by decide +kernel
theorem dX0_moveTargets_16 : decode cX0_moveTargets 16 = .ok (.iconst 3, 1) := by decide +kernel
theorem dX0_moveTargets_17 : decode cX0_moveTargets 17 = .ok (.if_icmp .ge 31, 3) := by decide +kernel
theorem dX0_moveTargets_20 : decode cX0_moveTargets 20 = .ok (.aload_n 0, 1) := by decide +kernel
theorem dX0_moveTargets_21 : decode cX0_moveTargets 21 = .ok (.getfield 15, 3) := by decide +kernel
theorem dX0_moveTargets_24 : decode cX0_moveTargets 24 = .ok (.iload_n 2, 1) := by decide +kernel
theorem dX0_moveTargets_25 : decode cX0_moveTargets 25 = .ok (.iconst 3, 1) := by decide +kernel
theorem dX0_moveTargets_26 : decode cX0_moveTargets 26 = .ok (.imul, 1) := by decide +kernel
theorem dX0_moveTargets_27 : decode cX0_moveTargets 27 = .ok (.iload 4, 2) := by decide +kernel
theorem dX0_moveTargets_29 : decode cX0_moveTargets 29 = .ok (.iadd, 1) := by decide +kernel
theorem dX0_moveTargets_30 : decode cX0_moveTargets 30 = .ok (.aload_n 0, 1) := by decide +kernel
theorem dX0_moveTargets_31 : decode cX0_moveTargets 31 = .ok (.iload_n 1, 1) := by decide +kernel
theorem dX0_moveTargets_32 : decode cX0_moveTargets 32 = .ok (.iload 4, 2) := by decide +kernel
theorem dX0_moveTargets_34 : decode cX0_moveTargets 34 = .ok (.invokevirtual 36, 3) := by decide +kernel
theorem dX0_moveTargets_37 : decode cX0_moveTargets 37 = .ok (.iload_n 3, 1) := by decide +kernel
theorem dX0_moveTargets_38 : decode cX0_moveTargets 38 = .ok (.invokestatic 73, 3) := by decide +kernel
theorem dX0_moveTargets_41 : decode cX0_moveTargets 41 = .ok (.iastore, 1) := by decide +kernel
theorem dX0_moveTargets_42 : decode cX0_moveTargets 42 = .ok (.iinc 4 1, 3) := by decide +kernel
theorem dX0_moveTargets_45 : decode cX0_moveTargets 45 = .ok (.goto (-31), 3) := by decide +kernel
theorem dX0_moveTargets_48 : decode cX0_moveTargets 48 = .ok (.return_, 1) := by decide +kernel
set_option maxRecDepth 20000 in
theorem ggX0_squeeze_X10_contains : GoodIn wsX0_squeeze wsX10_contains := goodIn_r _ [3] (by decide +kernel) (by decide +kernel)
set_option maxRecDepth 20000 in
theorem gX0_squeeze_X10_contains_n40 : GoodIn wsX0_squeeze (wsX10_contains) := ggX0_squeeze_X10_contains
theorem dX0_squeeze_0 : decode cX0_squeeze 0 = .ok (.iconst 0, 1) := by decide +kernel
theorem dX0_squeeze_1 : decode cX0_squeeze 1 = .ok (.istore_n 2, 1) := by decide +kernel
theorem dX0_squeeze_2 : decode cX0_squeeze 2 = .ok (.iconst 0, 1) := by decide +kernel
theorem dX0_squeeze_3 : decode cX0_squeeze 3 = .ok (.istore_n 3, 1) := by decide +kernel
theorem dX0_squeeze_4 : decode cX0_squeeze 4 = .ok (.iconst 0, 1) := by decide +kernel
theorem dX0_squeeze_5 : decode cX0_squeeze 5 = .ok (.istore 4, 2) := by decide +kernel
theorem dX0_squeeze_7 : decode cX0_squeeze 7 = .ok (.iload 4, 2) := by decide +kernel
theorem dX0_squeeze_9 : decode cX0_squeeze 9 = .ok (.bipush 6, 2) := by decide +kernel
theorem dX0_squeeze_11 : decode cX0_squeeze 11 = .ok (.if_icmp .ge 40, 3) := by decide +kernel
theorem dX0_squeeze_14 : decode cX0_squeeze 14 = .ok (.iload_n 1, 1) := by decide +kernel
theorem dX0_squeeze_15 : decode cX0_squeeze 15 = .ok (.iload 4, 2) := by decide +kernel
theorem dX0_squeeze_17 : decode cX0_squeeze 17 = .ok (.invokestatic 40, 3) := by decide +kernel
theorem dX0_squeeze_20 : decode cX0_squeeze 20 = .ok (.ifCond .eq 25, 3) := by decide +kernel
theorem dX0_squeeze_23 : decode cX0_squeeze 23 = .ok (.iload_n 2, 1) := by decide +kernel
theorem dX0_squeeze_24 : decode cX0_squeeze 24 = .ok (.iload_n 0, 1) := by decide +kernel
theorem dX0_squeeze_25 : decode cX0_squeeze 25 = .ok (.iload 4, 2) := by decide +kernel
theorem dX0_squeeze_27 : decode cX0_squeeze 27 = .ok (.invokestatic 40, 3) := by decide +kernel
theorem dX0_squeeze_30 : decode cX0_squeeze 30 = .ok (.ifCond .eq 9, 3) := by decide +kernel
theorem dX0_squeeze_33 : decode cX0_squeeze 33 = .ok (.iconst 1, 1) := by decide +kernel
theorem dX0_squeeze_34 : decode cX0_squeeze 34 = .ok (.iload_n 3, 1) := by decide +kernel
theorem dX0_squeeze_35 : decode cX0_squeeze 35 = .ok (.ishl, 1) := by decide +kernel
theorem dX0_squeeze_36 : decode cX0_squeeze 36 = .ok (.goto 4, 3) := by decide +kernel
theorem dX0_squeeze_39 : decode cX0_squeeze 39 = .ok (.iconst 0, 1) := by decide +kernel
theorem dX0_squeeze_40 : decode cX0_squeeze 40 = .ok (.ior, 1) := by decide +kernel
theorem dX0_squeeze_41 : decode cX0_squeeze 41 = .ok (.istore_n 2, 1) := by decide +kernel
theorem dX0_squeeze_42 : decode cX0_squeeze 42 = .ok (.iinc 3 1, 3) := by decide +kernel
theorem dX0_squeeze_45 : decode cX0_squeeze 45 = .ok (.iinc 4 1, 3) := by decide +kernel
theorem dX0_squeeze_48 : decode cX0_squeeze 48 = .ok (.goto (-41), 3) := by decide +kernel
theorem dX0_squeeze_51 : decode cX0_squeeze 51 = .ok (.iload_n 2, 1) := by decide +kernel
theorem dX0_squeeze_52 : decode cX0_squeeze 52 = .ok (.ireturn, 1) := by decide +kernel
theorem dX1_init_0 : decode cX1_init 0 = .ok (.aload_n 0, 1) := by decide +kernel
theorem dX1_init_1 : decode cX1_init 1 = .ok (.invokespecial 3, 3) := by decide +kernel
theorem dX1_init_4 : decode cX1_init 4 = .ok (.aload_n 0, 1) := by decide +kernel
theorem dX1_init_5 : decode cX1_init 5 = .ok (.bipush 6, 2) := by decide +kernel
theorem dX1_init_7 : decode cX1_init 7 = .ok (.newarray .long, 2) := by decide +kernel
theorem dX1_init_9 : decode cX1_init 9 = .ok (.putfield 9, 3) := by decide +kernel
theorem dX1_init_12 : decode cX1_init 12 = .ok (.aload_n 0, 1) := by decide +kernel
theorem dX1_init_13 : decode cX1_init 13 = .ok (.bipush 6, 2) := by decide +kernel
theorem dX1_init_15 : decode cX1_init 15 = .ok (.newarray .long, 2) := by decide +kernel
theorem dX1_init_17 : decode cX1_init 17 = .ok (.putfield 15, 3) := by decide +kernel
theorem dX1_init_20 : decode cX1_init 20 = .ok (.aload_n 0, 1) := by decide +kernel
theorem dX1_init_21 : decode cX1_init 21 = .ok (.bipush 64, 2) := by decide +kernel
theorem dX1_init_23 : decode cX1_init 23 = .ok (.newarray .long, 2) := by decide +kernel
theorem dX1_init_25 : decode cX1_init 25 = .ok (.putfield 18, 3) := by decide +kernel
theorem dX1_init_28 : decode cX1_init 28 = .ok (.aload_n 0, 1) := by decide +kernel
theorem dX1_init_29 : decode cX1_init 29 = .ok (.bipush 64, 2) := by decide +kernel
theorem dX1_init_31 : decode cX1_init 31 = .ok (.newarray .long, 2) := by decide +kernel
theorem dX1_init_33 : decode cX1_init 33 = .ok (.putfield 21, 3) := by decide +kernel
theorem dX1_init_36 : decode cX1_init 36 = .ok (.return_, 1) := by decide +kernel
theorem dX1_sum_0 : decode cX1_sum 0 = .ok (.lload_n 0, 1) := by decide +kernel
theorem dX1_sum_1 : decode cX1_sum 1 = .ok (.lconst 0, 1) := by decide +kernel
theorem dX1_sum_2 : decode cX1_sum 2 = .ok (.lcmp, 1) := by decide +kernel
theorem dX1_sum_3 : decode cX1_sum 3 = .ok (.ifCond .lt 17, 3) := by decide +kernel
theorem dX1_sum_6 : decode cX1_sum 6 = .ok (.lload_n 2, 1) := by decide +kernel
theorem dX1_sum_7 : decode cX1_sum 7 = .ok (.lconst 0, 1) := by decide +kernel
theorem dX1_sum_8 : decode cX1_sum 8 = .ok (.lcmp, 1) := by decide +kernel
theorem dX1_sum_9 : decode cX1_sum 9 = .ok (.ifCond .lt 11, 3) := by decide +kernel
theorem dX1_sum_12 : decode cX1_sum 12 = .ok (.lload_n 0, 1) := by decide +kernel
theorem dX1_sum_13 : decode cX1_sum 13 = .ok (.lload_n 2, 1) := by decide +kernel
theorem dX1_sum_14 : decode cX1_sum 14 = .ok (.ladd, 1) := by decide +kernel
theorem dX1_sum_15 : decode cX1_sum 15 = .ok (.lconst 0, 1) := by decide +kernel
theorem dX1_sum_16 : decode cX1_sum 16 = .ok (.lcmp, 1) := by decide +kernel
theorem dX1_sum_17 : decode cX1_sum 17 = .ok (.ifCond .ge 7, 3) := by decide +kernel
theorem dX1_sum_20 : decode cX1_sum 20 = .ok (.ldc2_w 24, 3) := by decide +kernel
theorem dX1_sum_23 : decode cX1_sum 23 = .ok (.lreturn, 1) := by decide +kernel
theorem dX1_sum_24 : decode cX1_sum 24 = .ok (.lload_n 0, 1) := by decide +kernel
theorem dX1_sum_25 : decode cX1_sum 25 = .ok (.lload_n 2, 1) := by decide +kernel
theorem dX1_sum_26 : decode cX1_sum 26 = .ok (.ladd, 1) := by decide +kernel
theorem dX1_sum_27 : decode cX1_sum 27 = .ok (.lreturn, 1) := by decide +kernel
set_option maxRecDepth 20000 in
theorem ggX1_pathsOf_X1_startPaths : GoodIn wsX1_pathsOf wsX1_startPaths := goodIn_r _ [6, 7, 8, 9, 10, 11, 12, 50, 51, 52, 53, 54, 55, 56, 57] (by decide +kernel) (by decide +kernel)
set_option maxRecDepth 20000 in
theorem gX1_pathsOf_X1_startPaths : GoodIn wsX1_pathsOf (wsV RX1 26 RX1 yX1_startPaths wsX1_startPaths) := goodIn_app (goodIn_of _ (by decide +kernel)) ggX1_pathsOf_X1_startPaths
set_option maxRecDepth 20000 in
theorem ggX1_pathsOf_X8_letterAt : GoodIn wsX1_pathsOf wsX8_letterAt := goodIn_r _ [17, 18, 19, 20, 21, 16, 22, 23, 48, 49] (by decide +kernel) (by decide +kernel)
set_option maxRecDepth 20000 in
theorem gX1_pathsOf_X8_letterAt : GoodIn wsX1_pathsOf (wsV RX1 36 RX8 yX8_letterAt wsX8_letterAt) := goodIn_app (goodIn_of _ (by decide +kernel)) ggX1_pathsOf_X8_letterAt
set_option maxRecDepth 20000 in
theorem ggX1_pathsOf_X1_extendPathsBy : GoodIn wsX1_pathsOf wsX1_extendPathsBy := goodIn_r _ [27, 9, 7, 28, 29, 30, 31, 32, 33, 34, 10, 11, 12, 35, 36, 5, 37, 38, 50, 51, 52, 53, 54, 55, 56, 57] (by decide +kernel) (by decide +kernel)
set_option maxRecDepth 20000 in
theorem gX1_pathsOf_X1_extendPathsBy : GoodIn wsX1_pathsOf (wsV RX1 40 RX1 yX1_extendPathsBy wsX1_extendPathsBy) := goodIn_app (goodIn_of _ (by decide +kernel)) ggX1_pathsOf_X1_extendPathsBy
set_option maxRecDepth 20000 in
theorem ggX1_pathsOf_X1_takeNextPaths : GoodIn wsX1_pathsOf wsX1_takeNextPaths := goodIn_r _ [42, 7, 9, 50, 51, 52, 53] (by decide +kernel) (by decide +kernel)
set_option maxRecDepth 20000 in
theorem gX1_pathsOf_X1_takeNextPaths : GoodIn wsX1_pathsOf (wsV RX1 44 RX1 yX1_takeNextPaths wsX1_takeNextPaths) := goodIn_app (goodIn_of _ (by decide +kernel)) ggX1_pathsOf_X1_takeNextPaths
set_option maxRecDepth 20000 in
theorem ggX1_pathsOf_X1_acceptedPaths : GoodIn wsX1_pathsOf wsX1_acceptedPaths := goodIn_r _ [46, 47, 7, 10, 11, 12, 35, 36, 5, 37, 38, 54, 55, 56, 57, 50, 51, 52, 53] (by decide +kernel) (by decide +kernel)
set_option maxRecDepth 20000 in
theorem gX1_pathsOf_X1_acceptedPaths : GoodIn wsX1_pathsOf (wsV RX1 47 RX1 yX1_acceptedPaths wsX1_acceptedPaths) := goodIn_app (goodIn_of _ (by decide +kernel)) ggX1_pathsOf_X1_acceptedPaths
theorem dX1_pathsOf_0 : decode cX1_pathsOf 0 = .ok (.aload_n 0, 1) := by decide +kernel
theorem dX1_pathsOf_1 : decode cX1_pathsOf 1 = .ok (.aload_n 1, 1) := by decide +kernel
theorem dX1_pathsOf_2 : decode cX1_pathsOf 2 = .ok (.invokevirtual 26, 3) := by decide +kernel
theorem dX1_pathsOf_5 : decode cX1_pathsOf 5 = .ok (.iconst 0, 1) := by decide +kernel
theorem dX1_pathsOf_6 : decode cX1_pathsOf 6 = .ok (.istore_n 3, 1) := by decide +kernel
theorem dX1_pathsOf_7 : decode cX1_pathsOf 7 = .ok (.iload_n 3, 1) := by decide +kernel
theorem dX1_pathsOf_8 : decode cX1_pathsOf 8 = .ok (.aload_n 2, 1) := by decide +kernel
theorem dX1_pathsOf_9 : decode cX1_pathsOf 9 = .ok (.getfield 30, 3) := by decide +kernel
theorem dX1_pathsOf_12 : decode cX1_pathsOf 12 = .ok (.if_icmp .ge 23, 3) := by decide +kernel
theorem dX1_pathsOf_15 : decode cX1_pathsOf 15 = .ok (.aload_n 0, 1) := by decide +kernel
theorem dX1_pathsOf_16 : decode cX1_pathsOf 16 = .ok (.aload_n 1, 1) := by decide +kernel
theorem dX1_pathsOf_17 : decode cX1_pathsOf 17 = .ok (.aload_n 2, 1) := by decide +kernel
theorem dX1_pathsOf_18 : decode cX1_pathsOf 18 = .ok (.iload_n 3, 1) := by decide +kernel
theorem dX1_pathsOf_19 : decode cX1_pathsOf 19 = .ok (.invokevirtual 36, 3) := by decide +kernel
theorem dX1_pathsOf_22 : decode cX1_pathsOf 22 = .ok (.invokevirtual 40, 3) := by decide +kernel
theorem dX1_pathsOf_25 : decode cX1_pathsOf 25 = .ok (.aload_n 0, 1) := by decide +kernel
theorem dX1_pathsOf_26 : decode cX1_pathsOf 26 = .ok (.invokevirtual 44, 3) := by decide +kernel
theorem dX1_pathsOf_29 : decode cX1_pathsOf 29 = .ok (.iinc 3 1, 3) := by decide +kernel
theorem dX1_pathsOf_32 : decode cX1_pathsOf 32 = .ok (.goto (-25), 3) := by decide +kernel
theorem dX1_pathsOf_35 : decode cX1_pathsOf 35 = .ok (.aload_n 0, 1) := by decide +kernel
theorem dX1_pathsOf_36 : decode cX1_pathsOf 36 = .ok (.aload_n 1, 1) := by decide +kernel
theorem dX1_pathsOf_37 : decode cX1_pathsOf 37 = .ok (.invokevirtual 47, 3) := by decide +kernel
theorem dX1_pathsOf_40 : decode cX1_pathsOf 40 = .ok (.lreturn, 1) := by decide +kernel
set_option maxRecDepth 20000 in
theorem ggX1_countPaths_X1_startPaths : GoodIn wsX1_countPaths wsX1_startPaths := goodIn_r _ [5, 6, 7, 8, 9, 10, 11, 40, 41, 42, 43, 44, 45, 46, 47] (by decide +kernel) (by decide +kernel)
set_option maxRecDepth 20000 in
theorem gX1_countPaths_X1_startPaths : GoodIn wsX1_countPaths (wsV RX1 26 RX1 yX1_startPaths wsX1_startPaths) := goodIn_app (goodIn_of _ (by decide +kernel)) ggX1_countPaths_X1_startPaths
set_option maxRecDepth 20000 in
theorem ggX1_countPaths_X1_extendPaths : GoodIn wsX1_countPaths wsX1_extendPaths := goodIn_r _ [15, 16, 17, 18, 4, 19, 8, 6, 20, 21, 22, 23, 24, 25, 26, 9, 10, 11, 27, 28, 29, 30, 31, 32, 33, 34, 40, 41, 42, 43, 44, 45, 46, 47] (by decide +kernel) (by decide +kernel)
set_option maxRecDepth 20000 in
theorem gX1_countPaths_X1_extendPaths : GoodIn wsX1_countPaths (wsV RX1 51 RX1 yX1_extendPaths wsX1_extendPaths) := goodIn_app (goodIn_of _ (by decide +kernel)) ggX1_countPaths_X1_extendPaths
set_option maxRecDepth 20000 in
theorem ggX1_countPaths_X1_acceptedPaths : GoodIn wsX1_countPaths wsX1_acceptedPaths := goodIn_r _ [38, 39, 6, 9, 10, 11, 27, 28, 4, 29, 30, 44, 45, 46, 47, 40, 41, 42, 43] (by decide +kernel) (by decide +kernel)
set_option maxRecDepth 20000 in
theorem gX1_countPaths_X1_acceptedPaths : GoodIn wsX1_countPaths (wsV RX1 47 RX1 yX1_acceptedPaths wsX1_acceptedPaths) := goodIn_app (goodIn_of _ (by decide +kernel)) ggX1_countPaths_X1_acceptedPaths
theorem dX1_countPaths_0 : decode cX1_countPaths 0 = .ok (.aload_n 0, 1) := by decide +kernel
theorem dX1_countPaths_1 : decode cX1_countPaths 1 = .ok (.aload_n 1, 1) := by decide +kernel
theorem dX1_countPaths_2 : decode cX1_countPaths 2 = .ok (.invokevirtual 26, 3) := by decide +kernel
theorem dX1_countPaths_5 : decode cX1_countPaths 5 = .ok (.iconst 0, 1) := by decide +kernel
theorem dX1_countPaths_6 : decode cX1_countPaths 6 = .ok (.istore_n 3, 1) := by decide +kernel
theorem dX1_countPaths_7 : decode cX1_countPaths 7 = .ok (.iload_n 3, 1) := by decide +kernel
theorem dX1_countPaths_8 : decode cX1_countPaths 8 = .ok (.iload_n 2, 1) := by decide +kernel
theorem dX1_countPaths_9 : decode cX1_countPaths 9 = .ok (.if_icmp .ge 14, 3) := by decide +kernel
theorem dX1_countPaths_12 : decode cX1_countPaths 12 = .ok (.aload_n 0, 1) := by decide +kernel
theorem dX1_countPaths_13 : decode cX1_countPaths 13 = .ok (.aload_n 1, 1) := by decide +kernel
theorem dX1_countPaths_14 : decode cX1_countPaths 14 = .ok (.invokevirtual 51, 3) := by decide +kernel
theorem dX1_countPaths_17 : decode cX1_countPaths 17 = .ok (.iinc 3 1, 3) := by decide +kernel
theorem dX1_countPaths_20 : decode cX1_countPaths 20 = .ok (.goto (-13), 3) := by decide +kernel
theorem dX1_countPaths_23 : decode cX1_countPaths 23 = .ok (.aload_n 0, 1) := by decide +kernel
theorem dX1_countPaths_24 : decode cX1_countPaths 24 = .ok (.aload_n 1, 1) := by decide +kernel
theorem dX1_countPaths_25 : decode cX1_countPaths 25 = .ok (.invokevirtual 47, 3) := by decide +kernel
theorem dX1_countPaths_28 : decode cX1_countPaths 28 = .ok (.lreturn, 1) := by decide +kernel
set_option maxRecDepth 20000 in
theorem ggX1_fillCounts_X1_startPaths : GoodIn wsX1_fillCounts wsX1_startPaths := goodIn_r _ [5, 6, 7, 8, 9, 10, 11, 40, 41, 42, 43, 44, 45, 46, 47] (by decide +kernel) (by decide +kernel)
set_option maxRecDepth 20000 in
theorem gX1_fillCounts_X1_startPaths : GoodIn wsX1_fillCounts (wsV RX1 26 RX1 yX1_startPaths wsX1_startPaths) := goodIn_app (goodIn_of _ (by decide +kernel)) ggX1_fillCounts_X1_startPaths
set_option maxRecDepth 20000 in
theorem ggX1_fillCounts_X1_acceptedPaths : GoodIn wsX1_fillCounts wsX1_acceptedPaths := goodIn_r _ [15, 16, 6, 9, 10, 11, 17, 18, 4, 19, 20, 44, 45, 46, 47, 40, 41, 42, 43] (by decide +kernel) (by decide +kernel)
set_option maxRecDepth 20000 in
theorem gX1_fillCounts_X1_acceptedPaths : GoodIn wsX1_fillCounts (wsV RX1 47 RX1 yX1_acceptedPaths wsX1_acceptedPaths) := goodIn_app (goodIn_of _ (by decide +kernel)) ggX1_fillCounts_X1_acceptedPaths
set_option maxRecDepth 20000 in
theorem ggX1_fillCounts_X1_extendPaths : GoodIn wsX1_fillCounts wsX1_extendPaths := goodIn_r _ [24, 25, 26, 27, 4, 28, 8, 6, 29, 30, 31, 32, 33, 34, 35, 9, 10, 11, 17, 18, 19, 20, 36, 37, 38, 39, 40, 41, 42, 43, 44, 45, 46, 47] (by decide +kernel) (by decide +kernel)
set_option maxRecDepth 20000 in
theorem gX1_fillCounts_X1_extendPaths : GoodIn wsX1_fillCounts (wsV RX1 51 RX1 yX1_extendPaths wsX1_extendPaths) := goodIn_app (goodIn_of _ (by decide +kernel)) ggX1_fillCounts_X1_extendPaths
theorem dX1_fillCounts_0 : decode cX1_fillCounts 0 = .ok (.aload_n 0, 1) := by decide +kernel
theorem dX1_fillCounts_1 : decode cX1_fillCounts 1 = .ok (.aload_n 1, 1) := by decide +kernel
theorem dX1_fillCounts_2 : decode cX1_fillCounts 2 = .ok (.invokevirtual 26, 3) := by decide +kernel
theorem dX1_fillCounts_5 : decode cX1_fillCounts 5 = .ok (.iconst 0, 1) := by decide +kernel
theorem dX1_fillCounts_6 : decode cX1_fillCounts 6 = .ok (.istore 4, 2) := by decide +kernel
theorem dX1_fillCounts_8 : decode cX1_fillCounts 8 = .ok (.iload 4, 2) := by decide +kernel
theorem dX1_fillCounts_10 : decode cX1_fillCounts 10 = .ok (.iload_n 3, 1) := by decide +kernel
theorem dX1_fillCounts_11 : decode cX1_fillCounts 11 = .ok (.if_icmp .ge 41, 3) := by decide +kernel
theorem dX1_fillCounts_14 : decode cX1_fillCounts 14 = .ok (.iload 4, 2) := by decide +kernel
theorem dX1_fillCounts_16 : decode cX1_fillCounts 16 = .ok (.aload_n 2, 1) := by decide +kernel
theorem dX1_fillCounts_17 : decode cX1_fillCounts 17 = .ok (.arraylength, 1) := by decide +kernel
theorem dX1_fillCounts_18 : decode cX1_fillCounts 18 = .ok (.if_icmp .ge 34, 3) := by decide +kernel
theorem dX1_fillCounts_21 : decode cX1_fillCounts 21 = .ok (.aload_n 2, 1) := by decide +kernel
theorem dX1_fillCounts_22 : decode cX1_fillCounts 22 = .ok (.iload 4, 2) := by decide +kernel
theorem dX1_fillCounts_24 : decode cX1_fillCounts 24 = .ok (.aload_n 0, 1) := by decide +kernel
theorem dX1_fillCounts_25 : decode cX1_fillCounts 25 = .ok (.aload_n 1, 1) := by decide +kernel
theorem dX1_fillCounts_26 : decode cX1_fillCounts 26 = .ok (.invokevirtual 47, 3) := by decide +kernel
theorem dX1_fillCounts_29 : decode cX1_fillCounts 29 = .ok (.lastore, 1) := by decide +kernel
theorem dX1_fillCounts_30 : decode cX1_fillCounts 30 = .ok (.aload_n 2, 1) := by decide +kernel
theorem dX1_fillCounts_31 : decode cX1_fillCounts 31 = .ok (.iload 4, 2) := by decide +kernel
theorem dX1_fillCounts_33 : decode cX1_fillCounts 33 = .ok (.laload, 1) := by decide +kernel
theorem dX1_fillCounts_34 : decode cX1_fillCounts 34 = .ok (.lconst 0, 1) := by decide +kernel
theorem dX1_fillCounts_35 : decode cX1_fillCounts 35 = .ok (.lcmp, 1) := by decide +kernel
theorem dX1_fillCounts_36 : decode cX1_fillCounts 36 = .ok (.ifCond .ge 5, 3) := by decide +kernel
theorem dX1_fillCounts_39 : decode cX1_fillCounts 39 = .ok (.iconst 0, 1) := by decide +kernel
theorem dX1_fillCounts_40 : decode cX1_fillCounts 40 = .ok (.ireturn, 1) := by decide +kernel
theorem dX1_fillCounts_41 : decode cX1_fillCounts 41 = .ok (.aload_n 0, 1) := by decide +kernel
theorem dX1_fillCounts_42 : decode cX1_fillCounts 42 = .ok (.aload_n 1, 1) := by decide +kernel
theorem dX1_fillCounts_43 : decode cX1_fillCounts 43 = .ok (.invokevirtual 51, 3) := by decide +kernel
theorem dX1_fillCounts_46 : decode cX1_fillCounts 46 = .ok (.iinc 4 1, 3) := by decide +kernel
theorem dX1_fillCounts_49 : decode cX1_fillCounts 49 = .ok (.goto (-41), 3) := by decide +kernel
theorem dX1_fillCounts_52 : decode cX1_fillCounts 52 = .ok (.iconst 1, 1) := by decide +kernel
theorem dX1_fillCounts_53 : decode cX1_fillCounts 53 = .ok (.ireturn, 1) := by decide +kernel
set_option maxRecDepth 20000 in
theorem ggX1_startPaths_X10_contains : GoodIn wsX1_startPaths wsX10_contains := goodIn_r _ [6] (by decide +kernel) (by decide +kernel)
set_option maxRecDepth 20000 in
theorem gX1_startPaths_X10_contains_n59 : GoodIn wsX1_startPaths (wsX10_contains) := ggX1_startPaths_X10_contains
theorem dX1_startPaths_0 : decode cX1_startPaths 0 = .ok (.iconst 0, 1) := by decide +kernel
theorem dX1_startPaths_1 : decode cX1_startPaths 1 = .ok (.istore_n 2, 1) := by decide +kernel
theorem dX1_startPaths_2 : decode cX1_startPaths 2 = .ok (.iload_n 2, 1) := by decide +kernel
theorem dX1_startPaths_3 : decode cX1_startPaths 3 = .ok (.bipush 6, 2) := by decide +kernel
theorem dX1_startPaths_5 : decode cX1_startPaths 5 = .ok (.if_icmp .ge 38, 3) := by decide +kernel
theorem dX1_startPaths_8 : decode cX1_startPaths 8 = .ok (.aload_n 0, 1) := by decide +kernel
theorem dX1_startPaths_9 : decode cX1_startPaths 9 = .ok (.getfield 9, 3) := by decide +kernel
theorem dX1_startPaths_12 : decode cX1_startPaths 12 = .ok (.iload_n 2, 1) := by decide +kernel
theorem dX1_startPaths_13 : decode cX1_startPaths 13 = .ok (.aload_n 1, 1) := by decide +kernel
theorem dX1_startPaths_14 : decode cX1_startPaths 14 = .ok (.getfield 54, 3) := by decide +kernel
theorem dX1_startPaths_17 : decode cX1_startPaths 17 = .ok (.iload_n 2, 1) := by decide +kernel
theorem dX1_startPaths_18 : decode cX1_startPaths 18 = .ok (.invokestatic 59, 3) := by decide +kernel
theorem dX1_startPaths_21 : decode cX1_startPaths 21 = .ok (.ifCond .eq 7, 3) := by decide +kernel
theorem dX1_startPaths_24 : decode cX1_startPaths 24 = .ok (.lconst 1, 1) := by decide +kernel
theorem dX1_startPaths_25 : decode cX1_startPaths 25 = .ok (.goto 4, 3) := by decide +kernel
theorem dX1_startPaths_28 : decode cX1_startPaths 28 = .ok (.lconst 0, 1) := by decide +kernel
theorem dX1_startPaths_29 : decode cX1_startPaths 29 = .ok (.lastore, 1) := by decide +kernel
theorem dX1_startPaths_30 : decode cX1_startPaths 30 = .ok (.aload_n 0, 1) := by decide +kernel
theorem dX1_startPaths_31 : decode cX1_startPaths 31 = .ok (.getfield 15, 3) := by decide +kernel
theorem dX1_startPaths_34 : decode cX1_startPaths 34 = .ok (.iload_n 2, 1) := by decide +kernel
theorem dX1_startPaths_35 : decode cX1_startPaths 35 = .ok (.lconst 0, 1) := by decide +kernel
theorem dX1_startPaths_36 : decode cX1_startPaths 36 = .ok (.lastore, 1) := by decide +kernel
theorem dX1_startPaths_37 : decode cX1_startPaths 37 = .ok (.iinc 2 1, 3) := by decide +kernel
theorem dX1_startPaths_40 : decode cX1_startPaths 40 = .ok (.goto (-38), 3) := by decide +kernel
theorem dX1_startPaths_43 : decode cX1_startPaths 43 = .ok (.return_, 1) := by decide +kernel
set_option maxRecDepth 20000 in
theorem ggX1_extendPaths_X1_extendPathsBy : GoodIn wsX1_extendPaths wsX1_extendPathsBy := goodIn_r _ [5, 6, 7, 8, 9, 10, 11, 12, 13, 14, 15, 16, 17, 18, 19, 4, 20, 21, 26, 27, 28, 29, 30, 31, 32, 33] (by decide +kernel) (by decide +kernel)
set_option maxRecDepth 20000 in
theorem gX1_extendPaths_X1_extendPathsBy : GoodIn wsX1_extendPaths (wsV RX1 40 RX1 yX1_extendPathsBy wsX1_extendPathsBy) := goodIn_app (goodIn_of _ (by decide +kernel)) ggX1_extendPaths_X1_extendPathsBy
set_option maxRecDepth 20000 in
theorem ggX1_extendPaths_X1_takeNextPaths : GoodIn wsX1_extendPaths wsX1_takeNextPaths := goodIn_r _ [25, 7, 6, 26, 27, 28, 29] (by decide +kernel) (by decide +kernel)
set_option maxRecDepth 20000 in
theorem gX1_extendPaths_X1_takeNextPaths : GoodIn wsX1_extendPaths (wsV RX1 44 RX1 yX1_takeNextPaths wsX1_takeNextPaths) := goodIn_app (goodIn_of _ (by decide +kernel)) ggX1_extendPaths_X1_takeNextPaths
theorem dX1_extendPaths_0 : decode cX1_extendPaths 0 = .ok (.iconst 0, 1) := by decide +kernel
theorem dX1_extendPaths_1 : decode cX1_extendPaths 1 = .ok (.istore_n 2, 1) := by decide +kernel
theorem dX1_extendPaths_2 : decode cX1_extendPaths 2 = .ok (.iload_n 2, 1) := by decide +kernel
theorem dX1_extendPaths_3 : decode cX1_extendPaths 3 = .ok (.iconst 3, 1) := by decide +kernel
theorem dX1_extendPaths_4 : decode cX1_extendPaths 4 = .ok (.if_icmp .ge 15, 3) := by decide +kernel
theorem dX1_extendPaths_7 : decode cX1_extendPaths 7 = .ok (.aload_n 0, 1) := by decide +kernel
theorem dX1_extendPaths_8 : decode cX1_extendPaths 8 = .ok (.aload_n 1, 1) := by decide +kernel
theorem dX1_extendPaths_9 : decode cX1_extendPaths 9 = .ok (.iload_n 2, 1) := by decide +kernel
theorem dX1_extendPaths_10 : decode cX1_extendPaths 10 = .ok (.invokevirtual 40, 3) := by decide +kernel
theorem dX1_extendPaths_13 : decode cX1_extendPaths 13 = .ok (.iinc 2 1, 3) := by decide +kernel
theorem dX1_extendPaths_16 : decode cX1_extendPaths 16 = .ok (.goto (-14), 3) := by decide +kernel
theorem dX1_extendPaths_19 : decode cX1_extendPaths 19 = .ok (.aload_n 0, 1) := by decide +kernel
theorem dX1_extendPaths_20 : decode cX1_extendPaths 20 = .ok (.invokevirtual 44, 3) := by decide +kernel
theorem dX1_extendPaths_23 : decode cX1_extendPaths 23 = .ok (.return_, 1) := by decide +kernel
set_option maxRecDepth 20000 in
theorem ggX1_extendPathsBy_X0_targetsOf : GoodIn wsX1_extendPathsBy wsX0_targetsOf := goodIn_r _ [7, 8, 9, 22, 23, 24, 25] (by decide +kernel) (by decide +kernel)
set_option maxRecDepth 20000 in
theorem gX1_extendPathsBy_X0_targetsOf : GoodIn wsX1_extendPathsBy (wsV RX1 63 RX0 yX0_targetsOf wsX0_targetsOf) := goodIn_app (goodIn_of _ (by decide +kernel)) ggX1_extendPathsBy_X0_targetsOf
set_option maxRecDepth 20000 in
theorem ggX1_extendPathsBy_X10_contains : GoodIn wsX1_extendPathsBy wsX10_contains := goodIn_r _ [12] (by decide +kernel) (by decide +kernel)
set_option maxRecDepth 20000 in
theorem gX1_extendPathsBy_X10_contains_n59 : GoodIn wsX1_extendPathsBy (wsX10_contains) := ggX1_extendPathsBy_X10_contains
set_option maxRecDepth 20000 in
theorem ggX1_extendPathsBy_X1_sum : GoodIn wsX1_extendPathsBy wsX1_sum := goodIn_r _ [16, 17] (by decide +kernel) (by decide +kernel)
set_option maxRecDepth 20000 in
theorem gX1_extendPathsBy_X1_sum : GoodIn wsX1_extendPathsBy (va_wsS RX1 67 yX1_sum wsX1_sum) := goodIn_app (goodIn_of _ (by decide +kernel)) ggX1_extendPathsBy_X1_sum
theorem dX1_extendPathsBy_0 : decode cX1_extendPathsBy 0 = .ok (.iconst 0, 1) := by decide +kernel
theorem dX1_extendPathsBy_1 : decode cX1_extendPathsBy 1 = .ok (.istore_n 3, 1) := by decide +kernel
theorem dX1_extendPathsBy_2 : decode cX1_extendPathsBy 2 = .ok (.iload_n 3, 1) := by decide +kernel
theorem dX1_extendPathsBy_3 : decode cX1_extendPathsBy 3 = .ok (.bipush 6, 2) := by decide +kernel
theorem dX1_extendPathsBy_5 : decode cX1_extendPathsBy 5 = .ok (.if_icmp .ge 66, 3) := by decide +kernel
theorem dX1_extendPathsBy_8 : decode cX1_extendPathsBy 8 = .ok (.aload_n 1, 1) := by decide +kernel
theorem dX1_extendPathsBy_9 : decode cX1_extendPathsBy 9 = .ok (.iload_n 3, 1) := by decide +kernel
theorem dX1_extendPathsBy_10 : decode cX1_extendPathsBy 10 = .ok (.iload_n 2, 1) := by decide +kernel
theorem dX1_extendPathsBy_11 : decode cX1_extendPathsBy 11 = .ok (.invokevirtual 63, 3) := by decide +kernel
theorem dX1_extendPathsBy_14 : decode cX1_extendPathsBy 14 = .ok (.istore 4, 2) := by decide +kernel
theorem dX1_extendPathsBy_16 : decode cX1_extendPathsBy 16 = .ok (.iconst 0, 1) := by decide +kernel
theorem dX1_extendPathsBy_17 : decode cX1_extendPathsBy 17 = .ok (.istore 5, 2) := by decide +kernel
theorem dX1_extendPathsBy_19 : decode cX1_extendPathsBy 19 = .ok (.iload 5, 2) := by decide +kernel
theorem dX1_extendPathsBy_21 : decode cX1_extendPathsBy 21 = .ok (.bipush 6, 2) := by decide +kernel
theorem dX1_extendPathsBy_23 : decode cX1_extendPathsBy 23 = .ok (.if_icmp .ge 42, 3) := by decide +kernel
theorem dX1_extendPathsBy_26 : decode cX1_extendPathsBy 26 = .ok (.iload 4, 2) := by decide +kernel
theorem dX1_extendPathsBy_28 : decode cX1_extendPathsBy 28 = .ok (.iload 5, 2) := by decide +kernel
theorem dX1_extendPathsBy_30 : decode cX1_extendPathsBy 30 = .ok (.invokestatic 59, 3) := by decide +kernel
theorem dX1_extendPathsBy_33 : decode cX1_extendPathsBy 33 = .ok (.ifCond .eq 26, 3) := by decide +kernel
theorem dX1_extendPathsBy_36 : decode cX1_extendPathsBy 36 = .ok (.aload_n 0, 1) := by decide +kernel
theorem dX1_extendPathsBy_37 : decode cX1_extendPathsBy 37 = .ok (.getfield 15, 3) := by decide +kernel
theorem dX1_extendPathsBy_40 : decode cX1_extendPathsBy 40 = .ok (.iload 5, 2) := by decide +kernel
theorem dX1_extendPathsBy_42 : decode cX1_extendPathsBy 42 = .ok (.aload_n 0, 1) := by decide +kernel
theorem dX1_extendPathsBy_43 : decode cX1_extendPathsBy 43 = .ok (.getfield 15, 3) := by decide +kernel
theorem dX1_extendPathsBy_46 : decode cX1_extendPathsBy 46 = .ok (.iload 5, 2) := by decide +kernel
theorem dX1_extendPathsBy_48 : decode cX1_extendPathsBy 48 = .ok (.laload, 1) := by decide +kernel
theorem dX1_extendPathsBy_49 : decode cX1_extendPathsBy 49 = .ok (.aload_n 0, 1) := by decide +kernel
theorem dX1_extendPathsBy_50 : decode cX1_extendPathsBy 50 = .ok (.getfield 9, 3) := by decide +kernel
theorem dX1_extendPathsBy_53 : decode cX1_extendPathsBy 53 = .ok (.iload_n 3, 1) := by decide +kernel
theorem dX1_extendPathsBy_54 : decode cX1_extendPathsBy 54 = .ok (.laload, 1) := by decide +kernel
theorem dX1_extendPathsBy_55 : decode cX1_extendPathsBy 55 = .ok (.invokestatic 67, 3) := by decide +kernel
theorem dX1_extendPathsBy_58 : decode cX1_extendPathsBy 58 = .ok (.lastore, 1) := by decide +kernel
theorem dX1_extendPathsBy_59 : decode cX1_extendPathsBy 59 = .ok (.iinc 5 1, 3) := by decide +kernel
theorem dX1_extendPathsBy_62 : decode cX1_extendPathsBy 62 = .ok (.goto (-43), 3) := by decide +kernel
theorem dX1_extendPathsBy_65 : decode cX1_extendPathsBy 65 = .ok (.iinc 3 1, 3) := by decide +kernel
theorem dX1_extendPathsBy_68 : decode cX1_extendPathsBy 68 = .ok (.goto (-66), 3) := by decide +kernel
theorem dX1_extendPathsBy_71 : decode cX1_extendPathsBy 71 = .ok (.return_, 1) := by decide +kernel
theorem dX1_takeNextPaths_0 : decode cX1_takeNextPaths 0 = .ok (.iconst 0, 1) := by decide +kernel
theorem dX1_takeNextPaths_1 : decode cX1_takeNextPaths 1 = .ok (.istore_n 1, 1) := by decide +kernel
theorem dX1_takeNextPaths_2 : decode cX1_takeNextPaths 2 = .ok (.iload_n 1, 1) := by decide +kernel
theorem dX1_takeNextPaths_3 : decode cX1_takeNextPaths 3 = .ok (.bipush 6, 2) := by decide +kernel
theorem dX1_takeNextPaths_5 : decode cX1_takeNextPaths 5 = .ok (.if_icmp .ge 28, 3) := by decide +kernel
theorem dX1_takeNextPaths_8 : decode cX1_takeNextPaths 8 = .ok (.aload_n 0, 1) := by decide +kernel
theorem dX1_takeNextPaths_9 : decode cX1_takeNextPaths 9 = .ok (.getfield 9, 3) := by decide +kernel
theorem dX1_takeNextPaths_12 : decode cX1_takeNextPaths 12 = .ok (.iload_n 1, 1) := by decide +kernel
theorem dX1_takeNextPaths_13 : decode cX1_takeNextPaths 13 = .ok (.aload_n 0, 1) := by decide +kernel
theorem dX1_takeNextPaths_14 : decode cX1_takeNextPaths 14 = .ok (.getfield 15, 3) := by decide +kernel
theorem dX1_takeNextPaths_17 : decode cX1_takeNextPaths 17 = .ok (.iload_n 1, 1) := by decide +kernel
theorem dX1_takeNextPaths_18 : decode cX1_takeNextPaths 18 = .ok (.laload, 1) := by decide +kernel
theorem dX1_takeNextPaths_19 : decode cX1_takeNextPaths 19 = .ok (.lastore, 1) := by decide +kernel
theorem dX1_takeNextPaths_20 : decode cX1_takeNextPaths 20 = .ok (.aload_n 0, 1) := by decide +kernel
theorem dX1_takeNextPaths_21 : decode cX1_takeNextPaths 21 = .ok (.getfield 15, 3) := by decide +kernel
theorem dX1_takeNextPaths_24 : decode cX1_takeNextPaths 24 = .ok (.iload_n 1, 1) := by decide +kernel
theorem dX1_takeNextPaths_25 : decode cX1_takeNextPaths 25 = .ok (.lconst 0, 1) := by decide +kernel
theorem dX1_takeNextPaths_26 : decode cX1_takeNextPaths 26 = .ok (.lastore, 1) := by decide +kernel
theorem dX1_takeNextPaths_27 : decode cX1_takeNextPaths 27 = .ok (.iinc 1 1, 3) := by decide +kernel
theorem dX1_takeNextPaths_30 : decode cX1_takeNextPaths 30 = .ok (.goto (-28), 3) := by decide +kernel
theorem dX1_takeNextPaths_33 : decode cX1_takeNextPaths 33 = .ok (.return_, 1) := by decide +kernel
set_option maxRecDepth 20000 in
theorem ggX1_acceptedPaths_X10_contains : GoodIn wsX1_acceptedPaths wsX10_contains := goodIn_r _ [5] (by decide +kernel) (by decide +kernel)
set_option maxRecDepth 20000 in
theorem gX1_acceptedPaths_X10_contains_n59 : GoodIn wsX1_acceptedPaths (wsX10_contains) := ggX1_acceptedPaths_X10_contains
set_option maxRecDepth 20000 in
theorem ggX1_acceptedPaths_X1_sum : GoodIn wsX1_acceptedPaths wsX1_sum := goodIn_r _ [9, 10] (by decide +kernel) (by decide +kernel)
set_option maxRecDepth 20000 in
theorem gX1_acceptedPaths_X1_sum : GoodIn wsX1_acceptedPaths (va_wsS RX1 67 yX1_sum wsX1_sum) := goodIn_app (goodIn_of _ (by decide +kernel)) ggX1_acceptedPaths_X1_sum
theorem dX1_acceptedPaths_0 : decode cX1_acceptedPaths 0 = .ok (.lconst 0, 1) := by decide +kernel
theorem dX1_acceptedPaths_1 : decode cX1_acceptedPaths 1 = .ok (.lstore_n 2, 1) := by decide +kernel
theorem dX1_acceptedPaths_2 : decode cX1_acceptedPaths 2 = .ok (.iconst 0, 1) := by decide +kernel
theorem dX1_acceptedPaths_3 : decode cX1_acceptedPaths 3 = .ok (.istore 4, 2) := by decide +kernel
theorem dX1_acceptedPaths_5 : decode cX1_acceptedPaths 5 = .ok (.iload 4, 2) := by decide +kernel
theorem dX1_acceptedPaths_7 : decode cX1_acceptedPaths 7 = .ok (.bipush 6, 2) := by decide +kernel
theorem dX1_acceptedPaths_9 : decode cX1_acceptedPaths 9 = .ok (.if_icmp .ge 33, 3) := by decide +kernel
theorem dX1_acceptedPaths_12 : decode cX1_acceptedPaths 12 = .ok (.aload_n 1, 1) := by decide +kernel
theorem dX1_acceptedPaths_13 : decode cX1_acceptedPaths 13 = .ok (.getfield 71, 3) := by decide +kernel
theorem dX1_acceptedPaths_16 : decode cX1_acceptedPaths 16 = .ok (.iload 4, 2) := by decide +kernel
theorem dX1_acceptedPaths_18 : decode cX1_acceptedPaths 18 = .ok (.invokestatic 59, 3) := by decide +kernel
theorem dX1_acceptedPaths_21 : decode cX1_acceptedPaths 21 = .ok (.ifCond .eq 15, 3) := by decide +kernel
theorem dX1_acceptedPaths_24 : decode cX1_acceptedPaths 24 = .ok (.lload_n 2, 1) := by decide +kernel
theorem dX1_acceptedPaths_25 : decode cX1_acceptedPaths 25 = .ok (.aload_n 0, 1) := by decide +kernel
theorem dX1_acceptedPaths_26 : decode cX1_acceptedPaths 26 = .ok (.getfield 9, 3) := by decide +kernel
theorem dX1_acceptedPaths_29 : decode cX1_acceptedPaths 29 = .ok (.iload 4, 2) := by decide +kernel
theorem dX1_acceptedPaths_31 : decode cX1_acceptedPaths 31 = .ok (.laload, 1) := by decide +kernel
theorem dX1_acceptedPaths_32 : decode cX1_acceptedPaths 32 = .ok (.invokestatic 67, 3) := by decide +kernel
theorem dX1_acceptedPaths_35 : decode cX1_acceptedPaths 35 = .ok (.lstore_n 2, 1) := by decide +kernel
theorem dX1_acceptedPaths_36 : decode cX1_acceptedPaths 36 = .ok (.iinc 4 1, 3) := by decide +kernel
theorem dX1_acceptedPaths_39 : decode cX1_acceptedPaths 39 = .ok (.goto (-34), 3) := by decide +kernel
theorem dX1_acceptedPaths_42 : decode cX1_acceptedPaths 42 = .ok (.lload_n 2, 1) := by decide +kernel
theorem dX1_acceptedPaths_43 : decode cX1_acceptedPaths 43 = .ok (.lreturn, 1) := by decide +kernel
set_option maxRecDepth 20000 in
theorem ggX1_countWords_X1_extendWords : GoodIn wsX1_countWords wsX1_extendWords := goodIn_r _ [8, 9, 1, 10, 11, 12, 13, 14, 15, 16, 17, 7, 18, 19, 20, 21, 22, 23, 28, 29] (by decide +kernel) (by decide +kernel)
set_option maxRecDepth 20000 in
theorem gX1_countWords_X1_extendWords : GoodIn wsX1_countWords (wsV RX1 74 RX1 yX1_extendWords wsX1_extendWords) := goodIn_app (goodIn_of _ (by decide +kernel)) ggX1_countWords_X1_extendWords
set_option maxRecDepth 20000 in
theorem ggX1_countWords_X1_sum : GoodIn wsX1_countWords wsX1_sum := goodIn_r _ [18, 19] (by decide +kernel) (by decide +kernel)
set_option maxRecDepth 20000 in
theorem gX1_countWords_X1_sum : GoodIn wsX1_countWords (va_wsS RX1 67 yX1_sum wsX1_sum) := goodIn_app (goodIn_of _ (by decide +kernel)) ggX1_countWords_X1_sum
theorem dX1_countWords_0 : decode cX1_countWords 0 = .ok (.iconst 0, 1) := by decide +kernel
theorem dX1_countWords_1 : decode cX1_countWords 1 = .ok (.istore 4, 2) := by decide +kernel
theorem dX1_countWords_3 : decode cX1_countWords 3 = .ok (.iload 4, 2) := by decide +kernel
theorem dX1_countWords_5 : decode cX1_countWords 5 = .ok (.bipush 64, 2) := by decide +kernel
theorem dX1_countWords_7 : decode cX1_countWords 7 = .ok (.if_icmp .ge 30, 3) := by decide +kernel
theorem dX1_countWords_10 : decode cX1_countWords 10 = .ok (.aload_n 0, 1) := by decide +kernel
theorem dX1_countWords_11 : decode cX1_countWords 11 = .ok (.getfield 18, 3) := by decide +kernel
theorem dX1_countWords_14 : decode cX1_countWords 14 = .ok (.iload 4, 2) := by decide +kernel
theorem dX1_countWords_16 : decode cX1_countWords 16 = .ok (.iload 4, 2) := by decide +kernel
theorem dX1_countWords_18 : decode cX1_countWords 18 = .ok (.aload_n 1, 1) := by decide +kernel
theorem dX1_countWords_19 : decode cX1_countWords 19 = .ok (.getfield 54, 3) := by decide +kernel
theorem dX1_countWords_22 : decode cX1_countWords 22 = .ok (.if_icmp .ne 7, 3) := by decide +kernel
theorem dX1_countWords_25 : decode cX1_countWords 25 = .ok (.lconst 1, 1) := by decide +kernel
theorem dX1_countWords_26 : decode cX1_countWords 26 = .ok (.goto 4, 3) := by decide +kernel
theorem dX1_countWords_29 : decode cX1_countWords 29 = .ok (.lconst 0, 1) := by decide +kernel
theorem dX1_countWords_30 : decode cX1_countWords 30 = .ok (.lastore, 1) := by decide +kernel
theorem dX1_countWords_31 : decode cX1_countWords 31 = .ok (.iinc 4 1, 3) := by decide +kernel
theorem dX1_countWords_34 : decode cX1_countWords 34 = .ok (.goto (-31), 3) := by decide +kernel
theorem dX1_countWords_37 : decode cX1_countWords 37 = .ok (.iconst 0, 1) := by decide +kernel
theorem dX1_countWords_38 : decode cX1_countWords 38 = .ok (.istore 4, 2) := by decide +kernel
theorem dX1_countWords_40 : decode cX1_countWords 40 = .ok (.iload 4, 2) := by decide +kernel
theorem dX1_countWords_42 : decode cX1_countWords 42 = .ok (.iload_n 3, 1) := by decide +kernel
theorem dX1_countWords_43 : decode cX1_countWords 43 = .ok (.if_icmp .ge 14, 3) := by decide +kernel
theorem dX1_countWords_46 : decode cX1_countWords 46 = .ok (.aload_n 0, 1) := by decide +kernel
theorem dX1_countWords_47 : decode cX1_countWords 47 = .ok (.aload_n 2, 1) := by decide +kernel
theorem dX1_countWords_48 : decode cX1_countWords 48 = .ok (.invokevirtual 74, 3) := by decide +kernel
theorem dX1_countWords_51 : decode cX1_countWords 51 = .ok (.iinc 4 1, 3) := by decide +kernel
theorem dX1_countWords_54 : decode cX1_countWords 54 = .ok (.goto (-14), 3) := by decide +kernel
theorem dX1_countWords_57 : decode cX1_countWords 57 = .ok (.lconst 0, 1) := by decide +kernel
theorem dX1_countWords_58 : decode cX1_countWords 58 = .ok (.lstore 4, 2) := by decide +kernel
theorem dX1_countWords_60 : decode cX1_countWords 60 = .ok (.iconst 0, 1) := by decide +kernel
theorem dX1_countWords_61 : decode cX1_countWords 61 = .ok (.istore 6, 2) := by decide +kernel
theorem dX1_countWords_63 : decode cX1_countWords 63 = .ok (.iload 6, 2) := by decide +kernel
theorem dX1_countWords_65 : decode cX1_countWords 65 = .ok (.bipush 64, 2) := by decide +kernel
theorem dX1_countWords_67 : decode cX1_countWords 67 = .ok (.if_icmp .ge 33, 3) := by decide +kernel
theorem dX1_countWords_70 : decode cX1_countWords 70 = .ok (.iload 6, 2) := by decide +kernel
theorem dX1_countWords_72 : decode cX1_countWords 72 = .ok (.aload_n 1, 1) := by decide +kernel
theorem dX1_countWords_73 : decode cX1_countWords 73 = .ok (.getfield 71, 3) := by decide +kernel
theorem dX1_countWords_76 : decode cX1_countWords 76 = .ok (.iand, 1) := by decide +kernel
theorem dX1_countWords_77 : decode cX1_countWords 77 = .ok (.ifCond .eq 17, 3) := by decide +kernel
theorem dX1_countWords_80 : decode cX1_countWords 80 = .ok (.lload 4, 2) := by decide +kernel
theorem dX1_countWords_82 : decode cX1_countWords 82 = .ok (.aload_n 0, 1) := by decide +kernel
theorem dX1_countWords_83 : decode cX1_countWords 83 = .ok (.getfield 18, 3) := by decide +kernel
theorem dX1_countWords_86 : decode cX1_countWords 86 = .ok (.iload 6, 2) := by decide +kernel
theorem dX1_countWords_88 : decode cX1_countWords 88 = .ok (.laload, 1) := by decide +kernel
theorem dX1_countWords_89 : decode cX1_countWords 89 = .ok (.invokestatic 67, 3) := by decide +kernel
theorem dX1_countWords_92 : decode cX1_countWords 92 = .ok (.lstore 4, 2) := by decide +kernel
theorem dX1_countWords_94 : decode cX1_countWords 94 = .ok (.iinc 6 1, 3) := by decide +kernel
theorem dX1_countWords_97 : decode cX1_countWords 97 = .ok (.goto (-34), 3) := by decide +kernel
theorem dX1_countWords_100 : decode cX1_countWords 100 = .ok (.lload 4, 2) := by decide +kernel
theorem dX1_countWords_102 : decode cX1_countWords 102 = .ok (.lreturn, 1) := by decide +kernel
set_option maxRecDepth 20000 in
theorem ggX1_extendWords_X6_reachedOnce : GoodIn wsX1_extendWords wsX6_reachedOnce := goodIn_r _ [7, 8, 18, 19] (by decide +kernel) (by decide +kernel)
set_option maxRecDepth 20000 in
theorem gX1_extendWords_X6_reachedOnce : GoodIn wsX1_extendWords (wsV RX1 78 RX6 yX6_reachedOnce wsX6_reachedOnce) := goodIn_app (goodIn_of _ (by decide +kernel)) ggX1_extendWords_X6_reachedOnce
set_option maxRecDepth 20000 in
theorem ggX1_extendWords_X1_sum : GoodIn wsX1_extendWords wsX1_sum := goodIn_r _ [12, 13] (by decide +kernel) (by decide +kernel)
set_option maxRecDepth 20000 in
theorem gX1_extendWords_X1_sum : GoodIn wsX1_extendWords (va_wsS RX1 67 yX1_sum wsX1_sum) := goodIn_app (goodIn_of _ (by decide +kernel)) ggX1_extendWords_X1_sum
theorem dX1_extendWords_0 : decode cX1_extendWords 0 = .ok (.iconst 0, 1) := by decide +kernel
theorem dX1_extendWords_1 : decode cX1_extendWords 1 = .ok (.istore_n 2, 1) := by decide +kernel
theorem dX1_extendWords_2 : decode cX1_extendWords 2 = .ok (.iload_n 2, 1) := by decide +kernel
theorem dX1_extendWords_3 : decode cX1_extendWords 3 = .ok (.bipush 64, 2) := by decide +kernel
theorem dX1_extendWords_5 : decode cX1_extendWords 5 = .ok (.if_icmp .ge 16, 3) := by decide +kernel
theorem dX1_extendWords_8 : decode cX1_extendWords 8 = .ok (.aload_n 0, 1) := by decide +kernel
theorem dX1_extendWords_9 : decode cX1_extendWords 9 = .ok (.getfield 21, 3) := by decide +kernel
theorem dX1_extendWords_12 : decode cX1_extendWords 12 = .ok (.iload_n 2, 1) := by decide +kernel
theorem dX1_extendWords_13 : decode cX1_extendWords 13 = .ok (.lconst 0, 1) := by decide +kernel
theorem dX1_extendWords_14 : decode cX1_extendWords 14 = .ok (.lastore, 1) := by decide +kernel
theorem dX1_extendWords_15 : decode cX1_extendWords 15 = .ok (.iinc 2 1, 3) := by decide +kernel
theorem dX1_extendWords_18 : decode cX1_extendWords 18 = .ok (.goto (-16), 3) := by decide +kernel
theorem dX1_extendWords_21 : decode cX1_extendWords 21 = .ok (.iconst 1, 1) := by decide +kernel
theorem dX1_extendWords_22 : decode cX1_extendWords 22 = .ok (.istore_n 2, 1) := by decide +kernel
theorem dX1_extendWords_23 : decode cX1_extendWords 23 = .ok (.iload_n 2, 1) := by decide +kernel
theorem dX1_extendWords_24 : decode cX1_extendWords 24 = .ok (.bipush 64, 2) := by decide +kernel
theorem dX1_extendWords_26 : decode cX1_extendWords 26 = .ok (.if_icmp .ge 76, 3) := by decide +kernel
theorem dX1_extendWords_29 : decode cX1_extendWords 29 = .ok (.iconst 0, 1) := by decide +kernel
theorem dX1_extendWords_30 : decode cX1_extendWords 30 = .ok (.istore_n 3, 1) := by decide +kernel
theorem dX1_extendWords_31 : decode cX1_extendWords 31 = .ok (.aload_n 0, 1) := by decide +kernel
theorem dX1_extendWords_32 : decode cX1_extendWords 32 = .ok (.getfield 18, 3) := by decide +kernel
theorem dX1_extendWords_35 : decode cX1_extendWords 35 = .ok (.iload_n 2, 1) := by decide +kernel
theorem dX1_extendWords_36 : decode cX1_extendWords 36 = .ok (.laload, 1) := by decide +kernel
theorem dX1_extendWords_37 : decode cX1_extendWords 37 = .ok (.lconst 0, 1) := by decide +kernel
theorem dX1_extendWords_38 : decode cX1_extendWords 38 = .ok (.lcmp, 1) := by decide +kernel
theorem dX1_extendWords_39 : decode cX1_extendWords 39 = .ok (.ifCond .eq 57, 3) := by decide +kernel
theorem dX1_extendWords_42 : decode cX1_extendWords 42 = .ok (.iload_n 3, 1) := by decide +kernel
theorem dX1_extendWords_43 : decode cX1_extendWords 43 = .ok (.iconst 3, 1) := by decide +kernel
theorem dX1_extendWords_44 : decode cX1_extendWords 44 = .ok (.if_icmp .ge 52, 3) := by decide +kernel
theorem dX1_extendWords_47 : decode cX1_extendWords 47 = .ok (.aload_n 1, 1) := by decide +kernel
theorem dX1_extendWords_48 : decode cX1_extendWords 48 = .ok (.iload_n 2, 1) := by decide +kernel
theorem dX1_extendWords_49 : decode cX1_extendWords 49 = .ok (.iload_n 3, 1) := by decide +kernel
theorem dX1_extendWords_50 : decode cX1_extendWords 50 = .ok (.invokevirtual 78, 3) := by decide +kernel
theorem dX1_extendWords_53 : decode cX1_extendWords 53 = .ok (.istore 4, 2) := by decide +kernel
theorem dX1_extendWords_55 : decode cX1_extendWords 55 = .ok (.iload 4, 2) := by decide +kernel
theorem dX1_extendWords_57 : decode cX1_extendWords 57 = .ok (.ifCond .lt 33, 3) := by decide +kernel
theorem dX1_extendWords_60 : decode cX1_extendWords 60 = .ok (.iload 4, 2) := by decide +kernel
theorem dX1_extendWords_62 : decode cX1_extendWords 62 = .ok (.bipush 64, 2) := by decide +kernel
theorem dX1_extendWords_64 : decode cX1_extendWords 64 = .ok (.if_icmp .ge 26, 3) := by decide +kernel
theorem dX1_extendWords_67 : decode cX1_extendWords 67 = .ok (.aload_n 0, 1) := by decide +kernel
theorem dX1_extendWords_68 : decode cX1_extendWords 68 = .ok (.getfield 21, 3) := by decide +kernel
theorem dX1_extendWords_71 : decode cX1_extendWords 71 = .ok (.iload 4, 2) := by decide +kernel
theorem dX1_extendWords_73 : decode cX1_extendWords 73 = .ok (.aload_n 0, 1) := by decide +kernel
theorem dX1_extendWords_74 : decode cX1_extendWords 74 = .ok (.getfield 21, 3) := by decide +kernel
theorem dX1_extendWords_77 : decode cX1_extendWords 77 = .ok (.iload 4, 2) := by decide +kernel
theorem dX1_extendWords_79 : decode cX1_extendWords 79 = .ok (.laload, 1) := by decide +kernel
theorem dX1_extendWords_80 : decode cX1_extendWords 80 = .ok (.aload_n 0, 1) := by decide +kernel
theorem dX1_extendWords_81 : decode cX1_extendWords 81 = .ok (.getfield 18, 3) := by decide +kernel
theorem dX1_extendWords_84 : decode cX1_extendWords 84 = .ok (.iload_n 2, 1) := by decide +kernel
theorem dX1_extendWords_85 : decode cX1_extendWords 85 = .ok (.laload, 1) := by decide +kernel
theorem dX1_extendWords_86 : decode cX1_extendWords 86 = .ok (.invokestatic 67, 3) := by decide +kernel
theorem dX1_extendWords_89 : decode cX1_extendWords 89 = .ok (.lastore, 1) := by decide +kernel
theorem dX1_extendWords_90 : decode cX1_extendWords 90 = .ok (.iinc 3 1, 3) := by decide +kernel
theorem dX1_extendWords_93 : decode cX1_extendWords 93 = .ok (.goto (-62), 3) := by decide +kernel
theorem dX1_extendWords_96 : decode cX1_extendWords 96 = .ok (.iinc 2 1, 3) := by decide +kernel
theorem dX1_extendWords_99 : decode cX1_extendWords 99 = .ok (.goto (-76), 3) := by decide +kernel
theorem dX1_extendWords_102 : decode cX1_extendWords 102 = .ok (.iconst 0, 1) := by decide +kernel
theorem dX1_extendWords_103 : decode cX1_extendWords 103 = .ok (.istore_n 2, 1) := by decide +kernel
theorem dX1_extendWords_104 : decode cX1_extendWords 104 = .ok (.iload_n 2, 1) := by decide +kernel
theorem dX1_extendWords_105 : decode cX1_extendWords 105 = .ok (.bipush 64, 2) := by decide +kernel
theorem dX1_extendWords_107 : decode cX1_extendWords 107 = .ok (.if_icmp .ge 21, 3) := by decide +kernel
theorem dX1_extendWords_110 : decode cX1_extendWords 110 = .ok (.aload_n 0, 1) := by decide +kernel
theorem dX1_extendWords_111 : decode cX1_extendWords 111 = .ok (.getfield 18, 3) := by decide +kernel
theorem dX1_extendWords_114 : decode cX1_extendWords 114 = .ok (.iload_n 2, 1) := by decide +kernel
theorem dX1_extendWords_115 : decode cX1_extendWords 115 = .ok (.aload_n 0, 1) := by decide +kernel
theorem dX1_extendWords_116 : decode cX1_extendWords 116 = .ok (.getfield 21, 3) := by decide +kernel
theorem dX1_extendWords_119 : decode cX1_extendWords 119 = .ok (.iload_n 2, 1) := by decide +kernel
theorem dX1_extendWords_120 : decode cX1_extendWords 120 = .ok (.laload, 1) := by decide +kernel
theorem dX1_extendWords_121 : decode cX1_extendWords 121 = .ok (.lastore, 1) := by decide +kernel
theorem dX1_extendWords_122 : decode cX1_extendWords 122 = .ok (.iinc 2 1, 3) := by decide +kernel
theorem dX1_extendWords_125 : decode cX1_extendWords 125 = .ok (.goto (-21), 3) := by decide +kernel
theorem dX1_extendWords_128 : decode cX1_extendWords 128 = .ok (.return_, 1) := by decide +kernel
theorem dX1_bitsOfQuotient_0 : decode cX1_bitsOfQuotient 0 = .ok (.lload_n 2, 1) := by decide +kernel
theorem dX1_bitsOfQuotient_1 : decode cX1_bitsOfQuotient 1 = .ok (.lconst 0, 1) := by decide +kernel
theorem dX1_bitsOfQuotient_2 : decode cX1_bitsOfQuotient 2 = .ok (.lcmp, 1) := by decide +kernel
theorem dX1_bitsOfQuotient_3 : decode cX1_bitsOfQuotient 3 = .ok (.ifCond .gt 7, 3) := by decide +kernel
theorem dX1_bitsOfQuotient_6 : decode cX1_bitsOfQuotient 6 = .ok (.ldc2_w 83, 3) := by decide +kernel
theorem dX1_bitsOfQuotient_9 : decode cX1_bitsOfQuotient 9 = .ok (.lreturn, 1) := by decide +kernel
theorem dX1_bitsOfQuotient_10 : decode cX1_bitsOfQuotient 10 = .ok (.lload_n 0, 1) := by decide +kernel
theorem dX1_bitsOfQuotient_11 : decode cX1_bitsOfQuotient 11 = .ok (.l2d, 1) := by decide +kernel
theorem dX1_bitsOfQuotient_12 : decode cX1_bitsOfQuotient 12 = .ok (.lload_n 2, 1) := by decide +kernel
theorem dX1_bitsOfQuotient_13 : decode cX1_bitsOfQuotient 13 = .ok (.l2d, 1) := by decide +kernel
theorem dX1_bitsOfQuotient_14 : decode cX1_bitsOfQuotient 14 = .ok (.ddiv, 1) := by decide +kernel
theorem dX1_bitsOfQuotient_15 : decode cX1_bitsOfQuotient 15 = .ok (.dstore 4, 2) := by decide +kernel
theorem dX1_bitsOfQuotient_17 : decode cX1_bitsOfQuotient 17 = .ok (.iconst 0, 1) := by decide +kernel
theorem dX1_bitsOfQuotient_18 : decode cX1_bitsOfQuotient 18 = .ok (.istore 6, 2) := by decide +kernel
theorem dX1_bitsOfQuotient_20 : decode cX1_bitsOfQuotient 20 = .ok (.dload 4, 2) := by decide +kernel
theorem dX1_bitsOfQuotient_22 : decode cX1_bitsOfQuotient 22 = .ok (.ldc2_w 85, 3) := by decide +kernel
theorem dX1_bitsOfQuotient_25 : decode cX1_bitsOfQuotient 25 = .ok (.dcmp .l, 1) := by decide +kernel
theorem dX1_bitsOfQuotient_26 : decode cX1_bitsOfQuotient 26 = .ok (.ifCond .lt 24, 3) := by decide +kernel
theorem dX1_bitsOfQuotient_29 : decode cX1_bitsOfQuotient 29 = .ok (.iload 6, 2) := by decide +kernel
theorem dX1_bitsOfQuotient_31 : decode cX1_bitsOfQuotient 31 = .ok (.bipush 64, 2) := by decide +kernel
theorem dX1_bitsOfQuotient_33 : decode cX1_bitsOfQuotient 33 = .ok (.if_icmp .ge 17, 3) := by decide +kernel
theorem dX1_bitsOfQuotient_36 : decode cX1_bitsOfQuotient 36 = .ok (.dload 4, 2) := by decide +kernel
theorem dX1_bitsOfQuotient_38 : decode cX1_bitsOfQuotient 38 = .ok (.ldc2_w 85, 3) := by decide +kernel
theorem dX1_bitsOfQuotient_41 : decode cX1_bitsOfQuotient 41 = .ok (.ddiv, 1) := by decide +kernel
theorem dX1_bitsOfQuotient_42 : decode cX1_bitsOfQuotient 42 = .ok (.dstore 4, 2) := by decide +kernel
theorem dX1_bitsOfQuotient_44 : decode cX1_bitsOfQuotient 44 = .ok (.iinc 6 1, 3) := by decide +kernel
theorem dX1_bitsOfQuotient_47 : decode cX1_bitsOfQuotient 47 = .ok (.goto (-27), 3) := by decide +kernel
theorem dX1_bitsOfQuotient_50 : decode cX1_bitsOfQuotient 50 = .ok (.dload 4, 2) := by decide +kernel
theorem dX1_bitsOfQuotient_52 : decode cX1_bitsOfQuotient 52 = .ok (.dconst 1, 1) := by decide +kernel
theorem dX1_bitsOfQuotient_53 : decode cX1_bitsOfQuotient 53 = .ok (.dsub, 1) := by decide +kernel
theorem dX1_bitsOfQuotient_54 : decode cX1_bitsOfQuotient 54 = .ok (.ldc2_w 87, 3) := by decide +kernel
theorem dX1_bitsOfQuotient_57 : decode cX1_bitsOfQuotient 57 = .ok (.dmul, 1) := by decide +kernel
theorem dX1_bitsOfQuotient_58 : decode cX1_bitsOfQuotient 58 = .ok (.d2l, 1) := by decide +kernel
theorem dX1_bitsOfQuotient_59 : decode cX1_bitsOfQuotient 59 = .ok (.lstore 7, 2) := by decide +kernel
theorem dX1_bitsOfQuotient_61 : decode cX1_bitsOfQuotient 61 = .ok (.sipush 1023, 3) := by decide +kernel
theorem dX1_bitsOfQuotient_64 : decode cX1_bitsOfQuotient 64 = .ok (.iload 6, 2) := by decide +kernel
theorem dX1_bitsOfQuotient_66 : decode cX1_bitsOfQuotient 66 = .ok (.iadd, 1) := by decide +kernel
theorem dX1_bitsOfQuotient_67 : decode cX1_bitsOfQuotient 67 = .ok (.i2l, 1) := by decide +kernel
theorem dX1_bitsOfQuotient_68 : decode cX1_bitsOfQuotient 68 = .ok (.bipush 52, 2) := by decide +kernel
theorem dX1_bitsOfQuotient_70 : decode cX1_bitsOfQuotient 70 = .ok (.lshl, 1) := by decide +kernel
theorem dX1_bitsOfQuotient_71 : decode cX1_bitsOfQuotient 71 = .ok (.lload 7, 2) := by decide +kernel
theorem dX1_bitsOfQuotient_73 : decode cX1_bitsOfQuotient 73 = .ok (.ladd, 1) := by decide +kernel
theorem dX1_bitsOfQuotient_74 : decode cX1_bitsOfQuotient 74 = .ok (.lreturn, 1) := by decide +kernel
theorem dX2_init_0 : decode cX2_init 0 = .ok (.aload_n 0, 1) := by decide +kernel
theorem dX2_init_1 : decode cX2_init 1 = .ok (.invokespecial 3, 3) := by decide +kernel
theorem dX2_init_4 : decode cX2_init 4 = .ok (.aload_n 0, 1) := by decide +kernel
theorem dX2_init_5 : decode cX2_init 5 = .ok (.bipush 6, 2) := by decide +kernel
theorem dX2_init_7 : decode cX2_init 7 = .ok (.newarray .int, 2) := by decide +kernel
theorem dX2_init_9 : decode cX2_init 9 = .ok (.putfield 9, 3) := by decide +kernel
theorem dX2_init_12 : decode cX2_init 12 = .ok (.return_, 1) := by decide +kernel
set_option maxRecDepth 20000 in
theorem ggX2_find_X2_computeCosts : GoodIn wsX2_find wsX2_computeCosts := goodIn_r _ [8, 9, 10, 2, 11, 12, 13, 14, 15, 16, 17, 18, 19, 20, 21, 22, 23, 24, 25, 26, 27, 28, 7, 29, 30, 31, 32, 65, 59, 60, 61, 62] (by decide +kernel) (by decide +kernel)
set_option maxRecDepth 20000 in
theorem gX2_find_X2_computeCosts : GoodIn wsX2_find (wsV RX2 15 RX2 yX2_computeCosts wsX2_computeCosts) := goodIn_app (goodIn_of _ (by decide +kernel)) ggX2_find_X2_computeCosts
set_option maxRecDepth 20000 in
theorem ggX2_find_X2_cheapest : GoodIn wsX2_find wsX2_cheapest := goodIn_r _ [29, 2, 9, 12, 13, 14, 15, 16, 17, 18, 65] (by decide +kernel) (by decide +kernel)
set_option maxRecDepth 20000 in
theorem gX2_find_X2_cheapest : GoodIn wsX2_find (wsV RX2 25 RX2 yX2_cheapest wsX2_cheapest) := goodIn_app (goodIn_of _ (by decide +kernel)) ggX2_find_X2_cheapest
set_option maxRecDepth 20000 in
theorem ggX2_find_X2_statesOfCost : GoodIn wsX2_find wsX2_statesOfCost := goodIn_r _ [36, 9, 16, 17, 18, 65] (by decide +kernel) (by decide +kernel)
set_option maxRecDepth 20000 in
theorem gX2_find_X2_statesOfCost : GoodIn wsX2_find (wsV RX2 35 RX2 yX2_statesOfCost wsX2_statesOfCost) := goodIn_app (goodIn_of _ (by decide +kernel)) ggX2_find_X2_statesOfCost
set_option maxRecDepth 20000 in
theorem ggX2_find_X2_firstLetter : GoodIn wsX2_find wsX2_firstLetter := goodIn_r _ [40, 30, 31, 7, 32, 41, 42, 43, 16, 17, 18, 19, 20, 21, 22, 23, 24, 25, 33, 34, 35, 36, 9, 59, 60, 61, 62, 65] (by decide +kernel) (by decide +kernel)
set_option maxRecDepth 20000 in
theorem gX2_find_X2_firstLetter : GoodIn wsX2_find (wsV RX2 39 RX2 yX2_firstLetter wsX2_firstLetter) := goodIn_app (goodIn_of _ (by decide +kernel)) ggX2_find_X2_firstLetter
set_option maxRecDepth 20000 in
theorem ggX2_find_X2_price : GoodIn wsX2_find wsX2_price := goodIn_r _ [32] (by decide +kernel) (by decide +kernel)
set_option maxRecDepth 20000 in
theorem gX2_find_X2_price : GoodIn wsX2_find (va_wsS RX2 43 yX2_price wsX2_price) := goodIn_app (goodIn_of _ (by decide +kernel)) ggX2_find_X2_price
set_option maxRecDepth 20000 in
theorem ggX2_find_X2_image : GoodIn wsX2_find wsX2_image := goodIn_r _ [43, 16, 17, 18, 19, 20, 21, 22, 23, 24, 25, 59, 60, 61, 62] (by decide +kernel) (by decide +kernel)
set_option maxRecDepth 20000 in
theorem gX2_find_X2_image : GoodIn wsX2_find (va_wsS RX2 47 yX2_image wsX2_image) := goodIn_app (goodIn_of _ (by decide +kernel)) ggX2_find_X2_image
set_option maxRecDepth 20000 in
theorem ggX2_find_X8_add : GoodIn wsX2_find wsX8_add := goodIn_r _ [48, 49, 50, 51, 52, 53, 47, 54, 55, 56, 57, 58, 63, 64] (by decide +kernel) (by decide +kernel)
set_option maxRecDepth 20000 in
theorem gX2_find_X8_add : GoodIn wsX2_find (wsV RX2 51 RX8 yX8_add wsX8_add) := goodIn_app (goodIn_of _ (by decide +kernel)) ggX2_find_X8_add
theorem dX2_find_0 : decode cX2_find 0 = .ok (.aload_n 0, 1) := by decide +kernel
theorem dX2_find_1 : decode cX2_find 1 = .ok (.aload_n 1, 1) := by decide +kernel
theorem dX2_find_2 : decode cX2_find 2 = .ok (.aload_n 2, 1) := by decide +kernel
theorem dX2_find_3 : decode cX2_find 3 = .ok (.invokevirtual 15, 3) := by decide +kernel
theorem dX2_find_6 : decode cX2_find 6 = .ok (.aload_n 0, 1) := by decide +kernel
theorem dX2_find_7 : decode cX2_find 7 = .ok (.aload_n 1, 1) := by decide +kernel
theorem dX2_find_8 : decode cX2_find 8 = .ok (.getfield 19, 3) := by decide +kernel
theorem dX2_find_11 : decode cX2_find 11 = .ok (.invokevirtual 25, 3) := by decide +kernel
theorem dX2_find_14 : decode cX2_find 14 = .ok (.istore 4, 2) := by decide +kernel
theorem dX2_find_16 : decode cX2_find 16 = .ok (.iload 4, 2) := by decide +kernel
theorem dX2_find_18 : decode cX2_find 18 = .ok (.ldc 29, 2) := by decide +kernel
theorem dX2_find_20 : decode cX2_find 20 = .ok (.if_icmp .lt 5, 3) := by decide +kernel
theorem dX2_find_23 : decode cX2_find 23 = .ok (.iconst 0, 1) := by decide +kernel
theorem dX2_find_24 : decode cX2_find 24 = .ok (.ireturn, 1) := by decide +kernel
theorem dX2_find_25 : decode cX2_find 25 = .ok (.aload_n 3, 1) := by decide +kernel
theorem dX2_find_26 : decode cX2_find 26 = .ok (.iconst 0, 1) := by decide +kernel
theorem dX2_find_27 : decode cX2_find 27 = .ok (.putfield 30, 3) := by decide +kernel
theorem dX2_find_30 : decode cX2_find 30 = .ok (.aload_n 0, 1) := by decide +kernel
theorem dX2_find_31 : decode cX2_find 31 = .ok (.aload_n 1, 1) := by decide +kernel
theorem dX2_find_32 : decode cX2_find 32 = .ok (.getfield 19, 3) := by decide +kernel
theorem dX2_find_35 : decode cX2_find 35 = .ok (.iload 4, 2) := by decide +kernel
theorem dX2_find_37 : decode cX2_find 37 = .ok (.invokevirtual 35, 3) := by decide +kernel
theorem dX2_find_40 : decode cX2_find 40 = .ok (.istore 5, 2) := by decide +kernel
theorem dX2_find_42 : decode cX2_find 42 = .ok (.iconst 0, 1) := by decide +kernel
theorem dX2_find_43 : decode cX2_find 43 = .ok (.istore 6, 2) := by decide +kernel
theorem dX2_find_45 : decode cX2_find 45 = .ok (.iload 6, 2) := by decide +kernel
theorem dX2_find_47 : decode cX2_find 47 = .ok (.bipush 6, 2) := by decide +kernel
theorem dX2_find_49 : decode cX2_find 49 = .ok (.if_icmp .ge 59, 3) := by decide +kernel
theorem dX2_find_52 : decode cX2_find 52 = .ok (.iload 4, 2) := by decide +kernel
theorem dX2_find_54 : decode cX2_find 54 = .ok (.ifCond .le 54, 3) := by decide +kernel
theorem dX2_find_57 : decode cX2_find 57 = .ok (.aload_n 0, 1) := by decide +kernel
theorem dX2_find_58 : decode cX2_find 58 = .ok (.aload_n 1, 1) := by decide +kernel
theorem dX2_find_59 : decode cX2_find 59 = .ok (.aload_n 2, 1) := by decide +kernel
theorem dX2_find_60 : decode cX2_find 60 = .ok (.iload 5, 2) := by decide +kernel
theorem dX2_find_62 : decode cX2_find 62 = .ok (.iload 4, 2) := by decide +kernel
theorem dX2_find_64 : decode cX2_find 64 = .ok (.invokevirtual 39, 3) := by decide +kernel
theorem dX2_find_67 : decode cX2_find 67 = .ok (.istore 7, 2) := by decide +kernel
theorem dX2_find_69 : decode cX2_find 69 = .ok (.iload 4, 2) := by decide +kernel
theorem dX2_find_71 : decode cX2_find 71 = .ok (.aload_n 2, 1) := by decide +kernel
theorem dX2_find_72 : decode cX2_find 72 = .ok (.iload 7, 2) := by decide +kernel
theorem dX2_find_74 : decode cX2_find 74 = .ok (.invokestatic 43, 3) := by decide +kernel
theorem dX2_find_77 : decode cX2_find 77 = .ok (.isub, 1) := by decide +kernel
theorem dX2_find_78 : decode cX2_find 78 = .ok (.istore 4, 2) := by decide +kernel
theorem dX2_find_80 : decode cX2_find 80 = .ok (.aload_n 0, 1) := by decide +kernel
theorem dX2_find_81 : decode cX2_find 81 = .ok (.aload_n 1, 1) := by decide +kernel
theorem dX2_find_82 : decode cX2_find 82 = .ok (.iload 5, 2) := by decide +kernel
theorem dX2_find_84 : decode cX2_find 84 = .ok (.iload 7, 2) := by decide +kernel
theorem dX2_find_86 : decode cX2_find 86 = .ok (.invokestatic 47, 3) := by decide +kernel
theorem dX2_find_89 : decode cX2_find 89 = .ok (.iload 4, 2) := by decide +kernel
theorem dX2_find_91 : decode cX2_find 91 = .ok (.invokevirtual 35, 3) := by decide +kernel
theorem dX2_find_94 : decode cX2_find 94 = .ok (.istore 5, 2) := by decide +kernel
theorem dX2_find_96 : decode cX2_find 96 = .ok (.aload_n 3, 1) := by decide +kernel
theorem dX2_find_97 : decode cX2_find 97 = .ok (.iload 7, 2) := by decide +kernel
theorem dX2_find_99 : decode cX2_find 99 = .ok (.invokevirtual 51, 3) := by decide +kernel
theorem dX2_find_102 : decode cX2_find 102 = .ok (.iinc 6 1, 3) := by decide +kernel
theorem dX2_find_105 : decode cX2_find 105 = .ok (.goto (-60), 3) := by decide +kernel
theorem dX2_find_108 : decode cX2_find 108 = .ok (.iconst 1, 1) := by decide +kernel
theorem dX2_find_109 : decode cX2_find 109 = .ok (.ireturn, 1) := by decide +kernel
theorem dX2_price_0 : decode cX2_price 0 = .ok (.iload_n 1, 1) := by decide +kernel
theorem dX2_price_1 : decode cX2_price 1 = .ok (.ifCond .lt 20, 3) := by decide +kernel
theorem dX2_price_4 : decode cX2_price 4 = .ok (.iload_n 1, 1) := by decide +kernel
theorem dX2_price_5 : decode cX2_price 5 = .ok (.aload_n 0, 1) := by decide +kernel
theorem dX2_price_6 : decode cX2_price 6 = .ok (.arraylength, 1) := by decide +kernel
theorem dX2_price_7 : decode cX2_price 7 = .ok (.if_icmp .ge 14, 3) := by decide +kernel
theorem dX2_price_10 : decode cX2_price 10 = .ok (.aload_n 0, 1) := by decide +kernel
theorem dX2_price_11 : decode cX2_price 11 = .ok (.iload_n 1, 1) := by decide +kernel
theorem dX2_price_12 : decode cX2_price 12 = .ok (.iaload, 1) := by decide +kernel
theorem dX2_price_13 : decode cX2_price 13 = .ok (.bipush 64, 2) := by decide +kernel
theorem dX2_price_15 : decode cX2_price 15 = .ok (.imul, 1) := by decide +kernel
theorem dX2_price_16 : decode cX2_price 16 = .ok (.iconst 1, 1) := by decide +kernel
theorem dX2_price_17 : decode cX2_price 17 = .ok (.iadd, 1) := by decide +kernel
theorem dX2_price_18 : decode cX2_price 18 = .ok (.goto 4, 3) := by decide +kernel
theorem dX2_price_21 : decode cX2_price 21 = .ok (.iconst 1, 1) := by decide +kernel
theorem dX2_price_22 : decode cX2_price 22 = .ok (.ireturn, 1) := by decide +kernel
set_option maxRecDepth 20000 in
theorem ggX2_computeCosts_X10_contains : GoodIn wsX2_computeCosts wsX10_contains := goodIn_r _ [11] (by decide +kernel) (by decide +kernel)
set_option maxRecDepth 20000 in
theorem gX2_computeCosts_X10_contains_n58 : GoodIn wsX2_computeCosts (wsX10_contains) := ggX2_computeCosts_X10_contains
set_option maxRecDepth 20000 in
theorem ggX2_computeCosts_X0_targetsOf : GoodIn wsX2_computeCosts wsX0_targetsOf := goodIn_r _ [16, 17, 18, 28, 29, 30, 31] (by decide +kernel) (by decide +kernel)
set_option maxRecDepth 20000 in
theorem gX2_computeCosts_X0_targetsOf : GoodIn wsX2_computeCosts (wsV RX2 65 RX0 yX0_targetsOf wsX0_targetsOf) := goodIn_app (goodIn_of _ (by decide +kernel)) ggX2_computeCosts_X0_targetsOf
set_option maxRecDepth 20000 in
theorem ggX2_computeCosts_X2_cheapest : GoodIn wsX2_computeCosts wsX2_cheapest := goodIn_r _ [23, 3, 1, 5, 6, 7, 8, 9, 10, 11, 27] (by decide +kernel) (by decide +kernel)
set_option maxRecDepth 20000 in
theorem gX2_computeCosts_X2_cheapest : GoodIn wsX2_computeCosts (wsV RX2 25 RX2 yX2_cheapest wsX2_cheapest) := goodIn_app (goodIn_of _ (by decide +kernel)) ggX2_computeCosts_X2_cheapest
set_option maxRecDepth 20000 in
theorem ggX2_computeCosts_X2_price : GoodIn wsX2_computeCosts wsX2_price := goodIn_r _ [26] (by decide +kernel) (by decide +kernel)
set_option maxRecDepth 20000 in
theorem gX2_computeCosts_X2_price : GoodIn wsX2_computeCosts (va_wsS RX2 43 yX2_price wsX2_price) := goodIn_app (goodIn_of _ (by decide +kernel)) ggX2_computeCosts_X2_price
theorem dX2_computeCosts_0 : decode cX2_computeCosts 0 = .ok (.iconst 0, 1) := by decide +kernel
theorem dX2_computeCosts_1 : decode cX2_computeCosts 1 = .ok (.istore_n 3, 1) := by decide +kernel
theorem dX2_computeCosts_2 : decode cX2_computeCosts 2 = .ok (.iload_n 3, 1) := by decide +kernel
theorem dX2_computeCosts_3 : decode cX2_computeCosts 3 = .ok (.bipush 6, 2) := by decide +kernel
theorem dX2_computeCosts_5 : decode cX2_computeCosts 5 = .ok (.if_icmp .ge 32, 3) := by decide +kernel
theorem dX2_computeCosts_8 : decode cX2_computeCosts 8 = .ok (.aload_n 0, 1) := by decide +kernel
theorem dX2_computeCosts_9 : decode cX2_computeCosts 9 = .ok (.getfield 9, 3) := by decide +kernel
theorem dX2_computeCosts_12 : decode cX2_computeCosts 12 = .ok (.iload_n 3, 1) := by decide +kernel
theorem dX2_computeCosts_13 : decode cX2_computeCosts 13 = .ok (.aload_n 1, 1) := by decide +kernel
theorem dX2_computeCosts_14 : decode cX2_computeCosts 14 = .ok (.getfield 55, 3) := by decide +kernel
theorem dX2_computeCosts_17 : decode cX2_computeCosts 17 = .ok (.iload_n 3, 1) := by decide +kernel
theorem dX2_computeCosts_18 : decode cX2_computeCosts 18 = .ok (.invokestatic 58, 3) := by decide +kernel
theorem dX2_computeCosts_21 : decode cX2_computeCosts 21 = .ok (.ifCond .eq 7, 3) := by decide +kernel
theorem dX2_computeCosts_24 : decode cX2_computeCosts 24 = .ok (.iconst 0, 1) := by decide +kernel
theorem dX2_computeCosts_25 : decode cX2_computeCosts 25 = .ok (.goto 5, 3) := by decide +kernel
theorem dX2_computeCosts_28 : decode cX2_computeCosts 28 = .ok (.ldc 29, 2) := by decide +kernel
theorem dX2_computeCosts_30 : decode cX2_computeCosts 30 = .ok (.iastore, 1) := by decide +kernel
theorem dX2_computeCosts_31 : decode cX2_computeCosts 31 = .ok (.iinc 3 1, 3) := by decide +kernel
theorem dX2_computeCosts_34 : decode cX2_computeCosts 34 = .ok (.goto (-32), 3) := by decide +kernel
theorem dX2_computeCosts_37 : decode cX2_computeCosts 37 = .ok (.iconst 1, 1) := by decide +kernel
theorem dX2_computeCosts_38 : decode cX2_computeCosts 38 = .ok (.istore_n 3, 1) := by decide +kernel
theorem dX2_computeCosts_39 : decode cX2_computeCosts 39 = .ok (.iload_n 3, 1) := by decide +kernel
theorem dX2_computeCosts_40 : decode cX2_computeCosts 40 = .ok (.aload_n 1, 1) := by decide +kernel
theorem dX2_computeCosts_41 : decode cX2_computeCosts 41 = .ok (.getfield 62, 3) := by decide +kernel
theorem dX2_computeCosts_44 : decode cX2_computeCosts 44 = .ok (.if_icmp .ge 80, 3) := by decide +kernel
theorem dX2_computeCosts_47 : decode cX2_computeCosts 47 = .ok (.iconst 0, 1) := by decide +kernel
theorem dX2_computeCosts_48 : decode cX2_computeCosts 48 = .ok (.istore 4, 2) := by decide +kernel
theorem dX2_computeCosts_50 : decode cX2_computeCosts 50 = .ok (.iload 4, 2) := by decide +kernel
theorem dX2_computeCosts_52 : decode cX2_computeCosts 52 = .ok (.bipush 6, 2) := by decide +kernel
theorem dX2_computeCosts_54 : decode cX2_computeCosts 54 = .ok (.if_icmp .ge 64, 3) := by decide +kernel
theorem dX2_computeCosts_57 : decode cX2_computeCosts 57 = .ok (.iconst 0, 1) := by decide +kernel
theorem dX2_computeCosts_58 : decode cX2_computeCosts 58 = .ok (.istore 5, 2) := by decide +kernel
theorem dX2_computeCosts_60 : decode cX2_computeCosts 60 = .ok (.iload 5, 2) := by decide +kernel
theorem dX2_computeCosts_62 : decode cX2_computeCosts 62 = .ok (.iconst 3, 1) := by decide +kernel
theorem dX2_computeCosts_63 : decode cX2_computeCosts 63 = .ok (.if_icmp .ge 49, 3) := by decide +kernel
theorem dX2_computeCosts_66 : decode cX2_computeCosts 66 = .ok (.aload_n 0, 1) := by decide +kernel
theorem dX2_computeCosts_67 : decode cX2_computeCosts 67 = .ok (.aload_n 1, 1) := by decide +kernel
theorem dX2_computeCosts_68 : decode cX2_computeCosts 68 = .ok (.iload 4, 2) := by decide +kernel
theorem dX2_computeCosts_70 : decode cX2_computeCosts 70 = .ok (.iload 5, 2) := by decide +kernel
theorem dX2_computeCosts_72 : decode cX2_computeCosts 72 = .ok (.invokevirtual 65, 3) := by decide +kernel
theorem dX2_computeCosts_75 : decode cX2_computeCosts 75 = .ok (.invokevirtual 25, 3) := by decide +kernel
theorem dX2_computeCosts_78 : decode cX2_computeCosts 78 = .ok (.istore 6, 2) := by decide +kernel
theorem dX2_computeCosts_80 : decode cX2_computeCosts 80 = .ok (.aload_n 0, 1) := by decide +kernel
theorem dX2_computeCosts_81 : decode cX2_computeCosts 81 = .ok (.getfield 9, 3) := by decide +kernel
theorem dX2_computeCosts_84 : decode cX2_computeCosts 84 = .ok (.iload 4, 2) := by decide +kernel
theorem dX2_computeCosts_86 : decode cX2_computeCosts 86 = .ok (.aload_n 0, 1) := by decide +kernel
theorem dX2_computeCosts_87 : decode cX2_computeCosts 87 = .ok (.getfield 9, 3) := by decide +kernel
theorem dX2_computeCosts_90 : decode cX2_computeCosts 90 = .ok (.iload 4, 2) := by decide +kernel
theorem dX2_computeCosts_92 : decode cX2_computeCosts 92 = .ok (.iaload, 1) := by decide +kernel
theorem dX2_computeCosts_93 : decode cX2_computeCosts 93 = .ok (.iload 6, 2) := by decide +kernel
theorem dX2_computeCosts_95 : decode cX2_computeCosts 95 = .ok (.aload_n 2, 1) := by decide +kernel
theorem dX2_computeCosts_96 : decode cX2_computeCosts 96 = .ok (.iload 5, 2) := by decide +kernel
theorem dX2_computeCosts_98 : decode cX2_computeCosts 98 = .ok (.invokestatic 43, 3) := by decide +kernel
theorem dX2_computeCosts_101 : decode cX2_computeCosts 101 = .ok (.iadd, 1) := by decide +kernel
theorem dX2_computeCosts_102 : decode cX2_computeCosts 102 = .ok (.invokestatic 68, 3) := by decide +kernel
theorem dX2_computeCosts_105 : decode cX2_computeCosts 105 = .ok (.iastore, 1) := by decide +kernel
theorem dX2_computeCosts_106 : decode cX2_computeCosts 106 = .ok (.iinc 5 1, 3) := by decide +kernel
theorem dX2_computeCosts_109 : decode cX2_computeCosts 109 = .ok (.goto (-49), 3) := by decide +kernel
theorem dX2_computeCosts_112 : decode cX2_computeCosts 112 = .ok (.iinc 4 1, 3) := by decide +kernel
theorem dX2_computeCosts_115 : decode cX2_computeCosts 115 = .ok (.goto (-65), 3) := by decide +kernel
theorem dX2_computeCosts_118 : decode cX2_computeCosts 118 = .ok (.iinc 3 1, 3) := by decide +kernel
theorem dX2_computeCosts_121 : decode cX2_computeCosts 121 = .ok (.goto (-82), 3) := by decide +kernel
theorem dX2_computeCosts_124 : decode cX2_computeCosts 124 = .ok (.return_, 1) := by decide +kernel
set_option maxRecDepth 20000 in
theorem ggX2_cheapest_X10_contains : GoodIn wsX2_cheapest wsX10_contains := goodIn_r _ [9] (by decide +kernel) (by decide +kernel)
set_option maxRecDepth 20000 in
theorem gX2_cheapest_X10_contains_n58 : GoodIn wsX2_cheapest (wsX10_contains) := ggX2_cheapest_X10_contains
theorem dX2_cheapest_0 : decode cX2_cheapest 0 = .ok (.ldc 29, 2) := by decide +kernel
theorem dX2_cheapest_2 : decode cX2_cheapest 2 = .ok (.istore_n 2, 1) := by decide +kernel
theorem dX2_cheapest_3 : decode cX2_cheapest 3 = .ok (.iconst 0, 1) := by decide +kernel
theorem dX2_cheapest_4 : decode cX2_cheapest 4 = .ok (.istore_n 3, 1) := by decide +kernel
theorem dX2_cheapest_5 : decode cX2_cheapest 5 = .ok (.iload_n 3, 1) := by decide +kernel
theorem dX2_cheapest_6 : decode cX2_cheapest 6 = .ok (.bipush 6, 2) := by decide +kernel
theorem dX2_cheapest_8 : decode cX2_cheapest 8 = .ok (.if_icmp .ge 32, 3) := by decide +kernel
theorem dX2_cheapest_11 : decode cX2_cheapest 11 = .ok (.iload_n 1, 1) := by decide +kernel
theorem dX2_cheapest_12 : decode cX2_cheapest 12 = .ok (.iload_n 3, 1) := by decide +kernel
theorem dX2_cheapest_13 : decode cX2_cheapest 13 = .ok (.invokestatic 58, 3) := by decide +kernel
theorem dX2_cheapest_16 : decode cX2_cheapest 16 = .ok (.ifCond .eq 16, 3) := by decide +kernel
theorem dX2_cheapest_19 : decode cX2_cheapest 19 = .ok (.iload_n 2, 1) := by decide +kernel
theorem dX2_cheapest_20 : decode cX2_cheapest 20 = .ok (.aload_n 0, 1) := by decide +kernel
theorem dX2_cheapest_21 : decode cX2_cheapest 21 = .ok (.getfield 9, 3) := by decide +kernel
theorem dX2_cheapest_24 : decode cX2_cheapest 24 = .ok (.iload_n 3, 1) := by decide +kernel
theorem dX2_cheapest_25 : decode cX2_cheapest 25 = .ok (.iaload, 1) := by decide +kernel
theorem dX2_cheapest_26 : decode cX2_cheapest 26 = .ok (.invokestatic 68, 3) := by decide +kernel
theorem dX2_cheapest_29 : decode cX2_cheapest 29 = .ok (.goto 4, 3) := by decide +kernel
theorem dX2_cheapest_32 : decode cX2_cheapest 32 = .ok (.iload_n 2, 1) := by decide +kernel
theorem dX2_cheapest_33 : decode cX2_cheapest 33 = .ok (.istore_n 2, 1) := by decide +kernel
theorem dX2_cheapest_34 : decode cX2_cheapest 34 = .ok (.iinc 3 1, 3) := by decide +kernel
theorem dX2_cheapest_37 : decode cX2_cheapest 37 = .ok (.goto (-32), 3) := by decide +kernel
theorem dX2_cheapest_40 : decode cX2_cheapest 40 = .ok (.iload_n 2, 1) := by decide +kernel
theorem dX2_cheapest_41 : decode cX2_cheapest 41 = .ok (.ireturn, 1) := by decide +kernel
set_option maxRecDepth 20000 in
theorem ggX2_statesOfCost_X10_contains : GoodIn wsX2_statesOfCost wsX10_contains := goodIn_r _ [4] (by decide +kernel) (by decide +kernel)
set_option maxRecDepth 20000 in
theorem gX2_statesOfCost_X10_contains_n58 : GoodIn wsX2_statesOfCost (wsX10_contains) := ggX2_statesOfCost_X10_contains
theorem dX2_statesOfCost_0 : decode cX2_statesOfCost 0 = .ok (.iconst 0, 1) := by decide +kernel
theorem dX2_statesOfCost_1 : decode cX2_statesOfCost 1 = .ok (.istore_n 3, 1) := by decide +kernel
theorem dX2_statesOfCost_2 : decode cX2_statesOfCost 2 = .ok (.iconst 0, 1) := by decide +kernel
theorem dX2_statesOfCost_3 : decode cX2_statesOfCost 3 = .ok (.istore 4, 2) := by decide +kernel
theorem dX2_statesOfCost_5 : decode cX2_statesOfCost 5 = .ok (.iload 4, 2) := by decide +kernel
theorem dX2_statesOfCost_7 : decode cX2_statesOfCost 7 = .ok (.bipush 6, 2) := by decide +kernel
theorem dX2_statesOfCost_9 : decode cX2_statesOfCost 9 = .ok (.if_icmp .ge 40, 3) := by decide +kernel
theorem dX2_statesOfCost_12 : decode cX2_statesOfCost 12 = .ok (.iload_n 3, 1) := by decide +kernel
theorem dX2_statesOfCost_13 : decode cX2_statesOfCost 13 = .ok (.iload_n 1, 1) := by decide +kernel
theorem dX2_statesOfCost_14 : decode cX2_statesOfCost 14 = .ok (.iload 4, 2) := by decide +kernel
theorem dX2_statesOfCost_16 : decode cX2_statesOfCost 16 = .ok (.invokestatic 58, 3) := by decide +kernel
theorem dX2_statesOfCost_19 : decode cX2_statesOfCost 19 = .ok (.ifCond .eq 21, 3) := by decide +kernel
theorem dX2_statesOfCost_22 : decode cX2_statesOfCost 22 = .ok (.aload_n 0, 1) := by decide +kernel
theorem dX2_statesOfCost_23 : decode cX2_statesOfCost 23 = .ok (.getfield 9, 3) := by decide +kernel
theorem dX2_statesOfCost_26 : decode cX2_statesOfCost 26 = .ok (.iload 4, 2) := by decide +kernel
theorem dX2_statesOfCost_28 : decode cX2_statesOfCost 28 = .ok (.iaload, 1) := by decide +kernel
theorem dX2_statesOfCost_29 : decode cX2_statesOfCost 29 = .ok (.iload_n 2, 1) := by decide +kernel
theorem dX2_statesOfCost_30 : decode cX2_statesOfCost 30 = .ok (.if_icmp .ne 10, 3) := by decide +kernel
theorem dX2_statesOfCost_33 : decode cX2_statesOfCost 33 = .ok (.iconst 1, 1) := by decide +kernel
theorem dX2_statesOfCost_34 : decode cX2_statesOfCost 34 = .ok (.iload 4, 2) := by decide +kernel
theorem dX2_statesOfCost_36 : decode cX2_statesOfCost 36 = .ok (.ishl, 1) := by decide +kernel
theorem dX2_statesOfCost_37 : decode cX2_statesOfCost 37 = .ok (.goto 4, 3) := by decide +kernel
theorem dX2_statesOfCost_40 : decode cX2_statesOfCost 40 = .ok (.iconst 0, 1) := by decide +kernel
theorem dX2_statesOfCost_41 : decode cX2_statesOfCost 41 = .ok (.ior, 1) := by decide +kernel
theorem dX2_statesOfCost_42 : decode cX2_statesOfCost 42 = .ok (.istore_n 3, 1) := by decide +kernel
theorem dX2_statesOfCost_43 : decode cX2_statesOfCost 43 = .ok (.iinc 4 1, 3) := by decide +kernel
theorem dX2_statesOfCost_46 : decode cX2_statesOfCost 46 = .ok (.goto (-41), 3) := by decide +kernel
theorem dX2_statesOfCost_49 : decode cX2_statesOfCost 49 = .ok (.iload_n 3, 1) := by decide +kernel
theorem dX2_statesOfCost_50 : decode cX2_statesOfCost 50 = .ok (.ireturn, 1) := by decide +kernel
set_option maxRecDepth 20000 in
theorem ggX2_firstLetter_X2_price : GoodIn wsX2_firstLetter wsX2_price := goodIn_r _ [4] (by decide +kernel) (by decide +kernel)
set_option maxRecDepth 20000 in
theorem gX2_firstLetter_X2_price : GoodIn wsX2_firstLetter (va_wsS RX2 43 yX2_price wsX2_price) := goodIn_app (goodIn_of _ (by decide +kernel)) ggX2_firstLetter_X2_price
set_option maxRecDepth 20000 in
theorem ggX2_firstLetter_X2_image : GoodIn wsX2_firstLetter wsX2_image := goodIn_r _ [7, 8, 9, 10, 11, 12, 13, 14, 15, 16, 17, 23, 24, 25, 26] (by decide +kernel) (by decide +kernel)
set_option maxRecDepth 20000 in
theorem gX2_firstLetter_X2_image : GoodIn wsX2_firstLetter (va_wsS RX2 47 yX2_image wsX2_image) := goodIn_app (goodIn_of _ (by decide +kernel)) ggX2_firstLetter_X2_image
set_option maxRecDepth 20000 in
theorem ggX2_firstLetter_X2_statesOfCost : GoodIn wsX2_firstLetter wsX2_statesOfCost := goodIn_r _ [21, 22, 8, 9, 10, 27] (by decide +kernel) (by decide +kernel)
set_option maxRecDepth 20000 in
theorem gX2_firstLetter_X2_statesOfCost : GoodIn wsX2_firstLetter (wsV RX2 35 RX2 yX2_statesOfCost wsX2_statesOfCost) := goodIn_app (goodIn_of _ (by decide +kernel)) ggX2_firstLetter_X2_statesOfCost
theorem dX2_firstLetter_0 : decode cX2_firstLetter 0 = .ok (.iconst 0, 1) := by decide +kernel
theorem dX2_firstLetter_1 : decode cX2_firstLetter 1 = .ok (.istore 5, 2) := by decide +kernel
theorem dX2_firstLetter_3 : decode cX2_firstLetter 3 = .ok (.iload 5, 2) := by decide +kernel
theorem dX2_firstLetter_5 : decode cX2_firstLetter 5 = .ok (.iconst 2, 1) := by decide +kernel
theorem dX2_firstLetter_6 : decode cX2_firstLetter 6 = .ok (.if_icmp .ge 39, 3) := by decide +kernel
theorem dX2_firstLetter_9 : decode cX2_firstLetter 9 = .ok (.iload 4, 2) := by decide +kernel
theorem dX2_firstLetter_11 : decode cX2_firstLetter 11 = .ok (.aload_n 2, 1) := by decide +kernel
theorem dX2_firstLetter_12 : decode cX2_firstLetter 12 = .ok (.iload 5, 2) := by decide +kernel
theorem dX2_firstLetter_14 : decode cX2_firstLetter 14 = .ok (.invokestatic 43, 3) := by decide +kernel
theorem dX2_firstLetter_17 : decode cX2_firstLetter 17 = .ok (.isub, 1) := by decide +kernel
theorem dX2_firstLetter_18 : decode cX2_firstLetter 18 = .ok (.istore 6, 2) := by decide +kernel
theorem dX2_firstLetter_20 : decode cX2_firstLetter 20 = .ok (.aload_n 0, 1) := by decide +kernel
theorem dX2_firstLetter_21 : decode cX2_firstLetter 21 = .ok (.aload_n 1, 1) := by decide +kernel
theorem dX2_firstLetter_22 : decode cX2_firstLetter 22 = .ok (.iload_n 3, 1) := by decide +kernel
theorem dX2_firstLetter_23 : decode cX2_firstLetter 23 = .ok (.iload 5, 2) := by decide +kernel
theorem dX2_firstLetter_25 : decode cX2_firstLetter 25 = .ok (.invokestatic 47, 3) := by decide +kernel
theorem dX2_firstLetter_28 : decode cX2_firstLetter 28 = .ok (.iload 6, 2) := by decide +kernel
theorem dX2_firstLetter_30 : decode cX2_firstLetter 30 = .ok (.invokevirtual 35, 3) := by decide +kernel
theorem dX2_firstLetter_33 : decode cX2_firstLetter 33 = .ok (.ifCond .eq 6, 3) := by decide +kernel
theorem dX2_firstLetter_36 : decode cX2_firstLetter 36 = .ok (.iload 5, 2) := by decide +kernel
theorem dX2_firstLetter_38 : decode cX2_firstLetter 38 = .ok (.ireturn, 1) := by decide +kernel
theorem dX2_firstLetter_39 : decode cX2_firstLetter 39 = .ok (.iinc 5 1, 3) := by decide +kernel
theorem dX2_firstLetter_42 : decode cX2_firstLetter 42 = .ok (.goto (-39), 3) := by decide +kernel
theorem dX2_firstLetter_45 : decode cX2_firstLetter 45 = .ok (.iconst 2, 1) := by decide +kernel
theorem dX2_firstLetter_46 : decode cX2_firstLetter 46 = .ok (.ireturn, 1) := by decide +kernel
set_option maxRecDepth 20000 in
theorem ggX2_image_X10_contains : GoodIn wsX2_image wsX10_contains := goodIn_r _ [3] (by decide +kernel) (by decide +kernel)
set_option maxRecDepth 20000 in
theorem gX2_image_X10_contains_n58 : GoodIn wsX2_image (wsX10_contains) := ggX2_image_X10_contains
set_option maxRecDepth 20000 in
theorem ggX2_image_X0_targetsOf : GoodIn wsX2_image wsX0_targetsOf := goodIn_r _ [8, 9, 10, 11, 12, 13, 14] (by decide +kernel) (by decide +kernel)
set_option maxRecDepth 20000 in
theorem gX2_image_X0_targetsOf : GoodIn wsX2_image (wsV RX2 65 RX0 yX0_targetsOf wsX0_targetsOf) := goodIn_app (goodIn_of _ (by decide +kernel)) ggX2_image_X0_targetsOf
theorem dX2_image_0 : decode cX2_image 0 = .ok (.iconst 0, 1) := by decide +kernel
theorem dX2_image_1 : decode cX2_image 1 = .ok (.istore_n 3, 1) := by decide +kernel
theorem dX2_image_2 : decode cX2_image 2 = .ok (.iconst 0, 1) := by decide +kernel
theorem dX2_image_3 : decode cX2_image 3 = .ok (.istore 4, 2) := by decide +kernel
theorem dX2_image_5 : decode cX2_image 5 = .ok (.iload 4, 2) := by decide +kernel
theorem dX2_image_7 : decode cX2_image 7 = .ok (.bipush 6, 2) := by decide +kernel
theorem dX2_image_9 : decode cX2_image 9 = .ok (.if_icmp .ge 32, 3) := by decide +kernel
theorem dX2_image_12 : decode cX2_image 12 = .ok (.iload_n 3, 1) := by decide +kernel
theorem dX2_image_13 : decode cX2_image 13 = .ok (.iload_n 1, 1) := by decide +kernel
theorem dX2_image_14 : decode cX2_image 14 = .ok (.iload 4, 2) := by decide +kernel
theorem dX2_image_16 : decode cX2_image 16 = .ok (.invokestatic 58, 3) := by decide +kernel
theorem dX2_image_19 : decode cX2_image 19 = .ok (.ifCond .eq 13, 3) := by decide +kernel
theorem dX2_image_22 : decode cX2_image 22 = .ok (.aload_n 0, 1) := by decide +kernel
theorem dX2_image_23 : decode cX2_image 23 = .ok (.iload 4, 2) := by decide +kernel
theorem dX2_image_25 : decode cX2_image 25 = .ok (.iload_n 2, 1) := by decide +kernel
theorem dX2_image_26 : decode cX2_image 26 = .ok (.invokevirtual 65, 3) := by decide +kernel
theorem dX2_image_29 : decode cX2_image 29 = .ok (.goto 4, 3) := by decide +kernel
theorem dX2_image_32 : decode cX2_image 32 = .ok (.iconst 0, 1) := by decide +kernel
theorem dX2_image_33 : decode cX2_image 33 = .ok (.ior, 1) := by decide +kernel
theorem dX2_image_34 : decode cX2_image 34 = .ok (.istore_n 3, 1) := by decide +kernel
theorem dX2_image_35 : decode cX2_image 35 = .ok (.iinc 4 1, 3) := by decide +kernel
theorem dX2_image_38 : decode cX2_image 38 = .ok (.goto (-33), 3) := by decide +kernel
theorem dX2_image_41 : decode cX2_image 41 = .ok (.iload_n 3, 1) := by decide +kernel
theorem dX2_image_42 : decode cX2_image 42 = .ok (.ireturn, 1) := by decide +kernel
theorem dX3_init_0 : decode cX3_init 0 = .ok (.aload_n 0, 1) := by decide +kernel
theorem dX3_init_1 : decode cX3_init 1 = .ok (.invokespecial 3, 3) := by decide +kernel
theorem dX3_init_4 : decode cX3_init 4 = .ok (.aload_n 0, 1) := by decide +kernel
theorem dX3_init_5 : decode cX3_init 5 = .ok (.sipush 192, 3) := by decide +kernel
theorem dX3_init_8 : decode cX3_init 8 = .ok (.newarray .long, 2) := by decide +kernel
theorem dX3_init_10 : decode cX3_init 10 = .ok (.putfield 9, 3) := by decide +kernel
theorem dX3_init_13 : decode cX3_init 13 = .ok (.aload_n 0, 1) := by decide +kernel
theorem dX3_init_14 : decode cX3_init 14 = .ok (.bipush 64, 2) := by decide +kernel
theorem dX3_init_16 : decode cX3_init 16 = .ok (.newarray .int, 2) := by decide +kernel
theorem dX3_init_18 : decode cX3_init 18 = .ok (.putfield 15, 3) := by decide +kernel
theorem dX3_init_21 : decode cX3_init 21 = .ok (.aload_n 0, 1) := by decide +kernel
theorem dX3_init_22 : decode cX3_init 22 = .ok (.sipush 384, 3) := by decide +kernel
theorem dX3_init_25 : decode cX3_init 25 = .ok (.newarray .int, 2) := by decide +kernel
theorem dX3_init_27 : decode cX3_init 27 = .ok (.putfield 19, 3) := by decide +kernel
theorem dX3_init_30 : decode cX3_init 30 = .ok (.return_, 1) := by decide +kernel
theorem dX3_makeEmpty_0 : decode cX3_makeEmpty 0 = .ok (.aload_n 0, 1) := by decide +kernel
theorem dX3_makeEmpty_1 : decode cX3_makeEmpty 1 = .ok (.iconst 0, 1) := by decide +kernel
theorem dX3_makeEmpty_2 : decode cX3_makeEmpty 2 = .ok (.putfield 22, 3) := by decide +kernel
theorem dX3_makeEmpty_5 : decode cX3_makeEmpty 5 = .ok (.aload_n 0, 1) := by decide +kernel
theorem dX3_makeEmpty_6 : decode cX3_makeEmpty 6 = .ok (.lconst 0, 1) := by decide +kernel
theorem dX3_makeEmpty_7 : decode cX3_makeEmpty 7 = .ok (.putfield 26, 3) := by decide +kernel
theorem dX3_makeEmpty_10 : decode cX3_makeEmpty 10 = .ok (.aload_n 0, 1) := by decide +kernel
theorem dX3_makeEmpty_11 : decode cX3_makeEmpty 11 = .ok (.lconst 0, 1) := by decide +kernel
theorem dX3_makeEmpty_12 : decode cX3_makeEmpty 12 = .ok (.putfield 30, 3) := by decide +kernel
theorem dX3_makeEmpty_15 : decode cX3_makeEmpty 15 = .ok (.iconst 0, 1) := by decide +kernel
theorem dX3_makeEmpty_16 : decode cX3_makeEmpty 16 = .ok (.istore_n 1, 1) := by decide +kernel
theorem dX3_makeEmpty_17 : decode cX3_makeEmpty 17 = .ok (.iload_n 1, 1) := by decide +kernel
theorem dX3_makeEmpty_18 : decode cX3_makeEmpty 18 = .ok (.aload_n 0, 1) := by decide +kernel
theorem dX3_makeEmpty_19 : decode cX3_makeEmpty 19 = .ok (.getfield 9, 3) := by decide +kernel
theorem dX3_makeEmpty_22 : decode cX3_makeEmpty 22 = .ok (.arraylength, 1) := by decide +kernel
theorem dX3_makeEmpty_23 : decode cX3_makeEmpty 23 = .ok (.if_icmp .ge 16, 3) := by decide +kernel
theorem dX3_makeEmpty_26 : decode cX3_makeEmpty 26 = .ok (.aload_n 0, 1) := by decide +kernel
theorem dX3_makeEmpty_27 : decode cX3_makeEmpty 27 = .ok (.getfield 9, 3) := by decide +kernel
theorem dX3_makeEmpty_30 : decode cX3_makeEmpty 30 = .ok (.iload_n 1, 1) := by decide +kernel
theorem dX3_makeEmpty_31 : decode cX3_makeEmpty 31 = .ok (.lconst 0, 1) := by decide +kernel
theorem dX3_makeEmpty_32 : decode cX3_makeEmpty 32 = .ok (.lastore, 1) := by decide +kernel
theorem dX3_makeEmpty_33 : decode cX3_makeEmpty 33 = .ok (.iinc 1 1, 3) := by decide +kernel
theorem dX3_makeEmpty_36 : decode cX3_makeEmpty 36 = .ok (.goto (-19), 3) := by decide +kernel
theorem dX3_makeEmpty_39 : decode cX3_makeEmpty 39 = .ok (.iconst 0, 1) := by decide +kernel
theorem dX3_makeEmpty_40 : decode cX3_makeEmpty 40 = .ok (.istore_n 1, 1) := by decide +kernel
theorem dX3_makeEmpty_41 : decode cX3_makeEmpty 41 = .ok (.iload_n 1, 1) := by decide +kernel
theorem dX3_makeEmpty_42 : decode cX3_makeEmpty 42 = .ok (.aload_n 0, 1) := by decide +kernel
theorem dX3_makeEmpty_43 : decode cX3_makeEmpty 43 = .ok (.getfield 19, 3) := by decide +kernel
theorem dX3_makeEmpty_46 : decode cX3_makeEmpty 46 = .ok (.arraylength, 1) := by decide +kernel
theorem dX3_makeEmpty_47 : decode cX3_makeEmpty 47 = .ok (.if_icmp .ge 16, 3) := by decide +kernel
theorem dX3_makeEmpty_50 : decode cX3_makeEmpty 50 = .ok (.aload_n 0, 1) := by decide +kernel
theorem dX3_makeEmpty_51 : decode cX3_makeEmpty 51 = .ok (.getfield 19, 3) := by decide +kernel
theorem dX3_makeEmpty_54 : decode cX3_makeEmpty 54 = .ok (.iload_n 1, 1) := by decide +kernel
theorem dX3_makeEmpty_55 : decode cX3_makeEmpty 55 = .ok (.iconst (-1), 1) := by decide +kernel
theorem dX3_makeEmpty_56 : decode cX3_makeEmpty 56 = .ok (.iastore, 1) := by decide +kernel
theorem dX3_makeEmpty_57 : decode cX3_makeEmpty 57 = .ok (.iinc 1 1, 3) := by decide +kernel
theorem dX3_makeEmpty_60 : decode cX3_makeEmpty 60 = .ok (.goto (-19), 3) := by decide +kernel
theorem dX3_makeEmpty_63 : decode cX3_makeEmpty 63 = .ok (.return_, 1) := by decide +kernel
theorem dX3_bitOf_0 : decode cX3_bitOf 0 = .ok (.iload_n 1, 1) := by decide +kernel
theorem dX3_bitOf_1 : decode cX3_bitOf 1 = .ok (.ifCond .lt 12, 3) := by decide +kernel
theorem dX3_bitOf_4 : decode cX3_bitOf 4 = .ok (.iload_n 1, 1) := by decide +kernel
theorem dX3_bitOf_5 : decode cX3_bitOf 5 = .ok (.aload_n 0, 1) := by decide +kernel
theorem dX3_bitOf_6 : decode cX3_bitOf 6 = .ok (.getfield 19, 3) := by decide +kernel
theorem dX3_bitOf_9 : decode cX3_bitOf 9 = .ok (.arraylength, 1) := by decide +kernel
theorem dX3_bitOf_10 : decode cX3_bitOf 10 = .ok (.if_icmp .lt 5, 3) := by decide +kernel
theorem dX3_bitOf_13 : decode cX3_bitOf 13 = .ok (.lconst 0, 1) := by decide +kernel
theorem dX3_bitOf_14 : decode cX3_bitOf 14 = .ok (.lreturn, 1) := by decide +kernel
theorem dX3_bitOf_15 : decode cX3_bitOf 15 = .ok (.aload_n 0, 1) := by decide +kernel
theorem dX3_bitOf_16 : decode cX3_bitOf 16 = .ok (.getfield 19, 3) := by decide +kernel
theorem dX3_bitOf_19 : decode cX3_bitOf 19 = .ok (.iload_n 1, 1) := by decide +kernel
theorem dX3_bitOf_20 : decode cX3_bitOf 20 = .ok (.iaload, 1) := by decide +kernel
theorem dX3_bitOf_21 : decode cX3_bitOf 21 = .ok (.iconst (-1), 1) := by decide +kernel
theorem dX3_bitOf_22 : decode cX3_bitOf 22 = .ok (.if_icmp .ne 67, 3) := by decide +kernel
theorem dX3_bitOf_25 : decode cX3_bitOf 25 = .ok (.aload_n 0, 1) := by decide +kernel
theorem dX3_bitOf_26 : decode cX3_bitOf 26 = .ok (.getfield 22, 3) := by decide +kernel
theorem dX3_bitOf_29 : decode cX3_bitOf 29 = .ok (.bipush 64, 2) := by decide +kernel
theorem dX3_bitOf_31 : decode cX3_bitOf 31 = .ok (.if_icmp .lt 5, 3) := by decide +kernel
theorem dX3_bitOf_34 : decode cX3_bitOf 34 = .ok (.lconst 0, 1) := by decide +kernel
theorem dX3_bitOf_35 : decode cX3_bitOf 35 = .ok (.lreturn, 1) := by decide +kernel
theorem dX3_bitOf_36 : decode cX3_bitOf 36 = .ok (.aload_n 0, 1) := by decide +kernel
theorem dX3_bitOf_37 : decode cX3_bitOf 37 = .ok (.getfield 19, 3) := by decide +kernel
theorem dX3_bitOf_40 : decode cX3_bitOf 40 = .ok (.iload_n 1, 1) := by decide +kernel
theorem dX3_bitOf_41 : decode cX3_bitOf 41 = .ok (.aload_n 0, 1) := by decide +kernel
theorem dX3_bitOf_42 : decode cX3_bitOf 42 = .ok (.getfield 22, 3) := by decide +kernel
theorem dX3_bitOf_45 : decode cX3_bitOf 45 = .ok (.iastore, 1) := by decide +kernel
theorem dX3_bitOf_46 : decode cX3_bitOf 46 = .ok (.aload_n 0, 1) := by decide +kernel
theorem dX3_bitOf_47 : decode cX3_bitOf 47 = .ok (.getfield 15, 3) := by decide +kernel
theorem dX3_bitOf_50 : decode cX3_bitOf 50 = .ok (.aload_n 0, 1) := by decide +kernel
theorem dX3_bitOf_51 : decode cX3_bitOf 51 = .ok (.getfield 22, 3) := by decide +kernel
theorem dX3_bitOf_54 : decode cX3_bitOf 54 = .ok (.iload_n 1, 1) := by decide +kernel
theorem dX3_bitOf_55 : decode cX3_bitOf 55 = .ok (.iastore, 1) := by decide +kernel
theorem dX3_bitOf_56 : decode cX3_bitOf 56 = .ok (.aload_n 0, 1) := by decide +kernel
theorem dX3_bitOf_57 : decode cX3_bitOf 57 = .ok (.dup, 1) := by decide +kernel
theorem dX3_bitOf_58 : decode cX3_bitOf 58 = .ok (.getfield 30, 3) := by decide +kernel
theorem dX3_bitOf_61 : decode cX3_bitOf 61 = .ok (.iload_n 2, 1) := by decide +kernel
theorem dX3_bitOf_62 : decode cX3_bitOf 62 = .ok (.ifCond .eq 12, 3) := by decide +kernel
theorem dX3_bitOf_65 : decode cX3_bitOf 65 = .ok (.lconst 1, 1) := by decide +kernel
theorem dX3_bitOf_66 : decode cX3_bitOf 66 = .ok (.aload_n 0, 1) := by decide +kernel
theorem dX3_bitOf_67 : decode cX3_bitOf 67 = .ok (.getfield 22, 3) := by decide +kernel
theorem dX3_bitOf_70 : decode cX3_bitOf 70 = .ok (.lshl, 1) := by decide +kernel
theorem dX3_bitOf_71 : decode cX3_bitOf 71 = .ok (.goto 4, 3) := by decide +kernel
theorem dX3_bitOf_74 : decode cX3_bitOf 74 = .ok (.lconst 0, 1) := by decide +kernel
theorem dX3_bitOf_75 : decode cX3_bitOf 75 = .ok (.lor, 1) := by decide +kernel
theorem dX3_bitOf_76 : decode cX3_bitOf 76 = .ok (.putfield 30, 3) := by decide +kernel
theorem dX3_bitOf_79 : decode cX3_bitOf 79 = .ok (.aload_n 0, 1) := by decide +kernel
theorem dX3_bitOf_80 : decode cX3_bitOf 80 = .ok (.dup, 1) := by decide +kernel
theorem dX3_bitOf_81 : decode cX3_bitOf 81 = .ok (.getfield 22, 3) := by decide +kernel
theorem dX3_bitOf_84 : decode cX3_bitOf 84 = .ok (.iconst 1, 1) := by decide +kernel
theorem dX3_bitOf_85 : decode cX3_bitOf 85 = .ok (.iadd, 1) := by decide +kernel
theorem dX3_bitOf_86 : decode cX3_bitOf 86 = .ok (.putfield 22, 3) := by decide +kernel
theorem dX3_bitOf_89 : decode cX3_bitOf 89 = .ok (.lconst 1, 1) := by decide +kernel
theorem dX3_bitOf_90 : decode cX3_bitOf 90 = .ok (.aload_n 0, 1) := by decide +kernel
theorem dX3_bitOf_91 : decode cX3_bitOf 91 = .ok (.getfield 19, 3) := by decide +kernel
theorem dX3_bitOf_94 : decode cX3_bitOf 94 = .ok (.iload_n 1, 1) := by decide +kernel
theorem dX3_bitOf_95 : decode cX3_bitOf 95 = .ok (.iaload, 1) := by decide +kernel
theorem dX3_bitOf_96 : decode cX3_bitOf 96 = .ok (.lshl, 1) := by decide +kernel
theorem dX3_bitOf_97 : decode cX3_bitOf 97 = .ok (.lreturn, 1) := by decide +kernel
set_option maxRecDepth 20000 in
theorem ggX3_makeSubsets_X3_makeEmpty : GoodIn wsX3_makeSubsets wsX3_makeEmpty := goodIn_r _ [10, 3, 2, 11, 5, 12, 32, 33, 34, 35, 36, 37] (by decide +kernel) (by decide +kernel)
set_option maxRecDepth 20000 in
theorem gX3_makeSubsets_X3_makeEmpty : GoodIn wsX3_makeSubsets (wsV RX3 33 RX3 yX3_makeEmpty wsX3_makeEmpty) := goodIn_app (goodIn_of _ (by decide +kernel)) ggX3_makeSubsets_X3_makeEmpty
set_option maxRecDepth 20000 in
theorem ggX3_makeSubsets_X3_bitOfSet : GoodIn wsX3_makeSubsets wsX3_bitOfSet := goodIn_r _ [16, 17, 18, 19, 20, 9, 21, 12, 3, 4, 11, 28, 29, 30, 31, 32, 33, 34, 35, 36, 37] (by decide +kernel) (by decide +kernel)
set_option maxRecDepth 20000 in
theorem gX3_makeSubsets_X3_bitOfSet : GoodIn wsX3_makeSubsets (wsV RX3 40 RX3 yX3_bitOfSet wsX3_bitOfSet) := goodIn_app (goodIn_of _ (by decide +kernel)) ggX3_makeSubsets_X3_bitOfSet
set_option maxRecDepth 20000 in
theorem ggX3_makeSubsets_X6_reachedOnce : GoodIn wsX3_makeSubsets wsX6_reachedOnce := goodIn_r _ [26, 27, 38, 39] (by decide +kernel) (by decide +kernel)
set_option maxRecDepth 20000 in
theorem gX3_makeSubsets_X6_reachedOnce : GoodIn wsX3_makeSubsets (wsV RX3 44 RX6 yX6_reachedOnce wsX6_reachedOnce) := goodIn_app (goodIn_of _ (by decide +kernel)) ggX3_makeSubsets_X6_reachedOnce
theorem dX3_makeSubsets_0 : decode cX3_makeSubsets 0 = .ok (.aload_n 0, 1) := by decide +kernel
theorem dX3_makeSubsets_1 : decode cX3_makeSubsets 1 = .ok (.invokevirtual 33, 3) := by decide +kernel
theorem dX3_makeSubsets_4 : decode cX3_makeSubsets 4 = .ok (.aload_n 1, 1) := by decide +kernel
theorem dX3_makeSubsets_5 : decode cX3_makeSubsets 5 = .ok (.getfield 36, 3) := by decide +kernel
theorem dX3_makeSubsets_8 : decode cX3_makeSubsets 8 = .ok (.ifCond .eq 16, 3) := by decide +kernel
theorem dX3_makeSubsets_11 : decode cX3_makeSubsets 11 = .ok (.aload_n 0, 1) := by decide +kernel
theorem dX3_makeSubsets_12 : decode cX3_makeSubsets 12 = .ok (.aload_n 0, 1) := by decide +kernel
theorem dX3_makeSubsets_13 : decode cX3_makeSubsets 13 = .ok (.aload_n 1, 1) := by decide +kernel
theorem dX3_makeSubsets_14 : decode cX3_makeSubsets 14 = .ok (.aload_n 1, 1) := by decide +kernel
theorem dX3_makeSubsets_15 : decode cX3_makeSubsets 15 = .ok (.getfield 36, 3) := by decide +kernel
theorem dX3_makeSubsets_18 : decode cX3_makeSubsets 18 = .ok (.invokevirtual 40, 3) := by decide +kernel
theorem dX3_makeSubsets_21 : decode cX3_makeSubsets 21 = .ok (.putfield 26, 3) := by decide +kernel
theorem dX3_makeSubsets_24 : decode cX3_makeSubsets 24 = .ok (.iconst 0, 1) := by decide +kernel
theorem dX3_makeSubsets_25 : decode cX3_makeSubsets 25 = .ok (.istore_n 3, 1) := by decide +kernel
theorem dX3_makeSubsets_26 : decode cX3_makeSubsets 26 = .ok (.iload_n 3, 1) := by decide +kernel
theorem dX3_makeSubsets_27 : decode cX3_makeSubsets 27 = .ok (.aload_n 0, 1) := by decide +kernel
theorem dX3_makeSubsets_28 : decode cX3_makeSubsets 28 = .ok (.getfield 22, 3) := by decide +kernel
theorem dX3_makeSubsets_31 : decode cX3_makeSubsets 31 = .ok (.if_icmp .ge 67, 3) := by decide +kernel
theorem dX3_makeSubsets_34 : decode cX3_makeSubsets 34 = .ok (.iload_n 3, 1) := by decide +kernel
theorem dX3_makeSubsets_35 : decode cX3_makeSubsets 35 = .ok (.bipush 64, 2) := by decide +kernel
theorem dX3_makeSubsets_37 : decode cX3_makeSubsets 37 = .ok (.if_icmp .ge 61, 3) := by decide +kernel
theorem dX3_makeSubsets_40 : decode cX3_makeSubsets 40 = .ok (.iconst 0, 1) := by decide +kernel
theorem dX3_makeSubsets_41 : decode cX3_makeSubsets 41 = .ok (.istore 4, 2) := by decide +kernel
theorem dX3_makeSubsets_43 : decode cX3_makeSubsets 43 = .ok (.iload 4, 2) := by decide +kernel
theorem dX3_makeSubsets_45 : decode cX3_makeSubsets 45 = .ok (.iconst 3, 1) := by decide +kernel
theorem dX3_makeSubsets_46 : decode cX3_makeSubsets 46 = .ok (.if_icmp .ge 46, 3) := by decide +kernel
theorem dX3_makeSubsets_49 : decode cX3_makeSubsets 49 = .ok (.aload_n 2, 1) := by decide +kernel
theorem dX3_makeSubsets_50 : decode cX3_makeSubsets 50 = .ok (.aload_n 0, 1) := by decide +kernel
theorem dX3_makeSubsets_51 : decode cX3_makeSubsets 51 = .ok (.getfield 15, 3) := by decide +kernel
theorem dX3_makeSubsets_54 : decode cX3_makeSubsets 54 = .ok (.iload_n 3, 1) := by decide +kernel
theorem dX3_makeSubsets_55 : decode cX3_makeSubsets 55 = .ok (.iaload, 1) := by decide +kernel
theorem dX3_makeSubsets_56 : decode cX3_makeSubsets 56 = .ok (.iload 4, 2) := by decide +kernel
theorem dX3_makeSubsets_58 : decode cX3_makeSubsets 58 = .ok (.invokevirtual 44, 3) := by decide +kernel
theorem dX3_makeSubsets_61 : decode cX3_makeSubsets 61 = .ok (.istore 5, 2) := by decide +kernel
theorem dX3_makeSubsets_63 : decode cX3_makeSubsets 63 = .ok (.iload 5, 2) := by decide +kernel
theorem dX3_makeSubsets_65 : decode cX3_makeSubsets 65 = .ok (.ifCond .eq 21, 3) := by decide +kernel
theorem dX3_makeSubsets_68 : decode cX3_makeSubsets 68 = .ok (.aload_n 0, 1) := by decide +kernel
theorem dX3_makeSubsets_69 : decode cX3_makeSubsets 69 = .ok (.getfield 9, 3) := by decide +kernel
theorem dX3_makeSubsets_72 : decode cX3_makeSubsets 72 = .ok (.iload_n 3, 1) := by decide +kernel
theorem dX3_makeSubsets_73 : decode cX3_makeSubsets 73 = .ok (.iconst 3, 1) := by decide +kernel
theorem dX3_makeSubsets_74 : decode cX3_makeSubsets 74 = .ok (.imul, 1) := by decide +kernel
theorem dX3_makeSubsets_75 : decode cX3_makeSubsets 75 = .ok (.iload 4, 2) := by decide +kernel
theorem dX3_makeSubsets_77 : decode cX3_makeSubsets 77 = .ok (.iadd, 1) := by decide +kernel
theorem dX3_makeSubsets_78 : decode cX3_makeSubsets 78 = .ok (.aload_n 0, 1) := by decide +kernel
theorem dX3_makeSubsets_79 : decode cX3_makeSubsets 79 = .ok (.aload_n 1, 1) := by decide +kernel
theorem dX3_makeSubsets_80 : decode cX3_makeSubsets 80 = .ok (.iload 5, 2) := by decide +kernel
theorem dX3_makeSubsets_82 : decode cX3_makeSubsets 82 = .ok (.invokevirtual 40, 3) := by decide +kernel
theorem dX3_makeSubsets_85 : decode cX3_makeSubsets 85 = .ok (.lastore, 1) := by decide +kernel
theorem dX3_makeSubsets_86 : decode cX3_makeSubsets 86 = .ok (.iinc 4 1, 3) := by decide +kernel
theorem dX3_makeSubsets_89 : decode cX3_makeSubsets 89 = .ok (.goto (-46), 3) := by decide +kernel
theorem dX3_makeSubsets_92 : decode cX3_makeSubsets 92 = .ok (.iinc 3 1, 3) := by decide +kernel
theorem dX3_makeSubsets_95 : decode cX3_makeSubsets 95 = .ok (.goto (-69), 3) := by decide +kernel
theorem dX3_makeSubsets_98 : decode cX3_makeSubsets 98 = .ok (.iconst 1, 1) := by decide +kernel
theorem dX3_makeSubsets_99 : decode cX3_makeSubsets 99 = .ok (.ireturn, 1) := by decide +kernel
set_option maxRecDepth 20000 in
theorem ggX3_bitOfSet_X3_bitOf : GoodIn wsX3_bitOfSet wsX3_bitOf := goodIn_r _ [6, 7, 8, 9, 10, 15, 16, 17, 18, 19, 20] (by decide +kernel) (by decide +kernel)
set_option maxRecDepth 20000 in
theorem gX3_bitOfSet_X3_bitOf : GoodIn wsX3_bitOfSet (wsV RX3 52 RX3 yX3_bitOf wsX3_bitOf) := goodIn_app (goodIn_of _ (by decide +kernel)) ggX3_bitOfSet_X3_bitOf
theorem dX3_bitOfSet_0 : decode cX3_bitOfSet 0 = .ok (.aload_n 0, 1) := by decide +kernel
theorem dX3_bitOfSet_1 : decode cX3_bitOfSet 1 = .ok (.iload_n 2, 1) := by decide +kernel
theorem dX3_bitOfSet_2 : decode cX3_bitOfSet 2 = .ok (.iload_n 2, 1) := by decide +kernel
theorem dX3_bitOfSet_3 : decode cX3_bitOfSet 3 = .ok (.aload_n 1, 1) := by decide +kernel
theorem dX3_bitOfSet_4 : decode cX3_bitOfSet 4 = .ok (.getfield 50, 3) := by decide +kernel
theorem dX3_bitOfSet_7 : decode cX3_bitOfSet 7 = .ok (.iand, 1) := by decide +kernel
theorem dX3_bitOfSet_8 : decode cX3_bitOfSet 8 = .ok (.ifCond .eq 7, 3) := by decide +kernel
theorem dX3_bitOfSet_11 : decode cX3_bitOfSet 11 = .ok (.iconst 1, 1) := by decide +kernel
theorem dX3_bitOfSet_12 : decode cX3_bitOfSet 12 = .ok (.goto 4, 3) := by decide +kernel
theorem dX3_bitOfSet_15 : decode cX3_bitOfSet 15 = .ok (.iconst 0, 1) := by decide +kernel
theorem dX3_bitOfSet_16 : decode cX3_bitOfSet 16 = .ok (.invokevirtual 52, 3) := by decide +kernel
theorem dX3_bitOfSet_19 : decode cX3_bitOfSet 19 = .ok (.lreturn, 1) := by decide +kernel
set_option maxRecDepth 20000 in
theorem ggX3_makeLeastPaths_X3_makeEmpty : GoodIn wsX3_makeLeastPaths wsX3_makeEmpty := goodIn_r _ [9, 4, 3, 10, 11, 12, 50, 51, 52, 53, 54, 55] (by decide +kernel) (by decide +kernel)
set_option maxRecDepth 20000 in
theorem gX3_makeLeastPaths_X3_makeEmpty : GoodIn wsX3_makeLeastPaths (wsV RX3 33 RX3 yX3_makeEmpty wsX3_makeEmpty) := goodIn_app (goodIn_of _ (by decide +kernel)) ggX3_makeLeastPaths_X3_makeEmpty
set_option maxRecDepth 20000 in
theorem ggX3_makeLeastPaths_X10_contains : GoodIn wsX3_makeLeastPaths wsX10_contains := goodIn_r _ [15] (by decide +kernel) (by decide +kernel)
set_option maxRecDepth 20000 in
theorem gX3_makeLeastPaths_X10_contains_n59 : GoodIn wsX3_makeLeastPaths (wsX10_contains) := ggX3_makeLeastPaths_X10_contains
set_option maxRecDepth 20000 in
theorem ggX3_makeLeastPaths_X3_below : GoodIn wsX3_makeLeastPaths wsX3_below := goodIn_r _ [18] (by decide +kernel) (by decide +kernel)
set_option maxRecDepth 20000 in
theorem gX3_makeLeastPaths_X3_below : GoodIn wsX3_makeLeastPaths (va_wsS RX3 63 yX3_below wsX3_below) := goodIn_app (goodIn_of _ (by decide +kernel)) ggX3_makeLeastPaths_X3_below
set_option maxRecDepth 20000 in
theorem ggX3_makeLeastPaths_X3_bitOfPair : GoodIn wsX3_makeLeastPaths wsX3_bitOfPair := goodIn_r _ [22, 23, 13, 14, 15, 24, 25, 26, 8, 27, 12, 4, 28, 10, 46, 47, 48, 49, 50, 51, 52, 53, 54, 55] (by decide +kernel) (by decide +kernel)
set_option maxRecDepth 20000 in
theorem gX3_makeLeastPaths_X3_bitOfPair : GoodIn wsX3_makeLeastPaths (wsV RX3 66 RX3 yX3_bitOfPair wsX3_bitOfPair) := goodIn_app (goodIn_of _ (by decide +kernel)) ggX3_makeLeastPaths_X3_bitOfPair
set_option maxRecDepth 20000 in
theorem ggX3_makeLeastPaths_X3_addPairsAfter : GoodIn wsX3_makeLeastPaths wsX3_addPairsAfter := goodIn_r _ [32, 28, 11, 33, 34, 35, 36, 37, 38, 39, 40, 41, 42, 43, 44, 45, 13, 14, 15, 16, 17, 8, 18, 19, 20, 21, 22, 23, 24, 25, 26, 27, 12, 4, 10, 50, 51, 52, 53, 54, 55, 46, 47, 48, 49, 56, 57] (by decide +kernel) (by decide +kernel)
set_option maxRecDepth 20000 in
theorem gX3_makeLeastPaths_X3_addPairsAfter : GoodIn wsX3_makeLeastPaths (wsV RX3 70 RX3 yX3_addPairsAfter wsX3_addPairsAfter) := goodIn_app (goodIn_of _ (by decide +kernel)) ggX3_makeLeastPaths_X3_addPairsAfter
theorem dX3_makeLeastPaths_0 : decode cX3_makeLeastPaths 0 = .ok (.aload_n 0, 1) := by decide +kernel
theorem dX3_makeLeastPaths_1 : decode cX3_makeLeastPaths 1 = .ok (.invokevirtual 33, 3) := by decide +kernel
theorem dX3_makeLeastPaths_4 : decode cX3_makeLeastPaths 4 = .ok (.iconst 0, 1) := by decide +kernel
theorem dX3_makeLeastPaths_5 : decode cX3_makeLeastPaths 5 = .ok (.istore_n 3, 1) := by decide +kernel
theorem dX3_makeLeastPaths_6 : decode cX3_makeLeastPaths 6 = .ok (.iload_n 3, 1) := by decide +kernel
theorem dX3_makeLeastPaths_7 : decode cX3_makeLeastPaths 7 = .ok (.aload_n 1, 1) := by decide +kernel
theorem dX3_makeLeastPaths_8 : decode cX3_makeLeastPaths 8 = .ok (.getfield 56, 3) := by decide +kernel
theorem dX3_makeLeastPaths_11 : decode cX3_makeLeastPaths 11 = .ok (.if_icmp .ge 43, 3) := by decide +kernel
theorem dX3_makeLeastPaths_14 : decode cX3_makeLeastPaths 14 = .ok (.aload_n 1, 1) := by decide +kernel
theorem dX3_makeLeastPaths_15 : decode cX3_makeLeastPaths 15 = .ok (.getfield 36, 3) := by decide +kernel
theorem dX3_makeLeastPaths_18 : decode cX3_makeLeastPaths 18 = .ok (.iload_n 3, 1) := by decide +kernel
theorem dX3_makeLeastPaths_19 : decode cX3_makeLeastPaths 19 = .ok (.invokestatic 59, 3) := by decide +kernel
theorem dX3_makeLeastPaths_22 : decode cX3_makeLeastPaths 22 = .ok (.ifCond .eq 26, 3) := by decide +kernel
theorem dX3_makeLeastPaths_25 : decode cX3_makeLeastPaths 25 = .ok (.aload_n 0, 1) := by decide +kernel
theorem dX3_makeLeastPaths_26 : decode cX3_makeLeastPaths 26 = .ok (.dup, 1) := by decide +kernel
theorem dX3_makeLeastPaths_27 : decode cX3_makeLeastPaths 27 = .ok (.getfield 26, 3) := by decide +kernel
theorem dX3_makeLeastPaths_30 : decode cX3_makeLeastPaths 30 = .ok (.aload_n 0, 1) := by decide +kernel
theorem dX3_makeLeastPaths_31 : decode cX3_makeLeastPaths 31 = .ok (.aload_n 1, 1) := by decide +kernel
theorem dX3_makeLeastPaths_32 : decode cX3_makeLeastPaths 32 = .ok (.iload_n 3, 1) := by decide +kernel
theorem dX3_makeLeastPaths_33 : decode cX3_makeLeastPaths 33 = .ok (.aload_n 1, 1) := by decide +kernel
theorem dX3_makeLeastPaths_34 : decode cX3_makeLeastPaths 34 = .ok (.getfield 36, 3) := by decide +kernel
theorem dX3_makeLeastPaths_37 : decode cX3_makeLeastPaths 37 = .ok (.iload_n 3, 1) := by decide +kernel
theorem dX3_makeLeastPaths_38 : decode cX3_makeLeastPaths 38 = .ok (.invokestatic 63, 3) := by decide +kernel
theorem dX3_makeLeastPaths_41 : decode cX3_makeLeastPaths 41 = .ok (.invokevirtual 66, 3) := by decide +kernel
theorem dX3_makeLeastPaths_44 : decode cX3_makeLeastPaths 44 = .ok (.lor, 1) := by decide +kernel
theorem dX3_makeLeastPaths_45 : decode cX3_makeLeastPaths 45 = .ok (.putfield 26, 3) := by decide +kernel
theorem dX3_makeLeastPaths_48 : decode cX3_makeLeastPaths 48 = .ok (.iinc 3 1, 3) := by decide +kernel
theorem dX3_makeLeastPaths_51 : decode cX3_makeLeastPaths 51 = .ok (.goto (-45), 3) := by decide +kernel
theorem dX3_makeLeastPaths_54 : decode cX3_makeLeastPaths 54 = .ok (.iconst 0, 1) := by decide +kernel
theorem dX3_makeLeastPaths_55 : decode cX3_makeLeastPaths 55 = .ok (.istore_n 3, 1) := by decide +kernel
theorem dX3_makeLeastPaths_56 : decode cX3_makeLeastPaths 56 = .ok (.iload_n 3, 1) := by decide +kernel
theorem dX3_makeLeastPaths_57 : decode cX3_makeLeastPaths 57 = .ok (.aload_n 0, 1) := by decide +kernel
theorem dX3_makeLeastPaths_58 : decode cX3_makeLeastPaths 58 = .ok (.getfield 22, 3) := by decide +kernel
theorem dX3_makeLeastPaths_61 : decode cX3_makeLeastPaths 61 = .ok (.if_icmp .ge 44, 3) := by decide +kernel
theorem dX3_makeLeastPaths_64 : decode cX3_makeLeastPaths 64 = .ok (.iload_n 3, 1) := by decide +kernel
theorem dX3_makeLeastPaths_65 : decode cX3_makeLeastPaths 65 = .ok (.bipush 64, 2) := by decide +kernel
theorem dX3_makeLeastPaths_67 : decode cX3_makeLeastPaths 67 = .ok (.if_icmp .ge 38, 3) := by decide +kernel
theorem dX3_makeLeastPaths_70 : decode cX3_makeLeastPaths 70 = .ok (.iconst 0, 1) := by decide +kernel
theorem dX3_makeLeastPaths_71 : decode cX3_makeLeastPaths 71 = .ok (.istore 4, 2) := by decide +kernel
theorem dX3_makeLeastPaths_73 : decode cX3_makeLeastPaths 73 = .ok (.iload 4, 2) := by decide +kernel
theorem dX3_makeLeastPaths_75 : decode cX3_makeLeastPaths 75 = .ok (.iconst 3, 1) := by decide +kernel
theorem dX3_makeLeastPaths_76 : decode cX3_makeLeastPaths 76 = .ok (.if_icmp .ge 23, 3) := by decide +kernel
theorem dX3_makeLeastPaths_79 : decode cX3_makeLeastPaths 79 = .ok (.aload_n 0, 1) := by decide +kernel
theorem dX3_makeLeastPaths_80 : decode cX3_makeLeastPaths 80 = .ok (.aload_n 1, 1) := by decide +kernel
theorem dX3_makeLeastPaths_81 : decode cX3_makeLeastPaths 81 = .ok (.aload_n 2, 1) := by decide +kernel
theorem dX3_makeLeastPaths_82 : decode cX3_makeLeastPaths 82 = .ok (.iload_n 3, 1) := by decide +kernel
theorem dX3_makeLeastPaths_83 : decode cX3_makeLeastPaths 83 = .ok (.iload 4, 2) := by decide +kernel
theorem dX3_makeLeastPaths_85 : decode cX3_makeLeastPaths 85 = .ok (.invokevirtual 70, 3) := by decide +kernel
theorem dX3_makeLeastPaths_88 : decode cX3_makeLeastPaths 88 = .ok (.ifCond .ne 5, 3) := by decide +kernel
theorem dX3_makeLeastPaths_91 : decode cX3_makeLeastPaths 91 = .ok (.iconst 0, 1) := by decide +kernel
theorem dX3_makeLeastPaths_92 : decode cX3_makeLeastPaths 92 = .ok (.ireturn, 1) := by decide +kernel
theorem dX3_makeLeastPaths_93 : decode cX3_makeLeastPaths 93 = .ok (.iinc 4 1, 3) := by decide +kernel
theorem dX3_makeLeastPaths_96 : decode cX3_makeLeastPaths 96 = .ok (.goto (-23), 3) := by decide +kernel
theorem dX3_makeLeastPaths_99 : decode cX3_makeLeastPaths 99 = .ok (.iinc 3 1, 3) := by decide +kernel
theorem dX3_makeLeastPaths_102 : decode cX3_makeLeastPaths 102 = .ok (.goto (-46), 3) := by decide +kernel
theorem dX3_makeLeastPaths_105 : decode cX3_makeLeastPaths 105 = .ok (.iconst 1, 1) := by decide +kernel
theorem dX3_makeLeastPaths_106 : decode cX3_makeLeastPaths 106 = .ok (.ireturn, 1) := by decide +kernel
set_option maxRecDepth 20000 in
theorem ggX3_addPairsAfter_X0_targetsOf : GoodIn wsX3_addPairsAfter wsX0_targetsOf := goodIn_r _ [7, 8, 9, 41, 42, 43, 44] (by decide +kernel) (by decide +kernel)
set_option maxRecDepth 20000 in
theorem gX3_addPairsAfter_X0_targetsOf : GoodIn wsX3_addPairsAfter (wsV RX3 74 RX0 yX0_targetsOf wsX0_targetsOf) := goodIn_app (goodIn_of _ (by decide +kernel)) ggX3_addPairsAfter_X0_targetsOf
set_option maxRecDepth 20000 in
theorem ggX3_addPairsAfter_X6_reachedOnce : GoodIn wsX3_addPairsAfter wsX6_reachedOnce := goodIn_r _ [14, 15, 45, 46] (by decide +kernel) (by decide +kernel)
set_option maxRecDepth 20000 in
theorem gX3_addPairsAfter_X6_reachedOnce : GoodIn wsX3_addPairsAfter (wsV RX3 44 RX6 yX6_reachedOnce wsX6_reachedOnce) := goodIn_app (goodIn_of _ (by decide +kernel)) ggX3_addPairsAfter_X6_reachedOnce
set_option maxRecDepth 20000 in
theorem ggX3_addPairsAfter_X10_contains : GoodIn wsX3_addPairsAfter wsX10_contains := goodIn_r _ [18] (by decide +kernel) (by decide +kernel)
set_option maxRecDepth 20000 in
theorem gX3_addPairsAfter_X10_contains_n59 : GoodIn wsX3_addPairsAfter (wsX10_contains) := ggX3_addPairsAfter_X10_contains
set_option maxRecDepth 20000 in
theorem ggX3_addPairsAfter_X3_below : GoodIn wsX3_addPairsAfter wsX3_below := goodIn_r _ [22] (by decide +kernel) (by decide +kernel)
set_option maxRecDepth 20000 in
theorem gX3_addPairsAfter_X3_below : GoodIn wsX3_addPairsAfter (va_wsS RX3 63 yX3_below wsX3_below) := goodIn_app (goodIn_of _ (by decide +kernel)) ggX3_addPairsAfter_X3_below
set_option maxRecDepth 20000 in
theorem ggX3_addPairsAfter_X3_bitOfPair : GoodIn wsX3_addPairsAfter wsX3_bitOfPair := goodIn_r _ [26, 27, 16, 17, 18, 28, 29, 30, 21, 31, 32, 33, 1, 34, 41, 42, 43, 44, 35, 36, 37, 38, 39, 40] (by decide +kernel) (by decide +kernel)
set_option maxRecDepth 20000 in
theorem gX3_addPairsAfter_X3_bitOfPair : GoodIn wsX3_addPairsAfter (wsV RX3 66 RX3 yX3_bitOfPair wsX3_bitOfPair) := goodIn_app (goodIn_of _ (by decide +kernel)) ggX3_addPairsAfter_X3_bitOfPair
theorem dX3_addPairsAfter_0 : decode cX3_addPairsAfter 0 = .ok (.iload_n 3, 1) := by decide +kernel
theorem dX3_addPairsAfter_1 : decode cX3_addPairsAfter 1 = .ok (.ifCond .lt 18, 3) := by decide +kernel
theorem dX3_addPairsAfter_4 : decode cX3_addPairsAfter 4 = .ok (.iload_n 3, 1) := by decide +kernel
theorem dX3_addPairsAfter_5 : decode cX3_addPairsAfter 5 = .ok (.bipush 64, 2) := by decide +kernel
theorem dX3_addPairsAfter_7 : decode cX3_addPairsAfter 7 = .ok (.if_icmp .ge 12, 3) := by decide +kernel
theorem dX3_addPairsAfter_10 : decode cX3_addPairsAfter 10 = .ok (.aload_n 0, 1) := by decide +kernel
theorem dX3_addPairsAfter_11 : decode cX3_addPairsAfter 11 = .ok (.getfield 15, 3) := by decide +kernel
theorem dX3_addPairsAfter_14 : decode cX3_addPairsAfter 14 = .ok (.iload_n 3, 1) := by decide +kernel
theorem dX3_addPairsAfter_15 : decode cX3_addPairsAfter 15 = .ok (.iaload, 1) := by decide +kernel
theorem dX3_addPairsAfter_16 : decode cX3_addPairsAfter 16 = .ok (.goto 4, 3) := by decide +kernel
theorem dX3_addPairsAfter_19 : decode cX3_addPairsAfter 19 = .ok (.iconst 0, 1) := by decide +kernel
theorem dX3_addPairsAfter_20 : decode cX3_addPairsAfter 20 = .ok (.istore 5, 2) := by decide +kernel
theorem dX3_addPairsAfter_22 : decode cX3_addPairsAfter 22 = .ok (.aload_n 1, 1) := by decide +kernel
theorem dX3_addPairsAfter_23 : decode cX3_addPairsAfter 23 = .ok (.iload 5, 2) := by decide +kernel
theorem dX3_addPairsAfter_25 : decode cX3_addPairsAfter 25 = .ok (.bipush 64, 2) := by decide +kernel
theorem dX3_addPairsAfter_27 : decode cX3_addPairsAfter 27 = .ok (.idiv, 1) := by decide +kernel
theorem dX3_addPairsAfter_28 : decode cX3_addPairsAfter 28 = .ok (.iload 4, 2) := by decide +kernel
theorem dX3_addPairsAfter_30 : decode cX3_addPairsAfter 30 = .ok (.invokevirtual 74, 3) := by decide +kernel
theorem dX3_addPairsAfter_33 : decode cX3_addPairsAfter 33 = .ok (.istore 6, 2) := by decide +kernel
theorem dX3_addPairsAfter_35 : decode cX3_addPairsAfter 35 = .ok (.aload_n 2, 1) := by decide +kernel
theorem dX3_addPairsAfter_36 : decode cX3_addPairsAfter 36 = .ok (.iload 5, 2) := by decide +kernel
theorem dX3_addPairsAfter_38 : decode cX3_addPairsAfter 38 = .ok (.bipush 64, 2) := by decide +kernel
theorem dX3_addPairsAfter_40 : decode cX3_addPairsAfter 40 = .ok (.irem, 1) := by decide +kernel
theorem dX3_addPairsAfter_41 : decode cX3_addPairsAfter 41 = .ok (.iload 4, 2) := by decide +kernel
theorem dX3_addPairsAfter_43 : decode cX3_addPairsAfter 43 = .ok (.invokevirtual 44, 3) := by decide +kernel
theorem dX3_addPairsAfter_46 : decode cX3_addPairsAfter 46 = .ok (.istore 7, 2) := by decide +kernel
theorem dX3_addPairsAfter_48 : decode cX3_addPairsAfter 48 = .ok (.lconst 0, 1) := by decide +kernel
theorem dX3_addPairsAfter_49 : decode cX3_addPairsAfter 49 = .ok (.lstore 8, 2) := by decide +kernel
theorem dX3_addPairsAfter_51 : decode cX3_addPairsAfter 51 = .ok (.iconst 0, 1) := by decide +kernel
theorem dX3_addPairsAfter_52 : decode cX3_addPairsAfter 52 = .ok (.istore 10, 2) := by decide +kernel
theorem dX3_addPairsAfter_54 : decode cX3_addPairsAfter 54 = .ok (.iload 10, 2) := by decide +kernel
theorem dX3_addPairsAfter_56 : decode cX3_addPairsAfter 56 = .ok (.bipush 6, 2) := by decide +kernel
theorem dX3_addPairsAfter_58 : decode cX3_addPairsAfter 58 = .ok (.if_icmp .ge 54, 3) := by decide +kernel
theorem dX3_addPairsAfter_61 : decode cX3_addPairsAfter 61 = .ok (.iload 6, 2) := by decide +kernel
theorem dX3_addPairsAfter_63 : decode cX3_addPairsAfter 63 = .ok (.iload 10, 2) := by decide +kernel
theorem dX3_addPairsAfter_65 : decode cX3_addPairsAfter 65 = .ok (.invokestatic 59, 3) := by decide +kernel
theorem dX3_addPairsAfter_68 : decode cX3_addPairsAfter 68 = .ok (.ifCond .eq 38, 3) := by decide +kernel
theorem dX3_addPairsAfter_71 : decode cX3_addPairsAfter 71 = .ok (.aload_n 0, 1) := by decide +kernel
theorem dX3_addPairsAfter_72 : decode cX3_addPairsAfter 72 = .ok (.aload_n 1, 1) := by decide +kernel
theorem dX3_addPairsAfter_73 : decode cX3_addPairsAfter 73 = .ok (.iload 10, 2) := by decide +kernel
theorem dX3_addPairsAfter_75 : decode cX3_addPairsAfter 75 = .ok (.iload 7, 2) := by decide +kernel
theorem dX3_addPairsAfter_77 : decode cX3_addPairsAfter 77 = .ok (.iload 6, 2) := by decide +kernel
theorem dX3_addPairsAfter_79 : decode cX3_addPairsAfter 79 = .ok (.iload 10, 2) := by decide +kernel
theorem dX3_addPairsAfter_81 : decode cX3_addPairsAfter 81 = .ok (.invokestatic 63, 3) := by decide +kernel
theorem dX3_addPairsAfter_84 : decode cX3_addPairsAfter 84 = .ok (.ior, 1) := by decide +kernel
theorem dX3_addPairsAfter_85 : decode cX3_addPairsAfter 85 = .ok (.invokevirtual 66, 3) := by decide +kernel
theorem dX3_addPairsAfter_88 : decode cX3_addPairsAfter 88 = .ok (.lstore 11, 2) := by decide +kernel
theorem dX3_addPairsAfter_90 : decode cX3_addPairsAfter 90 = .ok (.lload 11, 2) := by decide +kernel
theorem dX3_addPairsAfter_92 : decode cX3_addPairsAfter 92 = .ok (.lconst 0, 1) := by decide +kernel
theorem dX3_addPairsAfter_93 : decode cX3_addPairsAfter 93 = .ok (.lcmp, 1) := by decide +kernel
theorem dX3_addPairsAfter_94 : decode cX3_addPairsAfter 94 = .ok (.ifCond .ne 5, 3) := by decide +kernel
theorem dX3_addPairsAfter_97 : decode cX3_addPairsAfter 97 = .ok (.iconst 0, 1) := by decide +kernel
theorem dX3_addPairsAfter_98 : decode cX3_addPairsAfter 98 = .ok (.ireturn, 1) := by decide +kernel
theorem dX3_addPairsAfter_99 : decode cX3_addPairsAfter 99 = .ok (.lload 8, 2) := by decide +kernel
theorem dX3_addPairsAfter_101 : decode cX3_addPairsAfter 101 = .ok (.lload 11, 2) := by decide +kernel
theorem dX3_addPairsAfter_103 : decode cX3_addPairsAfter 103 = .ok (.lor, 1) := by decide +kernel
theorem dX3_addPairsAfter_104 : decode cX3_addPairsAfter 104 = .ok (.lstore 8, 2) := by decide +kernel
theorem dX3_addPairsAfter_106 : decode cX3_addPairsAfter 106 = .ok (.iinc 10 1, 3) := by decide +kernel
theorem dX3_addPairsAfter_109 : decode cX3_addPairsAfter 109 = .ok (.goto (-55), 3) := by decide +kernel
theorem dX3_addPairsAfter_112 : decode cX3_addPairsAfter 112 = .ok (.iload_n 3, 1) := by decide +kernel
theorem dX3_addPairsAfter_113 : decode cX3_addPairsAfter 113 = .ok (.iconst 3, 1) := by decide +kernel
theorem dX3_addPairsAfter_114 : decode cX3_addPairsAfter 114 = .ok (.imul, 1) := by decide +kernel
theorem dX3_addPairsAfter_115 : decode cX3_addPairsAfter 115 = .ok (.iload 4, 2) := by decide +kernel
theorem dX3_addPairsAfter_117 : decode cX3_addPairsAfter 117 = .ok (.iadd, 1) := by decide +kernel
theorem dX3_addPairsAfter_118 : decode cX3_addPairsAfter 118 = .ok (.istore 10, 2) := by decide +kernel
theorem dX3_addPairsAfter_120 : decode cX3_addPairsAfter 120 = .ok (.iload 10, 2) := by decide +kernel
theorem dX3_addPairsAfter_122 : decode cX3_addPairsAfter 122 = .ok (.ifCond .lt 22, 3) := by decide +kernel
theorem dX3_addPairsAfter_125 : decode cX3_addPairsAfter 125 = .ok (.iload 10, 2) := by decide +kernel
theorem dX3_addPairsAfter_127 : decode cX3_addPairsAfter 127 = .ok (.aload_n 0, 1) := by decide +kernel
theorem dX3_addPairsAfter_128 : decode cX3_addPairsAfter 128 = .ok (.getfield 9, 3) := by decide +kernel
theorem dX3_addPairsAfter_131 : decode cX3_addPairsAfter 131 = .ok (.arraylength, 1) := by decide +kernel
theorem dX3_addPairsAfter_132 : decode cX3_addPairsAfter 132 = .ok (.if_icmp .ge 12, 3) := by decide +kernel
theorem dX3_addPairsAfter_135 : decode cX3_addPairsAfter 135 = .ok (.aload_n 0, 1) := by decide +kernel
theorem dX3_addPairsAfter_136 : decode cX3_addPairsAfter 136 = .ok (.getfield 9, 3) := by decide +kernel
theorem dX3_addPairsAfter_139 : decode cX3_addPairsAfter 139 = .ok (.iload 10, 2) := by decide +kernel
theorem dX3_addPairsAfter_141 : decode cX3_addPairsAfter 141 = .ok (.lload 8, 2) := by decide +kernel
theorem dX3_addPairsAfter_143 : decode cX3_addPairsAfter 143 = .ok (.lastore, 1) := by decide +kernel
theorem dX3_addPairsAfter_144 : decode cX3_addPairsAfter 144 = .ok (.iconst 1, 1) := by decide +kernel
theorem dX3_addPairsAfter_145 : decode cX3_addPairsAfter 145 = .ok (.ireturn, 1) := by decide +kernel
set_option maxRecDepth 20000 in
theorem ggX3_bitOfPair_X10_contains : GoodIn wsX3_bitOfPair wsX10_contains := goodIn_r _ [4] (by decide +kernel) (by decide +kernel)
set_option maxRecDepth 20000 in
theorem gX3_bitOfPair_X10_contains_n59 : GoodIn wsX3_bitOfPair (wsX10_contains) := ggX3_bitOfPair_X10_contains
set_option maxRecDepth 20000 in
theorem ggX3_bitOfPair_X3_bitOf : GoodIn wsX3_bitOfPair wsX3_bitOf := goodIn_r _ [9, 10, 11, 12, 13, 18, 19, 20, 21, 22, 23] (by decide +kernel) (by decide +kernel)
set_option maxRecDepth 20000 in
theorem gX3_bitOfPair_X3_bitOf : GoodIn wsX3_bitOfPair (wsV RX3 52 RX3 yX3_bitOf wsX3_bitOf) := goodIn_app (goodIn_of _ (by decide +kernel)) ggX3_bitOfPair_X3_bitOf
theorem dX3_bitOfPair_0 : decode cX3_bitOfPair 0 = .ok (.aload_n 1, 1) := by decide +kernel
theorem dX3_bitOfPair_1 : decode cX3_bitOfPair 1 = .ok (.getfield 50, 3) := by decide +kernel
theorem dX3_bitOfPair_4 : decode cX3_bitOfPair 4 = .ok (.iload_n 2, 1) := by decide +kernel
theorem dX3_bitOfPair_5 : decode cX3_bitOfPair 5 = .ok (.invokestatic 59, 3) := by decide +kernel
theorem dX3_bitOfPair_8 : decode cX3_bitOfPair 8 = .ok (.ifCond .eq 16, 3) := by decide +kernel
theorem dX3_bitOfPair_11 : decode cX3_bitOfPair 11 = .ok (.iload_n 3, 1) := by decide +kernel
theorem dX3_bitOfPair_12 : decode cX3_bitOfPair 12 = .ok (.aload_n 1, 1) := by decide +kernel
theorem dX3_bitOfPair_13 : decode cX3_bitOfPair 13 = .ok (.getfield 50, 3) := by decide +kernel
theorem dX3_bitOfPair_16 : decode cX3_bitOfPair 16 = .ok (.iand, 1) := by decide +kernel
theorem dX3_bitOfPair_17 : decode cX3_bitOfPair 17 = .ok (.ifCond .ne 7, 3) := by decide +kernel
theorem dX3_bitOfPair_20 : decode cX3_bitOfPair 20 = .ok (.iconst 1, 1) := by decide +kernel
theorem dX3_bitOfPair_21 : decode cX3_bitOfPair 21 = .ok (.goto 4, 3) := by decide +kernel
theorem dX3_bitOfPair_24 : decode cX3_bitOfPair 24 = .ok (.iconst 0, 1) := by decide +kernel
theorem dX3_bitOfPair_25 : decode cX3_bitOfPair 25 = .ok (.istore 4, 2) := by decide +kernel
theorem dX3_bitOfPair_27 : decode cX3_bitOfPair 27 = .ok (.aload_n 0, 1) := by decide +kernel
theorem dX3_bitOfPair_28 : decode cX3_bitOfPair 28 = .ok (.iload_n 2, 1) := by decide +kernel
theorem dX3_bitOfPair_29 : decode cX3_bitOfPair 29 = .ok (.bipush 64, 2) := by decide +kernel
theorem dX3_bitOfPair_31 : decode cX3_bitOfPair 31 = .ok (.imul, 1) := by decide +kernel
theorem dX3_bitOfPair_32 : decode cX3_bitOfPair 32 = .ok (.iload_n 3, 1) := by decide +kernel
theorem dX3_bitOfPair_33 : decode cX3_bitOfPair 33 = .ok (.iadd, 1) := by decide +kernel
theorem dX3_bitOfPair_34 : decode cX3_bitOfPair 34 = .ok (.iload 4, 2) := by decide +kernel
theorem dX3_bitOfPair_36 : decode cX3_bitOfPair 36 = .ok (.invokevirtual 52, 3) := by decide +kernel
theorem dX3_bitOfPair_39 : decode cX3_bitOfPair 39 = .ok (.lreturn, 1) := by decide +kernel
theorem dX3_below_0 : decode cX3_below 0 = .ok (.iload_n 0, 1) := by decide +kernel
theorem dX3_below_1 : decode cX3_below 1 = .ok (.iconst 1, 1) := by decide +kernel
theorem dX3_below_2 : decode cX3_below 2 = .ok (.iload_n 1, 1) := by decide +kernel
theorem dX3_below_3 : decode cX3_below 3 = .ok (.ishl, 1) := by decide +kernel
theorem dX3_below_4 : decode cX3_below 4 = .ok (.iconst 1, 1) := by decide +kernel
theorem dX3_below_5 : decode cX3_below 5 = .ok (.isub, 1) := by decide +kernel
theorem dX3_below_6 : decode cX3_below 6 = .ok (.iand, 1) := by decide +kernel
theorem dX3_below_7 : decode cX3_below 7 = .ok (.ireturn, 1) := by decide +kernel
set_option maxRecDepth 20000 in
theorem ggX3_targetsOf_X10_isLetter : GoodIn wsX3_targetsOf wsX10_isLetter := goodIn_r _ [5] (by decide +kernel) (by decide +kernel)
set_option maxRecDepth 20000 in
theorem gX3_targetsOf_X10_isLetter_n77 : GoodIn wsX3_targetsOf (wsX10_isLetter) := ggX3_targetsOf_X10_isLetter
theorem dX3_targetsOf_0 : decode cX3_targetsOf 0 = .ok (.iload_n 1, 1) := by decide +kernel
theorem dX3_targetsOf_1 : decode cX3_targetsOf 1 = .ok (.ifCond .lt 28, 3) := by decide +kernel
theorem dX3_targetsOf_4 : decode cX3_targetsOf 4 = .ok (.iload_n 1, 1) := by decide +kernel
theorem dX3_targetsOf_5 : decode cX3_targetsOf 5 = .ok (.aload_n 0, 1) := by decide +kernel
theorem dX3_targetsOf_6 : decode cX3_targetsOf 6 = .ok (.getfield 22, 3) := by decide +kernel
theorem dX3_targetsOf_9 : decode cX3_targetsOf 9 = .ok (.if_icmp .ge 20, 3) := by decide +kernel
theorem dX3_targetsOf_12 : decode cX3_targetsOf 12 = .ok (.iload_n 1, 1) := by decide +kernel
theorem dX3_targetsOf_13 : decode cX3_targetsOf 13 = .ok (.bipush 64, 2) := by decide +kernel
theorem dX3_targetsOf_15 : decode cX3_targetsOf 15 = .ok (.if_icmp .ge 14, 3) := by decide +kernel
theorem dX3_targetsOf_18 : decode cX3_targetsOf 18 = .ok (.iload_n 2, 1) := by decide +kernel
theorem dX3_targetsOf_19 : decode cX3_targetsOf 19 = .ok (.invokestatic 77, 3) := by decide +kernel
theorem dX3_targetsOf_22 : decode cX3_targetsOf 22 = .ok (.ifCond .eq 7, 3) := by decide +kernel
theorem dX3_targetsOf_25 : decode cX3_targetsOf 25 = .ok (.iconst 1, 1) := by decide +kernel
theorem dX3_targetsOf_26 : decode cX3_targetsOf 26 = .ok (.goto 4, 3) := by decide +kernel
theorem dX3_targetsOf_29 : decode cX3_targetsOf 29 = .ok (.iconst 0, 1) := by decide +kernel
theorem dX3_targetsOf_30 : decode cX3_targetsOf 30 = .ok (.istore_n 3, 1) := by decide +kernel
theorem dX3_targetsOf_31 : decode cX3_targetsOf 31 = .ok (.iload_n 3, 1) := by decide +kernel
theorem dX3_targetsOf_32 : decode cX3_targetsOf 32 = .ok (.ifCond .eq 16, 3) := by decide +kernel
theorem dX3_targetsOf_35 : decode cX3_targetsOf 35 = .ok (.aload_n 0, 1) := by decide +kernel
theorem dX3_targetsOf_36 : decode cX3_targetsOf 36 = .ok (.getfield 9, 3) := by decide +kernel
theorem dX3_targetsOf_39 : decode cX3_targetsOf 39 = .ok (.iload_n 1, 1) := by decide +kernel
theorem dX3_targetsOf_40 : decode cX3_targetsOf 40 = .ok (.iconst 3, 1) := by decide +kernel
theorem dX3_targetsOf_41 : decode cX3_targetsOf 41 = .ok (.imul, 1) := by decide +kernel
theorem dX3_targetsOf_42 : decode cX3_targetsOf 42 = .ok (.iload_n 2, 1) := by decide +kernel
theorem dX3_targetsOf_43 : decode cX3_targetsOf 43 = .ok (.iadd, 1) := by decide +kernel
theorem dX3_targetsOf_44 : decode cX3_targetsOf 44 = .ok (.laload, 1) := by decide +kernel
theorem dX3_targetsOf_45 : decode cX3_targetsOf 45 = .ok (.goto 4, 3) := by decide +kernel
theorem dX3_targetsOf_48 : decode cX3_targetsOf 48 = .ok (.lconst 0, 1) := by decide +kernel
theorem dX3_targetsOf_49 : decode cX3_targetsOf 49 = .ok (.lreturn, 1) := by decide +kernel
set_option maxRecDepth 20000 in
theorem ggX3_accepts_X8_letterAt : GoodIn wsX3_accepts wsX8_letterAt := goodIn_r _ [9, 10, 11, 12, 13, 8, 14, 15, 31, 32] (by decide +kernel) (by decide +kernel)
set_option maxRecDepth 20000 in
theorem gX3_accepts_X8_letterAt : GoodIn wsX3_accepts (wsV RX3 86 RX8 yX8_letterAt wsX8_letterAt) := goodIn_app (goodIn_of _ (by decide +kernel)) ggX3_accepts_X8_letterAt
set_option maxRecDepth 20000 in
theorem ggX3_accepts_X3_targetsOf : GoodIn wsX3_accepts wsX3_targetsOf := goodIn_r _ [20, 3, 21, 22, 23, 24, 25, 26, 27, 28, 29, 30] (by decide +kernel) (by decide +kernel)
set_option maxRecDepth 20000 in
theorem gX3_accepts_X3_targetsOf : GoodIn wsX3_accepts (wsV RX3 90 RX3 yX3_targetsOf wsX3_targetsOf) := goodIn_app (goodIn_of _ (by decide +kernel)) ggX3_accepts_X3_targetsOf
theorem dX3_accepts_0 : decode cX3_accepts 0 = .ok (.aload_n 0, 1) := by decide +kernel
theorem dX3_accepts_1 : decode cX3_accepts 1 = .ok (.getfield 26, 3) := by decide +kernel
theorem dX3_accepts_4 : decode cX3_accepts 4 = .ok (.lstore_n 2, 1) := by decide +kernel
theorem dX3_accepts_5 : decode cX3_accepts 5 = .ok (.iconst 0, 1) := by decide +kernel
theorem dX3_accepts_6 : decode cX3_accepts 6 = .ok (.istore 4, 2) := by decide +kernel
theorem dX3_accepts_8 : decode cX3_accepts 8 = .ok (.iload 4, 2) := by decide +kernel
theorem dX3_accepts_10 : decode cX3_accepts 10 = .ok (.aload_n 1, 1) := by decide +kernel
theorem dX3_accepts_11 : decode cX3_accepts 11 = .ok (.getfield 81, 3) := by decide +kernel
theorem dX3_accepts_14 : decode cX3_accepts 14 = .ok (.if_icmp .ge 65, 3) := by decide +kernel
theorem dX3_accepts_17 : decode cX3_accepts 17 = .ok (.lconst 0, 1) := by decide +kernel
theorem dX3_accepts_18 : decode cX3_accepts 18 = .ok (.lstore 5, 2) := by decide +kernel
theorem dX3_accepts_20 : decode cX3_accepts 20 = .ok (.iconst 0, 1) := by decide +kernel
theorem dX3_accepts_21 : decode cX3_accepts 21 = .ok (.istore 7, 2) := by decide +kernel
theorem dX3_accepts_23 : decode cX3_accepts 23 = .ok (.iload 7, 2) := by decide +kernel
theorem dX3_accepts_25 : decode cX3_accepts 25 = .ok (.aload_n 0, 1) := by decide +kernel
theorem dX3_accepts_26 : decode cX3_accepts 26 = .ok (.getfield 22, 3) := by decide +kernel
theorem dX3_accepts_29 : decode cX3_accepts 29 = .ok (.if_icmp .ge 41, 3) := by decide +kernel
theorem dX3_accepts_32 : decode cX3_accepts 32 = .ok (.lload 5, 2) := by decide +kernel
theorem dX3_accepts_34 : decode cX3_accepts 34 = .ok (.lload_n 2, 1) := by decide +kernel
theorem dX3_accepts_35 : decode cX3_accepts 35 = .ok (.iload 7, 2) := by decide +kernel
theorem dX3_accepts_37 : decode cX3_accepts 37 = .ok (.lshr, 1) := by decide +kernel
theorem dX3_accepts_38 : decode cX3_accepts 38 = .ok (.lconst 1, 1) := by decide +kernel
theorem dX3_accepts_39 : decode cX3_accepts 39 = .ok (.land, 1) := by decide +kernel
theorem dX3_accepts_40 : decode cX3_accepts 40 = .ok (.lconst 0, 1) := by decide +kernel
theorem dX3_accepts_41 : decode cX3_accepts 41 = .ok (.lcmp, 1) := by decide +kernel
theorem dX3_accepts_42 : decode cX3_accepts 42 = .ok (.ifCond .eq 18, 3) := by decide +kernel
theorem dX3_accepts_45 : decode cX3_accepts 45 = .ok (.aload_n 0, 1) := by decide +kernel
theorem dX3_accepts_46 : decode cX3_accepts 46 = .ok (.iload 7, 2) := by decide +kernel
theorem dX3_accepts_48 : decode cX3_accepts 48 = .ok (.aload_n 1, 1) := by decide +kernel
theorem dX3_accepts_49 : decode cX3_accepts 49 = .ok (.iload 4, 2) := by decide +kernel
theorem dX3_accepts_51 : decode cX3_accepts 51 = .ok (.invokevirtual 86, 3) := by decide +kernel
theorem dX3_accepts_54 : decode cX3_accepts 54 = .ok (.invokevirtual 90, 3) := by decide +kernel
theorem dX3_accepts_57 : decode cX3_accepts 57 = .ok (.goto 4, 3) := by decide +kernel
theorem dX3_accepts_60 : decode cX3_accepts 60 = .ok (.lconst 0, 1) := by decide +kernel
theorem dX3_accepts_61 : decode cX3_accepts 61 = .ok (.lor, 1) := by decide +kernel
theorem dX3_accepts_62 : decode cX3_accepts 62 = .ok (.lstore 5, 2) := by decide +kernel
theorem dX3_accepts_64 : decode cX3_accepts 64 = .ok (.iinc 7 1, 3) := by decide +kernel
theorem dX3_accepts_67 : decode cX3_accepts 67 = .ok (.goto (-44), 3) := by decide +kernel
theorem dX3_accepts_70 : decode cX3_accepts 70 = .ok (.lload 5, 2) := by decide +kernel
theorem dX3_accepts_72 : decode cX3_accepts 72 = .ok (.lstore_n 2, 1) := by decide +kernel
theorem dX3_accepts_73 : decode cX3_accepts 73 = .ok (.iinc 4 1, 3) := by decide +kernel
theorem dX3_accepts_76 : decode cX3_accepts 76 = .ok (.goto (-68), 3) := by decide +kernel
theorem dX3_accepts_79 : decode cX3_accepts 79 = .ok (.lload_n 2, 1) := by decide +kernel
theorem dX3_accepts_80 : decode cX3_accepts 80 = .ok (.aload_n 0, 1) := by decide +kernel
theorem dX3_accepts_81 : decode cX3_accepts 81 = .ok (.getfield 30, 3) := by decide +kernel
theorem dX3_accepts_84 : decode cX3_accepts 84 = .ok (.land, 1) := by decide +kernel
theorem dX3_accepts_85 : decode cX3_accepts 85 = .ok (.lconst 0, 1) := by decide +kernel
theorem dX3_accepts_86 : decode cX3_accepts 86 = .ok (.lcmp, 1) := by decide +kernel
theorem dX3_accepts_87 : decode cX3_accepts 87 = .ok (.ifCond .eq 7, 3) := by decide +kernel
theorem dX3_accepts_90 : decode cX3_accepts 90 = .ok (.iconst 1, 1) := by decide +kernel
theorem dX3_accepts_91 : decode cX3_accepts 91 = .ok (.goto 4, 3) := by decide +kernel
theorem dX3_accepts_94 : decode cX3_accepts 94 = .ok (.iconst 0, 1) := by decide +kernel
theorem dX3_accepts_95 : decode cX3_accepts 95 = .ok (.ireturn, 1) := by decide +kernel
theorem dX4_init_0 : decode cX4_init 0 = .ok (.aload_n 0, 1) := by decide +kernel
theorem dX4_init_1 : decode cX4_init 1 = .ok (.invokespecial 3, 3) := by decide +kernel
theorem dX4_init_4 : decode cX4_init 4 = .ok (.aload_n 0, 1) := by decide +kernel
theorem dX4_init_5 : decode cX4_init 5 = .ok (.sipush 6000, 3) := by decide +kernel
theorem dX4_init_8 : decode cX4_init 8 = .ok (.newarray .long, 2) := by decide +kernel
theorem dX4_init_10 : decode cX4_init 10 = .ok (.putfield 9, 3) := by decide +kernel
theorem dX4_init_13 : decode cX4_init 13 = .ok (.aload_n 0, 1) := by decide +kernel
theorem dX4_init_14 : decode cX4_init 14 = .ok (.bipush 6, 2) := by decide +kernel
theorem dX4_init_16 : decode cX4_init 16 = .ok (.newarray .long, 2) := by decide +kernel
theorem dX4_init_18 : decode cX4_init 18 = .ok (.putfield 15, 3) := by decide +kernel
theorem dX4_init_21 : decode cX4_init 21 = .ok (.aload_n 0, 1) := by decide +kernel
theorem dX4_init_22 : decode cX4_init 22 = .ok (.sipush 256, 3) := by decide +kernel
theorem dX4_init_25 : decode cX4_init 25 = .ok (.newarray .int, 2) := by decide +kernel
theorem dX4_init_27 : decode cX4_init 27 = .ok (.putfield 18, 3) := by decide +kernel
theorem dX4_init_30 : decode cX4_init 30 = .ok (.aload_n 0, 1) := by decide +kernel
theorem dX4_init_31 : decode cX4_init 31 = .ok (.sipush 1000, 3) := by decide +kernel
theorem dX4_init_34 : decode cX4_init 34 = .ok (.newarray .int, 2) := by decide +kernel
theorem dX4_init_36 : decode cX4_init 36 = .ok (.putfield 22, 3) := by decide +kernel
theorem dX4_init_39 : decode cX4_init 39 = .ok (.return_, 1) := by decide +kernel
set_option maxRecDepth 20000 in
theorem ggX4_highestAmbiguity_X0_usefulSet : GoodIn wsX4_highestAmbiguity wsX0_usefulSet := goodIn_r _ [14, 15, 16, 17, 18, 19, 13, 20, 21, 22, 23, 24, 25, 26, 27, 28, 29, 30, 31, 32, 33, 34, 35, 36, 37, 81, 82, 83, 84] (by decide +kernel) (by decide +kernel)
set_option maxRecDepth 20000 in
theorem gX4_highestAmbiguity_X0_usefulSet : GoodIn wsX4_highestAmbiguity (wsV RX4 25 RX0 yX0_usefulSet wsX0_usefulSet) := goodIn_app (goodIn_of _ (by decide +kernel)) ggX4_highestAmbiguity_X0_usefulSet
set_option maxRecDepth 20000 in
theorem ggX4_highestAmbiguity_X4_makeEmpty : GoodIn wsX4_highestAmbiguity wsX4_makeEmpty := goodIn_r _ [42, 3, 43, 76, 77, 78, 79, 80] (by decide +kernel) (by decide +kernel)
set_option maxRecDepth 20000 in
theorem gX4_highestAmbiguity_X4_makeEmpty : GoodIn wsX4_highestAmbiguity (wsV RX4 31 RX4 yX4_makeEmpty wsX4_makeEmpty) := goodIn_app (goodIn_of _ (by decide +kernel)) ggX4_highestAmbiguity_X4_makeEmpty
set_option maxRecDepth 20000 in
theorem ggX4_highestAmbiguity_X10_contains : GoodIn wsX4_highestAmbiguity wsX10_contains := goodIn_r _ [24] (by decide +kernel) (by decide +kernel)
set_option maxRecDepth 20000 in
theorem gX4_highestAmbiguity_X10_contains_n38 : GoodIn wsX4_highestAmbiguity (wsX10_contains) := ggX4_highestAmbiguity_X10_contains
set_option maxRecDepth 20000 in
theorem ggX4_highestAmbiguity_X4_keepFresh : GoodIn wsX4_highestAmbiguity wsX4_keepFresh := goodIn_r _ [47, 43, 3, 48, 1, 49, 50, 51, 52, 41, 53, 54, 55, 56, 57, 58, 59, 60, 61, 62, 63, 64, 65, 66, 76, 77, 78, 79, 80] (by decide +kernel) (by decide +kernel)
set_option maxRecDepth 20000 in
theorem gX4_highestAmbiguity_X4_keepFresh : GoodIn wsX4_highestAmbiguity (wsV RX4 42 RX4 yX4_keepFresh wsX4_keepFresh) := goodIn_app (goodIn_of _ (by decide +kernel)) ggX4_highestAmbiguity_X4_keepFresh
set_option maxRecDepth 20000 in
theorem ggX4_highestAmbiguity_X4_sumOver : GoodIn wsX4_highestAmbiguity wsX4_sumOver := goodIn_r _ [70, 22, 23, 24, 63, 64, 65, 41, 66, 48, 76, 77, 78, 79, 80] (by decide +kernel) (by decide +kernel)
set_option maxRecDepth 20000 in
theorem gX4_highestAmbiguity_X4_sumOver : GoodIn wsX4_highestAmbiguity (wsV RX4 52 RX4 yX4_sumOver wsX4_sumOver) := goodIn_app (goodIn_of _ (by decide +kernel)) ggX4_highestAmbiguity_X4_sumOver
set_option maxRecDepth 20000 in
theorem ggX4_highestAmbiguity_X4_makeFresh : GoodIn wsX4_highestAmbiguity wsX4_makeFresh := goodIn_r _ [74, 1, 75, 30, 31, 13, 32, 21, 33, 63, 64, 65, 41, 66, 48, 22, 23, 24, 76, 77, 78, 79, 80, 81, 82, 83, 84] (by decide +kernel) (by decide +kernel)
set_option maxRecDepth 20000 in
theorem gX4_highestAmbiguity_X4_makeFresh : GoodIn wsX4_highestAmbiguity (wsV RX4 62 RX4 yX4_makeFresh wsX4_makeFresh) := goodIn_app (goodIn_of _ (by decide +kernel)) ggX4_highestAmbiguity_X4_makeFresh
theorem dX4_highestAmbiguity_0 : decode cX4_highestAmbiguity 0 = .ok (.aload_n 1, 1) := by decide +kernel
theorem dX4_highestAmbiguity_1 : decode cX4_highestAmbiguity 1 = .ok (.invokevirtual 25, 3) := by decide +kernel
theorem dX4_highestAmbiguity_4 : decode cX4_highestAmbiguity 4 = .ok (.istore_n 2, 1) := by decide +kernel
theorem dX4_highestAmbiguity_5 : decode cX4_highestAmbiguity 5 = .ok (.aload_n 0, 1) := by decide +kernel
theorem dX4_highestAmbiguity_6 : decode cX4_highestAmbiguity 6 = .ok (.invokevirtual 31, 3) := by decide +kernel
theorem dX4_highestAmbiguity_9 : decode cX4_highestAmbiguity 9 = .ok (.iconst 0, 1) := by decide +kernel
theorem dX4_highestAmbiguity_10 : decode cX4_highestAmbiguity 10 = .ok (.istore_n 3, 1) := by decide +kernel
theorem dX4_highestAmbiguity_11 : decode cX4_highestAmbiguity 11 = .ok (.iload_n 3, 1) := by decide +kernel
theorem dX4_highestAmbiguity_12 : decode cX4_highestAmbiguity 12 = .ok (.bipush 6, 2) := by decide +kernel
theorem dX4_highestAmbiguity_14 : decode cX4_highestAmbiguity 14 = .ok (.if_icmp .ge 33, 3) := by decide +kernel
theorem dX4_highestAmbiguity_17 : decode cX4_highestAmbiguity 17 = .ok (.aload_n 0, 1) := by decide +kernel
theorem dX4_highestAmbiguity_18 : decode cX4_highestAmbiguity 18 = .ok (.getfield 15, 3) := by decide +kernel
theorem dX4_highestAmbiguity_21 : decode cX4_highestAmbiguity 21 = .ok (.iload_n 3, 1) := by decide +kernel
theorem dX4_highestAmbiguity_22 : decode cX4_highestAmbiguity 22 = .ok (.aload_n 1, 1) := by decide +kernel
theorem dX4_highestAmbiguity_23 : decode cX4_highestAmbiguity 23 = .ok (.getfield 34, 3) := by decide +kernel
theorem dX4_highestAmbiguity_26 : decode cX4_highestAmbiguity 26 = .ok (.iload_n 2, 1) := by decide +kernel
theorem dX4_highestAmbiguity_27 : decode cX4_highestAmbiguity 27 = .ok (.iand, 1) := by decide +kernel
theorem dX4_highestAmbiguity_28 : decode cX4_highestAmbiguity 28 = .ok (.iload_n 3, 1) := by decide +kernel
theorem dX4_highestAmbiguity_29 : decode cX4_highestAmbiguity 29 = .ok (.invokestatic 38, 3) := by decide +kernel
theorem dX4_highestAmbiguity_32 : decode cX4_highestAmbiguity 32 = .ok (.ifCond .eq 7, 3) := by decide +kernel
theorem dX4_highestAmbiguity_35 : decode cX4_highestAmbiguity 35 = .ok (.lconst 1, 1) := by decide +kernel
theorem dX4_highestAmbiguity_36 : decode cX4_highestAmbiguity 36 = .ok (.goto 4, 3) := by decide +kernel
theorem dX4_highestAmbiguity_39 : decode cX4_highestAmbiguity 39 = .ok (.lconst 0, 1) := by decide +kernel
theorem dX4_highestAmbiguity_40 : decode cX4_highestAmbiguity 40 = .ok (.lastore, 1) := by decide +kernel
theorem dX4_highestAmbiguity_41 : decode cX4_highestAmbiguity 41 = .ok (.iinc 3 1, 3) := by decide +kernel
theorem dX4_highestAmbiguity_44 : decode cX4_highestAmbiguity 44 = .ok (.goto (-33), 3) := by decide +kernel
theorem dX4_highestAmbiguity_47 : decode cX4_highestAmbiguity 47 = .ok (.aload_n 0, 1) := by decide +kernel
theorem dX4_highestAmbiguity_48 : decode cX4_highestAmbiguity 48 = .ok (.invokevirtual 42, 3) := by decide +kernel
theorem dX4_highestAmbiguity_51 : decode cX4_highestAmbiguity 51 = .ok (.istore_n 3, 1) := by decide +kernel
theorem dX4_highestAmbiguity_52 : decode cX4_highestAmbiguity 52 = .ok (.lconst 0, 1) := by decide +kernel
theorem dX4_highestAmbiguity_53 : decode cX4_highestAmbiguity 53 = .ok (.lstore 4, 2) := by decide +kernel
theorem dX4_highestAmbiguity_55 : decode cX4_highestAmbiguity 55 = .ok (.iconst 0, 1) := by decide +kernel
theorem dX4_highestAmbiguity_56 : decode cX4_highestAmbiguity 56 = .ok (.istore 6, 2) := by decide +kernel
theorem dX4_highestAmbiguity_58 : decode cX4_highestAmbiguity 58 = .ok (.iload_n 3, 1) := by decide +kernel
theorem dX4_highestAmbiguity_59 : decode cX4_highestAmbiguity 59 = .ok (.ifCond .eq 77, 3) := by decide +kernel
theorem dX4_highestAmbiguity_62 : decode cX4_highestAmbiguity 62 = .ok (.iload 6, 2) := by decide +kernel
theorem dX4_highestAmbiguity_64 : decode cX4_highestAmbiguity 64 = .ok (.aload_n 0, 1) := by decide +kernel
theorem dX4_highestAmbiguity_65 : decode cX4_highestAmbiguity 65 = .ok (.getfield 46, 3) := by decide +kernel
theorem dX4_highestAmbiguity_68 : decode cX4_highestAmbiguity 68 = .ok (.if_icmp .ge 68, 3) := by decide +kernel
theorem dX4_highestAmbiguity_71 : decode cX4_highestAmbiguity 71 = .ok (.iload 6, 2) := by decide +kernel
theorem dX4_highestAmbiguity_73 : decode cX4_highestAmbiguity 73 = .ok (.sipush 1000, 3) := by decide +kernel
theorem dX4_highestAmbiguity_76 : decode cX4_highestAmbiguity 76 = .ok (.if_icmp .ge 60, 3) := by decide +kernel
theorem dX4_highestAmbiguity_79 : decode cX4_highestAmbiguity 79 = .ok (.lload 4, 2) := by decide +kernel
theorem dX4_highestAmbiguity_81 : decode cX4_highestAmbiguity 81 = .ok (.aload_n 0, 1) := by decide +kernel
theorem dX4_highestAmbiguity_82 : decode cX4_highestAmbiguity 82 = .ok (.iload 6, 2) := by decide +kernel
theorem dX4_highestAmbiguity_84 : decode cX4_highestAmbiguity 84 = .ok (.aload_n 1, 1) := by decide +kernel
theorem dX4_highestAmbiguity_85 : decode cX4_highestAmbiguity 85 = .ok (.getfield 49, 3) := by decide +kernel
theorem dX4_highestAmbiguity_88 : decode cX4_highestAmbiguity 88 = .ok (.invokevirtual 52, 3) := by decide +kernel
theorem dX4_highestAmbiguity_91 : decode cX4_highestAmbiguity 91 = .ok (.invokestatic 56, 3) := by decide +kernel
theorem dX4_highestAmbiguity_94 : decode cX4_highestAmbiguity 94 = .ok (.lstore 4, 2) := by decide +kernel
theorem dX4_highestAmbiguity_96 : decode cX4_highestAmbiguity 96 = .ok (.iconst 0, 1) := by decide +kernel
theorem dX4_highestAmbiguity_97 : decode cX4_highestAmbiguity 97 = .ok (.istore 7, 2) := by decide +kernel
theorem dX4_highestAmbiguity_99 : decode cX4_highestAmbiguity 99 = .ok (.iload_n 3, 1) := by decide +kernel
theorem dX4_highestAmbiguity_100 : decode cX4_highestAmbiguity 100 = .ok (.ifCond .eq 30, 3) := by decide +kernel
theorem dX4_highestAmbiguity_103 : decode cX4_highestAmbiguity 103 = .ok (.iload 7, 2) := by decide +kernel
theorem dX4_highestAmbiguity_105 : decode cX4_highestAmbiguity 105 = .ok (.iconst 3, 1) := by decide +kernel
theorem dX4_highestAmbiguity_106 : decode cX4_highestAmbiguity 106 = .ok (.if_icmp .ge 24, 3) := by decide +kernel
theorem dX4_highestAmbiguity_109 : decode cX4_highestAmbiguity 109 = .ok (.aload_n 0, 1) := by decide +kernel
theorem dX4_highestAmbiguity_110 : decode cX4_highestAmbiguity 110 = .ok (.iload 6, 2) := by decide +kernel
theorem dX4_highestAmbiguity_112 : decode cX4_highestAmbiguity 112 = .ok (.aload_n 1, 1) := by decide +kernel
theorem dX4_highestAmbiguity_113 : decode cX4_highestAmbiguity 113 = .ok (.iload 7, 2) := by decide +kernel
theorem dX4_highestAmbiguity_115 : decode cX4_highestAmbiguity 115 = .ok (.iload_n 2, 1) := by decide +kernel
theorem dX4_highestAmbiguity_116 : decode cX4_highestAmbiguity 116 = .ok (.invokevirtual 62, 3) := by decide +kernel
theorem dX4_highestAmbiguity_119 : decode cX4_highestAmbiguity 119 = .ok (.aload_n 0, 1) := by decide +kernel
theorem dX4_highestAmbiguity_120 : decode cX4_highestAmbiguity 120 = .ok (.invokevirtual 42, 3) := by decide +kernel
theorem dX4_highestAmbiguity_123 : decode cX4_highestAmbiguity 123 = .ok (.istore_n 3, 1) := by decide +kernel
theorem dX4_highestAmbiguity_124 : decode cX4_highestAmbiguity 124 = .ok (.iinc 7 1, 3) := by decide +kernel
theorem dX4_highestAmbiguity_127 : decode cX4_highestAmbiguity 127 = .ok (.goto (-28), 3) := by decide +kernel
theorem dX4_highestAmbiguity_130 : decode cX4_highestAmbiguity 130 = .ok (.iinc 6 1, 3) := by decide +kernel
theorem dX4_highestAmbiguity_133 : decode cX4_highestAmbiguity 133 = .ok (.goto (-75), 3) := by decide +kernel
theorem dX4_highestAmbiguity_136 : decode cX4_highestAmbiguity 136 = .ok (.iload_n 3, 1) := by decide +kernel
theorem dX4_highestAmbiguity_137 : decode cX4_highestAmbiguity 137 = .ok (.ifCond .eq 8, 3) := by decide +kernel
theorem dX4_highestAmbiguity_140 : decode cX4_highestAmbiguity 140 = .ok (.lload 4, 2) := by decide +kernel
theorem dX4_highestAmbiguity_142 : decode cX4_highestAmbiguity 142 = .ok (.goto 6, 3) := by decide +kernel
theorem dX4_highestAmbiguity_145 : decode cX4_highestAmbiguity 145 = .ok (.ldc2_w 66, 3) := by decide +kernel
theorem dX4_highestAmbiguity_148 : decode cX4_highestAmbiguity 148 = .ok (.lreturn, 1) := by decide +kernel
theorem dX4_makeEmpty_0 : decode cX4_makeEmpty 0 = .ok (.aload_n 0, 1) := by decide +kernel
theorem dX4_makeEmpty_1 : decode cX4_makeEmpty 1 = .ok (.iconst 0, 1) := by decide +kernel
theorem dX4_makeEmpty_2 : decode cX4_makeEmpty 2 = .ok (.putfield 46, 3) := by decide +kernel
theorem dX4_makeEmpty_5 : decode cX4_makeEmpty 5 = .ok (.iconst 0, 1) := by decide +kernel
theorem dX4_makeEmpty_6 : decode cX4_makeEmpty 6 = .ok (.istore_n 1, 1) := by decide +kernel
theorem dX4_makeEmpty_7 : decode cX4_makeEmpty 7 = .ok (.iload_n 1, 1) := by decide +kernel
theorem dX4_makeEmpty_8 : decode cX4_makeEmpty 8 = .ok (.sipush 256, 3) := by decide +kernel
theorem dX4_makeEmpty_11 : decode cX4_makeEmpty 11 = .ok (.if_icmp .ge 16, 3) := by decide +kernel
theorem dX4_makeEmpty_14 : decode cX4_makeEmpty 14 = .ok (.aload_n 0, 1) := by decide +kernel
theorem dX4_makeEmpty_15 : decode cX4_makeEmpty 15 = .ok (.getfield 18, 3) := by decide +kernel
theorem dX4_makeEmpty_18 : decode cX4_makeEmpty 18 = .ok (.iload_n 1, 1) := by decide +kernel
theorem dX4_makeEmpty_19 : decode cX4_makeEmpty 19 = .ok (.iconst (-1), 1) := by decide +kernel
theorem dX4_makeEmpty_20 : decode cX4_makeEmpty 20 = .ok (.iastore, 1) := by decide +kernel
theorem dX4_makeEmpty_21 : decode cX4_makeEmpty 21 = .ok (.iinc 1 1, 3) := by decide +kernel
theorem dX4_makeEmpty_24 : decode cX4_makeEmpty 24 = .ok (.goto (-17), 3) := by decide +kernel
theorem dX4_makeEmpty_27 : decode cX4_makeEmpty 27 = .ok (.return_, 1) := by decide +kernel
theorem dX4_cell_0 : decode cX4_cell 0 = .ok (.iload_n 1, 1) := by decide +kernel
theorem dX4_cell_1 : decode cX4_cell 1 = .ok (.bipush 6, 2) := by decide +kernel
theorem dX4_cell_3 : decode cX4_cell 3 = .ok (.imul, 1) := by decide +kernel
theorem dX4_cell_4 : decode cX4_cell 4 = .ok (.iload_n 2, 1) := by decide +kernel
theorem dX4_cell_5 : decode cX4_cell 5 = .ok (.iadd, 1) := by decide +kernel
theorem dX4_cell_6 : decode cX4_cell 6 = .ok (.istore_n 3, 1) := by decide +kernel
theorem dX4_cell_7 : decode cX4_cell 7 = .ok (.iload_n 3, 1) := by decide +kernel
theorem dX4_cell_8 : decode cX4_cell 8 = .ok (.ifCond .lt 21, 3) := by decide +kernel
theorem dX4_cell_11 : decode cX4_cell 11 = .ok (.iload_n 3, 1) := by decide +kernel
theorem dX4_cell_12 : decode cX4_cell 12 = .ok (.aload_n 0, 1) := by decide +kernel
theorem dX4_cell_13 : decode cX4_cell 13 = .ok (.getfield 9, 3) := by decide +kernel
theorem dX4_cell_16 : decode cX4_cell 16 = .ok (.arraylength, 1) := by decide +kernel
theorem dX4_cell_17 : decode cX4_cell 17 = .ok (.if_icmp .ge 12, 3) := by decide +kernel
theorem dX4_cell_20 : decode cX4_cell 20 = .ok (.aload_n 0, 1) := by decide +kernel
theorem dX4_cell_21 : decode cX4_cell 21 = .ok (.getfield 9, 3) := by decide +kernel
theorem dX4_cell_24 : decode cX4_cell 24 = .ok (.iload_n 3, 1) := by decide +kernel
theorem dX4_cell_25 : decode cX4_cell 25 = .ok (.laload, 1) := by decide +kernel
theorem dX4_cell_26 : decode cX4_cell 26 = .ok (.goto 4, 3) := by decide +kernel
theorem dX4_cell_29 : decode cX4_cell 29 = .ok (.lconst 0, 1) := by decide +kernel
theorem dX4_cell_30 : decode cX4_cell 30 = .ok (.lreturn, 1) := by decide +kernel
set_option maxRecDepth 20000 in
theorem ggX4_sumOver_X10_contains : GoodIn wsX4_sumOver wsX10_contains := goodIn_r _ [3] (by decide +kernel) (by decide +kernel)
set_option maxRecDepth 20000 in
theorem gX4_sumOver_X10_contains_n38 : GoodIn wsX4_sumOver (wsX10_contains) := ggX4_sumOver_X10_contains
set_option maxRecDepth 20000 in
theorem ggX4_sumOver_X4_cell : GoodIn wsX4_sumOver wsX4_cell := goodIn_r _ [8, 9, 10, 11, 12, 13, 14] (by decide +kernel) (by decide +kernel)
set_option maxRecDepth 20000 in
theorem gX4_sumOver_X4_cell : GoodIn wsX4_sumOver (wsV RX4 68 RX4 yX4_cell wsX4_cell) := goodIn_app (goodIn_of _ (by decide +kernel)) ggX4_sumOver_X4_cell
theorem dX4_sumOver_0 : decode cX4_sumOver 0 = .ok (.lconst 0, 1) := by decide +kernel
theorem dX4_sumOver_1 : decode cX4_sumOver 1 = .ok (.lstore_n 3, 1) := by decide +kernel
theorem dX4_sumOver_2 : decode cX4_sumOver 2 = .ok (.iconst 0, 1) := by decide +kernel
theorem dX4_sumOver_3 : decode cX4_sumOver 3 = .ok (.istore 5, 2) := by decide +kernel
theorem dX4_sumOver_5 : decode cX4_sumOver 5 = .ok (.iload 5, 2) := by decide +kernel
theorem dX4_sumOver_7 : decode cX4_sumOver 7 = .ok (.bipush 6, 2) := by decide +kernel
theorem dX4_sumOver_9 : decode cX4_sumOver 9 = .ok (.if_icmp .ge 32, 3) := by decide +kernel
theorem dX4_sumOver_12 : decode cX4_sumOver 12 = .ok (.lload_n 3, 1) := by decide +kernel
theorem dX4_sumOver_13 : decode cX4_sumOver 13 = .ok (.iload_n 2, 1) := by decide +kernel
theorem dX4_sumOver_14 : decode cX4_sumOver 14 = .ok (.iload 5, 2) := by decide +kernel
theorem dX4_sumOver_16 : decode cX4_sumOver 16 = .ok (.invokestatic 38, 3) := by decide +kernel
theorem dX4_sumOver_19 : decode cX4_sumOver 19 = .ok (.ifCond .eq 13, 3) := by decide +kernel
theorem dX4_sumOver_22 : decode cX4_sumOver 22 = .ok (.aload_n 0, 1) := by decide +kernel
theorem dX4_sumOver_23 : decode cX4_sumOver 23 = .ok (.iload_n 1, 1) := by decide +kernel
theorem dX4_sumOver_24 : decode cX4_sumOver 24 = .ok (.iload 5, 2) := by decide +kernel
theorem dX4_sumOver_26 : decode cX4_sumOver 26 = .ok (.invokevirtual 68, 3) := by decide +kernel
theorem dX4_sumOver_29 : decode cX4_sumOver 29 = .ok (.goto 4, 3) := by decide +kernel
theorem dX4_sumOver_32 : decode cX4_sumOver 32 = .ok (.lconst 0, 1) := by decide +kernel
theorem dX4_sumOver_33 : decode cX4_sumOver 33 = .ok (.ladd, 1) := by decide +kernel
theorem dX4_sumOver_34 : decode cX4_sumOver 34 = .ok (.lstore_n 3, 1) := by decide +kernel
theorem dX4_sumOver_35 : decode cX4_sumOver 35 = .ok (.iinc 5 1, 3) := by decide +kernel
theorem dX4_sumOver_38 : decode cX4_sumOver 38 = .ok (.goto (-33), 3) := by decide +kernel
theorem dX4_sumOver_41 : decode cX4_sumOver 41 = .ok (.lload_n 3, 1) := by decide +kernel
theorem dX4_sumOver_42 : decode cX4_sumOver 42 = .ok (.lreturn, 1) := by decide +kernel
set_option maxRecDepth 20000 in
theorem ggX4_makeFresh_X0_targetsOf : GoodIn wsX4_makeFresh wsX0_targetsOf := goodIn_r _ [6, 7, 8, 23, 24, 25, 26] (by decide +kernel) (by decide +kernel)
set_option maxRecDepth 20000 in
theorem gX4_makeFresh_X0_targetsOf : GoodIn wsX4_makeFresh (wsV RX4 71 RX0 yX0_targetsOf wsX0_targetsOf) := goodIn_app (goodIn_of _ (by decide +kernel)) ggX4_makeFresh_X0_targetsOf
set_option maxRecDepth 20000 in
theorem ggX4_makeFresh_X4_cell : GoodIn wsX4_makeFresh wsX4_cell := goodIn_r _ [13, 14, 18, 19, 20, 21, 22] (by decide +kernel) (by decide +kernel)
set_option maxRecDepth 20000 in
theorem gX4_makeFresh_X4_cell : GoodIn wsX4_makeFresh (wsV RX4 68 RX4 yX4_cell wsX4_cell) := goodIn_app (goodIn_of _ (by decide +kernel)) ggX4_makeFresh_X4_cell
set_option maxRecDepth 20000 in
theorem ggX4_makeFresh_X10_contains : GoodIn wsX4_makeFresh wsX10_contains := goodIn_r _ [17] (by decide +kernel) (by decide +kernel)
set_option maxRecDepth 20000 in
theorem gX4_makeFresh_X10_contains_n38 : GoodIn wsX4_makeFresh (wsX10_contains) := ggX4_makeFresh_X10_contains
theorem dX4_makeFresh_0 : decode cX4_makeFresh 0 = .ok (.iconst 0, 1) := by decide +kernel
theorem dX4_makeFresh_1 : decode cX4_makeFresh 1 = .ok (.istore 5, 2) := by decide +kernel
theorem dX4_makeFresh_3 : decode cX4_makeFresh 3 = .ok (.iload 5, 2) := by decide +kernel
theorem dX4_makeFresh_5 : decode cX4_makeFresh 5 = .ok (.bipush 6, 2) := by decide +kernel
theorem dX4_makeFresh_7 : decode cX4_makeFresh 7 = .ok (.if_icmp .ge 17, 3) := by decide +kernel
theorem dX4_makeFresh_10 : decode cX4_makeFresh 10 = .ok (.aload_n 0, 1) := by decide +kernel
theorem dX4_makeFresh_11 : decode cX4_makeFresh 11 = .ok (.getfield 15, 3) := by decide +kernel
theorem dX4_makeFresh_14 : decode cX4_makeFresh 14 = .ok (.iload 5, 2) := by decide +kernel
theorem dX4_makeFresh_16 : decode cX4_makeFresh 16 = .ok (.lconst 0, 1) := by decide +kernel
theorem dX4_makeFresh_17 : decode cX4_makeFresh 17 = .ok (.lastore, 1) := by decide +kernel
theorem dX4_makeFresh_18 : decode cX4_makeFresh 18 = .ok (.iinc 5 1, 3) := by decide +kernel
theorem dX4_makeFresh_21 : decode cX4_makeFresh 21 = .ok (.goto (-18), 3) := by decide +kernel
theorem dX4_makeFresh_24 : decode cX4_makeFresh 24 = .ok (.iconst 0, 1) := by decide +kernel
theorem dX4_makeFresh_25 : decode cX4_makeFresh 25 = .ok (.istore 5, 2) := by decide +kernel
theorem dX4_makeFresh_27 : decode cX4_makeFresh 27 = .ok (.iload 5, 2) := by decide +kernel
theorem dX4_makeFresh_29 : decode cX4_makeFresh 29 = .ok (.bipush 6, 2) := by decide +kernel
theorem dX4_makeFresh_31 : decode cX4_makeFresh 31 = .ok (.if_icmp .ge 79, 3) := by decide +kernel
theorem dX4_makeFresh_34 : decode cX4_makeFresh 34 = .ok (.aload_n 2, 1) := by decide +kernel
theorem dX4_makeFresh_35 : decode cX4_makeFresh 35 = .ok (.iload 5, 2) := by decide +kernel
theorem dX4_makeFresh_37 : decode cX4_makeFresh 37 = .ok (.iload_n 3, 1) := by decide +kernel
theorem dX4_makeFresh_38 : decode cX4_makeFresh 38 = .ok (.invokevirtual 71, 3) := by decide +kernel
theorem dX4_makeFresh_41 : decode cX4_makeFresh 41 = .ok (.iload 4, 2) := by decide +kernel
theorem dX4_makeFresh_43 : decode cX4_makeFresh 43 = .ok (.iand, 1) := by decide +kernel
theorem dX4_makeFresh_44 : decode cX4_makeFresh 44 = .ok (.istore 6, 2) := by decide +kernel
theorem dX4_makeFresh_46 : decode cX4_makeFresh 46 = .ok (.aload_n 0, 1) := by decide +kernel
theorem dX4_makeFresh_47 : decode cX4_makeFresh 47 = .ok (.iload_n 1, 1) := by decide +kernel
theorem dX4_makeFresh_48 : decode cX4_makeFresh 48 = .ok (.iload 5, 2) := by decide +kernel
theorem dX4_makeFresh_50 : decode cX4_makeFresh 50 = .ok (.invokevirtual 68, 3) := by decide +kernel
theorem dX4_makeFresh_53 : decode cX4_makeFresh 53 = .ok (.lstore 7, 2) := by decide +kernel
theorem dX4_makeFresh_55 : decode cX4_makeFresh 55 = .ok (.iconst 0, 1) := by decide +kernel
theorem dX4_makeFresh_56 : decode cX4_makeFresh 56 = .ok (.istore 9, 2) := by decide +kernel
theorem dX4_makeFresh_58 : decode cX4_makeFresh 58 = .ok (.lload 7, 2) := by decide +kernel
theorem dX4_makeFresh_60 : decode cX4_makeFresh 60 = .ok (.lconst 0, 1) := by decide +kernel
theorem dX4_makeFresh_61 : decode cX4_makeFresh 61 = .ok (.lcmp, 1) := by decide +kernel
theorem dX4_makeFresh_62 : decode cX4_makeFresh 62 = .ok (.ifCond .eq 42, 3) := by decide +kernel
theorem dX4_makeFresh_65 : decode cX4_makeFresh 65 = .ok (.iload 9, 2) := by decide +kernel
theorem dX4_makeFresh_67 : decode cX4_makeFresh 67 = .ok (.bipush 6, 2) := by decide +kernel
theorem dX4_makeFresh_69 : decode cX4_makeFresh 69 = .ok (.if_icmp .ge 35, 3) := by decide +kernel
theorem dX4_makeFresh_72 : decode cX4_makeFresh 72 = .ok (.aload_n 0, 1) := by decide +kernel
theorem dX4_makeFresh_73 : decode cX4_makeFresh 73 = .ok (.getfield 15, 3) := by decide +kernel
theorem dX4_makeFresh_76 : decode cX4_makeFresh 76 = .ok (.iload 9, 2) := by decide +kernel
theorem dX4_makeFresh_78 : decode cX4_makeFresh 78 = .ok (.dup2, 1) := by decide +kernel
theorem dX4_makeFresh_79 : decode cX4_makeFresh 79 = .ok (.laload, 1) := by decide +kernel
theorem dX4_makeFresh_80 : decode cX4_makeFresh 80 = .ok (.iload 6, 2) := by decide +kernel
theorem dX4_makeFresh_82 : decode cX4_makeFresh 82 = .ok (.iload 9, 2) := by decide +kernel
theorem dX4_makeFresh_84 : decode cX4_makeFresh 84 = .ok (.invokestatic 38, 3) := by decide +kernel
theorem dX4_makeFresh_87 : decode cX4_makeFresh 87 = .ok (.ifCond .eq 8, 3) := by decide +kernel
theorem dX4_makeFresh_90 : decode cX4_makeFresh 90 = .ok (.lload 7, 2) := by decide +kernel
theorem dX4_makeFresh_92 : decode cX4_makeFresh 92 = .ok (.goto 4, 3) := by decide +kernel
theorem dX4_makeFresh_95 : decode cX4_makeFresh 95 = .ok (.lconst 0, 1) := by decide +kernel
theorem dX4_makeFresh_96 : decode cX4_makeFresh 96 = .ok (.ladd, 1) := by decide +kernel
theorem dX4_makeFresh_97 : decode cX4_makeFresh 97 = .ok (.lastore, 1) := by decide +kernel
theorem dX4_makeFresh_98 : decode cX4_makeFresh 98 = .ok (.iinc 9 1, 3) := by decide +kernel
theorem dX4_makeFresh_101 : decode cX4_makeFresh 101 = .ok (.goto (-43), 3) := by decide +kernel
theorem dX4_makeFresh_104 : decode cX4_makeFresh 104 = .ok (.iinc 5 1, 3) := by decide +kernel
theorem dX4_makeFresh_107 : decode cX4_makeFresh 107 = .ok (.goto (-80), 3) := by decide +kernel
theorem dX4_makeFresh_110 : decode cX4_makeFresh 110 = .ok (.return_, 1) := by decide +kernel
set_option maxRecDepth 20000 in
theorem ggX4_keepFresh_X4_bucketOfFresh : GoodIn wsX4_keepFresh wsX4_bucketOfFresh := goodIn_r _ [10, 11, 4, 24, 25, 26, 27, 28] (by decide +kernel) (by decide +kernel)
set_option maxRecDepth 20000 in
theorem gX4_keepFresh_X4_bucketOfFresh : GoodIn wsX4_keepFresh (wsV RX4 75 RX4 yX4_bucketOfFresh wsX4_bucketOfFresh) := goodIn_app (goodIn_of _ (by decide +kernel)) ggX4_keepFresh_X4_bucketOfFresh
set_option maxRecDepth 20000 in
theorem ggX4_keepFresh_X4_isKept : GoodIn wsX4_keepFresh wsX4_isKept := goodIn_r _ [15, 5, 16, 17, 18, 9, 19, 4, 20, 21, 22, 23, 3, 24, 25, 26, 27, 28] (by decide +kernel) (by decide +kernel)
set_option maxRecDepth 20000 in
theorem gX4_keepFresh_X4_isKept : GoodIn wsX4_keepFresh (wsV RX4 78 RX4 yX4_isKept wsX4_isKept) := goodIn_app (goodIn_of _ (by decide +kernel)) ggX4_keepFresh_X4_isKept
theorem dX4_keepFresh_0 : decode cX4_keepFresh 0 = .ok (.aload_n 0, 1) := by decide +kernel
theorem dX4_keepFresh_1 : decode cX4_keepFresh 1 = .ok (.invokevirtual 75, 3) := by decide +kernel
theorem dX4_keepFresh_4 : decode cX4_keepFresh 4 = .ok (.istore_n 1, 1) := by decide +kernel
theorem dX4_keepFresh_5 : decode cX4_keepFresh 5 = .ok (.aload_n 0, 1) := by decide +kernel
theorem dX4_keepFresh_6 : decode cX4_keepFresh 6 = .ok (.aload_n 0, 1) := by decide +kernel
theorem dX4_keepFresh_7 : decode cX4_keepFresh 7 = .ok (.getfield 18, 3) := by decide +kernel
theorem dX4_keepFresh_10 : decode cX4_keepFresh 10 = .ok (.iload_n 1, 1) := by decide +kernel
theorem dX4_keepFresh_11 : decode cX4_keepFresh 11 = .ok (.iaload, 1) := by decide +kernel
theorem dX4_keepFresh_12 : decode cX4_keepFresh 12 = .ok (.invokevirtual 78, 3) := by decide +kernel
theorem dX4_keepFresh_15 : decode cX4_keepFresh 15 = .ok (.ifCond .eq 5, 3) := by decide +kernel
theorem dX4_keepFresh_18 : decode cX4_keepFresh 18 = .ok (.iconst 1, 1) := by decide +kernel
theorem dX4_keepFresh_19 : decode cX4_keepFresh 19 = .ok (.ireturn, 1) := by decide +kernel
theorem dX4_keepFresh_20 : decode cX4_keepFresh 20 = .ok (.aload_n 0, 1) := by decide +kernel
theorem dX4_keepFresh_21 : decode cX4_keepFresh 21 = .ok (.getfield 46, 3) := by decide +kernel
theorem dX4_keepFresh_24 : decode cX4_keepFresh 24 = .ok (.sipush 1000, 3) := by decide +kernel
theorem dX4_keepFresh_27 : decode cX4_keepFresh 27 = .ok (.if_icmp .lt 5, 3) := by decide +kernel
theorem dX4_keepFresh_30 : decode cX4_keepFresh 30 = .ok (.iconst 0, 1) := by decide +kernel
theorem dX4_keepFresh_31 : decode cX4_keepFresh 31 = .ok (.ireturn, 1) := by decide +kernel
theorem dX4_keepFresh_32 : decode cX4_keepFresh 32 = .ok (.iconst 0, 1) := by decide +kernel
theorem dX4_keepFresh_33 : decode cX4_keepFresh 33 = .ok (.istore_n 2, 1) := by decide +kernel
theorem dX4_keepFresh_34 : decode cX4_keepFresh 34 = .ok (.iload_n 2, 1) := by decide +kernel
theorem dX4_keepFresh_35 : decode cX4_keepFresh 35 = .ok (.bipush 6, 2) := by decide +kernel
theorem dX4_keepFresh_37 : decode cX4_keepFresh 37 = .ok (.if_icmp .ge 29, 3) := by decide +kernel
theorem dX4_keepFresh_40 : decode cX4_keepFresh 40 = .ok (.aload_n 0, 1) := by decide +kernel
theorem dX4_keepFresh_41 : decode cX4_keepFresh 41 = .ok (.getfield 9, 3) := by decide +kernel
theorem dX4_keepFresh_44 : decode cX4_keepFresh 44 = .ok (.aload_n 0, 1) := by decide +kernel
theorem dX4_keepFresh_45 : decode cX4_keepFresh 45 = .ok (.getfield 46, 3) := by decide +kernel
theorem dX4_keepFresh_48 : decode cX4_keepFresh 48 = .ok (.bipush 6, 2) := by decide +kernel
theorem dX4_keepFresh_50 : decode cX4_keepFresh 50 = .ok (.imul, 1) := by decide +kernel
theorem dX4_keepFresh_51 : decode cX4_keepFresh 51 = .ok (.iload_n 2, 1) := by decide +kernel
theorem dX4_keepFresh_52 : decode cX4_keepFresh 52 = .ok (.iadd, 1) := by decide +kernel
theorem dX4_keepFresh_53 : decode cX4_keepFresh 53 = .ok (.aload_n 0, 1) := by decide +kernel
theorem dX4_keepFresh_54 : decode cX4_keepFresh 54 = .ok (.getfield 15, 3) := by decide +kernel
theorem dX4_keepFresh_57 : decode cX4_keepFresh 57 = .ok (.iload_n 2, 1) := by decide +kernel
theorem dX4_keepFresh_58 : decode cX4_keepFresh 58 = .ok (.laload, 1) := by decide +kernel
theorem dX4_keepFresh_59 : decode cX4_keepFresh 59 = .ok (.lastore, 1) := by decide +kernel
theorem dX4_keepFresh_60 : decode cX4_keepFresh 60 = .ok (.iinc 2 1, 3) := by decide +kernel
theorem dX4_keepFresh_63 : decode cX4_keepFresh 63 = .ok (.goto (-29), 3) := by decide +kernel
theorem dX4_keepFresh_66 : decode cX4_keepFresh 66 = .ok (.aload_n 0, 1) := by decide +kernel
theorem dX4_keepFresh_67 : decode cX4_keepFresh 67 = .ok (.getfield 22, 3) := by decide +kernel
theorem dX4_keepFresh_70 : decode cX4_keepFresh 70 = .ok (.aload_n 0, 1) := by decide +kernel
theorem dX4_keepFresh_71 : decode cX4_keepFresh 71 = .ok (.getfield 46, 3) := by decide +kernel
theorem dX4_keepFresh_74 : decode cX4_keepFresh 74 = .ok (.aload_n 0, 1) := by decide +kernel
theorem dX4_keepFresh_75 : decode cX4_keepFresh 75 = .ok (.getfield 18, 3) := by decide +kernel
theorem dX4_keepFresh_78 : decode cX4_keepFresh 78 = .ok (.iload_n 1, 1) := by decide +kernel
theorem dX4_keepFresh_79 : decode cX4_keepFresh 79 = .ok (.iaload, 1) := by decide +kernel
theorem dX4_keepFresh_80 : decode cX4_keepFresh 80 = .ok (.iastore, 1) := by decide +kernel
theorem dX4_keepFresh_81 : decode cX4_keepFresh 81 = .ok (.aload_n 0, 1) := by decide +kernel
theorem dX4_keepFresh_82 : decode cX4_keepFresh 82 = .ok (.getfield 18, 3) := by decide +kernel
theorem dX4_keepFresh_85 : decode cX4_keepFresh 85 = .ok (.iload_n 1, 1) := by decide +kernel
theorem dX4_keepFresh_86 : decode cX4_keepFresh 86 = .ok (.aload_n 0, 1) := by decide +kernel
theorem dX4_keepFresh_87 : decode cX4_keepFresh 87 = .ok (.getfield 46, 3) := by decide +kernel
theorem dX4_keepFresh_90 : decode cX4_keepFresh 90 = .ok (.iastore, 1) := by decide +kernel
theorem dX4_keepFresh_91 : decode cX4_keepFresh 91 = .ok (.aload_n 0, 1) := by decide +kernel
theorem dX4_keepFresh_92 : decode cX4_keepFresh 92 = .ok (.dup, 1) := by decide +kernel
theorem dX4_keepFresh_93 : decode cX4_keepFresh 93 = .ok (.getfield 46, 3) := by decide +kernel
theorem dX4_keepFresh_96 : decode cX4_keepFresh 96 = .ok (.iconst 1, 1) := by decide +kernel
theorem dX4_keepFresh_97 : decode cX4_keepFresh 97 = .ok (.iadd, 1) := by decide +kernel
theorem dX4_keepFresh_98 : decode cX4_keepFresh 98 = .ok (.putfield 46, 3) := by decide +kernel
theorem dX4_keepFresh_101 : decode cX4_keepFresh 101 = .ok (.iconst 1, 1) := by decide +kernel
theorem dX4_keepFresh_102 : decode cX4_keepFresh 102 = .ok (.ireturn, 1) := by decide +kernel
theorem dX4_bucketOfFresh_0 : decode cX4_bucketOfFresh 0 = .ok (.lconst 0, 1) := by decide +kernel
theorem dX4_bucketOfFresh_1 : decode cX4_bucketOfFresh 1 = .ok (.lstore_n 1, 1) := by decide +kernel
theorem dX4_bucketOfFresh_2 : decode cX4_bucketOfFresh 2 = .ok (.iconst 0, 1) := by decide +kernel
theorem dX4_bucketOfFresh_3 : decode cX4_bucketOfFresh 3 = .ok (.istore_n 3, 1) := by decide +kernel
theorem dX4_bucketOfFresh_4 : decode cX4_bucketOfFresh 4 = .ok (.iload_n 3, 1) := by decide +kernel
theorem dX4_bucketOfFresh_5 : decode cX4_bucketOfFresh 5 = .ok (.bipush 6, 2) := by decide +kernel
theorem dX4_bucketOfFresh_7 : decode cX4_bucketOfFresh 7 = .ok (.if_icmp .ge 22, 3) := by decide +kernel
theorem dX4_bucketOfFresh_10 : decode cX4_bucketOfFresh 10 = .ok (.lload_n 1, 1) := by decide +kernel
theorem dX4_bucketOfFresh_11 : decode cX4_bucketOfFresh 11 = .ok (.ldc2_w 82, 3) := by decide +kernel
theorem dX4_bucketOfFresh_14 : decode cX4_bucketOfFresh 14 = .ok (.lmul, 1) := by decide +kernel
theorem dX4_bucketOfFresh_15 : decode cX4_bucketOfFresh 15 = .ok (.aload_n 0, 1) := by decide +kernel
theorem dX4_bucketOfFresh_16 : decode cX4_bucketOfFresh 16 = .ok (.getfield 15, 3) := by decide +kernel
theorem dX4_bucketOfFresh_19 : decode cX4_bucketOfFresh 19 = .ok (.iload_n 3, 1) := by decide +kernel
theorem dX4_bucketOfFresh_20 : decode cX4_bucketOfFresh 20 = .ok (.laload, 1) := by decide +kernel
theorem dX4_bucketOfFresh_21 : decode cX4_bucketOfFresh 21 = .ok (.ladd, 1) := by decide +kernel
theorem dX4_bucketOfFresh_22 : decode cX4_bucketOfFresh 22 = .ok (.lstore_n 1, 1) := by decide +kernel
theorem dX4_bucketOfFresh_23 : decode cX4_bucketOfFresh 23 = .ok (.iinc 3 1, 3) := by decide +kernel
theorem dX4_bucketOfFresh_26 : decode cX4_bucketOfFresh 26 = .ok (.goto (-22), 3) := by decide +kernel
theorem dX4_bucketOfFresh_29 : decode cX4_bucketOfFresh 29 = .ok (.lload_n 1, 1) := by decide +kernel
theorem dX4_bucketOfFresh_30 : decode cX4_bucketOfFresh 30 = .ok (.lload_n 1, 1) := by decide +kernel
theorem dX4_bucketOfFresh_31 : decode cX4_bucketOfFresh 31 = .ok (.bipush 8, 2) := by decide +kernel
theorem dX4_bucketOfFresh_33 : decode cX4_bucketOfFresh 33 = .ok (.lshr, 1) := by decide +kernel
theorem dX4_bucketOfFresh_34 : decode cX4_bucketOfFresh 34 = .ok (.lxor, 1) := by decide +kernel
theorem dX4_bucketOfFresh_35 : decode cX4_bucketOfFresh 35 = .ok (.l2i, 1) := by decide +kernel
theorem dX4_bucketOfFresh_36 : decode cX4_bucketOfFresh 36 = .ok (.sipush 255, 3) := by decide +kernel
theorem dX4_bucketOfFresh_39 : decode cX4_bucketOfFresh 39 = .ok (.iand, 1) := by decide +kernel
theorem dX4_bucketOfFresh_40 : decode cX4_bucketOfFresh 40 = .ok (.ireturn, 1) := by decide +kernel
set_option maxRecDepth 20000 in
theorem ggX4_isKept_X4_equalsFresh : GoodIn wsX4_isKept wsX4_equalsFresh := goodIn_r _ [6, 7, 8, 9, 10, 5, 11, 12, 13, 14, 15, 16, 17] (by decide +kernel) (by decide +kernel)
set_option maxRecDepth 20000 in
theorem gX4_isKept_X4_equalsFresh : GoodIn wsX4_isKept (wsV RX4 84 RX4 yX4_equalsFresh wsX4_equalsFresh) := goodIn_app (goodIn_of _ (by decide +kernel)) ggX4_isKept_X4_equalsFresh
theorem dX4_isKept_0 : decode cX4_isKept 0 = .ok (.iload_n 1, 1) := by decide +kernel
theorem dX4_isKept_1 : decode cX4_isKept 1 = .ok (.istore_n 2, 1) := by decide +kernel
theorem dX4_isKept_2 : decode cX4_isKept 2 = .ok (.iconst 0, 1) := by decide +kernel
theorem dX4_isKept_3 : decode cX4_isKept 3 = .ok (.istore_n 3, 1) := by decide +kernel
theorem dX4_isKept_4 : decode cX4_isKept 4 = .ok (.iload_n 3, 1) := by decide +kernel
theorem dX4_isKept_5 : decode cX4_isKept 5 = .ok (.sipush 1000, 3) := by decide +kernel
theorem dX4_isKept_8 : decode cX4_isKept 8 = .ok (.if_icmp .ge 37, 3) := by decide +kernel
theorem dX4_isKept_11 : decode cX4_isKept 11 = .ok (.iload_n 2, 1) := by decide +kernel
theorem dX4_isKept_12 : decode cX4_isKept 12 = .ok (.ifCond .lt 33, 3) := by decide +kernel
theorem dX4_isKept_15 : decode cX4_isKept 15 = .ok (.iload_n 2, 1) := by decide +kernel
theorem dX4_isKept_16 : decode cX4_isKept 16 = .ok (.sipush 1000, 3) := by decide +kernel
theorem dX4_isKept_19 : decode cX4_isKept 19 = .ok (.if_icmp .ge 26, 3) := by decide +kernel
theorem dX4_isKept_22 : decode cX4_isKept 22 = .ok (.aload_n 0, 1) := by decide +kernel
theorem dX4_isKept_23 : decode cX4_isKept 23 = .ok (.iload_n 2, 1) := by decide +kernel
theorem dX4_isKept_24 : decode cX4_isKept 24 = .ok (.invokevirtual 84, 3) := by decide +kernel
theorem dX4_isKept_27 : decode cX4_isKept 27 = .ok (.ifCond .eq 5, 3) := by decide +kernel
theorem dX4_isKept_30 : decode cX4_isKept 30 = .ok (.iconst 1, 1) := by decide +kernel
theorem dX4_isKept_31 : decode cX4_isKept 31 = .ok (.ireturn, 1) := by decide +kernel
theorem dX4_isKept_32 : decode cX4_isKept 32 = .ok (.aload_n 0, 1) := by decide +kernel
theorem dX4_isKept_33 : decode cX4_isKept 33 = .ok (.getfield 22, 3) := by decide +kernel
theorem dX4_isKept_36 : decode cX4_isKept 36 = .ok (.iload_n 2, 1) := by decide +kernel
theorem dX4_isKept_37 : decode cX4_isKept 37 = .ok (.iaload, 1) := by decide +kernel
theorem dX4_isKept_38 : decode cX4_isKept 38 = .ok (.istore_n 2, 1) := by decide +kernel
theorem dX4_isKept_39 : decode cX4_isKept 39 = .ok (.iinc 3 1, 3) := by decide +kernel
theorem dX4_isKept_42 : decode cX4_isKept 42 = .ok (.goto (-38), 3) := by decide +kernel
theorem dX4_isKept_45 : decode cX4_isKept 45 = .ok (.iconst 0, 1) := by decide +kernel
theorem dX4_isKept_46 : decode cX4_isKept 46 = .ok (.ireturn, 1) := by decide +kernel
set_option maxRecDepth 20000 in
theorem ggX4_equalsFresh_X4_cell : GoodIn wsX4_equalsFresh wsX4_cell := goodIn_r _ [6, 7, 8, 9, 10, 11, 12] (by decide +kernel) (by decide +kernel)
set_option maxRecDepth 20000 in
theorem gX4_equalsFresh_X4_cell : GoodIn wsX4_equalsFresh (wsV RX4 68 RX4 yX4_cell wsX4_cell) := goodIn_app (goodIn_of _ (by decide +kernel)) ggX4_equalsFresh_X4_cell
theorem dX4_equalsFresh_0 : decode cX4_equalsFresh 0 = .ok (.iconst 0, 1) := by decide +kernel
theorem dX4_equalsFresh_1 : decode cX4_equalsFresh 1 = .ok (.istore_n 2, 1) := by decide +kernel
theorem dX4_equalsFresh_2 : decode cX4_equalsFresh 2 = .ok (.iload_n 2, 1) := by decide +kernel
theorem dX4_equalsFresh_3 : decode cX4_equalsFresh 3 = .ok (.bipush 6, 2) := by decide +kernel
theorem dX4_equalsFresh_5 : decode cX4_equalsFresh 5 = .ok (.if_icmp .ge 27, 3) := by decide +kernel
theorem dX4_equalsFresh_8 : decode cX4_equalsFresh 8 = .ok (.aload_n 0, 1) := by decide +kernel
theorem dX4_equalsFresh_9 : decode cX4_equalsFresh 9 = .ok (.iload_n 1, 1) := by decide +kernel
theorem dX4_equalsFresh_10 : decode cX4_equalsFresh 10 = .ok (.iload_n 2, 1) := by decide +kernel
theorem dX4_equalsFresh_11 : decode cX4_equalsFresh 11 = .ok (.invokevirtual 68, 3) := by decide +kernel
theorem dX4_equalsFresh_14 : decode cX4_equalsFresh 14 = .ok (.aload_n 0, 1) := by decide +kernel
theorem dX4_equalsFresh_15 : decode cX4_equalsFresh 15 = .ok (.getfield 15, 3) := by decide +kernel
theorem dX4_equalsFresh_18 : decode cX4_equalsFresh 18 = .ok (.iload_n 2, 1) := by decide +kernel
theorem dX4_equalsFresh_19 : decode cX4_equalsFresh 19 = .ok (.laload, 1) := by decide +kernel
theorem dX4_equalsFresh_20 : decode cX4_equalsFresh 20 = .ok (.lcmp, 1) := by decide +kernel
theorem dX4_equalsFresh_21 : decode cX4_equalsFresh 21 = .ok (.ifCond .eq 5, 3) := by decide +kernel
theorem dX4_equalsFresh_24 : decode cX4_equalsFresh 24 = .ok (.iconst 0, 1) := by decide +kernel
theorem dX4_equalsFresh_25 : decode cX4_equalsFresh 25 = .ok (.ireturn, 1) := by decide +kernel
theorem dX4_equalsFresh_26 : decode cX4_equalsFresh 26 = .ok (.iinc 2 1, 3) := by decide +kernel
theorem dX4_equalsFresh_29 : decode cX4_equalsFresh 29 = .ok (.goto (-27), 3) := by decide +kernel
theorem dX4_equalsFresh_32 : decode cX4_equalsFresh 32 = .ok (.iconst 1, 1) := by decide +kernel
theorem dX4_equalsFresh_33 : decode cX4_equalsFresh 33 = .ok (.ireturn, 1) := by decide +kernel
theorem dX5_init_0 : decode cX5_init 0 = .ok (.aload_n 0, 1) := by decide +kernel
theorem dX5_init_1 : decode cX5_init 1 = .ok (.invokespecial 3, 3) := by decide +kernel
theorem dX5_init_4 : decode cX5_init 4 = .ok (.aload_n 0, 1) := by decide +kernel
theorem dX5_init_5 : decode cX5_init 5 = .ok (.iconst 0, 1) := by decide +kernel
theorem dX5_init_6 : decode cX5_init 6 = .ok (.putfield 11, 3) := by decide +kernel
theorem dX5_init_9 : decode cX5_init 9 = .ok (.aload_n 0, 1) := by decide +kernel
theorem dX5_init_10 : decode cX5_init 10 = .ok (.bipush 31, 2) := by decide +kernel
theorem dX5_init_12 : decode cX5_init 12 = .ok (.newarray .long, 2) := by decide +kernel
theorem dX5_init_14 : decode cX5_init 14 = .ok (.putfield 15, 3) := by decide +kernel
theorem dX5_init_17 : decode cX5_init 17 = .ok (.return_, 1) := by decide +kernel
theorem dX5_hasPosition_0 : decode cX5_hasPosition 0 = .ok (.iload_n 1, 1) := by decide +kernel
theorem dX5_hasPosition_1 : decode cX5_hasPosition 1 = .ok (.ifCond .lt 24, 3) := by decide +kernel
theorem dX5_hasPosition_4 : decode cX5_hasPosition 4 = .ok (.iload_n 1, 1) := by decide +kernel
theorem dX5_hasPosition_5 : decode cX5_hasPosition 5 = .ok (.aload_n 0, 1) := by decide +kernel
theorem dX5_hasPosition_6 : decode cX5_hasPosition 6 = .ok (.getfield 19, 3) := by decide +kernel
theorem dX5_hasPosition_9 : decode cX5_hasPosition 9 = .ok (.if_icmp .ge 16, 3) := by decide +kernel
theorem dX5_hasPosition_12 : decode cX5_hasPosition 12 = .ok (.iload_n 1, 1) := by decide +kernel
theorem dX5_hasPosition_13 : decode cX5_hasPosition 13 = .ok (.aload_n 0, 1) := by decide +kernel
theorem dX5_hasPosition_14 : decode cX5_hasPosition 14 = .ok (.getfield 15, 3) := by decide +kernel
theorem dX5_hasPosition_17 : decode cX5_hasPosition 17 = .ok (.arraylength, 1) := by decide +kernel
theorem dX5_hasPosition_18 : decode cX5_hasPosition 18 = .ok (.if_icmp .ge 7, 3) := by decide +kernel
theorem dX5_hasPosition_21 : decode cX5_hasPosition 21 = .ok (.iconst 1, 1) := by decide +kernel
theorem dX5_hasPosition_22 : decode cX5_hasPosition 22 = .ok (.goto 4, 3) := by decide +kernel
theorem dX5_hasPosition_25 : decode cX5_hasPosition 25 = .ok (.iconst 0, 1) := by decide +kernel
theorem dX5_hasPosition_26 : decode cX5_hasPosition 26 = .ok (.ireturn, 1) := by decide +kernel
set_option maxRecDepth 20000 in
theorem ggX5_elementAt_X5_hasPosition : GoodIn wsX5_elementAt wsX5_hasPosition := goodIn_r _ [6, 7, 1, 8, 9, 10] (by decide +kernel) (by decide +kernel)
set_option maxRecDepth 20000 in
theorem gX5_elementAt_X5_hasPosition : GoodIn wsX5_elementAt (wsV RX5 22 RX5 yX5_hasPosition wsX5_hasPosition) := goodIn_app (goodIn_of _ (by decide +kernel)) ggX5_elementAt_X5_hasPosition
theorem dX5_elementAt_0 : decode cX5_elementAt 0 = .ok (.aload_n 0, 1) := by decide +kernel
theorem dX5_elementAt_1 : decode cX5_elementAt 1 = .ok (.iload_n 1, 1) := by decide +kernel
theorem dX5_elementAt_2 : decode cX5_elementAt 2 = .ok (.invokevirtual 22, 3) := by decide +kernel
theorem dX5_elementAt_5 : decode cX5_elementAt 5 = .ok (.ifCond .eq 12, 3) := by decide +kernel
theorem dX5_elementAt_8 : decode cX5_elementAt 8 = .ok (.aload_n 0, 1) := by decide +kernel
theorem dX5_elementAt_9 : decode cX5_elementAt 9 = .ok (.getfield 15, 3) := by decide +kernel
theorem dX5_elementAt_12 : decode cX5_elementAt 12 = .ok (.iload_n 1, 1) := by decide +kernel
theorem dX5_elementAt_13 : decode cX5_elementAt 13 = .ok (.laload, 1) := by decide +kernel
theorem dX5_elementAt_14 : decode cX5_elementAt 14 = .ok (.goto 4, 3) := by decide +kernel
theorem dX5_elementAt_17 : decode cX5_elementAt 17 = .ok (.lconst 0, 1) := by decide +kernel
theorem dX5_elementAt_18 : decode cX5_elementAt 18 = .ok (.lreturn, 1) := by decide +kernel
set_option maxRecDepth 20000 in
theorem ggX5_putWord_X8_letterAt : GoodIn wsX5_putWord wsX8_letterAt := goodIn_r _ [9, 10, 11, 12, 13, 8, 14, 15, 19, 20] (by decide +kernel) (by decide +kernel)
set_option maxRecDepth 20000 in
theorem gX5_putWord_X8_letterAt : GoodIn wsX5_putWord (wsV RX5 29 RX8 yX8_letterAt wsX8_letterAt) := goodIn_app (goodIn_of _ (by decide +kernel)) ggX5_putWord_X8_letterAt
theorem dX5_putWord_0 : decode cX5_putWord 0 = .ok (.aload_n 0, 1) := by decide +kernel
theorem dX5_putWord_1 : decode cX5_putWord 1 = .ok (.iconst 1, 1) := by decide +kernel
theorem dX5_putWord_2 : decode cX5_putWord 2 = .ok (.putfield 11, 3) := by decide +kernel
theorem dX5_putWord_5 : decode cX5_putWord 5 = .ok (.aload_n 0, 1) := by decide +kernel
theorem dX5_putWord_6 : decode cX5_putWord 6 = .ok (.aload_n 1, 1) := by decide +kernel
theorem dX5_putWord_7 : decode cX5_putWord 7 = .ok (.getfield 26, 3) := by decide +kernel
theorem dX5_putWord_10 : decode cX5_putWord 10 = .ok (.putfield 19, 3) := by decide +kernel
theorem dX5_putWord_13 : decode cX5_putWord 13 = .ok (.iconst 0, 1) := by decide +kernel
theorem dX5_putWord_14 : decode cX5_putWord 14 = .ok (.istore_n 2, 1) := by decide +kernel
theorem dX5_putWord_15 : decode cX5_putWord 15 = .ok (.iload_n 2, 1) := by decide +kernel
theorem dX5_putWord_16 : decode cX5_putWord 16 = .ok (.aload_n 0, 1) := by decide +kernel
theorem dX5_putWord_17 : decode cX5_putWord 17 = .ok (.getfield 19, 3) := by decide +kernel
theorem dX5_putWord_20 : decode cX5_putWord 20 = .ok (.if_icmp .ge 30, 3) := by decide +kernel
theorem dX5_putWord_23 : decode cX5_putWord 23 = .ok (.iload_n 2, 1) := by decide +kernel
theorem dX5_putWord_24 : decode cX5_putWord 24 = .ok (.aload_n 0, 1) := by decide +kernel
theorem dX5_putWord_25 : decode cX5_putWord 25 = .ok (.getfield 15, 3) := by decide +kernel
theorem dX5_putWord_28 : decode cX5_putWord 28 = .ok (.arraylength, 1) := by decide +kernel
theorem dX5_putWord_29 : decode cX5_putWord 29 = .ok (.if_icmp .ge 21, 3) := by decide +kernel
theorem dX5_putWord_32 : decode cX5_putWord 32 = .ok (.aload_n 0, 1) := by decide +kernel
theorem dX5_putWord_33 : decode cX5_putWord 33 = .ok (.getfield 15, 3) := by decide +kernel
theorem dX5_putWord_36 : decode cX5_putWord 36 = .ok (.iload_n 2, 1) := by decide +kernel
theorem dX5_putWord_37 : decode cX5_putWord 37 = .ok (.aload_n 1, 1) := by decide +kernel
theorem dX5_putWord_38 : decode cX5_putWord 38 = .ok (.iload_n 2, 1) := by decide +kernel
theorem dX5_putWord_39 : decode cX5_putWord 39 = .ok (.invokevirtual 29, 3) := by decide +kernel
theorem dX5_putWord_42 : decode cX5_putWord 42 = .ok (.i2l, 1) := by decide +kernel
theorem dX5_putWord_43 : decode cX5_putWord 43 = .ok (.lastore, 1) := by decide +kernel
theorem dX5_putWord_44 : decode cX5_putWord 44 = .ok (.iinc 2 1, 3) := by decide +kernel
theorem dX5_putWord_47 : decode cX5_putWord 47 = .ok (.goto (-32), 3) := by decide +kernel
theorem dX5_putWord_50 : decode cX5_putWord 50 = .ok (.return_, 1) := by decide +kernel
theorem dX5_putCounts_0 : decode cX5_putCounts 0 = .ok (.aload_n 0, 1) := by decide +kernel
theorem dX5_putCounts_1 : decode cX5_putCounts 1 = .ok (.iconst 2, 1) := by decide +kernel
theorem dX5_putCounts_2 : decode cX5_putCounts 2 = .ok (.putfield 11, 3) := by decide +kernel
theorem dX5_putCounts_5 : decode cX5_putCounts 5 = .ok (.aload_n 0, 1) := by decide +kernel
theorem dX5_putCounts_6 : decode cX5_putCounts 6 = .ok (.iload_n 2, 1) := by decide +kernel
theorem dX5_putCounts_7 : decode cX5_putCounts 7 = .ok (.putfield 19, 3) := by decide +kernel
theorem dX5_putCounts_10 : decode cX5_putCounts 10 = .ok (.iconst 0, 1) := by decide +kernel
theorem dX5_putCounts_11 : decode cX5_putCounts 11 = .ok (.istore_n 3, 1) := by decide +kernel
theorem dX5_putCounts_12 : decode cX5_putCounts 12 = .ok (.iload_n 3, 1) := by decide +kernel
theorem dX5_putCounts_13 : decode cX5_putCounts 13 = .ok (.aload_n 0, 1) := by decide +kernel
theorem dX5_putCounts_14 : decode cX5_putCounts 14 = .ok (.getfield 19, 3) := by decide +kernel
theorem dX5_putCounts_17 : decode cX5_putCounts 17 = .ok (.if_icmp .ge 33, 3) := by decide +kernel
theorem dX5_putCounts_20 : decode cX5_putCounts 20 = .ok (.iload_n 3, 1) := by decide +kernel
theorem dX5_putCounts_21 : decode cX5_putCounts 21 = .ok (.aload_n 0, 1) := by decide +kernel
theorem dX5_putCounts_22 : decode cX5_putCounts 22 = .ok (.getfield 15, 3) := by decide +kernel
theorem dX5_putCounts_25 : decode cX5_putCounts 25 = .ok (.arraylength, 1) := by decide +kernel
theorem dX5_putCounts_26 : decode cX5_putCounts 26 = .ok (.if_icmp .ge 24, 3) := by decide +kernel
theorem dX5_putCounts_29 : decode cX5_putCounts 29 = .ok (.iload_n 3, 1) := by decide +kernel
theorem dX5_putCounts_30 : decode cX5_putCounts 30 = .ok (.aload_n 1, 1) := by decide +kernel
theorem dX5_putCounts_31 : decode cX5_putCounts 31 = .ok (.arraylength, 1) := by decide +kernel
theorem dX5_putCounts_32 : decode cX5_putCounts 32 = .ok (.if_icmp .ge 18, 3) := by decide +kernel
theorem dX5_putCounts_35 : decode cX5_putCounts 35 = .ok (.aload_n 0, 1) := by decide +kernel
theorem dX5_putCounts_36 : decode cX5_putCounts 36 = .ok (.getfield 15, 3) := by decide +kernel
theorem dX5_putCounts_39 : decode cX5_putCounts 39 = .ok (.iload_n 3, 1) := by decide +kernel
theorem dX5_putCounts_40 : decode cX5_putCounts 40 = .ok (.aload_n 1, 1) := by decide +kernel
theorem dX5_putCounts_41 : decode cX5_putCounts 41 = .ok (.iload_n 3, 1) := by decide +kernel
theorem dX5_putCounts_42 : decode cX5_putCounts 42 = .ok (.laload, 1) := by decide +kernel
theorem dX5_putCounts_43 : decode cX5_putCounts 43 = .ok (.lastore, 1) := by decide +kernel
theorem dX5_putCounts_44 : decode cX5_putCounts 44 = .ok (.iinc 3 1, 3) := by decide +kernel
theorem dX5_putCounts_47 : decode cX5_putCounts 47 = .ok (.goto (-35), 3) := by decide +kernel
theorem dX5_putCounts_50 : decode cX5_putCounts 50 = .ok (.return_, 1) := by decide +kernel
set_option maxRecDepth 20000 in
theorem ggX5_copyWordTo_X5_elementAt : GoodIn wsX5_copyWordTo wsX5_elementAt := goodIn_r _ [7, 8, 9, 10, 11, 6, 12, 2, 30, 31, 32] (by decide +kernel) (by decide +kernel)
set_option maxRecDepth 20000 in
theorem gX5_copyWordTo_X5_elementAt : GoodIn wsX5_copyWordTo (wsV RX5 33 RX5 yX5_elementAt wsX5_elementAt) := goodIn_app (goodIn_of _ (by decide +kernel)) ggX5_copyWordTo_X5_elementAt
set_option maxRecDepth 20000 in
theorem ggX5_copyWordTo_X8_add : GoodIn wsX5_copyWordTo wsX8_add := goodIn_r _ [17, 18, 19, 20, 21, 22, 16, 23, 24, 25, 26, 27, 28, 29] (by decide +kernel) (by decide +kernel)
set_option maxRecDepth 20000 in
theorem gX5_copyWordTo_X8_add : GoodIn wsX5_copyWordTo (wsV RX5 37 RX8 yX8_add wsX8_add) := goodIn_app (goodIn_of _ (by decide +kernel)) ggX5_copyWordTo_X8_add
theorem dX5_copyWordTo_0 : decode cX5_copyWordTo 0 = .ok (.aload_n 1, 1) := by decide +kernel
theorem dX5_copyWordTo_1 : decode cX5_copyWordTo 1 = .ok (.iconst 0, 1) := by decide +kernel
theorem dX5_copyWordTo_2 : decode cX5_copyWordTo 2 = .ok (.putfield 26, 3) := by decide +kernel
theorem dX5_copyWordTo_5 : decode cX5_copyWordTo 5 = .ok (.iconst 0, 1) := by decide +kernel
theorem dX5_copyWordTo_6 : decode cX5_copyWordTo 6 = .ok (.istore_n 2, 1) := by decide +kernel
theorem dX5_copyWordTo_7 : decode cX5_copyWordTo 7 = .ok (.iload_n 2, 1) := by decide +kernel
theorem dX5_copyWordTo_8 : decode cX5_copyWordTo 8 = .ok (.aload_n 0, 1) := by decide +kernel
theorem dX5_copyWordTo_9 : decode cX5_copyWordTo 9 = .ok (.getfield 19, 3) := by decide +kernel
theorem dX5_copyWordTo_12 : decode cX5_copyWordTo 12 = .ok (.if_icmp .ge 19, 3) := by decide +kernel
theorem dX5_copyWordTo_15 : decode cX5_copyWordTo 15 = .ok (.aload_n 1, 1) := by decide +kernel
theorem dX5_copyWordTo_16 : decode cX5_copyWordTo 16 = .ok (.aload_n 0, 1) := by decide +kernel
theorem dX5_copyWordTo_17 : decode cX5_copyWordTo 17 = .ok (.iload_n 2, 1) := by decide +kernel
theorem dX5_copyWordTo_18 : decode cX5_copyWordTo 18 = .ok (.invokevirtual 33, 3) := by decide +kernel
theorem dX5_copyWordTo_21 : decode cX5_copyWordTo 21 = .ok (.l2i, 1) := by decide +kernel
theorem dX5_copyWordTo_22 : decode cX5_copyWordTo 22 = .ok (.invokevirtual 37, 3) := by decide +kernel
theorem dX5_copyWordTo_25 : decode cX5_copyWordTo 25 = .ok (.iinc 2 1, 3) := by decide +kernel
theorem dX5_copyWordTo_28 : decode cX5_copyWordTo 28 = .ok (.goto (-21), 3) := by decide +kernel
theorem dX5_copyWordTo_31 : decode cX5_copyWordTo 31 = .ok (.return_, 1) := by decide +kernel
theorem dX6_init_0 : decode cX6_init 0 = .ok (.aload_n 0, 1) := by decide +kernel
theorem dX6_init_1 : decode cX6_init 1 = .ok (.invokespecial 3, 3) := by decide +kernel
theorem dX6_init_4 : decode cX6_init 4 = .ok (.aload_n 0, 1) := by decide +kernel
theorem dX6_init_5 : decode cX6_init 5 = .ok (.sipush 192, 3) := by decide +kernel
theorem dX6_init_8 : decode cX6_init 8 = .ok (.newarray .int, 2) := by decide +kernel
theorem dX6_init_10 : decode cX6_init 10 = .ok (.putfield 9, 3) := by decide +kernel
theorem dX6_init_13 : decode cX6_init 13 = .ok (.aload_n 0, 1) := by decide +kernel
theorem dX6_init_14 : decode cX6_init 14 = .ok (.sipush 192, 3) := by decide +kernel
theorem dX6_init_17 : decode cX6_init 17 = .ok (.newarray .int, 2) := by decide +kernel
theorem dX6_init_19 : decode cX6_init 19 = .ok (.putfield 15, 3) := by decide +kernel
theorem dX6_init_22 : decode cX6_init 22 = .ok (.return_, 1) := by decide +kernel
set_option maxRecDepth 20000 in
theorem ggX6_load_X0_targetsOf : GoodIn wsX6_load wsX0_targetsOf := goodIn_r _ [5, 6, 7, 18, 19, 20, 21] (by decide +kernel) (by decide +kernel)
set_option maxRecDepth 20000 in
theorem gX6_load_X0_targetsOf : GoodIn wsX6_load (wsV RX6 18 RX0 yX0_targetsOf wsX0_targetsOf) := goodIn_app (goodIn_of _ (by decide +kernel)) ggX6_load_X0_targetsOf
set_option maxRecDepth 20000 in
theorem ggX6_load_X6_loadSetsUpTo : GoodIn wsX6_load wsX6_loadSetsUpTo := goodIn_r _ [12, 13, 14, 15, 16, 17, 22, 23] (by decide +kernel) (by decide +kernel)
set_option maxRecDepth 20000 in
theorem gX6_load_X6_loadSetsUpTo : GoodIn wsX6_load (wsV RX6 24 RX6 yX6_loadSetsUpTo wsX6_loadSetsUpTo) := goodIn_app (goodIn_of _ (by decide +kernel)) ggX6_load_X6_loadSetsUpTo
theorem dX6_load_0 : decode cX6_load 0 = .ok (.iconst 0, 1) := by decide +kernel
theorem dX6_load_1 : decode cX6_load 1 = .ok (.istore_n 2, 1) := by decide +kernel
theorem dX6_load_2 : decode cX6_load 2 = .ok (.iload_n 2, 1) := by decide +kernel
theorem dX6_load_3 : decode cX6_load 3 = .ok (.iconst 3, 1) := by decide +kernel
theorem dX6_load_4 : decode cX6_load 4 = .ok (.if_icmp .ge 35, 3) := by decide +kernel
theorem dX6_load_7 : decode cX6_load 7 = .ok (.iconst 0, 1) := by decide +kernel
theorem dX6_load_8 : decode cX6_load 8 = .ok (.istore_n 3, 1) := by decide +kernel
theorem dX6_load_9 : decode cX6_load 9 = .ok (.iload_n 3, 1) := by decide +kernel
theorem dX6_load_10 : decode cX6_load 10 = .ok (.bipush 6, 2) := by decide +kernel
theorem dX6_load_12 : decode cX6_load 12 = .ok (.if_icmp .ge 21, 3) := by decide +kernel
theorem dX6_load_15 : decode cX6_load 15 = .ok (.aload_n 0, 1) := by decide +kernel
theorem dX6_load_16 : decode cX6_load 16 = .ok (.iload_n 3, 1) := by decide +kernel
theorem dX6_load_17 : decode cX6_load 17 = .ok (.iload_n 2, 1) := by decide +kernel
theorem dX6_load_18 : decode cX6_load 18 = .ok (.aload_n 1, 1) := by decide +kernel
theorem dX6_load_19 : decode cX6_load 19 = .ok (.iload_n 3, 1) := by decide +kernel
theorem dX6_load_20 : decode cX6_load 20 = .ok (.iload_n 2, 1) := by decide +kernel
theorem dX6_load_21 : decode cX6_load 21 = .ok (.invokevirtual 18, 3) := by decide +kernel
theorem dX6_load_24 : decode cX6_load 24 = .ok (.invokevirtual 24, 3) := by decide +kernel
theorem dX6_load_27 : decode cX6_load 27 = .ok (.iinc 3 1, 3) := by decide +kernel
theorem dX6_load_30 : decode cX6_load 30 = .ok (.goto (-21), 3) := by decide +kernel
theorem dX6_load_33 : decode cX6_load 33 = .ok (.iinc 2 1, 3) := by decide +kernel
theorem dX6_load_36 : decode cX6_load 36 = .ok (.goto (-34), 3) := by decide +kernel
theorem dX6_load_39 : decode cX6_load 39 = .ok (.return_, 1) := by decide +kernel
set_option maxRecDepth 20000 in
theorem ggX6_loadSetsUpTo_X10_isLetter : GoodIn wsX6_loadSetsUpTo wsX10_isLetter := goodIn_r _ [5] (by decide +kernel) (by decide +kernel)
set_option maxRecDepth 20000 in
theorem gX6_loadSetsUpTo_X10_isLetter_n28 : GoodIn wsX6_loadSetsUpTo (wsX10_isLetter) := ggX6_loadSetsUpTo_X10_isLetter
theorem dX6_loadSetsUpTo_0 : decode cX6_loadSetsUpTo 0 = .ok (.iload_n 1, 1) := by decide +kernel
theorem dX6_loadSetsUpTo_1 : decode cX6_loadSetsUpTo 1 = .ok (.ifCond .lt 16, 3) := by decide +kernel
theorem dX6_loadSetsUpTo_4 : decode cX6_loadSetsUpTo 4 = .ok (.iload_n 1, 1) := by decide +kernel
theorem dX6_loadSetsUpTo_5 : decode cX6_loadSetsUpTo 5 = .ok (.bipush 6, 2) := by decide +kernel
theorem dX6_loadSetsUpTo_7 : decode cX6_loadSetsUpTo 7 = .ok (.if_icmp .ge 10, 3) := by decide +kernel
theorem dX6_loadSetsUpTo_10 : decode cX6_loadSetsUpTo 10 = .ok (.iload_n 2, 1) := by decide +kernel
theorem dX6_loadSetsUpTo_11 : decode cX6_loadSetsUpTo 11 = .ok (.invokestatic 28, 3) := by decide +kernel
theorem dX6_loadSetsUpTo_14 : decode cX6_loadSetsUpTo 14 = .ok (.ifCond .ne 4, 3) := by decide +kernel
theorem dX6_loadSetsUpTo_17 : decode cX6_loadSetsUpTo 17 = .ok (.return_, 1) := by decide +kernel
theorem dX6_loadSetsUpTo_18 : decode cX6_loadSetsUpTo 18 = .ok (.iconst 1, 1) := by decide +kernel
theorem dX6_loadSetsUpTo_19 : decode cX6_loadSetsUpTo 19 = .ok (.iload_n 1, 1) := by decide +kernel
theorem dX6_loadSetsUpTo_20 : decode cX6_loadSetsUpTo 20 = .ok (.ishl, 1) := by decide +kernel
theorem dX6_loadSetsUpTo_21 : decode cX6_loadSetsUpTo 21 = .ok (.istore 4, 2) := by decide +kernel
theorem dX6_loadSetsUpTo_23 : decode cX6_loadSetsUpTo 23 = .ok (.iconst 0, 1) := by decide +kernel
theorem dX6_loadSetsUpTo_24 : decode cX6_loadSetsUpTo 24 = .ok (.istore 5, 2) := by decide +kernel
theorem dX6_loadSetsUpTo_26 : decode cX6_loadSetsUpTo 26 = .ok (.iload 5, 2) := by decide +kernel
theorem dX6_loadSetsUpTo_28 : decode cX6_loadSetsUpTo 28 = .ok (.iload 4, 2) := by decide +kernel
theorem dX6_loadSetsUpTo_30 : decode cX6_loadSetsUpTo 30 = .ok (.if_icmp .ge 65, 3) := by decide +kernel
theorem dX6_loadSetsUpTo_33 : decode cX6_loadSetsUpTo 33 = .ok (.iload_n 2, 1) := by decide +kernel
theorem dX6_loadSetsUpTo_34 : decode cX6_loadSetsUpTo 34 = .ok (.bipush 64, 2) := by decide +kernel
theorem dX6_loadSetsUpTo_36 : decode cX6_loadSetsUpTo 36 = .ok (.imul, 1) := by decide +kernel
theorem dX6_loadSetsUpTo_37 : decode cX6_loadSetsUpTo 37 = .ok (.iload 5, 2) := by decide +kernel
theorem dX6_loadSetsUpTo_39 : decode cX6_loadSetsUpTo 39 = .ok (.iadd, 1) := by decide +kernel
theorem dX6_loadSetsUpTo_40 : decode cX6_loadSetsUpTo 40 = .ok (.istore 6, 2) := by decide +kernel
theorem dX6_loadSetsUpTo_42 : decode cX6_loadSetsUpTo 42 = .ok (.iload 6, 2) := by decide +kernel
theorem dX6_loadSetsUpTo_44 : decode cX6_loadSetsUpTo 44 = .ok (.iload 4, 2) := by decide +kernel
theorem dX6_loadSetsUpTo_46 : decode cX6_loadSetsUpTo 46 = .ok (.iadd, 1) := by decide +kernel
theorem dX6_loadSetsUpTo_47 : decode cX6_loadSetsUpTo 47 = .ok (.istore 7, 2) := by decide +kernel
theorem dX6_loadSetsUpTo_49 : decode cX6_loadSetsUpTo 49 = .ok (.aload_n 0, 1) := by decide +kernel
theorem dX6_loadSetsUpTo_50 : decode cX6_loadSetsUpTo 50 = .ok (.getfield 9, 3) := by decide +kernel
theorem dX6_loadSetsUpTo_53 : decode cX6_loadSetsUpTo 53 = .ok (.iload 7, 2) := by decide +kernel
theorem dX6_loadSetsUpTo_55 : decode cX6_loadSetsUpTo 55 = .ok (.aload_n 0, 1) := by decide +kernel
theorem dX6_loadSetsUpTo_56 : decode cX6_loadSetsUpTo 56 = .ok (.getfield 9, 3) := by decide +kernel
theorem dX6_loadSetsUpTo_59 : decode cX6_loadSetsUpTo 59 = .ok (.iload 6, 2) := by decide +kernel
theorem dX6_loadSetsUpTo_61 : decode cX6_loadSetsUpTo 61 = .ok (.iaload, 1) := by decide +kernel
theorem dX6_loadSetsUpTo_62 : decode cX6_loadSetsUpTo 62 = .ok (.iload_n 3, 1) := by decide +kernel
theorem dX6_loadSetsUpTo_63 : decode cX6_loadSetsUpTo 63 = .ok (.ior, 1) := by decide +kernel
theorem dX6_loadSetsUpTo_64 : decode cX6_loadSetsUpTo 64 = .ok (.iastore, 1) := by decide +kernel
theorem dX6_loadSetsUpTo_65 : decode cX6_loadSetsUpTo 65 = .ok (.aload_n 0, 1) := by decide +kernel
theorem dX6_loadSetsUpTo_66 : decode cX6_loadSetsUpTo 66 = .ok (.getfield 15, 3) := by decide +kernel
theorem dX6_loadSetsUpTo_69 : decode cX6_loadSetsUpTo 69 = .ok (.iload 7, 2) := by decide +kernel
theorem dX6_loadSetsUpTo_71 : decode cX6_loadSetsUpTo 71 = .ok (.aload_n 0, 1) := by decide +kernel
theorem dX6_loadSetsUpTo_72 : decode cX6_loadSetsUpTo 72 = .ok (.getfield 15, 3) := by decide +kernel
theorem dX6_loadSetsUpTo_75 : decode cX6_loadSetsUpTo 75 = .ok (.iload 6, 2) := by decide +kernel
theorem dX6_loadSetsUpTo_77 : decode cX6_loadSetsUpTo 77 = .ok (.iaload, 1) := by decide +kernel
theorem dX6_loadSetsUpTo_78 : decode cX6_loadSetsUpTo 78 = .ok (.aload_n 0, 1) := by decide +kernel
theorem dX6_loadSetsUpTo_79 : decode cX6_loadSetsUpTo 79 = .ok (.getfield 9, 3) := by decide +kernel
theorem dX6_loadSetsUpTo_82 : decode cX6_loadSetsUpTo 82 = .ok (.iload 6, 2) := by decide +kernel
theorem dX6_loadSetsUpTo_84 : decode cX6_loadSetsUpTo 84 = .ok (.iaload, 1) := by decide +kernel
theorem dX6_loadSetsUpTo_85 : decode cX6_loadSetsUpTo 85 = .ok (.iload_n 3, 1) := by decide +kernel
theorem dX6_loadSetsUpTo_86 : decode cX6_loadSetsUpTo 86 = .ok (.iand, 1) := by decide +kernel
theorem dX6_loadSetsUpTo_87 : decode cX6_loadSetsUpTo 87 = .ok (.ior, 1) := by decide +kernel
theorem dX6_loadSetsUpTo_88 : decode cX6_loadSetsUpTo 88 = .ok (.iastore, 1) := by decide +kernel
theorem dX6_loadSetsUpTo_89 : decode cX6_loadSetsUpTo 89 = .ok (.iinc 5 1, 3) := by decide +kernel
theorem dX6_loadSetsUpTo_92 : decode cX6_loadSetsUpTo 92 = .ok (.goto (-66), 3) := by decide +kernel
theorem dX6_loadSetsUpTo_95 : decode cX6_loadSetsUpTo 95 = .ok (.return_, 1) := by decide +kernel
theorem dX6_reachedOnce_0 : decode cX6_reachedOnce 0 = .ok (.iload_n 1, 1) := by decide +kernel
theorem dX6_reachedOnce_1 : decode cX6_reachedOnce 1 = .ok (.ifCond .lt 22, 3) := by decide +kernel
theorem dX6_reachedOnce_4 : decode cX6_reachedOnce 4 = .ok (.iload_n 1, 1) := by decide +kernel
theorem dX6_reachedOnce_5 : decode cX6_reachedOnce 5 = .ok (.bipush 64, 2) := by decide +kernel
theorem dX6_reachedOnce_7 : decode cX6_reachedOnce 7 = .ok (.if_icmp .ge 16, 3) := by decide +kernel
theorem dX6_reachedOnce_10 : decode cX6_reachedOnce 10 = .ok (.iload_n 2, 1) := by decide +kernel
theorem dX6_reachedOnce_11 : decode cX6_reachedOnce 11 = .ok (.ifCond .lt 12, 3) := by decide +kernel
theorem dX6_reachedOnce_14 : decode cX6_reachedOnce 14 = .ok (.iload_n 2, 1) := by decide +kernel
theorem dX6_reachedOnce_15 : decode cX6_reachedOnce 15 = .ok (.iconst 3, 1) := by decide +kernel
theorem dX6_reachedOnce_16 : decode cX6_reachedOnce 16 = .ok (.if_icmp .ge 7, 3) := by decide +kernel
theorem dX6_reachedOnce_19 : decode cX6_reachedOnce 19 = .ok (.iconst 1, 1) := by decide +kernel
theorem dX6_reachedOnce_20 : decode cX6_reachedOnce 20 = .ok (.goto 4, 3) := by decide +kernel
theorem dX6_reachedOnce_23 : decode cX6_reachedOnce 23 = .ok (.iconst 0, 1) := by decide +kernel
theorem dX6_reachedOnce_24 : decode cX6_reachedOnce 24 = .ok (.istore_n 3, 1) := by decide +kernel
theorem dX6_reachedOnce_25 : decode cX6_reachedOnce 25 = .ok (.iload_n 3, 1) := by decide +kernel
theorem dX6_reachedOnce_26 : decode cX6_reachedOnce 26 = .ok (.ifCond .eq 17, 3) := by decide +kernel
theorem dX6_reachedOnce_29 : decode cX6_reachedOnce 29 = .ok (.aload_n 0, 1) := by decide +kernel
theorem dX6_reachedOnce_30 : decode cX6_reachedOnce 30 = .ok (.getfield 9, 3) := by decide +kernel
theorem dX6_reachedOnce_33 : decode cX6_reachedOnce 33 = .ok (.iload_n 2, 1) := by decide +kernel
theorem dX6_reachedOnce_34 : decode cX6_reachedOnce 34 = .ok (.bipush 64, 2) := by decide +kernel
theorem dX6_reachedOnce_36 : decode cX6_reachedOnce 36 = .ok (.imul, 1) := by decide +kernel
theorem dX6_reachedOnce_37 : decode cX6_reachedOnce 37 = .ok (.iload_n 1, 1) := by decide +kernel
theorem dX6_reachedOnce_38 : decode cX6_reachedOnce 38 = .ok (.iadd, 1) := by decide +kernel
theorem dX6_reachedOnce_39 : decode cX6_reachedOnce 39 = .ok (.iaload, 1) := by decide +kernel
theorem dX6_reachedOnce_40 : decode cX6_reachedOnce 40 = .ok (.goto 4, 3) := by decide +kernel
theorem dX6_reachedOnce_43 : decode cX6_reachedOnce 43 = .ok (.iconst 0, 1) := by decide +kernel
theorem dX6_reachedOnce_44 : decode cX6_reachedOnce 44 = .ok (.ireturn, 1) := by decide +kernel
theorem dX6_reachedTwice_0 : decode cX6_reachedTwice 0 = .ok (.iload_n 1, 1) := by decide +kernel
theorem dX6_reachedTwice_1 : decode cX6_reachedTwice 1 = .ok (.ifCond .lt 22, 3) := by decide +kernel
theorem dX6_reachedTwice_4 : decode cX6_reachedTwice 4 = .ok (.iload_n 1, 1) := by decide +kernel
theorem dX6_reachedTwice_5 : decode cX6_reachedTwice 5 = .ok (.bipush 64, 2) := by decide +kernel
theorem dX6_reachedTwice_7 : decode cX6_reachedTwice 7 = .ok (.if_icmp .ge 16, 3) := by decide +kernel
theorem dX6_reachedTwice_10 : decode cX6_reachedTwice 10 = .ok (.iload_n 2, 1) := by decide +kernel
theorem dX6_reachedTwice_11 : decode cX6_reachedTwice 11 = .ok (.ifCond .lt 12, 3) := by decide +kernel
theorem dX6_reachedTwice_14 : decode cX6_reachedTwice 14 = .ok (.iload_n 2, 1) := by decide +kernel
theorem dX6_reachedTwice_15 : decode cX6_reachedTwice 15 = .ok (.iconst 3, 1) := by decide +kernel
theorem dX6_reachedTwice_16 : decode cX6_reachedTwice 16 = .ok (.if_icmp .ge 7, 3) := by decide +kernel
theorem dX6_reachedTwice_19 : decode cX6_reachedTwice 19 = .ok (.iconst 1, 1) := by decide +kernel
theorem dX6_reachedTwice_20 : decode cX6_reachedTwice 20 = .ok (.goto 4, 3) := by decide +kernel
theorem dX6_reachedTwice_23 : decode cX6_reachedTwice 23 = .ok (.iconst 0, 1) := by decide +kernel
theorem dX6_reachedTwice_24 : decode cX6_reachedTwice 24 = .ok (.istore_n 3, 1) := by decide +kernel
theorem dX6_reachedTwice_25 : decode cX6_reachedTwice 25 = .ok (.iload_n 3, 1) := by decide +kernel
theorem dX6_reachedTwice_26 : decode cX6_reachedTwice 26 = .ok (.ifCond .eq 17, 3) := by decide +kernel
theorem dX6_reachedTwice_29 : decode cX6_reachedTwice 29 = .ok (.aload_n 0, 1) := by decide +kernel
theorem dX6_reachedTwice_30 : decode cX6_reachedTwice 30 = .ok (.getfield 15, 3) := by decide +kernel
theorem dX6_reachedTwice_33 : decode cX6_reachedTwice 33 = .ok (.iload_n 2, 1) := by decide +kernel
theorem dX6_reachedTwice_34 : decode cX6_reachedTwice 34 = .ok (.bipush 64, 2) := by decide +kernel
theorem dX6_reachedTwice_36 : decode cX6_reachedTwice 36 = .ok (.imul, 1) := by decide +kernel
theorem dX6_reachedTwice_37 : decode cX6_reachedTwice 37 = .ok (.iload_n 1, 1) := by decide +kernel
theorem dX6_reachedTwice_38 : decode cX6_reachedTwice 38 = .ok (.iadd, 1) := by decide +kernel
theorem dX6_reachedTwice_39 : decode cX6_reachedTwice 39 = .ok (.iaload, 1) := by decide +kernel
theorem dX6_reachedTwice_40 : decode cX6_reachedTwice 40 = .ok (.goto 4, 3) := by decide +kernel
theorem dX6_reachedTwice_43 : decode cX6_reachedTwice 43 = .ok (.iconst 0, 1) := by decide +kernel
theorem dX6_reachedTwice_44 : decode cX6_reachedTwice 44 = .ok (.ireturn, 1) := by decide +kernel
theorem dX7_init_0 : decode cX7_init 0 = .ok (.aload_n 0, 1) := by decide +kernel
theorem dX7_init_1 : decode cX7_init 1 = .ok (.invokespecial 3, 3) := by decide +kernel
theorem dX7_init_4 : decode cX7_init 4 = .ok (.aload_n 0, 1) := by decide +kernel
theorem dX7_init_5 : decode cX7_init 5 = .ok (.bipush 60, 2) := by decide +kernel
theorem dX7_init_7 : decode cX7_init 7 = .ok (.newarray .int, 2) := by decide +kernel
theorem dX7_init_9 : decode cX7_init 9 = .ok (.putfield 9, 3) := by decide +kernel
theorem dX7_init_12 : decode cX7_init 12 = .ok (.return_, 1) := by decide +kernel
theorem dX7_add_0 : decode cX7_add 0 = .ok (.aload_n 0, 1) := by decide +kernel
theorem dX7_add_1 : decode cX7_add 1 = .ok (.getfield 15, 3) := by decide +kernel
theorem dX7_add_4 : decode cX7_add 4 = .ok (.ifCond .lt 15, 3) := by decide +kernel
theorem dX7_add_7 : decode cX7_add 7 = .ok (.aload_n 0, 1) := by decide +kernel
theorem dX7_add_8 : decode cX7_add 8 = .ok (.getfield 15, 3) := by decide +kernel
theorem dX7_add_11 : decode cX7_add 11 = .ok (.aload_n 0, 1) := by decide +kernel
theorem dX7_add_12 : decode cX7_add 12 = .ok (.getfield 9, 3) := by decide +kernel
theorem dX7_add_15 : decode cX7_add 15 = .ok (.arraylength, 1) := by decide +kernel
theorem dX7_add_16 : decode cX7_add 16 = .ok (.if_icmp .lt 5, 3) := by decide +kernel
theorem dX7_add_19 : decode cX7_add 19 = .ok (.iconst 0, 1) := by decide +kernel
theorem dX7_add_20 : decode cX7_add 20 = .ok (.ireturn, 1) := by decide +kernel
theorem dX7_add_21 : decode cX7_add 21 = .ok (.aload_n 0, 1) := by decide +kernel
theorem dX7_add_22 : decode cX7_add 22 = .ok (.getfield 9, 3) := by decide +kernel
theorem dX7_add_25 : decode cX7_add 25 = .ok (.aload_n 0, 1) := by decide +kernel
theorem dX7_add_26 : decode cX7_add 26 = .ok (.getfield 15, 3) := by decide +kernel
theorem dX7_add_29 : decode cX7_add 29 = .ok (.iload_n 1, 1) := by decide +kernel
theorem dX7_add_30 : decode cX7_add 30 = .ok (.iastore, 1) := by decide +kernel
theorem dX7_add_31 : decode cX7_add 31 = .ok (.aload_n 0, 1) := by decide +kernel
theorem dX7_add_32 : decode cX7_add 32 = .ok (.dup, 1) := by decide +kernel
theorem dX7_add_33 : decode cX7_add 33 = .ok (.getfield 15, 3) := by decide +kernel
theorem dX7_add_36 : decode cX7_add 36 = .ok (.iconst 1, 1) := by decide +kernel
theorem dX7_add_37 : decode cX7_add 37 = .ok (.iadd, 1) := by decide +kernel
theorem dX7_add_38 : decode cX7_add 38 = .ok (.putfield 15, 3) := by decide +kernel
theorem dX7_add_41 : decode cX7_add 41 = .ok (.iconst 1, 1) := by decide +kernel
theorem dX7_add_42 : decode cX7_add 42 = .ok (.ireturn, 1) := by decide +kernel
theorem dX7_characterAt_0 : decode cX7_characterAt 0 = .ok (.iload_n 1, 1) := by decide +kernel
theorem dX7_characterAt_1 : decode cX7_characterAt 1 = .ok (.ifCond .lt 29, 3) := by decide +kernel
theorem dX7_characterAt_4 : decode cX7_characterAt 4 = .ok (.iload_n 1, 1) := by decide +kernel
theorem dX7_characterAt_5 : decode cX7_characterAt 5 = .ok (.aload_n 0, 1) := by decide +kernel
theorem dX7_characterAt_6 : decode cX7_characterAt 6 = .ok (.getfield 15, 3) := by decide +kernel
