abbrev kX0_keepOnly : am_K := (cX0_keepOnly, 4, RX0, wsX0_keepOnly, none, { frames := 3, cells := 0, slots := 0, locals := 69 })
theorem hX0_keepOnly : am_cl yX0_keepOnly kX0_keepOnly 1 := ⟨⟨_, rfl⟩, rfl, rfl, by decide +kernel, by decide +kernel, by decide +kernel⟩
theorem iX0_keepOnly_0 : ∀ w ∈ u_ws RX0 TX0 4, w ∈ wsX0_keepOnly := by decide +kernel
theorem fX0_keepOnly_9 : Cond.fieldLink RX0 9 "AmbiguityAnalyzer$Automaton" "states" "I" ∈ wsX0_keepOnly := by decide +kernel
theorem fX0_keepOnly_15 : Cond.fieldLink RX0 15 "AmbiguityAnalyzer$Automaton" "targets" "[I" ∈ wsX0_keepOnly := by decide +kernel
theorem fX0_keepOnly_19 : Cond.fieldLink RX0 19 "AmbiguityAnalyzer$Automaton" "initials" "I" ∈ wsX0_keepOnly := by decide +kernel
theorem fX0_keepOnly_22 : Cond.fieldLink RX0 22 "AmbiguityAnalyzer$Automaton" "finals" "I" ∈ wsX0_keepOnly := by decide +kernel
set_option maxRecDepth 100000 in
set_option maxHeartbeats 4000000 in
theorem vX0_keepOnly_40 {Z : am_Z} {X : am_X} (R : am_R) (L : am_L) (a0 : Nat) (x1 : Int32) (v2 : Int32) (h12 : am_G Z a0 = some (.inl 0)) (j5 : am_I → Option (am_I)) (hj5 : ∀ (J6 : am_I), am_V Z X kX0_keepOnly (fun r : am_I => (none, R, r, L)) 62 [(0, .ref (am_B Z + a0)), (1, .int x1), (2, .int v2)] [] R J6 L (j5 J6)) (ih15 : Int32 → am_I → Option (am_I)) (hih15 : ∀ (v13 : Int32) (J14 : am_I), am_V Z X kX0_keepOnly (fun r : am_I => (none, R, r, L)) 40 [(0, .ref (am_B Z + a0)), (1, .int x1), (2, .int v2), (3, .int v13)] [] R J14 L (ih15 v13 J14)) (v13 : Int32) (J14 : am_I) : am_V Z X kX0_keepOnly (fun r : am_I => (none, R, r, L)) 40 [(0, .ref (am_B Z + a0)), (1, .int x1), (2, .int v2), (3, .int v13)] [] R J14 L (sX0_keepOnly_40 R a0 x1 v2 j5 ih15 v13 J14) := by
  unfold sX0_keepOnly_40
  refine am_iload_n dX0_keepOnly_40 rfl 3 rfl ?_
  refine am_aload_n dX0_keepOnly_41 rfl 0 rfl ?_
  refine am_getR 0 3 clX0 (Nat.le_of_ble_eq_true rfl) h12 iX0_keepOnly_0 fX0_keepOnly_15 rfl rfl dX0_keepOnly_42 (fun h16 => ?_)
  refine am_alen (t := 0) (v := 18) rfl h16 (by decide) dX0_keepOnly_45 ?_
  refine am_icmp_ge (tgt := 62) dX0_keepOnly_46 rfl (fun e17 => ?_) (fun e17 => ?_)
  · refine am_sub (ls' := [(0, .ref (am_B Z + a0)), (1, .int x1), (2, .int v2)]) [0, 1, 2] rfl ?_
    exact hj5 J14
  · refine am_aload_n dX0_keepOnly_49 rfl 0 rfl ?_
    refine am_getR 0 3 clX0 (Nat.le_of_ble_eq_true rfl) h12 iX0_keepOnly_0 fX0_keepOnly_15 rfl rfl dX0_keepOnly_50 (fun h18 => ?_)
    refine am_iload_n dX0_keepOnly_53 rfl 3 rfl ?_
    refine am_iconst (v := 0) dX0_keepOnly_54 (by decide) ?_
    refine am_iast h18 dX0_keepOnly_55 ?_
    refine am_letI (fun J19 => ?_)
    refine am_iinc (j := 3) (ls' := [(3, .int (v13 + (1 : Int32))), (0, .ref (am_B Z + a0)), (1, .int x1), (2, .int v2)]) dX0_keepOnly_56 rfl rfl (Nat.le_of_ble_eq_true rfl) rfl ?_
    refine am_goto (tgt := 40) dX0_keepOnly_59 rfl ?_
    refine am_sub (ls' := [(0, .ref (am_B Z + a0)), (1, .int x1), (2, .int v2), (3, .int (v13 + (1 : Int32)))]) [1, 2, 3, 0] rfl ?_
    exact hih15 (v13 + (1 : Int32)) J19
theorem uX0_keepOnly_40 {Z : am_Z} {X : am_X} (R : am_R) (L : am_L) (a0 : Nat) (x1 : Int32) (v2 : Int32) (h12 : am_G Z a0 = some (.inl 0)) (j5 : am_I → Option (am_I)) (hj5 : ∀ (J6 : am_I), am_V Z X kX0_keepOnly (fun r : am_I => (none, R, r, L)) 62 [(0, .ref (am_B Z + a0)), (1, .int x1), (2, .int v2)] [] R J6 L (j5 J6)) : ∀ (n : Nat) (v13 : Int32) (J14 : am_I), am_V Z X kX0_keepOnly (fun r : am_I => (none, R, r, L)) 40 [(0, .ref (am_B Z + a0)), (1, .int x1), (2, .int v2), (3, .int v13)] [] R J14 L (lX0_keepOnly_40 R a0 x1 v2 j5 n v13 J14) := by
  intro n
  induction n with
  | zero => intro _ _; exact am_none
  | succ n ih => exact fun v13 J14 => vX0_keepOnly_40 R L a0 x1 v2 h12 j5 hj5 (lX0_keepOnly_40 R a0 x1 v2 j5 n) ih v13 J14
set_option maxRecDepth 100000 in
set_option maxHeartbeats 4000000 in
theorem vX0_keepOnly_4 {Z : am_Z} {X : am_X} (R : am_R) (L : am_L) (a0 : Nat) (x1 : Int32) (h20 : am_G Z a0 = some (.inl 0)) (j1 : Int32 → am_I → Option (am_I)) (hj1 : ∀ (v2 : Int32) (J3 : am_I), am_V Z X kX0_keepOnly (fun r : am_I => (none, R, r, L)) 36 [(0, .ref (am_B Z + a0)), (1, .int x1), (2, .int v2)] [] R J3 L (j1 v2 J3)) (ih24 : Int32 → Int32 → am_I → Option (am_I)) (hih24 : ∀ (v21 : Int32) (v22 : Int32) (J23 : am_I), am_V Z X kX0_keepOnly (fun r : am_I => (none, R, r, L)) 4 [(0, .ref (am_B Z + a0)), (1, .int x1), (2, .int v21), (3, .int v22)] [] R J23 L (ih24 v21 v22 J23)) (v21 : Int32) (v22 : Int32) (J23 : am_I) : am_V Z X kX0_keepOnly (fun r : am_I => (none, R, r, L)) 4 [(0, .ref (am_B Z + a0)), (1, .int x1), (2, .int v21), (3, .int v22)] [] R J23 L (sX0_keepOnly_4 R a0 x1 j1 ih24 v21 v22 J23) := by
  unfold sX0_keepOnly_4
  refine am_iload_n dX0_keepOnly_4 rfl 3 rfl ?_
  refine am_aload_n dX0_keepOnly_5 rfl 0 rfl ?_
  refine am_get 0 0 clX0 (Nat.le_of_ble_eq_true rfl) h20 iX0_keepOnly_0 fX0_keepOnly_9 rfl dX0_keepOnly_6 ?_
  refine am_icmp_ge (tgt := 36) dX0_keepOnly_9 rfl (fun e25 => ?_) (fun e25 => ?_)
  · refine am_sub (ls' := [(0, .ref (am_B Z + a0)), (1, .int x1), (2, .int v21)]) [0, 1, 2] rfl ?_
    exact hj1 v21 J23
  · refine am_iload_n dX0_keepOnly_12 rfl 1 rfl ?_
    refine am_iload_n dX0_keepOnly_13 rfl 3 rfl ?_
    refine am_callN (host := RX10) [.int x1, .int v22] (tX10_contains R J23 L x1 v22) gX0_keepOnly_X10_contains_n40 (by decide +kernel) (by decide +kernel) (by decide +kernel) hX10_contains ⟨Nat.le_of_ble_eq_true rfl, Nat.le_of_ble_eq_true rfl⟩ rfl rfl (Nat.le_of_ble_eq_true rfl) dX0_keepOnly_14 (fun r26 => ?_)
    show am_V Z X kX0_keepOnly (fun r : am_I => (none, R, r, L)) 17 [(0, .ref (am_B Z + a0)), (1, .int x1), (2, .int v21), (3, .int v22)] [.int r26] R J23 L _
    refine am_jnV (fun j27 ej27 => ?_)
    have hj27 : ∀ (v28 : Int32) (J29 : am_I), am_V Z X kX0_keepOnly (fun r : am_I => (none, R, r, L)) 30 [(0, .ref (am_B Z + a0)), (1, .int x1), (2, .int v28), (3, .int v22)] [] R J29 L (j27 v28 J29) := by
      subst ej27
      intro v28 J29
      show am_V Z X kX0_keepOnly (fun r : am_I => (none, R, r, L)) 30 [(0, .ref (am_B Z + a0)), (1, .int x1), (2, .int v28), (3, .int v22)] [] R J29 L _
      refine am_iinc (j := 3) (ls' := [(3, .int (v22 + (1 : Int32))), (0, .ref (am_B Z + a0)), (1, .int x1), (2, .int v28)]) dX0_keepOnly_30 rfl rfl (Nat.le_of_ble_eq_true rfl) rfl ?_
      refine am_goto (tgt := 4) dX0_keepOnly_33 rfl ?_
      refine am_sub (ls' := [(0, .ref (am_B Z + a0)), (1, .int x1), (2, .int v28), (3, .int (v22 + (1 : Int32)))]) [1, 2, 3, 0] rfl ?_
      exact hih24 v28 (v22 + (1 : Int32)) J29
    refine am_if_eq (tgt := 30) dX0_keepOnly_17 rfl (fun e30 => ?_) (fun e30 => ?_)
    · exact hj27 v21 J23
    · refine am_aload_n dX0_keepOnly_20 rfl 0 rfl ?_
      refine am_iload_n dX0_keepOnly_21 rfl 3 rfl ?_
      refine am_iload_n dX0_keepOnly_22 rfl 2 rfl ?_
      refine am_iload_n dX0_keepOnly_23 rfl 1 rfl ?_
      refine am_callV [.int v22, .int v21, .int x1] (tX0_moveTargets R J23 L a0 v22 v21 x1 h20) h20 clX0 gX0_keepOnly_X0_moveTargets hX0_moveTargets rfl ⟨Nat.le_of_ble_eq_true rfl, Nat.le_of_ble_eq_true rfl⟩ rfl rfl (Nat.le_of_ble_eq_true rfl) dX0_keepOnly_24 (fun r31 => ?_)
      show am_V Z X kX0_keepOnly (fun r : am_I => (none, R, r, L)) 27 [(0, .ref (am_B Z + a0)), (1, .int x1), (2, .int v21), (3, .int v22)] [] R r31 L _
      refine am_iinc (j := 2) (ls' := [(2, .int (v21 + (1 : Int32))), (0, .ref (am_B Z + a0)), (1, .int x1), (3, .int v22)]) dX0_keepOnly_27 rfl rfl (Nat.le_of_ble_eq_true rfl) rfl ?_
      refine am_sub (ls' := [(0, .ref (am_B Z + a0)), (1, .int x1), (2, .int (v21 + (1 : Int32))), (3, .int v22)]) [1, 2, 0, 3] rfl ?_
      exact hj27 (v21 + (1 : Int32)) r31
theorem uX0_keepOnly_4 {Z : am_Z} {X : am_X} (R : am_R) (L : am_L) (a0 : Nat) (x1 : Int32) (h20 : am_G Z a0 = some (.inl 0)) (j1 : Int32 → am_I → Option (am_I)) (hj1 : ∀ (v2 : Int32) (J3 : am_I), am_V Z X kX0_keepOnly (fun r : am_I => (none, R, r, L)) 36 [(0, .ref (am_B Z + a0)), (1, .int x1), (2, .int v2)] [] R J3 L (j1 v2 J3)) : ∀ (n : Nat) (v21 : Int32) (v22 : Int32) (J23 : am_I), am_V Z X kX0_keepOnly (fun r : am_I => (none, R, r, L)) 4 [(0, .ref (am_B Z + a0)), (1, .int x1), (2, .int v21), (3, .int v22)] [] R J23 L (lX0_keepOnly_4 R a0 x1 j1 n v21 v22 J23) := by
  intro n
  induction n with
  | zero => intro _ _ _; exact am_none
  | succ n ih => exact fun v21 v22 J23 => vX0_keepOnly_4 R L a0 x1 h20 j1 hj1 (lX0_keepOnly_4 R a0 x1 j1 n) ih v21 v22 J23
set_option maxRecDepth 100000 in
set_option maxHeartbeats 4000000 in
theorem tX0_keepOnly {Z : am_Z} (R : am_R) (I : am_I) (L : am_L) (a0 : Nat) (x1 : Int32) (h_a0 : am_G Z a0 = some (.inl 0)) : am_M Z yX0_keepOnly kX0_keepOnly [.ref (am_B Z + a0), .int x1] R I L (pX0_keepOnly R I a0 x1) (fun r : am_I => (none, R, r, L)) := by
  refine am_entry (ls := [(0, .ref (am_B Z + a0)), (1, .int x1)]) (by decide) hX0_keepOnly rfl (Nat.le_of_ble_eq_true rfl) rfl (fun X => ?_)
  unfold pX0_keepOnly
  refine am_iconst (v := 0) dX0_keepOnly_0 (by decide) ?_
  refine am_istore_n (ls' := [(2, .int (0 : Int32)), (0, .ref (am_B Z + a0)), (1, .int x1)]) dX0_keepOnly_1 rfl (Nat.le_of_ble_eq_true rfl) rfl ?_
  refine am_iconst (v := 0) dX0_keepOnly_2 (by decide) ?_
  refine am_istore_n (ls' := [(3, .int (0 : Int32)), (2, .int (0 : Int32)), (0, .ref (am_B Z + a0)), (1, .int x1)]) dX0_keepOnly_3 rfl (Nat.le_of_ble_eq_true rfl) rfl ?_
  refine am_jnV (fun j1 ej1 => ?_)
  have hj1 : ∀ (v2 : Int32) (J3 : am_I), am_V Z X kX0_keepOnly (fun r : am_I => (none, R, r, L)) 36 [(0, .ref (am_B Z + a0)), (1, .int x1), (2, .int v2)] [] R J3 L (j1 v2 J3) := by
    subst ej1
    intro v2 J3
    show am_V Z X kX0_keepOnly (fun r : am_I => (none, R, r, L)) 36 [(0, .ref (am_B Z + a0)), (1, .int x1), (2, .int v2)] [] R J3 L _
    refine am_iload_n dX0_keepOnly_36 rfl 2 rfl ?_
    refine am_iconst (v := 3) dX0_keepOnly_37 (by decide) ?_
    refine am_imul dX0_keepOnly_38 ?_
    refine am_letTi (fun v4 => ?_)
    refine am_istore_n (ls' := [(3, .int v4), (0, .ref (am_B Z + a0)), (1, .int x1), (2, .int v2)]) dX0_keepOnly_39 rfl (Nat.le_of_ble_eq_true rfl) rfl ?_
    refine am_jnV (fun j5 ej5 => ?_)
    have hj5 : ∀ (J6 : am_I), am_V Z X kX0_keepOnly (fun r : am_I => (none, R, r, L)) 62 [(0, .ref (am_B Z + a0)), (1, .int x1), (2, .int v2)] [] R J6 L (j5 J6) := by
      subst ej5
      intro J6
      show am_V Z X kX0_keepOnly (fun r : am_I => (none, R, r, L)) 62 [(0, .ref (am_B Z + a0)), (1, .int x1), (2, .int v2)] [] R J6 L _
      refine am_aload_n dX0_keepOnly_62 rfl 0 rfl ?_
      refine am_aload_n dX0_keepOnly_63 rfl 0 rfl ?_
      refine am_get 0 1 clX0 (Nat.le_of_ble_eq_true rfl) h_a0 iX0_keepOnly_0 fX0_keepOnly_19 rfl dX0_keepOnly_64 ?_
      refine am_iload_n dX0_keepOnly_67 rfl 1 rfl ?_
      refine am_callS [.int (J6 a0 1), .int x1] (tX0_squeeze R J6 L (J6 a0 1) x1) gX0_keepOnly_X0_squeeze hX0_squeeze ⟨Nat.le_of_ble_eq_true rfl, Nat.le_of_ble_eq_true rfl⟩ rfl rfl (Nat.le_of_ble_eq_true rfl) dX0_keepOnly_68 (fun r7 => ?_)
      show am_V Z X kX0_keepOnly (fun r : am_I => (none, R, r, L)) 71 [(0, .ref (am_B Z + a0)), (1, .int x1), (2, .int v2)] [.int r7, .ref (am_B Z + a0)] R J6 L _
      refine am_putI 0 1 clX0 (Nat.le_of_ble_eq_true rfl) h_a0 iX0_keepOnly_0 fX0_keepOnly_19 rfl rfl dX0_keepOnly_71 ?_
      refine am_letI (fun J8 => ?_)
      refine am_aload_n dX0_keepOnly_74 rfl 0 rfl ?_
      refine am_aload_n dX0_keepOnly_75 rfl 0 rfl ?_
      refine am_get 0 2 clX0 (Nat.le_of_ble_eq_true rfl) h_a0 iX0_keepOnly_0 fX0_keepOnly_22 rfl dX0_keepOnly_76 ?_
      refine am_iload_n dX0_keepOnly_79 rfl 1 rfl ?_
      refine am_callS [.int (J8 a0 2), .int x1] (tX0_squeeze R J8 L (J8 a0 2) x1) gX0_keepOnly_X0_squeeze hX0_squeeze ⟨Nat.le_of_ble_eq_true rfl, Nat.le_of_ble_eq_true rfl⟩ rfl rfl (Nat.le_of_ble_eq_true rfl) dX0_keepOnly_80 (fun r9 => ?_)
      show am_V Z X kX0_keepOnly (fun r : am_I => (none, R, r, L)) 83 [(0, .ref (am_B Z + a0)), (1, .int x1), (2, .int v2)] [.int r9, .ref (am_B Z + a0)] R J8 L _
      refine am_putI 0 2 clX0 (Nat.le_of_ble_eq_true rfl) h_a0 iX0_keepOnly_0 fX0_keepOnly_22 rfl rfl dX0_keepOnly_83 ?_
      refine am_letI (fun J10 => ?_)
      refine am_aload_n dX0_keepOnly_86 rfl 0 rfl ?_
      refine am_iload_n dX0_keepOnly_87 rfl 2 rfl ?_
      refine am_putI 0 0 clX0 (Nat.le_of_ble_eq_true rfl) h_a0 iX0_keepOnly_0 fX0_keepOnly_9 rfl rfl dX0_keepOnly_88 ?_
      refine am_letI (fun J11 => ?_)
      exact am_vret dX0_keepOnly_91 rfl rfl
    refine am_sub (ls' := [(0, .ref (am_B Z + a0)), (1, .int x1), (2, .int v2), (3, .int v4)]) [1, 2, 3, 0] rfl ?_
    exact uX0_keepOnly_40 R L a0 x1 v2 h_a0 j5 hj5 am_fu v4 J3
  refine am_sub (ls' := [(0, .ref (am_B Z + a0)), (1, .int x1), (2, .int (0 : Int32)), (3, .int (0 : Int32))]) [2, 3, 1, 0] rfl ?_
  exact uX0_keepOnly_4 R L a0 x1 h_a0 j1 hj1 am_fu (0 : Int32) (0 : Int32) I
abbrev kX1_sum : am_K := (cX1_sum, 4, RX1, wsX1_sum, some .long, { frames := 0, cells := 0, slots := 0, locals := 0 })
theorem hX1_sum : am_cl yX1_sum kX1_sum 2 := ⟨⟨_, rfl⟩, rfl, rfl, by decide +kernel, by decide +kernel, by decide +kernel⟩
set_option maxRecDepth 100000 in
set_option maxHeartbeats 4000000 in
theorem tX1_sum {Z : am_Z} (R : am_R) (I : am_I) (L : am_L) (x0 : Int64) (x2 : Int64)  : am_M Z yX1_sum kX1_sum [.long x0, .long x2] R I L (pX1_sum x0 x2) (fun r : Int64 => (some (.long r), R, I, L)) := by
  refine am_entry (ls := [(0, .long x0), (2, .long x2)]) (by decide) hX1_sum rfl (Nat.le_of_ble_eq_true rfl) rfl (fun X => ?_)
  unfold pX1_sum
  refine am_lload_n dX1_sum_0 rfl 0 rfl ?_
  refine am_lconst (v := 0) dX1_sum_1 (by decide) ?_
  refine am_lcmp dX1_sum_2 ?_
  refine am_if_lt (tgt := 20) dX1_sum_3 rfl (fun e1 => ?_) (fun e1 => ?_)
  · refine am_ldc2 (v := -6) dX1_sum_20 (by decide +kernel) ?_
    exact am_lret dX1_sum_23 rfl rfl
  · refine am_lload_n dX1_sum_6 rfl 1 rfl ?_
    refine am_lconst (v := 0) dX1_sum_7 (by decide) ?_
    refine am_lcmp dX1_sum_8 ?_
    refine am_if_lt (tgt := 20) dX1_sum_9 rfl (fun e2 => ?_) (fun e2 => ?_)
    · refine am_ldc2 (v := -6) dX1_sum_20 (by decide +kernel) ?_
      exact am_lret dX1_sum_23 rfl rfl
    · refine am_lload_n dX1_sum_12 rfl 0 rfl ?_
      refine am_lload_n dX1_sum_13 rfl 1 rfl ?_
      refine am_ladd dX1_sum_14 ?_
      refine am_lconst (v := 0) dX1_sum_15 (by decide) ?_
      refine am_lcmp dX1_sum_16 ?_
      refine am_if_ge (tgt := 24) dX1_sum_17 rfl (fun e3 => ?_) (fun e3 => ?_)
      · refine am_lload_n dX1_sum_24 rfl 0 rfl ?_
        refine am_lload_n dX1_sum_25 rfl 1 rfl ?_
        refine am_ladd dX1_sum_26 ?_
        exact am_lret dX1_sum_27 rfl rfl
      · refine am_ldc2 (v := -6) dX1_sum_20 (by decide +kernel) ?_
        exact am_lret dX1_sum_23 rfl rfl
abbrev kX1_startPaths : am_K := (cX1_startPaths, 3, RX1, wsX1_startPaths, none, { frames := 1, cells := 0, slots := 0, locals := 21 })
theorem hX1_startPaths : am_cl yX1_startPaths kX1_startPaths 1 := ⟨⟨_, rfl⟩, rfl, rfl, by decide +kernel, by decide +kernel, by decide +kernel⟩
theorem iX1_startPaths_1 : ∀ w ∈ u_ws RX1 TX1 4, w ∈ wsX1_startPaths := by decide +kernel
theorem fX1_startPaths_9 : Cond.fieldLink RX1 9 "AmbiguityAnalyzer$Counter" "paths" "[J" ∈ wsX1_startPaths := by decide +kernel
theorem iX1_startPaths_0 : ∀ w ∈ u_ws RX0 TX0 4, w ∈ wsX1_startPaths := by decide +kernel
theorem fX1_startPaths_54 : Cond.fieldLink RX1 54 "AmbiguityAnalyzer$Automaton" "initials" "I" ∈ wsX1_startPaths := by decide +kernel
theorem fX1_startPaths_15 : Cond.fieldLink RX1 15 "AmbiguityAnalyzer$Counter" "nextPaths" "[J" ∈ wsX1_startPaths := by decide +kernel
set_option maxRecDepth 100000 in
set_option maxHeartbeats 4000000 in
theorem vX1_startPaths_2 {Z : am_Z} {X : am_X} (R : am_R) (I : am_I) (a0 : Nat) (a1 : Nat) (h1 : am_G Z a0 = some (.inl 1)) (h2 : am_G Z a1 = some (.inl 0)) (ih5 : Int32 → am_L → Option (am_L)) (hih5 : ∀ (v3 : Int32) (J4 : am_L), am_V Z X kX1_startPaths (fun r : am_L => (none, R, I, r)) 2 [(0, .ref (am_B Z + a0)), (1, .ref (am_B Z + a1)), (2, .int v3)] [] R I J4 (ih5 v3 J4)) (v3 : Int32) (J4 : am_L) : am_V Z X kX1_startPaths (fun r : am_L => (none, R, I, r)) 2 [(0, .ref (am_B Z + a0)), (1, .ref (am_B Z + a1)), (2, .int v3)] [] R I J4 (sX1_startPaths_2 R I a0 a1 ih5 v3 J4) := by
  unfold sX1_startPaths_2
  refine am_iload_n dX1_startPaths_2 rfl 2 rfl ?_
  refine am_bipush (v := 6) dX1_startPaths_3 (by decide) ?_
  refine am_icmp_ge (tgt := 43) dX1_startPaths_5 rfl (fun e6 => ?_) (fun e6 => ?_)
  · exact am_vret dX1_startPaths_43 rfl rfl
  · refine am_aload_n dX1_startPaths_8 rfl 0 rfl ?_
    refine am_getR 1 0 clX1 (Nat.le_of_ble_eq_true rfl) h1 iX1_startPaths_1 fX1_startPaths_9 rfl rfl dX1_startPaths_9 (fun h7 => ?_)
    refine am_iload_n dX1_startPaths_12 rfl 2 rfl ?_
    refine am_aload_n dX1_startPaths_13 rfl 1 rfl ?_
    refine am_get 0 1 clX0 (Nat.le_of_ble_eq_true rfl) h2 iX1_startPaths_0 fX1_startPaths_54 rfl dX1_startPaths_14 ?_
    refine am_iload_n dX1_startPaths_17 rfl 2 rfl ?_
    refine am_callN (host := RX10) [.int (I a1 1), .int v3] (tX10_contains R I J4 (I a1 1) v3) gX1_startPaths_X10_contains_n59 (by decide +kernel) (by decide +kernel) (by decide +kernel) hX10_contains ⟨Nat.le_of_ble_eq_true rfl, Nat.le_of_ble_eq_true rfl⟩ rfl rfl (Nat.le_of_ble_eq_true rfl) dX1_startPaths_18 (fun r8 => ?_)
    show am_V Z X kX1_startPaths (fun r : am_L => (none, R, I, r)) 21 [(0, .ref (am_B Z + a0)), (1, .ref (am_B Z + a1)), (2, .int v3)] [.int r8, .int v3, .ref (am_B Z + (R a0 0))] R I J4 _
    refine am_letJ (fun k10 ek10 => ?_)
    have hk10 : ∀ v9 : Int64, am_V Z X kX1_startPaths (fun r : am_L => (none, R, I, r)) 29 [(0, .ref (am_B Z + a0)), (1, .ref (am_B Z + a1)), (2, .int v3)] [.long v9, .int v3, .ref (am_B Z + (R a0 0))] R I J4 (k10 v9) := by
      subst ek10
      intro v9
      show am_V Z X kX1_startPaths (fun r : am_L => (none, R, I, r)) 29 [(0, .ref (am_B Z + a0)), (1, .ref (am_B Z + a1)), (2, .int v3)] [.long v9, .int v3, .ref (am_B Z + (R a0 0))] R I J4 _
      refine am_last h7 dX1_startPaths_29 ?_
      refine am_letL (fun J11 => ?_)
      refine am_aload_n dX1_startPaths_30 rfl 0 rfl ?_
      refine am_getR 1 1 clX1 (Nat.le_of_ble_eq_true rfl) h1 iX1_startPaths_1 fX1_startPaths_15 rfl rfl dX1_startPaths_31 (fun h12 => ?_)
      refine am_iload_n dX1_startPaths_34 rfl 2 rfl ?_
      refine am_lconst (v := 0) dX1_startPaths_35 (by decide) ?_
      refine am_last h12 dX1_startPaths_36 ?_
      refine am_letL (fun J13 => ?_)
      refine am_iinc (j := 2) (ls' := [(2, .int (v3 + (1 : Int32))), (0, .ref (am_B Z + a0)), (1, .ref (am_B Z + a1))]) dX1_startPaths_37 rfl rfl (Nat.le_of_ble_eq_true rfl) rfl ?_
      refine am_goto (tgt := 2) dX1_startPaths_40 rfl ?_
      refine am_sub (ls' := [(0, .ref (am_B Z + a0)), (1, .ref (am_B Z + a1)), (2, .int (v3 + (1 : Int32)))]) [1, 2, 0] rfl ?_
      exact hih5 (v3 + (1 : Int32)) J13
    refine am_if_eqL (tgt := 28) dX1_startPaths_21 rfl (fun e14 => ?_) (fun e14 => ?_)
    · refine am_lconst (v := 0) dX1_startPaths_28 (by decide) ?_
      exact hk10 _
    · refine am_lconst (v := 1) dX1_startPaths_24 (by decide) ?_
      refine am_goto (tgt := 29) dX1_startPaths_25 rfl ?_
      exact hk10 _
theorem uX1_startPaths_2 {Z : am_Z} {X : am_X} (R : am_R) (I : am_I) (a0 : Nat) (a1 : Nat) (h1 : am_G Z a0 = some (.inl 1)) (h2 : am_G Z a1 = some (.inl 0)) : ∀ (n : Nat) (v3 : Int32) (J4 : am_L), am_V Z X kX1_startPaths (fun r : am_L => (none, R, I, r)) 2 [(0, .ref (am_B Z + a0)), (1, .ref (am_B Z + a1)), (2, .int v3)] [] R I J4 (lX1_startPaths_2 R I a0 a1 n v3 J4) := by
  intro n
  induction n with
  | zero => intro _ _; exact am_none
  | succ n ih => exact fun v3 J4 => vX1_startPaths_2 R I a0 a1 h1 h2 (lX1_startPaths_2 R I a0 a1 n) ih v3 J4
set_option maxRecDepth 100000 in
set_option maxHeartbeats 4000000 in
theorem tX1_startPaths {Z : am_Z} (R : am_R) (I : am_I) (L : am_L) (a0 : Nat) (a1 : Nat) (h_a0 : am_G Z a0 = some (.inl 1)) (h_a1 : am_G Z a1 = some (.inl 0)) : am_M Z yX1_startPaths kX1_startPaths [.ref (am_B Z + a0), .ref (am_B Z + a1)] R I L (pX1_startPaths R I L a0 a1) (fun r : am_L => (none, R, I, r)) := by
  refine am_entry (ls := [(0, .ref (am_B Z + a0)), (1, .ref (am_B Z + a1))]) (by decide) hX1_startPaths rfl (Nat.le_of_ble_eq_true rfl) rfl (fun X => ?_)
  unfold pX1_startPaths
  refine am_iconst (v := 0) dX1_startPaths_0 (by decide) ?_
  refine am_istore_n (ls' := [(2, .int (0 : Int32)), (0, .ref (am_B Z + a0)), (1, .ref (am_B Z + a1))]) dX1_startPaths_1 rfl (Nat.le_of_ble_eq_true rfl) rfl ?_
  refine am_sub (ls' := [(0, .ref (am_B Z + a0)), (1, .ref (am_B Z + a1)), (2, .int (0 : Int32))]) [1, 2, 0] rfl ?_
  exact uX1_startPaths_2 R I a0 a1 h_a0 h_a1 am_fu (0 : Int32) L
abbrev kX8_hasPosition : am_K := (cX8_hasPosition, 2, RX8, wsX8_hasPosition, some .boolean, { frames := 0, cells := 0, slots := 0, locals := 0 })
theorem hX8_hasPosition : am_cl yX8_hasPosition kX8_hasPosition 1 := ⟨⟨_, rfl⟩, rfl, rfl, by decide +kernel, by decide +kernel, by decide +kernel⟩
theorem iX8_hasPosition_8 : ∀ w ∈ u_ws RX8 TX8 2, w ∈ wsX8_hasPosition := by decide +kernel
theorem fX8_hasPosition_15 : Cond.fieldLink RX8 15 "AmbiguityAnalyzer$Word" "length" "I" ∈ wsX8_hasPosition := by decide +kernel
theorem fX8_hasPosition_9 : Cond.fieldLink RX8 9 "AmbiguityAnalyzer$Word" "letters" "[I" ∈ wsX8_hasPosition := by decide +kernel
set_option maxRecDepth 100000 in
set_option maxHeartbeats 4000000 in
theorem tX8_hasPosition {Z : am_Z} (R : am_R) (I : am_I) (L : am_L) (a0 : Nat) (x1 : Int32) (h_a0 : am_G Z a0 = some (.inl 8)) : am_M Z yX8_hasPosition kX8_hasPosition [.ref (am_B Z + a0), .int x1] R I L (pX8_hasPosition R I a0 x1) (fun r : Int32 => (some (.int r), R, I, L)) := by
  refine am_entry (ls := [(0, .ref (am_B Z + a0)), (1, .int x1)]) (by decide) hX8_hasPosition rfl (Nat.le_of_ble_eq_true rfl) rfl (fun X => ?_)
  unfold pX8_hasPosition
  refine am_iload_n dX8_hasPosition_0 rfl 1 rfl ?_
  refine am_if_lt (tgt := 25) dX8_hasPosition_1 rfl (fun e1 => ?_) (fun e1 => ?_)
  · refine am_iconst (v := 0) dX8_hasPosition_25 (by decide) ?_
    exact am_zret (by decide) dX8_hasPosition_26 rfl rfl
  · refine am_iload_n dX8_hasPosition_4 rfl 1 rfl ?_
    refine am_aload_n dX8_hasPosition_5 rfl 0 rfl ?_
    refine am_get 8 0 clX8 (Nat.le_of_ble_eq_true rfl) h_a0 iX8_hasPosition_8 fX8_hasPosition_15 rfl dX8_hasPosition_6 ?_
    refine am_icmp_ge (tgt := 25) dX8_hasPosition_9 rfl (fun e2 => ?_) (fun e2 => ?_)
    · refine am_iconst (v := 0) dX8_hasPosition_25 (by decide) ?_
      exact am_zret (by decide) dX8_hasPosition_26 rfl rfl
    · refine am_iload_n dX8_hasPosition_12 rfl 1 rfl ?_
      refine am_aload_n dX8_hasPosition_13 rfl 0 rfl ?_
      refine am_getR 8 1 clX8 (Nat.le_of_ble_eq_true rfl) h_a0 iX8_hasPosition_8 fX8_hasPosition_9 rfl rfl dX8_hasPosition_14 (fun h3 => ?_)
      refine am_alen (t := 0) (v := 216) rfl h3 (by decide) dX8_hasPosition_17 ?_
      refine am_icmp_ge (tgt := 25) dX8_hasPosition_18 rfl (fun e4 => ?_) (fun e4 => ?_)
      · refine am_iconst (v := 0) dX8_hasPosition_25 (by decide) ?_
        exact am_zret (by decide) dX8_hasPosition_26 rfl rfl
      · refine am_iconst (v := 1) dX8_hasPosition_21 (by decide) ?_
        refine am_goto (tgt := 26) dX8_hasPosition_22 rfl ?_
        exact am_zret (by decide) dX8_hasPosition_26 rfl rfl
abbrev kX8_letterAt : am_K := (cX8_letterAt, 2, RX8, wsX8_letterAt, some .int, { frames := 1, cells := 0, slots := 0, locals := 21 })
theorem hX8_letterAt : am_cl yX8_letterAt kX8_letterAt 1 := ⟨⟨_, rfl⟩, rfl, rfl, by decide +kernel, by decide +kernel, by decide +kernel⟩
theorem iX8_letterAt_8 : ∀ w ∈ u_ws RX8 TX8 2, w ∈ wsX8_letterAt := by decide +kernel
theorem fX8_letterAt_9 : Cond.fieldLink RX8 9 "AmbiguityAnalyzer$Word" "letters" "[I" ∈ wsX8_letterAt := by decide +kernel
set_option maxRecDepth 100000 in
set_option maxHeartbeats 4000000 in
theorem tX8_letterAt {Z : am_Z} (R : am_R) (I : am_I) (L : am_L) (a0 : Nat) (x1 : Int32) (h_a0 : am_G Z a0 = some (.inl 8)) : am_M Z yX8_letterAt kX8_letterAt [.ref (am_B Z + a0), .int x1] R I L (pX8_letterAt R I a0 x1) (fun r : Int32 => (some (.int r), R, I, L)) := by
  refine am_entry (ls := [(0, .ref (am_B Z + a0)), (1, .int x1)]) (by decide) hX8_letterAt rfl (Nat.le_of_ble_eq_true rfl) rfl (fun X => ?_)
  unfold pX8_letterAt
  refine am_aload_n dX8_letterAt_0 rfl 0 rfl ?_
  refine am_iload_n dX8_letterAt_1 rfl 1 rfl ?_
  refine am_callV [.int x1] (tX8_hasPosition R I L a0 x1 h_a0) h_a0 clX8 gX8_letterAt_X8_hasPosition hX8_hasPosition rfl ⟨Nat.le_of_ble_eq_true rfl, Nat.le_of_ble_eq_true rfl⟩ rfl rfl (Nat.le_of_ble_eq_true rfl) dX8_letterAt_2 (fun r1 => ?_)
  show am_V Z X kX8_letterAt (fun r : Int32 => (some (.int r), R, I, L)) 5 [(0, .ref (am_B Z + a0)), (1, .int x1)] [.int r1] R I L _
  refine am_if_eq (tgt := 17) dX8_letterAt_5 rfl (fun e2 => ?_) (fun e2 => ?_)
  · refine am_iconst (v := 0) dX8_letterAt_17 (by decide) ?_
    exact am_iret dX8_letterAt_18 rfl rfl
  · refine am_aload_n dX8_letterAt_8 rfl 0 rfl ?_
    refine am_getR 8 1 clX8 (Nat.le_of_ble_eq_true rfl) h_a0 iX8_letterAt_8 fX8_letterAt_9 rfl rfl dX8_letterAt_9 (fun h3 => ?_)
    refine am_iload_n dX8_letterAt_12 rfl 1 rfl ?_
    refine am_iald h3 dX8_letterAt_13 ?_
    refine am_goto (tgt := 18) dX8_letterAt_14 rfl ?_
    exact am_iret dX8_letterAt_18 rfl rfl
abbrev kX1_extendPathsBy : am_K := (cX1_extendPathsBy, 6, RX1, wsX1_extendPathsBy, none, { frames := 1, cells := 0, slots := 0, locals := 23 })
theorem hX1_extendPathsBy : am_cl yX1_extendPathsBy kX1_extendPathsBy 2 := ⟨⟨_, rfl⟩, rfl, rfl, by decide +kernel, by decide +kernel, by decide +kernel⟩
theorem iX1_extendPathsBy_1 : ∀ w ∈ u_ws RX1 TX1 4, w ∈ wsX1_extendPathsBy := by decide +kernel
theorem fX1_extendPathsBy_15 : Cond.fieldLink RX1 15 "AmbiguityAnalyzer$Counter" "nextPaths" "[J" ∈ wsX1_extendPathsBy := by decide +kernel
theorem fX1_extendPathsBy_9 : Cond.fieldLink RX1 9 "AmbiguityAnalyzer$Counter" "paths" "[J" ∈ wsX1_extendPathsBy := by decide +kernel
set_option maxRecDepth 100000 in
set_option maxHeartbeats 4000000 in
theorem vX1_extendPathsBy_19 {Z : am_Z} {X : am_X} (R : am_R) (I : am_I) (a0 : Nat) (a1 : Nat) (x2 : Int32) (v3 : Int32) (r7 : Int32) (h10 : am_G Z a0 = some (.inl 1)) (h11 : am_G Z a1 = some (.inl 0)) (j8 : am_L → Option (am_L)) (hj8 : ∀ (J9 : am_L), am_V Z X kX1_extendPathsBy (fun r : am_L => (none, R, I, r)) 65 [(0, .ref (am_B Z + a0)), (1, .ref (am_B Z + a1)), (2, .int x2), (3, .int v3)] [] R I J9 (j8 J9)) (ih14 : Int32 → am_L → Option (am_L)) (hih14 : ∀ (v12 : Int32) (J13 : am_L), am_V Z X kX1_extendPathsBy (fun r : am_L => (none, R, I, r)) 19 [(0, .ref (am_B Z + a0)), (1, .ref (am_B Z + a1)), (2, .int x2), (3, .int v3), (4, .int r7), (5, .int v12)] [] R I J13 (ih14 v12 J13)) (v12 : Int32) (J13 : am_L) : am_V Z X kX1_extendPathsBy (fun r : am_L => (none, R, I, r)) 19 [(0, .ref (am_B Z + a0)), (1, .ref (am_B Z + a1)), (2, .int x2), (3, .int v3), (4, .int r7), (5, .int v12)] [] R I J13 (sX1_extendPathsBy_19 R I a0 a1 x2 v3 r7 j8 ih14 v12 J13) := by
  unfold sX1_extendPathsBy_19
  refine am_iload dX1_extendPathsBy_19 5 rfl ?_
  refine am_bipush (v := 6) dX1_extendPathsBy_21 (by decide) ?_
  refine am_icmp_ge (tgt := 65) dX1_extendPathsBy_23 rfl (fun e15 => ?_) (fun e15 => ?_)
  · refine am_sub (ls' := [(0, .ref (am_B Z + a0)), (1, .ref (am_B Z + a1)), (2, .int x2), (3, .int v3)]) [0, 1, 2, 3] rfl ?_
    exact hj8 J13
  · refine am_iload dX1_extendPathsBy_26 4 rfl ?_
    refine am_iload dX1_extendPathsBy_28 5 rfl ?_
    refine am_callN (host := RX10) [.int r7, .int v12] (tX10_contains R I J13 r7 v12) gX1_extendPathsBy_X10_contains_n59 (by decide +kernel) (by decide +kernel) (by decide +kernel) hX10_contains ⟨Nat.le_of_ble_eq_true rfl, Nat.le_of_ble_eq_true rfl⟩ rfl rfl (Nat.le_of_ble_eq_true rfl) dX1_extendPathsBy_30 (fun r16 => ?_)
    show am_V Z X kX1_extendPathsBy (fun r : am_L => (none, R, I, r)) 33 [(0, .ref (am_B Z + a0)), (1, .ref (am_B Z + a1)), (2, .int x2), (3, .int v3), (4, .int r7), (5, .int v12)] [.int r16] R I J13 _
    refine am_jnV (fun j17 ej17 => ?_)
    have hj17 : ∀ (J18 : am_L), am_V Z X kX1_extendPathsBy (fun r : am_L => (none, R, I, r)) 59 [(0, .ref (am_B Z + a0)), (1, .ref (am_B Z + a1)), (2, .int x2), (3, .int v3), (4, .int r7), (5, .int v12)] [] R I J18 (j17 J18) := by
      subst ej17
      intro J18
      show am_V Z X kX1_extendPathsBy (fun r : am_L => (none, R, I, r)) 59 [(0, .ref (am_B Z + a0)), (1, .ref (am_B Z + a1)), (2, .int x2), (3, .int v3), (4, .int r7), (5, .int v12)] [] R I J18 _
      refine am_iinc (j := 5) (ls' := [(5, .int (v12 + (1 : Int32))), (0, .ref (am_B Z + a0)), (1, .ref (am_B Z + a1)), (2, .int x2), (3, .int v3), (4, .int r7)]) dX1_extendPathsBy_59 rfl rfl (Nat.le_of_ble_eq_true rfl) rfl ?_
      refine am_goto (tgt := 19) dX1_extendPathsBy_62 rfl ?_
      refine am_sub (ls' := [(0, .ref (am_B Z + a0)), (1, .ref (am_B Z + a1)), (2, .int x2), (3, .int v3), (4, .int r7), (5, .int (v12 + (1 : Int32)))]) [1, 2, 3, 4, 5, 0] rfl ?_
      exact hih14 (v12 + (1 : Int32)) J18
    refine am_if_eq (tgt := 59) dX1_extendPathsBy_33 rfl (fun e19 => ?_) (fun e19 => ?_)
    · exact hj17 J13
    · refine am_aload_n dX1_extendPathsBy_36 rfl 0 rfl ?_
      refine am_getR 1 1 clX1 (Nat.le_of_ble_eq_true rfl) h10 iX1_extendPathsBy_1 fX1_extendPathsBy_15 rfl rfl dX1_extendPathsBy_37 (fun h20 => ?_)
      refine am_iload dX1_extendPathsBy_40 5 rfl ?_
      refine am_aload_n dX1_extendPathsBy_42 rfl 0 rfl ?_
      refine am_getR 1 1 clX1 (Nat.le_of_ble_eq_true rfl) h10 iX1_extendPathsBy_1 fX1_extendPathsBy_15 rfl rfl dX1_extendPathsBy_43 (fun h21 => ?_)
      refine am_iload dX1_extendPathsBy_46 5 rfl ?_
      refine am_lald h21 dX1_extendPathsBy_48 ?_
      refine am_aload_n dX1_extendPathsBy_49 rfl 0 rfl ?_
      refine am_getR 1 0 clX1 (Nat.le_of_ble_eq_true rfl) h10 iX1_extendPathsBy_1 fX1_extendPathsBy_9 rfl rfl dX1_extendPathsBy_50 (fun h22 => ?_)
      refine am_iload_n dX1_extendPathsBy_53 rfl 3 rfl ?_
      refine am_lald h22 dX1_extendPathsBy_54 ?_
      refine am_callS [.long (J13 (R a0 1) (Int32.toNatClampNeg v12)), .long (J13 (R a0 0) (Int32.toNatClampNeg v3))] (tX1_sum R I J13 (J13 (R a0 1) (Int32.toNatClampNeg v12)) (J13 (R a0 0) (Int32.toNatClampNeg v3))) gX1_extendPathsBy_X1_sum hX1_sum ⟨Nat.le_of_ble_eq_true rfl, Nat.le_of_ble_eq_true rfl⟩ rfl rfl (Nat.le_of_ble_eq_true rfl) dX1_extendPathsBy_55 (fun r23 => ?_)
      show am_V Z X kX1_extendPathsBy (fun r : am_L => (none, R, I, r)) 58 [(0, .ref (am_B Z + a0)), (1, .ref (am_B Z + a1)), (2, .int x2), (3, .int v3), (4, .int r7), (5, .int v12)] [.long r23, .int v12, .ref (am_B Z + (R a0 1))] R I J13 _
      refine am_last h20 dX1_extendPathsBy_58 ?_
      refine am_letL (fun J24 => ?_)
      exact hj17 J24
theorem uX1_extendPathsBy_19 {Z : am_Z} {X : am_X} (R : am_R) (I : am_I) (a0 : Nat) (a1 : Nat) (x2 : Int32) (v3 : Int32) (r7 : Int32) (h10 : am_G Z a0 = some (.inl 1)) (h11 : am_G Z a1 = some (.inl 0)) (j8 : am_L → Option (am_L)) (hj8 : ∀ (J9 : am_L), am_V Z X kX1_extendPathsBy (fun r : am_L => (none, R, I, r)) 65 [(0, .ref (am_B Z + a0)), (1, .ref (am_B Z + a1)), (2, .int x2), (3, .int v3)] [] R I J9 (j8 J9)) : ∀ (n : Nat) (v12 : Int32) (J13 : am_L), am_V Z X kX1_extendPathsBy (fun r : am_L => (none, R, I, r)) 19 [(0, .ref (am_B Z + a0)), (1, .ref (am_B Z + a1)), (2, .int x2), (3, .int v3), (4, .int r7), (5, .int v12)] [] R I J13 (lX1_extendPathsBy_19 R I a0 a1 x2 v3 r7 j8 n v12 J13) := by
  intro n
  induction n with
  | zero => intro _ _; exact am_none
  | succ n ih => exact fun v12 J13 => vX1_extendPathsBy_19 R I a0 a1 x2 v3 r7 h10 h11 j8 hj8 (lX1_extendPathsBy_19 R I a0 a1 x2 v3 r7 j8 n) ih v12 J13
set_option maxRecDepth 100000 in
set_option maxHeartbeats 4000000 in
theorem vX1_extendPathsBy_2 {Z : am_Z} {X : am_X} (R : am_R) (I : am_I) (a0 : Nat) (a1 : Nat) (x2 : Int32) (h1 : am_G Z a0 = some (.inl 1)) (h2 : am_G Z a1 = some (.inl 0)) (ih5 : Int32 → am_L → Option (am_L)) (hih5 : ∀ (v3 : Int32) (J4 : am_L), am_V Z X kX1_extendPathsBy (fun r : am_L => (none, R, I, r)) 2 [(0, .ref (am_B Z + a0)), (1, .ref (am_B Z + a1)), (2, .int x2), (3, .int v3)] [] R I J4 (ih5 v3 J4)) (v3 : Int32) (J4 : am_L) : am_V Z X kX1_extendPathsBy (fun r : am_L => (none, R, I, r)) 2 [(0, .ref (am_B Z + a0)), (1, .ref (am_B Z + a1)), (2, .int x2), (3, .int v3)] [] R I J4 (sX1_extendPathsBy_2 R I a0 a1 x2 ih5 v3 J4) := by
  unfold sX1_extendPathsBy_2
  refine am_iload_n dX1_extendPathsBy_2 rfl 3 rfl ?_
  refine am_bipush (v := 6) dX1_extendPathsBy_3 (by decide) ?_
  refine am_icmp_ge (tgt := 71) dX1_extendPathsBy_5 rfl (fun e6 => ?_) (fun e6 => ?_)
  · exact am_vret dX1_extendPathsBy_71 rfl rfl
  · refine am_aload_n dX1_extendPathsBy_8 rfl 1 rfl ?_
    refine am_iload_n dX1_extendPathsBy_9 rfl 3 rfl ?_
    refine am_iload_n dX1_extendPathsBy_10 rfl 2 rfl ?_
    refine am_callV [.int v3, .int x2] (tX0_targetsOf R I J4 a1 v3 x2 h2) h2 clX0 gX1_extendPathsBy_X0_targetsOf hX0_targetsOf rfl ⟨Nat.le_of_ble_eq_true rfl, Nat.le_of_ble_eq_true rfl⟩ rfl rfl (Nat.le_of_ble_eq_true rfl) dX1_extendPathsBy_11 (fun r7 => ?_)
    show am_V Z X kX1_extendPathsBy (fun r : am_L => (none, R, I, r)) 14 [(0, .ref (am_B Z + a0)), (1, .ref (am_B Z + a1)), (2, .int x2), (3, .int v3)] [.int r7] R I J4 _
    refine am_istore (ls' := [(4, .int r7), (0, .ref (am_B Z + a0)), (1, .ref (am_B Z + a1)), (2, .int x2), (3, .int v3)]) dX1_extendPathsBy_14 (Nat.le_of_ble_eq_true rfl) rfl ?_
    refine am_iconst (v := 0) dX1_extendPathsBy_16 (by decide) ?_
    refine am_istore (ls' := [(5, .int (0 : Int32)), (4, .int r7), (0, .ref (am_B Z + a0)), (1, .ref (am_B Z + a1)), (2, .int x2), (3, .int v3)]) dX1_extendPathsBy_17 (Nat.le_of_ble_eq_true rfl) rfl ?_
    refine am_jnV (fun j8 ej8 => ?_)
    have hj8 : ∀ (J9 : am_L), am_V Z X kX1_extendPathsBy (fun r : am_L => (none, R, I, r)) 65 [(0, .ref (am_B Z + a0)), (1, .ref (am_B Z + a1)), (2, .int x2), (3, .int v3)] [] R I J9 (j8 J9) := by
      subst ej8
      intro J9
      show am_V Z X kX1_extendPathsBy (fun r : am_L => (none, R, I, r)) 65 [(0, .ref (am_B Z + a0)), (1, .ref (am_B Z + a1)), (2, .int x2), (3, .int v3)] [] R I J9 _
      refine am_iinc (j := 3) (ls' := [(3, .int (v3 + (1 : Int32))), (0, .ref (am_B Z + a0)), (1, .ref (am_B Z + a1)), (2, .int x2)]) dX1_extendPathsBy_65 rfl rfl (Nat.le_of_ble_eq_true rfl) rfl ?_
      refine am_goto (tgt := 2) dX1_extendPathsBy_68 rfl ?_
      refine am_sub (ls' := [(0, .ref (am_B Z + a0)), (1, .ref (am_B Z + a1)), (2, .int x2), (3, .int (v3 + (1 : Int32)))]) [1, 2, 3, 0] rfl ?_
      exact hih5 (v3 + (1 : Int32)) J9
    refine am_sub (ls' := [(0, .ref (am_B Z + a0)), (1, .ref (am_B Z + a1)), (2, .int x2), (3, .int v3), (4, .int r7), (5, .int (0 : Int32))]) [2, 3, 4, 5, 1, 0] rfl ?_
    exact uX1_extendPathsBy_19 R I a0 a1 x2 v3 r7 h1 h2 j8 hj8 am_fu (0 : Int32) J4
theorem uX1_extendPathsBy_2 {Z : am_Z} {X : am_X} (R : am_R) (I : am_I) (a0 : Nat) (a1 : Nat) (x2 : Int32) (h1 : am_G Z a0 = some (.inl 1)) (h2 : am_G Z a1 = some (.inl 0)) : ∀ (n : Nat) (v3 : Int32) (J4 : am_L), am_V Z X kX1_extendPathsBy (fun r : am_L => (none, R, I, r)) 2 [(0, .ref (am_B Z + a0)), (1, .ref (am_B Z + a1)), (2, .int x2), (3, .int v3)] [] R I J4 (lX1_extendPathsBy_2 R I a0 a1 x2 n v3 J4) := by
  intro n
  induction n with
  | zero => intro _ _; exact am_none
  | succ n ih => exact fun v3 J4 => vX1_extendPathsBy_2 R I a0 a1 x2 h1 h2 (lX1_extendPathsBy_2 R I a0 a1 x2 n) ih v3 J4
set_option maxRecDepth 100000 in
set_option maxHeartbeats 4000000 in
theorem tX1_extendPathsBy {Z : am_Z} (R : am_R) (I : am_I) (L : am_L) (a0 : Nat) (a1 : Nat) (x2 : Int32) (h_a0 : am_G Z a0 = some (.inl 1)) (h_a1 : am_G Z a1 = some (.inl 0)) : am_M Z yX1_extendPathsBy kX1_extendPathsBy [.ref (am_B Z + a0), .ref (am_B Z + a1), .int x2] R I L (pX1_extendPathsBy R I L a0 a1 x2) (fun r : am_L => (none, R, I, r)) := by
  refine am_entry (ls := [(0, .ref (am_B Z + a0)), (1, .ref (am_B Z + a1)), (2, .int x2)]) (by decide) hX1_extendPathsBy rfl (Nat.le_of_ble_eq_true rfl) rfl (fun X => ?_)
  unfold pX1_extendPathsBy
  refine am_iconst (v := 0) dX1_extendPathsBy_0 (by decide) ?_
  refine am_istore_n (ls' := [(3, .int (0 : Int32)), (0, .ref (am_B Z + a0)), (1, .ref (am_B Z + a1)), (2, .int x2)]) dX1_extendPathsBy_1 rfl (Nat.le_of_ble_eq_true rfl) rfl ?_
  refine am_sub (ls' := [(0, .ref (am_B Z + a0)), (1, .ref (am_B Z + a1)), (2, .int x2), (3, .int (0 : Int32))]) [1, 2, 3, 0] rfl ?_
  exact uX1_extendPathsBy_2 R I a0 a1 x2 h_a0 h_a1 am_fu (0 : Int32) L
abbrev kX1_takeNextPaths : am_K := (cX1_takeNextPaths, 2, RX1, wsX1_takeNextPaths, none, { frames := 0, cells := 0, slots := 0, locals := 0 })
theorem hX1_takeNextPaths : am_cl yX1_takeNextPaths kX1_takeNextPaths 0 := ⟨⟨_, rfl⟩, rfl, rfl, by decide +kernel, by decide +kernel, by decide +kernel⟩
theorem iX1_takeNextPaths_1 : ∀ w ∈ u_ws RX1 TX1 4, w ∈ wsX1_takeNextPaths := by decide +kernel
theorem fX1_takeNextPaths_9 : Cond.fieldLink RX1 9 "AmbiguityAnalyzer$Counter" "paths" "[J" ∈ wsX1_takeNextPaths := by decide +kernel
theorem fX1_takeNextPaths_15 : Cond.fieldLink RX1 15 "AmbiguityAnalyzer$Counter" "nextPaths" "[J" ∈ wsX1_takeNextPaths := by decide +kernel
set_option maxRecDepth 100000 in
set_option maxHeartbeats 4000000 in
theorem vX1_takeNextPaths_2 {Z : am_Z} {X : am_X} (R : am_R) (I : am_I) (a0 : Nat) (h1 : am_G Z a0 = some (.inl 1)) (ih4 : Int32 → am_L → Option (am_L)) (hih4 : ∀ (v2 : Int32) (J3 : am_L), am_V Z X kX1_takeNextPaths (fun r : am_L => (none, R, I, r)) 2 [(0, .ref (am_B Z + a0)), (1, .int v2)] [] R I J3 (ih4 v2 J3)) (v2 : Int32) (J3 : am_L) : am_V Z X kX1_takeNextPaths (fun r : am_L => (none, R, I, r)) 2 [(0, .ref (am_B Z + a0)), (1, .int v2)] [] R I J3 (sX1_takeNextPaths_2 R a0 ih4 v2 J3) := by
  unfold sX1_takeNextPaths_2
  refine am_iload_n dX1_takeNextPaths_2 rfl 1 rfl ?_
  refine am_bipush (v := 6) dX1_takeNextPaths_3 (by decide) ?_
  refine am_icmp_ge (tgt := 33) dX1_takeNextPaths_5 rfl (fun e5 => ?_) (fun e5 => ?_)
  · exact am_vret dX1_takeNextPaths_33 rfl rfl
  · refine am_aload_n dX1_takeNextPaths_8 rfl 0 rfl ?_
    refine am_getR 1 0 clX1 (Nat.le_of_ble_eq_true rfl) h1 iX1_takeNextPaths_1 fX1_takeNextPaths_9 rfl rfl dX1_takeNextPaths_9 (fun h6 => ?_)
    refine am_iload_n dX1_takeNextPaths_12 rfl 1 rfl ?_
    refine am_aload_n dX1_takeNextPaths_13 rfl 0 rfl ?_
    refine am_getR 1 1 clX1 (Nat.le_of_ble_eq_true rfl) h1 iX1_takeNextPaths_1 fX1_takeNextPaths_15 rfl rfl dX1_takeNextPaths_14 (fun h7 => ?_)
    refine am_iload_n dX1_takeNextPaths_17 rfl 1 rfl ?_
    refine am_lald h7 dX1_takeNextPaths_18 ?_
    refine am_last h6 dX1_takeNextPaths_19 ?_
    refine am_letL (fun J8 => ?_)
    refine am_aload_n dX1_takeNextPaths_20 rfl 0 rfl ?_
    refine am_getR 1 1 clX1 (Nat.le_of_ble_eq_true rfl) h1 iX1_takeNextPaths_1 fX1_takeNextPaths_15 rfl rfl dX1_takeNextPaths_21 (fun h9 => ?_)
    refine am_iload_n dX1_takeNextPaths_24 rfl 1 rfl ?_
    refine am_lconst (v := 0) dX1_takeNextPaths_25 (by decide) ?_
    refine am_last h9 dX1_takeNextPaths_26 ?_
    refine am_letL (fun J10 => ?_)
    refine am_iinc (j := 1) (ls' := [(1, .int (v2 + (1 : Int32))), (0, .ref (am_B Z + a0))]) dX1_takeNextPaths_27 rfl rfl (Nat.le_of_ble_eq_true rfl) rfl ?_
    refine am_goto (tgt := 2) dX1_takeNextPaths_30 rfl ?_
    refine am_sub (ls' := [(0, .ref (am_B Z + a0)), (1, .int (v2 + (1 : Int32)))]) [1, 0] rfl ?_
    exact hih4 (v2 + (1 : Int32)) J10
theorem uX1_takeNextPaths_2 {Z : am_Z} {X : am_X} (R : am_R) (I : am_I) (a0 : Nat) (h1 : am_G Z a0 = some (.inl 1)) : ∀ (n : Nat) (v2 : Int32) (J3 : am_L), am_V Z X kX1_takeNextPaths (fun r : am_L => (none, R, I, r)) 2 [(0, .ref (am_B Z + a0)), (1, .int v2)] [] R I J3 (lX1_takeNextPaths_2 R a0 n v2 J3) := by
  intro n
  induction n with
  | zero => intro _ _; exact am_none
  | succ n ih => exact fun v2 J3 => vX1_takeNextPaths_2 R I a0 h1 (lX1_takeNextPaths_2 R a0 n) ih v2 J3
set_option maxRecDepth 100000 in
set_option maxHeartbeats 4000000 in
theorem tX1_takeNextPaths {Z : am_Z} (R : am_R) (I : am_I) (L : am_L) (a0 : Nat) (h_a0 : am_G Z a0 = some (.inl 1)) : am_M Z yX1_takeNextPaths kX1_takeNextPaths [.ref (am_B Z + a0)] R I L (pX1_takeNextPaths R L a0) (fun r : am_L => (none, R, I, r)) := by
  refine am_entry (ls := [(0, .ref (am_B Z + a0))]) (by decide) hX1_takeNextPaths rfl (Nat.le_of_ble_eq_true rfl) rfl (fun X => ?_)
  unfold pX1_takeNextPaths
  refine am_iconst (v := 0) dX1_takeNextPaths_0 (by decide) ?_
  refine am_istore_n (ls' := [(1, .int (0 : Int32)), (0, .ref (am_B Z + a0))]) dX1_takeNextPaths_1 rfl (Nat.le_of_ble_eq_true rfl) rfl ?_
  refine am_sub (ls' := [(0, .ref (am_B Z + a0)), (1, .int (0 : Int32))]) [1, 0] rfl ?_
  exact uX1_takeNextPaths_2 R I a0 h_a0 am_fu (0 : Int32) L
abbrev kX1_acceptedPaths : am_K := (cX1_acceptedPaths, 5, RX1, wsX1_acceptedPaths, some .long, { frames := 1, cells := 0, slots := 0, locals := 23 })
theorem hX1_acceptedPaths : am_cl yX1_acceptedPaths kX1_acceptedPaths 1 := ⟨⟨_, rfl⟩, rfl, rfl, by decide +kernel, by decide +kernel, by decide +kernel⟩
theorem iX1_acceptedPaths_0 : ∀ w ∈ u_ws RX0 TX0 4, w ∈ wsX1_acceptedPaths := by decide +kernel
theorem fX1_acceptedPaths_71 : Cond.fieldLink RX1 71 "AmbiguityAnalyzer$Automaton" "finals" "I" ∈ wsX1_acceptedPaths := by decide +kernel
theorem iX1_acceptedPaths_1 : ∀ w ∈ u_ws RX1 TX1 4, w ∈ wsX1_acceptedPaths := by decide +kernel
theorem fX1_acceptedPaths_9 : Cond.fieldLink RX1 9 "AmbiguityAnalyzer$Counter" "paths" "[J" ∈ wsX1_acceptedPaths := by decide +kernel
set_option maxRecDepth 100000 in
set_option maxHeartbeats 4000000 in
theorem vX1_acceptedPaths_5 {Z : am_Z} {X : am_X} (R : am_R) (I : am_I) (L : am_L) (a0 : Nat) (a1 : Nat) (h1 : am_G Z a0 = some (.inl 1)) (h2 : am_G Z a1 = some (.inl 0)) (ih5 : Int64 → Int32 → Option (Int64)) (hih5 : ∀ (v3 : Int64) (v4 : Int32), am_V Z X kX1_acceptedPaths (fun r : Int64 => (some (.long r), R, I, L)) 5 [(0, .ref (am_B Z + a0)), (1, .ref (am_B Z + a1)), (2, .long v3), (4, .int v4)] [] R I L (ih5 v3 v4)) (v3 : Int64) (v4 : Int32) : am_V Z X kX1_acceptedPaths (fun r : Int64 => (some (.long r), R, I, L)) 5 [(0, .ref (am_B Z + a0)), (1, .ref (am_B Z + a1)), (2, .long v3), (4, .int v4)] [] R I L (sX1_acceptedPaths_5 R I L a0 a1 ih5 v3 v4) := by
  unfold sX1_acceptedPaths_5
  refine am_iload dX1_acceptedPaths_5 3 rfl ?_
  refine am_bipush (v := 6) dX1_acceptedPaths_7 (by decide) ?_
  refine am_icmp_ge (tgt := 42) dX1_acceptedPaths_9 rfl (fun e6 => ?_) (fun e6 => ?_)
  · refine am_lload_n dX1_acceptedPaths_42 rfl 2 rfl ?_
    exact am_lret dX1_acceptedPaths_43 rfl rfl
  · refine am_aload_n dX1_acceptedPaths_12 rfl 1 rfl ?_
    refine am_get 0 2 clX0 (Nat.le_of_ble_eq_true rfl) h2 iX1_acceptedPaths_0 fX1_acceptedPaths_71 rfl dX1_acceptedPaths_13 ?_
    refine am_iload dX1_acceptedPaths_16 3 rfl ?_
    refine am_callN (host := RX10) [.int (I a1 2), .int v4] (tX10_contains R I L (I a1 2) v4) gX1_acceptedPaths_X10_contains_n59 (by decide +kernel) (by decide +kernel) (by decide +kernel) hX10_contains ⟨Nat.le_of_ble_eq_true rfl, Nat.le_of_ble_eq_true rfl⟩ rfl rfl (Nat.le_of_ble_eq_true rfl) dX1_acceptedPaths_18 (fun r7 => ?_)
    show am_V Z X kX1_acceptedPaths (fun r : Int64 => (some (.long r), R, I, L)) 21 [(0, .ref (am_B Z + a0)), (1, .ref (am_B Z + a1)), (2, .long v3), (4, .int v4)] [.int r7] R I L _
    refine am_jnV (fun j8 ej8 => ?_)
    have hj8 : ∀ (v9 : Int64), am_V Z X kX1_acceptedPaths (fun r : Int64 => (some (.long r), R, I, L)) 36 [(0, .ref (am_B Z + a0)), (1, .ref (am_B Z + a1)), (2, .long v9), (4, .int v4)] [] R I L (j8 v9) := by
      subst ej8
      intro v9
      show am_V Z X kX1_acceptedPaths (fun r : Int64 => (some (.long r), R, I, L)) 36 [(0, .ref (am_B Z + a0)), (1, .ref (am_B Z + a1)), (2, .long v9), (4, .int v4)] [] R I L _
      refine am_iinc (j := 3) (ls' := [(4, .int (v4 + (1 : Int32))), (0, .ref (am_B Z + a0)), (1, .ref (am_B Z + a1)), (2, .long v9)]) dX1_acceptedPaths_36 rfl rfl (Nat.le_of_ble_eq_true rfl) rfl ?_
      refine am_goto (tgt := 5) dX1_acceptedPaths_39 rfl ?_
      refine am_sub (ls' := [(0, .ref (am_B Z + a0)), (1, .ref (am_B Z + a1)), (2, .long v9), (4, .int (v4 + (1 : Int32)))]) [1, 2, 3, 0] rfl ?_
      exact hih5 v9 (v4 + (1 : Int32))
    refine am_if_eq (tgt := 36) dX1_acceptedPaths_21 rfl (fun e10 => ?_) (fun e10 => ?_)
    · exact hj8 v3
    · refine am_lload_n dX1_acceptedPaths_24 rfl 2 rfl ?_
      refine am_aload_n dX1_acceptedPaths_25 rfl 0 rfl ?_
      refine am_getR 1 0 clX1 (Nat.le_of_ble_eq_true rfl) h1 iX1_acceptedPaths_1 fX1_acceptedPaths_9 rfl rfl dX1_acceptedPaths_26 (fun h11 => ?_)
      refine am_iload dX1_acceptedPaths_29 3 rfl ?_
      refine am_lald h11 dX1_acceptedPaths_31 ?_
      refine am_callS [.long v3, .long (L (R a0 0) (Int32.toNatClampNeg v4))] (tX1_sum R I L v3 (L (R a0 0) (Int32.toNatClampNeg v4))) gX1_acceptedPaths_X1_sum hX1_sum ⟨Nat.le_of_ble_eq_true rfl, Nat.le_of_ble_eq_true rfl⟩ rfl rfl (Nat.le_of_ble_eq_true rfl) dX1_acceptedPaths_32 (fun r12 => ?_)
      show am_V Z X kX1_acceptedPaths (fun r : Int64 => (some (.long r), R, I, L)) 35 [(0, .ref (am_B Z + a0)), (1, .ref (am_B Z + a1)), (2, .long v3), (4, .int v4)] [.long r12] R I L _
      refine am_lstore_n (ls' := [(2, .long r12), (0, .ref (am_B Z + a0)), (1, .ref (am_B Z + a1)), (4, .int v4)]) dX1_acceptedPaths_35 rfl (Nat.le_of_ble_eq_true rfl) rfl ?_
      refine am_sub (ls' := [(0, .ref (am_B Z + a0)), (1, .ref (am_B Z + a1)), (2, .long r12), (4, .int v4)]) [1, 2, 0, 3] rfl ?_
      exact hj8 r12
theorem uX1_acceptedPaths_5 {Z : am_Z} {X : am_X} (R : am_R) (I : am_I) (L : am_L) (a0 : Nat) (a1 : Nat) (h1 : am_G Z a0 = some (.inl 1)) (h2 : am_G Z a1 = some (.inl 0)) : ∀ (n : Nat) (v3 : Int64) (v4 : Int32), am_V Z X kX1_acceptedPaths (fun r : Int64 => (some (.long r), R, I, L)) 5 [(0, .ref (am_B Z + a0)), (1, .ref (am_B Z + a1)), (2, .long v3), (4, .int v4)] [] R I L (lX1_acceptedPaths_5 R I L a0 a1 n v3 v4) := by
  intro n
  induction n with
  | zero => intro _ _; exact am_none
  | succ n ih => exact fun v3 v4 => vX1_acceptedPaths_5 R I L a0 a1 h1 h2 (lX1_acceptedPaths_5 R I L a0 a1 n) ih v3 v4
set_option maxRecDepth 100000 in
set_option maxHeartbeats 4000000 in
theorem tX1_acceptedPaths {Z : am_Z} (R : am_R) (I : am_I) (L : am_L) (a0 : Nat) (a1 : Nat) (h_a0 : am_G Z a0 = some (.inl 1)) (h_a1 : am_G Z a1 = some (.inl 0)) : am_M Z yX1_acceptedPaths kX1_acceptedPaths [.ref (am_B Z + a0), .ref (am_B Z + a1)] R I L (pX1_acceptedPaths R I L a0 a1) (fun r : Int64 => (some (.long r), R, I, L)) := by
  refine am_entry (ls := [(0, .ref (am_B Z + a0)), (1, .ref (am_B Z + a1))]) (by decide) hX1_acceptedPaths rfl (Nat.le_of_ble_eq_true rfl) rfl (fun X => ?_)
  unfold pX1_acceptedPaths
  refine am_lconst (v := 0) dX1_acceptedPaths_0 (by decide) ?_
  refine am_lstore_n (ls' := [(2, .long (0 : Int64)), (0, .ref (am_B Z + a0)), (1, .ref (am_B Z + a1))]) dX1_acceptedPaths_1 rfl (Nat.le_of_ble_eq_true rfl) rfl ?_
  refine am_iconst (v := 0) dX1_acceptedPaths_2 (by decide) ?_
  refine am_istore (ls' := [(4, .int (0 : Int32)), (2, .long (0 : Int64)), (0, .ref (am_B Z + a0)), (1, .ref (am_B Z + a1))]) dX1_acceptedPaths_3 (Nat.le_of_ble_eq_true rfl) rfl ?_
  refine am_sub (ls' := [(0, .ref (am_B Z + a0)), (1, .ref (am_B Z + a1)), (2, .long (0 : Int64)), (4, .int (0 : Int32))]) [2, 3, 1, 0] rfl ?_
  exact uX1_acceptedPaths_5 R I L a0 a1 h_a0 h_a1 am_fu (0 : Int64) (0 : Int32)
abbrev kX1_pathsOf : am_K := (cX1_pathsOf, 4, RX1, wsX1_pathsOf, some .long, { frames := 2, cells := 0, slots := 0, locals := 48 })
theorem hX1_pathsOf : am_cl yX1_pathsOf kX1_pathsOf 2 := ⟨⟨_, rfl⟩, rfl, rfl, by decide +kernel, by decide +kernel, by decide +kernel⟩
theorem iX1_pathsOf_8 : ∀ w ∈ u_ws RX8 TX8 2, w ∈ wsX1_pathsOf := by decide +kernel
theorem fX1_pathsOf_30 : Cond.fieldLink RX1 30 "AmbiguityAnalyzer$Word" "length" "I" ∈ wsX1_pathsOf := by decide +kernel
set_option maxRecDepth 100000 in
set_option maxHeartbeats 4000000 in
theorem vX1_pathsOf_7 {Z : am_Z} {X : am_X} (R : am_R) (I : am_I) (a0 : Nat) (a1 : Nat) (a2 : Nat) (h5 : am_G Z a0 = some (.inl 1)) (h6 : am_G Z a1 = some (.inl 0)) (h7 : am_G Z a2 = some (.inl 8)) (j2 : am_L → Option (Int64 × am_L)) (hj2 : ∀ (J3 : am_L), am_V Z X kX1_pathsOf (fun r : Int64 × am_L => (some (.long r.1), R, I, r.2)) 35 [(0, .ref (am_B Z + a0)), (1, .ref (am_B Z + a1))] [] R I J3 (j2 J3)) (ih10 : Int32 → am_L → Option (Int64 × am_L)) (hih10 : ∀ (v8 : Int32) (J9 : am_L), am_V Z X kX1_pathsOf (fun r : Int64 × am_L => (some (.long r.1), R, I, r.2)) 7 [(0, .ref (am_B Z + a0)), (1, .ref (am_B Z + a1)), (2, .ref (am_B Z + a2)), (3, .int v8)] [] R I J9 (ih10 v8 J9)) (v8 : Int32) (J9 : am_L) : am_V Z X kX1_pathsOf (fun r : Int64 × am_L => (some (.long r.1), R, I, r.2)) 7 [(0, .ref (am_B Z + a0)), (1, .ref (am_B Z + a1)), (2, .ref (am_B Z + a2)), (3, .int v8)] [] R I J9 (sX1_pathsOf_7 R I a0 a1 a2 j2 ih10 v8 J9) := by
  unfold sX1_pathsOf_7
  refine am_iload_n dX1_pathsOf_7 rfl 3 rfl ?_
  refine am_aload_n dX1_pathsOf_8 rfl 2 rfl ?_
  refine am_get 8 0 clX8 (Nat.le_of_ble_eq_true rfl) h7 iX1_pathsOf_8 fX1_pathsOf_30 rfl dX1_pathsOf_9 ?_
  refine am_icmp_ge (tgt := 35) dX1_pathsOf_12 rfl (fun e11 => ?_) (fun e11 => ?_)
  · refine am_sub (ls' := [(0, .ref (am_B Z + a0)), (1, .ref (am_B Z + a1))]) [0, 1] rfl ?_
    exact hj2 J9
  · refine am_aload_n dX1_pathsOf_15 rfl 0 rfl ?_
    refine am_aload_n dX1_pathsOf_16 rfl 1 rfl ?_
    refine am_aload_n dX1_pathsOf_17 rfl 2 rfl ?_
    refine am_iload_n dX1_pathsOf_18 rfl 3 rfl ?_
    refine am_callV [.int v8] (tX8_letterAt R I J9 a2 v8 h7) h7 clX8 gX1_pathsOf_X8_letterAt hX8_letterAt rfl ⟨Nat.le_of_ble_eq_true rfl, Nat.le_of_ble_eq_true rfl⟩ rfl rfl (Nat.le_of_ble_eq_true rfl) dX1_pathsOf_19 (fun r12 => ?_)
    show am_V Z X kX1_pathsOf (fun r : Int64 × am_L => (some (.long r.1), R, I, r.2)) 22 [(0, .ref (am_B Z + a0)), (1, .ref (am_B Z + a1)), (2, .ref (am_B Z + a2)), (3, .int v8)] [.int r12, .ref (am_B Z + a1), .ref (am_B Z + a0)] R I J9 _
    refine am_callV [.ref (am_B Z + a1), .int r12] (tX1_extendPathsBy R I J9 a0 a1 r12 h5 h6) h5 clX1 gX1_pathsOf_X1_extendPathsBy hX1_extendPathsBy rfl ⟨Nat.le_of_ble_eq_true rfl, Nat.le_of_ble_eq_true rfl⟩ rfl rfl (Nat.le_of_ble_eq_true rfl) dX1_pathsOf_22 (fun r13 => ?_)
    show am_V Z X kX1_pathsOf (fun r : Int64 × am_L => (some (.long r.1), R, I, r.2)) 25 [(0, .ref (am_B Z + a0)), (1, .ref (am_B Z + a1)), (2, .ref (am_B Z + a2)), (3, .int v8)] [] R I r13 _
    refine am_aload_n dX1_pathsOf_25 rfl 0 rfl ?_
    refine am_callV [] (tX1_takeNextPaths R I r13 a0 h5) h5 clX1 gX1_pathsOf_X1_takeNextPaths hX1_takeNextPaths rfl ⟨Nat.le_of_ble_eq_true rfl, Nat.le_of_ble_eq_true rfl⟩ rfl rfl (Nat.le_of_ble_eq_true rfl) dX1_pathsOf_26 (fun r14 => ?_)
    show am_V Z X kX1_pathsOf (fun r : Int64 × am_L => (some (.long r.1), R, I, r.2)) 29 [(0, .ref (am_B Z + a0)), (1, .ref (am_B Z + a1)), (2, .ref (am_B Z + a2)), (3, .int v8)] [] R I r14 _
    refine am_iinc (j := 3) (ls' := [(3, .int (v8 + (1 : Int32))), (0, .ref (am_B Z + a0)), (1, .ref (am_B Z + a1)), (2, .ref (am_B Z + a2))]) dX1_pathsOf_29 rfl rfl (Nat.le_of_ble_eq_true rfl) rfl ?_
    refine am_goto (tgt := 7) dX1_pathsOf_32 rfl ?_
    refine am_sub (ls' := [(0, .ref (am_B Z + a0)), (1, .ref (am_B Z + a1)), (2, .ref (am_B Z + a2)), (3, .int (v8 + (1 : Int32)))]) [1, 2, 3, 0] rfl ?_
    exact hih10 (v8 + (1 : Int32)) r14
theorem uX1_pathsOf_7 {Z : am_Z} {X : am_X} (R : am_R) (I : am_I) (a0 : Nat) (a1 : Nat) (a2 : Nat) (h5 : am_G Z a0 = some (.inl 1)) (h6 : am_G Z a1 = some (.inl 0)) (h7 : am_G Z a2 = some (.inl 8)) (j2 : am_L → Option (Int64 × am_L)) (hj2 : ∀ (J3 : am_L), am_V Z X kX1_pathsOf (fun r : Int64 × am_L => (some (.long r.1), R, I, r.2)) 35 [(0, .ref (am_B Z + a0)), (1, .ref (am_B Z + a1))] [] R I J3 (j2 J3)) : ∀ (n : Nat) (v8 : Int32) (J9 : am_L), am_V Z X kX1_pathsOf (fun r : Int64 × am_L => (some (.long r.1), R, I, r.2)) 7 [(0, .ref (am_B Z + a0)), (1, .ref (am_B Z + a1)), (2, .ref (am_B Z + a2)), (3, .int v8)] [] R I J9 (lX1_pathsOf_7 R I a0 a1 a2 j2 n v8 J9) := by
  intro n
  induction n with
  | zero => intro _ _; exact am_none
  | succ n ih => exact fun v8 J9 => vX1_pathsOf_7 R I a0 a1 a2 h5 h6 h7 j2 hj2 (lX1_pathsOf_7 R I a0 a1 a2 j2 n) ih v8 J9
set_option maxRecDepth 100000 in
set_option maxHeartbeats 4000000 in
theorem tX1_pathsOf {Z : am_Z} (R : am_R) (I : am_I) (L : am_L) (a0 : Nat) (a1 : Nat) (a2 : Nat) (h_a0 : am_G Z a0 = some (.inl 1)) (h_a1 : am_G Z a1 = some (.inl 0)) (h_a2 : am_G Z a2 = some (.inl 8)) : am_M Z yX1_pathsOf kX1_pathsOf [.ref (am_B Z + a0), .ref (am_B Z + a1), .ref (am_B Z + a2)] R I L (pX1_pathsOf R I L a0 a1 a2) (fun r : Int64 × am_L => (some (.long r.1), R, I, r.2)) := by
  refine am_entry (ls := [(0, .ref (am_B Z + a0)), (1, .ref (am_B Z + a1)), (2, .ref (am_B Z + a2))]) (by decide) hX1_pathsOf rfl (Nat.le_of_ble_eq_true rfl) rfl (fun X => ?_)
  unfold pX1_pathsOf
  refine am_aload_n dX1_pathsOf_0 rfl 0 rfl ?_
  refine am_aload_n dX1_pathsOf_1 rfl 1 rfl ?_
  refine am_callV [.ref (am_B Z + a1)] (tX1_startPaths R I L a0 a1 h_a0 h_a1) h_a0 clX1 gX1_pathsOf_X1_startPaths hX1_startPaths rfl ⟨Nat.le_of_ble_eq_true rfl, Nat.le_of_ble_eq_true rfl⟩ rfl rfl (Nat.le_of_ble_eq_true rfl) dX1_pathsOf_2 (fun r1 => ?_)
  show am_V Z X kX1_pathsOf (fun r : Int64 × am_L => (some (.long r.1), R, I, r.2)) 5 [(0, .ref (am_B Z + a0)), (1, .ref (am_B Z + a1)), (2, .ref (am_B Z + a2))] [] R I r1 _
  refine am_iconst (v := 0) dX1_pathsOf_5 (by decide) ?_
  refine am_istore_n (ls' := [(3, .int (0 : Int32)), (0, .ref (am_B Z + a0)), (1, .ref (am_B Z + a1)), (2, .ref (am_B Z + a2))]) dX1_pathsOf_6 rfl (Nat.le_of_ble_eq_true rfl) rfl ?_
  refine am_jnV (fun j2 ej2 => ?_)
  have hj2 : ∀ (J3 : am_L), am_V Z X kX1_pathsOf (fun r : Int64 × am_L => (some (.long r.1), R, I, r.2)) 35 [(0, .ref (am_B Z + a0)), (1, .ref (am_B Z + a1))] [] R I J3 (j2 J3) := by
    subst ej2
    intro J3
    show am_V Z X kX1_pathsOf (fun r : Int64 × am_L => (some (.long r.1), R, I, r.2)) 35 [(0, .ref (am_B Z + a0)), (1, .ref (am_B Z + a1))] [] R I J3 _
    refine am_aload_n dX1_pathsOf_35 rfl 0 rfl ?_
    refine am_aload_n dX1_pathsOf_36 rfl 1 rfl ?_
    refine am_callV [.ref (am_B Z + a1)] (tX1_acceptedPaths R I J3 a0 a1 h_a0 h_a1) h_a0 clX1 gX1_pathsOf_X1_acceptedPaths hX1_acceptedPaths rfl ⟨Nat.le_of_ble_eq_true rfl, Nat.le_of_ble_eq_true rfl⟩ rfl rfl (Nat.le_of_ble_eq_true rfl) dX1_pathsOf_37 (fun r4 => ?_)
    show am_V Z X kX1_pathsOf (fun r : Int64 × am_L => (some (.long r.1), R, I, r.2)) 40 [(0, .ref (am_B Z + a0)), (1, .ref (am_B Z + a1))] [.long r4] R I J3 _
    exact am_lret dX1_pathsOf_40 rfl rfl
  refine am_sub (ls' := [(0, .ref (am_B Z + a0)), (1, .ref (am_B Z + a1)), (2, .ref (am_B Z + a2)), (3, .int (0 : Int32))]) [1, 2, 3, 0] rfl ?_
  exact uX1_pathsOf_7 R I a0 a1 a2 h_a0 h_a1 h_a2 j2 hj2 am_fu (0 : Int32) r1
abbrev kX1_extendPaths : am_K := (cX1_extendPaths, 3, RX1, wsX1_extendPaths, none, { frames := 2, cells := 0, slots := 0, locals := 48 })
theorem hX1_extendPaths : am_cl yX1_extendPaths kX1_extendPaths 1 := ⟨⟨_, rfl⟩, rfl, rfl, by decide +kernel, by decide +kernel, by decide +kernel⟩
set_option maxRecDepth 100000 in
set_option maxHeartbeats 4000000 in
theorem vX1_extendPaths_2 {Z : am_Z} {X : am_X} (R : am_R) (I : am_I) (a0 : Nat) (a1 : Nat) (h4 : am_G Z a0 = some (.inl 1)) (h5 : am_G Z a1 = some (.inl 0)) (j1 : am_L → Option (am_L)) (hj1 : ∀ (J2 : am_L), am_V Z X kX1_extendPaths (fun r : am_L => (none, R, I, r)) 19 [(0, .ref (am_B Z + a0))] [] R I J2 (j1 J2)) (ih8 : Int32 → am_L → Option (am_L)) (hih8 : ∀ (v6 : Int32) (J7 : am_L), am_V Z X kX1_extendPaths (fun r : am_L => (none, R, I, r)) 2 [(0, .ref (am_B Z + a0)), (1, .ref (am_B Z + a1)), (2, .int v6)] [] R I J7 (ih8 v6 J7)) (v6 : Int32) (J7 : am_L) : am_V Z X kX1_extendPaths (fun r : am_L => (none, R, I, r)) 2 [(0, .ref (am_B Z + a0)), (1, .ref (am_B Z + a1)), (2, .int v6)] [] R I J7 (sX1_extendPaths_2 R I a0 a1 j1 ih8 v6 J7) := by
  unfold sX1_extendPaths_2
  refine am_iload_n dX1_extendPaths_2 rfl 2 rfl ?_
  refine am_iconst (v := 3) dX1_extendPaths_3 (by decide) ?_
  refine am_icmp_ge (tgt := 19) dX1_extendPaths_4 rfl (fun e9 => ?_) (fun e9 => ?_)
  · refine am_sub (ls' := [(0, .ref (am_B Z + a0))]) [0] rfl ?_
    exact hj1 J7
  · refine am_aload_n dX1_extendPaths_7 rfl 0 rfl ?_
    refine am_aload_n dX1_extendPaths_8 rfl 1 rfl ?_
    refine am_iload_n dX1_extendPaths_9 rfl 2 rfl ?_
    refine am_callV [.ref (am_B Z + a1), .int v6] (tX1_extendPathsBy R I J7 a0 a1 v6 h4 h5) h4 clX1 gX1_extendPaths_X1_extendPathsBy hX1_extendPathsBy rfl ⟨Nat.le_of_ble_eq_true rfl, Nat.le_of_ble_eq_true rfl⟩ rfl rfl (Nat.le_of_ble_eq_true rfl) dX1_extendPaths_10 (fun r10 => ?_)
    show am_V Z X kX1_extendPaths (fun r : am_L => (none, R, I, r)) 13 [(0, .ref (am_B Z + a0)), (1, .ref (am_B Z + a1)), (2, .int v6)] [] R I r10 _
    refine am_iinc (j := 2) (ls' := [(2, .int (v6 + (1 : Int32))), (0, .ref (am_B Z + a0)), (1, .ref (am_B Z + a1))]) dX1_extendPaths_13 rfl rfl (Nat.le_of_ble_eq_true rfl) rfl ?_
    refine am_goto (tgt := 2) dX1_extendPaths_16 rfl ?_
    refine am_sub (ls' := [(0, .ref (am_B Z + a0)), (1, .ref (am_B Z + a1)), (2, .int (v6 + (1 : Int32)))]) [1, 2, 0] rfl ?_
    exact hih8 (v6 + (1 : Int32)) r10
theorem uX1_extendPaths_2 {Z : am_Z} {X : am_X} (R : am_R) (I : am_I) (a0 : Nat) (a1 : Nat) (h4 : am_G Z a0 = some (.inl 1)) (h5 : am_G Z a1 = some (.inl 0)) (j1 : am_L → Option (am_L)) (hj1 : ∀ (J2 : am_L), am_V Z X kX1_extendPaths (fun r : am_L => (none, R, I, r)) 19 [(0, .ref (am_B Z + a0))] [] R I J2 (j1 J2)) : ∀ (n : Nat) (v6 : Int32) (J7 : am_L), am_V Z X kX1_extendPaths (fun r : am_L => (none, R, I, r)) 2 [(0, .ref (am_B Z + a0)), (1, .ref (am_B Z + a1)), (2, .int v6)] [] R I J7 (lX1_extendPaths_2 R I a0 a1 j1 n v6 J7) := by
  intro n
  induction n with
  | zero => intro _ _; exact am_none
  | succ n ih => exact fun v6 J7 => vX1_extendPaths_2 R I a0 a1 h4 h5 j1 hj1 (lX1_extendPaths_2 R I a0 a1 j1 n) ih v6 J7
set_option maxRecDepth 100000 in
set_option maxHeartbeats 4000000 in
theorem tX1_extendPaths {Z : am_Z} (R : am_R) (I : am_I) (L : am_L) (a0 : Nat) (a1 : Nat) (h_a0 : am_G Z a0 = some (.inl 1)) (h_a1 : am_G Z a1 = some (.inl 0)) : am_M Z yX1_extendPaths kX1_extendPaths [.ref (am_B Z + a0), .ref (am_B Z + a1)] R I L (pX1_extendPaths R I L a0 a1) (fun r : am_L => (none, R, I, r)) := by
  refine am_entry (ls := [(0, .ref (am_B Z + a0)), (1, .ref (am_B Z + a1))]) (by decide) hX1_extendPaths rfl (Nat.le_of_ble_eq_true rfl) rfl (fun X => ?_)
  unfold pX1_extendPaths
  refine am_iconst (v := 0) dX1_extendPaths_0 (by decide) ?_
  refine am_istore_n (ls' := [(2, .int (0 : Int32)), (0, .ref (am_B Z + a0)), (1, .ref (am_B Z + a1))]) dX1_extendPaths_1 rfl (Nat.le_of_ble_eq_true rfl) rfl ?_
  refine am_jnV (fun j1 ej1 => ?_)
  have hj1 : ∀ (J2 : am_L), am_V Z X kX1_extendPaths (fun r : am_L => (none, R, I, r)) 19 [(0, .ref (am_B Z + a0))] [] R I J2 (j1 J2) := by
    subst ej1
    intro J2
    show am_V Z X kX1_extendPaths (fun r : am_L => (none, R, I, r)) 19 [(0, .ref (am_B Z + a0))] [] R I J2 _
    refine am_aload_n dX1_extendPaths_19 rfl 0 rfl ?_
    refine am_callV [] (tX1_takeNextPaths R I J2 a0 h_a0) h_a0 clX1 gX1_extendPaths_X1_takeNextPaths hX1_takeNextPaths rfl ⟨Nat.le_of_ble_eq_true rfl, Nat.le_of_ble_eq_true rfl⟩ rfl rfl (Nat.le_of_ble_eq_true rfl) dX1_extendPaths_20 (fun r3 => ?_)
    show am_V Z X kX1_extendPaths (fun r : am_L => (none, R, I, r)) 23 [(0, .ref (am_B Z + a0))] [] R I r3 _
    exact am_vret dX1_extendPaths_23 rfl rfl
  refine am_sub (ls' := [(0, .ref (am_B Z + a0)), (1, .ref (am_B Z + a1)), (2, .int (0 : Int32))]) [1, 2, 0] rfl ?_
  exact uX1_extendPaths_2 R I a0 a1 h_a0 h_a1 j1 hj1 am_fu (0 : Int32) L
abbrev kX1_countPaths : am_K := (cX1_countPaths, 4, RX1, wsX1_countPaths, some .long, { frames := 3, cells := 0, slots := 0, locals := 70 })
theorem hX1_countPaths : am_cl yX1_countPaths kX1_countPaths 2 := ⟨⟨_, rfl⟩, rfl, rfl, by decide +kernel, by decide +kernel, by decide +kernel⟩
set_option maxRecDepth 100000 in
set_option maxHeartbeats 4000000 in
theorem vX1_countPaths_7 {Z : am_Z} {X : am_X} (R : am_R) (I : am_I) (a0 : Nat) (a1 : Nat) (x2 : Int32) (h5 : am_G Z a0 = some (.inl 1)) (h6 : am_G Z a1 = some (.inl 0)) (j2 : am_L → Option (Int64 × am_L)) (hj2 : ∀ (J3 : am_L), am_V Z X kX1_countPaths (fun r : Int64 × am_L => (some (.long r.1), R, I, r.2)) 23 [(0, .ref (am_B Z + a0)), (1, .ref (am_B Z + a1))] [] R I J3 (j2 J3)) (ih9 : Int32 → am_L → Option (Int64 × am_L)) (hih9 : ∀ (v7 : Int32) (J8 : am_L), am_V Z X kX1_countPaths (fun r : Int64 × am_L => (some (.long r.1), R, I, r.2)) 7 [(0, .ref (am_B Z + a0)), (1, .ref (am_B Z + a1)), (2, .int x2), (3, .int v7)] [] R I J8 (ih9 v7 J8)) (v7 : Int32) (J8 : am_L) : am_V Z X kX1_countPaths (fun r : Int64 × am_L => (some (.long r.1), R, I, r.2)) 7 [(0, .ref (am_B Z + a0)), (1, .ref (am_B Z + a1)), (2, .int x2), (3, .int v7)] [] R I J8 (sX1_countPaths_7 R I a0 a1 x2 j2 ih9 v7 J8) := by
  unfold sX1_countPaths_7
  refine am_iload_n dX1_countPaths_7 rfl 3 rfl ?_
  refine am_iload_n dX1_countPaths_8 rfl 2 rfl ?_
  refine am_icmp_ge (tgt := 23) dX1_countPaths_9 rfl (fun e10 => ?_) (fun e10 => ?_)
  · refine am_sub (ls' := [(0, .ref (am_B Z + a0)), (1, .ref (am_B Z + a1))]) [0, 1] rfl ?_
    exact hj2 J8
  · refine am_aload_n dX1_countPaths_12 rfl 0 rfl ?_
    refine am_aload_n dX1_countPaths_13 rfl 1 rfl ?_
    refine am_callV [.ref (am_B Z + a1)] (tX1_extendPaths R I J8 a0 a1 h5 h6) h5 clX1 gX1_countPaths_X1_extendPaths hX1_extendPaths rfl ⟨Nat.le_of_ble_eq_true rfl, Nat.le_of_ble_eq_true rfl⟩ rfl rfl (Nat.le_of_ble_eq_true rfl) dX1_countPaths_14 (fun r11 => ?_)
    show am_V Z X kX1_countPaths (fun r : Int64 × am_L => (some (.long r.1), R, I, r.2)) 17 [(0, .ref (am_B Z + a0)), (1, .ref (am_B Z + a1)), (2, .int x2), (3, .int v7)] [] R I r11 _
    refine am_iinc (j := 3) (ls' := [(3, .int (v7 + (1 : Int32))), (0, .ref (am_B Z + a0)), (1, .ref (am_B Z + a1)), (2, .int x2)]) dX1_countPaths_17 rfl rfl (Nat.le_of_ble_eq_true rfl) rfl ?_
    refine am_goto (tgt := 7) dX1_countPaths_20 rfl ?_
    refine am_sub (ls' := [(0, .ref (am_B Z + a0)), (1, .ref (am_B Z + a1)), (2, .int x2), (3, .int (v7 + (1 : Int32)))]) [1, 2, 3, 0] rfl ?_
    exact hih9 (v7 + (1 : Int32)) r11
theorem uX1_countPaths_7 {Z : am_Z} {X : am_X} (R : am_R) (I : am_I) (a0 : Nat) (a1 : Nat) (x2 : Int32) (h5 : am_G Z a0 = some (.inl 1)) (h6 : am_G Z a1 = some (.inl 0)) (j2 : am_L → Option (Int64 × am_L)) (hj2 : ∀ (J3 : am_L), am_V Z X kX1_countPaths (fun r : Int64 × am_L => (some (.long r.1), R, I, r.2)) 23 [(0, .ref (am_B Z + a0)), (1, .ref (am_B Z + a1))] [] R I J3 (j2 J3)) : ∀ (n : Nat) (v7 : Int32) (J8 : am_L), am_V Z X kX1_countPaths (fun r : Int64 × am_L => (some (.long r.1), R, I, r.2)) 7 [(0, .ref (am_B Z + a0)), (1, .ref (am_B Z + a1)), (2, .int x2), (3, .int v7)] [] R I J8 (lX1_countPaths_7 R I a0 a1 x2 j2 n v7 J8) := by
  intro n
  induction n with
  | zero => intro _ _; exact am_none
  | succ n ih => exact fun v7 J8 => vX1_countPaths_7 R I a0 a1 x2 h5 h6 j2 hj2 (lX1_countPaths_7 R I a0 a1 x2 j2 n) ih v7 J8
set_option maxRecDepth 100000 in
set_option maxHeartbeats 4000000 in
theorem tX1_countPaths {Z : am_Z} (R : am_R) (I : am_I) (L : am_L) (a0 : Nat) (a1 : Nat) (x2 : Int32) (h_a0 : am_G Z a0 = some (.inl 1)) (h_a1 : am_G Z a1 = some (.inl 0)) : am_M Z yX1_countPaths kX1_countPaths [.ref (am_B Z + a0), .ref (am_B Z + a1), .int x2] R I L (pX1_countPaths R I L a0 a1 x2) (fun r : Int64 × am_L => (some (.long r.1), R, I, r.2)) := by
  refine am_entry (ls := [(0, .ref (am_B Z + a0)), (1, .ref (am_B Z + a1)), (2, .int x2)]) (by decide) hX1_countPaths rfl (Nat.le_of_ble_eq_true rfl) rfl (fun X => ?_)
  unfold pX1_countPaths
  refine am_aload_n dX1_countPaths_0 rfl 0 rfl ?_
  refine am_aload_n dX1_countPaths_1 rfl 1 rfl ?_
  refine am_callV [.ref (am_B Z + a1)] (tX1_startPaths R I L a0 a1 h_a0 h_a1) h_a0 clX1 gX1_countPaths_X1_startPaths hX1_startPaths rfl ⟨Nat.le_of_ble_eq_true rfl, Nat.le_of_ble_eq_true rfl⟩ rfl rfl (Nat.le_of_ble_eq_true rfl) dX1_countPaths_2 (fun r1 => ?_)
  show am_V Z X kX1_countPaths (fun r : Int64 × am_L => (some (.long r.1), R, I, r.2)) 5 [(0, .ref (am_B Z + a0)), (1, .ref (am_B Z + a1)), (2, .int x2)] [] R I r1 _
  refine am_iconst (v := 0) dX1_countPaths_5 (by decide) ?_
  refine am_istore_n (ls' := [(3, .int (0 : Int32)), (0, .ref (am_B Z + a0)), (1, .ref (am_B Z + a1)), (2, .int x2)]) dX1_countPaths_6 rfl (Nat.le_of_ble_eq_true rfl) rfl ?_
  refine am_jnV (fun j2 ej2 => ?_)
  have hj2 : ∀ (J3 : am_L), am_V Z X kX1_countPaths (fun r : Int64 × am_L => (some (.long r.1), R, I, r.2)) 23 [(0, .ref (am_B Z + a0)), (1, .ref (am_B Z + a1))] [] R I J3 (j2 J3) := by
    subst ej2
    intro J3
    show am_V Z X kX1_countPaths (fun r : Int64 × am_L => (some (.long r.1), R, I, r.2)) 23 [(0, .ref (am_B Z + a0)), (1, .ref (am_B Z + a1))] [] R I J3 _
    refine am_aload_n dX1_countPaths_23 rfl 0 rfl ?_
    refine am_aload_n dX1_countPaths_24 rfl 1 rfl ?_
    refine am_callV [.ref (am_B Z + a1)] (tX1_acceptedPaths R I J3 a0 a1 h_a0 h_a1) h_a0 clX1 gX1_countPaths_X1_acceptedPaths hX1_acceptedPaths rfl ⟨Nat.le_of_ble_eq_true rfl, Nat.le_of_ble_eq_true rfl⟩ rfl rfl (Nat.le_of_ble_eq_true rfl) dX1_countPaths_25 (fun r4 => ?_)
    show am_V Z X kX1_countPaths (fun r : Int64 × am_L => (some (.long r.1), R, I, r.2)) 28 [(0, .ref (am_B Z + a0)), (1, .ref (am_B Z + a1))] [.long r4] R I J3 _
    exact am_lret dX1_countPaths_28 rfl rfl
  refine am_sub (ls' := [(0, .ref (am_B Z + a0)), (1, .ref (am_B Z + a1)), (2, .int x2), (3, .int (0 : Int32))]) [1, 2, 3, 0] rfl ?_
  exact uX1_countPaths_7 R I a0 a1 x2 h_a0 h_a1 j2 hj2 am_fu (0 : Int32) r1
abbrev kX1_fillCounts : am_K := (cX1_fillCounts, 5, RX1, wsX1_fillCounts, some .boolean, { frames := 3, cells := 0, slots := 0, locals := 70 })
theorem hX1_fillCounts : am_cl yX1_fillCounts kX1_fillCounts 3 := ⟨⟨_, rfl⟩, rfl, rfl, by decide +kernel, by decide +kernel, by decide +kernel⟩
set_option maxRecDepth 100000 in
set_option maxHeartbeats 4000000 in
theorem vX1_fillCounts_8 {Z : am_Z} {X : am_X} (R : am_R) (I : am_I) (a0 : Nat) (a1 : Nat) (a2 : Nat) (x3 : Int32) (h2 : am_G Z a0 = some (.inl 1)) (h3 : am_G Z a1 = some (.inl 0)) (h4 : am_G Z a2 = some (.inr (1, 31))) (ih7 : Int32 → am_L → Option (Int32 × am_L)) (hih7 : ∀ (v5 : Int32) (J6 : am_L), am_V Z X kX1_fillCounts (fun r : Int32 × am_L => (some (.int r.1), R, I, r.2)) 8 [(0, .ref (am_B Z + a0)), (1, .ref (am_B Z + a1)), (2, .ref (am_B Z + a2)), (3, .int x3), (4, .int v5)] [] R I J6 (ih7 v5 J6)) (v5 : Int32) (J6 : am_L) : am_V Z X kX1_fillCounts (fun r : Int32 × am_L => (some (.int r.1), R, I, r.2)) 8 [(0, .ref (am_B Z + a0)), (1, .ref (am_B Z + a1)), (2, .ref (am_B Z + a2)), (3, .int x3), (4, .int v5)] [] R I J6 (sX1_fillCounts_8 R I a0 a1 a2 x3 ih7 v5 J6) := by
  unfold sX1_fillCounts_8
  refine am_iload dX1_fillCounts_8 4 rfl ?_
  refine am_iload_n dX1_fillCounts_10 rfl 3 rfl ?_
  refine am_icmp_ge (tgt := 52) dX1_fillCounts_11 rfl (fun e8 => ?_) (fun e8 => ?_)
  · refine am_iconst (v := 1) dX1_fillCounts_52 (by decide) ?_
    exact am_zret (by decide) dX1_fillCounts_53 rfl rfl
  · refine am_iload dX1_fillCounts_14 4 rfl ?_
    refine am_aload_n dX1_fillCounts_16 rfl 2 rfl ?_
    refine am_alen (t := 1) (v := 31) rfl h4 (by decide) dX1_fillCounts_17 ?_
    refine am_icmp_ge (tgt := 52) dX1_fillCounts_18 rfl (fun e9 => ?_) (fun e9 => ?_)
    · refine am_iconst (v := 1) dX1_fillCounts_52 (by decide) ?_
      exact am_zret (by decide) dX1_fillCounts_53 rfl rfl
    · refine am_aload_n dX1_fillCounts_21 rfl 2 rfl ?_
      refine am_iload dX1_fillCounts_22 4 rfl ?_
      refine am_aload_n dX1_fillCounts_24 rfl 0 rfl ?_
      refine am_aload_n dX1_fillCounts_25 rfl 1 rfl ?_
      refine am_callV [.ref (am_B Z + a1)] (tX1_acceptedPaths R I J6 a0 a1 h2 h3) h2 clX1 gX1_fillCounts_X1_acceptedPaths hX1_acceptedPaths rfl ⟨Nat.le_of_ble_eq_true rfl, Nat.le_of_ble_eq_true rfl⟩ rfl rfl (Nat.le_of_ble_eq_true rfl) dX1_fillCounts_26 (fun r10 => ?_)
      show am_V Z X kX1_fillCounts (fun r : Int32 × am_L => (some (.int r.1), R, I, r.2)) 29 [(0, .ref (am_B Z + a0)), (1, .ref (am_B Z + a1)), (2, .ref (am_B Z + a2)), (3, .int x3), (4, .int v5)] [.long r10, .int v5, .ref (am_B Z + a2)] R I J6 _
      refine am_last h4 dX1_fillCounts_29 ?_
      refine am_letL (fun J11 => ?_)
      refine am_aload_n dX1_fillCounts_30 rfl 2 rfl ?_
      refine am_iload dX1_fillCounts_31 4 rfl ?_
      refine am_lald h4 dX1_fillCounts_33 ?_
      refine am_lconst (v := 0) dX1_fillCounts_34 (by decide) ?_
      refine am_lcmp dX1_fillCounts_35 ?_
      refine am_if_ge (tgt := 41) dX1_fillCounts_36 rfl (fun e12 => ?_) (fun e12 => ?_)
      · refine am_aload_n dX1_fillCounts_41 rfl 0 rfl ?_
        refine am_aload_n dX1_fillCounts_42 rfl 1 rfl ?_
        refine am_callV [.ref (am_B Z + a1)] (tX1_extendPaths R I J11 a0 a1 h2 h3) h2 clX1 gX1_fillCounts_X1_extendPaths hX1_extendPaths rfl ⟨Nat.le_of_ble_eq_true rfl, Nat.le_of_ble_eq_true rfl⟩ rfl rfl (Nat.le_of_ble_eq_true rfl) dX1_fillCounts_43 (fun r13 => ?_)
        show am_V Z X kX1_fillCounts (fun r : Int32 × am_L => (some (.int r.1), R, I, r.2)) 46 [(0, .ref (am_B Z + a0)), (1, .ref (am_B Z + a1)), (2, .ref (am_B Z + a2)), (3, .int x3), (4, .int v5)] [] R I r13 _
        refine am_iinc (j := 4) (ls' := [(4, .int (v5 + (1 : Int32))), (0, .ref (am_B Z + a0)), (1, .ref (am_B Z + a1)), (2, .ref (am_B Z + a2)), (3, .int x3)]) dX1_fillCounts_46 rfl rfl (Nat.le_of_ble_eq_true rfl) rfl ?_
        refine am_goto (tgt := 8) dX1_fillCounts_49 rfl ?_
        refine am_sub (ls' := [(0, .ref (am_B Z + a0)), (1, .ref (am_B Z + a1)), (2, .ref (am_B Z + a2)), (3, .int x3), (4, .int (v5 + (1 : Int32)))]) [1, 2, 3, 4, 0] rfl ?_
        exact hih7 (v5 + (1 : Int32)) r13
      · refine am_iconst (v := 0) dX1_fillCounts_39 (by decide) ?_
        exact am_zret (by decide) dX1_fillCounts_40 rfl rfl
theorem uX1_fillCounts_8 {Z : am_Z} {X : am_X} (R : am_R) (I : am_I) (a0 : Nat) (a1 : Nat) (a2 : Nat) (x3 : Int32) (h2 : am_G Z a0 = some (.inl 1)) (h3 : am_G Z a1 = some (.inl 0)) (h4 : am_G Z a2 = some (.inr (1, 31))) : ∀ (n : Nat) (v5 : Int32) (J6 : am_L), am_V Z X kX1_fillCounts (fun r : Int32 × am_L => (some (.int r.1), R, I, r.2)) 8 [(0, .ref (am_B Z + a0)), (1, .ref (am_B Z + a1)), (2, .ref (am_B Z + a2)), (3, .int x3), (4, .int v5)] [] R I J6 (lX1_fillCounts_8 R I a0 a1 a2 x3 n v5 J6) := by
  intro n
  induction n with
  | zero => intro _ _; exact am_none
  | succ n ih => exact fun v5 J6 => vX1_fillCounts_8 R I a0 a1 a2 x3 h2 h3 h4 (lX1_fillCounts_8 R I a0 a1 a2 x3 n) ih v5 J6
set_option maxRecDepth 100000 in
set_option maxHeartbeats 4000000 in
theorem tX1_fillCounts {Z : am_Z} (R : am_R) (I : am_I) (L : am_L) (a0 : Nat) (a1 : Nat) (a2 : Nat) (x3 : Int32) (h_a0 : am_G Z a0 = some (.inl 1)) (h_a1 : am_G Z a1 = some (.inl 0)) (h_a2 : am_G Z a2 = some (.inr (1, 31))) : am_M Z yX1_fillCounts kX1_fillCounts [.ref (am_B Z + a0), .ref (am_B Z + a1), .ref (am_B Z + a2), .int x3] R I L (pX1_fillCounts R I L a0 a1 a2 x3) (fun r : Int32 × am_L => (some (.int r.1), R, I, r.2)) := by
  refine am_entry (ls := [(0, .ref (am_B Z + a0)), (1, .ref (am_B Z + a1)), (2, .ref (am_B Z + a2)), (3, .int x3)]) (by decide) hX1_fillCounts rfl (Nat.le_of_ble_eq_true rfl) rfl (fun X => ?_)
  unfold pX1_fillCounts
  refine am_aload_n dX1_fillCounts_0 rfl 0 rfl ?_
  refine am_aload_n dX1_fillCounts_1 rfl 1 rfl ?_
  refine am_callV [.ref (am_B Z + a1)] (tX1_startPaths R I L a0 a1 h_a0 h_a1) h_a0 clX1 gX1_fillCounts_X1_startPaths hX1_startPaths rfl ⟨Nat.le_of_ble_eq_true rfl, Nat.le_of_ble_eq_true rfl⟩ rfl rfl (Nat.le_of_ble_eq_true rfl) dX1_fillCounts_2 (fun r1 => ?_)
  show am_V Z X kX1_fillCounts (fun r : Int32 × am_L => (some (.int r.1), R, I, r.2)) 5 [(0, .ref (am_B Z + a0)), (1, .ref (am_B Z + a1)), (2, .ref (am_B Z + a2)), (3, .int x3)] [] R I r1 _
  refine am_iconst (v := 0) dX1_fillCounts_5 (by decide) ?_
  refine am_istore (ls' := [(4, .int (0 : Int32)), (0, .ref (am_B Z + a0)), (1, .ref (am_B Z + a1)), (2, .ref (am_B Z + a2)), (3, .int x3)]) dX1_fillCounts_6 (Nat.le_of_ble_eq_true rfl) rfl ?_
  refine am_sub (ls' := [(0, .ref (am_B Z + a0)), (1, .ref (am_B Z + a1)), (2, .ref (am_B Z + a2)), (3, .int x3), (4, .int (0 : Int32))]) [1, 2, 3, 4, 0] rfl ?_
  exact uX1_fillCounts_8 R I a0 a1 a2 x3 h_a0 h_a1 h_a2 am_fu (0 : Int32) r1
abbrev kX6_reachedOnce : am_K := (cX6_reachedOnce, 4, RX6, wsX6_reachedOnce, some .int, { frames := 0, cells := 0, slots := 0, locals := 0 })
theorem hX6_reachedOnce : am_cl yX6_reachedOnce kX6_reachedOnce 2 := ⟨⟨_, rfl⟩, rfl, rfl, by decide +kernel, by decide +kernel, by decide +kernel⟩
theorem iX6_reachedOnce_6 : ∀ w ∈ u_ws RX6 TX6 2, w ∈ wsX6_reachedOnce := by decide +kernel
theorem fX6_reachedOnce_9 : Cond.fieldLink RX6 9 "AmbiguityAnalyzer$Steps" "once" "[I" ∈ wsX6_reachedOnce := by decide +kernel
set_option maxRecDepth 100000 in
set_option maxHeartbeats 4000000 in
theorem tX6_reachedOnce {Z : am_Z} (R : am_R) (I : am_I) (L : am_L) (a0 : Nat) (x1 : Int32) (x2 : Int32) (h_a0 : am_G Z a0 = some (.inl 6)) : am_M Z yX6_reachedOnce kX6_reachedOnce [.ref (am_B Z + a0), .int x1, .int x2] R I L (pX6_reachedOnce R I a0 x1 x2) (fun r : Int32 => (some (.int r), R, I, L)) := by
  refine am_entry (ls := [(0, .ref (am_B Z + a0)), (1, .int x1), (2, .int x2)]) (by decide) hX6_reachedOnce rfl (Nat.le_of_ble_eq_true rfl) rfl (fun X => ?_)
  unfold pX6_reachedOnce
  refine am_iload_n dX6_reachedOnce_0 rfl 1 rfl ?_
  refine am_letJ (fun k2 ek2 => ?_)
  have hk2 : ∀ v1 : Int32, am_V Z X kX6_reachedOnce (fun r : Int32 => (some (.int r), R, I, L)) 24 [(0, .ref (am_B Z + a0)), (1, .int x1), (2, .int x2)] [.int v1] R I L (k2 v1) := by
    subst ek2
    intro v1
    show am_V Z X kX6_reachedOnce (fun r : Int32 => (some (.int r), R, I, L)) 24 [(0, .ref (am_B Z + a0)), (1, .int x1), (2, .int x2)] [.int v1] R I L _
    refine am_istore_n (ls' := [(3, .int v1), (0, .ref (am_B Z + a0)), (1, .int x1), (2, .int x2)]) dX6_reachedOnce_24 rfl (Nat.le_of_ble_eq_true rfl) rfl ?_
    refine am_iload_n dX6_reachedOnce_25 rfl 0 rfl ?_
    refine am_if_eq (tgt := 43) dX6_reachedOnce_26 rfl (fun e3 => ?_) (fun e3 => ?_)
    · refine am_iconst (v := 0) dX6_reachedOnce_43 (by decide) ?_
      exact am_iret dX6_reachedOnce_44 rfl rfl
    · refine am_aload_n dX6_reachedOnce_29 rfl 1 rfl ?_
      refine am_getR 6 0 clX6 (Nat.le_of_ble_eq_true rfl) h_a0 iX6_reachedOnce_6 fX6_reachedOnce_9 rfl rfl dX6_reachedOnce_30 (fun h4 => ?_)
      refine am_iload_n dX6_reachedOnce_33 rfl 3 rfl ?_
      refine am_bipush (v := 64) dX6_reachedOnce_34 (by decide) ?_
      refine am_imul dX6_reachedOnce_36 ?_
      refine am_iload_n dX6_reachedOnce_37 rfl 2 rfl ?_
      refine am_iadd dX6_reachedOnce_38 ?_
      refine am_iald h4 dX6_reachedOnce_39 ?_
      refine am_goto (tgt := 44) dX6_reachedOnce_40 rfl ?_
      exact am_iret dX6_reachedOnce_44 rfl rfl
  refine am_if_ltL (tgt := 23) dX6_reachedOnce_1 rfl (fun e5 => ?_) (fun e5 => ?_)
  · refine am_iconst (v := 0) dX6_reachedOnce_23 (by decide) ?_
    exact hk2 _
  · refine am_iload_n dX6_reachedOnce_4 rfl 1 rfl ?_
    refine am_bipush (v := 64) dX6_reachedOnce_5 (by decide) ?_
    refine am_icmp_geL (tgt := 23) dX6_reachedOnce_7 rfl (fun e6 => ?_) (fun e6 => ?_)
    · refine am_iconst (v := 0) dX6_reachedOnce_23 (by decide) ?_
      exact hk2 _
    · refine am_iload_n dX6_reachedOnce_10 rfl 2 rfl ?_
      refine am_if_ltL (tgt := 23) dX6_reachedOnce_11 rfl (fun e7 => ?_) (fun e7 => ?_)
      · refine am_iconst (v := 0) dX6_reachedOnce_23 (by decide) ?_
        exact hk2 _
      · refine am_iload_n dX6_reachedOnce_14 rfl 2 rfl ?_
        refine am_iconst (v := 3) dX6_reachedOnce_15 (by decide) ?_
        refine am_icmp_geL (tgt := 23) dX6_reachedOnce_16 rfl (fun e8 => ?_) (fun e8 => ?_)
        · refine am_iconst (v := 0) dX6_reachedOnce_23 (by decide) ?_
          exact hk2 _
        · refine am_iconst (v := 1) dX6_reachedOnce_19 (by decide) ?_
          refine am_goto (tgt := 24) dX6_reachedOnce_20 rfl ?_
          exact hk2 _
abbrev kX1_extendWords : am_K := (cX1_extendWords, 5, RX1, wsX1_extendWords, none, { frames := 1, cells := 0, slots := 0, locals := 23 })
theorem hX1_extendWords : am_cl yX1_extendWords kX1_extendWords 1 := ⟨⟨_, rfl⟩, rfl, rfl, by decide +kernel, by decide +kernel, by decide +kernel⟩
theorem iX1_extendWords_1 : ∀ w ∈ u_ws RX1 TX1 4, w ∈ wsX1_extendWords := by decide +kernel
theorem fX1_extendWords_21 : Cond.fieldLink RX1 21 "AmbiguityAnalyzer$Counter" "nextWords" "[J" ∈ wsX1_extendWords := by decide +kernel
theorem fX1_extendWords_18 : Cond.fieldLink RX1 18 "AmbiguityAnalyzer$Counter" "words" "[J" ∈ wsX1_extendWords := by decide +kernel
set_option maxRecDepth 100000 in
set_option maxHeartbeats 4000000 in
theorem vX1_extendWords_104 {Z : am_Z} {X : am_X} (R : am_R) (I : am_I) (a0 : Nat) (h5 : am_G Z a0 = some (.inl 1)) (ih8 : Int32 → am_L → Option (am_L)) (hih8 : ∀ (v6 : Int32) (J7 : am_L), am_V Z X kX1_extendWords (fun r : am_L => (none, R, I, r)) 104 [(0, .ref (am_B Z + a0)), (2, .int v6)] [] R I J7 (ih8 v6 J7)) (v6 : Int32) (J7 : am_L) : am_V Z X kX1_extendWords (fun r : am_L => (none, R, I, r)) 104 [(0, .ref (am_B Z + a0)), (2, .int v6)] [] R I J7 (sX1_extendWords_104 R I a0 ih8 v6 J7) := by
  unfold sX1_extendWords_104
  refine am_iload_n dX1_extendWords_104 rfl 1 rfl ?_
  refine am_bipush (v := 64) dX1_extendWords_105 (by decide) ?_
  refine am_icmp_ge (tgt := 128) dX1_extendWords_107 rfl (fun e9 => ?_) (fun e9 => ?_)
  · exact am_vret dX1_extendWords_128 rfl rfl
  · refine am_aload_n dX1_extendWords_110 rfl 0 rfl ?_
    refine am_getR 1 2 clX1 (Nat.le_of_ble_eq_true rfl) h5 iX1_extendWords_1 fX1_extendWords_18 rfl rfl dX1_extendWords_111 (fun h10 => ?_)
    refine am_iload_n dX1_extendWords_114 rfl 1 rfl ?_
    refine am_aload_n dX1_extendWords_115 rfl 0 rfl ?_
    refine am_getR 1 3 clX1 (Nat.le_of_ble_eq_true rfl) h5 iX1_extendWords_1 fX1_extendWords_21 rfl rfl dX1_extendWords_116 (fun h11 => ?_)
    refine am_iload_n dX1_extendWords_119 rfl 1 rfl ?_
    refine am_lald h11 dX1_extendWords_120 ?_
    refine am_last h10 dX1_extendWords_121 ?_
    refine am_letL (fun J12 => ?_)
    refine am_iinc (j := 1) (ls' := [(2, .int (v6 + (1 : Int32))), (0, .ref (am_B Z + a0))]) dX1_extendWords_122 rfl rfl (Nat.le_of_ble_eq_true rfl) rfl ?_
    refine am_goto (tgt := 104) dX1_extendWords_125 rfl ?_
    refine am_sub (ls' := [(0, .ref (am_B Z + a0)), (2, .int (v6 + (1 : Int32)))]) [1, 0] rfl ?_
    exact hih8 (v6 + (1 : Int32)) J12
theorem uX1_extendWords_104 {Z : am_Z} {X : am_X} (R : am_R) (I : am_I) (a0 : Nat) (h5 : am_G Z a0 = some (.inl 1)) : ∀ (n : Nat) (v6 : Int32) (J7 : am_L), am_V Z X kX1_extendWords (fun r : am_L => (none, R, I, r)) 104 [(0, .ref (am_B Z + a0)), (2, .int v6)] [] R I J7 (lX1_extendWords_104 R I a0 n v6 J7) := by
  intro n
  induction n with
  | zero => intro _ _; exact am_none
  | succ n ih => exact fun v6 J7 => vX1_extendWords_104 R I a0 h5 (lX1_extendWords_104 R I a0 n) ih v6 J7
set_option maxRecDepth 100000 in
set_option maxHeartbeats 4000000 in
theorem vX1_extendWords_31 {Z : am_Z} {X : am_X} (R : am_R) (I : am_I) (a0 : Nat) (a1 : Nat) (v15 : Int32) (h21 : am_G Z a0 = some (.inl 1)) (h22 : am_G Z a1 = some (.inl 6)) (j19 : am_L → Option (am_L)) (hj19 : ∀ (J20 : am_L), am_V Z X kX1_extendWords (fun r : am_L => (none, R, I, r)) 96 [(0, .ref (am_B Z + a0)), (1, .ref (am_B Z + a1)), (2, .int v15)] [] R I J20 (j19 J20)) (ih25 : Int32 → am_L → Option (am_L)) (hih25 : ∀ (v23 : Int32) (J24 : am_L), am_V Z X kX1_extendWords (fun r : am_L => (none, R, I, r)) 31 [(0, .ref (am_B Z + a0)), (1, .ref (am_B Z + a1)), (2, .int v15), (3, .int v23)] [] R I J24 (ih25 v23 J24)) (v23 : Int32) (J24 : am_L) : am_V Z X kX1_extendWords (fun r : am_L => (none, R, I, r)) 31 [(0, .ref (am_B Z + a0)), (1, .ref (am_B Z + a1)), (2, .int v15), (3, .int v23)] [] R I J24 (sX1_extendWords_31 R I a0 a1 v15 j19 ih25 v23 J24) := by
  unfold sX1_extendWords_31
  refine am_aload_n dX1_extendWords_31 rfl 0 rfl ?_
  refine am_getR 1 2 clX1 (Nat.le_of_ble_eq_true rfl) h21 iX1_extendWords_1 fX1_extendWords_18 rfl rfl dX1_extendWords_32 (fun h26 => ?_)
  refine am_iload_n dX1_extendWords_35 rfl 2 rfl ?_
  refine am_lald h26 dX1_extendWords_36 ?_
  refine am_lconst (v := 0) dX1_extendWords_37 (by decide) ?_
  refine am_lcmp dX1_extendWords_38 ?_
  refine am_if_eq (tgt := 96) dX1_extendWords_39 rfl (fun e27 => ?_) (fun e27 => ?_)
  · refine am_sub (ls' := [(0, .ref (am_B Z + a0)), (1, .ref (am_B Z + a1)), (2, .int v15)]) [0, 1, 2] rfl ?_
    exact hj19 J24
  · refine am_iload_n dX1_extendWords_42 rfl 3 rfl ?_
    refine am_iconst (v := 3) dX1_extendWords_43 (by decide) ?_
    refine am_icmp_ge (tgt := 96) dX1_extendWords_44 rfl (fun e28 => ?_) (fun e28 => ?_)
    · refine am_sub (ls' := [(0, .ref (am_B Z + a0)), (1, .ref (am_B Z + a1)), (2, .int v15)]) [0, 1, 2] rfl ?_
      exact hj19 J24
    · refine am_aload_n dX1_extendWords_47 rfl 1 rfl ?_
      refine am_iload_n dX1_extendWords_48 rfl 2 rfl ?_
      refine am_iload_n dX1_extendWords_49 rfl 3 rfl ?_
      refine am_callV [.int v15, .int v23] (tX6_reachedOnce R I J24 a1 v15 v23 h22) h22 clX6 gX1_extendWords_X6_reachedOnce hX6_reachedOnce rfl ⟨Nat.le_of_ble_eq_true rfl, Nat.le_of_ble_eq_true rfl⟩ rfl rfl (Nat.le_of_ble_eq_true rfl) dX1_extendWords_50 (fun r29 => ?_)
      show am_V Z X kX1_extendWords (fun r : am_L => (none, R, I, r)) 53 [(0, .ref (am_B Z + a0)), (1, .ref (am_B Z + a1)), (2, .int v15), (3, .int v23)] [.int r29] R I J24 _
      refine am_istore (ls' := [(4, .int r29), (0, .ref (am_B Z + a0)), (1, .ref (am_B Z + a1)), (2, .int v15), (3, .int v23)]) dX1_extendWords_53 (Nat.le_of_ble_eq_true rfl) rfl ?_
      refine am_iload dX1_extendWords_55 0 rfl ?_
      refine am_jnV (fun j30 ej30 => ?_)
      have hj30 : ∀ (J31 : am_L), am_V Z X kX1_extendWords (fun r : am_L => (none, R, I, r)) 90 [(0, .ref (am_B Z + a0)), (1, .ref (am_B Z + a1)), (2, .int v15), (3, .int v23)] [] R I J31 (j30 J31) := by
        subst ej30
        intro J31
        show am_V Z X kX1_extendWords (fun r : am_L => (none, R, I, r)) 90 [(0, .ref (am_B Z + a0)), (1, .ref (am_B Z + a1)), (2, .int v15), (3, .int v23)] [] R I J31 _
        refine am_iinc (j := 3) (ls' := [(3, .int (v23 + (1 : Int32))), (0, .ref (am_B Z + a0)), (1, .ref (am_B Z + a1)), (2, .int v15)]) dX1_extendWords_90 rfl rfl (Nat.le_of_ble_eq_true rfl) rfl ?_
        refine am_goto (tgt := 31) dX1_extendWords_93 rfl ?_
        refine am_sub (ls' := [(0, .ref (am_B Z + a0)), (1, .ref (am_B Z + a1)), (2, .int v15), (3, .int (v23 + (1 : Int32)))]) [1, 2, 3, 0] rfl ?_
        exact hih25 (v23 + (1 : Int32)) J31
      refine am_if_lt (tgt := 90) dX1_extendWords_57 rfl (fun e32 => ?_) (fun e32 => ?_)
      · refine am_sub (ls' := [(0, .ref (am_B Z + a0)), (1, .ref (am_B Z + a1)), (2, .int v15), (3, .int v23)]) [1, 2, 3, 4] rfl ?_
        exact hj30 J24
      · refine am_iload dX1_extendWords_60 0 rfl ?_
        refine am_bipush (v := 64) dX1_extendWords_62 (by decide) ?_
        refine am_icmp_ge (tgt := 90) dX1_extendWords_64 rfl (fun e33 => ?_) (fun e33 => ?_)
        · refine am_sub (ls' := [(0, .ref (am_B Z + a0)), (1, .ref (am_B Z + a1)), (2, .int v15), (3, .int v23)]) [1, 2, 3, 4] rfl ?_
          exact hj30 J24
        · refine am_aload_n dX1_extendWords_67 rfl 1 rfl ?_
          refine am_getR 1 3 clX1 (Nat.le_of_ble_eq_true rfl) h21 iX1_extendWords_1 fX1_extendWords_21 rfl rfl dX1_extendWords_68 (fun h34 => ?_)
          refine am_iload dX1_extendWords_71 0 rfl ?_
          refine am_aload_n dX1_extendWords_73 rfl 1 rfl ?_
          refine am_getR 1 3 clX1 (Nat.le_of_ble_eq_true rfl) h21 iX1_extendWords_1 fX1_extendWords_21 rfl rfl dX1_extendWords_74 (fun h35 => ?_)
          refine am_iload dX1_extendWords_77 0 rfl ?_
          refine am_lald h35 dX1_extendWords_79 ?_
          refine am_aload_n dX1_extendWords_80 rfl 1 rfl ?_
          refine am_getR 1 2 clX1 (Nat.le_of_ble_eq_true rfl) h21 iX1_extendWords_1 fX1_extendWords_18 rfl rfl dX1_extendWords_81 (fun h36 => ?_)
          refine am_iload_n dX1_extendWords_84 rfl 3 rfl ?_
          refine am_lald h36 dX1_extendWords_85 ?_
          refine am_callS [.long (J24 (R a0 3) (Int32.toNatClampNeg r29)), .long (J24 (R a0 2) (Int32.toNatClampNeg v15))] (tX1_sum R I J24 (J24 (R a0 3) (Int32.toNatClampNeg r29)) (J24 (R a0 2) (Int32.toNatClampNeg v15))) gX1_extendWords_X1_sum hX1_sum ⟨Nat.le_of_ble_eq_true rfl, Nat.le_of_ble_eq_true rfl⟩ rfl rfl (Nat.le_of_ble_eq_true rfl) dX1_extendWords_86 (fun r37 => ?_)
          show am_V Z X kX1_extendWords (fun r : am_L => (none, R, I, r)) 89 [(4, .int r29), (0, .ref (am_B Z + a0)), (1, .ref (am_B Z + a1)), (2, .int v15), (3, .int v23)] [.long r37, .int r29, .ref (am_B Z + (R a0 3))] R I J24 _
          refine am_last h34 dX1_extendWords_89 ?_
          refine am_letL (fun J38 => ?_)
          refine am_sub (ls' := [(0, .ref (am_B Z + a0)), (1, .ref (am_B Z + a1)), (2, .int v15), (3, .int v23)]) [1, 2, 3, 4] rfl ?_
          exact hj30 J38
theorem uX1_extendWords_31 {Z : am_Z} {X : am_X} (R : am_R) (I : am_I) (a0 : Nat) (a1 : Nat) (v15 : Int32) (h21 : am_G Z a0 = some (.inl 1)) (h22 : am_G Z a1 = some (.inl 6)) (j19 : am_L → Option (am_L)) (hj19 : ∀ (J20 : am_L), am_V Z X kX1_extendWords (fun r : am_L => (none, R, I, r)) 96 [(0, .ref (am_B Z + a0)), (1, .ref (am_B Z + a1)), (2, .int v15)] [] R I J20 (j19 J20)) : ∀ (n : Nat) (v23 : Int32) (J24 : am_L), am_V Z X kX1_extendWords (fun r : am_L => (none, R, I, r)) 31 [(0, .ref (am_B Z + a0)), (1, .ref (am_B Z + a1)), (2, .int v15), (3, .int v23)] [] R I J24 (lX1_extendWords_31 R I a0 a1 v15 j19 n v23 J24) := by
  intro n
  induction n with
  | zero => intro _ _; exact am_none
  | succ n ih => exact fun v23 J24 => vX1_extendWords_31 R I a0 a1 v15 h21 h22 j19 hj19 (lX1_extendWords_31 R I a0 a1 v15 j19 n) ih v23 J24
set_option maxRecDepth 100000 in
set_option maxHeartbeats 4000000 in
theorem vX1_extendWords_23 {Z : am_Z} {X : am_X} (R : am_R) (I : am_I) (a0 : Nat) (a1 : Nat) (h13 : am_G Z a0 = some (.inl 1)) (h14 : am_G Z a1 = some (.inl 6)) (j3 : am_L → Option (am_L)) (hj3 : ∀ (J4 : am_L), am_V Z X kX1_extendWords (fun r : am_L => (none, R, I, r)) 102 [(0, .ref (am_B Z + a0))] [] R I J4 (j3 J4)) (ih17 : Int32 → am_L → Option (am_L)) (hih17 : ∀ (v15 : Int32) (J16 : am_L), am_V Z X kX1_extendWords (fun r : am_L => (none, R, I, r)) 23 [(0, .ref (am_B Z + a0)), (1, .ref (am_B Z + a1)), (2, .int v15)] [] R I J16 (ih17 v15 J16)) (v15 : Int32) (J16 : am_L) : am_V Z X kX1_extendWords (fun r : am_L => (none, R, I, r)) 23 [(0, .ref (am_B Z + a0)), (1, .ref (am_B Z + a1)), (2, .int v15)] [] R I J16 (sX1_extendWords_23 R I a0 a1 j3 ih17 v15 J16) := by
  unfold sX1_extendWords_23
  refine am_iload_n dX1_extendWords_23 rfl 2 rfl ?_
  refine am_bipush (v := 64) dX1_extendWords_24 (by decide) ?_
  refine am_icmp_ge (tgt := 102) dX1_extendWords_26 rfl (fun e18 => ?_) (fun e18 => ?_)
  · refine am_sub (ls' := [(0, .ref (am_B Z + a0))]) [0] rfl ?_
    exact hj3 J16
  · refine am_iconst (v := 0) dX1_extendWords_29 (by decide) ?_
    refine am_istore_n (ls' := [(3, .int (0 : Int32)), (0, .ref (am_B Z + a0)), (1, .ref (am_B Z + a1)), (2, .int v15)]) dX1_extendWords_30 rfl (Nat.le_of_ble_eq_true rfl) rfl ?_
    refine am_jnV (fun j19 ej19 => ?_)
    have hj19 : ∀ (J20 : am_L), am_V Z X kX1_extendWords (fun r : am_L => (none, R, I, r)) 96 [(0, .ref (am_B Z + a0)), (1, .ref (am_B Z + a1)), (2, .int v15)] [] R I J20 (j19 J20) := by
      subst ej19
      intro J20
      show am_V Z X kX1_extendWords (fun r : am_L => (none, R, I, r)) 96 [(0, .ref (am_B Z + a0)), (1, .ref (am_B Z + a1)), (2, .int v15)] [] R I J20 _
      refine am_iinc (j := 2) (ls' := [(2, .int (v15 + (1 : Int32))), (0, .ref (am_B Z + a0)), (1, .ref (am_B Z + a1))]) dX1_extendWords_96 rfl rfl (Nat.le_of_ble_eq_true rfl) rfl ?_
      refine am_goto (tgt := 23) dX1_extendWords_99 rfl ?_
      refine am_sub (ls' := [(0, .ref (am_B Z + a0)), (1, .ref (am_B Z + a1)), (2, .int (v15 + (1 : Int32)))]) [1, 2, 0] rfl ?_
      exact hih17 (v15 + (1 : Int32)) J20
    refine am_sub (ls' := [(0, .ref (am_B Z + a0)), (1, .ref (am_B Z + a1)), (2, .int v15), (3, .int (0 : Int32))]) [1, 2, 3, 0] rfl ?_
    exact uX1_extendWords_31 R I a0 a1 v15 h13 h14 j19 hj19 am_fu (0 : Int32) J16
theorem uX1_extendWords_23 {Z : am_Z} {X : am_X} (R : am_R) (I : am_I) (a0 : Nat) (a1 : Nat) (h13 : am_G Z a0 = some (.inl 1)) (h14 : am_G Z a1 = some (.inl 6)) (j3 : am_L → Option (am_L)) (hj3 : ∀ (J4 : am_L), am_V Z X kX1_extendWords (fun r : am_L => (none, R, I, r)) 102 [(0, .ref (am_B Z + a0))] [] R I J4 (j3 J4)) : ∀ (n : Nat) (v15 : Int32) (J16 : am_L), am_V Z X kX1_extendWords (fun r : am_L => (none, R, I, r)) 23 [(0, .ref (am_B Z + a0)), (1, .ref (am_B Z + a1)), (2, .int v15)] [] R I J16 (lX1_extendWords_23 R I a0 a1 j3 n v15 J16) := by
  intro n
  induction n with
  | zero => intro _ _; exact am_none
  | succ n ih => exact fun v15 J16 => vX1_extendWords_23 R I a0 a1 h13 h14 j3 hj3 (lX1_extendWords_23 R I a0 a1 j3 n) ih v15 J16
set_option maxRecDepth 100000 in
set_option maxHeartbeats 4000000 in
theorem vX1_extendWords_2 {Z : am_Z} {X : am_X} (R : am_R) (I : am_I) (a0 : Nat) (a1 : Nat) (h39 : am_G Z a0 = some (.inl 1)) (h40 : am_G Z a1 = some (.inl 6)) (j1 : am_L → Option (am_L)) (hj1 : ∀ (J2 : am_L), am_V Z X kX1_extendWords (fun r : am_L => (none, R, I, r)) 21 [(0, .ref (am_B Z + a0)), (1, .ref (am_B Z + a1))] [] R I J2 (j1 J2)) (ih43 : Int32 → am_L → Option (am_L)) (hih43 : ∀ (v41 : Int32) (J42 : am_L), am_V Z X kX1_extendWords (fun r : am_L => (none, R, I, r)) 2 [(0, .ref (am_B Z + a0)), (1, .ref (am_B Z + a1)), (2, .int v41)] [] R I J42 (ih43 v41 J42)) (v41 : Int32) (J42 : am_L) : am_V Z X kX1_extendWords (fun r : am_L => (none, R, I, r)) 2 [(0, .ref (am_B Z + a0)), (1, .ref (am_B Z + a1)), (2, .int v41)] [] R I J42 (sX1_extendWords_2 R I a0 a1 j1 ih43 v41 J42) := by
  unfold sX1_extendWords_2
  refine am_iload_n dX1_extendWords_2 rfl 2 rfl ?_
  refine am_bipush (v := 64) dX1_extendWords_3 (by decide) ?_
  refine am_icmp_ge (tgt := 21) dX1_extendWords_5 rfl (fun e44 => ?_) (fun e44 => ?_)
  · refine am_sub (ls' := [(0, .ref (am_B Z + a0)), (1, .ref (am_B Z + a1))]) [0, 1] rfl ?_
    exact hj1 J42
  · refine am_aload_n dX1_extendWords_8 rfl 0 rfl ?_
    refine am_getR 1 3 clX1 (Nat.le_of_ble_eq_true rfl) h39 iX1_extendWords_1 fX1_extendWords_21 rfl rfl dX1_extendWords_9 (fun h45 => ?_)
    refine am_iload_n dX1_extendWords_12 rfl 2 rfl ?_
    refine am_lconst (v := 0) dX1_extendWords_13 (by decide) ?_
    refine am_last h45 dX1_extendWords_14 ?_
    refine am_letL (fun J46 => ?_)
    refine am_iinc (j := 2) (ls' := [(2, .int (v41 + (1 : Int32))), (0, .ref (am_B Z + a0)), (1, .ref (am_B Z + a1))]) dX1_extendWords_15 rfl rfl (Nat.le_of_ble_eq_true rfl) rfl ?_
    refine am_goto (tgt := 2) dX1_extendWords_18 rfl ?_
    refine am_sub (ls' := [(0, .ref (am_B Z + a0)), (1, .ref (am_B Z + a1)), (2, .int (v41 + (1 : Int32)))]) [1, 2, 0] rfl ?_
    exact hih43 (v41 + (1 : Int32)) J46
theorem uX1_extendWords_2 {Z : am_Z} {X : am_X} (R : am_R) (I : am_I) (a0 : Nat) (a1 : Nat) (h39 : am_G Z a0 = some (.inl 1)) (h40 : am_G Z a1 = some (.inl 6)) (j1 : am_L → Option (am_L)) (hj1 : ∀ (J2 : am_L), am_V Z X kX1_extendWords (fun r : am_L => (none, R, I, r)) 21 [(0, .ref (am_B Z + a0)), (1, .ref (am_B Z + a1))] [] R I J2 (j1 J2)) : ∀ (n : Nat) (v41 : Int32) (J42 : am_L), am_V Z X kX1_extendWords (fun r : am_L => (none, R, I, r)) 2 [(0, .ref (am_B Z + a0)), (1, .ref (am_B Z + a1)), (2, .int v41)] [] R I J42 (lX1_extendWords_2 R I a0 a1 j1 n v41 J42) := by
  intro n
  induction n with
  | zero => intro _ _; exact am_none
  | succ n ih => exact fun v41 J42 => vX1_extendWords_2 R I a0 a1 h39 h40 j1 hj1 (lX1_extendWords_2 R I a0 a1 j1 n) ih v41 J42
set_option maxRecDepth 100000 in
set_option maxHeartbeats 4000000 in
theorem tX1_extendWords {Z : am_Z} (R : am_R) (I : am_I) (L : am_L) (a0 : Nat) (a1 : Nat) (h_a0 : am_G Z a0 = some (.inl 1)) (h_a1 : am_G Z a1 = some (.inl 6)) : am_M Z yX1_extendWords kX1_extendWords [.ref (am_B Z + a0), .ref (am_B Z + a1)] R I L (pX1_extendWords R I L a0 a1) (fun r : am_L => (none, R, I, r)) := by
  refine am_entry (ls := [(0, .ref (am_B Z + a0)), (1, .ref (am_B Z + a1))]) (by decide) hX1_extendWords rfl (Nat.le_of_ble_eq_true rfl) rfl (fun X => ?_)
  unfold pX1_extendWords
  refine am_iconst (v := 0) dX1_extendWords_0 (by decide) ?_
  refine am_istore_n (ls' := [(2, .int (0 : Int32)), (0, .ref (am_B Z + a0)), (1, .ref (am_B Z + a1))]) dX1_extendWords_1 rfl (Nat.le_of_ble_eq_true rfl) rfl ?_
  refine am_jnV (fun j1 ej1 => ?_)
  have hj1 : ∀ (J2 : am_L), am_V Z X kX1_extendWords (fun r : am_L => (none, R, I, r)) 21 [(0, .ref (am_B Z + a0)), (1, .ref (am_B Z + a1))] [] R I J2 (j1 J2) := by
    subst ej1
    intro J2
    show am_V Z X kX1_extendWords (fun r : am_L => (none, R, I, r)) 21 [(0, .ref (am_B Z + a0)), (1, .ref (am_B Z + a1))] [] R I J2 _
    refine am_iconst (v := 1) dX1_extendWords_21 (by decide) ?_
    refine am_istore_n (ls' := [(2, .int (1 : Int32)), (0, .ref (am_B Z + a0)), (1, .ref (am_B Z + a1))]) dX1_extendWords_22 rfl (Nat.le_of_ble_eq_true rfl) rfl ?_
    refine am_jnV (fun j3 ej3 => ?_)
    have hj3 : ∀ (J4 : am_L), am_V Z X kX1_extendWords (fun r : am_L => (none, R, I, r)) 102 [(0, .ref (am_B Z + a0))] [] R I J4 (j3 J4) := by
      subst ej3
      intro J4
      show am_V Z X kX1_extendWords (fun r : am_L => (none, R, I, r)) 102 [(0, .ref (am_B Z + a0))] [] R I J4 _
      refine am_iconst (v := 0) dX1_extendWords_102 (by decide) ?_
      refine am_istore_n (ls' := [(2, .int (0 : Int32)), (0, .ref (am_B Z + a0))]) dX1_extendWords_103 rfl (Nat.le_of_ble_eq_true rfl) rfl ?_
      refine am_sub (ls' := [(0, .ref (am_B Z + a0)), (2, .int (0 : Int32))]) [1, 0] rfl ?_
      exact uX1_extendWords_104 R I a0 h_a0 am_fu (0 : Int32) J4
    refine am_sub (ls' := [(0, .ref (am_B Z + a0)), (1, .ref (am_B Z + a1)), (2, .int (1 : Int32))]) [1, 2, 0] rfl ?_
    exact uX1_extendWords_23 R I a0 a1 h_a0 h_a1 j3 hj3 am_fu (1 : Int32) J2
  refine am_sub (ls' := [(0, .ref (am_B Z + a0)), (1, .ref (am_B Z + a1)), (2, .int (0 : Int32))]) [1, 2, 0] rfl ?_
  exact uX1_extendWords_2 R I a0 a1 h_a0 h_a1 j1 hj1 am_fu (0 : Int32) L
