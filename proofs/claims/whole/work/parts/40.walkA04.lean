abbrev kX4_sumOver : am_K := (cX4_sumOver, 6, RX4, wsX4_sumOver, some .long, { frames := 1, cells := 0, slots := 0, locals := 23 })
theorem hX4_sumOver : am_cl yX4_sumOver kX4_sumOver 2 := ⟨⟨_, rfl⟩, rfl, rfl, by decide +kernel, by decide +kernel, by decide +kernel⟩
set_option maxRecDepth 100000 in
set_option maxHeartbeats 4000000 in
theorem vX4_sumOver_5 {Z : am_Z} {X : am_X} (R : am_R) (I : am_I) (L : am_L) (a0 : Nat) (x1 : Int32) (x2 : Int32) (h1 : am_G Z a0 = some (.inl 4)) (ih4 : Int64 → Int32 → Option (Int64)) (hih4 : ∀ (v2 : Int64) (v3 : Int32), am_V Z X kX4_sumOver (fun r : Int64 => (some (.long r), R, I, L)) 5 [(0, .ref (am_B Z + a0)), (1, .int x1), (2, .int x2), (3, .long v2), (5, .int v3)] [] R I L (ih4 v2 v3)) (v2 : Int64) (v3 : Int32) : am_V Z X kX4_sumOver (fun r : Int64 => (some (.long r), R, I, L)) 5 [(0, .ref (am_B Z + a0)), (1, .int x1), (2, .int x2), (3, .long v2), (5, .int v3)] [] R I L (sX4_sumOver_5 R L a0 x1 x2 ih4 v2 v3) := by
  unfold sX4_sumOver_5
  refine am_iload dX4_sumOver_5 4 rfl ?_
  refine am_bipush (v := 6) dX4_sumOver_7 (by decide) ?_
  refine am_icmp_ge (tgt := 41) dX4_sumOver_9 rfl (fun e5 => ?_) (fun e5 => ?_)
  · refine am_lload_n dX4_sumOver_41 rfl 3 rfl ?_
    exact am_lret dX4_sumOver_42 rfl rfl
  · refine am_lload_n dX4_sumOver_12 rfl 3 rfl ?_
    refine am_iload_n dX4_sumOver_13 rfl 2 rfl ?_
    refine am_iload dX4_sumOver_14 4 rfl ?_
    refine am_callN (host := RX10) [.int x2, .int v3] (tX10_contains R I L x2 v3) gX4_sumOver_X10_contains_n38 (by decide +kernel) (by decide +kernel) (by decide +kernel) hX10_contains ⟨Nat.le_of_ble_eq_true rfl, Nat.le_of_ble_eq_true rfl⟩ rfl rfl (Nat.le_of_ble_eq_true rfl) dX4_sumOver_16 (fun r6 => ?_)
    show am_V Z X kX4_sumOver (fun r : Int64 => (some (.long r), R, I, L)) 19 [(0, .ref (am_B Z + a0)), (1, .int x1), (2, .int x2), (3, .long v2), (5, .int v3)] [.int r6, .long v2] R I L _
    refine am_jnV (fun j7 ej7 => ?_)
    have hj7 : ∀ (v8 : Int64), am_V Z X kX4_sumOver (fun r : Int64 => (some (.long r), R, I, L)) 33 [(0, .ref (am_B Z + a0)), (1, .int x1), (2, .int x2), (5, .int v3)] [.long v8, .long v2] R I L (j7 v8) := by
      subst ej7
      intro v8
      show am_V Z X kX4_sumOver (fun r : Int64 => (some (.long r), R, I, L)) 33 [(0, .ref (am_B Z + a0)), (1, .int x1), (2, .int x2), (5, .int v3)] [.long v8, .long v2] R I L _
      refine am_ladd dX4_sumOver_33 ?_
      refine am_letTl (fun v9 => ?_)
      refine am_lstore_n (ls' := [(3, .long v9), (0, .ref (am_B Z + a0)), (1, .int x1), (2, .int x2), (5, .int v3)]) dX4_sumOver_34 rfl (Nat.le_of_ble_eq_true rfl) rfl ?_
      refine am_iinc (j := 4) (ls' := [(5, .int (v3 + (1 : Int32))), (3, .long v9), (0, .ref (am_B Z + a0)), (1, .int x1), (2, .int x2)]) dX4_sumOver_35 rfl rfl (Nat.le_of_ble_eq_true rfl) rfl ?_
      refine am_goto (tgt := 5) dX4_sumOver_38 rfl ?_
      refine am_sub (ls' := [(0, .ref (am_B Z + a0)), (1, .int x1), (2, .int x2), (3, .long v9), (5, .int (v3 + (1 : Int32)))]) [2, 3, 4, 1, 0] rfl ?_
      exact hih4 v9 (v3 + (1 : Int32))
    refine am_if_eq (tgt := 32) dX4_sumOver_19 rfl (fun e10 => ?_) (fun e10 => ?_)
    · refine am_lconst (v := 0) dX4_sumOver_32 (by decide) ?_
      refine am_sub (ls' := [(0, .ref (am_B Z + a0)), (1, .int x1), (2, .int x2), (5, .int v3)]) [0, 1, 2, 4] rfl ?_
      exact hj7 (0 : Int64)
    · refine am_aload_n dX4_sumOver_22 rfl 0 rfl ?_
      refine am_iload_n dX4_sumOver_23 rfl 1 rfl ?_
      refine am_iload dX4_sumOver_24 4 rfl ?_
      refine am_callV [.int x1, .int v3] (tX4_cell R I L a0 x1 v3 h1) h1 clX4 gX4_sumOver_X4_cell hX4_cell rfl ⟨Nat.le_of_ble_eq_true rfl, Nat.le_of_ble_eq_true rfl⟩ rfl rfl (Nat.le_of_ble_eq_true rfl) dX4_sumOver_26 (fun r11 => ?_)
      show am_V Z X kX4_sumOver (fun r : Int64 => (some (.long r), R, I, L)) 29 [(0, .ref (am_B Z + a0)), (1, .int x1), (2, .int x2), (3, .long v2), (5, .int v3)] [.long r11, .long v2] R I L _
      refine am_goto (tgt := 33) dX4_sumOver_29 rfl ?_
      refine am_sub (ls' := [(0, .ref (am_B Z + a0)), (1, .int x1), (2, .int x2), (5, .int v3)]) [0, 1, 2, 4] rfl ?_
      exact hj7 r11
theorem uX4_sumOver_5 {Z : am_Z} {X : am_X} (R : am_R) (I : am_I) (L : am_L) (a0 : Nat) (x1 : Int32) (x2 : Int32) (h1 : am_G Z a0 = some (.inl 4)) : ∀ (n : Nat) (v2 : Int64) (v3 : Int32), am_V Z X kX4_sumOver (fun r : Int64 => (some (.long r), R, I, L)) 5 [(0, .ref (am_B Z + a0)), (1, .int x1), (2, .int x2), (3, .long v2), (5, .int v3)] [] R I L (lX4_sumOver_5 R L a0 x1 x2 n v2 v3) := by
  intro n
  induction n with
  | zero => intro _ _; exact am_none
  | succ n ih => exact fun v2 v3 => vX4_sumOver_5 R I L a0 x1 x2 h1 (lX4_sumOver_5 R L a0 x1 x2 n) ih v2 v3
set_option maxRecDepth 100000 in
set_option maxHeartbeats 4000000 in
theorem tX4_sumOver {Z : am_Z} (R : am_R) (I : am_I) (L : am_L) (a0 : Nat) (x1 : Int32) (x2 : Int32) (h_a0 : am_G Z a0 = some (.inl 4)) : am_M Z yX4_sumOver kX4_sumOver [.ref (am_B Z + a0), .int x1, .int x2] R I L (pX4_sumOver R L a0 x1 x2) (fun r : Int64 => (some (.long r), R, I, L)) := by
  refine am_entry (ls := [(0, .ref (am_B Z + a0)), (1, .int x1), (2, .int x2)]) (by decide) hX4_sumOver rfl (Nat.le_of_ble_eq_true rfl) rfl (fun X => ?_)
  unfold pX4_sumOver
  refine am_lconst (v := 0) dX4_sumOver_0 (by decide) ?_
  refine am_lstore_n (ls' := [(3, .long (0 : Int64)), (0, .ref (am_B Z + a0)), (1, .int x1), (2, .int x2)]) dX4_sumOver_1 rfl (Nat.le_of_ble_eq_true rfl) rfl ?_
  refine am_iconst (v := 0) dX4_sumOver_2 (by decide) ?_
  refine am_istore (ls' := [(5, .int (0 : Int32)), (3, .long (0 : Int64)), (0, .ref (am_B Z + a0)), (1, .int x1), (2, .int x2)]) dX4_sumOver_3 (Nat.le_of_ble_eq_true rfl) rfl ?_
  refine am_sub (ls' := [(0, .ref (am_B Z + a0)), (1, .int x1), (2, .int x2), (3, .long (0 : Int64)), (5, .int (0 : Int32))]) [2, 3, 4, 1, 0] rfl ?_
  exact uX4_sumOver_5 R I L a0 x1 x2 h_a0 am_fu (0 : Int64) (0 : Int32)
abbrev kX4_makeFresh : am_K := (cX4_makeFresh, 10, RX4, wsX4_makeFresh, none, { frames := 1, cells := 0, slots := 0, locals := 23 })
theorem hX4_makeFresh : am_cl yX4_makeFresh kX4_makeFresh 4 := ⟨⟨_, rfl⟩, rfl, rfl, by decide +kernel, by decide +kernel, by decide +kernel⟩
theorem iX4_makeFresh_4 : ∀ w ∈ u_ws RX4 TX4 5, w ∈ wsX4_makeFresh := by decide +kernel
theorem fX4_makeFresh_15 : Cond.fieldLink RX4 15 "AmbiguityAnalyzer$RowStore" "fresh" "[J" ∈ wsX4_makeFresh := by decide +kernel
set_option maxRecDepth 100000 in
set_option maxHeartbeats 4000000 in
theorem vX4_makeFresh_58 {Z : am_Z} {X : am_X} (R : am_R) (I : am_I) (a0 : Nat) (x1 : Int32) (a2 : Nat) (x3 : Int32) (x4 : Int32) (v5 : Int32) (v10 : Int32) (r11 : Int64) (h14 : am_G Z a0 = some (.inl 4)) (h15 : am_G Z a2 = some (.inl 0)) (j12 : am_L → Option (am_L)) (hj12 : ∀ (J13 : am_L), am_V Z X kX4_makeFresh (fun r : am_L => (none, R, I, r)) 104 [(0, .ref (am_B Z + a0)), (1, .int x1), (2, .ref (am_B Z + a2)), (3, .int x3), (4, .int x4), (5, .int v5)] [] R I J13 (j12 J13)) (ih18 : Int32 → am_L → Option (am_L)) (hih18 : ∀ (v16 : Int32) (J17 : am_L), am_V Z X kX4_makeFresh (fun r : am_L => (none, R, I, r)) 58 [(0, .ref (am_B Z + a0)), (1, .int x1), (2, .ref (am_B Z + a2)), (3, .int x3), (4, .int x4), (5, .int v5), (6, .int v10), (7, .long r11), (9, .int v16)] [] R I J17 (ih18 v16 J17)) (v16 : Int32) (J17 : am_L) : am_V Z X kX4_makeFresh (fun r : am_L => (none, R, I, r)) 58 [(0, .ref (am_B Z + a0)), (1, .int x1), (2, .ref (am_B Z + a2)), (3, .int x3), (4, .int x4), (5, .int v5), (6, .int v10), (7, .long r11), (9, .int v16)] [] R I J17 (sX4_makeFresh_58 R I a0 x1 a2 x3 x4 v5 v10 r11 j12 ih18 v16 J17) := by
  unfold sX4_makeFresh_58
  refine am_lload dX4_makeFresh_58 7 rfl ?_
  refine am_lconst (v := 0) dX4_makeFresh_60 (by decide) ?_
  refine am_lcmp dX4_makeFresh_61 ?_
  refine am_if_eq (tgt := 104) dX4_makeFresh_62 rfl (fun e19 => ?_) (fun e19 => ?_)
  · refine am_sub (ls' := [(0, .ref (am_B Z + a0)), (1, .int x1), (2, .ref (am_B Z + a2)), (3, .int x3), (4, .int x4), (5, .int v5)]) [0, 1, 2, 3, 4, 5] rfl ?_
    exact hj12 J17
  · refine am_iload dX4_makeFresh_65 8 rfl ?_
    refine am_bipush (v := 6) dX4_makeFresh_67 (by decide) ?_
    refine am_icmp_ge (tgt := 104) dX4_makeFresh_69 rfl (fun e20 => ?_) (fun e20 => ?_)
    · refine am_sub (ls' := [(0, .ref (am_B Z + a0)), (1, .int x1), (2, .ref (am_B Z + a2)), (3, .int x3), (4, .int x4), (5, .int v5)]) [0, 1, 2, 3, 4, 5] rfl ?_
      exact hj12 J17
    · refine am_aload_n dX4_makeFresh_72 rfl 0 rfl ?_
      refine am_getR 4 1 clX4 (Nat.le_of_ble_eq_true rfl) h14 iX4_makeFresh_4 fX4_makeFresh_15 rfl rfl dX4_makeFresh_73 (fun h21 => ?_)
      refine am_iload dX4_makeFresh_76 8 rfl ?_
      refine am_dup2 dX4_makeFresh_78 rfl rfl ?_
      refine am_lald h21 dX4_makeFresh_79 ?_
      refine am_iload dX4_makeFresh_80 6 rfl ?_
      refine am_iload dX4_makeFresh_82 8 rfl ?_
      refine am_callN (host := RX10) [.int v10, .int v16] (tX10_contains R I J17 v10 v16) gX4_makeFresh_X10_contains_n38 (by decide +kernel) (by decide +kernel) (by decide +kernel) hX10_contains ⟨Nat.le_of_ble_eq_true rfl, Nat.le_of_ble_eq_true rfl⟩ rfl rfl (Nat.le_of_ble_eq_true rfl) dX4_makeFresh_84 (fun r22 => ?_)
      show am_V Z X kX4_makeFresh (fun r : am_L => (none, R, I, r)) 87 [(0, .ref (am_B Z + a0)), (1, .int x1), (2, .ref (am_B Z + a2)), (3, .int x3), (4, .int x4), (5, .int v5), (6, .int v10), (7, .long r11), (9, .int v16)] [.int r22, .long (J17 (R a0 1) (Int32.toNatClampNeg v16)), .int v16, .ref (am_B Z + (R a0 1))] R I J17 _
      refine am_letJ (fun k24 ek24 => ?_)
      have hk24 : ∀ v23 : Int64, am_V Z X kX4_makeFresh (fun r : am_L => (none, R, I, r)) 96 [(0, .ref (am_B Z + a0)), (1, .int x1), (2, .ref (am_B Z + a2)), (3, .int x3), (4, .int x4), (5, .int v5), (6, .int v10), (7, .long r11), (9, .int v16)] [.long v23, .long (J17 (R a0 1) (Int32.toNatClampNeg v16)), .int v16, .ref (am_B Z + (R a0 1))] R I J17 (k24 v23) := by
        subst ek24
        intro v23
        show am_V Z X kX4_makeFresh (fun r : am_L => (none, R, I, r)) 96 [(0, .ref (am_B Z + a0)), (1, .int x1), (2, .ref (am_B Z + a2)), (3, .int x3), (4, .int x4), (5, .int v5), (6, .int v10), (7, .long r11), (9, .int v16)] [.long v23, .long (J17 (R a0 1) (Int32.toNatClampNeg v16)), .int v16, .ref (am_B Z + (R a0 1))] R I J17 _
        refine am_ladd dX4_makeFresh_96 ?_
        refine am_last h21 dX4_makeFresh_97 ?_
        refine am_letL (fun J25 => ?_)
        refine am_iinc (j := 8) (ls' := [(9, .int (v16 + (1 : Int32))), (0, .ref (am_B Z + a0)), (1, .int x1), (2, .ref (am_B Z + a2)), (3, .int x3), (4, .int x4), (5, .int v5), (6, .int v10), (7, .long r11)]) dX4_makeFresh_98 rfl rfl (Nat.le_of_ble_eq_true rfl) rfl ?_
        refine am_goto (tgt := 58) dX4_makeFresh_101 rfl ?_
        refine am_sub (ls' := [(0, .ref (am_B Z + a0)), (1, .int x1), (2, .ref (am_B Z + a2)), (3, .int x3), (4, .int x4), (5, .int v5), (6, .int v10), (7, .long r11), (9, .int (v16 + (1 : Int32)))]) [1, 2, 3, 4, 5, 6, 7, 8, 0] rfl ?_
        exact hih18 (v16 + (1 : Int32)) J25
      refine am_if_eqL (tgt := 95) dX4_makeFresh_87 rfl (fun e26 => ?_) (fun e26 => ?_)
      · refine am_lconst (v := 0) dX4_makeFresh_95 (by decide) ?_
        exact hk24 _
      · refine am_lload dX4_makeFresh_90 7 rfl ?_
        refine am_goto (tgt := 96) dX4_makeFresh_92 rfl ?_
        exact hk24 _
theorem uX4_makeFresh_58 {Z : am_Z} {X : am_X} (R : am_R) (I : am_I) (a0 : Nat) (x1 : Int32) (a2 : Nat) (x3 : Int32) (x4 : Int32) (v5 : Int32) (v10 : Int32) (r11 : Int64) (h14 : am_G Z a0 = some (.inl 4)) (h15 : am_G Z a2 = some (.inl 0)) (j12 : am_L → Option (am_L)) (hj12 : ∀ (J13 : am_L), am_V Z X kX4_makeFresh (fun r : am_L => (none, R, I, r)) 104 [(0, .ref (am_B Z + a0)), (1, .int x1), (2, .ref (am_B Z + a2)), (3, .int x3), (4, .int x4), (5, .int v5)] [] R I J13 (j12 J13)) : ∀ (n : Nat) (v16 : Int32) (J17 : am_L), am_V Z X kX4_makeFresh (fun r : am_L => (none, R, I, r)) 58 [(0, .ref (am_B Z + a0)), (1, .int x1), (2, .ref (am_B Z + a2)), (3, .int x3), (4, .int x4), (5, .int v5), (6, .int v10), (7, .long r11), (9, .int v16)] [] R I J17 (lX4_makeFresh_58 R I a0 x1 a2 x3 x4 v5 v10 r11 j12 n v16 J17) := by
  intro n
  induction n with
  | zero => intro _ _; exact am_none
  | succ n ih => exact fun v16 J17 => vX4_makeFresh_58 R I a0 x1 a2 x3 x4 v5 v10 r11 h14 h15 j12 hj12 (lX4_makeFresh_58 R I a0 x1 a2 x3 x4 v5 v10 r11 j12 n) ih v16 J17
set_option maxRecDepth 100000 in
set_option maxHeartbeats 4000000 in
theorem vX4_makeFresh_27 {Z : am_Z} {X : am_X} (R : am_R) (I : am_I) (a0 : Nat) (x1 : Int32) (a2 : Nat) (x3 : Int32) (x4 : Int32) (h3 : am_G Z a0 = some (.inl 4)) (h4 : am_G Z a2 = some (.inl 0)) (ih7 : Int32 → am_L → Option (am_L)) (hih7 : ∀ (v5 : Int32) (J6 : am_L), am_V Z X kX4_makeFresh (fun r : am_L => (none, R, I, r)) 27 [(0, .ref (am_B Z + a0)), (1, .int x1), (2, .ref (am_B Z + a2)), (3, .int x3), (4, .int x4), (5, .int v5)] [] R I J6 (ih7 v5 J6)) (v5 : Int32) (J6 : am_L) : am_V Z X kX4_makeFresh (fun r : am_L => (none, R, I, r)) 27 [(0, .ref (am_B Z + a0)), (1, .int x1), (2, .ref (am_B Z + a2)), (3, .int x3), (4, .int x4), (5, .int v5)] [] R I J6 (sX4_makeFresh_27 R I a0 x1 a2 x3 x4 ih7 v5 J6) := by
  unfold sX4_makeFresh_27
  refine am_iload dX4_makeFresh_27 5 rfl ?_
  refine am_bipush (v := 6) dX4_makeFresh_29 (by decide) ?_
  refine am_icmp_ge (tgt := 110) dX4_makeFresh_31 rfl (fun e8 => ?_) (fun e8 => ?_)
  · exact am_vret dX4_makeFresh_110 rfl rfl
  · refine am_aload_n dX4_makeFresh_34 rfl 2 rfl ?_
    refine am_iload dX4_makeFresh_35 5 rfl ?_
    refine am_iload_n dX4_makeFresh_37 rfl 3 rfl ?_
    refine am_callV [.int v5, .int x3] (tX0_targetsOf R I J6 a2 v5 x3 h4) h4 clX0 gX4_makeFresh_X0_targetsOf hX0_targetsOf rfl ⟨Nat.le_of_ble_eq_true rfl, Nat.le_of_ble_eq_true rfl⟩ rfl rfl (Nat.le_of_ble_eq_true rfl) dX4_makeFresh_38 (fun r9 => ?_)
    show am_V Z X kX4_makeFresh (fun r : am_L => (none, R, I, r)) 41 [(0, .ref (am_B Z + a0)), (1, .int x1), (2, .ref (am_B Z + a2)), (3, .int x3), (4, .int x4), (5, .int v5)] [.int r9] R I J6 _
    refine am_iload dX4_makeFresh_41 4 rfl ?_
    refine am_iand dX4_makeFresh_43 ?_
    refine am_letTi (fun v10 => ?_)
    refine am_istore (ls' := [(6, .int v10), (0, .ref (am_B Z + a0)), (1, .int x1), (2, .ref (am_B Z + a2)), (3, .int x3), (4, .int x4), (5, .int v5)]) dX4_makeFresh_44 (Nat.le_of_ble_eq_true rfl) rfl ?_
    refine am_aload_n dX4_makeFresh_46 rfl 1 rfl ?_
    refine am_iload_n dX4_makeFresh_47 rfl 2 rfl ?_
    refine am_iload dX4_makeFresh_48 6 rfl ?_
    refine am_callV [.int x1, .int v5] (tX4_cell R I J6 a0 x1 v5 h3) h3 clX4 gX4_makeFresh_X4_cell hX4_cell rfl ⟨Nat.le_of_ble_eq_true rfl, Nat.le_of_ble_eq_true rfl⟩ rfl rfl (Nat.le_of_ble_eq_true rfl) dX4_makeFresh_50 (fun r11 => ?_)
    show am_V Z X kX4_makeFresh (fun r : am_L => (none, R, I, r)) 53 [(6, .int v10), (0, .ref (am_B Z + a0)), (1, .int x1), (2, .ref (am_B Z + a2)), (3, .int x3), (4, .int x4), (5, .int v5)] [.long r11] R I J6 _
    refine am_lstore (ls' := [(7, .long r11), (6, .int v10), (0, .ref (am_B Z + a0)), (1, .int x1), (2, .ref (am_B Z + a2)), (3, .int x3), (4, .int x4), (5, .int v5)]) dX4_makeFresh_53 (Nat.le_of_ble_eq_true rfl) rfl ?_
    refine am_iconst (v := 0) dX4_makeFresh_55 (by decide) ?_
    refine am_istore (ls' := [(9, .int (0 : Int32)), (7, .long r11), (6, .int v10), (0, .ref (am_B Z + a0)), (1, .int x1), (2, .ref (am_B Z + a2)), (3, .int x3), (4, .int x4), (5, .int v5)]) dX4_makeFresh_56 (Nat.le_of_ble_eq_true rfl) rfl ?_
    refine am_jnV (fun j12 ej12 => ?_)
    have hj12 : ∀ (J13 : am_L), am_V Z X kX4_makeFresh (fun r : am_L => (none, R, I, r)) 104 [(0, .ref (am_B Z + a0)), (1, .int x1), (2, .ref (am_B Z + a2)), (3, .int x3), (4, .int x4), (5, .int v5)] [] R I J13 (j12 J13) := by
      subst ej12
      intro J13
      show am_V Z X kX4_makeFresh (fun r : am_L => (none, R, I, r)) 104 [(0, .ref (am_B Z + a0)), (1, .int x1), (2, .ref (am_B Z + a2)), (3, .int x3), (4, .int x4), (5, .int v5)] [] R I J13 _
      refine am_iinc (j := 5) (ls' := [(5, .int (v5 + (1 : Int32))), (0, .ref (am_B Z + a0)), (1, .int x1), (2, .ref (am_B Z + a2)), (3, .int x3), (4, .int x4)]) dX4_makeFresh_104 rfl rfl (Nat.le_of_ble_eq_true rfl) rfl ?_
      refine am_goto (tgt := 27) dX4_makeFresh_107 rfl ?_
      refine am_sub (ls' := [(0, .ref (am_B Z + a0)), (1, .int x1), (2, .ref (am_B Z + a2)), (3, .int x3), (4, .int x4), (5, .int (v5 + (1 : Int32)))]) [1, 2, 3, 4, 5, 0] rfl ?_
      exact hih7 (v5 + (1 : Int32)) J13
    refine am_sub (ls' := [(0, .ref (am_B Z + a0)), (1, .int x1), (2, .ref (am_B Z + a2)), (3, .int x3), (4, .int x4), (5, .int v5), (6, .int v10), (7, .long r11), (9, .int (0 : Int32))]) [3, 4, 5, 6, 7, 8, 2, 1, 0] rfl ?_
    exact uX4_makeFresh_58 R I a0 x1 a2 x3 x4 v5 v10 r11 h3 h4 j12 hj12 am_fu (0 : Int32) J6
theorem uX4_makeFresh_27 {Z : am_Z} {X : am_X} (R : am_R) (I : am_I) (a0 : Nat) (x1 : Int32) (a2 : Nat) (x3 : Int32) (x4 : Int32) (h3 : am_G Z a0 = some (.inl 4)) (h4 : am_G Z a2 = some (.inl 0)) : ∀ (n : Nat) (v5 : Int32) (J6 : am_L), am_V Z X kX4_makeFresh (fun r : am_L => (none, R, I, r)) 27 [(0, .ref (am_B Z + a0)), (1, .int x1), (2, .ref (am_B Z + a2)), (3, .int x3), (4, .int x4), (5, .int v5)] [] R I J6 (lX4_makeFresh_27 R I a0 x1 a2 x3 x4 n v5 J6) := by
  intro n
  induction n with
  | zero => intro _ _; exact am_none
  | succ n ih => exact fun v5 J6 => vX4_makeFresh_27 R I a0 x1 a2 x3 x4 h3 h4 (lX4_makeFresh_27 R I a0 x1 a2 x3 x4 n) ih v5 J6
set_option maxRecDepth 100000 in
set_option maxHeartbeats 4000000 in
theorem vX4_makeFresh_3 {Z : am_Z} {X : am_X} (R : am_R) (I : am_I) (a0 : Nat) (x1 : Int32) (a2 : Nat) (x3 : Int32) (x4 : Int32) (h27 : am_G Z a0 = some (.inl 4)) (h28 : am_G Z a2 = some (.inl 0)) (j1 : am_L → Option (am_L)) (hj1 : ∀ (J2 : am_L), am_V Z X kX4_makeFresh (fun r : am_L => (none, R, I, r)) 24 [(0, .ref (am_B Z + a0)), (1, .int x1), (2, .ref (am_B Z + a2)), (3, .int x3), (4, .int x4)] [] R I J2 (j1 J2)) (ih31 : Int32 → am_L → Option (am_L)) (hih31 : ∀ (v29 : Int32) (J30 : am_L), am_V Z X kX4_makeFresh (fun r : am_L => (none, R, I, r)) 3 [(0, .ref (am_B Z + a0)), (1, .int x1), (2, .ref (am_B Z + a2)), (3, .int x3), (4, .int x4), (5, .int v29)] [] R I J30 (ih31 v29 J30)) (v29 : Int32) (J30 : am_L) : am_V Z X kX4_makeFresh (fun r : am_L => (none, R, I, r)) 3 [(0, .ref (am_B Z + a0)), (1, .int x1), (2, .ref (am_B Z + a2)), (3, .int x3), (4, .int x4), (5, .int v29)] [] R I J30 (sX4_makeFresh_3 R I a0 x1 a2 x3 x4 j1 ih31 v29 J30) := by
  unfold sX4_makeFresh_3
  refine am_iload dX4_makeFresh_3 5 rfl ?_
  refine am_bipush (v := 6) dX4_makeFresh_5 (by decide) ?_
  refine am_icmp_ge (tgt := 24) dX4_makeFresh_7 rfl (fun e32 => ?_) (fun e32 => ?_)
  · refine am_sub (ls' := [(0, .ref (am_B Z + a0)), (1, .int x1), (2, .ref (am_B Z + a2)), (3, .int x3), (4, .int x4)]) [0, 1, 2, 3, 4] rfl ?_
    exact hj1 J30
  · refine am_aload_n dX4_makeFresh_10 rfl 0 rfl ?_
    refine am_getR 4 1 clX4 (Nat.le_of_ble_eq_true rfl) h27 iX4_makeFresh_4 fX4_makeFresh_15 rfl rfl dX4_makeFresh_11 (fun h33 => ?_)
    refine am_iload dX4_makeFresh_14 5 rfl ?_
    refine am_lconst (v := 0) dX4_makeFresh_16 (by decide) ?_
    refine am_last h33 dX4_makeFresh_17 ?_
    refine am_letL (fun J34 => ?_)
    refine am_iinc (j := 5) (ls' := [(5, .int (v29 + (1 : Int32))), (0, .ref (am_B Z + a0)), (1, .int x1), (2, .ref (am_B Z + a2)), (3, .int x3), (4, .int x4)]) dX4_makeFresh_18 rfl rfl (Nat.le_of_ble_eq_true rfl) rfl ?_
    refine am_goto (tgt := 3) dX4_makeFresh_21 rfl ?_
    refine am_sub (ls' := [(0, .ref (am_B Z + a0)), (1, .int x1), (2, .ref (am_B Z + a2)), (3, .int x3), (4, .int x4), (5, .int (v29 + (1 : Int32)))]) [1, 2, 3, 4, 5, 0] rfl ?_
    exact hih31 (v29 + (1 : Int32)) J34
theorem uX4_makeFresh_3 {Z : am_Z} {X : am_X} (R : am_R) (I : am_I) (a0 : Nat) (x1 : Int32) (a2 : Nat) (x3 : Int32) (x4 : Int32) (h27 : am_G Z a0 = some (.inl 4)) (h28 : am_G Z a2 = some (.inl 0)) (j1 : am_L → Option (am_L)) (hj1 : ∀ (J2 : am_L), am_V Z X kX4_makeFresh (fun r : am_L => (none, R, I, r)) 24 [(0, .ref (am_B Z + a0)), (1, .int x1), (2, .ref (am_B Z + a2)), (3, .int x3), (4, .int x4)] [] R I J2 (j1 J2)) : ∀ (n : Nat) (v29 : Int32) (J30 : am_L), am_V Z X kX4_makeFresh (fun r : am_L => (none, R, I, r)) 3 [(0, .ref (am_B Z + a0)), (1, .int x1), (2, .ref (am_B Z + a2)), (3, .int x3), (4, .int x4), (5, .int v29)] [] R I J30 (lX4_makeFresh_3 R I a0 x1 a2 x3 x4 j1 n v29 J30) := by
  intro n
  induction n with
  | zero => intro _ _; exact am_none
  | succ n ih => exact fun v29 J30 => vX4_makeFresh_3 R I a0 x1 a2 x3 x4 h27 h28 j1 hj1 (lX4_makeFresh_3 R I a0 x1 a2 x3 x4 j1 n) ih v29 J30
set_option maxRecDepth 100000 in
set_option maxHeartbeats 4000000 in
theorem tX4_makeFresh {Z : am_Z} (R : am_R) (I : am_I) (L : am_L) (a0 : Nat) (x1 : Int32) (a2 : Nat) (x3 : Int32) (x4 : Int32) (h_a0 : am_G Z a0 = some (.inl 4)) (h_a2 : am_G Z a2 = some (.inl 0)) : am_M Z yX4_makeFresh kX4_makeFresh [.ref (am_B Z + a0), .int x1, .ref (am_B Z + a2), .int x3, .int x4] R I L (pX4_makeFresh R I L a0 x1 a2 x3 x4) (fun r : am_L => (none, R, I, r)) := by
  refine am_entry (ls := [(0, .ref (am_B Z + a0)), (1, .int x1), (2, .ref (am_B Z + a2)), (3, .int x3), (4, .int x4)]) (by decide) hX4_makeFresh rfl (Nat.le_of_ble_eq_true rfl) rfl (fun X => ?_)
  unfold pX4_makeFresh
  refine am_iconst (v := 0) dX4_makeFresh_0 (by decide) ?_
  refine am_istore (ls' := [(5, .int (0 : Int32)), (0, .ref (am_B Z + a0)), (1, .int x1), (2, .ref (am_B Z + a2)), (3, .int x3), (4, .int x4)]) dX4_makeFresh_1 (Nat.le_of_ble_eq_true rfl) rfl ?_
  refine am_jnV (fun j1 ej1 => ?_)
  have hj1 : ∀ (J2 : am_L), am_V Z X kX4_makeFresh (fun r : am_L => (none, R, I, r)) 24 [(0, .ref (am_B Z + a0)), (1, .int x1), (2, .ref (am_B Z + a2)), (3, .int x3), (4, .int x4)] [] R I J2 (j1 J2) := by
    subst ej1
    intro J2
    show am_V Z X kX4_makeFresh (fun r : am_L => (none, R, I, r)) 24 [(0, .ref (am_B Z + a0)), (1, .int x1), (2, .ref (am_B Z + a2)), (3, .int x3), (4, .int x4)] [] R I J2 _
    refine am_iconst (v := 0) dX4_makeFresh_24 (by decide) ?_
    refine am_istore (ls' := [(5, .int (0 : Int32)), (0, .ref (am_B Z + a0)), (1, .int x1), (2, .ref (am_B Z + a2)), (3, .int x3), (4, .int x4)]) dX4_makeFresh_25 (Nat.le_of_ble_eq_true rfl) rfl ?_
    refine am_sub (ls' := [(0, .ref (am_B Z + a0)), (1, .int x1), (2, .ref (am_B Z + a2)), (3, .int x3), (4, .int x4), (5, .int (0 : Int32))]) [1, 2, 3, 4, 5, 0] rfl ?_
    exact uX4_makeFresh_27 R I a0 x1 a2 x3 x4 h_a0 h_a2 am_fu (0 : Int32) J2
  refine am_sub (ls' := [(0, .ref (am_B Z + a0)), (1, .int x1), (2, .ref (am_B Z + a2)), (3, .int x3), (4, .int x4), (5, .int (0 : Int32))]) [1, 2, 3, 4, 5, 0] rfl ?_
  exact uX4_makeFresh_3 R I a0 x1 a2 x3 x4 h_a0 h_a2 j1 hj1 am_fu (0 : Int32) L
abbrev kX4_highestAmbiguity : am_K := (cX4_highestAmbiguity, 8, RX4, wsX4_highestAmbiguity, some .long, { frames := 4, cells := 0, slots := 0, locals := 90 })
theorem hX4_highestAmbiguity : am_cl yX4_highestAmbiguity kX4_highestAmbiguity 1 := ⟨⟨_, rfl⟩, rfl, rfl, by decide +kernel, by decide +kernel, by decide +kernel⟩
theorem iX4_highestAmbiguity_4 : ∀ w ∈ u_ws RX4 TX4 5, w ∈ wsX4_highestAmbiguity := by decide +kernel
theorem fX4_highestAmbiguity_15 : Cond.fieldLink RX4 15 "AmbiguityAnalyzer$RowStore" "fresh" "[J" ∈ wsX4_highestAmbiguity := by decide +kernel
theorem iX4_highestAmbiguity_0 : ∀ w ∈ u_ws RX0 TX0 4, w ∈ wsX4_highestAmbiguity := by decide +kernel
theorem fX4_highestAmbiguity_34 : Cond.fieldLink RX4 34 "AmbiguityAnalyzer$Automaton" "initials" "I" ∈ wsX4_highestAmbiguity := by decide +kernel
theorem fX4_highestAmbiguity_46 : Cond.fieldLink RX4 46 "AmbiguityAnalyzer$RowStore" "count" "I" ∈ wsX4_highestAmbiguity := by decide +kernel
theorem fX4_highestAmbiguity_49 : Cond.fieldLink RX4 49 "AmbiguityAnalyzer$Automaton" "finals" "I" ∈ wsX4_highestAmbiguity := by decide +kernel
set_option maxRecDepth 100000 in
set_option maxHeartbeats 4000000 in
theorem vX4_highestAmbiguity_99 {Z : am_Z} {X : am_X} (R : am_R) (a0 : Nat) (a1 : Nat) (r1 : Int32) (v24 : Int64) (v16 : Int32) (h29 : am_G Z a0 = some (.inl 4)) (h30 : am_G Z a1 = some (.inl 0)) (j25 : Int32 → am_I → am_L → Option (Int64 × am_I × am_L)) (hj25 : ∀ (v26 : Int32) (J27 : am_I) (J28 : am_L), am_V Z X kX4_highestAmbiguity (fun r : Int64 × am_I × am_L => (some (.long r.1), R, r.2.1, r.2.2)) 130 [(0, .ref (am_B Z + a0)), (1, .ref (am_B Z + a1)), (2, .int r1), (3, .int v26), (4, .long v24), (6, .int v16)] [] R J27 J28 (j25 v26 J27 J28)) (ih35 : Int32 → Int32 → am_I → am_L → Option (Int64 × am_I × am_L)) (hih35 : ∀ (v31 : Int32) (v32 : Int32) (J33 : am_I) (J34 : am_L), am_V Z X kX4_highestAmbiguity (fun r : Int64 × am_I × am_L => (some (.long r.1), R, r.2.1, r.2.2)) 99 [(0, .ref (am_B Z + a0)), (1, .ref (am_B Z + a1)), (2, .int r1), (3, .int v31), (4, .long v24), (6, .int v16), (7, .int v32)] [] R J33 J34 (ih35 v31 v32 J33 J34)) (v31 : Int32) (v32 : Int32) (J33 : am_I) (J34 : am_L) : am_V Z X kX4_highestAmbiguity (fun r : Int64 × am_I × am_L => (some (.long r.1), R, r.2.1, r.2.2)) 99 [(0, .ref (am_B Z + a0)), (1, .ref (am_B Z + a1)), (2, .int r1), (3, .int v31), (4, .long v24), (6, .int v16), (7, .int v32)] [] R J33 J34 (sX4_highestAmbiguity_99 R a0 a1 r1 v24 v16 j25 ih35 v31 v32 J33 J34) := by
  unfold sX4_highestAmbiguity_99
  refine am_iload_n dX4_highestAmbiguity_99 rfl 3 rfl ?_
  refine am_if_eq (tgt := 130) dX4_highestAmbiguity_100 rfl (fun e36 => ?_) (fun e36 => ?_)
  · refine am_sub (ls' := [(0, .ref (am_B Z + a0)), (1, .ref (am_B Z + a1)), (2, .int r1), (3, .int v31), (4, .long v24), (6, .int v16)]) [0, 1, 2, 3, 4, 5] rfl ?_
    exact hj25 v31 J33 J34
  · refine am_iload dX4_highestAmbiguity_103 6 rfl ?_
    refine am_iconst (v := 3) dX4_highestAmbiguity_105 (by decide) ?_
    refine am_icmp_ge (tgt := 130) dX4_highestAmbiguity_106 rfl (fun e37 => ?_) (fun e37 => ?_)
    · refine am_sub (ls' := [(0, .ref (am_B Z + a0)), (1, .ref (am_B Z + a1)), (2, .int r1), (3, .int v31), (4, .long v24), (6, .int v16)]) [0, 1, 2, 3, 4, 5] rfl ?_
      exact hj25 v31 J33 J34
    · refine am_aload_n dX4_highestAmbiguity_109 rfl 0 rfl ?_
      refine am_iload dX4_highestAmbiguity_110 5 rfl ?_
      refine am_aload_n dX4_highestAmbiguity_112 rfl 1 rfl ?_
      refine am_iload dX4_highestAmbiguity_113 6 rfl ?_
      refine am_iload_n dX4_highestAmbiguity_115 rfl 2 rfl ?_
      refine am_callV [.int v16, .ref (am_B Z + a1), .int v32, .int r1] (tX4_makeFresh R J33 J34 a0 v16 a1 v32 r1 h29 h30) h29 clX4 gX4_highestAmbiguity_X4_makeFresh hX4_makeFresh rfl ⟨Nat.le_of_ble_eq_true rfl, Nat.le_of_ble_eq_true rfl⟩ rfl rfl (Nat.le_of_ble_eq_true rfl) dX4_highestAmbiguity_116 (fun r38 => ?_)
      show am_V Z X kX4_highestAmbiguity (fun r : Int64 × am_I × am_L => (some (.long r.1), R, r.2.1, r.2.2)) 119 [(0, .ref (am_B Z + a0)), (1, .ref (am_B Z + a1)), (2, .int r1), (3, .int v31), (4, .long v24), (6, .int v16), (7, .int v32)] [] R J33 r38 _
      refine am_aload_n dX4_highestAmbiguity_119 rfl 0 rfl ?_
      refine am_callV [] (tX4_keepFresh R J33 r38 a0 h29) h29 clX4 gX4_highestAmbiguity_X4_keepFresh hX4_keepFresh rfl ⟨Nat.le_of_ble_eq_true rfl, Nat.le_of_ble_eq_true rfl⟩ rfl rfl (Nat.le_of_ble_eq_true rfl) dX4_highestAmbiguity_120 (fun r39 => ?_)
      show am_V Z X kX4_highestAmbiguity (fun r : Int64 × am_I × am_L => (some (.long r.1), R, r.2.1, r.2.2)) 123 [(0, .ref (am_B Z + a0)), (1, .ref (am_B Z + a1)), (2, .int r1), (3, .int v31), (4, .long v24), (6, .int v16), (7, .int v32)] [.int r39.1] R r39.2.1 r39.2.2 _
      refine am_istore_n (ls' := [(3, .int r39.1), (0, .ref (am_B Z + a0)), (1, .ref (am_B Z + a1)), (2, .int r1), (4, .long v24), (6, .int v16), (7, .int v32)]) dX4_highestAmbiguity_123 rfl (Nat.le_of_ble_eq_true rfl) rfl ?_
      refine am_iinc (j := 6) (ls' := [(7, .int (v32 + (1 : Int32))), (3, .int r39.1), (0, .ref (am_B Z + a0)), (1, .ref (am_B Z + a1)), (2, .int r1), (4, .long v24), (6, .int v16)]) dX4_highestAmbiguity_124 rfl rfl (Nat.le_of_ble_eq_true rfl) rfl ?_
      refine am_goto (tgt := 99) dX4_highestAmbiguity_127 rfl ?_
      refine am_sub (ls' := [(0, .ref (am_B Z + a0)), (1, .ref (am_B Z + a1)), (2, .int r1), (3, .int r39.1), (4, .long v24), (6, .int v16), (7, .int (v32 + (1 : Int32)))]) [2, 3, 4, 1, 5, 6, 0] rfl ?_
      exact hih35 r39.1 (v32 + (1 : Int32)) r39.2.1 r39.2.2
theorem uX4_highestAmbiguity_99 {Z : am_Z} {X : am_X} (R : am_R) (a0 : Nat) (a1 : Nat) (r1 : Int32) (v24 : Int64) (v16 : Int32) (h29 : am_G Z a0 = some (.inl 4)) (h30 : am_G Z a1 = some (.inl 0)) (j25 : Int32 → am_I → am_L → Option (Int64 × am_I × am_L)) (hj25 : ∀ (v26 : Int32) (J27 : am_I) (J28 : am_L), am_V Z X kX4_highestAmbiguity (fun r : Int64 × am_I × am_L => (some (.long r.1), R, r.2.1, r.2.2)) 130 [(0, .ref (am_B Z + a0)), (1, .ref (am_B Z + a1)), (2, .int r1), (3, .int v26), (4, .long v24), (6, .int v16)] [] R J27 J28 (j25 v26 J27 J28)) : ∀ (n : Nat) (v31 : Int32) (v32 : Int32) (J33 : am_I) (J34 : am_L), am_V Z X kX4_highestAmbiguity (fun r : Int64 × am_I × am_L => (some (.long r.1), R, r.2.1, r.2.2)) 99 [(0, .ref (am_B Z + a0)), (1, .ref (am_B Z + a1)), (2, .int r1), (3, .int v31), (4, .long v24), (6, .int v16), (7, .int v32)] [] R J33 J34 (lX4_highestAmbiguity_99 R a0 a1 r1 v24 v16 j25 n v31 v32 J33 J34) := by
  intro n
  induction n with
  | zero => intro _ _ _ _; exact am_none
  | succ n ih => exact fun v31 v32 J33 J34 => vX4_highestAmbiguity_99 R a0 a1 r1 v24 v16 h29 h30 j25 hj25 (lX4_highestAmbiguity_99 R a0 a1 r1 v24 v16 j25 n) ih v31 v32 J33 J34
set_option maxRecDepth 100000 in
set_option maxHeartbeats 4000000 in
theorem vX4_highestAmbiguity_58 {Z : am_Z} {X : am_X} (R : am_R) (a0 : Nat) (a1 : Nat) (r1 : Int32) (h12 : am_G Z a0 = some (.inl 4)) (h13 : am_G Z a1 = some (.inl 0)) (j6 : Int32 → Int64 → am_I → am_L → Option (Int64 × am_I × am_L)) (hj6 : ∀ (v7 : Int32) (v8 : Int64) (J9 : am_I) (J10 : am_L), am_V Z X kX4_highestAmbiguity (fun r : Int64 × am_I × am_L => (some (.long r.1), R, r.2.1, r.2.2)) 136 [(3, .int v7), (4, .long v8)] [] R J9 J10 (j6 v7 v8 J9 J10)) (ih19 : Int32 → Int64 → Int32 → am_I → am_L → Option (Int64 × am_I × am_L)) (hih19 : ∀ (v14 : Int32) (v15 : Int64) (v16 : Int32) (J17 : am_I) (J18 : am_L), am_V Z X kX4_highestAmbiguity (fun r : Int64 × am_I × am_L => (some (.long r.1), R, r.2.1, r.2.2)) 58 [(0, .ref (am_B Z + a0)), (1, .ref (am_B Z + a1)), (2, .int r1), (3, .int v14), (4, .long v15), (6, .int v16)] [] R J17 J18 (ih19 v14 v15 v16 J17 J18)) (v14 : Int32) (v15 : Int64) (v16 : Int32) (J17 : am_I) (J18 : am_L) : am_V Z X kX4_highestAmbiguity (fun r : Int64 × am_I × am_L => (some (.long r.1), R, r.2.1, r.2.2)) 58 [(0, .ref (am_B Z + a0)), (1, .ref (am_B Z + a1)), (2, .int r1), (3, .int v14), (4, .long v15), (6, .int v16)] [] R J17 J18 (sX4_highestAmbiguity_58 R a0 a1 r1 j6 ih19 v14 v15 v16 J17 J18) := by
  unfold sX4_highestAmbiguity_58
  refine am_iload_n dX4_highestAmbiguity_58 rfl 3 rfl ?_
  refine am_if_eq (tgt := 136) dX4_highestAmbiguity_59 rfl (fun e20 => ?_) (fun e20 => ?_)
  · refine am_sub (ls' := [(3, .int v14), (4, .long v15)]) [3, 4] rfl ?_
    exact hj6 v14 v15 J17 J18
  · refine am_iload dX4_highestAmbiguity_62 5 rfl ?_
    refine am_aload_n dX4_highestAmbiguity_64 rfl 0 rfl ?_
    refine am_get 4 4 clX4 (Nat.le_of_ble_eq_true rfl) h12 iX4_highestAmbiguity_4 fX4_highestAmbiguity_46 rfl dX4_highestAmbiguity_65 ?_
    refine am_icmp_ge (tgt := 136) dX4_highestAmbiguity_68 rfl (fun e21 => ?_) (fun e21 => ?_)
    · refine am_sub (ls' := [(3, .int v14), (4, .long v15)]) [3, 4] rfl ?_
      exact hj6 v14 v15 J17 J18
    · refine am_iload dX4_highestAmbiguity_71 5 rfl ?_
      refine am_sipush (v := 1000) dX4_highestAmbiguity_73 (by decide) ?_
      refine am_icmp_ge (tgt := 136) dX4_highestAmbiguity_76 rfl (fun e22 => ?_) (fun e22 => ?_)
      · refine am_sub (ls' := [(3, .int v14), (4, .long v15)]) [3, 4] rfl ?_
        exact hj6 v14 v15 J17 J18
      · refine am_lload dX4_highestAmbiguity_79 4 rfl ?_
        refine am_aload_n dX4_highestAmbiguity_81 rfl 0 rfl ?_
        refine am_iload dX4_highestAmbiguity_82 5 rfl ?_
        refine am_aload_n dX4_highestAmbiguity_84 rfl 1 rfl ?_
        refine am_get 0 2 clX0 (Nat.le_of_ble_eq_true rfl) h13 iX4_highestAmbiguity_0 fX4_highestAmbiguity_49 rfl dX4_highestAmbiguity_85 ?_
        refine am_callV [.int v16, .int (J17 a1 2)] (tX4_sumOver R J17 J18 a0 v16 (J17 a1 2) h12) h12 clX4 gX4_highestAmbiguity_X4_sumOver hX4_sumOver rfl ⟨Nat.le_of_ble_eq_true rfl, Nat.le_of_ble_eq_true rfl⟩ rfl rfl (Nat.le_of_ble_eq_true rfl) dX4_highestAmbiguity_88 (fun r23 => ?_)
        show am_V Z X kX4_highestAmbiguity (fun r : Int64 × am_I × am_L => (some (.long r.1), R, r.2.1, r.2.2)) 91 [(0, .ref (am_B Z + a0)), (1, .ref (am_B Z + a1)), (2, .int r1), (3, .int v14), (4, .long v15), (6, .int v16)] [.long r23, .long v15] R J17 J18 _
        refine am_mmaxl (by decide +kernel) (by decide +kernel) (by decide +kernel) (by decide +kernel) (Nat.le_of_ble_eq_true rfl) (Nat.le_of_ble_eq_true rfl) dX4_highestAmbiguity_91 ?_
        refine am_letTl (fun v24 => ?_)
        refine am_lstore (ls' := [(4, .long v24), (0, .ref (am_B Z + a0)), (1, .ref (am_B Z + a1)), (2, .int r1), (3, .int v14), (6, .int v16)]) dX4_highestAmbiguity_94 (Nat.le_of_ble_eq_true rfl) rfl ?_
        refine am_iconst (v := 0) dX4_highestAmbiguity_96 (by decide) ?_
        refine am_istore (ls' := [(7, .int (0 : Int32)), (4, .long v24), (0, .ref (am_B Z + a0)), (1, .ref (am_B Z + a1)), (2, .int r1), (3, .int v14), (6, .int v16)]) dX4_highestAmbiguity_97 (Nat.le_of_ble_eq_true rfl) rfl ?_
        refine am_jnV (fun j25 ej25 => ?_)
        have hj25 : ∀ (v26 : Int32) (J27 : am_I) (J28 : am_L), am_V Z X kX4_highestAmbiguity (fun r : Int64 × am_I × am_L => (some (.long r.1), R, r.2.1, r.2.2)) 130 [(0, .ref (am_B Z + a0)), (1, .ref (am_B Z + a1)), (2, .int r1), (3, .int v26), (4, .long v24), (6, .int v16)] [] R J27 J28 (j25 v26 J27 J28) := by
          subst ej25
          intro v26 J27 J28
          show am_V Z X kX4_highestAmbiguity (fun r : Int64 × am_I × am_L => (some (.long r.1), R, r.2.1, r.2.2)) 130 [(0, .ref (am_B Z + a0)), (1, .ref (am_B Z + a1)), (2, .int r1), (3, .int v26), (4, .long v24), (6, .int v16)] [] R J27 J28 _
          refine am_iinc (j := 5) (ls' := [(6, .int (v16 + (1 : Int32))), (0, .ref (am_B Z + a0)), (1, .ref (am_B Z + a1)), (2, .int r1), (3, .int v26), (4, .long v24)]) dX4_highestAmbiguity_130 rfl rfl (Nat.le_of_ble_eq_true rfl) rfl ?_
          refine am_goto (tgt := 58) dX4_highestAmbiguity_133 rfl ?_
          refine am_sub (ls' := [(0, .ref (am_B Z + a0)), (1, .ref (am_B Z + a1)), (2, .int r1), (3, .int v26), (4, .long v24), (6, .int (v16 + (1 : Int32)))]) [1, 2, 3, 4, 5, 0] rfl ?_
          exact hih19 v26 v24 (v16 + (1 : Int32)) J27 J28
        refine am_sub (ls' := [(0, .ref (am_B Z + a0)), (1, .ref (am_B Z + a1)), (2, .int r1), (3, .int v14), (4, .long v24), (6, .int v16), (7, .int (0 : Int32))]) [2, 3, 4, 5, 1, 6, 0] rfl ?_
        exact uX4_highestAmbiguity_99 R a0 a1 r1 v24 v16 h12 h13 j25 hj25 am_fu v14 (0 : Int32) J17 J18
theorem uX4_highestAmbiguity_58 {Z : am_Z} {X : am_X} (R : am_R) (a0 : Nat) (a1 : Nat) (r1 : Int32) (h12 : am_G Z a0 = some (.inl 4)) (h13 : am_G Z a1 = some (.inl 0)) (j6 : Int32 → Int64 → am_I → am_L → Option (Int64 × am_I × am_L)) (hj6 : ∀ (v7 : Int32) (v8 : Int64) (J9 : am_I) (J10 : am_L), am_V Z X kX4_highestAmbiguity (fun r : Int64 × am_I × am_L => (some (.long r.1), R, r.2.1, r.2.2)) 136 [(3, .int v7), (4, .long v8)] [] R J9 J10 (j6 v7 v8 J9 J10)) : ∀ (n : Nat) (v14 : Int32) (v15 : Int64) (v16 : Int32) (J17 : am_I) (J18 : am_L), am_V Z X kX4_highestAmbiguity (fun r : Int64 × am_I × am_L => (some (.long r.1), R, r.2.1, r.2.2)) 58 [(0, .ref (am_B Z + a0)), (1, .ref (am_B Z + a1)), (2, .int r1), (3, .int v14), (4, .long v15), (6, .int v16)] [] R J17 J18 (lX4_highestAmbiguity_58 R a0 a1 r1 j6 n v14 v15 v16 J17 J18) := by
  intro n
  induction n with
  | zero => intro _ _ _ _ _; exact am_none
  | succ n ih => exact fun v14 v15 v16 J17 J18 => vX4_highestAmbiguity_58 R a0 a1 r1 h12 h13 j6 hj6 (lX4_highestAmbiguity_58 R a0 a1 r1 j6 n) ih v14 v15 v16 J17 J18
set_option maxRecDepth 100000 in
set_option maxHeartbeats 4000000 in
theorem vX4_highestAmbiguity_11 {Z : am_Z} {X : am_X} (R : am_R) (a0 : Nat) (a1 : Nat) (r1 : Int32) (r2 : am_I) (h40 : am_G Z a0 = some (.inl 4)) (h41 : am_G Z a1 = some (.inl 0)) (j3 : am_L → Option (Int64 × am_I × am_L)) (hj3 : ∀ (J4 : am_L), am_V Z X kX4_highestAmbiguity (fun r : Int64 × am_I × am_L => (some (.long r.1), R, r.2.1, r.2.2)) 47 [(0, .ref (am_B Z + a0)), (1, .ref (am_B Z + a1)), (2, .int r1)] [] R r2 J4 (j3 J4)) (ih44 : Int32 → am_L → Option (Int64 × am_I × am_L)) (hih44 : ∀ (v42 : Int32) (J43 : am_L), am_V Z X kX4_highestAmbiguity (fun r : Int64 × am_I × am_L => (some (.long r.1), R, r.2.1, r.2.2)) 11 [(0, .ref (am_B Z + a0)), (1, .ref (am_B Z + a1)), (2, .int r1), (3, .int v42)] [] R r2 J43 (ih44 v42 J43)) (v42 : Int32) (J43 : am_L) : am_V Z X kX4_highestAmbiguity (fun r : Int64 × am_I × am_L => (some (.long r.1), R, r.2.1, r.2.2)) 11 [(0, .ref (am_B Z + a0)), (1, .ref (am_B Z + a1)), (2, .int r1), (3, .int v42)] [] R r2 J43 (sX4_highestAmbiguity_11 R a0 a1 r1 r2 j3 ih44 v42 J43) := by
  unfold sX4_highestAmbiguity_11
  refine am_iload_n dX4_highestAmbiguity_11 rfl 3 rfl ?_
  refine am_bipush (v := 6) dX4_highestAmbiguity_12 (by decide) ?_
  refine am_icmp_ge (tgt := 47) dX4_highestAmbiguity_14 rfl (fun e45 => ?_) (fun e45 => ?_)
  · refine am_sub (ls' := [(0, .ref (am_B Z + a0)), (1, .ref (am_B Z + a1)), (2, .int r1)]) [0, 1, 2] rfl ?_
    exact hj3 J43
  · refine am_aload_n dX4_highestAmbiguity_17 rfl 0 rfl ?_
    refine am_getR 4 1 clX4 (Nat.le_of_ble_eq_true rfl) h40 iX4_highestAmbiguity_4 fX4_highestAmbiguity_15 rfl rfl dX4_highestAmbiguity_18 (fun h46 => ?_)
    refine am_iload_n dX4_highestAmbiguity_21 rfl 3 rfl ?_
    refine am_aload_n dX4_highestAmbiguity_22 rfl 1 rfl ?_
    refine am_get 0 1 clX0 (Nat.le_of_ble_eq_true rfl) h41 iX4_highestAmbiguity_0 fX4_highestAmbiguity_34 rfl dX4_highestAmbiguity_23 ?_
    refine am_iload_n dX4_highestAmbiguity_26 rfl 2 rfl ?_
    refine am_iand dX4_highestAmbiguity_27 ?_
    refine am_iload_n dX4_highestAmbiguity_28 rfl 3 rfl ?_
    refine am_callN (host := RX10) [.int ((r2 a1 1) &&& r1), .int v42] (tX10_contains R r2 J43 ((r2 a1 1) &&& r1) v42) gX4_highestAmbiguity_X10_contains_n38 (by decide +kernel) (by decide +kernel) (by decide +kernel) hX10_contains ⟨Nat.le_of_ble_eq_true rfl, Nat.le_of_ble_eq_true rfl⟩ rfl rfl (Nat.le_of_ble_eq_true rfl) dX4_highestAmbiguity_29 (fun r47 => ?_)
    show am_V Z X kX4_highestAmbiguity (fun r : Int64 × am_I × am_L => (some (.long r.1), R, r.2.1, r.2.2)) 32 [(0, .ref (am_B Z + a0)), (1, .ref (am_B Z + a1)), (2, .int r1), (3, .int v42)] [.int r47, .int v42, .ref (am_B Z + (R a0 1))] R r2 J43 _
    refine am_letJ (fun k49 ek49 => ?_)
    have hk49 : ∀ v48 : Int64, am_V Z X kX4_highestAmbiguity (fun r : Int64 × am_I × am_L => (some (.long r.1), R, r.2.1, r.2.2)) 40 [(0, .ref (am_B Z + a0)), (1, .ref (am_B Z + a1)), (2, .int r1), (3, .int v42)] [.long v48, .int v42, .ref (am_B Z + (R a0 1))] R r2 J43 (k49 v48) := by
      subst ek49
      intro v48
      show am_V Z X kX4_highestAmbiguity (fun r : Int64 × am_I × am_L => (some (.long r.1), R, r.2.1, r.2.2)) 40 [(0, .ref (am_B Z + a0)), (1, .ref (am_B Z + a1)), (2, .int r1), (3, .int v42)] [.long v48, .int v42, .ref (am_B Z + (R a0 1))] R r2 J43 _
      refine am_last h46 dX4_highestAmbiguity_40 ?_
      refine am_letL (fun J50 => ?_)
      refine am_iinc (j := 3) (ls' := [(3, .int (v42 + (1 : Int32))), (0, .ref (am_B Z + a0)), (1, .ref (am_B Z + a1)), (2, .int r1)]) dX4_highestAmbiguity_41 rfl rfl (Nat.le_of_ble_eq_true rfl) rfl ?_
      refine am_goto (tgt := 11) dX4_highestAmbiguity_44 rfl ?_
      refine am_sub (ls' := [(0, .ref (am_B Z + a0)), (1, .ref (am_B Z + a1)), (2, .int r1), (3, .int (v42 + (1 : Int32)))]) [1, 2, 3, 0] rfl ?_
      exact hih44 (v42 + (1 : Int32)) J50
    refine am_if_eqL (tgt := 39) dX4_highestAmbiguity_32 rfl (fun e51 => ?_) (fun e51 => ?_)
    · refine am_lconst (v := 0) dX4_highestAmbiguity_39 (by decide) ?_
      exact hk49 _
    · refine am_lconst (v := 1) dX4_highestAmbiguity_35 (by decide) ?_
      refine am_goto (tgt := 40) dX4_highestAmbiguity_36 rfl ?_
      exact hk49 _
theorem uX4_highestAmbiguity_11 {Z : am_Z} {X : am_X} (R : am_R) (a0 : Nat) (a1 : Nat) (r1 : Int32) (r2 : am_I) (h40 : am_G Z a0 = some (.inl 4)) (h41 : am_G Z a1 = some (.inl 0)) (j3 : am_L → Option (Int64 × am_I × am_L)) (hj3 : ∀ (J4 : am_L), am_V Z X kX4_highestAmbiguity (fun r : Int64 × am_I × am_L => (some (.long r.1), R, r.2.1, r.2.2)) 47 [(0, .ref (am_B Z + a0)), (1, .ref (am_B Z + a1)), (2, .int r1)] [] R r2 J4 (j3 J4)) : ∀ (n : Nat) (v42 : Int32) (J43 : am_L), am_V Z X kX4_highestAmbiguity (fun r : Int64 × am_I × am_L => (some (.long r.1), R, r.2.1, r.2.2)) 11 [(0, .ref (am_B Z + a0)), (1, .ref (am_B Z + a1)), (2, .int r1), (3, .int v42)] [] R r2 J43 (lX4_highestAmbiguity_11 R a0 a1 r1 r2 j3 n v42 J43) := by
  intro n
  induction n with
  | zero => intro _ _; exact am_none
  | succ n ih => exact fun v42 J43 => vX4_highestAmbiguity_11 R a0 a1 r1 r2 h40 h41 j3 hj3 (lX4_highestAmbiguity_11 R a0 a1 r1 r2 j3 n) ih v42 J43
set_option maxRecDepth 100000 in
set_option maxHeartbeats 4000000 in
theorem tX4_highestAmbiguity {Z : am_Z} (R : am_R) (I : am_I) (L : am_L) (a0 : Nat) (a1 : Nat) (h_a0 : am_G Z a0 = some (.inl 4)) (h_a1 : am_G Z a1 = some (.inl 0)) : am_M Z yX4_highestAmbiguity kX4_highestAmbiguity [.ref (am_B Z + a0), .ref (am_B Z + a1)] R I L (pX4_highestAmbiguity R I L a0 a1) (fun r : Int64 × am_I × am_L => (some (.long r.1), R, r.2.1, r.2.2)) := by
  refine am_entry (ls := [(0, .ref (am_B Z + a0)), (1, .ref (am_B Z + a1))]) (by decide) hX4_highestAmbiguity rfl (Nat.le_of_ble_eq_true rfl) rfl (fun X => ?_)
  unfold pX4_highestAmbiguity
  refine am_aload_n dX4_highestAmbiguity_0 rfl 1 rfl ?_
  refine am_callV [] (tX0_usefulSet R I L a1 h_a1) h_a1 clX0 gX4_highestAmbiguity_X0_usefulSet hX0_usefulSet rfl ⟨Nat.le_of_ble_eq_true rfl, Nat.le_of_ble_eq_true rfl⟩ rfl rfl (Nat.le_of_ble_eq_true rfl) dX4_highestAmbiguity_1 (fun r1 => ?_)
  show am_V Z X kX4_highestAmbiguity (fun r : Int64 × am_I × am_L => (some (.long r.1), R, r.2.1, r.2.2)) 4 [(0, .ref (am_B Z + a0)), (1, .ref (am_B Z + a1))] [.int r1] R I L _
  refine am_istore_n (ls' := [(2, .int r1), (0, .ref (am_B Z + a0)), (1, .ref (am_B Z + a1))]) dX4_highestAmbiguity_4 rfl (Nat.le_of_ble_eq_true rfl) rfl ?_
  refine am_aload_n dX4_highestAmbiguity_5 rfl 1 rfl ?_
  refine am_callV [] (tX4_makeEmpty R I L a0 h_a0) h_a0 clX4 gX4_highestAmbiguity_X4_makeEmpty hX4_makeEmpty rfl ⟨Nat.le_of_ble_eq_true rfl, Nat.le_of_ble_eq_true rfl⟩ rfl rfl (Nat.le_of_ble_eq_true rfl) dX4_highestAmbiguity_6 (fun r2 => ?_)
  show am_V Z X kX4_highestAmbiguity (fun r : Int64 × am_I × am_L => (some (.long r.1), R, r.2.1, r.2.2)) 9 [(2, .int r1), (0, .ref (am_B Z + a0)), (1, .ref (am_B Z + a1))] [] R r2 L _
  refine am_iconst (v := 0) dX4_highestAmbiguity_9 (by decide) ?_
  refine am_istore_n (ls' := [(3, .int (0 : Int32)), (2, .int r1), (0, .ref (am_B Z + a0)), (1, .ref (am_B Z + a1))]) dX4_highestAmbiguity_10 rfl (Nat.le_of_ble_eq_true rfl) rfl ?_
  refine am_jnV (fun j3 ej3 => ?_)
  have hj3 : ∀ (J4 : am_L), am_V Z X kX4_highestAmbiguity (fun r : Int64 × am_I × am_L => (some (.long r.1), R, r.2.1, r.2.2)) 47 [(0, .ref (am_B Z + a0)), (1, .ref (am_B Z + a1)), (2, .int r1)] [] R r2 J4 (j3 J4) := by
    subst ej3
    intro J4
    show am_V Z X kX4_highestAmbiguity (fun r : Int64 × am_I × am_L => (some (.long r.1), R, r.2.1, r.2.2)) 47 [(0, .ref (am_B Z + a0)), (1, .ref (am_B Z + a1)), (2, .int r1)] [] R r2 J4 _
    refine am_aload_n dX4_highestAmbiguity_47 rfl 0 rfl ?_
    refine am_callV [] (tX4_keepFresh R r2 J4 a0 h_a0) h_a0 clX4 gX4_highestAmbiguity_X4_keepFresh hX4_keepFresh rfl ⟨Nat.le_of_ble_eq_true rfl, Nat.le_of_ble_eq_true rfl⟩ rfl rfl (Nat.le_of_ble_eq_true rfl) dX4_highestAmbiguity_48 (fun r5 => ?_)
    show am_V Z X kX4_highestAmbiguity (fun r : Int64 × am_I × am_L => (some (.long r.1), R, r.2.1, r.2.2)) 51 [(0, .ref (am_B Z + a0)), (1, .ref (am_B Z + a1)), (2, .int r1)] [.int r5.1] R r5.2.1 r5.2.2 _
    refine am_istore_n (ls' := [(3, .int r5.1), (0, .ref (am_B Z + a0)), (1, .ref (am_B Z + a1)), (2, .int r1)]) dX4_highestAmbiguity_51 rfl (Nat.le_of_ble_eq_true rfl) rfl ?_
    refine am_lconst (v := 0) dX4_highestAmbiguity_52 (by decide) ?_
    refine am_lstore (ls' := [(4, .long (0 : Int64)), (3, .int r5.1), (0, .ref (am_B Z + a0)), (1, .ref (am_B Z + a1)), (2, .int r1)]) dX4_highestAmbiguity_53 (Nat.le_of_ble_eq_true rfl) rfl ?_
    refine am_iconst (v := 0) dX4_highestAmbiguity_55 (by decide) ?_
    refine am_istore (ls' := [(6, .int (0 : Int32)), (4, .long (0 : Int64)), (3, .int r5.1), (0, .ref (am_B Z + a0)), (1, .ref (am_B Z + a1)), (2, .int r1)]) dX4_highestAmbiguity_56 (Nat.le_of_ble_eq_true rfl) rfl ?_
    refine am_jnV (fun j6 ej6 => ?_)
    have hj6 : ∀ (v7 : Int32) (v8 : Int64) (J9 : am_I) (J10 : am_L), am_V Z X kX4_highestAmbiguity (fun r : Int64 × am_I × am_L => (some (.long r.1), R, r.2.1, r.2.2)) 136 [(3, .int v7), (4, .long v8)] [] R J9 J10 (j6 v7 v8 J9 J10) := by
      subst ej6
      intro v7 v8 J9 J10
      show am_V Z X kX4_highestAmbiguity (fun r : Int64 × am_I × am_L => (some (.long r.1), R, r.2.1, r.2.2)) 136 [(3, .int v7), (4, .long v8)] [] R J9 J10 _
      refine am_iload_n dX4_highestAmbiguity_136 rfl 0 rfl ?_
      refine am_if_eq (tgt := 145) dX4_highestAmbiguity_137 rfl (fun e11 => ?_) (fun e11 => ?_)
      · refine am_ldc2 (v := -5) dX4_highestAmbiguity_145 (by decide +kernel) ?_
        exact am_lret dX4_highestAmbiguity_148 rfl rfl
      · refine am_lload dX4_highestAmbiguity_140 1 rfl ?_
        refine am_goto (tgt := 148) dX4_highestAmbiguity_142 rfl ?_
        exact am_lret dX4_highestAmbiguity_148 rfl rfl
    refine am_sub (ls' := [(0, .ref (am_B Z + a0)), (1, .ref (am_B Z + a1)), (2, .int r1), (3, .int r5.1), (4, .long (0 : Int64)), (6, .int (0 : Int32))]) [3, 4, 5, 2, 1, 0] rfl ?_
    exact uX4_highestAmbiguity_58 R a0 a1 r1 h_a0 h_a1 j6 hj6 am_fu r5.1 (0 : Int64) (0 : Int32) r5.2.1 r5.2.2
  refine am_sub (ls' := [(0, .ref (am_B Z + a0)), (1, .ref (am_B Z + a1)), (2, .int r1), (3, .int (0 : Int32))]) [2, 3, 1, 0] rfl ?_
  exact uX4_highestAmbiguity_11 R a0 a1 r1 r2 h_a0 h_a1 j3 hj3 am_fu (0 : Int32) L
abbrev kX5_hasPosition : am_K := (cX5_hasPosition, 2, RX5, wsX5_hasPosition, some .boolean, { frames := 0, cells := 0, slots := 0, locals := 0 })
theorem hX5_hasPosition : am_cl yX5_hasPosition kX5_hasPosition 1 := ⟨⟨_, rfl⟩, rfl, rfl, by decide +kernel, by decide +kernel, by decide +kernel⟩
theorem iX5_hasPosition_5 : ∀ w ∈ u_ws RX5 TX5 3, w ∈ wsX5_hasPosition := by decide +kernel
theorem fX5_hasPosition_19 : Cond.fieldLink RX5 19 "AmbiguityAnalyzer$Shelf" "length" "I" ∈ wsX5_hasPosition := by decide +kernel
theorem fX5_hasPosition_15 : Cond.fieldLink RX5 15 "AmbiguityAnalyzer$Shelf" "elements" "[J" ∈ wsX5_hasPosition := by decide +kernel
set_option maxRecDepth 100000 in
set_option maxHeartbeats 4000000 in
theorem tX5_hasPosition {Z : am_Z} (R : am_R) (I : am_I) (L : am_L) (a0 : Nat) (x1 : Int32) (h_a0 : am_G Z a0 = some (.inl 5)) : am_M Z yX5_hasPosition kX5_hasPosition [.ref (am_B Z + a0), .int x1] R I L (pX5_hasPosition R I a0 x1) (fun r : Int32 => (some (.int r), R, I, L)) := by
  refine am_entry (ls := [(0, .ref (am_B Z + a0)), (1, .int x1)]) (by decide) hX5_hasPosition rfl (Nat.le_of_ble_eq_true rfl) rfl (fun X => ?_)
  unfold pX5_hasPosition
  refine am_iload_n dX5_hasPosition_0 rfl 1 rfl ?_
  refine am_if_lt (tgt := 25) dX5_hasPosition_1 rfl (fun e1 => ?_) (fun e1 => ?_)
  · refine am_iconst (v := 0) dX5_hasPosition_25 (by decide) ?_
    exact am_zret (by decide) dX5_hasPosition_26 rfl rfl
  · refine am_iload_n dX5_hasPosition_4 rfl 1 rfl ?_
    refine am_aload_n dX5_hasPosition_5 rfl 0 rfl ?_
    refine am_get 5 1 clX5 (Nat.le_of_ble_eq_true rfl) h_a0 iX5_hasPosition_5 fX5_hasPosition_19 rfl dX5_hasPosition_6 ?_
    refine am_icmp_ge (tgt := 25) dX5_hasPosition_9 rfl (fun e2 => ?_) (fun e2 => ?_)
    · refine am_iconst (v := 0) dX5_hasPosition_25 (by decide) ?_
      exact am_zret (by decide) dX5_hasPosition_26 rfl rfl
    · refine am_iload_n dX5_hasPosition_12 rfl 1 rfl ?_
      refine am_aload_n dX5_hasPosition_13 rfl 0 rfl ?_
      refine am_getR 5 2 clX5 (Nat.le_of_ble_eq_true rfl) h_a0 iX5_hasPosition_5 fX5_hasPosition_15 rfl rfl dX5_hasPosition_14 (fun h3 => ?_)
      refine am_alen (t := 1) (v := 31) rfl h3 (by decide) dX5_hasPosition_17 ?_
      refine am_icmp_ge (tgt := 25) dX5_hasPosition_18 rfl (fun e4 => ?_) (fun e4 => ?_)
      · refine am_iconst (v := 0) dX5_hasPosition_25 (by decide) ?_
        exact am_zret (by decide) dX5_hasPosition_26 rfl rfl
      · refine am_iconst (v := 1) dX5_hasPosition_21 (by decide) ?_
        refine am_goto (tgt := 26) dX5_hasPosition_22 rfl ?_
        exact am_zret (by decide) dX5_hasPosition_26 rfl rfl
abbrev kX5_elementAt : am_K := (cX5_elementAt, 2, RX5, wsX5_elementAt, some .long, { frames := 1, cells := 0, slots := 0, locals := 21 })
theorem hX5_elementAt : am_cl yX5_elementAt kX5_elementAt 1 := ⟨⟨_, rfl⟩, rfl, rfl, by decide +kernel, by decide +kernel, by decide +kernel⟩
theorem iX5_elementAt_5 : ∀ w ∈ u_ws RX5 TX5 3, w ∈ wsX5_elementAt := by decide +kernel
theorem fX5_elementAt_15 : Cond.fieldLink RX5 15 "AmbiguityAnalyzer$Shelf" "elements" "[J" ∈ wsX5_elementAt := by decide +kernel
set_option maxRecDepth 100000 in
set_option maxHeartbeats 4000000 in
theorem tX5_elementAt {Z : am_Z} (R : am_R) (I : am_I) (L : am_L) (a0 : Nat) (x1 : Int32) (h_a0 : am_G Z a0 = some (.inl 5)) : am_M Z yX5_elementAt kX5_elementAt [.ref (am_B Z + a0), .int x1] R I L (pX5_elementAt R I L a0 x1) (fun r : Int64 => (some (.long r), R, I, L)) := by
  refine am_entry (ls := [(0, .ref (am_B Z + a0)), (1, .int x1)]) (by decide) hX5_elementAt rfl (Nat.le_of_ble_eq_true rfl) rfl (fun X => ?_)
  unfold pX5_elementAt
  refine am_aload_n dX5_elementAt_0 rfl 0 rfl ?_
  refine am_iload_n dX5_elementAt_1 rfl 1 rfl ?_
  refine am_callV [.int x1] (tX5_hasPosition R I L a0 x1 h_a0) h_a0 clX5 gX5_elementAt_X5_hasPosition hX5_hasPosition rfl ⟨Nat.le_of_ble_eq_true rfl, Nat.le_of_ble_eq_true rfl⟩ rfl rfl (Nat.le_of_ble_eq_true rfl) dX5_elementAt_2 (fun r1 => ?_)
  show am_V Z X kX5_elementAt (fun r : Int64 => (some (.long r), R, I, L)) 5 [(0, .ref (am_B Z + a0)), (1, .int x1)] [.int r1] R I L _
  refine am_if_eq (tgt := 17) dX5_elementAt_5 rfl (fun e2 => ?_) (fun e2 => ?_)
  · refine am_lconst (v := 0) dX5_elementAt_17 (by decide) ?_
    exact am_lret dX5_elementAt_18 rfl rfl
  · refine am_aload_n dX5_elementAt_8 rfl 0 rfl ?_
    refine am_getR 5 2 clX5 (Nat.le_of_ble_eq_true rfl) h_a0 iX5_elementAt_5 fX5_elementAt_15 rfl rfl dX5_elementAt_9 (fun h3 => ?_)
    refine am_iload_n dX5_elementAt_12 rfl 1 rfl ?_
    refine am_lald h3 dX5_elementAt_13 ?_
    refine am_goto (tgt := 18) dX5_elementAt_14 rfl ?_
    exact am_lret dX5_elementAt_18 rfl rfl
abbrev kX5_putWord : am_K := (cX5_putWord, 3, RX5, wsX5_putWord, none, { frames := 2, cells := 0, slots := 0, locals := 42 })
theorem hX5_putWord : am_cl yX5_putWord kX5_putWord 1 := ⟨⟨_, rfl⟩, rfl, rfl, by decide +kernel, by decide +kernel, by decide +kernel⟩
theorem iX5_putWord_5 : ∀ w ∈ u_ws RX5 TX5 3, w ∈ wsX5_putWord := by decide +kernel
theorem fX5_putWord_11 : Cond.fieldLink RX5 11 "AmbiguityAnalyzer$Shelf" "content" "I" ∈ wsX5_putWord := by decide +kernel
theorem iX5_putWord_8 : ∀ w ∈ u_ws RX8 TX8 2, w ∈ wsX5_putWord := by decide +kernel
theorem fX5_putWord_26 : Cond.fieldLink RX5 26 "AmbiguityAnalyzer$Word" "length" "I" ∈ wsX5_putWord := by decide +kernel
theorem fX5_putWord_19 : Cond.fieldLink RX5 19 "AmbiguityAnalyzer$Shelf" "length" "I" ∈ wsX5_putWord := by decide +kernel
theorem fX5_putWord_15 : Cond.fieldLink RX5 15 "AmbiguityAnalyzer$Shelf" "elements" "[J" ∈ wsX5_putWord := by decide +kernel
set_option maxRecDepth 100000 in
set_option maxHeartbeats 4000000 in
theorem vX5_putWord_15 {Z : am_Z} {X : am_X} (R : am_R) (a0 : Nat) (a1 : Nat) (J2 : am_I) (h3 : am_G Z a0 = some (.inl 5)) (h4 : am_G Z a1 = some (.inl 8)) (ih7 : Int32 → am_L → Option (am_I × am_L)) (hih7 : ∀ (v5 : Int32) (J6 : am_L), am_V Z X kX5_putWord (fun r : am_I × am_L => (none, R, r.1, r.2)) 15 [(0, .ref (am_B Z + a0)), (1, .ref (am_B Z + a1)), (2, .int v5)] [] R J2 J6 (ih7 v5 J6)) (v5 : Int32) (J6 : am_L) : am_V Z X kX5_putWord (fun r : am_I × am_L => (none, R, r.1, r.2)) 15 [(0, .ref (am_B Z + a0)), (1, .ref (am_B Z + a1)), (2, .int v5)] [] R J2 J6 (sX5_putWord_15 R a0 a1 J2 ih7 v5 J6) := by
  unfold sX5_putWord_15
  refine am_iload_n dX5_putWord_15 rfl 2 rfl ?_
  refine am_aload_n dX5_putWord_16 rfl 0 rfl ?_
  refine am_get 5 1 clX5 (Nat.le_of_ble_eq_true rfl) h3 iX5_putWord_5 fX5_putWord_19 rfl dX5_putWord_17 ?_
  refine am_icmp_ge (tgt := 50) dX5_putWord_20 rfl (fun e8 => ?_) (fun e8 => ?_)
  · exact am_vret dX5_putWord_50 rfl rfl
  · refine am_iload_n dX5_putWord_23 rfl 2 rfl ?_
    refine am_aload_n dX5_putWord_24 rfl 0 rfl ?_
    refine am_getR 5 2 clX5 (Nat.le_of_ble_eq_true rfl) h3 iX5_putWord_5 fX5_putWord_15 rfl rfl dX5_putWord_25 (fun h9 => ?_)
    refine am_alen (t := 1) (v := 31) rfl h9 (by decide) dX5_putWord_28 ?_
    refine am_icmp_ge (tgt := 50) dX5_putWord_29 rfl (fun e10 => ?_) (fun e10 => ?_)
    · exact am_vret dX5_putWord_50 rfl rfl
    · refine am_aload_n dX5_putWord_32 rfl 0 rfl ?_
      refine am_getR 5 2 clX5 (Nat.le_of_ble_eq_true rfl) h3 iX5_putWord_5 fX5_putWord_15 rfl rfl dX5_putWord_33 (fun h11 => ?_)
      refine am_iload_n dX5_putWord_36 rfl 2 rfl ?_
      refine am_aload_n dX5_putWord_37 rfl 1 rfl ?_
      refine am_iload_n dX5_putWord_38 rfl 2 rfl ?_
      refine am_callV [.int v5] (tX8_letterAt R J2 J6 a1 v5 h4) h4 clX8 gX5_putWord_X8_letterAt hX8_letterAt rfl ⟨Nat.le_of_ble_eq_true rfl, Nat.le_of_ble_eq_true rfl⟩ rfl rfl (Nat.le_of_ble_eq_true rfl) dX5_putWord_39 (fun r12 => ?_)
      show am_V Z X kX5_putWord (fun r : am_I × am_L => (none, R, r.1, r.2)) 42 [(0, .ref (am_B Z + a0)), (1, .ref (am_B Z + a1)), (2, .int v5)] [.int r12, .int v5, .ref (am_B Z + (R a0 2))] R J2 J6 _
      refine am_i2l dX5_putWord_42 ?_
      refine am_last h11 dX5_putWord_43 ?_
      refine am_letL (fun J13 => ?_)
      refine am_iinc (j := 2) (ls' := [(2, .int (v5 + (1 : Int32))), (0, .ref (am_B Z + a0)), (1, .ref (am_B Z + a1))]) dX5_putWord_44 rfl rfl (Nat.le_of_ble_eq_true rfl) rfl ?_
      refine am_goto (tgt := 15) dX5_putWord_47 rfl ?_
      refine am_sub (ls' := [(0, .ref (am_B Z + a0)), (1, .ref (am_B Z + a1)), (2, .int (v5 + (1 : Int32)))]) [1, 2, 0] rfl ?_
      exact hih7 (v5 + (1 : Int32)) J13
theorem uX5_putWord_15 {Z : am_Z} {X : am_X} (R : am_R) (a0 : Nat) (a1 : Nat) (J2 : am_I) (h3 : am_G Z a0 = some (.inl 5)) (h4 : am_G Z a1 = some (.inl 8)) : ∀ (n : Nat) (v5 : Int32) (J6 : am_L), am_V Z X kX5_putWord (fun r : am_I × am_L => (none, R, r.1, r.2)) 15 [(0, .ref (am_B Z + a0)), (1, .ref (am_B Z + a1)), (2, .int v5)] [] R J2 J6 (lX5_putWord_15 R a0 a1 J2 n v5 J6) := by
  intro n
  induction n with
  | zero => intro _ _; exact am_none
  | succ n ih => exact fun v5 J6 => vX5_putWord_15 R a0 a1 J2 h3 h4 (lX5_putWord_15 R a0 a1 J2 n) ih v5 J6
set_option maxRecDepth 100000 in
set_option maxHeartbeats 4000000 in
theorem tX5_putWord {Z : am_Z} (R : am_R) (I : am_I) (L : am_L) (a0 : Nat) (a1 : Nat) (h_a0 : am_G Z a0 = some (.inl 5)) (h_a1 : am_G Z a1 = some (.inl 8)) : am_M Z yX5_putWord kX5_putWord [.ref (am_B Z + a0), .ref (am_B Z + a1)] R I L (pX5_putWord R I L a0 a1) (fun r : am_I × am_L => (none, R, r.1, r.2)) := by
  refine am_entry (ls := [(0, .ref (am_B Z + a0)), (1, .ref (am_B Z + a1))]) (by decide) hX5_putWord rfl (Nat.le_of_ble_eq_true rfl) rfl (fun X => ?_)
  unfold pX5_putWord
  refine am_aload_n dX5_putWord_0 rfl 0 rfl ?_
  refine am_iconst (v := 1) dX5_putWord_1 (by decide) ?_
  refine am_putI 5 0 clX5 (Nat.le_of_ble_eq_true rfl) h_a0 iX5_putWord_5 fX5_putWord_11 rfl rfl dX5_putWord_2 ?_
  refine am_letI (fun J1 => ?_)
  refine am_aload_n dX5_putWord_5 rfl 0 rfl ?_
  refine am_aload_n dX5_putWord_6 rfl 1 rfl ?_
  refine am_get 8 0 clX8 (Nat.le_of_ble_eq_true rfl) h_a1 iX5_putWord_8 fX5_putWord_26 rfl dX5_putWord_7 ?_
  refine am_putI 5 1 clX5 (Nat.le_of_ble_eq_true rfl) h_a0 iX5_putWord_5 fX5_putWord_19 rfl rfl dX5_putWord_10 ?_
  refine am_letI (fun J2 => ?_)
  refine am_iconst (v := 0) dX5_putWord_13 (by decide) ?_
  refine am_istore_n (ls' := [(2, .int (0 : Int32)), (0, .ref (am_B Z + a0)), (1, .ref (am_B Z + a1))]) dX5_putWord_14 rfl (Nat.le_of_ble_eq_true rfl) rfl ?_
  refine am_sub (ls' := [(0, .ref (am_B Z + a0)), (1, .ref (am_B Z + a1)), (2, .int (0 : Int32))]) [1, 2, 0] rfl ?_
  exact uX5_putWord_15 R a0 a1 J2 h_a0 h_a1 am_fu (0 : Int32) L
abbrev kX5_putCounts : am_K := (cX5_putCounts, 4, RX5, wsX5_putCounts, none, { frames := 0, cells := 0, slots := 0, locals := 0 })
theorem hX5_putCounts : am_cl yX5_putCounts kX5_putCounts 2 := ⟨⟨_, rfl⟩, rfl, rfl, by decide +kernel, by decide +kernel, by decide +kernel⟩
theorem iX5_putCounts_5 : ∀ w ∈ u_ws RX5 TX5 3, w ∈ wsX5_putCounts := by decide +kernel
theorem fX5_putCounts_11 : Cond.fieldLink RX5 11 "AmbiguityAnalyzer$Shelf" "content" "I" ∈ wsX5_putCounts := by decide +kernel
theorem fX5_putCounts_19 : Cond.fieldLink RX5 19 "AmbiguityAnalyzer$Shelf" "length" "I" ∈ wsX5_putCounts := by decide +kernel
theorem fX5_putCounts_15 : Cond.fieldLink RX5 15 "AmbiguityAnalyzer$Shelf" "elements" "[J" ∈ wsX5_putCounts := by decide +kernel
set_option maxRecDepth 100000 in
set_option maxHeartbeats 4000000 in
theorem vX5_putCounts_12 {Z : am_Z} {X : am_X} (R : am_R) (a0 : Nat) (a1 : Nat) (J2 : am_I) (h3 : am_G Z a0 = some (.inl 5)) (h4 : am_G Z a1 = some (.inr (1, 31))) (ih7 : Int32 → am_L → Option (am_I × am_L)) (hih7 : ∀ (v5 : Int32) (J6 : am_L), am_V Z X kX5_putCounts (fun r : am_I × am_L => (none, R, r.1, r.2)) 12 [(0, .ref (am_B Z + a0)), (1, .ref (am_B Z + a1)), (3, .int v5)] [] R J2 J6 (ih7 v5 J6)) (v5 : Int32) (J6 : am_L) : am_V Z X kX5_putCounts (fun r : am_I × am_L => (none, R, r.1, r.2)) 12 [(0, .ref (am_B Z + a0)), (1, .ref (am_B Z + a1)), (3, .int v5)] [] R J2 J6 (sX5_putCounts_12 R a0 a1 J2 ih7 v5 J6) := by
  unfold sX5_putCounts_12
  refine am_iload_n dX5_putCounts_12 rfl 2 rfl ?_
  refine am_aload_n dX5_putCounts_13 rfl 0 rfl ?_
  refine am_get 5 1 clX5 (Nat.le_of_ble_eq_true rfl) h3 iX5_putCounts_5 fX5_putCounts_19 rfl dX5_putCounts_14 ?_
  refine am_icmp_ge (tgt := 50) dX5_putCounts_17 rfl (fun e8 => ?_) (fun e8 => ?_)
  · exact am_vret dX5_putCounts_50 rfl rfl
  · refine am_iload_n dX5_putCounts_20 rfl 2 rfl ?_
    refine am_aload_n dX5_putCounts_21 rfl 0 rfl ?_
    refine am_getR 5 2 clX5 (Nat.le_of_ble_eq_true rfl) h3 iX5_putCounts_5 fX5_putCounts_15 rfl rfl dX5_putCounts_22 (fun h9 => ?_)
    refine am_alen (t := 1) (v := 31) rfl h9 (by decide) dX5_putCounts_25 ?_
    refine am_icmp_ge (tgt := 50) dX5_putCounts_26 rfl (fun e10 => ?_) (fun e10 => ?_)
    · exact am_vret dX5_putCounts_50 rfl rfl
    · refine am_iload_n dX5_putCounts_29 rfl 2 rfl ?_
      refine am_aload_n dX5_putCounts_30 rfl 1 rfl ?_
      refine am_alen (t := 1) (v := 31) rfl h4 (by decide) dX5_putCounts_31 ?_
      refine am_icmp_ge (tgt := 50) dX5_putCounts_32 rfl (fun e11 => ?_) (fun e11 => ?_)
      · exact am_vret dX5_putCounts_50 rfl rfl
      · refine am_aload_n dX5_putCounts_35 rfl 0 rfl ?_
        refine am_getR 5 2 clX5 (Nat.le_of_ble_eq_true rfl) h3 iX5_putCounts_5 fX5_putCounts_15 rfl rfl dX5_putCounts_36 (fun h12 => ?_)
        refine am_iload_n dX5_putCounts_39 rfl 2 rfl ?_
        refine am_aload_n dX5_putCounts_40 rfl 1 rfl ?_
        refine am_iload_n dX5_putCounts_41 rfl 2 rfl ?_
        refine am_lald h4 dX5_putCounts_42 ?_
        refine am_last h12 dX5_putCounts_43 ?_
        refine am_letL (fun J13 => ?_)
        refine am_iinc (j := 2) (ls' := [(3, .int (v5 + (1 : Int32))), (0, .ref (am_B Z + a0)), (1, .ref (am_B Z + a1))]) dX5_putCounts_44 rfl rfl (Nat.le_of_ble_eq_true rfl) rfl ?_
        refine am_goto (tgt := 12) dX5_putCounts_47 rfl ?_
        refine am_sub (ls' := [(0, .ref (am_B Z + a0)), (1, .ref (am_B Z + a1)), (3, .int (v5 + (1 : Int32)))]) [1, 2, 0] rfl ?_
        exact hih7 (v5 + (1 : Int32)) J13
theorem uX5_putCounts_12 {Z : am_Z} {X : am_X} (R : am_R) (a0 : Nat) (a1 : Nat) (J2 : am_I) (h3 : am_G Z a0 = some (.inl 5)) (h4 : am_G Z a1 = some (.inr (1, 31))) : ∀ (n : Nat) (v5 : Int32) (J6 : am_L), am_V Z X kX5_putCounts (fun r : am_I × am_L => (none, R, r.1, r.2)) 12 [(0, .ref (am_B Z + a0)), (1, .ref (am_B Z + a1)), (3, .int v5)] [] R J2 J6 (lX5_putCounts_12 R a0 a1 J2 n v5 J6) := by
  intro n
  induction n with
  | zero => intro _ _; exact am_none
  | succ n ih => exact fun v5 J6 => vX5_putCounts_12 R a0 a1 J2 h3 h4 (lX5_putCounts_12 R a0 a1 J2 n) ih v5 J6
set_option maxRecDepth 100000 in
set_option maxHeartbeats 4000000 in
theorem tX5_putCounts {Z : am_Z} (R : am_R) (I : am_I) (L : am_L) (a0 : Nat) (a1 : Nat) (x2 : Int32) (h_a0 : am_G Z a0 = some (.inl 5)) (h_a1 : am_G Z a1 = some (.inr (1, 31))) : am_M Z yX5_putCounts kX5_putCounts [.ref (am_B Z + a0), .ref (am_B Z + a1), .int x2] R I L (pX5_putCounts R I L a0 a1 x2) (fun r : am_I × am_L => (none, R, r.1, r.2)) := by
  refine am_entry (ls := [(0, .ref (am_B Z + a0)), (1, .ref (am_B Z + a1)), (2, .int x2)]) (by decide) hX5_putCounts rfl (Nat.le_of_ble_eq_true rfl) rfl (fun X => ?_)
  unfold pX5_putCounts
  refine am_aload_n dX5_putCounts_0 rfl 0 rfl ?_
  refine am_iconst (v := 2) dX5_putCounts_1 (by decide) ?_
  refine am_putI 5 0 clX5 (Nat.le_of_ble_eq_true rfl) h_a0 iX5_putCounts_5 fX5_putCounts_11 rfl rfl dX5_putCounts_2 ?_
  refine am_letI (fun J1 => ?_)
  refine am_aload_n dX5_putCounts_5 rfl 0 rfl ?_
  refine am_iload_n dX5_putCounts_6 rfl 2 rfl ?_
  refine am_putI 5 1 clX5 (Nat.le_of_ble_eq_true rfl) h_a0 iX5_putCounts_5 fX5_putCounts_19 rfl rfl dX5_putCounts_7 ?_
  refine am_letI (fun J2 => ?_)
  refine am_iconst (v := 0) dX5_putCounts_10 (by decide) ?_
  refine am_istore_n (ls' := [(3, .int (0 : Int32)), (0, .ref (am_B Z + a0)), (1, .ref (am_B Z + a1)), (2, .int x2)]) dX5_putCounts_11 rfl (Nat.le_of_ble_eq_true rfl) rfl ?_
  refine am_sub (ls' := [(0, .ref (am_B Z + a0)), (1, .ref (am_B Z + a1)), (3, .int (0 : Int32))]) [1, 2, 0] rfl ?_
  exact uX5_putCounts_12 R a0 a1 J2 h_a0 h_a1 am_fu (0 : Int32) L
abbrev kX5_copyWordTo : am_K := (cX5_copyWordTo, 3, RX5, wsX5_copyWordTo, none, { frames := 3, cells := 0, slots := 0, locals := 64 })
theorem hX5_copyWordTo : am_cl yX5_copyWordTo kX5_copyWordTo 1 := ⟨⟨_, rfl⟩, rfl, rfl, by decide +kernel, by decide +kernel, by decide +kernel⟩
theorem iX5_copyWordTo_8 : ∀ w ∈ u_ws RX8 TX8 2, w ∈ wsX5_copyWordTo := by decide +kernel
theorem fX5_copyWordTo_26 : Cond.fieldLink RX5 26 "AmbiguityAnalyzer$Word" "length" "I" ∈ wsX5_copyWordTo := by decide +kernel
theorem iX5_copyWordTo_5 : ∀ w ∈ u_ws RX5 TX5 3, w ∈ wsX5_copyWordTo := by decide +kernel
theorem fX5_copyWordTo_19 : Cond.fieldLink RX5 19 "AmbiguityAnalyzer$Shelf" "length" "I" ∈ wsX5_copyWordTo := by decide +kernel
set_option maxRecDepth 100000 in
set_option maxHeartbeats 4000000 in
theorem vX5_copyWordTo_7 {Z : am_Z} {X : am_X} (R : am_R) (L : am_L) (a0 : Nat) (a1 : Nat) (h2 : am_G Z a0 = some (.inl 5)) (h3 : am_G Z a1 = some (.inl 8)) (ih6 : Int32 → am_I → Option (am_I)) (hih6 : ∀ (v4 : Int32) (J5 : am_I), am_V Z X kX5_copyWordTo (fun r : am_I => (none, R, r, L)) 7 [(0, .ref (am_B Z + a0)), (1, .ref (am_B Z + a1)), (2, .int v4)] [] R J5 L (ih6 v4 J5)) (v4 : Int32) (J5 : am_I) : am_V Z X kX5_copyWordTo (fun r : am_I => (none, R, r, L)) 7 [(0, .ref (am_B Z + a0)), (1, .ref (am_B Z + a1)), (2, .int v4)] [] R J5 L (sX5_copyWordTo_7 R L a0 a1 ih6 v4 J5) := by
  unfold sX5_copyWordTo_7
  refine am_iload_n dX5_copyWordTo_7 rfl 2 rfl ?_
  refine am_aload_n dX5_copyWordTo_8 rfl 0 rfl ?_
  refine am_get 5 1 clX5 (Nat.le_of_ble_eq_true rfl) h2 iX5_copyWordTo_5 fX5_copyWordTo_19 rfl dX5_copyWordTo_9 ?_
  refine am_icmp_ge (tgt := 31) dX5_copyWordTo_12 rfl (fun e7 => ?_) (fun e7 => ?_)
  · exact am_vret dX5_copyWordTo_31 rfl rfl
  · refine am_aload_n dX5_copyWordTo_15 rfl 1 rfl ?_
    refine am_aload_n dX5_copyWordTo_16 rfl 0 rfl ?_
    refine am_iload_n dX5_copyWordTo_17 rfl 2 rfl ?_
    refine am_callV [.int v4] (tX5_elementAt R J5 L a0 v4 h2) h2 clX5 gX5_copyWordTo_X5_elementAt hX5_elementAt rfl ⟨Nat.le_of_ble_eq_true rfl, Nat.le_of_ble_eq_true rfl⟩ rfl rfl (Nat.le_of_ble_eq_true rfl) dX5_copyWordTo_18 (fun r8 => ?_)
    show am_V Z X kX5_copyWordTo (fun r : am_I => (none, R, r, L)) 21 [(0, .ref (am_B Z + a0)), (1, .ref (am_B Z + a1)), (2, .int v4)] [.long r8, .ref (am_B Z + a1)] R J5 L _
    refine am_l2i dX5_copyWordTo_21 ?_
    refine am_callV [.int (Int64.toInt32 r8)] (tX8_add R J5 L a1 (Int64.toInt32 r8) h3) h3 clX8 gX5_copyWordTo_X8_add hX8_add rfl ⟨Nat.le_of_ble_eq_true rfl, Nat.le_of_ble_eq_true rfl⟩ rfl rfl (Nat.le_of_ble_eq_true rfl) dX5_copyWordTo_22 (fun r9 => ?_)
    show am_V Z X kX5_copyWordTo (fun r : am_I => (none, R, r, L)) 25 [(0, .ref (am_B Z + a0)), (1, .ref (am_B Z + a1)), (2, .int v4)] [] R r9 L _
    refine am_iinc (j := 2) (ls' := [(2, .int (v4 + (1 : Int32))), (0, .ref (am_B Z + a0)), (1, .ref (am_B Z + a1))]) dX5_copyWordTo_25 rfl rfl (Nat.le_of_ble_eq_true rfl) rfl ?_
    refine am_goto (tgt := 7) dX5_copyWordTo_28 rfl ?_
    refine am_sub (ls' := [(0, .ref (am_B Z + a0)), (1, .ref (am_B Z + a1)), (2, .int (v4 + (1 : Int32)))]) [1, 2, 0] rfl ?_
    exact hih6 (v4 + (1 : Int32)) r9
theorem uX5_copyWordTo_7 {Z : am_Z} {X : am_X} (R : am_R) (L : am_L) (a0 : Nat) (a1 : Nat) (h2 : am_G Z a0 = some (.inl 5)) (h3 : am_G Z a1 = some (.inl 8)) : ∀ (n : Nat) (v4 : Int32) (J5 : am_I), am_V Z X kX5_copyWordTo (fun r : am_I => (none, R, r, L)) 7 [(0, .ref (am_B Z + a0)), (1, .ref (am_B Z + a1)), (2, .int v4)] [] R J5 L (lX5_copyWordTo_7 R L a0 a1 n v4 J5) := by
  intro n
  induction n with
  | zero => intro _ _; exact am_none
  | succ n ih => exact fun v4 J5 => vX5_copyWordTo_7 R L a0 a1 h2 h3 (lX5_copyWordTo_7 R L a0 a1 n) ih v4 J5
set_option maxRecDepth 100000 in
set_option maxHeartbeats 4000000 in
theorem tX5_copyWordTo {Z : am_Z} (R : am_R) (I : am_I) (L : am_L) (a0 : Nat) (a1 : Nat) (h_a0 : am_G Z a0 = some (.inl 5)) (h_a1 : am_G Z a1 = some (.inl 8)) : am_M Z yX5_copyWordTo kX5_copyWordTo [.ref (am_B Z + a0), .ref (am_B Z + a1)] R I L (pX5_copyWordTo R I L a0 a1) (fun r : am_I => (none, R, r, L)) := by
  refine am_entry (ls := [(0, .ref (am_B Z + a0)), (1, .ref (am_B Z + a1))]) (by decide) hX5_copyWordTo rfl (Nat.le_of_ble_eq_true rfl) rfl (fun X => ?_)
  unfold pX5_copyWordTo
  refine am_aload_n dX5_copyWordTo_0 rfl 1 rfl ?_
  refine am_iconst (v := 0) dX5_copyWordTo_1 (by decide) ?_
  refine am_putI 8 0 clX8 (Nat.le_of_ble_eq_true rfl) h_a1 iX5_copyWordTo_8 fX5_copyWordTo_26 rfl rfl dX5_copyWordTo_2 ?_
  refine am_letI (fun J1 => ?_)
  refine am_iconst (v := 0) dX5_copyWordTo_5 (by decide) ?_
  refine am_istore_n (ls' := [(2, .int (0 : Int32)), (0, .ref (am_B Z + a0)), (1, .ref (am_B Z + a1))]) dX5_copyWordTo_6 rfl (Nat.le_of_ble_eq_true rfl) rfl ?_
  refine am_sub (ls' := [(0, .ref (am_B Z + a0)), (1, .ref (am_B Z + a1)), (2, .int (0 : Int32))]) [1, 2, 0] rfl ?_
  exact uX5_copyWordTo_7 R L a0 a1 h_a0 h_a1 am_fu (0 : Int32) J1
abbrev kX6_loadSetsUpTo : am_K := (cX6_loadSetsUpTo, 8, RX6, wsX6_loadSetsUpTo, none, { frames := 1, cells := 0, slots := 0, locals := 20 })
theorem hX6_loadSetsUpTo : am_cl yX6_loadSetsUpTo kX6_loadSetsUpTo 3 := ⟨⟨_, rfl⟩, rfl, rfl, by decide +kernel, by decide +kernel, by decide +kernel⟩
theorem iX6_loadSetsUpTo_6 : ∀ w ∈ u_ws RX6 TX6 2, w ∈ wsX6_loadSetsUpTo := by decide +kernel
theorem fX6_loadSetsUpTo_9 : Cond.fieldLink RX6 9 "AmbiguityAnalyzer$Steps" "once" "[I" ∈ wsX6_loadSetsUpTo := by decide +kernel
theorem fX6_loadSetsUpTo_15 : Cond.fieldLink RX6 15 "AmbiguityAnalyzer$Steps" "twice" "[I" ∈ wsX6_loadSetsUpTo := by decide +kernel
set_option maxRecDepth 100000 in
set_option maxHeartbeats 4000000 in
theorem vX6_loadSetsUpTo_26 {Z : am_Z} {X : am_X} (R : am_R) (L : am_L) (a0 : Nat) (x2 : Int32) (x3 : Int32) (v5 : Int32) (h6 : am_G Z a0 = some (.inl 6)) (ih9 : Int32 → am_I → Option (am_I)) (hih9 : ∀ (v7 : Int32) (J8 : am_I), am_V Z X kX6_loadSetsUpTo (fun r : am_I => (none, R, r, L)) 26 [(0, .ref (am_B Z + a0)), (2, .int x2), (3, .int x3), (4, .int v5), (5, .int v7)] [] R J8 L (ih9 v7 J8)) (v7 : Int32) (J8 : am_I) : am_V Z X kX6_loadSetsUpTo (fun r : am_I => (none, R, r, L)) 26 [(0, .ref (am_B Z + a0)), (2, .int x2), (3, .int x3), (4, .int v5), (5, .int v7)] [] R J8 L (sX6_loadSetsUpTo_26 R a0 x2 x3 v5 ih9 v7 J8) := by
  unfold sX6_loadSetsUpTo_26
  refine am_iload dX6_loadSetsUpTo_26 4 rfl ?_
  refine am_iload dX6_loadSetsUpTo_28 3 rfl ?_
  refine am_icmp_ge (tgt := 95) dX6_loadSetsUpTo_30 rfl (fun e10 => ?_) (fun e10 => ?_)
  · exact am_vret dX6_loadSetsUpTo_95 rfl rfl
  · refine am_iload_n dX6_loadSetsUpTo_33 rfl 1 rfl ?_
    refine am_bipush (v := 64) dX6_loadSetsUpTo_34 (by decide) ?_
    refine am_imul dX6_loadSetsUpTo_36 ?_
    refine am_iload dX6_loadSetsUpTo_37 4 rfl ?_
    refine am_iadd dX6_loadSetsUpTo_39 ?_
    refine am_letTi (fun v11 => ?_)
    refine am_istore (ls' := [(6, .int v11), (0, .ref (am_B Z + a0)), (2, .int x2), (3, .int x3), (4, .int v5), (5, .int v7)]) dX6_loadSetsUpTo_40 (Nat.le_of_ble_eq_true rfl) rfl ?_
    refine am_iload dX6_loadSetsUpTo_42 0 rfl ?_
    refine am_iload dX6_loadSetsUpTo_44 4 rfl ?_
    refine am_iadd dX6_loadSetsUpTo_46 ?_
    refine am_letTi (fun v12 => ?_)
    refine am_istore (ls' := [(7, .int v12), (6, .int v11), (0, .ref (am_B Z + a0)), (2, .int x2), (3, .int x3), (4, .int v5), (5, .int v7)]) dX6_loadSetsUpTo_47 (Nat.le_of_ble_eq_true rfl) rfl ?_
    refine am_aload_n dX6_loadSetsUpTo_49 rfl 2 rfl ?_
    refine am_getR 6 0 clX6 (Nat.le_of_ble_eq_true rfl) h6 iX6_loadSetsUpTo_6 fX6_loadSetsUpTo_9 rfl rfl dX6_loadSetsUpTo_50 (fun h13 => ?_)
    refine am_iload dX6_loadSetsUpTo_53 0 rfl ?_
    refine am_aload_n dX6_loadSetsUpTo_55 rfl 2 rfl ?_
    refine am_getR 6 0 clX6 (Nat.le_of_ble_eq_true rfl) h6 iX6_loadSetsUpTo_6 fX6_loadSetsUpTo_9 rfl rfl dX6_loadSetsUpTo_56 (fun h14 => ?_)
    refine am_iload dX6_loadSetsUpTo_59 1 rfl ?_
    refine am_iald h14 dX6_loadSetsUpTo_61 ?_
    refine am_iload_n dX6_loadSetsUpTo_62 rfl 4 rfl ?_
    refine am_ior dX6_loadSetsUpTo_63 ?_
    refine am_iast h13 dX6_loadSetsUpTo_64 ?_
    refine am_letI (fun J15 => ?_)
    refine am_aload_n dX6_loadSetsUpTo_65 rfl 2 rfl ?_
    refine am_getR 6 1 clX6 (Nat.le_of_ble_eq_true rfl) h6 iX6_loadSetsUpTo_6 fX6_loadSetsUpTo_15 rfl rfl dX6_loadSetsUpTo_66 (fun h16 => ?_)
    refine am_iload dX6_loadSetsUpTo_69 0 rfl ?_
    refine am_aload_n dX6_loadSetsUpTo_71 rfl 2 rfl ?_
    refine am_getR 6 1 clX6 (Nat.le_of_ble_eq_true rfl) h6 iX6_loadSetsUpTo_6 fX6_loadSetsUpTo_15 rfl rfl dX6_loadSetsUpTo_72 (fun h17 => ?_)
    refine am_iload dX6_loadSetsUpTo_75 1 rfl ?_
    refine am_iald h17 dX6_loadSetsUpTo_77 ?_
    refine am_aload_n dX6_loadSetsUpTo_78 rfl 2 rfl ?_
    refine am_getR 6 0 clX6 (Nat.le_of_ble_eq_true rfl) h6 iX6_loadSetsUpTo_6 fX6_loadSetsUpTo_9 rfl rfl dX6_loadSetsUpTo_79 (fun h18 => ?_)
    refine am_iload dX6_loadSetsUpTo_82 1 rfl ?_
    refine am_iald h18 dX6_loadSetsUpTo_84 ?_
    refine am_iload_n dX6_loadSetsUpTo_85 rfl 4 rfl ?_
    refine am_iand dX6_loadSetsUpTo_86 ?_
    refine am_ior dX6_loadSetsUpTo_87 ?_
    refine am_iast h16 dX6_loadSetsUpTo_88 ?_
    refine am_letI (fun J19 => ?_)
    refine am_iinc (j := 6) (ls' := [(5, .int (v7 + (1 : Int32))), (7, .int v12), (6, .int v11), (0, .ref (am_B Z + a0)), (2, .int x2), (3, .int x3), (4, .int v5)]) dX6_loadSetsUpTo_89 rfl rfl (Nat.le_of_ble_eq_true rfl) rfl ?_
    refine am_goto (tgt := 26) dX6_loadSetsUpTo_92 rfl ?_
    refine am_sub (ls' := [(0, .ref (am_B Z + a0)), (2, .int x2), (3, .int x3), (4, .int v5), (5, .int (v7 + (1 : Int32)))]) [3, 4, 5, 6, 0] rfl ?_
    exact hih9 (v7 + (1 : Int32)) J19
theorem uX6_loadSetsUpTo_26 {Z : am_Z} {X : am_X} (R : am_R) (L : am_L) (a0 : Nat) (x2 : Int32) (x3 : Int32) (v5 : Int32) (h6 : am_G Z a0 = some (.inl 6)) : ∀ (n : Nat) (v7 : Int32) (J8 : am_I), am_V Z X kX6_loadSetsUpTo (fun r : am_I => (none, R, r, L)) 26 [(0, .ref (am_B Z + a0)), (2, .int x2), (3, .int x3), (4, .int v5), (5, .int v7)] [] R J8 L (lX6_loadSetsUpTo_26 R a0 x2 x3 v5 n v7 J8) := by
  intro n
  induction n with
  | zero => intro _ _; exact am_none
  | succ n ih => exact fun v7 J8 => vX6_loadSetsUpTo_26 R L a0 x2 x3 v5 h6 (lX6_loadSetsUpTo_26 R a0 x2 x3 v5 n) ih v7 J8
set_option maxRecDepth 100000 in
set_option maxHeartbeats 4000000 in
theorem tX6_loadSetsUpTo {Z : am_Z} (R : am_R) (I : am_I) (L : am_L) (a0 : Nat) (x1 : Int32) (x2 : Int32) (x3 : Int32) (h_a0 : am_G Z a0 = some (.inl 6)) : am_M Z yX6_loadSetsUpTo kX6_loadSetsUpTo [.ref (am_B Z + a0), .int x1, .int x2, .int x3] R I L (pX6_loadSetsUpTo R I a0 x1 x2 x3) (fun r : am_I => (none, R, r, L)) := by
  refine am_entry (ls := [(0, .ref (am_B Z + a0)), (1, .int x1), (2, .int x2), (3, .int x3)]) (by decide) hX6_loadSetsUpTo rfl (Nat.le_of_ble_eq_true rfl) rfl (fun X => ?_)
  unfold pX6_loadSetsUpTo
  refine am_iload_n dX6_loadSetsUpTo_0 rfl 1 rfl ?_
  refine am_if_lt (tgt := 17) dX6_loadSetsUpTo_1 rfl (fun e1 => ?_) (fun e1 => ?_)
  · exact am_vret dX6_loadSetsUpTo_17 rfl rfl
  · refine am_iload_n dX6_loadSetsUpTo_4 rfl 1 rfl ?_
    refine am_bipush (v := 6) dX6_loadSetsUpTo_5 (by decide) ?_
    refine am_icmp_ge (tgt := 17) dX6_loadSetsUpTo_7 rfl (fun e2 => ?_) (fun e2 => ?_)
    · exact am_vret dX6_loadSetsUpTo_17 rfl rfl
    · refine am_iload_n dX6_loadSetsUpTo_10 rfl 2 rfl ?_
      refine am_callN (host := RX10) [.int x2] (tX10_isLetter R I L x2) gX6_loadSetsUpTo_X10_isLetter_n28 (by decide +kernel) (by decide +kernel) (by decide +kernel) hX10_isLetter ⟨Nat.le_of_ble_eq_true rfl, Nat.le_of_ble_eq_true rfl⟩ rfl rfl (Nat.le_of_ble_eq_true rfl) dX6_loadSetsUpTo_11 (fun r3 => ?_)
      show am_V Z X kX6_loadSetsUpTo (fun r : am_I => (none, R, r, L)) 14 [(0, .ref (am_B Z + a0)), (1, .int x1), (2, .int x2), (3, .int x3)] [.int r3] R I L _
      refine am_if_ne (tgt := 18) dX6_loadSetsUpTo_14 rfl (fun e4 => ?_) (fun e4 => ?_)
      · refine am_iconst (v := 1) dX6_loadSetsUpTo_18 (by decide) ?_
        refine am_iload_n dX6_loadSetsUpTo_19 rfl 1 rfl ?_
        refine am_ishl dX6_loadSetsUpTo_20 ?_
        refine am_letTi (fun v5 => ?_)
        refine am_istore (ls' := [(4, .int v5), (0, .ref (am_B Z + a0)), (1, .int x1), (2, .int x2), (3, .int x3)]) dX6_loadSetsUpTo_21 (Nat.le_of_ble_eq_true rfl) rfl ?_
        refine am_iconst (v := 0) dX6_loadSetsUpTo_23 (by decide) ?_
        refine am_istore (ls' := [(5, .int (0 : Int32)), (4, .int v5), (0, .ref (am_B Z + a0)), (1, .int x1), (2, .int x2), (3, .int x3)]) dX6_loadSetsUpTo_24 (Nat.le_of_ble_eq_true rfl) rfl ?_
        refine am_sub (ls' := [(0, .ref (am_B Z + a0)), (2, .int x2), (3, .int x3), (4, .int v5), (5, .int (0 : Int32))]) [2, 4, 5, 1, 0] rfl ?_
        exact uX6_loadSetsUpTo_26 R L a0 x2 x3 v5 h_a0 am_fu (0 : Int32) I
      · exact am_vret dX6_loadSetsUpTo_17 rfl rfl
abbrev kX6_load : am_K := (cX6_load, 4, RX6, wsX6_load, none, { frames := 2, cells := 0, slots := 0, locals := 47 })
theorem hX6_load : am_cl yX6_load kX6_load 1 := ⟨⟨_, rfl⟩, rfl, rfl, by decide +kernel, by decide +kernel, by decide +kernel⟩
set_option maxRecDepth 100000 in
set_option maxHeartbeats 4000000 in
theorem vX6_load_9 {Z : am_Z} {X : am_X} (R : am_R) (L : am_L) (a0 : Nat) (a1 : Nat) (v3 : Int32) (h9 : am_G Z a0 = some (.inl 6)) (h10 : am_G Z a1 = some (.inl 0)) (j7 : am_I → Option (am_I)) (hj7 : ∀ (J8 : am_I), am_V Z X kX6_load (fun r : am_I => (none, R, r, L)) 33 [(0, .ref (am_B Z + a0)), (1, .ref (am_B Z + a1)), (2, .int v3)] [] R J8 L (j7 J8)) (ih13 : Int32 → am_I → Option (am_I)) (hih13 : ∀ (v11 : Int32) (J12 : am_I), am_V Z X kX6_load (fun r : am_I => (none, R, r, L)) 9 [(0, .ref (am_B Z + a0)), (1, .ref (am_B Z + a1)), (2, .int v3), (3, .int v11)] [] R J12 L (ih13 v11 J12)) (v11 : Int32) (J12 : am_I) : am_V Z X kX6_load (fun r : am_I => (none, R, r, L)) 9 [(0, .ref (am_B Z + a0)), (1, .ref (am_B Z + a1)), (2, .int v3), (3, .int v11)] [] R J12 L (sX6_load_9 R a0 a1 v3 j7 ih13 v11 J12) := by
  unfold sX6_load_9
  refine am_iload_n dX6_load_9 rfl 3 rfl ?_
  refine am_bipush (v := 6) dX6_load_10 (by decide) ?_
  refine am_icmp_ge (tgt := 33) dX6_load_12 rfl (fun e14 => ?_) (fun e14 => ?_)
  · refine am_sub (ls' := [(0, .ref (am_B Z + a0)), (1, .ref (am_B Z + a1)), (2, .int v3)]) [0, 1, 2] rfl ?_
    exact hj7 J12
  · refine am_aload_n dX6_load_15 rfl 0 rfl ?_
    refine am_iload_n dX6_load_16 rfl 3 rfl ?_
    refine am_iload_n dX6_load_17 rfl 2 rfl ?_
    refine am_aload_n dX6_load_18 rfl 1 rfl ?_
    refine am_iload_n dX6_load_19 rfl 3 rfl ?_
    refine am_iload_n dX6_load_20 rfl 2 rfl ?_
    refine am_callV [.int v11, .int v3] (tX0_targetsOf R J12 L a1 v11 v3 h10) h10 clX0 gX6_load_X0_targetsOf hX0_targetsOf rfl ⟨Nat.le_of_ble_eq_true rfl, Nat.le_of_ble_eq_true rfl⟩ rfl rfl (Nat.le_of_ble_eq_true rfl) dX6_load_21 (fun r15 => ?_)
    show am_V Z X kX6_load (fun r : am_I => (none, R, r, L)) 24 [(0, .ref (am_B Z + a0)), (1, .ref (am_B Z + a1)), (2, .int v3), (3, .int v11)] [.int r15, .int v3, .int v11, .ref (am_B Z + a0)] R J12 L _
    refine am_callV [.int v11, .int v3, .int r15] (tX6_loadSetsUpTo R J12 L a0 v11 v3 r15 h9) h9 clX6 gX6_load_X6_loadSetsUpTo hX6_loadSetsUpTo rfl ⟨Nat.le_of_ble_eq_true rfl, Nat.le_of_ble_eq_true rfl⟩ rfl rfl (Nat.le_of_ble_eq_true rfl) dX6_load_24 (fun r16 => ?_)
    show am_V Z X kX6_load (fun r : am_I => (none, R, r, L)) 27 [(0, .ref (am_B Z + a0)), (1, .ref (am_B Z + a1)), (2, .int v3), (3, .int v11)] [] R r16 L _
    refine am_iinc (j := 3) (ls' := [(3, .int (v11 + (1 : Int32))), (0, .ref (am_B Z + a0)), (1, .ref (am_B Z + a1)), (2, .int v3)]) dX6_load_27 rfl rfl (Nat.le_of_ble_eq_true rfl) rfl ?_
    refine am_goto (tgt := 9) dX6_load_30 rfl ?_
    refine am_sub (ls' := [(0, .ref (am_B Z + a0)), (1, .ref (am_B Z + a1)), (2, .int v3), (3, .int (v11 + (1 : Int32)))]) [1, 2, 3, 0] rfl ?_
    exact hih13 (v11 + (1 : Int32)) r16
theorem uX6_load_9 {Z : am_Z} {X : am_X} (R : am_R) (L : am_L) (a0 : Nat) (a1 : Nat) (v3 : Int32) (h9 : am_G Z a0 = some (.inl 6)) (h10 : am_G Z a1 = some (.inl 0)) (j7 : am_I → Option (am_I)) (hj7 : ∀ (J8 : am_I), am_V Z X kX6_load (fun r : am_I => (none, R, r, L)) 33 [(0, .ref (am_B Z + a0)), (1, .ref (am_B Z + a1)), (2, .int v3)] [] R J8 L (j7 J8)) : ∀ (n : Nat) (v11 : Int32) (J12 : am_I), am_V Z X kX6_load (fun r : am_I => (none, R, r, L)) 9 [(0, .ref (am_B Z + a0)), (1, .ref (am_B Z + a1)), (2, .int v3), (3, .int v11)] [] R J12 L (lX6_load_9 R a0 a1 v3 j7 n v11 J12) := by
  intro n
  induction n with
  | zero => intro _ _; exact am_none
  | succ n ih => exact fun v11 J12 => vX6_load_9 R L a0 a1 v3 h9 h10 j7 hj7 (lX6_load_9 R a0 a1 v3 j7 n) ih v11 J12
set_option maxRecDepth 100000 in
set_option maxHeartbeats 4000000 in
theorem vX6_load_2 {Z : am_Z} {X : am_X} (R : am_R) (L : am_L) (a0 : Nat) (a1 : Nat) (h1 : am_G Z a0 = some (.inl 6)) (h2 : am_G Z a1 = some (.inl 0)) (ih5 : Int32 → am_I → Option (am_I)) (hih5 : ∀ (v3 : Int32) (J4 : am_I), am_V Z X kX6_load (fun r : am_I => (none, R, r, L)) 2 [(0, .ref (am_B Z + a0)), (1, .ref (am_B Z + a1)), (2, .int v3)] [] R J4 L (ih5 v3 J4)) (v3 : Int32) (J4 : am_I) : am_V Z X kX6_load (fun r : am_I => (none, R, r, L)) 2 [(0, .ref (am_B Z + a0)), (1, .ref (am_B Z + a1)), (2, .int v3)] [] R J4 L (sX6_load_2 R a0 a1 ih5 v3 J4) := by
  unfold sX6_load_2
  refine am_iload_n dX6_load_2 rfl 2 rfl ?_
  refine am_iconst (v := 3) dX6_load_3 (by decide) ?_
  refine am_icmp_ge (tgt := 39) dX6_load_4 rfl (fun e6 => ?_) (fun e6 => ?_)
  · exact am_vret dX6_load_39 rfl rfl
  · refine am_iconst (v := 0) dX6_load_7 (by decide) ?_
    refine am_istore_n (ls' := [(3, .int (0 : Int32)), (0, .ref (am_B Z + a0)), (1, .ref (am_B Z + a1)), (2, .int v3)]) dX6_load_8 rfl (Nat.le_of_ble_eq_true rfl) rfl ?_
    refine am_jnV (fun j7 ej7 => ?_)
    have hj7 : ∀ (J8 : am_I), am_V Z X kX6_load (fun r : am_I => (none, R, r, L)) 33 [(0, .ref (am_B Z + a0)), (1, .ref (am_B Z + a1)), (2, .int v3)] [] R J8 L (j7 J8) := by
      subst ej7
      intro J8
      show am_V Z X kX6_load (fun r : am_I => (none, R, r, L)) 33 [(0, .ref (am_B Z + a0)), (1, .ref (am_B Z + a1)), (2, .int v3)] [] R J8 L _
      refine am_iinc (j := 2) (ls' := [(2, .int (v3 + (1 : Int32))), (0, .ref (am_B Z + a0)), (1, .ref (am_B Z + a1))]) dX6_load_33 rfl rfl (Nat.le_of_ble_eq_true rfl) rfl ?_
      refine am_goto (tgt := 2) dX6_load_36 rfl ?_
      refine am_sub (ls' := [(0, .ref (am_B Z + a0)), (1, .ref (am_B Z + a1)), (2, .int (v3 + (1 : Int32)))]) [1, 2, 0] rfl ?_
      exact hih5 (v3 + (1 : Int32)) J8
    refine am_sub (ls' := [(0, .ref (am_B Z + a0)), (1, .ref (am_B Z + a1)), (2, .int v3), (3, .int (0 : Int32))]) [1, 2, 3, 0] rfl ?_
    exact uX6_load_9 R L a0 a1 v3 h1 h2 j7 hj7 am_fu (0 : Int32) J4
theorem uX6_load_2 {Z : am_Z} {X : am_X} (R : am_R) (L : am_L) (a0 : Nat) (a1 : Nat) (h1 : am_G Z a0 = some (.inl 6)) (h2 : am_G Z a1 = some (.inl 0)) : ∀ (n : Nat) (v3 : Int32) (J4 : am_I), am_V Z X kX6_load (fun r : am_I => (none, R, r, L)) 2 [(0, .ref (am_B Z + a0)), (1, .ref (am_B Z + a1)), (2, .int v3)] [] R J4 L (lX6_load_2 R a0 a1 n v3 J4) := by
  intro n
  induction n with
  | zero => intro _ _; exact am_none
  | succ n ih => exact fun v3 J4 => vX6_load_2 R L a0 a1 h1 h2 (lX6_load_2 R a0 a1 n) ih v3 J4
set_option maxRecDepth 100000 in
set_option maxHeartbeats 4000000 in
theorem tX6_load {Z : am_Z} (R : am_R) (I : am_I) (L : am_L) (a0 : Nat) (a1 : Nat) (h_a0 : am_G Z a0 = some (.inl 6)) (h_a1 : am_G Z a1 = some (.inl 0)) : am_M Z yX6_load kX6_load [.ref (am_B Z + a0), .ref (am_B Z + a1)] R I L (pX6_load R I a0 a1) (fun r : am_I => (none, R, r, L)) := by
  refine am_entry (ls := [(0, .ref (am_B Z + a0)), (1, .ref (am_B Z + a1))]) (by decide) hX6_load rfl (Nat.le_of_ble_eq_true rfl) rfl (fun X => ?_)
  unfold pX6_load
  refine am_iconst (v := 0) dX6_load_0 (by decide) ?_
  refine am_istore_n (ls' := [(2, .int (0 : Int32)), (0, .ref (am_B Z + a0)), (1, .ref (am_B Z + a1))]) dX6_load_1 rfl (Nat.le_of_ble_eq_true rfl) rfl ?_
  refine am_sub (ls' := [(0, .ref (am_B Z + a0)), (1, .ref (am_B Z + a1)), (2, .int (0 : Int32))]) [1, 2, 0] rfl ?_
  exact uX6_load_2 R L a0 a1 h_a0 h_a1 am_fu (0 : Int32) I
abbrev kX6_reachedTwice : am_K := (cX6_reachedTwice, 4, RX6, wsX6_reachedTwice, some .int, { frames := 0, cells := 0, slots := 0, locals := 0 })
theorem hX6_reachedTwice : am_cl yX6_reachedTwice kX6_reachedTwice 2 := ⟨⟨_, rfl⟩, rfl, rfl, by decide +kernel, by decide +kernel, by decide +kernel⟩
theorem iX6_reachedTwice_6 : ∀ w ∈ u_ws RX6 TX6 2, w ∈ wsX6_reachedTwice := by decide +kernel
theorem fX6_reachedTwice_15 : Cond.fieldLink RX6 15 "AmbiguityAnalyzer$Steps" "twice" "[I" ∈ wsX6_reachedTwice := by decide +kernel
set_option maxRecDepth 100000 in
set_option maxHeartbeats 4000000 in
theorem tX6_reachedTwice {Z : am_Z} (R : am_R) (I : am_I) (L : am_L) (a0 : Nat) (x1 : Int32) (x2 : Int32) (h_a0 : am_G Z a0 = some (.inl 6)) : am_M Z yX6_reachedTwice kX6_reachedTwice [.ref (am_B Z + a0), .int x1, .int x2] R I L (pX6_reachedTwice R I a0 x1 x2) (fun r : Int32 => (some (.int r), R, I, L)) := by
  refine am_entry (ls := [(0, .ref (am_B Z + a0)), (1, .int x1), (2, .int x2)]) (by decide) hX6_reachedTwice rfl (Nat.le_of_ble_eq_true rfl) rfl (fun X => ?_)
  unfold pX6_reachedTwice
  refine am_iload_n dX6_reachedTwice_0 rfl 1 rfl ?_
  refine am_letJ (fun k2 ek2 => ?_)
  have hk2 : ∀ v1 : Int32, am_V Z X kX6_reachedTwice (fun r : Int32 => (some (.int r), R, I, L)) 24 [(0, .ref (am_B Z + a0)), (1, .int x1), (2, .int x2)] [.int v1] R I L (k2 v1) := by
    subst ek2
    intro v1
    show am_V Z X kX6_reachedTwice (fun r : Int32 => (some (.int r), R, I, L)) 24 [(0, .ref (am_B Z + a0)), (1, .int x1), (2, .int x2)] [.int v1] R I L _
    refine am_istore_n (ls' := [(3, .int v1), (0, .ref (am_B Z + a0)), (1, .int x1), (2, .int x2)]) dX6_reachedTwice_24 rfl (Nat.le_of_ble_eq_true rfl) rfl ?_
    refine am_iload_n dX6_reachedTwice_25 rfl 0 rfl ?_
    refine am_if_eq (tgt := 43) dX6_reachedTwice_26 rfl (fun e3 => ?_) (fun e3 => ?_)
    · refine am_iconst (v := 0) dX6_reachedTwice_43 (by decide) ?_
      exact am_iret dX6_reachedTwice_44 rfl rfl
    · refine am_aload_n dX6_reachedTwice_29 rfl 1 rfl ?_
      refine am_getR 6 1 clX6 (Nat.le_of_ble_eq_true rfl) h_a0 iX6_reachedTwice_6 fX6_reachedTwice_15 rfl rfl dX6_reachedTwice_30 (fun h4 => ?_)
      refine am_iload_n dX6_reachedTwice_33 rfl 3 rfl ?_
      refine am_bipush (v := 64) dX6_reachedTwice_34 (by decide) ?_
      refine am_imul dX6_reachedTwice_36 ?_
      refine am_iload_n dX6_reachedTwice_37 rfl 2 rfl ?_
      refine am_iadd dX6_reachedTwice_38 ?_
      refine am_iald h4 dX6_reachedTwice_39 ?_
      refine am_goto (tgt := 44) dX6_reachedTwice_40 rfl ?_
      exact am_iret dX6_reachedTwice_44 rfl rfl
  refine am_if_ltL (tgt := 23) dX6_reachedTwice_1 rfl (fun e5 => ?_) (fun e5 => ?_)
  · refine am_iconst (v := 0) dX6_reachedTwice_23 (by decide) ?_
    exact hk2 _
  · refine am_iload_n dX6_reachedTwice_4 rfl 1 rfl ?_
    refine am_bipush (v := 64) dX6_reachedTwice_5 (by decide) ?_
    refine am_icmp_geL (tgt := 23) dX6_reachedTwice_7 rfl (fun e6 => ?_) (fun e6 => ?_)
    · refine am_iconst (v := 0) dX6_reachedTwice_23 (by decide) ?_
      exact hk2 _
    · refine am_iload_n dX6_reachedTwice_10 rfl 2 rfl ?_
      refine am_if_ltL (tgt := 23) dX6_reachedTwice_11 rfl (fun e7 => ?_) (fun e7 => ?_)
      · refine am_iconst (v := 0) dX6_reachedTwice_23 (by decide) ?_
        exact hk2 _
      · refine am_iload_n dX6_reachedTwice_14 rfl 2 rfl ?_
        refine am_iconst (v := 3) dX6_reachedTwice_15 (by decide) ?_
        refine am_icmp_geL (tgt := 23) dX6_reachedTwice_16 rfl (fun e8 => ?_) (fun e8 => ?_)
        · refine am_iconst (v := 0) dX6_reachedTwice_23 (by decide) ?_
          exact hk2 _
        · refine am_iconst (v := 1) dX6_reachedTwice_19 (by decide) ?_
          refine am_goto (tgt := 24) dX6_reachedTwice_20 rfl ?_
          exact hk2 _
abbrev kX7_add : am_K := (cX7_add, 2, RX7, wsX7_add, some .boolean, { frames := 0, cells := 0, slots := 0, locals := 0 })
theorem hX7_add : am_cl yX7_add kX7_add 1 := ⟨⟨_, rfl⟩, rfl, rfl, by decide +kernel, by decide +kernel, by decide +kernel⟩
theorem iX7_add_7 : ∀ w ∈ u_ws RX7 TX7 2, w ∈ wsX7_add := by decide +kernel
theorem fX7_add_15 : Cond.fieldLink RX7 15 "AmbiguityAnalyzer$Text" "length" "I" ∈ wsX7_add := by decide +kernel
theorem fX7_add_9 : Cond.fieldLink RX7 9 "AmbiguityAnalyzer$Text" "characters" "[I" ∈ wsX7_add := by decide +kernel
set_option maxRecDepth 100000 in
set_option maxHeartbeats 4000000 in
theorem tX7_add {Z : am_Z} (R : am_R) (I : am_I) (L : am_L) (a0 : Nat) (x1 : Int32) (h_a0 : am_G Z a0 = some (.inl 7)) : am_M Z yX7_add kX7_add [.ref (am_B Z + a0), .int x1] R I L (pX7_add R I a0 x1) (fun r : Int32 × am_I => (some (.int r.1), R, r.2, L)) := by
  refine am_entry (ls := [(0, .ref (am_B Z + a0)), (1, .int x1)]) (by decide) hX7_add rfl (Nat.le_of_ble_eq_true rfl) rfl (fun X => ?_)
  unfold pX7_add
  refine am_aload_n dX7_add_0 rfl 0 rfl ?_
  refine am_get 7 0 clX7 (Nat.le_of_ble_eq_true rfl) h_a0 iX7_add_7 fX7_add_15 rfl dX7_add_1 ?_
  refine am_if_lt (tgt := 19) dX7_add_4 rfl (fun e1 => ?_) (fun e1 => ?_)
  · refine am_iconst (v := 0) dX7_add_19 (by decide) ?_
    exact am_zret (by decide) dX7_add_20 rfl rfl
  · refine am_aload_n dX7_add_7 rfl 0 rfl ?_
    refine am_get 7 0 clX7 (Nat.le_of_ble_eq_true rfl) h_a0 iX7_add_7 fX7_add_15 rfl dX7_add_8 ?_
    refine am_aload_n dX7_add_11 rfl 0 rfl ?_
    refine am_getR 7 1 clX7 (Nat.le_of_ble_eq_true rfl) h_a0 iX7_add_7 fX7_add_9 rfl rfl dX7_add_12 (fun h2 => ?_)
    refine am_alen (t := 0) (v := 60) rfl h2 (by decide) dX7_add_15 ?_
    refine am_icmp_lt (tgt := 21) dX7_add_16 rfl (fun e3 => ?_) (fun e3 => ?_)
    · refine am_aload_n dX7_add_21 rfl 0 rfl ?_
      refine am_getR 7 1 clX7 (Nat.le_of_ble_eq_true rfl) h_a0 iX7_add_7 fX7_add_9 rfl rfl dX7_add_22 (fun h4 => ?_)
      refine am_aload_n dX7_add_25 rfl 0 rfl ?_
      refine am_get 7 0 clX7 (Nat.le_of_ble_eq_true rfl) h_a0 iX7_add_7 fX7_add_15 rfl dX7_add_26 ?_
      refine am_iload_n dX7_add_29 rfl 1 rfl ?_
      refine am_iast h4 dX7_add_30 ?_
      refine am_letI (fun J5 => ?_)
      refine am_aload_n dX7_add_31 rfl 0 rfl ?_
      refine am_dup dX7_add_32 rfl ?_
      refine am_get 7 0 clX7 (Nat.le_of_ble_eq_true rfl) h_a0 iX7_add_7 fX7_add_15 rfl dX7_add_33 ?_
      refine am_iconst (v := 1) dX7_add_36 (by decide) ?_
      refine am_iadd dX7_add_37 ?_
      refine am_putI 7 0 clX7 (Nat.le_of_ble_eq_true rfl) h_a0 iX7_add_7 fX7_add_15 rfl rfl dX7_add_38 ?_
      refine am_letI (fun J6 => ?_)
      refine am_iconst (v := 1) dX7_add_41 (by decide) ?_
      exact am_zret (by decide) dX7_add_42 rfl rfl
    · refine am_iconst (v := 0) dX7_add_19 (by decide) ?_
      exact am_zret (by decide) dX7_add_20 rfl rfl
abbrev kX7_characterAt : am_K := (cX7_characterAt, 2, RX7, wsX7_characterAt, some .int, { frames := 0, cells := 0, slots := 0, locals := 0 })
theorem hX7_characterAt : am_cl yX7_characterAt kX7_characterAt 1 := ⟨⟨_, rfl⟩, rfl, rfl, by decide +kernel, by decide +kernel, by decide +kernel⟩
theorem iX7_characterAt_7 : ∀ w ∈ u_ws RX7 TX7 2, w ∈ wsX7_characterAt := by decide +kernel
theorem fX7_characterAt_15 : Cond.fieldLink RX7 15 "AmbiguityAnalyzer$Text" "length" "I" ∈ wsX7_characterAt := by decide +kernel
theorem fX7_characterAt_9 : Cond.fieldLink RX7 9 "AmbiguityAnalyzer$Text" "characters" "[I" ∈ wsX7_characterAt := by decide +kernel
set_option maxRecDepth 100000 in
set_option maxHeartbeats 4000000 in
theorem tX7_characterAt {Z : am_Z} (R : am_R) (I : am_I) (L : am_L) (a0 : Nat) (x1 : Int32) (h_a0 : am_G Z a0 = some (.inl 7)) : am_M Z yX7_characterAt kX7_characterAt [.ref (am_B Z + a0), .int x1] R I L (pX7_characterAt R I a0 x1) (fun r : Int32 => (some (.int r), R, I, L)) := by
  refine am_entry (ls := [(0, .ref (am_B Z + a0)), (1, .int x1)]) (by decide) hX7_characterAt rfl (Nat.le_of_ble_eq_true rfl) rfl (fun X => ?_)
  unfold pX7_characterAt
  refine am_iload_n dX7_characterAt_0 rfl 1 rfl ?_
  refine am_if_lt (tgt := 30) dX7_characterAt_1 rfl (fun e1 => ?_) (fun e1 => ?_)
  · refine am_iconst (v := 0) dX7_characterAt_30 (by decide) ?_
    exact am_iret dX7_characterAt_31 rfl rfl
  · refine am_iload_n dX7_characterAt_4 rfl 1 rfl ?_
    refine am_aload_n dX7_characterAt_5 rfl 0 rfl ?_
    refine am_get 7 0 clX7 (Nat.le_of_ble_eq_true rfl) h_a0 iX7_characterAt_7 fX7_characterAt_15 rfl dX7_characterAt_6 ?_
    refine am_icmp_ge (tgt := 30) dX7_characterAt_9 rfl (fun e2 => ?_) (fun e2 => ?_)
    · refine am_iconst (v := 0) dX7_characterAt_30 (by decide) ?_
      exact am_iret dX7_characterAt_31 rfl rfl
    · refine am_iload_n dX7_characterAt_12 rfl 1 rfl ?_
      refine am_aload_n dX7_characterAt_13 rfl 0 rfl ?_
      refine am_getR 7 1 clX7 (Nat.le_of_ble_eq_true rfl) h_a0 iX7_characterAt_7 fX7_characterAt_9 rfl rfl dX7_characterAt_14 (fun h3 => ?_)
      refine am_alen (t := 0) (v := 60) rfl h3 (by decide) dX7_characterAt_17 ?_
      refine am_icmp_ge (tgt := 30) dX7_characterAt_18 rfl (fun e4 => ?_) (fun e4 => ?_)
      · refine am_iconst (v := 0) dX7_characterAt_30 (by decide) ?_
        exact am_iret dX7_characterAt_31 rfl rfl
      · refine am_aload_n dX7_characterAt_21 rfl 0 rfl ?_
        refine am_getR 7 1 clX7 (Nat.le_of_ble_eq_true rfl) h_a0 iX7_characterAt_7 fX7_characterAt_9 rfl rfl dX7_characterAt_22 (fun h5 => ?_)
        refine am_iload_n dX7_characterAt_25 rfl 1 rfl ?_
        refine am_iald h5 dX7_characterAt_26 ?_
        refine am_goto (tgt := 31) dX7_characterAt_27 rfl ?_
        exact am_iret dX7_characterAt_31 rfl rfl
abbrev kX7_nextMode : am_K := (cX7_nextMode, 4, RX7, wsX7_nextMode, some .int, { frames := 1, cells := 0, slots := 0, locals := 20 })
theorem hX7_nextMode : am_cl yX7_nextMode kX7_nextMode 3 := ⟨⟨_, rfl⟩, rfl, rfl, by decide +kernel, by decide +kernel, by decide +kernel⟩
set_option maxRecDepth 100000 in
set_option maxHeartbeats 4000000 in
theorem tX7_nextMode {Z : am_Z} (R : am_R) (I : am_I) (L : am_L) (x0 : Int32) (x1 : Int32) (x2 : Int32)  : am_M Z yX7_nextMode kX7_nextMode [.int x0, .int x1, .int x2] R I L (pX7_nextMode x0 x1 x2) (fun r : Int32 => (some (.int r), R, I, L)) := by
  refine am_entry (ls := [(0, .int x0), (1, .int x1), (2, .int x2)]) (by decide) hX7_nextMode rfl (Nat.le_of_ble_eq_true rfl) rfl (fun X => ?_)
  unfold pX7_nextMode
  refine am_iload_n dX7_nextMode_0 rfl 1 rfl ?_
  refine am_bipush (v := 48) dX7_nextMode_1 (by decide) ?_
  refine am_letJ (fun k2 ek2 => ?_)
  have hk2 : ∀ v1 : Int32, am_V Z X kX7_nextMode (fun r : Int32 => (some (.int r), R, I, L)) 19 [(0, .int x0), (1, .int x1)] [.int v1] R I L (k2 v1) := by
    subst ek2
    intro v1
    show am_V Z X kX7_nextMode (fun r : Int32 => (some (.int r), R, I, L)) 19 [(0, .int x0), (1, .int x1)] [.int v1] R I L _
    refine am_istore_n (ls' := [(3, .int v1), (0, .int x0), (1, .int x1)]) dX7_nextMode_19 rfl (Nat.le_of_ble_eq_true rfl) rfl ?_
    refine am_iload_n dX7_nextMode_20 rfl 1 rfl ?_
    refine am_iteV (fun e_0 => ?_) (fun e_0 => ?_)
    · refine am_tabIn (tgt := 52) dX7_nextMode_21 (by rw [e_0]; decide) (by rw [e_0]; decide) (by rw [e_0]; rfl) rfl ?_
      refine am_iload_n dX7_nextMode_52 rfl 2 rfl ?_
      refine am_bipush (v := 62) dX7_nextMode_53 (by decide) ?_
      refine am_icmp_ne (tgt := 62) dX7_nextMode_55 rfl (fun e3 => ?_) (fun e3 => ?_)
      · refine am_iload_n dX7_nextMode_62 rfl 0 rfl ?_
        refine am_if_eq (tgt := 70) dX7_nextMode_63 rfl (fun e4 => ?_) (fun e4 => ?_)
        · refine am_iconst (v := -1) dX7_nextMode_70 (by decide) ?_
          exact am_iret dX7_nextMode_71 rfl rfl
        · refine am_iconst (v := 2) dX7_nextMode_66 (by decide) ?_
          refine am_goto (tgt := 71) dX7_nextMode_67 rfl ?_
          exact am_iret dX7_nextMode_71 rfl rfl
      · refine am_iconst (v := 1) dX7_nextMode_58 (by decide) ?_
        refine am_goto (tgt := 71) dX7_nextMode_59 rfl ?_
        exact am_iret dX7_nextMode_71 rfl rfl
    · refine am_iteV (fun e_1 => ?_) (fun e_1 => ?_)
      · refine am_tabIn (tgt := 72) dX7_nextMode_21 (by rw [e_1]; decide) (by rw [e_1]; decide) (by rw [e_1]; rfl) rfl ?_
        refine am_iload_n dX7_nextMode_72 rfl 0 rfl ?_
        refine am_if_eq (tgt := 80) dX7_nextMode_73 rfl (fun e5 => ?_) (fun e5 => ?_)
        · refine am_iconst (v := -1) dX7_nextMode_80 (by decide) ?_
          exact am_iret dX7_nextMode_81 rfl rfl
        · refine am_iconst (v := 4) dX7_nextMode_76 (by decide) ?_
          refine am_goto (tgt := 81) dX7_nextMode_77 rfl ?_
          exact am_iret dX7_nextMode_81 rfl rfl
      · refine am_iteV (fun e_2 => ?_) (fun e_2 => ?_)
        · refine am_tabIn (tgt := 82) dX7_nextMode_21 (by rw [e_2]; decide) (by rw [e_2]; decide) (by rw [e_2]; rfl) rfl ?_
          refine am_iload_n dX7_nextMode_82 rfl 2 rfl ?_
          refine am_bipush (v := 33) dX7_nextMode_83 (by decide) ?_
          refine am_icmp_ne (tgt := 92) dX7_nextMode_85 rfl (fun e6 => ?_) (fun e6 => ?_)
          · refine am_iload_n dX7_nextMode_92 rfl 2 rfl ?_
            refine am_bipush (v := 97) dX7_nextMode_93 (by decide) ?_
            refine am_isub dX7_nextMode_95 ?_
            refine am_callN (host := RX10) [.int (x1 - (97 : Int32))] (tX10_isLetter R I L (x1 - (97 : Int32))) gX7_nextMode_X10_isLetter_n27 (by decide +kernel) (by decide +kernel) (by decide +kernel) hX10_isLetter ⟨Nat.le_of_ble_eq_true rfl, Nat.le_of_ble_eq_true rfl⟩ rfl rfl (Nat.le_of_ble_eq_true rfl) dX7_nextMode_96 (fun r7 => ?_)
            show am_V Z X kX7_nextMode (fun r : Int32 => (some (.int r), R, I, L)) 99 [(3, .int v1), (0, .int x0), (1, .int x1)] [.int r7] R I L _
            refine am_if_eq (tgt := 106) dX7_nextMode_99 rfl (fun e8 => ?_) (fun e8 => ?_)
            · refine am_iconst (v := -1) dX7_nextMode_106 (by decide) ?_
              exact am_iret dX7_nextMode_107 rfl rfl
            · refine am_iconst (v := 3) dX7_nextMode_102 (by decide) ?_
              refine am_goto (tgt := 107) dX7_nextMode_103 rfl ?_
              exact am_iret dX7_nextMode_107 rfl rfl
          · refine am_iconst (v := 4) dX7_nextMode_88 (by decide) ?_
            refine am_goto (tgt := 107) dX7_nextMode_89 rfl ?_
            exact am_iret dX7_nextMode_107 rfl rfl
        · refine am_iteV (fun e_3 => ?_) (fun e_3 => ?_)
          · refine am_tabIn (tgt := 108) dX7_nextMode_21 (by rw [e_3]; decide) (by rw [e_3]; decide) (by rw [e_3]; rfl) rfl ?_
            refine am_iload_n dX7_nextMode_108 rfl 0 rfl ?_
            refine am_if_eq (tgt := 116) dX7_nextMode_109 rfl (fun e9 => ?_) (fun e9 => ?_)
            · refine am_iconst (v := -1) dX7_nextMode_116 (by decide) ?_
              exact am_iret dX7_nextMode_117 rfl rfl
            · refine am_iconst (v := 4) dX7_nextMode_112 (by decide) ?_
              refine am_goto (tgt := 117) dX7_nextMode_113 rfl ?_
              exact am_iret dX7_nextMode_117 rfl rfl
          · refine am_tabOut (tgt := 118) dX7_nextMode_21 (am_tabout4 e_0 e_1 e_2 e_3) rfl ?_
            refine am_iload_n dX7_nextMode_118 rfl 2 rfl ?_
            refine am_bipush (v := 59) dX7_nextMode_119 (by decide) ?_
            refine am_icmp_ne (tgt := 128) dX7_nextMode_121 rfl (fun e10 => ?_) (fun e10 => ?_)
            · refine am_iconst (v := -1) dX7_nextMode_128 (by decide) ?_
              exact am_iret dX7_nextMode_129 rfl rfl
            · refine am_iconst (v := 0) dX7_nextMode_124 (by decide) ?_
              refine am_goto (tgt := 129) dX7_nextMode_125 rfl ?_
              exact am_iret dX7_nextMode_129 rfl rfl
  refine am_icmp_ltL (tgt := 18) dX7_nextMode_3 rfl (fun e11 => ?_) (fun e11 => ?_)
  · refine am_iconst (v := 0) dX7_nextMode_18 (by decide) ?_
    refine am_sub (ls' := [(0, .int x0), (1, .int x1)]) [0, 1] rfl ?_
    exact hk2 _
  · refine am_iload_n dX7_nextMode_6 rfl 1 rfl ?_
    refine am_bipush (v := 48) dX7_nextMode_7 (by decide) ?_
    refine am_iload_n dX7_nextMode_9 rfl 2 rfl ?_
    refine am_iadd dX7_nextMode_10 ?_
    refine am_icmp_geL (tgt := 18) dX7_nextMode_11 rfl (fun e12 => ?_) (fun e12 => ?_)
    · refine am_iconst (v := 0) dX7_nextMode_18 (by decide) ?_
      refine am_sub (ls' := [(0, .int x0), (1, .int x1)]) [0, 1] rfl ?_
      exact hk2 _
    · refine am_iconst (v := 1) dX7_nextMode_14 (by decide) ?_
      refine am_goto (tgt := 19) dX7_nextMode_15 rfl ?_
      refine am_sub (ls' := [(0, .int x0), (1, .int x1)]) [0, 1] rfl ?_
      exact hk2 _
