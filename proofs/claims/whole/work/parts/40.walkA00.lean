abbrev kX0_clear : am_K := (cX0_clear, 3, RX0, wsX0_clear, none, { frames := 0, cells := 0, slots := 0, locals := 0 })
theorem hX0_clear : am_cl yX0_clear kX0_clear 1 := ⟨⟨_, rfl⟩, rfl, rfl, by decide +kernel, by decide +kernel, by decide +kernel⟩
theorem iX0_clear_0 : ∀ w ∈ u_ws RX0 TX0 4, w ∈ wsX0_clear := by decide +kernel
theorem fX0_clear_9 : Cond.fieldLink RX0 9 "AmbiguityAnalyzer$Automaton" "states" "I" ∈ wsX0_clear := by decide +kernel
theorem fX0_clear_19 : Cond.fieldLink RX0 19 "AmbiguityAnalyzer$Automaton" "initials" "I" ∈ wsX0_clear := by decide +kernel
theorem fX0_clear_22 : Cond.fieldLink RX0 22 "AmbiguityAnalyzer$Automaton" "finals" "I" ∈ wsX0_clear := by decide +kernel
theorem fX0_clear_15 : Cond.fieldLink RX0 15 "AmbiguityAnalyzer$Automaton" "targets" "[I" ∈ wsX0_clear := by decide +kernel
set_option maxRecDepth 100000 in
set_option maxHeartbeats 4000000 in
theorem vX0_clear_17 {Z : am_Z} {X : am_X} (R : am_R) (L : am_L) (a0 : Nat) (h4 : am_G Z a0 = some (.inl 0)) (ih7 : Int32 → am_I → Option (am_I)) (hih7 : ∀ (v5 : Int32) (J6 : am_I), am_V Z X kX0_clear (fun r : am_I => (none, R, r, L)) 17 [(0, .ref (am_B Z + a0)), (2, .int v5)] [] R J6 L (ih7 v5 J6)) (v5 : Int32) (J6 : am_I) : am_V Z X kX0_clear (fun r : am_I => (none, R, r, L)) 17 [(0, .ref (am_B Z + a0)), (2, .int v5)] [] R J6 L (sX0_clear_17 R a0 ih7 v5 J6) := by
  unfold sX0_clear_17
  refine am_iload_n dX0_clear_17 rfl 1 rfl ?_
  refine am_aload_n dX0_clear_18 rfl 0 rfl ?_
  refine am_getR 0 3 clX0 (Nat.le_of_ble_eq_true rfl) h4 iX0_clear_0 fX0_clear_15 rfl rfl dX0_clear_19 (fun h8 => ?_)
  refine am_alen (t := 0) (v := 18) rfl h8 (by decide) dX0_clear_22 ?_
  refine am_icmp_ge (tgt := 39) dX0_clear_23 rfl (fun e9 => ?_) (fun e9 => ?_)
  · exact am_vret dX0_clear_39 rfl rfl
  · refine am_aload_n dX0_clear_26 rfl 0 rfl ?_
    refine am_getR 0 3 clX0 (Nat.le_of_ble_eq_true rfl) h4 iX0_clear_0 fX0_clear_15 rfl rfl dX0_clear_27 (fun h10 => ?_)
    refine am_iload_n dX0_clear_30 rfl 1 rfl ?_
    refine am_iconst (v := 0) dX0_clear_31 (by decide) ?_
    refine am_iast h10 dX0_clear_32 ?_
    refine am_letI (fun J11 => ?_)
    refine am_iinc (j := 1) (ls' := [(2, .int (v5 + (1 : Int32))), (0, .ref (am_B Z + a0))]) dX0_clear_33 rfl rfl (Nat.le_of_ble_eq_true rfl) rfl ?_
    refine am_goto (tgt := 17) dX0_clear_36 rfl ?_
    refine am_sub (ls' := [(0, .ref (am_B Z + a0)), (2, .int (v5 + (1 : Int32)))]) [1, 0] rfl ?_
    exact hih7 (v5 + (1 : Int32)) J11
theorem uX0_clear_17 {Z : am_Z} {X : am_X} (R : am_R) (L : am_L) (a0 : Nat) (h4 : am_G Z a0 = some (.inl 0)) : ∀ (n : Nat) (v5 : Int32) (J6 : am_I), am_V Z X kX0_clear (fun r : am_I => (none, R, r, L)) 17 [(0, .ref (am_B Z + a0)), (2, .int v5)] [] R J6 L (lX0_clear_17 R a0 n v5 J6) := by
  intro n
  induction n with
  | zero => intro _ _; exact am_none
  | succ n ih => exact fun v5 J6 => vX0_clear_17 R L a0 h4 (lX0_clear_17 R a0 n) ih v5 J6
set_option maxRecDepth 100000 in
set_option maxHeartbeats 4000000 in
theorem tX0_clear {Z : am_Z} (R : am_R) (I : am_I) (L : am_L) (a0 : Nat) (x1 : Int32) (h_a0 : am_G Z a0 = some (.inl 0)) : am_M Z yX0_clear kX0_clear [.ref (am_B Z + a0), .int x1] R I L (pX0_clear R I a0 x1) (fun r : am_I => (none, R, r, L)) := by
  refine am_entry (ls := [(0, .ref (am_B Z + a0)), (1, .int x1)]) (by decide) hX0_clear rfl (Nat.le_of_ble_eq_true rfl) rfl (fun X => ?_)
  unfold pX0_clear
  refine am_aload_n dX0_clear_0 rfl 0 rfl ?_
  refine am_iload_n dX0_clear_1 rfl 1 rfl ?_
  refine am_putI 0 0 clX0 (Nat.le_of_ble_eq_true rfl) h_a0 iX0_clear_0 fX0_clear_9 rfl rfl dX0_clear_2 ?_
  refine am_letI (fun J1 => ?_)
  refine am_aload_n dX0_clear_5 rfl 0 rfl ?_
  refine am_iconst (v := 0) dX0_clear_6 (by decide) ?_
  refine am_putI 0 1 clX0 (Nat.le_of_ble_eq_true rfl) h_a0 iX0_clear_0 fX0_clear_19 rfl rfl dX0_clear_7 ?_
  refine am_letI (fun J2 => ?_)
  refine am_aload_n dX0_clear_10 rfl 0 rfl ?_
  refine am_iconst (v := 0) dX0_clear_11 (by decide) ?_
  refine am_putI 0 2 clX0 (Nat.le_of_ble_eq_true rfl) h_a0 iX0_clear_0 fX0_clear_22 rfl rfl dX0_clear_12 ?_
  refine am_letI (fun J3 => ?_)
  refine am_iconst (v := 0) dX0_clear_15 (by decide) ?_
  refine am_istore_n (ls' := [(2, .int (0 : Int32)), (0, .ref (am_B Z + a0)), (1, .int x1)]) dX0_clear_16 rfl (Nat.le_of_ble_eq_true rfl) rfl ?_
  refine am_sub (ls' := [(0, .ref (am_B Z + a0)), (2, .int (0 : Int32))]) [1, 0] rfl ?_
  exact uX0_clear_17 R L a0 h_a0 am_fu (0 : Int32) J3
abbrev kX0_copyFrom : am_K := (cX0_copyFrom, 3, RX0, wsX0_copyFrom, none, { frames := 0, cells := 0, slots := 0, locals := 0 })
theorem hX0_copyFrom : am_cl yX0_copyFrom kX0_copyFrom 1 := ⟨⟨_, rfl⟩, rfl, rfl, by decide +kernel, by decide +kernel, by decide +kernel⟩
theorem iX0_copyFrom_0 : ∀ w ∈ u_ws RX0 TX0 4, w ∈ wsX0_copyFrom := by decide +kernel
theorem fX0_copyFrom_9 : Cond.fieldLink RX0 9 "AmbiguityAnalyzer$Automaton" "states" "I" ∈ wsX0_copyFrom := by decide +kernel
theorem fX0_copyFrom_19 : Cond.fieldLink RX0 19 "AmbiguityAnalyzer$Automaton" "initials" "I" ∈ wsX0_copyFrom := by decide +kernel
theorem fX0_copyFrom_22 : Cond.fieldLink RX0 22 "AmbiguityAnalyzer$Automaton" "finals" "I" ∈ wsX0_copyFrom := by decide +kernel
theorem fX0_copyFrom_15 : Cond.fieldLink RX0 15 "AmbiguityAnalyzer$Automaton" "targets" "[I" ∈ wsX0_copyFrom := by decide +kernel
set_option maxRecDepth 100000 in
set_option maxHeartbeats 4000000 in
theorem vX0_copyFrom_26 {Z : am_Z} {X : am_X} (R : am_R) (L : am_L) (a0 : Nat) (a1 : Nat) (h4 : am_G Z a0 = some (.inl 0)) (h5 : am_G Z a1 = some (.inl 0)) (ih8 : Int32 → am_I → Option (am_I)) (hih8 : ∀ (v6 : Int32) (J7 : am_I), am_V Z X kX0_copyFrom (fun r : am_I => (none, R, r, L)) 26 [(0, .ref (am_B Z + a0)), (1, .ref (am_B Z + a1)), (2, .int v6)] [] R J7 L (ih8 v6 J7)) (v6 : Int32) (J7 : am_I) : am_V Z X kX0_copyFrom (fun r : am_I => (none, R, r, L)) 26 [(0, .ref (am_B Z + a0)), (1, .ref (am_B Z + a1)), (2, .int v6)] [] R J7 L (sX0_copyFrom_26 R a0 a1 ih8 v6 J7) := by
  unfold sX0_copyFrom_26
  refine am_iload_n dX0_copyFrom_26 rfl 2 rfl ?_
  refine am_aload_n dX0_copyFrom_27 rfl 0 rfl ?_
  refine am_getR 0 3 clX0 (Nat.le_of_ble_eq_true rfl) h4 iX0_copyFrom_0 fX0_copyFrom_15 rfl rfl dX0_copyFrom_28 (fun h9 => ?_)
  refine am_alen (t := 0) (v := 18) rfl h9 (by decide) dX0_copyFrom_31 ?_
  refine am_icmp_ge (tgt := 53) dX0_copyFrom_32 rfl (fun e10 => ?_) (fun e10 => ?_)
  · exact am_vret dX0_copyFrom_53 rfl rfl
  · refine am_aload_n dX0_copyFrom_35 rfl 0 rfl ?_
    refine am_getR 0 3 clX0 (Nat.le_of_ble_eq_true rfl) h4 iX0_copyFrom_0 fX0_copyFrom_15 rfl rfl dX0_copyFrom_36 (fun h11 => ?_)
    refine am_iload_n dX0_copyFrom_39 rfl 2 rfl ?_
    refine am_aload_n dX0_copyFrom_40 rfl 1 rfl ?_
    refine am_getR 0 3 clX0 (Nat.le_of_ble_eq_true rfl) h5 iX0_copyFrom_0 fX0_copyFrom_15 rfl rfl dX0_copyFrom_41 (fun h12 => ?_)
    refine am_iload_n dX0_copyFrom_44 rfl 2 rfl ?_
    refine am_iald h12 dX0_copyFrom_45 ?_
    refine am_iast h11 dX0_copyFrom_46 ?_
    refine am_letI (fun J13 => ?_)
    refine am_iinc (j := 2) (ls' := [(2, .int (v6 + (1 : Int32))), (0, .ref (am_B Z + a0)), (1, .ref (am_B Z + a1))]) dX0_copyFrom_47 rfl rfl (Nat.le_of_ble_eq_true rfl) rfl ?_
    refine am_goto (tgt := 26) dX0_copyFrom_50 rfl ?_
    refine am_sub (ls' := [(0, .ref (am_B Z + a0)), (1, .ref (am_B Z + a1)), (2, .int (v6 + (1 : Int32)))]) [1, 2, 0] rfl ?_
    exact hih8 (v6 + (1 : Int32)) J13
theorem uX0_copyFrom_26 {Z : am_Z} {X : am_X} (R : am_R) (L : am_L) (a0 : Nat) (a1 : Nat) (h4 : am_G Z a0 = some (.inl 0)) (h5 : am_G Z a1 = some (.inl 0)) : ∀ (n : Nat) (v6 : Int32) (J7 : am_I), am_V Z X kX0_copyFrom (fun r : am_I => (none, R, r, L)) 26 [(0, .ref (am_B Z + a0)), (1, .ref (am_B Z + a1)), (2, .int v6)] [] R J7 L (lX0_copyFrom_26 R a0 a1 n v6 J7) := by
  intro n
  induction n with
  | zero => intro _ _; exact am_none
  | succ n ih => exact fun v6 J7 => vX0_copyFrom_26 R L a0 a1 h4 h5 (lX0_copyFrom_26 R a0 a1 n) ih v6 J7
set_option maxRecDepth 100000 in
set_option maxHeartbeats 4000000 in
theorem tX0_copyFrom {Z : am_Z} (R : am_R) (I : am_I) (L : am_L) (a0 : Nat) (a1 : Nat) (h_a0 : am_G Z a0 = some (.inl 0)) (h_a1 : am_G Z a1 = some (.inl 0)) : am_M Z yX0_copyFrom kX0_copyFrom [.ref (am_B Z + a0), .ref (am_B Z + a1)] R I L (pX0_copyFrom R I a0 a1) (fun r : am_I => (none, R, r, L)) := by
  refine am_entry (ls := [(0, .ref (am_B Z + a0)), (1, .ref (am_B Z + a1))]) (by decide) hX0_copyFrom rfl (Nat.le_of_ble_eq_true rfl) rfl (fun X => ?_)
  unfold pX0_copyFrom
  refine am_aload_n dX0_copyFrom_0 rfl 0 rfl ?_
  refine am_aload_n dX0_copyFrom_1 rfl 1 rfl ?_
  refine am_get 0 0 clX0 (Nat.le_of_ble_eq_true rfl) h_a1 iX0_copyFrom_0 fX0_copyFrom_9 rfl dX0_copyFrom_2 ?_
  refine am_putI 0 0 clX0 (Nat.le_of_ble_eq_true rfl) h_a0 iX0_copyFrom_0 fX0_copyFrom_9 rfl rfl dX0_copyFrom_5 ?_
  refine am_letI (fun J1 => ?_)
  refine am_aload_n dX0_copyFrom_8 rfl 0 rfl ?_
  refine am_aload_n dX0_copyFrom_9 rfl 1 rfl ?_
  refine am_get 0 1 clX0 (Nat.le_of_ble_eq_true rfl) h_a1 iX0_copyFrom_0 fX0_copyFrom_19 rfl dX0_copyFrom_10 ?_
  refine am_putI 0 1 clX0 (Nat.le_of_ble_eq_true rfl) h_a0 iX0_copyFrom_0 fX0_copyFrom_19 rfl rfl dX0_copyFrom_13 ?_
  refine am_letI (fun J2 => ?_)
  refine am_aload_n dX0_copyFrom_16 rfl 0 rfl ?_
  refine am_aload_n dX0_copyFrom_17 rfl 1 rfl ?_
  refine am_get 0 2 clX0 (Nat.le_of_ble_eq_true rfl) h_a1 iX0_copyFrom_0 fX0_copyFrom_22 rfl dX0_copyFrom_18 ?_
  refine am_putI 0 2 clX0 (Nat.le_of_ble_eq_true rfl) h_a0 iX0_copyFrom_0 fX0_copyFrom_22 rfl rfl dX0_copyFrom_21 ?_
  refine am_letI (fun J3 => ?_)
  refine am_iconst (v := 0) dX0_copyFrom_24 (by decide) ?_
  refine am_istore_n (ls' := [(2, .int (0 : Int32)), (0, .ref (am_B Z + a0)), (1, .ref (am_B Z + a1))]) dX0_copyFrom_25 rfl (Nat.le_of_ble_eq_true rfl) rfl ?_
  refine am_sub (ls' := [(0, .ref (am_B Z + a0)), (1, .ref (am_B Z + a1)), (2, .int (0 : Int32))]) [1, 2, 0] rfl ?_
  exact uX0_copyFrom_26 R L a0 a1 h_a0 h_a1 am_fu (0 : Int32) J3
abbrev kX0_hasState : am_K := (cX0_hasState, 2, RX0, wsX0_hasState, some .boolean, { frames := 0, cells := 0, slots := 0, locals := 0 })
theorem hX0_hasState : am_cl yX0_hasState kX0_hasState 1 := ⟨⟨_, rfl⟩, rfl, rfl, by decide +kernel, by decide +kernel, by decide +kernel⟩
theorem iX0_hasState_0 : ∀ w ∈ u_ws RX0 TX0 4, w ∈ wsX0_hasState := by decide +kernel
theorem fX0_hasState_9 : Cond.fieldLink RX0 9 "AmbiguityAnalyzer$Automaton" "states" "I" ∈ wsX0_hasState := by decide +kernel
set_option maxRecDepth 100000 in
set_option maxHeartbeats 4000000 in
theorem tX0_hasState {Z : am_Z} (R : am_R) (I : am_I) (L : am_L) (a0 : Nat) (x1 : Int32) (h_a0 : am_G Z a0 = some (.inl 0)) : am_M Z yX0_hasState kX0_hasState [.ref (am_B Z + a0), .int x1] R I L (pX0_hasState I a0 x1) (fun r : Int32 => (some (.int r), R, I, L)) := by
  refine am_entry (ls := [(0, .ref (am_B Z + a0)), (1, .int x1)]) (by decide) hX0_hasState rfl (Nat.le_of_ble_eq_true rfl) rfl (fun X => ?_)
  unfold pX0_hasState
  refine am_iload_n dX0_hasState_0 rfl 1 rfl ?_
  refine am_if_lt (tgt := 16) dX0_hasState_1 rfl (fun e1 => ?_) (fun e1 => ?_)
  · refine am_iconst (v := 0) dX0_hasState_16 (by decide) ?_
    exact am_zret (by decide) dX0_hasState_17 rfl rfl
  · refine am_iload_n dX0_hasState_4 rfl 1 rfl ?_
    refine am_aload_n dX0_hasState_5 rfl 0 rfl ?_
    refine am_get 0 0 clX0 (Nat.le_of_ble_eq_true rfl) h_a0 iX0_hasState_0 fX0_hasState_9 rfl dX0_hasState_6 ?_
    refine am_icmp_ge (tgt := 16) dX0_hasState_9 rfl (fun e2 => ?_) (fun e2 => ?_)
    · refine am_iconst (v := 0) dX0_hasState_16 (by decide) ?_
      exact am_zret (by decide) dX0_hasState_17 rfl rfl
    · refine am_iconst (v := 1) dX0_hasState_12 (by decide) ?_
      refine am_goto (tgt := 17) dX0_hasState_13 rfl ?_
      exact am_zret (by decide) dX0_hasState_17 rfl rfl
abbrev kX10_isLetter : am_K := (cX10_isLetter, 1, RX10, wsX10_isLetter, some .boolean, { frames := 0, cells := 0, slots := 0, locals := 0 })
theorem hX10_isLetter : am_cl yX10_isLetter kX10_isLetter 1 := ⟨⟨_, rfl⟩, rfl, rfl, by decide +kernel, by decide +kernel, by decide +kernel⟩
set_option maxRecDepth 100000 in
set_option maxHeartbeats 4000000 in
theorem tX10_isLetter {Z : am_Z} (R : am_R) (I : am_I) (L : am_L) (x0 : Int32)  : am_M Z yX10_isLetter kX10_isLetter [.int x0] R I L (pX10_isLetter x0) (fun r : Int32 => (some (.int r), R, I, L)) := by
  refine am_entry (ls := [(0, .int x0)]) (by decide) hX10_isLetter rfl (Nat.le_of_ble_eq_true rfl) rfl (fun X => ?_)
  unfold pX10_isLetter
  refine am_iload_n dX10_isLetter_0 rfl 0 rfl ?_
  refine am_if_lt (tgt := 13) dX10_isLetter_1 rfl (fun e1 => ?_) (fun e1 => ?_)
  · refine am_iconst (v := 0) dX10_isLetter_13 (by decide) ?_
    exact am_zret (by decide) dX10_isLetter_14 rfl rfl
  · refine am_iload_n dX10_isLetter_4 rfl 0 rfl ?_
    refine am_iconst (v := 3) dX10_isLetter_5 (by decide) ?_
    refine am_icmp_ge (tgt := 13) dX10_isLetter_6 rfl (fun e2 => ?_) (fun e2 => ?_)
    · refine am_iconst (v := 0) dX10_isLetter_13 (by decide) ?_
      exact am_zret (by decide) dX10_isLetter_14 rfl rfl
    · refine am_iconst (v := 1) dX10_isLetter_9 (by decide) ?_
      refine am_goto (tgt := 14) dX10_isLetter_10 rfl ?_
      exact am_zret (by decide) dX10_isLetter_14 rfl rfl
abbrev kX0_couldHave : am_K := (cX0_couldHave, 4, RX0, wsX0_couldHave, some .boolean, { frames := 1, cells := 0, slots := 0, locals := 21 })
theorem hX0_couldHave : am_cl yX0_couldHave kX0_couldHave 3 := ⟨⟨_, rfl⟩, rfl, rfl, by decide +kernel, by decide +kernel, by decide +kernel⟩
set_option maxRecDepth 100000 in
set_option maxHeartbeats 4000000 in
theorem tX0_couldHave {Z : am_Z} (R : am_R) (I : am_I) (L : am_L) (a0 : Nat) (x1 : Int32) (x2 : Int32) (x3 : Int32) (h_a0 : am_G Z a0 = some (.inl 0)) : am_M Z yX0_couldHave kX0_couldHave [.ref (am_B Z + a0), .int x1, .int x2, .int x3] R I L (pX0_couldHave I a0 x1 x2 x3) (fun r : Int32 => (some (.int r), R, I, L)) := by
  refine am_entry (ls := [(0, .ref (am_B Z + a0)), (1, .int x1), (2, .int x2), (3, .int x3)]) (by decide) hX0_couldHave rfl (Nat.le_of_ble_eq_true rfl) rfl (fun X => ?_)
  unfold pX0_couldHave
  refine am_aload_n dX0_couldHave_0 rfl 0 rfl ?_
  refine am_iload_n dX0_couldHave_1 rfl 1 rfl ?_
  refine am_callV [.int x1] (tX0_hasState R I L a0 x1 h_a0) h_a0 clX0 gX0_couldHave_X0_hasState hX0_hasState rfl ⟨Nat.le_of_ble_eq_true rfl, Nat.le_of_ble_eq_true rfl⟩ rfl rfl (Nat.le_of_ble_eq_true rfl) dX0_couldHave_2 (fun r1 => ?_)
  show am_V Z X kX0_couldHave (fun r : Int32 => (some (.int r), R, I, L)) 5 [(0, .ref (am_B Z + a0)), (1, .int x1), (2, .int x2), (3, .int x3)] [.int r1] R I L _
  refine am_if_eq (tgt := 27) dX0_couldHave_5 rfl (fun e2 => ?_) (fun e2 => ?_)
  · refine am_iconst (v := 0) dX0_couldHave_27 (by decide) ?_
    exact am_zret (by decide) dX0_couldHave_28 rfl rfl
  · refine am_iload_n dX0_couldHave_8 rfl 2 rfl ?_
    refine am_callN (host := RX10) [.int x2] (tX10_isLetter R I L x2) gX0_couldHave_X10_isLetter_n29 (by decide +kernel) (by decide +kernel) (by decide +kernel) hX10_isLetter ⟨Nat.le_of_ble_eq_true rfl, Nat.le_of_ble_eq_true rfl⟩ rfl rfl (Nat.le_of_ble_eq_true rfl) dX0_couldHave_9 (fun r3 => ?_)
    show am_V Z X kX0_couldHave (fun r : Int32 => (some (.int r), R, I, L)) 12 [(0, .ref (am_B Z + a0)), (1, .int x1), (2, .int x2), (3, .int x3)] [.int r3] R I L _
    refine am_if_eq (tgt := 27) dX0_couldHave_12 rfl (fun e4 => ?_) (fun e4 => ?_)
    · refine am_iconst (v := 0) dX0_couldHave_27 (by decide) ?_
      exact am_zret (by decide) dX0_couldHave_28 rfl rfl
    · refine am_aload_n dX0_couldHave_15 rfl 0 rfl ?_
      refine am_iload_n dX0_couldHave_16 rfl 3 rfl ?_
      refine am_callV [.int x3] (tX0_hasState R I L a0 x3 h_a0) h_a0 clX0 gX0_couldHave_X0_hasState hX0_hasState rfl ⟨Nat.le_of_ble_eq_true rfl, Nat.le_of_ble_eq_true rfl⟩ rfl rfl (Nat.le_of_ble_eq_true rfl) dX0_couldHave_17 (fun r5 => ?_)
      show am_V Z X kX0_couldHave (fun r : Int32 => (some (.int r), R, I, L)) 20 [(0, .ref (am_B Z + a0)), (1, .int x1), (2, .int x2), (3, .int x3)] [.int r5] R I L _
      refine am_if_eq (tgt := 27) dX0_couldHave_20 rfl (fun e6 => ?_) (fun e6 => ?_)
      · refine am_iconst (v := 0) dX0_couldHave_27 (by decide) ?_
        exact am_zret (by decide) dX0_couldHave_28 rfl rfl
      · refine am_iconst (v := 1) dX0_couldHave_23 (by decide) ?_
        refine am_goto (tgt := 28) dX0_couldHave_24 rfl ?_
        exact am_zret (by decide) dX0_couldHave_28 rfl rfl
abbrev kX0_targetsOf : am_K := (cX0_targetsOf, 4, RX0, wsX0_targetsOf, some .int, { frames := 0, cells := 0, slots := 0, locals := 0 })
theorem hX0_targetsOf : am_cl yX0_targetsOf kX0_targetsOf 2 := ⟨⟨_, rfl⟩, rfl, rfl, by decide +kernel, by decide +kernel, by decide +kernel⟩
theorem iX0_targetsOf_0 : ∀ w ∈ u_ws RX0 TX0 4, w ∈ wsX0_targetsOf := by decide +kernel
theorem fX0_targetsOf_9 : Cond.fieldLink RX0 9 "AmbiguityAnalyzer$Automaton" "states" "I" ∈ wsX0_targetsOf := by decide +kernel
theorem fX0_targetsOf_15 : Cond.fieldLink RX0 15 "AmbiguityAnalyzer$Automaton" "targets" "[I" ∈ wsX0_targetsOf := by decide +kernel
set_option maxRecDepth 100000 in
set_option maxHeartbeats 4000000 in
theorem tX0_targetsOf {Z : am_Z} (R : am_R) (I : am_I) (L : am_L) (a0 : Nat) (x1 : Int32) (x2 : Int32) (h_a0 : am_G Z a0 = some (.inl 0)) : am_M Z yX0_targetsOf kX0_targetsOf [.ref (am_B Z + a0), .int x1, .int x2] R I L (pX0_targetsOf R I a0 x1 x2) (fun r : Int32 => (some (.int r), R, I, L)) := by
  refine am_entry (ls := [(0, .ref (am_B Z + a0)), (1, .int x1), (2, .int x2)]) (by decide) hX0_targetsOf rfl (Nat.le_of_ble_eq_true rfl) rfl (fun X => ?_)
  unfold pX0_targetsOf
  refine am_iload_n dX0_targetsOf_0 rfl 1 rfl ?_
  refine am_letJ (fun k2 ek2 => ?_)
  have hk2 : ∀ v1 : Int32, am_V Z X kX0_targetsOf (fun r : Int32 => (some (.int r), R, I, L)) 26 [(0, .ref (am_B Z + a0)), (1, .int x1), (2, .int x2)] [.int v1] R I L (k2 v1) := by
    subst ek2
    intro v1
    show am_V Z X kX0_targetsOf (fun r : Int32 => (some (.int r), R, I, L)) 26 [(0, .ref (am_B Z + a0)), (1, .int x1), (2, .int x2)] [.int v1] R I L _
    refine am_istore_n (ls' := [(3, .int v1), (0, .ref (am_B Z + a0)), (1, .int x1), (2, .int x2)]) dX0_targetsOf_26 rfl (Nat.le_of_ble_eq_true rfl) rfl ?_
    refine am_iload_n dX0_targetsOf_27 rfl 0 rfl ?_
    refine am_if_eq (tgt := 44) dX0_targetsOf_28 rfl (fun e3 => ?_) (fun e3 => ?_)
    · refine am_iconst (v := 0) dX0_targetsOf_44 (by decide) ?_
      exact am_iret dX0_targetsOf_45 rfl rfl
    · refine am_aload_n dX0_targetsOf_31 rfl 1 rfl ?_
      refine am_getR 0 3 clX0 (Nat.le_of_ble_eq_true rfl) h_a0 iX0_targetsOf_0 fX0_targetsOf_15 rfl rfl dX0_targetsOf_32 (fun h4 => ?_)
      refine am_iload_n dX0_targetsOf_35 rfl 2 rfl ?_
      refine am_iconst (v := 3) dX0_targetsOf_36 (by decide) ?_
      refine am_imul dX0_targetsOf_37 ?_
      refine am_iload_n dX0_targetsOf_38 rfl 3 rfl ?_
      refine am_iadd dX0_targetsOf_39 ?_
      refine am_iald h4 dX0_targetsOf_40 ?_
      refine am_goto (tgt := 45) dX0_targetsOf_41 rfl ?_
      exact am_iret dX0_targetsOf_45 rfl rfl
  refine am_if_ltL (tgt := 25) dX0_targetsOf_1 rfl (fun e5 => ?_) (fun e5 => ?_)
  · refine am_iconst (v := 0) dX0_targetsOf_25 (by decide) ?_
    exact hk2 _
  · refine am_iload_n dX0_targetsOf_4 rfl 1 rfl ?_
    refine am_aload_n dX0_targetsOf_5 rfl 0 rfl ?_
    refine am_get 0 0 clX0 (Nat.le_of_ble_eq_true rfl) h_a0 iX0_targetsOf_0 fX0_targetsOf_9 rfl dX0_targetsOf_6 ?_
    refine am_icmp_geL (tgt := 25) dX0_targetsOf_9 rfl (fun e6 => ?_) (fun e6 => ?_)
    · refine am_iconst (v := 0) dX0_targetsOf_25 (by decide) ?_
      exact hk2 _
    · refine am_iload_n dX0_targetsOf_12 rfl 2 rfl ?_
      refine am_if_ltL (tgt := 25) dX0_targetsOf_13 rfl (fun e7 => ?_) (fun e7 => ?_)
      · refine am_iconst (v := 0) dX0_targetsOf_25 (by decide) ?_
        exact hk2 _
      · refine am_iload_n dX0_targetsOf_16 rfl 2 rfl ?_
        refine am_iconst (v := 3) dX0_targetsOf_17 (by decide) ?_
        refine am_icmp_geL (tgt := 25) dX0_targetsOf_18 rfl (fun e8 => ?_) (fun e8 => ?_)
        · refine am_iconst (v := 0) dX0_targetsOf_25 (by decide) ?_
          exact hk2 _
        · refine am_iconst (v := 1) dX0_targetsOf_21 (by decide) ?_
          refine am_goto (tgt := 26) dX0_targetsOf_22 rfl ?_
          exact hk2 _
abbrev kX10_contains : am_K := (cX10_contains, 2, RX10, wsX10_contains, some .boolean, { frames := 0, cells := 0, slots := 0, locals := 0 })
theorem hX10_contains : am_cl yX10_contains kX10_contains 2 := ⟨⟨_, rfl⟩, rfl, rfl, by decide +kernel, by decide +kernel, by decide +kernel⟩
set_option maxRecDepth 100000 in
set_option maxHeartbeats 4000000 in
theorem tX10_contains {Z : am_Z} (R : am_R) (I : am_I) (L : am_L) (x0 : Int32) (x1 : Int32)  : am_M Z yX10_contains kX10_contains [.int x0, .int x1] R I L (pX10_contains x0 x1) (fun r : Int32 => (some (.int r), R, I, L)) := by
  refine am_entry (ls := [(0, .int x0), (1, .int x1)]) (by decide) hX10_contains rfl (Nat.le_of_ble_eq_true rfl) rfl (fun X => ?_)
  unfold pX10_contains
  refine am_iload_n dX10_contains_0 rfl 0 rfl ?_
  refine am_iload_n dX10_contains_1 rfl 1 rfl ?_
  refine am_ishr dX10_contains_2 ?_
  refine am_iconst (v := 1) dX10_contains_3 (by decide) ?_
  refine am_iand dX10_contains_4 ?_
  refine am_if_eq (tgt := 12) dX10_contains_5 rfl (fun e1 => ?_) (fun e1 => ?_)
  · refine am_iconst (v := 0) dX10_contains_12 (by decide) ?_
    exact am_zret (by decide) dX10_contains_13 rfl rfl
  · refine am_iconst (v := 1) dX10_contains_8 (by decide) ?_
    refine am_goto (tgt := 13) dX10_contains_9 rfl ?_
    exact am_zret (by decide) dX10_contains_13 rfl rfl
abbrev kX0_add : am_K := (cX0_add, 4, RX0, wsX0_add, some .boolean, { frames := 2, cells := 0, slots := 0, locals := 44 })
theorem hX0_add : am_cl yX0_add kX0_add 3 := ⟨⟨_, rfl⟩, rfl, rfl, by decide +kernel, by decide +kernel, by decide +kernel⟩
theorem iX0_add_0 : ∀ w ∈ u_ws RX0 TX0 4, w ∈ wsX0_add := by decide +kernel
theorem fX0_add_15 : Cond.fieldLink RX0 15 "AmbiguityAnalyzer$Automaton" "targets" "[I" ∈ wsX0_add := by decide +kernel
set_option maxRecDepth 100000 in
set_option maxHeartbeats 4000000 in
theorem tX0_add {Z : am_Z} (R : am_R) (I : am_I) (L : am_L) (a0 : Nat) (x1 : Int32) (x2 : Int32) (x3 : Int32) (h_a0 : am_G Z a0 = some (.inl 0)) : am_M Z yX0_add kX0_add [.ref (am_B Z + a0), .int x1, .int x2, .int x3] R I L (pX0_add R I a0 x1 x2 x3) (fun r : Int32 × am_I => (some (.int r.1), R, r.2, L)) := by
  refine am_entry (ls := [(0, .ref (am_B Z + a0)), (1, .int x1), (2, .int x2), (3, .int x3)]) (by decide) hX0_add rfl (Nat.le_of_ble_eq_true rfl) rfl (fun X => ?_)
  unfold pX0_add
  refine am_aload_n dX0_add_0 rfl 0 rfl ?_
  refine am_iload_n dX0_add_1 rfl 1 rfl ?_
  refine am_iload_n dX0_add_2 rfl 2 rfl ?_
  refine am_iload_n dX0_add_3 rfl 3 rfl ?_
  refine am_callV [.int x1, .int x2, .int x3] (tX0_couldHave R I L a0 x1 x2 x3 h_a0) h_a0 clX0 gX0_add_X0_couldHave hX0_couldHave rfl ⟨Nat.le_of_ble_eq_true rfl, Nat.le_of_ble_eq_true rfl⟩ rfl rfl (Nat.le_of_ble_eq_true rfl) dX0_add_4 (fun r1 => ?_)
  show am_V Z X kX0_add (fun r : Int32 × am_I => (some (.int r.1), R, r.2, L)) 7 [(0, .ref (am_B Z + a0)), (1, .int x1), (2, .int x2), (3, .int x3)] [.int r1] R I L _
  refine am_if_eq (tgt := 23) dX0_add_7 rfl (fun e2 => ?_) (fun e2 => ?_)
  · refine am_iconst (v := 0) dX0_add_23 (by decide) ?_
    exact am_zret (by decide) dX0_add_24 rfl rfl
  · refine am_aload_n dX0_add_10 rfl 0 rfl ?_
    refine am_iload_n dX0_add_11 rfl 1 rfl ?_
    refine am_iload_n dX0_add_12 rfl 2 rfl ?_
    refine am_callV [.int x1, .int x2] (tX0_targetsOf R I L a0 x1 x2 h_a0) h_a0 clX0 gX0_add_X0_targetsOf hX0_targetsOf rfl ⟨Nat.le_of_ble_eq_true rfl, Nat.le_of_ble_eq_true rfl⟩ rfl rfl (Nat.le_of_ble_eq_true rfl) dX0_add_13 (fun r3 => ?_)
    show am_V Z X kX0_add (fun r : Int32 × am_I => (some (.int r.1), R, r.2, L)) 16 [(0, .ref (am_B Z + a0)), (1, .int x1), (2, .int x2), (3, .int x3)] [.int r3] R I L _
    refine am_iload_n dX0_add_16 rfl 3 rfl ?_
    refine am_callN (host := RX10) [.int r3, .int x3] (tX10_contains R I L r3 x3) gX0_add_X10_contains_n40 (by decide +kernel) (by decide +kernel) (by decide +kernel) hX10_contains ⟨Nat.le_of_ble_eq_true rfl, Nat.le_of_ble_eq_true rfl⟩ rfl rfl (Nat.le_of_ble_eq_true rfl) dX0_add_17 (fun r4 => ?_)
    show am_V Z X kX0_add (fun r : Int32 × am_I => (some (.int r.1), R, r.2, L)) 20 [(0, .ref (am_B Z + a0)), (1, .int x1), (2, .int x2), (3, .int x3)] [.int r4] R I L _
    refine am_if_eq (tgt := 25) dX0_add_20 rfl (fun e5 => ?_) (fun e5 => ?_)
    · refine am_aload_n dX0_add_25 rfl 0 rfl ?_
      refine am_getR 0 3 clX0 (Nat.le_of_ble_eq_true rfl) h_a0 iX0_add_0 fX0_add_15 rfl rfl dX0_add_26 (fun h6 => ?_)
      refine am_iload_n dX0_add_29 rfl 1 rfl ?_
      refine am_iconst (v := 3) dX0_add_30 (by decide) ?_
      refine am_imul dX0_add_31 ?_
      refine am_iload_n dX0_add_32 rfl 2 rfl ?_
      refine am_iadd dX0_add_33 ?_
      refine am_dup2 dX0_add_34 rfl rfl ?_
      refine am_iald h6 dX0_add_35 ?_
      refine am_iconst (v := 1) dX0_add_36 (by decide) ?_
      refine am_iload_n dX0_add_37 rfl 3 rfl ?_
      refine am_ishl dX0_add_38 ?_
      refine am_ior dX0_add_39 ?_
      refine am_iast h6 dX0_add_40 ?_
      refine am_letI (fun J7 => ?_)
      refine am_iconst (v := 1) dX0_add_41 (by decide) ?_
      exact am_zret (by decide) dX0_add_42 rfl rfl
    · refine am_iconst (v := 0) dX0_add_23 (by decide) ?_
      exact am_zret (by decide) dX0_add_24 rfl rfl
abbrev kX0_remove : am_K := (cX0_remove, 4, RX0, wsX0_remove, some .boolean, { frames := 2, cells := 0, slots := 0, locals := 44 })
theorem hX0_remove : am_cl yX0_remove kX0_remove 3 := ⟨⟨_, rfl⟩, rfl, rfl, by decide +kernel, by decide +kernel, by decide +kernel⟩
theorem iX0_remove_0 : ∀ w ∈ u_ws RX0 TX0 4, w ∈ wsX0_remove := by decide +kernel
theorem fX0_remove_15 : Cond.fieldLink RX0 15 "AmbiguityAnalyzer$Automaton" "targets" "[I" ∈ wsX0_remove := by decide +kernel
set_option maxRecDepth 100000 in
set_option maxHeartbeats 4000000 in
theorem tX0_remove {Z : am_Z} (R : am_R) (I : am_I) (L : am_L) (a0 : Nat) (x1 : Int32) (x2 : Int32) (x3 : Int32) (h_a0 : am_G Z a0 = some (.inl 0)) : am_M Z yX0_remove kX0_remove [.ref (am_B Z + a0), .int x1, .int x2, .int x3] R I L (pX0_remove R I a0 x1 x2 x3) (fun r : Int32 × am_I => (some (.int r.1), R, r.2, L)) := by
  refine am_entry (ls := [(0, .ref (am_B Z + a0)), (1, .int x1), (2, .int x2), (3, .int x3)]) (by decide) hX0_remove rfl (Nat.le_of_ble_eq_true rfl) rfl (fun X => ?_)
  unfold pX0_remove
  refine am_aload_n dX0_remove_0 rfl 0 rfl ?_
  refine am_iload_n dX0_remove_1 rfl 1 rfl ?_
  refine am_iload_n dX0_remove_2 rfl 2 rfl ?_
  refine am_iload_n dX0_remove_3 rfl 3 rfl ?_
  refine am_callV [.int x1, .int x2, .int x3] (tX0_couldHave R I L a0 x1 x2 x3 h_a0) h_a0 clX0 gX0_remove_X0_couldHave hX0_couldHave rfl ⟨Nat.le_of_ble_eq_true rfl, Nat.le_of_ble_eq_true rfl⟩ rfl rfl (Nat.le_of_ble_eq_true rfl) dX0_remove_4 (fun r1 => ?_)
  show am_V Z X kX0_remove (fun r : Int32 × am_I => (some (.int r.1), R, r.2, L)) 7 [(0, .ref (am_B Z + a0)), (1, .int x1), (2, .int x2), (3, .int x3)] [.int r1] R I L _
  refine am_if_eq (tgt := 23) dX0_remove_7 rfl (fun e2 => ?_) (fun e2 => ?_)
  · refine am_iconst (v := 0) dX0_remove_23 (by decide) ?_
    exact am_zret (by decide) dX0_remove_24 rfl rfl
  · refine am_aload_n dX0_remove_10 rfl 0 rfl ?_
    refine am_iload_n dX0_remove_11 rfl 1 rfl ?_
    refine am_iload_n dX0_remove_12 rfl 2 rfl ?_
    refine am_callV [.int x1, .int x2] (tX0_targetsOf R I L a0 x1 x2 h_a0) h_a0 clX0 gX0_remove_X0_targetsOf hX0_targetsOf rfl ⟨Nat.le_of_ble_eq_true rfl, Nat.le_of_ble_eq_true rfl⟩ rfl rfl (Nat.le_of_ble_eq_true rfl) dX0_remove_13 (fun r3 => ?_)
    show am_V Z X kX0_remove (fun r : Int32 × am_I => (some (.int r.1), R, r.2, L)) 16 [(0, .ref (am_B Z + a0)), (1, .int x1), (2, .int x2), (3, .int x3)] [.int r3] R I L _
    refine am_iload_n dX0_remove_16 rfl 3 rfl ?_
    refine am_callN (host := RX10) [.int r3, .int x3] (tX10_contains R I L r3 x3) gX0_remove_X10_contains_n40 (by decide +kernel) (by decide +kernel) (by decide +kernel) hX10_contains ⟨Nat.le_of_ble_eq_true rfl, Nat.le_of_ble_eq_true rfl⟩ rfl rfl (Nat.le_of_ble_eq_true rfl) dX0_remove_17 (fun r4 => ?_)
    show am_V Z X kX0_remove (fun r : Int32 × am_I => (some (.int r.1), R, r.2, L)) 20 [(0, .ref (am_B Z + a0)), (1, .int x1), (2, .int x2), (3, .int x3)] [.int r4] R I L _
    refine am_if_ne (tgt := 25) dX0_remove_20 rfl (fun e5 => ?_) (fun e5 => ?_)
    · refine am_aload_n dX0_remove_25 rfl 0 rfl ?_
      refine am_getR 0 3 clX0 (Nat.le_of_ble_eq_true rfl) h_a0 iX0_remove_0 fX0_remove_15 rfl rfl dX0_remove_26 (fun h6 => ?_)
      refine am_iload_n dX0_remove_29 rfl 1 rfl ?_
      refine am_iconst (v := 3) dX0_remove_30 (by decide) ?_
      refine am_imul dX0_remove_31 ?_
      refine am_iload_n dX0_remove_32 rfl 2 rfl ?_
      refine am_iadd dX0_remove_33 ?_
      refine am_dup2 dX0_remove_34 rfl rfl ?_
      refine am_iald h6 dX0_remove_35 ?_
      refine am_iconst (v := 1) dX0_remove_36 (by decide) ?_
      refine am_iload_n dX0_remove_37 rfl 3 rfl ?_
      refine am_ishl dX0_remove_38 ?_
      refine am_iconst (v := -1) dX0_remove_39 (by decide) ?_
      refine am_ixor dX0_remove_40 ?_
      refine am_iand dX0_remove_41 ?_
      refine am_iast h6 dX0_remove_42 ?_
      refine am_letI (fun J7 => ?_)
      refine am_iconst (v := 1) dX0_remove_43 (by decide) ?_
      exact am_zret (by decide) dX0_remove_44 rfl rfl
    · refine am_iconst (v := 0) dX0_remove_23 (by decide) ?_
      exact am_zret (by decide) dX0_remove_24 rfl rfl
abbrev kJ6_bitCount_0f7a4 : am_K := (cJ6_bitCount_0f7a4, 1, RJ6, wsJ6_bitCount_0f7a4, some .int, { frames := 0, cells := 0, slots := 0, locals := 0 })
theorem hJ6_bitCount_0f7a4 : am_cl yJ6_bitCount_0f7a4 kJ6_bitCount_0f7a4 1 := ⟨⟨_, rfl⟩, rfl, rfl, by decide +kernel, by decide +kernel, by decide +kernel⟩
set_option maxRecDepth 100000 in
set_option maxHeartbeats 4000000 in
theorem tJ6_bitCount_0f7a4 {Z : am_Z} (R : am_R) (I : am_I) (L : am_L) (x0 : Int32)  : am_M Z yJ6_bitCount_0f7a4 kJ6_bitCount_0f7a4 [.int x0] R I L (pJ6_bitCount_0f7a4 x0) (fun r : Int32 => (some (.int r), R, I, L)) := by
  refine am_entry (ls := [(0, .int x0)]) (by decide) hJ6_bitCount_0f7a4 rfl (Nat.le_of_ble_eq_true rfl) rfl (fun X => ?_)
  unfold pJ6_bitCount_0f7a4
  refine am_iload_n dJ6_bitCount_0f7a4_0 rfl 0 rfl ?_
  refine am_iload_n dJ6_bitCount_0f7a4_1 rfl 0 rfl ?_
  refine am_iconst (v := 1) dJ6_bitCount_0f7a4_2 (by decide) ?_
  refine am_iushr dJ6_bitCount_0f7a4_3 ?_
  refine am_ldcw (v := 1431655765) dJ6_bitCount_0f7a4_4 (by decide +kernel) ?_
  refine am_iand dJ6_bitCount_0f7a4_7 ?_
  refine am_isub dJ6_bitCount_0f7a4_8 ?_
  refine am_letTi (fun v1 => ?_)
  refine am_istore_n (ls' := [(0, .int v1)]) dJ6_bitCount_0f7a4_9 rfl (Nat.le_of_ble_eq_true rfl) rfl ?_
  refine am_iload_n dJ6_bitCount_0f7a4_10 rfl 0 rfl ?_
  refine am_ldcw (v := 858993459) dJ6_bitCount_0f7a4_11 (by decide +kernel) ?_
  refine am_iand dJ6_bitCount_0f7a4_14 ?_
  refine am_iload_n dJ6_bitCount_0f7a4_15 rfl 0 rfl ?_
  refine am_iconst (v := 2) dJ6_bitCount_0f7a4_16 (by decide) ?_
  refine am_iushr dJ6_bitCount_0f7a4_17 ?_
  refine am_ldcw (v := 858993459) dJ6_bitCount_0f7a4_18 (by decide +kernel) ?_
  refine am_iand dJ6_bitCount_0f7a4_21 ?_
  refine am_iadd dJ6_bitCount_0f7a4_22 ?_
  refine am_letTi (fun v2 => ?_)
  refine am_istore_n (ls' := [(0, .int v2)]) dJ6_bitCount_0f7a4_23 rfl (Nat.le_of_ble_eq_true rfl) rfl ?_
  refine am_iload_n dJ6_bitCount_0f7a4_24 rfl 0 rfl ?_
  refine am_iload_n dJ6_bitCount_0f7a4_25 rfl 0 rfl ?_
  refine am_iconst (v := 4) dJ6_bitCount_0f7a4_26 (by decide) ?_
  refine am_iushr dJ6_bitCount_0f7a4_27 ?_
  refine am_iadd dJ6_bitCount_0f7a4_28 ?_
  refine am_ldcw (v := 252645135) dJ6_bitCount_0f7a4_29 (by decide +kernel) ?_
  refine am_iand dJ6_bitCount_0f7a4_32 ?_
  refine am_letTi (fun v3 => ?_)
  refine am_istore_n (ls' := [(0, .int v3)]) dJ6_bitCount_0f7a4_33 rfl (Nat.le_of_ble_eq_true rfl) rfl ?_
  refine am_iload_n dJ6_bitCount_0f7a4_34 rfl 0 rfl ?_
  refine am_iload_n dJ6_bitCount_0f7a4_35 rfl 0 rfl ?_
  refine am_bipush (v := 8) dJ6_bitCount_0f7a4_36 (by decide) ?_
  refine am_iushr dJ6_bitCount_0f7a4_38 ?_
  refine am_iadd dJ6_bitCount_0f7a4_39 ?_
  refine am_letTi (fun v4 => ?_)
  refine am_istore_n (ls' := [(0, .int v4)]) dJ6_bitCount_0f7a4_40 rfl (Nat.le_of_ble_eq_true rfl) rfl ?_
  refine am_iload_n dJ6_bitCount_0f7a4_41 rfl 0 rfl ?_
  refine am_iload_n dJ6_bitCount_0f7a4_42 rfl 0 rfl ?_
  refine am_bipush (v := 16) dJ6_bitCount_0f7a4_43 (by decide) ?_
  refine am_iushr dJ6_bitCount_0f7a4_45 ?_
  refine am_iadd dJ6_bitCount_0f7a4_46 ?_
  refine am_letTi (fun v5 => ?_)
  refine am_istore_n (ls' := [(0, .int v5)]) dJ6_bitCount_0f7a4_47 rfl (Nat.le_of_ble_eq_true rfl) rfl ?_
  refine am_iload_n dJ6_bitCount_0f7a4_48 rfl 0 rfl ?_
  refine am_bipush (v := 63) dJ6_bitCount_0f7a4_49 (by decide) ?_
  refine am_iand dJ6_bitCount_0f7a4_51 ?_
  exact am_iret dJ6_bitCount_0f7a4_52 rfl rfl
abbrev kX0_countTransitions : am_K := (cX0_countTransitions, 3, RX0, wsX0_countTransitions, some .int, { frames := 1, cells := 0, slots := 0, locals := 20 })
theorem hX0_countTransitions : am_cl yX0_countTransitions kX0_countTransitions 0 := ⟨⟨_, rfl⟩, rfl, rfl, by decide +kernel, by decide +kernel, by decide +kernel⟩
theorem iX0_countTransitions_0 : ∀ w ∈ u_ws RX0 TX0 4, w ∈ wsX0_countTransitions := by decide +kernel
theorem fX0_countTransitions_15 : Cond.fieldLink RX0 15 "AmbiguityAnalyzer$Automaton" "targets" "[I" ∈ wsX0_countTransitions := by decide +kernel
set_option maxRecDepth 100000 in
set_option maxHeartbeats 4000000 in
theorem vX0_countTransitions_4 {Z : am_Z} {X : am_X} (R : am_R) (I : am_I) (L : am_L) (a0 : Nat) (h1 : am_G Z a0 = some (.inl 0)) (ih4 : Int32 → Int32 → Option (Int32)) (hih4 : ∀ (v2 : Int32) (v3 : Int32), am_V Z X kX0_countTransitions (fun r : Int32 => (some (.int r), R, I, L)) 4 [(0, .ref (am_B Z + a0)), (1, .int v2), (2, .int v3)] [] R I L (ih4 v2 v3)) (v2 : Int32) (v3 : Int32) : am_V Z X kX0_countTransitions (fun r : Int32 => (some (.int r), R, I, L)) 4 [(0, .ref (am_B Z + a0)), (1, .int v2), (2, .int v3)] [] R I L (sX0_countTransitions_4 R I a0 ih4 v2 v3) := by
  unfold sX0_countTransitions_4
  refine am_iload_n dX0_countTransitions_4 rfl 2 rfl ?_
  refine am_aload_n dX0_countTransitions_5 rfl 0 rfl ?_
  refine am_getR 0 3 clX0 (Nat.le_of_ble_eq_true rfl) h1 iX0_countTransitions_0 fX0_countTransitions_15 rfl rfl dX0_countTransitions_6 (fun h5 => ?_)
  refine am_alen (t := 0) (v := 18) rfl h5 (by decide) dX0_countTransitions_9 ?_
  refine am_icmp_ge (tgt := 31) dX0_countTransitions_10 rfl (fun e6 => ?_) (fun e6 => ?_)
  · refine am_iload_n dX0_countTransitions_31 rfl 1 rfl ?_
    exact am_iret dX0_countTransitions_32 rfl rfl
  · refine am_iload_n dX0_countTransitions_13 rfl 1 rfl ?_
    refine am_aload_n dX0_countTransitions_14 rfl 0 rfl ?_
    refine am_getR 0 3 clX0 (Nat.le_of_ble_eq_true rfl) h1 iX0_countTransitions_0 fX0_countTransitions_15 rfl rfl dX0_countTransitions_15 (fun h7 => ?_)
    refine am_iload_n dX0_countTransitions_18 rfl 2 rfl ?_
    refine am_iald h7 dX0_countTransitions_19 ?_
    refine am_callS [.int (I (R a0 3) (Int32.toNatClampNeg v3))] (tJ6_bitCount_0f7a4 R I L (I (R a0 3) (Int32.toNatClampNeg v3))) gX0_countTransitions_J6_bitCount_0f7a4 hJ6_bitCount_0f7a4 ⟨Nat.le_of_ble_eq_true rfl, Nat.le_of_ble_eq_true rfl⟩ rfl rfl (Nat.le_of_ble_eq_true rfl) dX0_countTransitions_20 (fun r8 => ?_)
    show am_V Z X kX0_countTransitions (fun r : Int32 => (some (.int r), R, I, L)) 23 [(0, .ref (am_B Z + a0)), (1, .int v2), (2, .int v3)] [.int r8, .int v2] R I L _
    refine am_iadd dX0_countTransitions_23 ?_
    refine am_letTi (fun v9 => ?_)
    refine am_istore_n (ls' := [(1, .int v9), (0, .ref (am_B Z + a0)), (2, .int v3)]) dX0_countTransitions_24 rfl (Nat.le_of_ble_eq_true rfl) rfl ?_
    refine am_iinc (j := 2) (ls' := [(2, .int (v3 + (1 : Int32))), (1, .int v9), (0, .ref (am_B Z + a0))]) dX0_countTransitions_25 rfl rfl (Nat.le_of_ble_eq_true rfl) rfl ?_
    refine am_goto (tgt := 4) dX0_countTransitions_28 rfl ?_
    refine am_sub (ls' := [(0, .ref (am_B Z + a0)), (1, .int v9), (2, .int (v3 + (1 : Int32)))]) [2, 1, 0] rfl ?_
    exact hih4 v9 (v3 + (1 : Int32))
theorem uX0_countTransitions_4 {Z : am_Z} {X : am_X} (R : am_R) (I : am_I) (L : am_L) (a0 : Nat) (h1 : am_G Z a0 = some (.inl 0)) : ∀ (n : Nat) (v2 : Int32) (v3 : Int32), am_V Z X kX0_countTransitions (fun r : Int32 => (some (.int r), R, I, L)) 4 [(0, .ref (am_B Z + a0)), (1, .int v2), (2, .int v3)] [] R I L (lX0_countTransitions_4 R I a0 n v2 v3) := by
  intro n
  induction n with
  | zero => intro _ _; exact am_none
  | succ n ih => exact fun v2 v3 => vX0_countTransitions_4 R I L a0 h1 (lX0_countTransitions_4 R I a0 n) ih v2 v3
set_option maxRecDepth 100000 in
set_option maxHeartbeats 4000000 in
theorem tX0_countTransitions {Z : am_Z} (R : am_R) (I : am_I) (L : am_L) (a0 : Nat) (h_a0 : am_G Z a0 = some (.inl 0)) : am_M Z yX0_countTransitions kX0_countTransitions [.ref (am_B Z + a0)] R I L (pX0_countTransitions R I a0) (fun r : Int32 => (some (.int r), R, I, L)) := by
  refine am_entry (ls := [(0, .ref (am_B Z + a0))]) (by decide) hX0_countTransitions rfl (Nat.le_of_ble_eq_true rfl) rfl (fun X => ?_)
  unfold pX0_countTransitions
  refine am_iconst (v := 0) dX0_countTransitions_0 (by decide) ?_
  refine am_istore_n (ls' := [(1, .int (0 : Int32)), (0, .ref (am_B Z + a0))]) dX0_countTransitions_1 rfl (Nat.le_of_ble_eq_true rfl) rfl ?_
  refine am_iconst (v := 0) dX0_countTransitions_2 (by decide) ?_
  refine am_istore_n (ls' := [(2, .int (0 : Int32)), (1, .int (0 : Int32)), (0, .ref (am_B Z + a0))]) dX0_countTransitions_3 rfl (Nat.le_of_ble_eq_true rfl) rfl ?_
  refine am_sub (ls' := [(0, .ref (am_B Z + a0)), (1, .int (0 : Int32)), (2, .int (0 : Int32))]) [2, 1, 0] rfl ?_
  exact uX0_countTransitions_4 R I L a0 h_a0 am_fu (0 : Int32) (0 : Int32)
abbrev kX0_nextRandom : am_K := (cX0_nextRandom, 1, RX0, wsX0_nextRandom, some .int, { frames := 0, cells := 0, slots := 0, locals := 0 })
theorem hX0_nextRandom : am_cl yX0_nextRandom kX0_nextRandom 1 := ⟨⟨_, rfl⟩, rfl, rfl, by decide +kernel, by decide +kernel, by decide +kernel⟩
set_option maxRecDepth 100000 in
set_option maxHeartbeats 4000000 in
theorem tX0_nextRandom {Z : am_Z} (R : am_R) (I : am_I) (L : am_L) (x0 : Int32)  : am_M Z yX0_nextRandom kX0_nextRandom [.int x0] R I L (pX0_nextRandom x0) (fun r : Int32 => (some (.int r), R, I, L)) := by
  refine am_entry (ls := [(0, .int x0)]) (by decide) hX0_nextRandom rfl (Nat.le_of_ble_eq_true rfl) rfl (fun X => ?_)
  unfold pX0_nextRandom
  refine am_iload_n dX0_nextRandom_0 rfl 0 rfl ?_
  refine am_ldc (v := 1103515245) dX0_nextRandom_1 (by decide +kernel) ?_
  refine am_imul dX0_nextRandom_3 ?_
  refine am_sipush (v := 12345) dX0_nextRandom_4 (by decide) ?_
  refine am_iadd dX0_nextRandom_7 ?_
  exact am_iret dX0_nextRandom_8 rfl rfl
abbrev kX0_draw : am_K := (cX0_draw, 2, RX0, wsX0_draw, some .int, { frames := 0, cells := 0, slots := 0, locals := 0 })
theorem hX0_draw : am_cl yX0_draw kX0_draw 2 := ⟨⟨_, rfl⟩, rfl, rfl, by decide +kernel, by decide +kernel, by decide +kernel⟩
set_option maxRecDepth 100000 in
set_option maxHeartbeats 4000000 in
theorem tX0_draw {Z : am_Z} (R : am_R) (I : am_I) (L : am_L) (x0 : Int32) (x1 : Int32)  : am_M Z yX0_draw kX0_draw [.int x0, .int x1] R I L (pX0_draw x0 x1) (fun r : Int32 => (some (.int r), R, I, L)) := by
  refine am_entry (ls := [(0, .int x0), (1, .int x1)]) (by decide) hX0_draw rfl (Nat.le_of_ble_eq_true rfl) rfl (fun X => ?_)
  unfold pX0_draw
  refine am_iload_n dX0_draw_0 rfl 1 rfl ?_
  refine am_iconst (v := 1) dX0_draw_1 (by decide) ?_
  refine am_icmp_ge (tgt := 9) dX0_draw_2 rfl (fun e1 => ?_) (fun e1 => ?_)
  · refine am_iload_n dX0_draw_9 rfl 0 rfl ?_
    refine am_bipush (v := 16) dX0_draw_10 (by decide) ?_
    refine am_iushr dX0_draw_12 ?_
    refine am_iload_n dX0_draw_13 rfl 1 rfl ?_
    refine am_irem dX0_draw_14 ?_
    exact am_iret dX0_draw_15 rfl rfl
  · refine am_iconst (v := 0) dX0_draw_5 (by decide) ?_
    refine am_goto (tgt := 15) dX0_draw_6 rfl ?_
    exact am_iret dX0_draw_15 rfl rfl
abbrev kX0_addRandom : am_K := (cX0_addRandom, 8, RX0, wsX0_addRandom, none, { frames := 3, cells := 0, slots := 0, locals := 67 })
theorem hX0_addRandom : am_cl yX0_addRandom kX0_addRandom 2 := ⟨⟨_, rfl⟩, rfl, rfl, by decide +kernel, by decide +kernel, by decide +kernel⟩
theorem iX0_addRandom_0 : ∀ w ∈ u_ws RX0 TX0 4, w ∈ wsX0_addRandom := by decide +kernel
theorem fX0_addRandom_9 : Cond.fieldLink RX0 9 "AmbiguityAnalyzer$Automaton" "states" "I" ∈ wsX0_addRandom := by decide +kernel
set_option maxRecDepth 100000 in
set_option maxHeartbeats 4000000 in
theorem vX0_addRandom_5 {Z : am_Z} {X : am_X} (R : am_R) (L : am_L) (a0 : Nat) (x2 : Int32) (h1 : am_G Z a0 = some (.inl 0)) (ih5 : Int32 → Int32 → am_I → Option (am_I)) (hih5 : ∀ (v2 : Int32) (v3 : Int32) (J4 : am_I), am_V Z X kX0_addRandom (fun r : am_I => (none, R, r, L)) 5 [(0, .ref (am_B Z + a0)), (2, .int x2), (3, .int v2), (4, .int v3)] [] R J4 L (ih5 v2 v3 J4)) (v2 : Int32) (v3 : Int32) (J4 : am_I) : am_V Z X kX0_addRandom (fun r : am_I => (none, R, r, L)) 5 [(0, .ref (am_B Z + a0)), (2, .int x2), (3, .int v2), (4, .int v3)] [] R J4 L (sX0_addRandom_5 R a0 x2 ih5 v2 v3 J4) := by
  unfold sX0_addRandom_5
  refine am_iload dX0_addRandom_5 3 rfl ?_
  refine am_iload_n dX0_addRandom_7 rfl 1 rfl ?_
  refine am_icmp_ge (tgt := 70) dX0_addRandom_8 rfl (fun e6 => ?_) (fun e6 => ?_)
  · exact am_vret dX0_addRandom_70 rfl rfl
  · refine am_iload_n dX0_addRandom_11 rfl 2 rfl ?_
    refine am_callS [.int v2] (tX0_nextRandom R J4 L v2) gX0_addRandom_X0_nextRandom hX0_nextRandom ⟨Nat.le_of_ble_eq_true rfl, Nat.le_of_ble_eq_true rfl⟩ rfl rfl (Nat.le_of_ble_eq_true rfl) dX0_addRandom_12 (fun r7 => ?_)
    show am_V Z X kX0_addRandom (fun r : am_I => (none, R, r, L)) 15 [(0, .ref (am_B Z + a0)), (2, .int x2), (3, .int v2), (4, .int v3)] [.int r7] R J4 L _
    refine am_istore_n (ls' := [(3, .int r7), (0, .ref (am_B Z + a0)), (2, .int x2), (4, .int v3)]) dX0_addRandom_15 rfl (Nat.le_of_ble_eq_true rfl) rfl ?_
    refine am_iload_n dX0_addRandom_16 rfl 0 rfl ?_
    refine am_aload_n dX0_addRandom_17 rfl 1 rfl ?_
    refine am_get 0 0 clX0 (Nat.le_of_ble_eq_true rfl) h1 iX0_addRandom_0 fX0_addRandom_9 rfl dX0_addRandom_18 ?_
    refine am_callS [.int r7, .int (J4 a0 0)] (tX0_draw R J4 L r7 (J4 a0 0)) gX0_addRandom_X0_draw hX0_draw ⟨Nat.le_of_ble_eq_true rfl, Nat.le_of_ble_eq_true rfl⟩ rfl rfl (Nat.le_of_ble_eq_true rfl) dX0_addRandom_21 (fun r8 => ?_)
    show am_V Z X kX0_addRandom (fun r : am_I => (none, R, r, L)) 24 [(3, .int r7), (0, .ref (am_B Z + a0)), (2, .int x2), (4, .int v3)] [.int r8] R J4 L _
    refine am_istore (ls' := [(5, .int r8), (3, .int r7), (0, .ref (am_B Z + a0)), (2, .int x2), (4, .int v3)]) dX0_addRandom_24 (Nat.le_of_ble_eq_true rfl) rfl ?_
    refine am_iload_n dX0_addRandom_26 rfl 1 rfl ?_
    refine am_callS [.int r7] (tX0_nextRandom R J4 L r7) gX0_addRandom_X0_nextRandom hX0_nextRandom ⟨Nat.le_of_ble_eq_true rfl, Nat.le_of_ble_eq_true rfl⟩ rfl rfl (Nat.le_of_ble_eq_true rfl) dX0_addRandom_27 (fun r9 => ?_)
    show am_V Z X kX0_addRandom (fun r : am_I => (none, R, r, L)) 30 [(5, .int r8), (3, .int r7), (0, .ref (am_B Z + a0)), (2, .int x2), (4, .int v3)] [.int r9] R J4 L _
    refine am_istore_n (ls' := [(3, .int r9), (5, .int r8), (0, .ref (am_B Z + a0)), (2, .int x2), (4, .int v3)]) dX0_addRandom_30 rfl (Nat.le_of_ble_eq_true rfl) rfl ?_
    refine am_iload_n dX0_addRandom_31 rfl 0 rfl ?_
    refine am_iconst (v := 3) dX0_addRandom_32 (by decide) ?_
    refine am_callS [.int r9, .int (3 : Int32)] (tX0_draw R J4 L r9 (3 : Int32)) gX0_addRandom_X0_draw hX0_draw ⟨Nat.le_of_ble_eq_true rfl, Nat.le_of_ble_eq_true rfl⟩ rfl rfl (Nat.le_of_ble_eq_true rfl) dX0_addRandom_33 (fun r10 => ?_)
    show am_V Z X kX0_addRandom (fun r : am_I => (none, R, r, L)) 36 [(3, .int r9), (5, .int r8), (0, .ref (am_B Z + a0)), (2, .int x2), (4, .int v3)] [.int r10] R J4 L _
    refine am_istore (ls' := [(6, .int r10), (3, .int r9), (5, .int r8), (0, .ref (am_B Z + a0)), (2, .int x2), (4, .int v3)]) dX0_addRandom_36 (Nat.le_of_ble_eq_true rfl) rfl ?_
    refine am_iload_n dX0_addRandom_38 rfl 1 rfl ?_
    refine am_callS [.int r9] (tX0_nextRandom R J4 L r9) gX0_addRandom_X0_nextRandom hX0_nextRandom ⟨Nat.le_of_ble_eq_true rfl, Nat.le_of_ble_eq_true rfl⟩ rfl rfl (Nat.le_of_ble_eq_true rfl) dX0_addRandom_39 (fun r11 => ?_)
    show am_V Z X kX0_addRandom (fun r : am_I => (none, R, r, L)) 42 [(6, .int r10), (3, .int r9), (5, .int r8), (0, .ref (am_B Z + a0)), (2, .int x2), (4, .int v3)] [.int r11] R J4 L _
    refine am_istore_n (ls' := [(3, .int r11), (6, .int r10), (5, .int r8), (0, .ref (am_B Z + a0)), (2, .int x2), (4, .int v3)]) dX0_addRandom_42 rfl (Nat.le_of_ble_eq_true rfl) rfl ?_
    refine am_iload_n dX0_addRandom_43 rfl 0 rfl ?_
    refine am_aload_n dX0_addRandom_44 rfl 3 rfl ?_
    refine am_get 0 0 clX0 (Nat.le_of_ble_eq_true rfl) h1 iX0_addRandom_0 fX0_addRandom_9 rfl dX0_addRandom_45 ?_
    refine am_callS [.int r11, .int (J4 a0 0)] (tX0_draw R J4 L r11 (J4 a0 0)) gX0_addRandom_X0_draw hX0_draw ⟨Nat.le_of_ble_eq_true rfl, Nat.le_of_ble_eq_true rfl⟩ rfl rfl (Nat.le_of_ble_eq_true rfl) dX0_addRandom_48 (fun r12 => ?_)
    show am_V Z X kX0_addRandom (fun r : am_I => (none, R, r, L)) 51 [(3, .int r11), (6, .int r10), (5, .int r8), (0, .ref (am_B Z + a0)), (2, .int x2), (4, .int v3)] [.int r12] R J4 L _
    refine am_istore (ls' := [(7, .int r12), (3, .int r11), (6, .int r10), (5, .int r8), (0, .ref (am_B Z + a0)), (2, .int x2), (4, .int v3)]) dX0_addRandom_51 (Nat.le_of_ble_eq_true rfl) rfl ?_
    refine am_aload_n dX0_addRandom_53 rfl 4 rfl ?_
    refine am_iload dX0_addRandom_54 3 rfl ?_
    refine am_iload dX0_addRandom_56 2 rfl ?_
    refine am_iload dX0_addRandom_58 0 rfl ?_
    refine am_callV [.int r8, .int r10, .int r12] (tX0_add R J4 L a0 r8 r10 r12 h1) h1 clX0 gX0_addRandom_X0_add hX0_add rfl ⟨Nat.le_of_ble_eq_true rfl, Nat.le_of_ble_eq_true rfl⟩ rfl rfl (Nat.le_of_ble_eq_true rfl) dX0_addRandom_60 (fun r13 => ?_)
    show am_V Z X kX0_addRandom (fun r : am_I => (none, R, r, L)) 63 [(7, .int r12), (3, .int r11), (6, .int r10), (5, .int r8), (0, .ref (am_B Z + a0)), (2, .int x2), (4, .int v3)] [.int r13.1] R r13.2 L _
    refine am_pop dX0_addRandom_63 rfl ?_
    refine am_iinc (j := 6) (ls' := [(4, .int (v3 + (1 : Int32))), (7, .int r12), (3, .int r11), (6, .int r10), (5, .int r8), (0, .ref (am_B Z + a0)), (2, .int x2)]) dX0_addRandom_64 rfl rfl (Nat.le_of_ble_eq_true rfl) rfl ?_
    refine am_goto (tgt := 5) dX0_addRandom_67 rfl ?_
    refine am_sub (ls' := [(0, .ref (am_B Z + a0)), (2, .int x2), (3, .int r11), (4, .int (v3 + (1 : Int32)))]) [5, 6, 2, 0] rfl ?_
    exact hih5 r11 (v3 + (1 : Int32)) r13.2
theorem uX0_addRandom_5 {Z : am_Z} {X : am_X} (R : am_R) (L : am_L) (a0 : Nat) (x2 : Int32) (h1 : am_G Z a0 = some (.inl 0)) : ∀ (n : Nat) (v2 : Int32) (v3 : Int32) (J4 : am_I), am_V Z X kX0_addRandom (fun r : am_I => (none, R, r, L)) 5 [(0, .ref (am_B Z + a0)), (2, .int x2), (3, .int v2), (4, .int v3)] [] R J4 L (lX0_addRandom_5 R a0 x2 n v2 v3 J4) := by
  intro n
  induction n with
  | zero => intro _ _ _; exact am_none
  | succ n ih => exact fun v2 v3 J4 => vX0_addRandom_5 R L a0 x2 h1 (lX0_addRandom_5 R a0 x2 n) ih v2 v3 J4
set_option maxRecDepth 100000 in
set_option maxHeartbeats 4000000 in
theorem tX0_addRandom {Z : am_Z} (R : am_R) (I : am_I) (L : am_L) (a0 : Nat) (x1 : Int32) (x2 : Int32) (h_a0 : am_G Z a0 = some (.inl 0)) : am_M Z yX0_addRandom kX0_addRandom [.ref (am_B Z + a0), .int x1, .int x2] R I L (pX0_addRandom R I a0 x1 x2) (fun r : am_I => (none, R, r, L)) := by
  refine am_entry (ls := [(0, .ref (am_B Z + a0)), (1, .int x1), (2, .int x2)]) (by decide) hX0_addRandom rfl (Nat.le_of_ble_eq_true rfl) rfl (fun X => ?_)
  unfold pX0_addRandom
  refine am_iload_n dX0_addRandom_0 rfl 1 rfl ?_
  refine am_istore_n (ls' := [(3, .int x1), (0, .ref (am_B Z + a0)), (1, .int x1), (2, .int x2)]) dX0_addRandom_1 rfl (Nat.le_of_ble_eq_true rfl) rfl ?_
  refine am_iconst (v := 0) dX0_addRandom_2 (by decide) ?_
  refine am_istore (ls' := [(4, .int (0 : Int32)), (3, .int x1), (0, .ref (am_B Z + a0)), (1, .int x1), (2, .int x2)]) dX0_addRandom_3 (Nat.le_of_ble_eq_true rfl) rfl ?_
  refine am_sub (ls' := [(0, .ref (am_B Z + a0)), (2, .int x2), (3, .int x1), (4, .int (0 : Int32))]) [2, 4, 1, 0] rfl ?_
  exact uX0_addRandom_5 R L a0 x2 h_a0 am_fu x1 (0 : Int32) I
abbrev kX0_neighbours : am_K := (cX0_neighbours, 4, RX0, wsX0_neighbours, some .int, { frames := 1, cells := 0, slots := 0, locals := 23 })
theorem hX0_neighbours : am_cl yX0_neighbours kX0_neighbours 1 := ⟨⟨_, rfl⟩, rfl, rfl, by decide +kernel, by decide +kernel, by decide +kernel⟩
set_option maxRecDepth 100000 in
set_option maxHeartbeats 4000000 in
theorem vX0_neighbours_4 {Z : am_Z} {X : am_X} (R : am_R) (I : am_I) (L : am_L) (a0 : Nat) (x1 : Int32) (h1 : am_G Z a0 = some (.inl 0)) (ih4 : Int32 → Int32 → Option (Int32)) (hih4 : ∀ (v2 : Int32) (v3 : Int32), am_V Z X kX0_neighbours (fun r : Int32 => (some (.int r), R, I, L)) 4 [(0, .ref (am_B Z + a0)), (1, .int x1), (2, .int v2), (3, .int v3)] [] R I L (ih4 v2 v3)) (v2 : Int32) (v3 : Int32) : am_V Z X kX0_neighbours (fun r : Int32 => (some (.int r), R, I, L)) 4 [(0, .ref (am_B Z + a0)), (1, .int x1), (2, .int v2), (3, .int v3)] [] R I L (sX0_neighbours_4 R I a0 x1 ih4 v2 v3) := by
  unfold sX0_neighbours_4
  refine am_iload_n dX0_neighbours_4 rfl 3 rfl ?_
  refine am_iconst (v := 3) dX0_neighbours_5 (by decide) ?_
  refine am_icmp_ge (tgt := 24) dX0_neighbours_6 rfl (fun e5 => ?_) (fun e5 => ?_)
  · refine am_iload_n dX0_neighbours_24 rfl 2 rfl ?_
    exact am_iret dX0_neighbours_25 rfl rfl
  · refine am_iload_n dX0_neighbours_9 rfl 2 rfl ?_
    refine am_aload_n dX0_neighbours_10 rfl 0 rfl ?_
    refine am_iload_n dX0_neighbours_11 rfl 1 rfl ?_
    refine am_iload_n dX0_neighbours_12 rfl 3 rfl ?_
    refine am_callV [.int x1, .int v3] (tX0_targetsOf R I L a0 x1 v3 h1) h1 clX0 gX0_neighbours_X0_targetsOf hX0_targetsOf rfl ⟨Nat.le_of_ble_eq_true rfl, Nat.le_of_ble_eq_true rfl⟩ rfl rfl (Nat.le_of_ble_eq_true rfl) dX0_neighbours_13 (fun r6 => ?_)
    show am_V Z X kX0_neighbours (fun r : Int32 => (some (.int r), R, I, L)) 16 [(0, .ref (am_B Z + a0)), (1, .int x1), (2, .int v2), (3, .int v3)] [.int r6, .int v2] R I L _
    refine am_ior dX0_neighbours_16 ?_
    refine am_letTi (fun v7 => ?_)
    refine am_istore_n (ls' := [(2, .int v7), (0, .ref (am_B Z + a0)), (1, .int x1), (3, .int v3)]) dX0_neighbours_17 rfl (Nat.le_of_ble_eq_true rfl) rfl ?_
    refine am_iinc (j := 3) (ls' := [(3, .int (v3 + (1 : Int32))), (2, .int v7), (0, .ref (am_B Z + a0)), (1, .int x1)]) dX0_neighbours_18 rfl rfl (Nat.le_of_ble_eq_true rfl) rfl ?_
    refine am_goto (tgt := 4) dX0_neighbours_21 rfl ?_
    refine am_sub (ls' := [(0, .ref (am_B Z + a0)), (1, .int x1), (2, .int v7), (3, .int (v3 + (1 : Int32)))]) [2, 3, 1, 0] rfl ?_
    exact hih4 v7 (v3 + (1 : Int32))
theorem uX0_neighbours_4 {Z : am_Z} {X : am_X} (R : am_R) (I : am_I) (L : am_L) (a0 : Nat) (x1 : Int32) (h1 : am_G Z a0 = some (.inl 0)) : ∀ (n : Nat) (v2 : Int32) (v3 : Int32), am_V Z X kX0_neighbours (fun r : Int32 => (some (.int r), R, I, L)) 4 [(0, .ref (am_B Z + a0)), (1, .int x1), (2, .int v2), (3, .int v3)] [] R I L (lX0_neighbours_4 R I a0 x1 n v2 v3) := by
  intro n
  induction n with
  | zero => intro _ _; exact am_none
  | succ n ih => exact fun v2 v3 => vX0_neighbours_4 R I L a0 x1 h1 (lX0_neighbours_4 R I a0 x1 n) ih v2 v3
set_option maxRecDepth 100000 in
set_option maxHeartbeats 4000000 in
theorem tX0_neighbours {Z : am_Z} (R : am_R) (I : am_I) (L : am_L) (a0 : Nat) (x1 : Int32) (h_a0 : am_G Z a0 = some (.inl 0)) : am_M Z yX0_neighbours kX0_neighbours [.ref (am_B Z + a0), .int x1] R I L (pX0_neighbours R I a0 x1) (fun r : Int32 => (some (.int r), R, I, L)) := by
  refine am_entry (ls := [(0, .ref (am_B Z + a0)), (1, .int x1)]) (by decide) hX0_neighbours rfl (Nat.le_of_ble_eq_true rfl) rfl (fun X => ?_)
  unfold pX0_neighbours
  refine am_iconst (v := 0) dX0_neighbours_0 (by decide) ?_
  refine am_istore_n (ls' := [(2, .int (0 : Int32)), (0, .ref (am_B Z + a0)), (1, .int x1)]) dX0_neighbours_1 rfl (Nat.le_of_ble_eq_true rfl) rfl ?_
  refine am_iconst (v := 0) dX0_neighbours_2 (by decide) ?_
  refine am_istore_n (ls' := [(3, .int (0 : Int32)), (2, .int (0 : Int32)), (0, .ref (am_B Z + a0)), (1, .int x1)]) dX0_neighbours_3 rfl (Nat.le_of_ble_eq_true rfl) rfl ?_
  refine am_sub (ls' := [(0, .ref (am_B Z + a0)), (1, .int x1), (2, .int (0 : Int32)), (3, .int (0 : Int32))]) [2, 3, 1, 0] rfl ?_
  exact uX0_neighbours_4 R I L a0 x1 h_a0 am_fu (0 : Int32) (0 : Int32)
abbrev kX0_reachedFrom : am_K := (cX0_reachedFrom, 5, RX0, wsX0_reachedFrom, some .int, { frames := 2, cells := 0, slots := 0, locals := 46 })
theorem hX0_reachedFrom : am_cl yX0_reachedFrom kX0_reachedFrom 1 := ⟨⟨_, rfl⟩, rfl, rfl, by decide +kernel, by decide +kernel, by decide +kernel⟩
theorem iX0_reachedFrom_0 : ∀ w ∈ u_ws RX0 TX0 4, w ∈ wsX0_reachedFrom := by decide +kernel
theorem fX0_reachedFrom_9 : Cond.fieldLink RX0 9 "AmbiguityAnalyzer$Automaton" "states" "I" ∈ wsX0_reachedFrom := by decide +kernel
set_option maxRecDepth 100000 in
set_option maxHeartbeats 4000000 in
theorem vX0_reachedFrom_15 {Z : am_Z} {X : am_X} (R : am_R) (I : am_I) (L : am_L) (a0 : Nat) (v3 : Int32) (h8 : am_G Z a0 = some (.inl 0)) (j6 : Int32 → Option (Int32)) (hj6 : ∀ (v7 : Int32), am_V Z X kX0_reachedFrom (fun r : Int32 => (some (.int r), R, I, L)) 52 [(0, .ref (am_B Z + a0)), (2, .int v7), (3, .int v3)] [] R I L (j6 v7)) (ih11 : Int32 → Int32 → Option (Int32)) (hih11 : ∀ (v9 : Int32) (v10 : Int32), am_V Z X kX0_reachedFrom (fun r : Int32 => (some (.int r), R, I, L)) 15 [(0, .ref (am_B Z + a0)), (2, .int v9), (3, .int v3), (4, .int v10)] [] R I L (ih11 v9 v10)) (v9 : Int32) (v10 : Int32) : am_V Z X kX0_reachedFrom (fun r : Int32 => (some (.int r), R, I, L)) 15 [(0, .ref (am_B Z + a0)), (2, .int v9), (3, .int v3), (4, .int v10)] [] R I L (sX0_reachedFrom_15 R I a0 v3 j6 ih11 v9 v10) := by
  unfold sX0_reachedFrom_15
  refine am_iload dX0_reachedFrom_15 3 rfl ?_
  refine am_aload_n dX0_reachedFrom_17 rfl 0 rfl ?_
  refine am_get 0 0 clX0 (Nat.le_of_ble_eq_true rfl) h8 iX0_reachedFrom_0 fX0_reachedFrom_9 rfl dX0_reachedFrom_18 ?_
  refine am_icmp_ge (tgt := 52) dX0_reachedFrom_21 rfl (fun e12 => ?_) (fun e12 => ?_)
  · refine am_sub (ls' := [(0, .ref (am_B Z + a0)), (2, .int v9), (3, .int v3)]) [0, 1, 2] rfl ?_
    exact hj6 v9
  · refine am_iload_n dX0_reachedFrom_24 rfl 1 rfl ?_
    refine am_iload_n dX0_reachedFrom_25 rfl 1 rfl ?_
    refine am_iload dX0_reachedFrom_26 3 rfl ?_
    refine am_callN (host := RX10) [.int v9, .int v10] (tX10_contains R I L v9 v10) gX0_reachedFrom_X10_contains_n40 (by decide +kernel) (by decide +kernel) (by decide +kernel) hX10_contains ⟨Nat.le_of_ble_eq_true rfl, Nat.le_of_ble_eq_true rfl⟩ rfl rfl (Nat.le_of_ble_eq_true rfl) dX0_reachedFrom_28 (fun r13 => ?_)
    show am_V Z X kX0_reachedFrom (fun r : Int32 => (some (.int r), R, I, L)) 31 [(0, .ref (am_B Z + a0)), (2, .int v9), (3, .int v3), (4, .int v10)] [.int r13, .int v9] R I L _
    refine am_jnV (fun j14 ej14 => ?_)
    have hj14 : ∀ (v15 : Int32), am_V Z X kX0_reachedFrom (fun r : Int32 => (some (.int r), R, I, L)) 44 [(0, .ref (am_B Z + a0)), (3, .int v3), (4, .int v10)] [.int v15, .int v9] R I L (j14 v15) := by
      subst ej14
      intro v15
      show am_V Z X kX0_reachedFrom (fun r : Int32 => (some (.int r), R, I, L)) 44 [(0, .ref (am_B Z + a0)), (3, .int v3), (4, .int v10)] [.int v15, .int v9] R I L _
      refine am_ior dX0_reachedFrom_44 ?_
      refine am_letTi (fun v16 => ?_)
      refine am_istore_n (ls' := [(2, .int v16), (0, .ref (am_B Z + a0)), (3, .int v3), (4, .int v10)]) dX0_reachedFrom_45 rfl (Nat.le_of_ble_eq_true rfl) rfl ?_
      refine am_iinc (j := 3) (ls' := [(4, .int (v10 + (1 : Int32))), (2, .int v16), (0, .ref (am_B Z + a0)), (3, .int v3)]) dX0_reachedFrom_46 rfl rfl (Nat.le_of_ble_eq_true rfl) rfl ?_
      refine am_goto (tgt := 15) dX0_reachedFrom_49 rfl ?_
      refine am_sub (ls' := [(0, .ref (am_B Z + a0)), (2, .int v16), (3, .int v3), (4, .int (v10 + (1 : Int32)))]) [2, 1, 3, 0] rfl ?_
      exact hih11 v16 (v10 + (1 : Int32))
    refine am_if_eq (tgt := 43) dX0_reachedFrom_31 rfl (fun e17 => ?_) (fun e17 => ?_)
    · refine am_iconst (v := 0) dX0_reachedFrom_43 (by decide) ?_
      refine am_sub (ls' := [(0, .ref (am_B Z + a0)), (3, .int v3), (4, .int v10)]) [0, 2, 3] rfl ?_
      exact hj14 (0 : Int32)
    · refine am_aload_n dX0_reachedFrom_34 rfl 0 rfl ?_
      refine am_iload dX0_reachedFrom_35 3 rfl ?_
      refine am_callV [.int v10] (tX0_neighbours R I L a0 v10 h8) h8 clX0 gX0_reachedFrom_X0_neighbours hX0_neighbours rfl ⟨Nat.le_of_ble_eq_true rfl, Nat.le_of_ble_eq_true rfl⟩ rfl rfl (Nat.le_of_ble_eq_true rfl) dX0_reachedFrom_37 (fun r18 => ?_)
      show am_V Z X kX0_reachedFrom (fun r : Int32 => (some (.int r), R, I, L)) 40 [(0, .ref (am_B Z + a0)), (2, .int v9), (3, .int v3), (4, .int v10)] [.int r18, .int v9] R I L _
      refine am_goto (tgt := 44) dX0_reachedFrom_40 rfl ?_
      refine am_sub (ls' := [(0, .ref (am_B Z + a0)), (3, .int v3), (4, .int v10)]) [0, 2, 3] rfl ?_
      exact hj14 r18
theorem uX0_reachedFrom_15 {Z : am_Z} {X : am_X} (R : am_R) (I : am_I) (L : am_L) (a0 : Nat) (v3 : Int32) (h8 : am_G Z a0 = some (.inl 0)) (j6 : Int32 → Option (Int32)) (hj6 : ∀ (v7 : Int32), am_V Z X kX0_reachedFrom (fun r : Int32 => (some (.int r), R, I, L)) 52 [(0, .ref (am_B Z + a0)), (2, .int v7), (3, .int v3)] [] R I L (j6 v7)) : ∀ (n : Nat) (v9 : Int32) (v10 : Int32), am_V Z X kX0_reachedFrom (fun r : Int32 => (some (.int r), R, I, L)) 15 [(0, .ref (am_B Z + a0)), (2, .int v9), (3, .int v3), (4, .int v10)] [] R I L (lX0_reachedFrom_15 R I a0 v3 j6 n v9 v10) := by
  intro n
  induction n with
  | zero => intro _ _; exact am_none
  | succ n ih => exact fun v9 v10 => vX0_reachedFrom_15 R I L a0 v3 h8 j6 hj6 (lX0_reachedFrom_15 R I a0 v3 j6 n) ih v9 v10
set_option maxRecDepth 100000 in
set_option maxHeartbeats 4000000 in
theorem vX0_reachedFrom_4 {Z : am_Z} {X : am_X} (R : am_R) (I : am_I) (L : am_L) (a0 : Nat) (h1 : am_G Z a0 = some (.inl 0)) (ih4 : Int32 → Int32 → Option (Int32)) (hih4 : ∀ (v2 : Int32) (v3 : Int32), am_V Z X kX0_reachedFrom (fun r : Int32 => (some (.int r), R, I, L)) 4 [(0, .ref (am_B Z + a0)), (2, .int v2), (3, .int v3)] [] R I L (ih4 v2 v3)) (v2 : Int32) (v3 : Int32) : am_V Z X kX0_reachedFrom (fun r : Int32 => (some (.int r), R, I, L)) 4 [(0, .ref (am_B Z + a0)), (2, .int v2), (3, .int v3)] [] R I L (sX0_reachedFrom_4 R I a0 ih4 v2 v3) := by
  unfold sX0_reachedFrom_4
  refine am_iload_n dX0_reachedFrom_4 rfl 2 rfl ?_
  refine am_aload_n dX0_reachedFrom_5 rfl 0 rfl ?_
  refine am_get 0 0 clX0 (Nat.le_of_ble_eq_true rfl) h1 iX0_reachedFrom_0 fX0_reachedFrom_9 rfl dX0_reachedFrom_6 ?_
  refine am_icmp_ge (tgt := 58) dX0_reachedFrom_9 rfl (fun e5 => ?_) (fun e5 => ?_)
  · refine am_iload_n dX0_reachedFrom_58 rfl 1 rfl ?_
    exact am_iret dX0_reachedFrom_59 rfl rfl
  · refine am_iconst (v := 0) dX0_reachedFrom_12 (by decide) ?_
    refine am_istore (ls' := [(4, .int (0 : Int32)), (0, .ref (am_B Z + a0)), (2, .int v2), (3, .int v3)]) dX0_reachedFrom_13 (Nat.le_of_ble_eq_true rfl) rfl ?_
    refine am_jnV (fun j6 ej6 => ?_)
    have hj6 : ∀ (v7 : Int32), am_V Z X kX0_reachedFrom (fun r : Int32 => (some (.int r), R, I, L)) 52 [(0, .ref (am_B Z + a0)), (2, .int v7), (3, .int v3)] [] R I L (j6 v7) := by
      subst ej6
      intro v7
      show am_V Z X kX0_reachedFrom (fun r : Int32 => (some (.int r), R, I, L)) 52 [(0, .ref (am_B Z + a0)), (2, .int v7), (3, .int v3)] [] R I L _
      refine am_iinc (j := 2) (ls' := [(3, .int (v3 + (1 : Int32))), (0, .ref (am_B Z + a0)), (2, .int v7)]) dX0_reachedFrom_52 rfl rfl (Nat.le_of_ble_eq_true rfl) rfl ?_
      refine am_goto (tgt := 4) dX0_reachedFrom_55 rfl ?_
      refine am_sub (ls' := [(0, .ref (am_B Z + a0)), (2, .int v7), (3, .int (v3 + (1 : Int32)))]) [1, 2, 0] rfl ?_
      exact hih4 v7 (v3 + (1 : Int32))
    refine am_sub (ls' := [(0, .ref (am_B Z + a0)), (2, .int v2), (3, .int v3), (4, .int (0 : Int32))]) [1, 2, 3, 0] rfl ?_
    exact uX0_reachedFrom_15 R I L a0 v3 h1 j6 hj6 am_fu v2 (0 : Int32)
theorem uX0_reachedFrom_4 {Z : am_Z} {X : am_X} (R : am_R) (I : am_I) (L : am_L) (a0 : Nat) (h1 : am_G Z a0 = some (.inl 0)) : ∀ (n : Nat) (v2 : Int32) (v3 : Int32), am_V Z X kX0_reachedFrom (fun r : Int32 => (some (.int r), R, I, L)) 4 [(0, .ref (am_B Z + a0)), (2, .int v2), (3, .int v3)] [] R I L (lX0_reachedFrom_4 R I a0 n v2 v3) := by
  intro n
  induction n with
  | zero => intro _ _; exact am_none
  | succ n ih => exact fun v2 v3 => vX0_reachedFrom_4 R I L a0 h1 (lX0_reachedFrom_4 R I a0 n) ih v2 v3
set_option maxRecDepth 100000 in
set_option maxHeartbeats 4000000 in
theorem tX0_reachedFrom {Z : am_Z} (R : am_R) (I : am_I) (L : am_L) (a0 : Nat) (x1 : Int32) (h_a0 : am_G Z a0 = some (.inl 0)) : am_M Z yX0_reachedFrom kX0_reachedFrom [.ref (am_B Z + a0), .int x1] R I L (pX0_reachedFrom R I a0 x1) (fun r : Int32 => (some (.int r), R, I, L)) := by
  refine am_entry (ls := [(0, .ref (am_B Z + a0)), (1, .int x1)]) (by decide) hX0_reachedFrom rfl (Nat.le_of_ble_eq_true rfl) rfl (fun X => ?_)
  unfold pX0_reachedFrom
  refine am_iload_n dX0_reachedFrom_0 rfl 1 rfl ?_
  refine am_istore_n (ls' := [(2, .int x1), (0, .ref (am_B Z + a0)), (1, .int x1)]) dX0_reachedFrom_1 rfl (Nat.le_of_ble_eq_true rfl) rfl ?_
  refine am_iconst (v := 0) dX0_reachedFrom_2 (by decide) ?_
  refine am_istore_n (ls' := [(3, .int (0 : Int32)), (2, .int x1), (0, .ref (am_B Z + a0)), (1, .int x1)]) dX0_reachedFrom_3 rfl (Nat.le_of_ble_eq_true rfl) rfl ?_
  refine am_sub (ls' := [(0, .ref (am_B Z + a0)), (2, .int x1), (3, .int (0 : Int32))]) [2, 1, 0] rfl ?_
  exact uX0_reachedFrom_4 R I L a0 h_a0 am_fu x1 (0 : Int32)
abbrev kX0_reaching : am_K := (cX0_reaching, 5, RX0, wsX0_reaching, some .int, { frames := 2, cells := 0, slots := 0, locals := 46 })
theorem hX0_reaching : am_cl yX0_reaching kX0_reaching 1 := ⟨⟨_, rfl⟩, rfl, rfl, by decide +kernel, by decide +kernel, by decide +kernel⟩
theorem iX0_reaching_0 : ∀ w ∈ u_ws RX0 TX0 4, w ∈ wsX0_reaching := by decide +kernel
theorem fX0_reaching_9 : Cond.fieldLink RX0 9 "AmbiguityAnalyzer$Automaton" "states" "I" ∈ wsX0_reaching := by decide +kernel
set_option maxRecDepth 100000 in
set_option maxHeartbeats 4000000 in
theorem vX0_reaching_15 {Z : am_Z} {X : am_X} (R : am_R) (I : am_I) (L : am_L) (a0 : Nat) (v3 : Int32) (h8 : am_G Z a0 = some (.inl 0)) (j6 : Int32 → Option (Int32)) (hj6 : ∀ (v7 : Int32), am_V Z X kX0_reaching (fun r : Int32 => (some (.int r), R, I, L)) 52 [(0, .ref (am_B Z + a0)), (2, .int v7), (3, .int v3)] [] R I L (j6 v7)) (ih11 : Int32 → Int32 → Option (Int32)) (hih11 : ∀ (v9 : Int32) (v10 : Int32), am_V Z X kX0_reaching (fun r : Int32 => (some (.int r), R, I, L)) 15 [(0, .ref (am_B Z + a0)), (2, .int v9), (3, .int v3), (4, .int v10)] [] R I L (ih11 v9 v10)) (v9 : Int32) (v10 : Int32) : am_V Z X kX0_reaching (fun r : Int32 => (some (.int r), R, I, L)) 15 [(0, .ref (am_B Z + a0)), (2, .int v9), (3, .int v3), (4, .int v10)] [] R I L (sX0_reaching_15 R I a0 v3 j6 ih11 v9 v10) := by
  unfold sX0_reaching_15
  refine am_iload dX0_reaching_15 3 rfl ?_
  refine am_aload_n dX0_reaching_17 rfl 0 rfl ?_
  refine am_get 0 0 clX0 (Nat.le_of_ble_eq_true rfl) h8 iX0_reaching_0 fX0_reaching_9 rfl dX0_reaching_18 ?_
  refine am_icmp_ge (tgt := 52) dX0_reaching_21 rfl (fun e12 => ?_) (fun e12 => ?_)
  · refine am_sub (ls' := [(0, .ref (am_B Z + a0)), (2, .int v9), (3, .int v3)]) [0, 1, 2] rfl ?_
    exact hj6 v9
  · refine am_iload_n dX0_reaching_24 rfl 1 rfl ?_
    refine am_aload_n dX0_reaching_25 rfl 0 rfl ?_
    refine am_iload dX0_reaching_26 3 rfl ?_
    refine am_callV [.int v10] (tX0_neighbours R I L a0 v10 h8) h8 clX0 gX0_reaching_X0_neighbours hX0_neighbours rfl ⟨Nat.le_of_ble_eq_true rfl, Nat.le_of_ble_eq_true rfl⟩ rfl rfl (Nat.le_of_ble_eq_true rfl) dX0_reaching_28 (fun r13 => ?_)
    show am_V Z X kX0_reaching (fun r : Int32 => (some (.int r), R, I, L)) 31 [(0, .ref (am_B Z + a0)), (2, .int v9), (3, .int v3), (4, .int v10)] [.int r13, .int v9] R I L _
    refine am_iload_n dX0_reaching_31 rfl 1 rfl ?_
    refine am_iand dX0_reaching_32 ?_
    refine am_letJ (fun k15 ek15 => ?_)
    have hk15 : ∀ v14 : Int32, am_V Z X kX0_reaching (fun r : Int32 => (some (.int r), R, I, L)) 44 [(0, .ref (am_B Z + a0)), (3, .int v3), (4, .int v10)] [.int v14, .int v9] R I L (k15 v14) := by
      subst ek15
      intro v14
      show am_V Z X kX0_reaching (fun r : Int32 => (some (.int r), R, I, L)) 44 [(0, .ref (am_B Z + a0)), (3, .int v3), (4, .int v10)] [.int v14, .int v9] R I L _
      refine am_ior dX0_reaching_44 ?_
      refine am_letTi (fun v16 => ?_)
      refine am_istore_n (ls' := [(2, .int v16), (0, .ref (am_B Z + a0)), (3, .int v3), (4, .int v10)]) dX0_reaching_45 rfl (Nat.le_of_ble_eq_true rfl) rfl ?_
      refine am_iinc (j := 3) (ls' := [(4, .int (v10 + (1 : Int32))), (2, .int v16), (0, .ref (am_B Z + a0)), (3, .int v3)]) dX0_reaching_46 rfl rfl (Nat.le_of_ble_eq_true rfl) rfl ?_
      refine am_goto (tgt := 15) dX0_reaching_49 rfl ?_
      refine am_sub (ls' := [(0, .ref (am_B Z + a0)), (2, .int v16), (3, .int v3), (4, .int (v10 + (1 : Int32)))]) [2, 1, 3, 0] rfl ?_
      exact hih11 v16 (v10 + (1 : Int32))
    refine am_if_eqL (tgt := 43) dX0_reaching_33 rfl (fun e17 => ?_) (fun e17 => ?_)
    · refine am_iconst (v := 0) dX0_reaching_43 (by decide) ?_
      refine am_sub (ls' := [(0, .ref (am_B Z + a0)), (3, .int v3), (4, .int v10)]) [0, 2, 3] rfl ?_
      exact hk15 _
    · refine am_iconst (v := 1) dX0_reaching_36 (by decide) ?_
      refine am_iload dX0_reaching_37 3 rfl ?_
      refine am_ishl dX0_reaching_39 ?_
      refine am_goto (tgt := 44) dX0_reaching_40 rfl ?_
      refine am_sub (ls' := [(0, .ref (am_B Z + a0)), (3, .int v3), (4, .int v10)]) [0, 2, 3] rfl ?_
      exact hk15 _
theorem uX0_reaching_15 {Z : am_Z} {X : am_X} (R : am_R) (I : am_I) (L : am_L) (a0 : Nat) (v3 : Int32) (h8 : am_G Z a0 = some (.inl 0)) (j6 : Int32 → Option (Int32)) (hj6 : ∀ (v7 : Int32), am_V Z X kX0_reaching (fun r : Int32 => (some (.int r), R, I, L)) 52 [(0, .ref (am_B Z + a0)), (2, .int v7), (3, .int v3)] [] R I L (j6 v7)) : ∀ (n : Nat) (v9 : Int32) (v10 : Int32), am_V Z X kX0_reaching (fun r : Int32 => (some (.int r), R, I, L)) 15 [(0, .ref (am_B Z + a0)), (2, .int v9), (3, .int v3), (4, .int v10)] [] R I L (lX0_reaching_15 R I a0 v3 j6 n v9 v10) := by
  intro n
  induction n with
  | zero => intro _ _; exact am_none
  | succ n ih => exact fun v9 v10 => vX0_reaching_15 R I L a0 v3 h8 j6 hj6 (lX0_reaching_15 R I a0 v3 j6 n) ih v9 v10
set_option maxRecDepth 100000 in
set_option maxHeartbeats 4000000 in
theorem vX0_reaching_4 {Z : am_Z} {X : am_X} (R : am_R) (I : am_I) (L : am_L) (a0 : Nat) (h1 : am_G Z a0 = some (.inl 0)) (ih4 : Int32 → Int32 → Option (Int32)) (hih4 : ∀ (v2 : Int32) (v3 : Int32), am_V Z X kX0_reaching (fun r : Int32 => (some (.int r), R, I, L)) 4 [(0, .ref (am_B Z + a0)), (2, .int v2), (3, .int v3)] [] R I L (ih4 v2 v3)) (v2 : Int32) (v3 : Int32) : am_V Z X kX0_reaching (fun r : Int32 => (some (.int r), R, I, L)) 4 [(0, .ref (am_B Z + a0)), (2, .int v2), (3, .int v3)] [] R I L (sX0_reaching_4 R I a0 ih4 v2 v3) := by
  unfold sX0_reaching_4
  refine am_iload_n dX0_reaching_4 rfl 2 rfl ?_
  refine am_aload_n dX0_reaching_5 rfl 0 rfl ?_
  refine am_get 0 0 clX0 (Nat.le_of_ble_eq_true rfl) h1 iX0_reaching_0 fX0_reaching_9 rfl dX0_reaching_6 ?_
  refine am_icmp_ge (tgt := 58) dX0_reaching_9 rfl (fun e5 => ?_) (fun e5 => ?_)
  · refine am_iload_n dX0_reaching_58 rfl 1 rfl ?_
    exact am_iret dX0_reaching_59 rfl rfl
  · refine am_iconst (v := 0) dX0_reaching_12 (by decide) ?_
    refine am_istore (ls' := [(4, .int (0 : Int32)), (0, .ref (am_B Z + a0)), (2, .int v2), (3, .int v3)]) dX0_reaching_13 (Nat.le_of_ble_eq_true rfl) rfl ?_
    refine am_jnV (fun j6 ej6 => ?_)
    have hj6 : ∀ (v7 : Int32), am_V Z X kX0_reaching (fun r : Int32 => (some (.int r), R, I, L)) 52 [(0, .ref (am_B Z + a0)), (2, .int v7), (3, .int v3)] [] R I L (j6 v7) := by
      subst ej6
      intro v7
      show am_V Z X kX0_reaching (fun r : Int32 => (some (.int r), R, I, L)) 52 [(0, .ref (am_B Z + a0)), (2, .int v7), (3, .int v3)] [] R I L _
      refine am_iinc (j := 2) (ls' := [(3, .int (v3 + (1 : Int32))), (0, .ref (am_B Z + a0)), (2, .int v7)]) dX0_reaching_52 rfl rfl (Nat.le_of_ble_eq_true rfl) rfl ?_
      refine am_goto (tgt := 4) dX0_reaching_55 rfl ?_
      refine am_sub (ls' := [(0, .ref (am_B Z + a0)), (2, .int v7), (3, .int (v3 + (1 : Int32)))]) [1, 2, 0] rfl ?_
      exact hih4 v7 (v3 + (1 : Int32))
    refine am_sub (ls' := [(0, .ref (am_B Z + a0)), (2, .int v2), (3, .int v3), (4, .int (0 : Int32))]) [1, 2, 3, 0] rfl ?_
    exact uX0_reaching_15 R I L a0 v3 h1 j6 hj6 am_fu v2 (0 : Int32)
theorem uX0_reaching_4 {Z : am_Z} {X : am_X} (R : am_R) (I : am_I) (L : am_L) (a0 : Nat) (h1 : am_G Z a0 = some (.inl 0)) : ∀ (n : Nat) (v2 : Int32) (v3 : Int32), am_V Z X kX0_reaching (fun r : Int32 => (some (.int r), R, I, L)) 4 [(0, .ref (am_B Z + a0)), (2, .int v2), (3, .int v3)] [] R I L (lX0_reaching_4 R I a0 n v2 v3) := by
  intro n
  induction n with
  | zero => intro _ _; exact am_none
  | succ n ih => exact fun v2 v3 => vX0_reaching_4 R I L a0 h1 (lX0_reaching_4 R I a0 n) ih v2 v3
set_option maxRecDepth 100000 in
set_option maxHeartbeats 4000000 in
theorem tX0_reaching {Z : am_Z} (R : am_R) (I : am_I) (L : am_L) (a0 : Nat) (x1 : Int32) (h_a0 : am_G Z a0 = some (.inl 0)) : am_M Z yX0_reaching kX0_reaching [.ref (am_B Z + a0), .int x1] R I L (pX0_reaching R I a0 x1) (fun r : Int32 => (some (.int r), R, I, L)) := by
  refine am_entry (ls := [(0, .ref (am_B Z + a0)), (1, .int x1)]) (by decide) hX0_reaching rfl (Nat.le_of_ble_eq_true rfl) rfl (fun X => ?_)
  unfold pX0_reaching
  refine am_iload_n dX0_reaching_0 rfl 1 rfl ?_
  refine am_istore_n (ls' := [(2, .int x1), (0, .ref (am_B Z + a0)), (1, .int x1)]) dX0_reaching_1 rfl (Nat.le_of_ble_eq_true rfl) rfl ?_
  refine am_iconst (v := 0) dX0_reaching_2 (by decide) ?_
  refine am_istore_n (ls' := [(3, .int (0 : Int32)), (2, .int x1), (0, .ref (am_B Z + a0)), (1, .int x1)]) dX0_reaching_3 rfl (Nat.le_of_ble_eq_true rfl) rfl ?_
  refine am_sub (ls' := [(0, .ref (am_B Z + a0)), (2, .int x1), (3, .int (0 : Int32))]) [2, 1, 0] rfl ?_
  exact uX0_reaching_4 R I L a0 h_a0 am_fu x1 (0 : Int32)
abbrev kX0_usefulSet : am_K := (cX0_usefulSet, 1, RX0, wsX0_usefulSet, some .int, { frames := 3, cells := 0, slots := 0, locals := 70 })
theorem hX0_usefulSet : am_cl yX0_usefulSet kX0_usefulSet 0 := ⟨⟨_, rfl⟩, rfl, rfl, by decide +kernel, by decide +kernel, by decide +kernel⟩
theorem iX0_usefulSet_0 : ∀ w ∈ u_ws RX0 TX0 4, w ∈ wsX0_usefulSet := by decide +kernel
theorem fX0_usefulSet_19 : Cond.fieldLink RX0 19 "AmbiguityAnalyzer$Automaton" "initials" "I" ∈ wsX0_usefulSet := by decide +kernel
theorem fX0_usefulSet_22 : Cond.fieldLink RX0 22 "AmbiguityAnalyzer$Automaton" "finals" "I" ∈ wsX0_usefulSet := by decide +kernel
set_option maxRecDepth 100000 in
set_option maxHeartbeats 4000000 in
theorem tX0_usefulSet {Z : am_Z} (R : am_R) (I : am_I) (L : am_L) (a0 : Nat) (h_a0 : am_G Z a0 = some (.inl 0)) : am_M Z yX0_usefulSet kX0_usefulSet [.ref (am_B Z + a0)] R I L (pX0_usefulSet R I a0) (fun r : Int32 => (some (.int r), R, I, L)) := by
  refine am_entry (ls := [(0, .ref (am_B Z + a0))]) (by decide) hX0_usefulSet rfl (Nat.le_of_ble_eq_true rfl) rfl (fun X => ?_)
  unfold pX0_usefulSet
  refine am_aload_n dX0_usefulSet_0 rfl 0 rfl ?_
  refine am_aload_n dX0_usefulSet_1 rfl 0 rfl ?_
  refine am_get 0 1 clX0 (Nat.le_of_ble_eq_true rfl) h_a0 iX0_usefulSet_0 fX0_usefulSet_19 rfl dX0_usefulSet_2 ?_
  refine am_callV [.int (I a0 1)] (tX0_reachedFrom R I L a0 (I a0 1) h_a0) h_a0 clX0 gX0_usefulSet_X0_reachedFrom hX0_reachedFrom rfl ⟨Nat.le_of_ble_eq_true rfl, Nat.le_of_ble_eq_true rfl⟩ rfl rfl (Nat.le_of_ble_eq_true rfl) dX0_usefulSet_5 (fun r1 => ?_)
  show am_V Z X kX0_usefulSet (fun r : Int32 => (some (.int r), R, I, L)) 8 [(0, .ref (am_B Z + a0))] [.int r1] R I L _
  refine am_aload_n dX0_usefulSet_8 rfl 0 rfl ?_
  refine am_aload_n dX0_usefulSet_9 rfl 0 rfl ?_
  refine am_get 0 2 clX0 (Nat.le_of_ble_eq_true rfl) h_a0 iX0_usefulSet_0 fX0_usefulSet_22 rfl dX0_usefulSet_10 ?_
  refine am_callV [.int (I a0 2)] (tX0_reaching R I L a0 (I a0 2) h_a0) h_a0 clX0 gX0_usefulSet_X0_reaching hX0_reaching rfl ⟨Nat.le_of_ble_eq_true rfl, Nat.le_of_ble_eq_true rfl⟩ rfl rfl (Nat.le_of_ble_eq_true rfl) dX0_usefulSet_13 (fun r2 => ?_)
  show am_V Z X kX0_usefulSet (fun r : Int32 => (some (.int r), R, I, L)) 16 [(0, .ref (am_B Z + a0))] [.int r2, .int r1] R I L _
  refine am_iand dX0_usefulSet_16 ?_
  exact am_iret dX0_usefulSet_17 rfl rfl
abbrev kX0_squeeze : am_K := (cX0_squeeze, 5, RX0, wsX0_squeeze, some .int, { frames := 1, cells := 0, slots := 0, locals := 21 })
theorem hX0_squeeze : am_cl yX0_squeeze kX0_squeeze 2 := ⟨⟨_, rfl⟩, rfl, rfl, by decide +kernel, by decide +kernel, by decide +kernel⟩
set_option maxRecDepth 100000 in
set_option maxHeartbeats 4000000 in
theorem vX0_squeeze_7 {Z : am_Z} {X : am_X} (R : am_R) (I : am_I) (L : am_L) (x0 : Int32) (x1 : Int32) (ih4 : Int32 → Int32 → Int32 → Option (Int32)) (hih4 : ∀ (v1 : Int32) (v2 : Int32) (v3 : Int32), am_V Z X kX0_squeeze (fun r : Int32 => (some (.int r), R, I, L)) 7 [(0, .int x0), (1, .int x1), (2, .int v1), (3, .int v2), (4, .int v3)] [] R I L (ih4 v1 v2 v3)) (v1 : Int32) (v2 : Int32) (v3 : Int32) : am_V Z X kX0_squeeze (fun r : Int32 => (some (.int r), R, I, L)) 7 [(0, .int x0), (1, .int x1), (2, .int v1), (3, .int v2), (4, .int v3)] [] R I L (sX0_squeeze_7 x0 x1 ih4 v1 v2 v3) := by
  unfold sX0_squeeze_7
  refine am_iload dX0_squeeze_7 4 rfl ?_
  refine am_bipush (v := 6) dX0_squeeze_9 (by decide) ?_
  refine am_icmp_ge (tgt := 51) dX0_squeeze_11 rfl (fun e5 => ?_) (fun e5 => ?_)
  · refine am_iload_n dX0_squeeze_51 rfl 2 rfl ?_
    exact am_iret dX0_squeeze_52 rfl rfl
  · refine am_iload_n dX0_squeeze_14 rfl 1 rfl ?_
    refine am_iload dX0_squeeze_15 4 rfl ?_
    refine am_callN (host := RX10) [.int x1, .int v3] (tX10_contains R I L x1 v3) gX0_squeeze_X10_contains_n40 (by decide +kernel) (by decide +kernel) (by decide +kernel) hX10_contains ⟨Nat.le_of_ble_eq_true rfl, Nat.le_of_ble_eq_true rfl⟩ rfl rfl (Nat.le_of_ble_eq_true rfl) dX0_squeeze_17 (fun r6 => ?_)
    show am_V Z X kX0_squeeze (fun r : Int32 => (some (.int r), R, I, L)) 20 [(0, .int x0), (1, .int x1), (2, .int v1), (3, .int v2), (4, .int v3)] [.int r6] R I L _
    refine am_jnV (fun j7 ej7 => ?_)
    have hj7 : ∀ (v8 : Int32) (v9 : Int32), am_V Z X kX0_squeeze (fun r : Int32 => (some (.int r), R, I, L)) 45 [(0, .int x0), (1, .int x1), (2, .int v8), (3, .int v9), (4, .int v3)] [] R I L (j7 v8 v9) := by
      subst ej7
      intro v8 v9
      show am_V Z X kX0_squeeze (fun r : Int32 => (some (.int r), R, I, L)) 45 [(0, .int x0), (1, .int x1), (2, .int v8), (3, .int v9), (4, .int v3)] [] R I L _
      refine am_iinc (j := 4) (ls' := [(4, .int (v3 + (1 : Int32))), (0, .int x0), (1, .int x1), (2, .int v8), (3, .int v9)]) dX0_squeeze_45 rfl rfl (Nat.le_of_ble_eq_true rfl) rfl ?_
      refine am_goto (tgt := 7) dX0_squeeze_48 rfl ?_
      refine am_sub (ls' := [(0, .int x0), (1, .int x1), (2, .int v8), (3, .int v9), (4, .int (v3 + (1 : Int32)))]) [1, 2, 3, 4, 0] rfl ?_
      exact hih4 v8 v9 (v3 + (1 : Int32))
    refine am_if_eq (tgt := 45) dX0_squeeze_20 rfl (fun e10 => ?_) (fun e10 => ?_)
    · exact hj7 v1 v2
    · refine am_iload_n dX0_squeeze_23 rfl 2 rfl ?_
      refine am_iload_n dX0_squeeze_24 rfl 0 rfl ?_
      refine am_iload dX0_squeeze_25 4 rfl ?_
      refine am_callN (host := RX10) [.int x0, .int v3] (tX10_contains R I L x0 v3) gX0_squeeze_X10_contains_n40 (by decide +kernel) (by decide +kernel) (by decide +kernel) hX10_contains ⟨Nat.le_of_ble_eq_true rfl, Nat.le_of_ble_eq_true rfl⟩ rfl rfl (Nat.le_of_ble_eq_true rfl) dX0_squeeze_27 (fun r11 => ?_)
      show am_V Z X kX0_squeeze (fun r : Int32 => (some (.int r), R, I, L)) 30 [(0, .int x0), (1, .int x1), (2, .int v1), (3, .int v2), (4, .int v3)] [.int r11, .int v1] R I L _
      refine am_letJ (fun k13 ek13 => ?_)
      have hk13 : ∀ v12 : Int32, am_V Z X kX0_squeeze (fun r : Int32 => (some (.int r), R, I, L)) 40 [(0, .int x0), (1, .int x1), (3, .int v2), (4, .int v3)] [.int v12, .int v1] R I L (k13 v12) := by
        subst ek13
        intro v12
        show am_V Z X kX0_squeeze (fun r : Int32 => (some (.int r), R, I, L)) 40 [(0, .int x0), (1, .int x1), (3, .int v2), (4, .int v3)] [.int v12, .int v1] R I L _
        refine am_ior dX0_squeeze_40 ?_
        refine am_letTi (fun v14 => ?_)
        refine am_istore_n (ls' := [(2, .int v14), (0, .int x0), (1, .int x1), (3, .int v2), (4, .int v3)]) dX0_squeeze_41 rfl (Nat.le_of_ble_eq_true rfl) rfl ?_
        refine am_iinc (j := 3) (ls' := [(3, .int (v2 + (1 : Int32))), (2, .int v14), (0, .int x0), (1, .int x1), (4, .int v3)]) dX0_squeeze_42 rfl rfl (Nat.le_of_ble_eq_true rfl) rfl ?_
        refine am_sub (ls' := [(0, .int x0), (1, .int x1), (2, .int v14), (3, .int (v2 + (1 : Int32))), (4, .int v3)]) [2, 3, 1, 0, 4] rfl ?_
        exact hj7 v14 (v2 + (1 : Int32))
      refine am_if_eqL (tgt := 39) dX0_squeeze_30 rfl (fun e15 => ?_) (fun e15 => ?_)
      · refine am_iconst (v := 0) dX0_squeeze_39 (by decide) ?_
        refine am_sub (ls' := [(0, .int x0), (1, .int x1), (3, .int v2), (4, .int v3)]) [0, 1, 3, 4] rfl ?_
        exact hk13 _
      · refine am_iconst (v := 1) dX0_squeeze_33 (by decide) ?_
        refine am_iload_n dX0_squeeze_34 rfl 3 rfl ?_
        refine am_ishl dX0_squeeze_35 ?_
        refine am_goto (tgt := 40) dX0_squeeze_36 rfl ?_
        refine am_sub (ls' := [(0, .int x0), (1, .int x1), (3, .int v2), (4, .int v3)]) [0, 1, 3, 4] rfl ?_
        exact hk13 _
theorem uX0_squeeze_7 {Z : am_Z} {X : am_X} (R : am_R) (I : am_I) (L : am_L) (x0 : Int32) (x1 : Int32) : ∀ (n : Nat) (v1 : Int32) (v2 : Int32) (v3 : Int32), am_V Z X kX0_squeeze (fun r : Int32 => (some (.int r), R, I, L)) 7 [(0, .int x0), (1, .int x1), (2, .int v1), (3, .int v2), (4, .int v3)] [] R I L (lX0_squeeze_7 x0 x1 n v1 v2 v3) := by
  intro n
  induction n with
  | zero => intro _ _ _; exact am_none
  | succ n ih => exact fun v1 v2 v3 => vX0_squeeze_7 R I L x0 x1 (lX0_squeeze_7 x0 x1 n) ih v1 v2 v3
set_option maxRecDepth 100000 in
set_option maxHeartbeats 4000000 in
theorem tX0_squeeze {Z : am_Z} (R : am_R) (I : am_I) (L : am_L) (x0 : Int32) (x1 : Int32)  : am_M Z yX0_squeeze kX0_squeeze [.int x0, .int x1] R I L (pX0_squeeze x0 x1) (fun r : Int32 => (some (.int r), R, I, L)) := by
  refine am_entry (ls := [(0, .int x0), (1, .int x1)]) (by decide) hX0_squeeze rfl (Nat.le_of_ble_eq_true rfl) rfl (fun X => ?_)
  unfold pX0_squeeze
  refine am_iconst (v := 0) dX0_squeeze_0 (by decide) ?_
  refine am_istore_n (ls' := [(2, .int (0 : Int32)), (0, .int x0), (1, .int x1)]) dX0_squeeze_1 rfl (Nat.le_of_ble_eq_true rfl) rfl ?_
  refine am_iconst (v := 0) dX0_squeeze_2 (by decide) ?_
  refine am_istore_n (ls' := [(3, .int (0 : Int32)), (2, .int (0 : Int32)), (0, .int x0), (1, .int x1)]) dX0_squeeze_3 rfl (Nat.le_of_ble_eq_true rfl) rfl ?_
  refine am_iconst (v := 0) dX0_squeeze_4 (by decide) ?_
  refine am_istore (ls' := [(4, .int (0 : Int32)), (3, .int (0 : Int32)), (2, .int (0 : Int32)), (0, .int x0), (1, .int x1)]) dX0_squeeze_5 (Nat.le_of_ble_eq_true rfl) rfl ?_
  refine am_sub (ls' := [(0, .int x0), (1, .int x1), (2, .int (0 : Int32)), (3, .int (0 : Int32)), (4, .int (0 : Int32))]) [3, 4, 2, 1, 0] rfl ?_
  exact uX0_squeeze_7 R I L x0 x1 am_fu (0 : Int32) (0 : Int32) (0 : Int32)
abbrev kX0_moveTargets : am_K := (cX0_moveTargets, 5, RX0, wsX0_moveTargets, none, { frames := 2, cells := 0, slots := 0, locals := 45 })
theorem hX0_moveTargets : am_cl yX0_moveTargets kX0_moveTargets 3 := ⟨⟨_, rfl⟩, rfl, rfl, by decide +kernel, by decide +kernel, by decide +kernel⟩
theorem iX0_moveTargets_0 : ∀ w ∈ u_ws RX0 TX0 4, w ∈ wsX0_moveTargets := by decide +kernel
theorem fX0_moveTargets_15 : Cond.fieldLink RX0 15 "AmbiguityAnalyzer$Automaton" "targets" "[I" ∈ wsX0_moveTargets := by decide +kernel
set_option maxRecDepth 100000 in
set_option maxHeartbeats 4000000 in
theorem vX0_moveTargets_14 {Z : am_Z} {X : am_X} (R : am_R) (L : am_L) (a0 : Nat) (x1 : Int32) (x2 : Int32) (x3 : Int32) (h3 : am_G Z a0 = some (.inl 0)) (ih6 : Int32 → am_I → Option (am_I)) (hih6 : ∀ (v4 : Int32) (J5 : am_I), am_V Z X kX0_moveTargets (fun r : am_I => (none, R, r, L)) 14 [(0, .ref (am_B Z + a0)), (1, .int x1), (2, .int x2), (3, .int x3), (4, .int v4)] [] R J5 L (ih6 v4 J5)) (v4 : Int32) (J5 : am_I) : am_V Z X kX0_moveTargets (fun r : am_I => (none, R, r, L)) 14 [(0, .ref (am_B Z + a0)), (1, .int x1), (2, .int x2), (3, .int x3), (4, .int v4)] [] R J5 L (sX0_moveTargets_14 R a0 x1 x2 x3 ih6 v4 J5) := by
  unfold sX0_moveTargets_14
  refine am_iload dX0_moveTargets_14 4 rfl ?_
  refine am_iconst (v := 3) dX0_moveTargets_16 (by decide) ?_
  refine am_icmp_ge (tgt := 48) dX0_moveTargets_17 rfl (fun e7 => ?_) (fun e7 => ?_)
  · exact am_vret dX0_moveTargets_48 rfl rfl
  · refine am_aload_n dX0_moveTargets_20 rfl 0 rfl ?_
    refine am_getR 0 3 clX0 (Nat.le_of_ble_eq_true rfl) h3 iX0_moveTargets_0 fX0_moveTargets_15 rfl rfl dX0_moveTargets_21 (fun h8 => ?_)
    refine am_iload_n dX0_moveTargets_24 rfl 2 rfl ?_
    refine am_iconst (v := 3) dX0_moveTargets_25 (by decide) ?_
    refine am_imul dX0_moveTargets_26 ?_
    refine am_iload dX0_moveTargets_27 4 rfl ?_
    refine am_iadd dX0_moveTargets_29 ?_
    refine am_aload_n dX0_moveTargets_30 rfl 0 rfl ?_
    refine am_iload_n dX0_moveTargets_31 rfl 1 rfl ?_
    refine am_iload dX0_moveTargets_32 4 rfl ?_
    refine am_callV [.int x1, .int v4] (tX0_targetsOf R J5 L a0 x1 v4 h3) h3 clX0 gX0_moveTargets_X0_targetsOf hX0_targetsOf rfl ⟨Nat.le_of_ble_eq_true rfl, Nat.le_of_ble_eq_true rfl⟩ rfl rfl (Nat.le_of_ble_eq_true rfl) dX0_moveTargets_34 (fun r9 => ?_)
    show am_V Z X kX0_moveTargets (fun r : am_I => (none, R, r, L)) 37 [(0, .ref (am_B Z + a0)), (1, .int x1), (2, .int x2), (3, .int x3), (4, .int v4)] [.int r9, .int ((x2 * (3 : Int32)) + v4), .ref (am_B Z + (R a0 3))] R J5 L _
    refine am_iload_n dX0_moveTargets_37 rfl 3 rfl ?_
    refine am_callS [.int r9, .int x3] (tX0_squeeze R J5 L r9 x3) gX0_moveTargets_X0_squeeze hX0_squeeze ⟨Nat.le_of_ble_eq_true rfl, Nat.le_of_ble_eq_true rfl⟩ rfl rfl (Nat.le_of_ble_eq_true rfl) dX0_moveTargets_38 (fun r10 => ?_)
    show am_V Z X kX0_moveTargets (fun r : am_I => (none, R, r, L)) 41 [(0, .ref (am_B Z + a0)), (1, .int x1), (2, .int x2), (3, .int x3), (4, .int v4)] [.int r10, .int ((x2 * (3 : Int32)) + v4), .ref (am_B Z + (R a0 3))] R J5 L _
    refine am_iast h8 dX0_moveTargets_41 ?_
    refine am_letI (fun J11 => ?_)
    refine am_iinc (j := 4) (ls' := [(4, .int (v4 + (1 : Int32))), (0, .ref (am_B Z + a0)), (1, .int x1), (2, .int x2), (3, .int x3)]) dX0_moveTargets_42 rfl rfl (Nat.le_of_ble_eq_true rfl) rfl ?_
    refine am_goto (tgt := 14) dX0_moveTargets_45 rfl ?_
    refine am_sub (ls' := [(0, .ref (am_B Z + a0)), (1, .int x1), (2, .int x2), (3, .int x3), (4, .int (v4 + (1 : Int32)))]) [1, 2, 3, 4, 0] rfl ?_
    exact hih6 (v4 + (1 : Int32)) J11
theorem uX0_moveTargets_14 {Z : am_Z} {X : am_X} (R : am_R) (L : am_L) (a0 : Nat) (x1 : Int32) (x2 : Int32) (x3 : Int32) (h3 : am_G Z a0 = some (.inl 0)) : ∀ (n : Nat) (v4 : Int32) (J5 : am_I), am_V Z X kX0_moveTargets (fun r : am_I => (none, R, r, L)) 14 [(0, .ref (am_B Z + a0)), (1, .int x1), (2, .int x2), (3, .int x3), (4, .int v4)] [] R J5 L (lX0_moveTargets_14 R a0 x1 x2 x3 n v4 J5) := by
  intro n
  induction n with
  | zero => intro _ _; exact am_none
  | succ n ih => exact fun v4 J5 => vX0_moveTargets_14 R L a0 x1 x2 x3 h3 (lX0_moveTargets_14 R a0 x1 x2 x3 n) ih v4 J5
set_option maxRecDepth 100000 in
set_option maxHeartbeats 4000000 in
theorem tX0_moveTargets {Z : am_Z} (R : am_R) (I : am_I) (L : am_L) (a0 : Nat) (x1 : Int32) (x2 : Int32) (x3 : Int32) (h_a0 : am_G Z a0 = some (.inl 0)) : am_M Z yX0_moveTargets kX0_moveTargets [.ref (am_B Z + a0), .int x1, .int x2, .int x3] R I L (pX0_moveTargets R I a0 x1 x2 x3) (fun r : am_I => (none, R, r, L)) := by
  refine am_entry (ls := [(0, .ref (am_B Z + a0)), (1, .int x1), (2, .int x2), (3, .int x3)]) (by decide) hX0_moveTargets rfl (Nat.le_of_ble_eq_true rfl) rfl (fun X => ?_)
  unfold pX0_moveTargets
  refine am_iload_n dX0_moveTargets_0 rfl 2 rfl ?_
  refine am_if_lt (tgt := 10) dX0_moveTargets_1 rfl (fun e1 => ?_) (fun e1 => ?_)
  · exact am_vret dX0_moveTargets_10 rfl rfl
  · refine am_iload_n dX0_moveTargets_4 rfl 2 rfl ?_
    refine am_bipush (v := 6) dX0_moveTargets_5 (by decide) ?_
    refine am_icmp_lt (tgt := 11) dX0_moveTargets_7 rfl (fun e2 => ?_) (fun e2 => ?_)
    · refine am_iconst (v := 0) dX0_moveTargets_11 (by decide) ?_
      refine am_istore (ls' := [(4, .int (0 : Int32)), (0, .ref (am_B Z + a0)), (1, .int x1), (2, .int x2), (3, .int x3)]) dX0_moveTargets_12 (Nat.le_of_ble_eq_true rfl) rfl ?_
      refine am_sub (ls' := [(0, .ref (am_B Z + a0)), (1, .int x1), (2, .int x2), (3, .int x3), (4, .int (0 : Int32))]) [1, 2, 3, 4, 0] rfl ?_
      exact uX0_moveTargets_14 R L a0 x1 x2 x3 h_a0 am_fu (0 : Int32) I
    · exact am_vret dX0_moveTargets_10 rfl rfl
