abbrev kX11_isBetween : am_K := (cX11_isBetween, 6, RX11, wsX11_isBetween, some .boolean, { frames := 0, cells := 0, slots := 0, locals := 0 })
theorem hX11_isBetween : am_cl yX11_isBetween kX11_isBetween 3 := ⟨⟨_, rfl⟩, rfl, rfl, by decide +kernel, by decide +kernel, by decide +kernel⟩
set_option maxRecDepth 100000 in
set_option maxHeartbeats 4000000 in
theorem tX11_isBetween {Z : am_Z} (R : am_R) (I : am_I) (L : am_L) (x0 : Int64) (x2 : Int64) (x4 : Int64)  : am_M Z yX11_isBetween kX11_isBetween [.long x0, .long x2, .long x4] R I L (pX11_isBetween x0 x2 x4) (fun r : Int32 => (some (.int r), R, I, L)) := by
  refine am_entry (ls := [(0, .long x0), (2, .long x2), (4, .long x4)]) (by decide) hX11_isBetween rfl (Nat.le_of_ble_eq_true rfl) rfl (fun X => ?_)
  unfold pX11_isBetween
  refine am_lload_n dX11_isBetween_0 rfl 0 rfl ?_
  refine am_lload_n dX11_isBetween_1 rfl 1 rfl ?_
  refine am_lcmp dX11_isBetween_2 ?_
  refine am_if_lt (tgt := 17) dX11_isBetween_3 rfl (fun e1 => ?_) (fun e1 => ?_)
  · refine am_iconst (v := 0) dX11_isBetween_17 (by decide) ?_
    exact am_zret (by decide) dX11_isBetween_18 rfl rfl
  · refine am_lload_n dX11_isBetween_6 rfl 0 rfl ?_
    refine am_lload dX11_isBetween_7 2 rfl ?_
    refine am_lcmp dX11_isBetween_9 ?_
    refine am_if_gt (tgt := 17) dX11_isBetween_10 rfl (fun e2 => ?_) (fun e2 => ?_)
    · refine am_iconst (v := 0) dX11_isBetween_17 (by decide) ?_
      exact am_zret (by decide) dX11_isBetween_18 rfl rfl
    · refine am_iconst (v := 1) dX11_isBetween_13 (by decide) ?_
      refine am_goto (tgt := 18) dX11_isBetween_14 rfl ?_
      exact am_zret (by decide) dX11_isBetween_18 rfl rfl
abbrev kX11_has : am_K := (cX11_has, 3, RX11, wsX11_has, some .boolean, { frames := 0, cells := 0, slots := 0, locals := 0 })
theorem hX11_has : am_cl yX11_has kX11_has 2 := ⟨⟨_, rfl⟩, rfl, rfl, by decide +kernel, by decide +kernel, by decide +kernel⟩
set_option maxRecDepth 100000 in
set_option maxHeartbeats 4000000 in
theorem tX11_has {Z : am_Z} (R : am_R) (I : am_I) (L : am_L) (x0 : Int64) (x2 : Int32)  : am_M Z yX11_has kX11_has [.long x0, .int x2] R I L (pX11_has x0 x2) (fun r : Int32 => (some (.int r), R, I, L)) := by
  refine am_entry (ls := [(0, .long x0), (2, .int x2)]) (by decide) hX11_has rfl (Nat.le_of_ble_eq_true rfl) rfl (fun X => ?_)
  unfold pX11_has
  refine am_lload_n dX11_has_0 rfl 0 rfl ?_
  refine am_iload_n dX11_has_1 rfl 1 rfl ?_
  refine am_lshr dX11_has_2 ?_
  refine am_lconst (v := 1) dX11_has_3 (by decide) ?_
  refine am_land dX11_has_4 ?_
  refine am_lconst (v := 1) dX11_has_5 (by decide) ?_
  refine am_lcmp dX11_has_6 ?_
  refine am_if_ne (tgt := 14) dX11_has_7 rfl (fun e1 => ?_) (fun e1 => ?_)
  · refine am_iconst (v := 0) dX11_has_14 (by decide) ?_
    exact am_zret (by decide) dX11_has_15 rfl rfl
  · refine am_iconst (v := 1) dX11_has_10 (by decide) ?_
    refine am_goto (tgt := 15) dX11_has_11 rfl ?_
    exact am_zret (by decide) dX11_has_15 rfl rfl
abbrev kX11_isState : am_K := (cX11_isState, 2, RX11, wsX11_isState, some .boolean, { frames := 0, cells := 0, slots := 0, locals := 0 })
theorem hX11_isState : am_cl yX11_isState kX11_isState 1 := ⟨⟨_, rfl⟩, rfl, rfl, by decide +kernel, by decide +kernel, by decide +kernel⟩
theorem iX11_isState_11 : ∀ w ∈ u_ws RX11 TX11 50, w ∈ wsX11_isState := by decide +kernel
theorem fX11_isState_19 : Cond.fieldLink RX11 19 "AmbiguityAnalyzerModel" "states" "I" ∈ wsX11_isState := by decide +kernel
set_option maxRecDepth 100000 in
set_option maxHeartbeats 4000000 in
theorem tX11_isState {Z : am_Z} (R : am_R) (I : am_I) (L : am_L) (a0 : Nat) (x1 : Int32) (h_a0 : am_G Z a0 = some (.inl 11)) : am_M Z yX11_isState kX11_isState [.ref (am_B Z + a0), .int x1] R I L (pX11_isState I a0 x1) (fun r : Int32 => (some (.int r), R, I, L)) := by
  refine am_entry (ls := [(0, .ref (am_B Z + a0)), (1, .int x1)]) (by decide) hX11_isState rfl (Nat.le_of_ble_eq_true rfl) rfl (fun X => ?_)
  unfold pX11_isState
  refine am_iload_n dX11_isState_0 rfl 1 rfl ?_
  refine am_if_lt (tgt := 16) dX11_isState_1 rfl (fun e1 => ?_) (fun e1 => ?_)
  · refine am_iconst (v := 0) dX11_isState_16 (by decide) ?_
    exact am_zret (by decide) dX11_isState_17 rfl rfl
  · refine am_iload_n dX11_isState_4 rfl 1 rfl ?_
    refine am_aload_n dX11_isState_5 rfl 0 rfl ?_
    refine am_get 11 3 clX11 (Nat.le_of_ble_eq_true rfl) h_a0 iX11_isState_11 fX11_isState_19 rfl dX11_isState_6 ?_
    refine am_icmp_ge (tgt := 16) dX11_isState_9 rfl (fun e2 => ?_) (fun e2 => ?_)
    · refine am_iconst (v := 0) dX11_isState_16 (by decide) ?_
      exact am_zret (by decide) dX11_isState_17 rfl rfl
    · refine am_iconst (v := 1) dX11_isState_12 (by decide) ?_
      refine am_goto (tgt := 17) dX11_isState_13 rfl ?_
      exact am_zret (by decide) dX11_isState_17 rfl rfl
abbrev kX11_isLetter : am_K := (cX11_isLetter, 1, RX11, wsX11_isLetter, some .boolean, { frames := 0, cells := 0, slots := 0, locals := 0 })
theorem hX11_isLetter : am_cl yX11_isLetter kX11_isLetter 1 := ⟨⟨_, rfl⟩, rfl, rfl, by decide +kernel, by decide +kernel, by decide +kernel⟩
set_option maxRecDepth 100000 in
set_option maxHeartbeats 4000000 in
theorem tX11_isLetter {Z : am_Z} (R : am_R) (I : am_I) (L : am_L) (x0 : Int32)  : am_M Z yX11_isLetter kX11_isLetter [.int x0] R I L (pX11_isLetter x0) (fun r : Int32 => (some (.int r), R, I, L)) := by
  refine am_entry (ls := [(0, .int x0)]) (by decide) hX11_isLetter rfl (Nat.le_of_ble_eq_true rfl) rfl (fun X => ?_)
  unfold pX11_isLetter
  refine am_iload_n dX11_isLetter_0 rfl 0 rfl ?_
  refine am_if_lt (tgt := 13) dX11_isLetter_1 rfl (fun e1 => ?_) (fun e1 => ?_)
  · refine am_iconst (v := 0) dX11_isLetter_13 (by decide) ?_
    exact am_zret (by decide) dX11_isLetter_14 rfl rfl
  · refine am_iload_n dX11_isLetter_4 rfl 0 rfl ?_
    refine am_iconst (v := 3) dX11_isLetter_5 (by decide) ?_
    refine am_icmp_ge (tgt := 13) dX11_isLetter_6 rfl (fun e2 => ?_) (fun e2 => ?_)
    · refine am_iconst (v := 0) dX11_isLetter_13 (by decide) ?_
      exact am_zret (by decide) dX11_isLetter_14 rfl rfl
    · refine am_iconst (v := 1) dX11_isLetter_9 (by decide) ?_
      refine am_goto (tgt := 14) dX11_isLetter_10 rfl ?_
      exact am_zret (by decide) dX11_isLetter_14 rfl rfl
abbrev kX11_clears : am_K := (cX11_clears, 3, RX11, wsX11_clears, none, { frames := 0, cells := 0, slots := 0, locals := 0 })
theorem hX11_clears : am_cl yX11_clears kX11_clears 1 := ⟨⟨_, rfl⟩, rfl, rfl, by decide +kernel, by decide +kernel, by decide +kernel⟩
theorem iX11_clears_11 : ∀ w ∈ u_ws RX11 TX11 50, w ∈ wsX11_clears := by decide +kernel
theorem fX11_clears_19 : Cond.fieldLink RX11 19 "AmbiguityAnalyzerModel" "states" "I" ∈ wsX11_clears := by decide +kernel
theorem fX11_clears_112 : Cond.fieldLink RX11 112 "AmbiguityAnalyzerModel" "initials" "I" ∈ wsX11_clears := by decide +kernel
theorem fX11_clears_115 : Cond.fieldLink RX11 115 "AmbiguityAnalyzerModel" "finals" "I" ∈ wsX11_clears := by decide +kernel
theorem fX11_clears_7 : Cond.fieldLink RX11 7 "AmbiguityAnalyzerModel" "targets" "[I" ∈ wsX11_clears := by decide +kernel
theorem fX11_clears_118 : Cond.fieldLink RX11 118 "AmbiguityAnalyzerModel" "isKnown" "Z" ∈ wsX11_clears := by decide +kernel
set_option maxRecDepth 100000 in
set_option maxHeartbeats 4000000 in
theorem vX11_clears_17 {Z : am_Z} {X : am_X} (R : am_R) (L : am_L) (a0 : Nat) (h4 : am_G Z a0 = some (.inl 11)) (ih7 : Int32 → am_I → Option (am_I)) (hih7 : ∀ (v5 : Int32) (J6 : am_I), am_V Z X kX11_clears (fun r : am_I => (none, R, r, L)) 17 [(0, .ref (am_B Z + a0)), (2, .int v5)] [] R J6 L (ih7 v5 J6)) (v5 : Int32) (J6 : am_I) : am_V Z X kX11_clears (fun r : am_I => (none, R, r, L)) 17 [(0, .ref (am_B Z + a0)), (2, .int v5)] [] R J6 L (sX11_clears_17 R a0 ih7 v5 J6) := by
  unfold sX11_clears_17
  refine am_iload_n dX11_clears_17 rfl 1 rfl ?_
  refine am_bipush (v := 18) dX11_clears_18 (by decide) ?_
  refine am_icmp_ge (tgt := 36) dX11_clears_20 rfl (fun e8 => ?_) (fun e8 => ?_)
  · refine am_aload_n dX11_clears_36 rfl 0 rfl ?_
    refine am_iconst (v := 0) dX11_clears_37 (by decide) ?_
    refine am_putZ 11 6 clX11 (Nat.le_of_ble_eq_true rfl) h4 iX11_clears_11 fX11_clears_118 rfl rfl (by decide) dX11_clears_38 ?_
    refine am_letI (fun J9 => ?_)
    exact am_vret dX11_clears_41 rfl rfl
  · refine am_aload_n dX11_clears_23 rfl 0 rfl ?_
    refine am_getR 11 0 clX11 (Nat.le_of_ble_eq_true rfl) h4 iX11_clears_11 fX11_clears_7 rfl rfl dX11_clears_24 (fun h10 => ?_)
    refine am_iload_n dX11_clears_27 rfl 1 rfl ?_
    refine am_iconst (v := 0) dX11_clears_28 (by decide) ?_
    refine am_iast h10 dX11_clears_29 ?_
    refine am_letI (fun J11 => ?_)
    refine am_iinc (j := 1) (ls' := [(2, .int (v5 + (1 : Int32))), (0, .ref (am_B Z + a0))]) dX11_clears_30 rfl rfl (Nat.le_of_ble_eq_true rfl) rfl ?_
    refine am_goto (tgt := 17) dX11_clears_33 rfl ?_
    refine am_sub (ls' := [(0, .ref (am_B Z + a0)), (2, .int (v5 + (1 : Int32)))]) [1, 0] rfl ?_
    exact hih7 (v5 + (1 : Int32)) J11
theorem uX11_clears_17 {Z : am_Z} {X : am_X} (R : am_R) (L : am_L) (a0 : Nat) (h4 : am_G Z a0 = some (.inl 11)) : ∀ (n : Nat) (v5 : Int32) (J6 : am_I), am_V Z X kX11_clears (fun r : am_I => (none, R, r, L)) 17 [(0, .ref (am_B Z + a0)), (2, .int v5)] [] R J6 L (lX11_clears_17 R a0 n v5 J6) := by
  intro n
  induction n with
  | zero => intro _ _; exact am_none
  | succ n ih => exact fun v5 J6 => vX11_clears_17 R L a0 h4 (lX11_clears_17 R a0 n) ih v5 J6
set_option maxRecDepth 100000 in
set_option maxHeartbeats 4000000 in
theorem tX11_clears {Z : am_Z} (R : am_R) (I : am_I) (L : am_L) (a0 : Nat) (x1 : Int32) (h_a0 : am_G Z a0 = some (.inl 11)) : am_M Z yX11_clears kX11_clears [.ref (am_B Z + a0), .int x1] R I L (pX11_clears R I a0 x1) (fun r : am_I => (none, R, r, L)) := by
  refine am_entry (ls := [(0, .ref (am_B Z + a0)), (1, .int x1)]) (by decide) hX11_clears rfl (Nat.le_of_ble_eq_true rfl) rfl (fun X => ?_)
  unfold pX11_clears
  refine am_aload_n dX11_clears_0 rfl 0 rfl ?_
  refine am_iload_n dX11_clears_1 rfl 1 rfl ?_
  refine am_putI 11 3 clX11 (Nat.le_of_ble_eq_true rfl) h_a0 iX11_clears_11 fX11_clears_19 rfl rfl dX11_clears_2 ?_
  refine am_letI (fun J1 => ?_)
  refine am_aload_n dX11_clears_5 rfl 0 rfl ?_
  refine am_iconst (v := 0) dX11_clears_6 (by decide) ?_
  refine am_putI 11 4 clX11 (Nat.le_of_ble_eq_true rfl) h_a0 iX11_clears_11 fX11_clears_112 rfl rfl dX11_clears_7 ?_
  refine am_letI (fun J2 => ?_)
  refine am_aload_n dX11_clears_10 rfl 0 rfl ?_
  refine am_iconst (v := 0) dX11_clears_11 (by decide) ?_
  refine am_putI 11 5 clX11 (Nat.le_of_ble_eq_true rfl) h_a0 iX11_clears_11 fX11_clears_115 rfl rfl dX11_clears_12 ?_
  refine am_letI (fun J3 => ?_)
  refine am_iconst (v := 0) dX11_clears_15 (by decide) ?_
  refine am_istore_n (ls' := [(2, .int (0 : Int32)), (0, .ref (am_B Z + a0)), (1, .int x1)]) dX11_clears_16 rfl (Nat.le_of_ble_eq_true rfl) rfl ?_
  refine am_sub (ls' := [(0, .ref (am_B Z + a0)), (2, .int (0 : Int32))]) [1, 0] rfl ?_
  exact uX11_clears_17 R L a0 h_a0 am_fu (0 : Int32) J3
abbrev kX11_reset : am_K := (cX11_reset, 3, RX11, wsX11_reset, some .int, { frames := 1, cells := 0, slots := 0, locals := 25 })
theorem hX11_reset : am_cl yX11_reset kX11_reset 1 := ⟨⟨_, rfl⟩, rfl, rfl, by decide +kernel, by decide +kernel, by decide +kernel⟩
theorem iX11_reset_11 : ∀ w ∈ u_ws RX11 TX11 50, w ∈ wsX11_reset := by decide +kernel
theorem fX11_reset_19 : Cond.fieldLink RX11 19 "AmbiguityAnalyzerModel" "states" "I" ∈ wsX11_reset := by decide +kernel
set_option maxRecDepth 100000 in
set_option maxHeartbeats 4000000 in
theorem tX11_reset {Z : am_Z} (R : am_R) (I : am_I) (L : am_L) (a0 : Nat) (x1 : Int32) (h_a0 : am_G Z a0 = some (.inl 11)) : am_M Z yX11_reset kX11_reset [.ref (am_B Z + a0), .int x1] R I L (pX11_reset R I a0 x1) (fun r : Int32 × am_I => (some (.int r.1), R, r.2, L)) := by
  refine am_entry (ls := [(0, .ref (am_B Z + a0)), (1, .int x1)]) (by decide) hX11_reset rfl (Nat.le_of_ble_eq_true rfl) rfl (fun X => ?_)
  unfold pX11_reset
  refine am_iload_n dX11_reset_0 rfl 1 rfl ?_
  refine am_i2l dX11_reset_1 ?_
  refine am_lconst (v := 1) dX11_reset_2 (by decide) ?_
  refine am_ldc2 (v := 6) dX11_reset_3 (by decide +kernel) ?_
  refine am_callS [.long (Int32.toInt64 x1), .long (1 : Int64), .long (6 : Int64)] (tX11_isBetween R I L (Int32.toInt64 x1) (1 : Int64) (6 : Int64)) gX11_reset_X11_isBetween hX11_isBetween ⟨Nat.le_of_ble_eq_true rfl, Nat.le_of_ble_eq_true rfl⟩ rfl rfl (Nat.le_of_ble_eq_true rfl) dX11_reset_6 (fun r1 => ?_)
  show am_V Z X kX11_reset (fun r : Int32 × am_I => (some (.int r.1), R, r.2, L)) 9 [(0, .ref (am_B Z + a0)), (1, .int x1)] [.int r1] R I L _
  refine am_if_ne (tgt := 15) dX11_reset_9 rfl (fun e2 => ?_) (fun e2 => ?_)
  · refine am_aload_n dX11_reset_15 rfl 0 rfl ?_
    refine am_get 11 3 clX11 (Nat.le_of_ble_eq_true rfl) h_a0 iX11_reset_11 fX11_reset_19 rfl dX11_reset_16 ?_
    refine am_letTi (fun v3 => ?_)
    refine am_istore_n (ls' := [(2, .int v3), (0, .ref (am_B Z + a0)), (1, .int x1)]) dX11_reset_19 rfl (Nat.le_of_ble_eq_true rfl) rfl ?_
    refine am_aload_n dX11_reset_20 rfl 1 rfl ?_
    refine am_iload_n dX11_reset_21 rfl 2 rfl ?_
    refine am_callV [.int x1] (tX11_clears R I L a0 x1 h_a0) h_a0 clX11 gX11_reset_X11_clears hX11_clears rfl ⟨Nat.le_of_ble_eq_true rfl, Nat.le_of_ble_eq_true rfl⟩ rfl rfl (Nat.le_of_ble_eq_true rfl) dX11_reset_22 (fun r4 => ?_)
    show am_V Z X kX11_reset (fun r : Int32 × am_I => (some (.int r.1), R, r.2, L)) 25 [(2, .int v3), (0, .ref (am_B Z + a0)), (1, .int x1)] [] R r4 L _
    refine am_iload_n dX11_reset_25 rfl 0 rfl ?_
    exact am_iret dX11_reset_26 rfl rfl
  · refine am_bipush (v := -2) dX11_reset_12 (by decide) ?_
    exact am_iret dX11_reset_14 rfl rfl
abbrev kX11_stateCount : am_K := (cX11_stateCount, 1, RX11, wsX11_stateCount, some .int, { frames := 0, cells := 0, slots := 0, locals := 0 })
theorem hX11_stateCount : am_cl yX11_stateCount kX11_stateCount 0 := ⟨⟨_, rfl⟩, rfl, rfl, by decide +kernel, by decide +kernel, by decide +kernel⟩
theorem iX11_stateCount_11 : ∀ w ∈ u_ws RX11 TX11 50, w ∈ wsX11_stateCount := by decide +kernel
theorem fX11_stateCount_19 : Cond.fieldLink RX11 19 "AmbiguityAnalyzerModel" "states" "I" ∈ wsX11_stateCount := by decide +kernel
set_option maxRecDepth 100000 in
set_option maxHeartbeats 4000000 in
theorem tX11_stateCount {Z : am_Z} (R : am_R) (I : am_I) (L : am_L) (a0 : Nat) (h_a0 : am_G Z a0 = some (.inl 11)) : am_M Z yX11_stateCount kX11_stateCount [.ref (am_B Z + a0)] R I L (pX11_stateCount I a0) (fun r : Int32 => (some (.int r), R, I, L)) := by
  refine am_entry (ls := [(0, .ref (am_B Z + a0))]) (by decide) hX11_stateCount rfl (Nat.le_of_ble_eq_true rfl) rfl (fun X => ?_)
  unfold pX11_stateCount
  refine am_aload_n dX11_stateCount_0 rfl 0 rfl ?_
  refine am_get 11 3 clX11 (Nat.le_of_ble_eq_true rfl) h_a0 iX11_stateCount_11 fX11_stateCount_19 rfl dX11_stateCount_1 ?_
  exact am_iret dX11_stateCount_4 rfl rfl
abbrev kX11_addTransition : am_K := (cX11_addTransition, 6, RX11, wsX11_addTransition, some .int, { frames := 1, cells := 0, slots := 0, locals := 22 })
theorem hX11_addTransition : am_cl yX11_addTransition kX11_addTransition 3 := ⟨⟨_, rfl⟩, rfl, rfl, by decide +kernel, by decide +kernel, by decide +kernel⟩
theorem iX11_addTransition_11 : ∀ w ∈ u_ws RX11 TX11 50, w ∈ wsX11_addTransition := by decide +kernel
theorem fX11_addTransition_7 : Cond.fieldLink RX11 7 "AmbiguityAnalyzerModel" "targets" "[I" ∈ wsX11_addTransition := by decide +kernel
theorem fX11_addTransition_118 : Cond.fieldLink RX11 118 "AmbiguityAnalyzerModel" "isKnown" "Z" ∈ wsX11_addTransition := by decide +kernel
set_option maxRecDepth 100000 in
set_option maxHeartbeats 4000000 in
theorem tX11_addTransition {Z : am_Z} (R : am_R) (I : am_I) (L : am_L) (a0 : Nat) (x1 : Int32) (x2 : Int32) (x3 : Int32) (h_a0 : am_G Z a0 = some (.inl 11)) : am_M Z yX11_addTransition kX11_addTransition [.ref (am_B Z + a0), .int x1, .int x2, .int x3] R I L (pX11_addTransition R I a0 x1 x2 x3) (fun r : Int32 × am_I => (some (.int r.1), R, r.2, L)) := by
  refine am_entry (ls := [(0, .ref (am_B Z + a0)), (1, .int x1), (2, .int x2), (3, .int x3)]) (by decide) hX11_addTransition rfl (Nat.le_of_ble_eq_true rfl) rfl (fun X => ?_)
  unfold pX11_addTransition
  refine am_aload_n dX11_addTransition_0 rfl 0 rfl ?_
  refine am_iload_n dX11_addTransition_1 rfl 1 rfl ?_
  refine am_callV [.int x1] (tX11_isState R I L a0 x1 h_a0) h_a0 clX11 gX11_addTransition_X11_isState hX11_isState rfl ⟨Nat.le_of_ble_eq_true rfl, Nat.le_of_ble_eq_true rfl⟩ rfl rfl (Nat.le_of_ble_eq_true rfl) dX11_addTransition_2 (fun r1 => ?_)
  show am_V Z X kX11_addTransition (fun r : Int32 × am_I => (some (.int r.1), R, r.2, L)) 5 [(0, .ref (am_B Z + a0)), (1, .int x1), (2, .int x2), (3, .int x3)] [.int r1] R I L _
  refine am_if_eq (tgt := 23) dX11_addTransition_5 rfl (fun e2 => ?_) (fun e2 => ?_)
  · refine am_iconst (v := -1) dX11_addTransition_23 (by decide) ?_
    exact am_iret dX11_addTransition_24 rfl rfl
  · refine am_iload_n dX11_addTransition_8 rfl 2 rfl ?_
    refine am_callS [.int x2] (tX11_isLetter R I L x2) gX11_addTransition_X11_isLetter hX11_isLetter ⟨Nat.le_of_ble_eq_true rfl, Nat.le_of_ble_eq_true rfl⟩ rfl rfl (Nat.le_of_ble_eq_true rfl) dX11_addTransition_9 (fun r3 => ?_)
    show am_V Z X kX11_addTransition (fun r : Int32 × am_I => (some (.int r.1), R, r.2, L)) 12 [(0, .ref (am_B Z + a0)), (1, .int x1), (2, .int x2), (3, .int x3)] [.int r3] R I L _
    refine am_if_eq (tgt := 23) dX11_addTransition_12 rfl (fun e4 => ?_) (fun e4 => ?_)
    · refine am_iconst (v := -1) dX11_addTransition_23 (by decide) ?_
      exact am_iret dX11_addTransition_24 rfl rfl
    · refine am_aload_n dX11_addTransition_15 rfl 0 rfl ?_
      refine am_iload_n dX11_addTransition_16 rfl 3 rfl ?_
      refine am_callV [.int x3] (tX11_isState R I L a0 x3 h_a0) h_a0 clX11 gX11_addTransition_X11_isState hX11_isState rfl ⟨Nat.le_of_ble_eq_true rfl, Nat.le_of_ble_eq_true rfl⟩ rfl rfl (Nat.le_of_ble_eq_true rfl) dX11_addTransition_17 (fun r5 => ?_)
      show am_V Z X kX11_addTransition (fun r : Int32 × am_I => (some (.int r.1), R, r.2, L)) 20 [(0, .ref (am_B Z + a0)), (1, .int x1), (2, .int x2), (3, .int x3)] [.int r5] R I L _
      refine am_if_ne (tgt := 25) dX11_addTransition_20 rfl (fun e6 => ?_) (fun e6 => ?_)
      · refine am_bipush (v := 6) dX11_addTransition_25 (by decide) ?_
        refine am_iload_n dX11_addTransition_27 rfl 2 rfl ?_
        refine am_imul dX11_addTransition_28 ?_
        refine am_iload_n dX11_addTransition_29 rfl 1 rfl ?_
        refine am_iadd dX11_addTransition_30 ?_
        refine am_letTi (fun v7 => ?_)
        refine am_istore (ls' := [(4, .int v7), (0, .ref (am_B Z + a0)), (1, .int x1), (2, .int x2), (3, .int x3)]) dX11_addTransition_31 (Nat.le_of_ble_eq_true rfl) rfl ?_
        refine am_aload_n dX11_addTransition_33 rfl 1 rfl ?_
        refine am_getR 11 0 clX11 (Nat.le_of_ble_eq_true rfl) h_a0 iX11_addTransition_11 fX11_addTransition_7 rfl rfl dX11_addTransition_34 (fun h8 => ?_)
        refine am_iload dX11_addTransition_37 0 rfl ?_
        refine am_iald h8 dX11_addTransition_39 ?_
        refine am_i2l dX11_addTransition_40 ?_
        refine am_iload_n dX11_addTransition_41 rfl 4 rfl ?_
        refine am_callS [.long (Int32.toInt64 (I (R a0 0) (Int32.toNatClampNeg v7))), .int x3] (tX11_has R I L (Int32.toInt64 (I (R a0 0) (Int32.toNatClampNeg v7))) x3) gX11_addTransition_X11_has hX11_has ⟨Nat.le_of_ble_eq_true rfl, Nat.le_of_ble_eq_true rfl⟩ rfl rfl (Nat.le_of_ble_eq_true rfl) dX11_addTransition_42 (fun r9 => ?_)
        show am_V Z X kX11_addTransition (fun r : Int32 × am_I => (some (.int r.1), R, r.2, L)) 45 [(4, .int v7), (0, .ref (am_B Z + a0)), (1, .int x1), (2, .int x2), (3, .int x3)] [.int r9] R I L _
        refine am_letJ (fun k11 ek11 => ?_)
        have hk11 : ∀ v10 : Int32, am_V Z X kX11_addTransition (fun r : Int32 × am_I => (some (.int r.1), R, r.2, L)) 53 [(0, .ref (am_B Z + a0)), (3, .int x3), (4, .int v7)] [.int v10] R I L (k11 v10) := by
          subst ek11
          intro v10
          show am_V Z X kX11_addTransition (fun r : Int32 × am_I => (some (.int r.1), R, r.2, L)) 53 [(0, .ref (am_B Z + a0)), (3, .int x3), (4, .int v7)] [.int v10] R I L _
          refine am_istore (ls' := [(5, .int v10), (0, .ref (am_B Z + a0)), (3, .int x3), (4, .int v7)]) dX11_addTransition_53 (Nat.le_of_ble_eq_true rfl) rfl ?_
          refine am_aload_n dX11_addTransition_55 rfl 1 rfl ?_
          refine am_getR 11 0 clX11 (Nat.le_of_ble_eq_true rfl) h_a0 iX11_addTransition_11 fX11_addTransition_7 rfl rfl dX11_addTransition_56 (fun h12 => ?_)
          refine am_iload dX11_addTransition_59 3 rfl ?_
          refine am_dup2 dX11_addTransition_61 rfl rfl ?_
          refine am_iald h12 dX11_addTransition_62 ?_
          refine am_iconst (v := 1) dX11_addTransition_63 (by decide) ?_
          refine am_iload_n dX11_addTransition_64 rfl 2 rfl ?_
          refine am_ishl dX11_addTransition_65 ?_
          refine am_ior dX11_addTransition_66 ?_
          refine am_iast h12 dX11_addTransition_67 ?_
          refine am_letI (fun J13 => ?_)
          refine am_aload_n dX11_addTransition_68 rfl 1 rfl ?_
          refine am_iconst (v := 0) dX11_addTransition_69 (by decide) ?_
          refine am_putZ 11 6 clX11 (Nat.le_of_ble_eq_true rfl) h_a0 iX11_addTransition_11 fX11_addTransition_118 rfl rfl (by decide) dX11_addTransition_70 ?_
          refine am_letI (fun J14 => ?_)
          refine am_iload dX11_addTransition_73 0 rfl ?_
          exact am_iret dX11_addTransition_75 rfl rfl
        refine am_if_eqL (tgt := 52) dX11_addTransition_45 rfl (fun e15 => ?_) (fun e15 => ?_)
        · refine am_iconst (v := 1) dX11_addTransition_52 (by decide) ?_
          refine am_sub (ls' := [(0, .ref (am_B Z + a0)), (3, .int x3), (4, .int v7)]) [1, 4, 0] rfl ?_
          exact hk11 _
        · refine am_iconst (v := 0) dX11_addTransition_48 (by decide) ?_
          refine am_goto (tgt := 53) dX11_addTransition_49 rfl ?_
          refine am_sub (ls' := [(0, .ref (am_B Z + a0)), (3, .int x3), (4, .int v7)]) [1, 4, 0] rfl ?_
          exact hk11 _
      · refine am_iconst (v := -1) dX11_addTransition_23 (by decide) ?_
        exact am_iret dX11_addTransition_24 rfl rfl
abbrev kX11_removeTransition : am_K := (cX11_removeTransition, 6, RX11, wsX11_removeTransition, some .int, { frames := 1, cells := 0, slots := 0, locals := 22 })
theorem hX11_removeTransition : am_cl yX11_removeTransition kX11_removeTransition 3 := ⟨⟨_, rfl⟩, rfl, rfl, by decide +kernel, by decide +kernel, by decide +kernel⟩
theorem iX11_removeTransition_11 : ∀ w ∈ u_ws RX11 TX11 50, w ∈ wsX11_removeTransition := by decide +kernel
theorem fX11_removeTransition_7 : Cond.fieldLink RX11 7 "AmbiguityAnalyzerModel" "targets" "[I" ∈ wsX11_removeTransition := by decide +kernel
theorem fX11_removeTransition_118 : Cond.fieldLink RX11 118 "AmbiguityAnalyzerModel" "isKnown" "Z" ∈ wsX11_removeTransition := by decide +kernel
set_option maxRecDepth 100000 in
set_option maxHeartbeats 4000000 in
theorem tX11_removeTransition {Z : am_Z} (R : am_R) (I : am_I) (L : am_L) (a0 : Nat) (x1 : Int32) (x2 : Int32) (x3 : Int32) (h_a0 : am_G Z a0 = some (.inl 11)) : am_M Z yX11_removeTransition kX11_removeTransition [.ref (am_B Z + a0), .int x1, .int x2, .int x3] R I L (pX11_removeTransition R I a0 x1 x2 x3) (fun r : Int32 × am_I => (some (.int r.1), R, r.2, L)) := by
  refine am_entry (ls := [(0, .ref (am_B Z + a0)), (1, .int x1), (2, .int x2), (3, .int x3)]) (by decide) hX11_removeTransition rfl (Nat.le_of_ble_eq_true rfl) rfl (fun X => ?_)
  unfold pX11_removeTransition
  refine am_aload_n dX11_removeTransition_0 rfl 0 rfl ?_
  refine am_iload_n dX11_removeTransition_1 rfl 1 rfl ?_
  refine am_callV [.int x1] (tX11_isState R I L a0 x1 h_a0) h_a0 clX11 gX11_removeTransition_X11_isState hX11_isState rfl ⟨Nat.le_of_ble_eq_true rfl, Nat.le_of_ble_eq_true rfl⟩ rfl rfl (Nat.le_of_ble_eq_true rfl) dX11_removeTransition_2 (fun r1 => ?_)
  show am_V Z X kX11_removeTransition (fun r : Int32 × am_I => (some (.int r.1), R, r.2, L)) 5 [(0, .ref (am_B Z + a0)), (1, .int x1), (2, .int x2), (3, .int x3)] [.int r1] R I L _
  refine am_if_eq (tgt := 23) dX11_removeTransition_5 rfl (fun e2 => ?_) (fun e2 => ?_)
  · refine am_iconst (v := -1) dX11_removeTransition_23 (by decide) ?_
    exact am_iret dX11_removeTransition_24 rfl rfl
  · refine am_iload_n dX11_removeTransition_8 rfl 2 rfl ?_
    refine am_callS [.int x2] (tX11_isLetter R I L x2) gX11_removeTransition_X11_isLetter hX11_isLetter ⟨Nat.le_of_ble_eq_true rfl, Nat.le_of_ble_eq_true rfl⟩ rfl rfl (Nat.le_of_ble_eq_true rfl) dX11_removeTransition_9 (fun r3 => ?_)
    show am_V Z X kX11_removeTransition (fun r : Int32 × am_I => (some (.int r.1), R, r.2, L)) 12 [(0, .ref (am_B Z + a0)), (1, .int x1), (2, .int x2), (3, .int x3)] [.int r3] R I L _
    refine am_if_eq (tgt := 23) dX11_removeTransition_12 rfl (fun e4 => ?_) (fun e4 => ?_)
    · refine am_iconst (v := -1) dX11_removeTransition_23 (by decide) ?_
      exact am_iret dX11_removeTransition_24 rfl rfl
    · refine am_aload_n dX11_removeTransition_15 rfl 0 rfl ?_
      refine am_iload_n dX11_removeTransition_16 rfl 3 rfl ?_
      refine am_callV [.int x3] (tX11_isState R I L a0 x3 h_a0) h_a0 clX11 gX11_removeTransition_X11_isState hX11_isState rfl ⟨Nat.le_of_ble_eq_true rfl, Nat.le_of_ble_eq_true rfl⟩ rfl rfl (Nat.le_of_ble_eq_true rfl) dX11_removeTransition_17 (fun r5 => ?_)
      show am_V Z X kX11_removeTransition (fun r : Int32 × am_I => (some (.int r.1), R, r.2, L)) 20 [(0, .ref (am_B Z + a0)), (1, .int x1), (2, .int x2), (3, .int x3)] [.int r5] R I L _
      refine am_if_ne (tgt := 25) dX11_removeTransition_20 rfl (fun e6 => ?_) (fun e6 => ?_)
      · refine am_bipush (v := 6) dX11_removeTransition_25 (by decide) ?_
        refine am_iload_n dX11_removeTransition_27 rfl 2 rfl ?_
        refine am_imul dX11_removeTransition_28 ?_
        refine am_iload_n dX11_removeTransition_29 rfl 1 rfl ?_
        refine am_iadd dX11_removeTransition_30 ?_
        refine am_letTi (fun v7 => ?_)
        refine am_istore (ls' := [(4, .int v7), (0, .ref (am_B Z + a0)), (1, .int x1), (2, .int x2), (3, .int x3)]) dX11_removeTransition_31 (Nat.le_of_ble_eq_true rfl) rfl ?_
        refine am_aload_n dX11_removeTransition_33 rfl 1 rfl ?_
        refine am_getR 11 0 clX11 (Nat.le_of_ble_eq_true rfl) h_a0 iX11_removeTransition_11 fX11_removeTransition_7 rfl rfl dX11_removeTransition_34 (fun h8 => ?_)
        refine am_iload dX11_removeTransition_37 0 rfl ?_
        refine am_iald h8 dX11_removeTransition_39 ?_
        refine am_i2l dX11_removeTransition_40 ?_
        refine am_iload_n dX11_removeTransition_41 rfl 4 rfl ?_
        refine am_callS [.long (Int32.toInt64 (I (R a0 0) (Int32.toNatClampNeg v7))), .int x3] (tX11_has R I L (Int32.toInt64 (I (R a0 0) (Int32.toNatClampNeg v7))) x3) gX11_removeTransition_X11_has hX11_has ⟨Nat.le_of_ble_eq_true rfl, Nat.le_of_ble_eq_true rfl⟩ rfl rfl (Nat.le_of_ble_eq_true rfl) dX11_removeTransition_42 (fun r9 => ?_)
        show am_V Z X kX11_removeTransition (fun r : Int32 × am_I => (some (.int r.1), R, r.2, L)) 45 [(4, .int v7), (0, .ref (am_B Z + a0)), (1, .int x1), (2, .int x2), (3, .int x3)] [.int r9] R I L _
        refine am_letJ (fun k11 ek11 => ?_)
        have hk11 : ∀ v10 : Int32, am_V Z X kX11_removeTransition (fun r : Int32 × am_I => (some (.int r.1), R, r.2, L)) 53 [(0, .ref (am_B Z + a0)), (3, .int x3), (4, .int v7)] [.int v10] R I L (k11 v10) := by
          subst ek11
          intro v10
          show am_V Z X kX11_removeTransition (fun r : Int32 × am_I => (some (.int r.1), R, r.2, L)) 53 [(0, .ref (am_B Z + a0)), (3, .int x3), (4, .int v7)] [.int v10] R I L _
          refine am_istore (ls' := [(5, .int v10), (0, .ref (am_B Z + a0)), (3, .int x3), (4, .int v7)]) dX11_removeTransition_53 (Nat.le_of_ble_eq_true rfl) rfl ?_
          refine am_aload_n dX11_removeTransition_55 rfl 1 rfl ?_
          refine am_getR 11 0 clX11 (Nat.le_of_ble_eq_true rfl) h_a0 iX11_removeTransition_11 fX11_removeTransition_7 rfl rfl dX11_removeTransition_56 (fun h12 => ?_)
          refine am_iload dX11_removeTransition_59 3 rfl ?_
          refine am_dup2 dX11_removeTransition_61 rfl rfl ?_
          refine am_iald h12 dX11_removeTransition_62 ?_
          refine am_iconst (v := 1) dX11_removeTransition_63 (by decide) ?_
          refine am_iload_n dX11_removeTransition_64 rfl 2 rfl ?_
          refine am_ishl dX11_removeTransition_65 ?_
          refine am_iconst (v := -1) dX11_removeTransition_66 (by decide) ?_
          refine am_ixor dX11_removeTransition_67 ?_
          refine am_iand dX11_removeTransition_68 ?_
          refine am_iast h12 dX11_removeTransition_69 ?_
          refine am_letI (fun J13 => ?_)
          refine am_aload_n dX11_removeTransition_70 rfl 1 rfl ?_
          refine am_iconst (v := 0) dX11_removeTransition_71 (by decide) ?_
          refine am_putZ 11 6 clX11 (Nat.le_of_ble_eq_true rfl) h_a0 iX11_removeTransition_11 fX11_removeTransition_118 rfl rfl (by decide) dX11_removeTransition_72 ?_
          refine am_letI (fun J14 => ?_)
          refine am_iload dX11_removeTransition_75 0 rfl ?_
          exact am_iret dX11_removeTransition_77 rfl rfl
        refine am_if_eqL (tgt := 52) dX11_removeTransition_45 rfl (fun e15 => ?_) (fun e15 => ?_)
        · refine am_iconst (v := 0) dX11_removeTransition_52 (by decide) ?_
          refine am_sub (ls' := [(0, .ref (am_B Z + a0)), (3, .int x3), (4, .int v7)]) [1, 4, 0] rfl ?_
          exact hk11 _
        · refine am_iconst (v := 1) dX11_removeTransition_48 (by decide) ?_
          refine am_goto (tgt := 53) dX11_removeTransition_49 rfl ?_
          refine am_sub (ls' := [(0, .ref (am_B Z + a0)), (3, .int x3), (4, .int v7)]) [1, 4, 0] rfl ?_
          exact hk11 _
      · refine am_iconst (v := -1) dX11_removeTransition_23 (by decide) ?_
        exact am_iret dX11_removeTransition_24 rfl rfl
abbrev kX11_transitionCount : am_K := (cX11_transitionCount, 4, RX11, wsX11_transitionCount, some .int, { frames := 0, cells := 0, slots := 0, locals := 0 })
theorem hX11_transitionCount : am_cl yX11_transitionCount kX11_transitionCount 0 := ⟨⟨_, rfl⟩, rfl, rfl, by decide +kernel, by decide +kernel, by decide +kernel⟩
theorem iX11_transitionCount_11 : ∀ w ∈ u_ws RX11 TX11 50, w ∈ wsX11_transitionCount := by decide +kernel
theorem fX11_transitionCount_7 : Cond.fieldLink RX11 7 "AmbiguityAnalyzerModel" "targets" "[I" ∈ wsX11_transitionCount := by decide +kernel
set_option maxRecDepth 100000 in
set_option maxHeartbeats 4000000 in
theorem vX11_transitionCount_12 {Z : am_Z} {X : am_X} (R : am_R) (I : am_I) (L : am_L) (a0 : Nat) (v3 : Int32) (h8 : am_G Z a0 = some (.inl 11)) (j6 : Int32 → Option (Int32)) (hj6 : ∀ (v7 : Int32), am_V Z X kX11_transitionCount (fun r : Int32 => (some (.int r), R, I, L)) 37 [(0, .ref (am_B Z + a0)), (1, .int v7), (2, .int v3)] [] R I L (j6 v7)) (ih11 : Int32 → Int32 → Option (Int32)) (hih11 : ∀ (v9 : Int32) (v10 : Int32), am_V Z X kX11_transitionCount (fun r : Int32 => (some (.int r), R, I, L)) 12 [(0, .ref (am_B Z + a0)), (1, .int v9), (2, .int v3), (3, .int v10)] [] R I L (ih11 v9 v10)) (v9 : Int32) (v10 : Int32) : am_V Z X kX11_transitionCount (fun r : Int32 => (some (.int r), R, I, L)) 12 [(0, .ref (am_B Z + a0)), (1, .int v9), (2, .int v3), (3, .int v10)] [] R I L (sX11_transitionCount_12 R I a0 v3 j6 ih11 v9 v10) := by
  unfold sX11_transitionCount_12
  refine am_iload_n dX11_transitionCount_12 rfl 3 rfl ?_
  refine am_bipush (v := 6) dX11_transitionCount_13 (by decide) ?_
  refine am_icmp_ge (tgt := 37) dX11_transitionCount_15 rfl (fun e12 => ?_) (fun e12 => ?_)
  · refine am_sub (ls' := [(0, .ref (am_B Z + a0)), (1, .int v9), (2, .int v3)]) [0, 1, 2] rfl ?_
    exact hj6 v9
  · refine am_iload_n dX11_transitionCount_18 rfl 1 rfl ?_
    refine am_aload_n dX11_transitionCount_19 rfl 0 rfl ?_
    refine am_getR 11 0 clX11 (Nat.le_of_ble_eq_true rfl) h8 iX11_transitionCount_11 fX11_transitionCount_7 rfl rfl dX11_transitionCount_20 (fun h13 => ?_)
    refine am_iload_n dX11_transitionCount_23 rfl 2 rfl ?_
    refine am_iald h13 dX11_transitionCount_24 ?_
    refine am_iload_n dX11_transitionCount_25 rfl 3 rfl ?_
    refine am_ishr dX11_transitionCount_26 ?_
    refine am_iconst (v := 1) dX11_transitionCount_27 (by decide) ?_
    refine am_iand dX11_transitionCount_28 ?_
    refine am_iadd dX11_transitionCount_29 ?_
    refine am_letTi (fun v14 => ?_)
    refine am_istore_n (ls' := [(1, .int v14), (0, .ref (am_B Z + a0)), (2, .int v3), (3, .int v10)]) dX11_transitionCount_30 rfl (Nat.le_of_ble_eq_true rfl) rfl ?_
    refine am_iinc (j := 3) (ls' := [(3, .int (v10 + (1 : Int32))), (1, .int v14), (0, .ref (am_B Z + a0)), (2, .int v3)]) dX11_transitionCount_31 rfl rfl (Nat.le_of_ble_eq_true rfl) rfl ?_
    refine am_goto (tgt := 12) dX11_transitionCount_34 rfl ?_
    refine am_sub (ls' := [(0, .ref (am_B Z + a0)), (1, .int v14), (2, .int v3), (3, .int (v10 + (1 : Int32)))]) [2, 1, 3, 0] rfl ?_
    exact hih11 v14 (v10 + (1 : Int32))
theorem uX11_transitionCount_12 {Z : am_Z} {X : am_X} (R : am_R) (I : am_I) (L : am_L) (a0 : Nat) (v3 : Int32) (h8 : am_G Z a0 = some (.inl 11)) (j6 : Int32 → Option (Int32)) (hj6 : ∀ (v7 : Int32), am_V Z X kX11_transitionCount (fun r : Int32 => (some (.int r), R, I, L)) 37 [(0, .ref (am_B Z + a0)), (1, .int v7), (2, .int v3)] [] R I L (j6 v7)) : ∀ (n : Nat) (v9 : Int32) (v10 : Int32), am_V Z X kX11_transitionCount (fun r : Int32 => (some (.int r), R, I, L)) 12 [(0, .ref (am_B Z + a0)), (1, .int v9), (2, .int v3), (3, .int v10)] [] R I L (lX11_transitionCount_12 R I a0 v3 j6 n v9 v10) := by
  intro n
  induction n with
  | zero => intro _ _; exact am_none
  | succ n ih => exact fun v9 v10 => vX11_transitionCount_12 R I L a0 v3 h8 j6 hj6 (lX11_transitionCount_12 R I a0 v3 j6 n) ih v9 v10
set_option maxRecDepth 100000 in
set_option maxHeartbeats 4000000 in
theorem vX11_transitionCount_4 {Z : am_Z} {X : am_X} (R : am_R) (I : am_I) (L : am_L) (a0 : Nat) (h1 : am_G Z a0 = some (.inl 11)) (ih4 : Int32 → Int32 → Option (Int32)) (hih4 : ∀ (v2 : Int32) (v3 : Int32), am_V Z X kX11_transitionCount (fun r : Int32 => (some (.int r), R, I, L)) 4 [(0, .ref (am_B Z + a0)), (1, .int v2), (2, .int v3)] [] R I L (ih4 v2 v3)) (v2 : Int32) (v3 : Int32) : am_V Z X kX11_transitionCount (fun r : Int32 => (some (.int r), R, I, L)) 4 [(0, .ref (am_B Z + a0)), (1, .int v2), (2, .int v3)] [] R I L (sX11_transitionCount_4 R I a0 ih4 v2 v3) := by
  unfold sX11_transitionCount_4
  refine am_iload_n dX11_transitionCount_4 rfl 2 rfl ?_
  refine am_bipush (v := 18) dX11_transitionCount_5 (by decide) ?_
  refine am_icmp_ge (tgt := 43) dX11_transitionCount_7 rfl (fun e5 => ?_) (fun e5 => ?_)
  · refine am_iload_n dX11_transitionCount_43 rfl 1 rfl ?_
    exact am_iret dX11_transitionCount_44 rfl rfl
  · refine am_iconst (v := 0) dX11_transitionCount_10 (by decide) ?_
    refine am_istore_n (ls' := [(3, .int (0 : Int32)), (0, .ref (am_B Z + a0)), (1, .int v2), (2, .int v3)]) dX11_transitionCount_11 rfl (Nat.le_of_ble_eq_true rfl) rfl ?_
    refine am_jnV (fun j6 ej6 => ?_)
    have hj6 : ∀ (v7 : Int32), am_V Z X kX11_transitionCount (fun r : Int32 => (some (.int r), R, I, L)) 37 [(0, .ref (am_B Z + a0)), (1, .int v7), (2, .int v3)] [] R I L (j6 v7) := by
      subst ej6
      intro v7
      show am_V Z X kX11_transitionCount (fun r : Int32 => (some (.int r), R, I, L)) 37 [(0, .ref (am_B Z + a0)), (1, .int v7), (2, .int v3)] [] R I L _
      refine am_iinc (j := 2) (ls' := [(2, .int (v3 + (1 : Int32))), (0, .ref (am_B Z + a0)), (1, .int v7)]) dX11_transitionCount_37 rfl rfl (Nat.le_of_ble_eq_true rfl) rfl ?_
      refine am_goto (tgt := 4) dX11_transitionCount_40 rfl ?_
      refine am_sub (ls' := [(0, .ref (am_B Z + a0)), (1, .int v7), (2, .int (v3 + (1 : Int32)))]) [1, 2, 0] rfl ?_
      exact hih4 v7 (v3 + (1 : Int32))
    refine am_sub (ls' := [(0, .ref (am_B Z + a0)), (1, .int v2), (2, .int v3), (3, .int (0 : Int32))]) [1, 2, 3, 0] rfl ?_
    exact uX11_transitionCount_12 R I L a0 v3 h1 j6 hj6 am_fu v2 (0 : Int32)
theorem uX11_transitionCount_4 {Z : am_Z} {X : am_X} (R : am_R) (I : am_I) (L : am_L) (a0 : Nat) (h1 : am_G Z a0 = some (.inl 11)) : ∀ (n : Nat) (v2 : Int32) (v3 : Int32), am_V Z X kX11_transitionCount (fun r : Int32 => (some (.int r), R, I, L)) 4 [(0, .ref (am_B Z + a0)), (1, .int v2), (2, .int v3)] [] R I L (lX11_transitionCount_4 R I a0 n v2 v3) := by
  intro n
  induction n with
  | zero => intro _ _; exact am_none
  | succ n ih => exact fun v2 v3 => vX11_transitionCount_4 R I L a0 h1 (lX11_transitionCount_4 R I a0 n) ih v2 v3
set_option maxRecDepth 100000 in
set_option maxHeartbeats 4000000 in
theorem tX11_transitionCount {Z : am_Z} (R : am_R) (I : am_I) (L : am_L) (a0 : Nat) (h_a0 : am_G Z a0 = some (.inl 11)) : am_M Z yX11_transitionCount kX11_transitionCount [.ref (am_B Z + a0)] R I L (pX11_transitionCount R I a0) (fun r : Int32 => (some (.int r), R, I, L)) := by
  refine am_entry (ls := [(0, .ref (am_B Z + a0))]) (by decide) hX11_transitionCount rfl (Nat.le_of_ble_eq_true rfl) rfl (fun X => ?_)
  unfold pX11_transitionCount
  refine am_iconst (v := 0) dX11_transitionCount_0 (by decide) ?_
  refine am_istore_n (ls' := [(1, .int (0 : Int32)), (0, .ref (am_B Z + a0))]) dX11_transitionCount_1 rfl (Nat.le_of_ble_eq_true rfl) rfl ?_
  refine am_iconst (v := 0) dX11_transitionCount_2 (by decide) ?_
  refine am_istore_n (ls' := [(2, .int (0 : Int32)), (1, .int (0 : Int32)), (0, .ref (am_B Z + a0))]) dX11_transitionCount_3 rfl (Nat.le_of_ble_eq_true rfl) rfl ?_
  refine am_sub (ls' := [(0, .ref (am_B Z + a0)), (1, .int (0 : Int32)), (2, .int (0 : Int32))]) [2, 1, 0] rfl ?_
  exact uX11_transitionCount_4 R I L a0 h_a0 am_fu (0 : Int32) (0 : Int32)
abbrev kX11_setInitial : am_K := (cX11_setInitial, 4, RX11, wsX11_setInitial, some .int, { frames := 1, cells := 0, slots := 0, locals := 21 })
theorem hX11_setInitial : am_cl yX11_setInitial kX11_setInitial 2 := ⟨⟨_, rfl⟩, rfl, rfl, by decide +kernel, by decide +kernel, by decide +kernel⟩
theorem iX11_setInitial_11 : ∀ w ∈ u_ws RX11 TX11 50, w ∈ wsX11_setInitial := by decide +kernel
theorem fX11_setInitial_112 : Cond.fieldLink RX11 112 "AmbiguityAnalyzerModel" "initials" "I" ∈ wsX11_setInitial := by decide +kernel
theorem fX11_setInitial_118 : Cond.fieldLink RX11 118 "AmbiguityAnalyzerModel" "isKnown" "Z" ∈ wsX11_setInitial := by decide +kernel
set_option maxRecDepth 100000 in
set_option maxHeartbeats 4000000 in
theorem tX11_setInitial {Z : am_Z} (R : am_R) (I : am_I) (L : am_L) (a0 : Nat) (x1 : Int32) (x2 : Int32) (h_a0 : am_G Z a0 = some (.inl 11)) : am_M Z yX11_setInitial kX11_setInitial [.ref (am_B Z + a0), .int x1, .int x2] R I L (pX11_setInitial I a0 x1 x2) (fun r : Int32 × am_I => (some (.int r.1), R, r.2, L)) := by
  refine am_entry (ls := [(0, .ref (am_B Z + a0)), (1, .int x1), (2, .int x2)]) (by decide) hX11_setInitial rfl (Nat.le_of_ble_eq_true rfl) rfl (fun X => ?_)
  unfold pX11_setInitial
  refine am_aload_n dX11_setInitial_0 rfl 0 rfl ?_
  refine am_iload_n dX11_setInitial_1 rfl 1 rfl ?_
  refine am_callV [.int x1] (tX11_isState R I L a0 x1 h_a0) h_a0 clX11 gX11_setInitial_X11_isState hX11_isState rfl ⟨Nat.le_of_ble_eq_true rfl, Nat.le_of_ble_eq_true rfl⟩ rfl rfl (Nat.le_of_ble_eq_true rfl) dX11_setInitial_2 (fun r1 => ?_)
  show am_V Z X kX11_setInitial (fun r : Int32 × am_I => (some (.int r.1), R, r.2, L)) 5 [(0, .ref (am_B Z + a0)), (1, .int x1), (2, .int x2)] [.int r1] R I L _
  refine am_if_ne (tgt := 10) dX11_setInitial_5 rfl (fun e2 => ?_) (fun e2 => ?_)
  · refine am_aload_n dX11_setInitial_10 rfl 0 rfl ?_
    refine am_get 11 4 clX11 (Nat.le_of_ble_eq_true rfl) h_a0 iX11_setInitial_11 fX11_setInitial_112 rfl dX11_setInitial_11 ?_
    refine am_iload_n dX11_setInitial_14 rfl 1 rfl ?_
    refine am_ishr dX11_setInitial_15 ?_
    refine am_iconst (v := 1) dX11_setInitial_16 (by decide) ?_
    refine am_iand dX11_setInitial_17 ?_
    refine am_letTi (fun v3 => ?_)
    refine am_istore_n (ls' := [(3, .int v3), (0, .ref (am_B Z + a0)), (1, .int x1), (2, .int x2)]) dX11_setInitial_18 rfl (Nat.le_of_ble_eq_true rfl) rfl ?_
    refine am_aload_n dX11_setInitial_19 rfl 1 rfl ?_
    refine am_iload_n dX11_setInitial_20 rfl 3 rfl ?_
    refine am_letJ (fun k5 ek5 => ?_)
    have hk5 : ∀ v4 : Int32, am_V Z X kX11_setInitial (fun r : Int32 × am_I => (some (.int r.1), R, r.2, L)) 45 [(0, .ref (am_B Z + a0)), (3, .int v3)] [.int v4, .ref (am_B Z + a0)] R I L (k5 v4) := by
      subst ek5
      intro v4
      show am_V Z X kX11_setInitial (fun r : Int32 × am_I => (some (.int r.1), R, r.2, L)) 45 [(0, .ref (am_B Z + a0)), (3, .int v3)] [.int v4, .ref (am_B Z + a0)] R I L _
      refine am_putI 11 4 clX11 (Nat.le_of_ble_eq_true rfl) h_a0 iX11_setInitial_11 fX11_setInitial_112 rfl rfl dX11_setInitial_45 ?_
      refine am_letI (fun J6 => ?_)
      refine am_aload_n dX11_setInitial_48 rfl 0 rfl ?_
      refine am_iconst (v := 0) dX11_setInitial_49 (by decide) ?_
      refine am_putZ 11 6 clX11 (Nat.le_of_ble_eq_true rfl) h_a0 iX11_setInitial_11 fX11_setInitial_118 rfl rfl (by decide) dX11_setInitial_50 ?_
      refine am_letI (fun J7 => ?_)
      refine am_iload_n dX11_setInitial_53 rfl 1 rfl ?_
      exact am_iret dX11_setInitial_54 rfl rfl
    refine am_if_eqL (tgt := 35) dX11_setInitial_21 rfl (fun e8 => ?_) (fun e8 => ?_)
    · refine am_aload_n dX11_setInitial_35 rfl 1 rfl ?_
      refine am_get 11 4 clX11 (Nat.le_of_ble_eq_true rfl) h_a0 iX11_setInitial_11 fX11_setInitial_112 rfl dX11_setInitial_36 ?_
      refine am_iconst (v := 1) dX11_setInitial_39 (by decide) ?_
      refine am_iload_n dX11_setInitial_40 rfl 2 rfl ?_
      refine am_ishl dX11_setInitial_41 ?_
      refine am_iconst (v := -1) dX11_setInitial_42 (by decide) ?_
      refine am_ixor dX11_setInitial_43 ?_
      refine am_iand dX11_setInitial_44 ?_
      refine am_sub (ls' := [(0, .ref (am_B Z + a0)), (3, .int v3)]) [1, 0] rfl ?_
      exact hk5 _
    · refine am_aload_n dX11_setInitial_24 rfl 1 rfl ?_
      refine am_get 11 4 clX11 (Nat.le_of_ble_eq_true rfl) h_a0 iX11_setInitial_11 fX11_setInitial_112 rfl dX11_setInitial_25 ?_
      refine am_iconst (v := 1) dX11_setInitial_28 (by decide) ?_
      refine am_iload_n dX11_setInitial_29 rfl 2 rfl ?_
      refine am_ishl dX11_setInitial_30 ?_
      refine am_ior dX11_setInitial_31 ?_
      refine am_goto (tgt := 45) dX11_setInitial_32 rfl ?_
      refine am_sub (ls' := [(0, .ref (am_B Z + a0)), (3, .int v3)]) [1, 0] rfl ?_
      exact hk5 _
  · refine am_iconst (v := -1) dX11_setInitial_8 (by decide) ?_
    exact am_iret dX11_setInitial_9 rfl rfl
abbrev kX11_setFinal : am_K := (cX11_setFinal, 4, RX11, wsX11_setFinal, some .int, { frames := 1, cells := 0, slots := 0, locals := 21 })
theorem hX11_setFinal : am_cl yX11_setFinal kX11_setFinal 2 := ⟨⟨_, rfl⟩, rfl, rfl, by decide +kernel, by decide +kernel, by decide +kernel⟩
theorem iX11_setFinal_11 : ∀ w ∈ u_ws RX11 TX11 50, w ∈ wsX11_setFinal := by decide +kernel
theorem fX11_setFinal_115 : Cond.fieldLink RX11 115 "AmbiguityAnalyzerModel" "finals" "I" ∈ wsX11_setFinal := by decide +kernel
theorem fX11_setFinal_118 : Cond.fieldLink RX11 118 "AmbiguityAnalyzerModel" "isKnown" "Z" ∈ wsX11_setFinal := by decide +kernel
set_option maxRecDepth 100000 in
set_option maxHeartbeats 4000000 in
theorem tX11_setFinal {Z : am_Z} (R : am_R) (I : am_I) (L : am_L) (a0 : Nat) (x1 : Int32) (x2 : Int32) (h_a0 : am_G Z a0 = some (.inl 11)) : am_M Z yX11_setFinal kX11_setFinal [.ref (am_B Z + a0), .int x1, .int x2] R I L (pX11_setFinal I a0 x1 x2) (fun r : Int32 × am_I => (some (.int r.1), R, r.2, L)) := by
  refine am_entry (ls := [(0, .ref (am_B Z + a0)), (1, .int x1), (2, .int x2)]) (by decide) hX11_setFinal rfl (Nat.le_of_ble_eq_true rfl) rfl (fun X => ?_)
  unfold pX11_setFinal
  refine am_aload_n dX11_setFinal_0 rfl 0 rfl ?_
  refine am_iload_n dX11_setFinal_1 rfl 1 rfl ?_
  refine am_callV [.int x1] (tX11_isState R I L a0 x1 h_a0) h_a0 clX11 gX11_setFinal_X11_isState hX11_isState rfl ⟨Nat.le_of_ble_eq_true rfl, Nat.le_of_ble_eq_true rfl⟩ rfl rfl (Nat.le_of_ble_eq_true rfl) dX11_setFinal_2 (fun r1 => ?_)
  show am_V Z X kX11_setFinal (fun r : Int32 × am_I => (some (.int r.1), R, r.2, L)) 5 [(0, .ref (am_B Z + a0)), (1, .int x1), (2, .int x2)] [.int r1] R I L _
  refine am_if_ne (tgt := 10) dX11_setFinal_5 rfl (fun e2 => ?_) (fun e2 => ?_)
  · refine am_aload_n dX11_setFinal_10 rfl 0 rfl ?_
    refine am_get 11 5 clX11 (Nat.le_of_ble_eq_true rfl) h_a0 iX11_setFinal_11 fX11_setFinal_115 rfl dX11_setFinal_11 ?_
    refine am_iload_n dX11_setFinal_14 rfl 1 rfl ?_
    refine am_ishr dX11_setFinal_15 ?_
    refine am_iconst (v := 1) dX11_setFinal_16 (by decide) ?_
    refine am_iand dX11_setFinal_17 ?_
    refine am_letTi (fun v3 => ?_)
    refine am_istore_n (ls' := [(3, .int v3), (0, .ref (am_B Z + a0)), (1, .int x1), (2, .int x2)]) dX11_setFinal_18 rfl (Nat.le_of_ble_eq_true rfl) rfl ?_
    refine am_aload_n dX11_setFinal_19 rfl 1 rfl ?_
    refine am_iload_n dX11_setFinal_20 rfl 3 rfl ?_
    refine am_letJ (fun k5 ek5 => ?_)
    have hk5 : ∀ v4 : Int32, am_V Z X kX11_setFinal (fun r : Int32 × am_I => (some (.int r.1), R, r.2, L)) 45 [(0, .ref (am_B Z + a0)), (3, .int v3)] [.int v4, .ref (am_B Z + a0)] R I L (k5 v4) := by
      subst ek5
      intro v4
      show am_V Z X kX11_setFinal (fun r : Int32 × am_I => (some (.int r.1), R, r.2, L)) 45 [(0, .ref (am_B Z + a0)), (3, .int v3)] [.int v4, .ref (am_B Z + a0)] R I L _
      refine am_putI 11 5 clX11 (Nat.le_of_ble_eq_true rfl) h_a0 iX11_setFinal_11 fX11_setFinal_115 rfl rfl dX11_setFinal_45 ?_
      refine am_letI (fun J6 => ?_)
      refine am_aload_n dX11_setFinal_48 rfl 0 rfl ?_
      refine am_iconst (v := 0) dX11_setFinal_49 (by decide) ?_
      refine am_putZ 11 6 clX11 (Nat.le_of_ble_eq_true rfl) h_a0 iX11_setFinal_11 fX11_setFinal_118 rfl rfl (by decide) dX11_setFinal_50 ?_
      refine am_letI (fun J7 => ?_)
      refine am_iload_n dX11_setFinal_53 rfl 1 rfl ?_
      exact am_iret dX11_setFinal_54 rfl rfl
    refine am_if_eqL (tgt := 35) dX11_setFinal_21 rfl (fun e8 => ?_) (fun e8 => ?_)
    · refine am_aload_n dX11_setFinal_35 rfl 1 rfl ?_
      refine am_get 11 5 clX11 (Nat.le_of_ble_eq_true rfl) h_a0 iX11_setFinal_11 fX11_setFinal_115 rfl dX11_setFinal_36 ?_
      refine am_iconst (v := 1) dX11_setFinal_39 (by decide) ?_
      refine am_iload_n dX11_setFinal_40 rfl 2 rfl ?_
      refine am_ishl dX11_setFinal_41 ?_
      refine am_iconst (v := -1) dX11_setFinal_42 (by decide) ?_
      refine am_ixor dX11_setFinal_43 ?_
      refine am_iand dX11_setFinal_44 ?_
      refine am_sub (ls' := [(0, .ref (am_B Z + a0)), (3, .int v3)]) [1, 0] rfl ?_
      exact hk5 _
    · refine am_aload_n dX11_setFinal_24 rfl 1 rfl ?_
      refine am_get 11 5 clX11 (Nat.le_of_ble_eq_true rfl) h_a0 iX11_setFinal_11 fX11_setFinal_115 rfl dX11_setFinal_25 ?_
      refine am_iconst (v := 1) dX11_setFinal_28 (by decide) ?_
      refine am_iload_n dX11_setFinal_29 rfl 2 rfl ?_
      refine am_ishl dX11_setFinal_30 ?_
      refine am_ior dX11_setFinal_31 ?_
      refine am_goto (tgt := 45) dX11_setFinal_32 rfl ?_
      refine am_sub (ls' := [(0, .ref (am_B Z + a0)), (3, .int v3)]) [1, 0] rfl ?_
      exact hk5 _
  · refine am_iconst (v := -1) dX11_setFinal_8 (by decide) ?_
    exact am_iret dX11_setFinal_9 rfl rfl
abbrev kX11_initialStates : am_K := (cX11_initialStates, 1, RX11, wsX11_initialStates, some .int, { frames := 0, cells := 0, slots := 0, locals := 0 })
theorem hX11_initialStates : am_cl yX11_initialStates kX11_initialStates 0 := ⟨⟨_, rfl⟩, rfl, rfl, by decide +kernel, by decide +kernel, by decide +kernel⟩
theorem iX11_initialStates_11 : ∀ w ∈ u_ws RX11 TX11 50, w ∈ wsX11_initialStates := by decide +kernel
theorem fX11_initialStates_112 : Cond.fieldLink RX11 112 "AmbiguityAnalyzerModel" "initials" "I" ∈ wsX11_initialStates := by decide +kernel
set_option maxRecDepth 100000 in
set_option maxHeartbeats 4000000 in
theorem tX11_initialStates {Z : am_Z} (R : am_R) (I : am_I) (L : am_L) (a0 : Nat) (h_a0 : am_G Z a0 = some (.inl 11)) : am_M Z yX11_initialStates kX11_initialStates [.ref (am_B Z + a0)] R I L (pX11_initialStates I a0) (fun r : Int32 => (some (.int r), R, I, L)) := by
  refine am_entry (ls := [(0, .ref (am_B Z + a0))]) (by decide) hX11_initialStates rfl (Nat.le_of_ble_eq_true rfl) rfl (fun X => ?_)
  unfold pX11_initialStates
  refine am_aload_n dX11_initialStates_0 rfl 0 rfl ?_
  refine am_get 11 4 clX11 (Nat.le_of_ble_eq_true rfl) h_a0 iX11_initialStates_11 fX11_initialStates_112 rfl dX11_initialStates_1 ?_
  exact am_iret dX11_initialStates_4 rfl rfl
abbrev kX11_finalStates : am_K := (cX11_finalStates, 1, RX11, wsX11_finalStates, some .int, { frames := 0, cells := 0, slots := 0, locals := 0 })
theorem hX11_finalStates : am_cl yX11_finalStates kX11_finalStates 0 := ⟨⟨_, rfl⟩, rfl, rfl, by decide +kernel, by decide +kernel, by decide +kernel⟩
theorem iX11_finalStates_11 : ∀ w ∈ u_ws RX11 TX11 50, w ∈ wsX11_finalStates := by decide +kernel
theorem fX11_finalStates_115 : Cond.fieldLink RX11 115 "AmbiguityAnalyzerModel" "finals" "I" ∈ wsX11_finalStates := by decide +kernel
set_option maxRecDepth 100000 in
set_option maxHeartbeats 4000000 in
theorem tX11_finalStates {Z : am_Z} (R : am_R) (I : am_I) (L : am_L) (a0 : Nat) (h_a0 : am_G Z a0 = some (.inl 11)) : am_M Z yX11_finalStates kX11_finalStates [.ref (am_B Z + a0)] R I L (pX11_finalStates I a0) (fun r : Int32 => (some (.int r), R, I, L)) := by
  refine am_entry (ls := [(0, .ref (am_B Z + a0))]) (by decide) hX11_finalStates rfl (Nat.le_of_ble_eq_true rfl) rfl (fun X => ?_)
  unfold pX11_finalStates
  refine am_aload_n dX11_finalStates_0 rfl 0 rfl ?_
  refine am_get 11 5 clX11 (Nat.le_of_ble_eq_true rfl) h_a0 iX11_finalStates_11 fX11_finalStates_115 rfl dX11_finalStates_1 ?_
  exact am_iret dX11_finalStates_4 rfl rfl
abbrev kX11_successors : am_K := (cX11_successors, 3, RX11, wsX11_successors, some .int, { frames := 1, cells := 0, slots := 0, locals := 21 })
theorem hX11_successors : am_cl yX11_successors kX11_successors 2 := ⟨⟨_, rfl⟩, rfl, rfl, by decide +kernel, by decide +kernel, by decide +kernel⟩
theorem iX11_successors_11 : ∀ w ∈ u_ws RX11 TX11 50, w ∈ wsX11_successors := by decide +kernel
theorem fX11_successors_7 : Cond.fieldLink RX11 7 "AmbiguityAnalyzerModel" "targets" "[I" ∈ wsX11_successors := by decide +kernel
set_option maxRecDepth 100000 in
set_option maxHeartbeats 4000000 in
theorem tX11_successors {Z : am_Z} (R : am_R) (I : am_I) (L : am_L) (a0 : Nat) (x1 : Int32) (x2 : Int32) (h_a0 : am_G Z a0 = some (.inl 11)) : am_M Z yX11_successors kX11_successors [.ref (am_B Z + a0), .int x1, .int x2] R I L (pX11_successors R I a0 x1 x2) (fun r : Int32 => (some (.int r), R, I, L)) := by
  refine am_entry (ls := [(0, .ref (am_B Z + a0)), (1, .int x1), (2, .int x2)]) (by decide) hX11_successors rfl (Nat.le_of_ble_eq_true rfl) rfl (fun X => ?_)
  unfold pX11_successors
  refine am_aload_n dX11_successors_0 rfl 0 rfl ?_
  refine am_iload_n dX11_successors_1 rfl 1 rfl ?_
  refine am_callV [.int x1] (tX11_isState R I L a0 x1 h_a0) h_a0 clX11 gX11_successors_X11_isState hX11_isState rfl ⟨Nat.le_of_ble_eq_true rfl, Nat.le_of_ble_eq_true rfl⟩ rfl rfl (Nat.le_of_ble_eq_true rfl) dX11_successors_2 (fun r1 => ?_)
  show am_V Z X kX11_successors (fun r : Int32 => (some (.int r), R, I, L)) 5 [(0, .ref (am_B Z + a0)), (1, .int x1), (2, .int x2)] [.int r1] R I L _
  refine am_if_eq (tgt := 29) dX11_successors_5 rfl (fun e2 => ?_) (fun e2 => ?_)
  · refine am_iconst (v := -1) dX11_successors_29 (by decide) ?_
    exact am_iret dX11_successors_30 rfl rfl
  · refine am_iload_n dX11_successors_8 rfl 2 rfl ?_
    refine am_callS [.int x2] (tX11_isLetter R I L x2) gX11_successors_X11_isLetter hX11_isLetter ⟨Nat.le_of_ble_eq_true rfl, Nat.le_of_ble_eq_true rfl⟩ rfl rfl (Nat.le_of_ble_eq_true rfl) dX11_successors_9 (fun r3 => ?_)
    show am_V Z X kX11_successors (fun r : Int32 => (some (.int r), R, I, L)) 12 [(0, .ref (am_B Z + a0)), (1, .int x1), (2, .int x2)] [.int r3] R I L _
    refine am_if_eq (tgt := 29) dX11_successors_12 rfl (fun e4 => ?_) (fun e4 => ?_)
    · refine am_iconst (v := -1) dX11_successors_29 (by decide) ?_
      exact am_iret dX11_successors_30 rfl rfl
    · refine am_aload_n dX11_successors_15 rfl 0 rfl ?_
      refine am_getR 11 0 clX11 (Nat.le_of_ble_eq_true rfl) h_a0 iX11_successors_11 fX11_successors_7 rfl rfl dX11_successors_16 (fun h5 => ?_)
      refine am_bipush (v := 6) dX11_successors_19 (by decide) ?_
      refine am_iload_n dX11_successors_21 rfl 2 rfl ?_
      refine am_imul dX11_successors_22 ?_
      refine am_iload_n dX11_successors_23 rfl 1 rfl ?_
      refine am_iadd dX11_successors_24 ?_
      refine am_iald h5 dX11_successors_25 ?_
      refine am_goto (tgt := 30) dX11_successors_26 rfl ?_
      exact am_iret dX11_successors_30 rfl rfl
abbrev kX11_step : am_K := (cX11_step, 5, RX11, wsX11_step, some .int, { frames := 1, cells := 0, slots := 0, locals := 22 })
theorem hX11_step : am_cl yX11_step kX11_step 2 := ⟨⟨_, rfl⟩, rfl, rfl, by decide +kernel, by decide +kernel, by decide +kernel⟩
theorem iX11_step_11 : ∀ w ∈ u_ws RX11 TX11 50, w ∈ wsX11_step := by decide +kernel
theorem fX11_step_19 : Cond.fieldLink RX11 19 "AmbiguityAnalyzerModel" "states" "I" ∈ wsX11_step := by decide +kernel
theorem fX11_step_7 : Cond.fieldLink RX11 7 "AmbiguityAnalyzerModel" "targets" "[I" ∈ wsX11_step := by decide +kernel
set_option maxRecDepth 100000 in
set_option maxHeartbeats 4000000 in
theorem vX11_step_5 {Z : am_Z} {X : am_X} (R : am_R) (I : am_I) (L : am_L) (a0 : Nat) (x1 : Int32) (x2 : Int32) (h1 : am_G Z a0 = some (.inl 11)) (ih4 : Int32 → Int32 → Option (Int32)) (hih4 : ∀ (v2 : Int32) (v3 : Int32), am_V Z X kX11_step (fun r : Int32 => (some (.int r), R, I, L)) 5 [(0, .ref (am_B Z + a0)), (1, .int x1), (2, .int x2), (3, .int v2), (4, .int v3)] [] R I L (ih4 v2 v3)) (v2 : Int32) (v3 : Int32) : am_V Z X kX11_step (fun r : Int32 => (some (.int r), R, I, L)) 5 [(0, .ref (am_B Z + a0)), (1, .int x1), (2, .int x2), (3, .int v2), (4, .int v3)] [] R I L (sX11_step_5 R I a0 x1 x2 ih4 v2 v3) := by
  unfold sX11_step_5
  refine am_iload dX11_step_5 4 rfl ?_
  refine am_aload_n dX11_step_7 rfl 0 rfl ?_
  refine am_get 11 3 clX11 (Nat.le_of_ble_eq_true rfl) h1 iX11_step_11 fX11_step_19 rfl dX11_step_8 ?_
  refine am_icmp_ge (tgt := 49) dX11_step_11 rfl (fun e5 => ?_) (fun e5 => ?_)
  · refine am_iload_n dX11_step_49 rfl 3 rfl ?_
    exact am_iret dX11_step_50 rfl rfl
  · refine am_iload_n dX11_step_14 rfl 3 rfl ?_
    refine am_iload_n dX11_step_15 rfl 1 rfl ?_
    refine am_i2l dX11_step_16 ?_
    refine am_iload dX11_step_17 4 rfl ?_
    refine am_callS [.long (Int32.toInt64 x1), .int v3] (tX11_has R I L (Int32.toInt64 x1) v3) gX11_step_X11_has hX11_has ⟨Nat.le_of_ble_eq_true rfl, Nat.le_of_ble_eq_true rfl⟩ rfl rfl (Nat.le_of_ble_eq_true rfl) dX11_step_19 (fun r6 => ?_)
    show am_V Z X kX11_step (fun r : Int32 => (some (.int r), R, I, L)) 22 [(0, .ref (am_B Z + a0)), (1, .int x1), (2, .int x2), (3, .int v2), (4, .int v3)] [.int r6, .int v2] R I L _
    refine am_jnV (fun j7 ej7 => ?_)
    have hj7 : ∀ (v8 : Int32), am_V Z X kX11_step (fun r : Int32 => (some (.int r), R, I, L)) 41 [(0, .ref (am_B Z + a0)), (1, .int x1), (2, .int x2), (4, .int v3)] [.int v8, .int v2] R I L (j7 v8) := by
      subst ej7
      intro v8
      show am_V Z X kX11_step (fun r : Int32 => (some (.int r), R, I, L)) 41 [(0, .ref (am_B Z + a0)), (1, .int x1), (2, .int x2), (4, .int v3)] [.int v8, .int v2] R I L _
      refine am_ior dX11_step_41 ?_
      refine am_letTi (fun v9 => ?_)
      refine am_istore_n (ls' := [(3, .int v9), (0, .ref (am_B Z + a0)), (1, .int x1), (2, .int x2), (4, .int v3)]) dX11_step_42 rfl (Nat.le_of_ble_eq_true rfl) rfl ?_
      refine am_iinc (j := 4) (ls' := [(4, .int (v3 + (1 : Int32))), (3, .int v9), (0, .ref (am_B Z + a0)), (1, .int x1), (2, .int x2)]) dX11_step_43 rfl rfl (Nat.le_of_ble_eq_true rfl) rfl ?_
      refine am_goto (tgt := 5) dX11_step_46 rfl ?_
      refine am_sub (ls' := [(0, .ref (am_B Z + a0)), (1, .int x1), (2, .int x2), (3, .int v9), (4, .int (v3 + (1 : Int32)))]) [2, 3, 4, 1, 0] rfl ?_
      exact hih4 v9 (v3 + (1 : Int32))
    refine am_if_eq (tgt := 40) dX11_step_22 rfl (fun e10 => ?_) (fun e10 => ?_)
    · refine am_iconst (v := 0) dX11_step_40 (by decide) ?_
      refine am_sub (ls' := [(0, .ref (am_B Z + a0)), (1, .int x1), (2, .int x2), (4, .int v3)]) [0, 1, 2, 4] rfl ?_
      exact hj7 (0 : Int32)
    · refine am_aload_n dX11_step_25 rfl 0 rfl ?_
      refine am_getR 11 0 clX11 (Nat.le_of_ble_eq_true rfl) h1 iX11_step_11 fX11_step_7 rfl rfl dX11_step_26 (fun h11 => ?_)
      refine am_bipush (v := 6) dX11_step_29 (by decide) ?_
      refine am_iload_n dX11_step_31 rfl 2 rfl ?_
      refine am_imul dX11_step_32 ?_
      refine am_iload dX11_step_33 4 rfl ?_
      refine am_iadd dX11_step_35 ?_
      refine am_iald h11 dX11_step_36 ?_
      refine am_goto (tgt := 41) dX11_step_37 rfl ?_
      refine am_sub (ls' := [(0, .ref (am_B Z + a0)), (1, .int x1), (2, .int x2), (4, .int v3)]) [0, 1, 2, 4] rfl ?_
      exact hj7 (I (R a0 0) (Int32.toNatClampNeg (((6 : Int32) * x2) + v3)))
theorem uX11_step_5 {Z : am_Z} {X : am_X} (R : am_R) (I : am_I) (L : am_L) (a0 : Nat) (x1 : Int32) (x2 : Int32) (h1 : am_G Z a0 = some (.inl 11)) : ∀ (n : Nat) (v2 : Int32) (v3 : Int32), am_V Z X kX11_step (fun r : Int32 => (some (.int r), R, I, L)) 5 [(0, .ref (am_B Z + a0)), (1, .int x1), (2, .int x2), (3, .int v2), (4, .int v3)] [] R I L (lX11_step_5 R I a0 x1 x2 n v2 v3) := by
  intro n
  induction n with
  | zero => intro _ _; exact am_none
  | succ n ih => exact fun v2 v3 => vX11_step_5 R I L a0 x1 x2 h1 (lX11_step_5 R I a0 x1 x2 n) ih v2 v3
set_option maxRecDepth 100000 in
set_option maxHeartbeats 4000000 in
theorem tX11_step {Z : am_Z} (R : am_R) (I : am_I) (L : am_L) (a0 : Nat) (x1 : Int32) (x2 : Int32) (h_a0 : am_G Z a0 = some (.inl 11)) : am_M Z yX11_step kX11_step [.ref (am_B Z + a0), .int x1, .int x2] R I L (pX11_step R I a0 x1 x2) (fun r : Int32 => (some (.int r), R, I, L)) := by
  refine am_entry (ls := [(0, .ref (am_B Z + a0)), (1, .int x1), (2, .int x2)]) (by decide) hX11_step rfl (Nat.le_of_ble_eq_true rfl) rfl (fun X => ?_)
  unfold pX11_step
  refine am_iconst (v := 0) dX11_step_0 (by decide) ?_
  refine am_istore_n (ls' := [(3, .int (0 : Int32)), (0, .ref (am_B Z + a0)), (1, .int x1), (2, .int x2)]) dX11_step_1 rfl (Nat.le_of_ble_eq_true rfl) rfl ?_
  refine am_iconst (v := 0) dX11_step_2 (by decide) ?_
  refine am_istore (ls' := [(4, .int (0 : Int32)), (3, .int (0 : Int32)), (0, .ref (am_B Z + a0)), (1, .int x1), (2, .int x2)]) dX11_step_3 (Nat.le_of_ble_eq_true rfl) rfl ?_
  refine am_sub (ls' := [(0, .ref (am_B Z + a0)), (1, .int x1), (2, .int x2), (3, .int (0 : Int32)), (4, .int (0 : Int32))]) [2, 3, 4, 1, 0] rfl ?_
  exact uX11_step_5 R I L a0 x1 x2 h_a0 am_fu (0 : Int32) (0 : Int32)
abbrev kX11_reachedFrom : am_K := (cX11_reachedFrom, 4, RX11, wsX11_reachedFrom, some .int, { frames := 2, cells := 0, slots := 0, locals := 46 })
theorem hX11_reachedFrom : am_cl yX11_reachedFrom kX11_reachedFrom 1 := ⟨⟨_, rfl⟩, rfl, rfl, by decide +kernel, by decide +kernel, by decide +kernel⟩
set_option maxRecDepth 100000 in
set_option maxHeartbeats 4000000 in
theorem vX11_reachedFrom_4 {Z : am_Z} {X : am_X} (R : am_R) (I : am_I) (L : am_L) (a0 : Nat) (h1 : am_G Z a0 = some (.inl 11)) (ih4 : Int32 → Int32 → Option (Int32)) (hih4 : ∀ (v2 : Int32) (v3 : Int32), am_V Z X kX11_reachedFrom (fun r : Int32 => (some (.int r), R, I, L)) 4 [(0, .ref (am_B Z + a0)), (2, .int v2), (3, .int v3)] [] R I L (ih4 v2 v3)) (v2 : Int32) (v3 : Int32) : am_V Z X kX11_reachedFrom (fun r : Int32 => (some (.int r), R, I, L)) 4 [(0, .ref (am_B Z + a0)), (2, .int v2), (3, .int v3)] [] R I L (sX11_reachedFrom_4 R I a0 ih4 v2 v3) := by
  unfold sX11_reachedFrom_4
  refine am_iload_n dX11_reachedFrom_4 rfl 2 rfl ?_
  refine am_bipush (v := 6) dX11_reachedFrom_5 (by decide) ?_
  refine am_icmp_ge (tgt := 39) dX11_reachedFrom_7 rfl (fun e5 => ?_) (fun e5 => ?_)
  · refine am_iload_n dX11_reachedFrom_39 rfl 1 rfl ?_
    exact am_iret dX11_reachedFrom_40 rfl rfl
  · refine am_iload_n dX11_reachedFrom_10 rfl 1 rfl ?_
    refine am_aload_n dX11_reachedFrom_11 rfl 0 rfl ?_
    refine am_iload_n dX11_reachedFrom_12 rfl 1 rfl ?_
    refine am_iconst (v := 0) dX11_reachedFrom_13 (by decide) ?_
    refine am_callV [.int v2, .int (0 : Int32)] (tX11_step R I L a0 v2 (0 : Int32) h1) h1 clX11 gX11_reachedFrom_X11_step hX11_step rfl ⟨Nat.le_of_ble_eq_true rfl, Nat.le_of_ble_eq_true rfl⟩ rfl rfl (Nat.le_of_ble_eq_true rfl) dX11_reachedFrom_14 (fun r6 => ?_)
    show am_V Z X kX11_reachedFrom (fun r : Int32 => (some (.int r), R, I, L)) 17 [(0, .ref (am_B Z + a0)), (2, .int v2), (3, .int v3)] [.int r6, .int v2] R I L _
    refine am_aload_n dX11_reachedFrom_17 rfl 0 rfl ?_
    refine am_iload_n dX11_reachedFrom_18 rfl 1 rfl ?_
    refine am_iconst (v := 1) dX11_reachedFrom_19 (by decide) ?_
    refine am_callV [.int v2, .int (1 : Int32)] (tX11_step R I L a0 v2 (1 : Int32) h1) h1 clX11 gX11_reachedFrom_X11_step hX11_step rfl ⟨Nat.le_of_ble_eq_true rfl, Nat.le_of_ble_eq_true rfl⟩ rfl rfl (Nat.le_of_ble_eq_true rfl) dX11_reachedFrom_20 (fun r7 => ?_)
    show am_V Z X kX11_reachedFrom (fun r : Int32 => (some (.int r), R, I, L)) 23 [(0, .ref (am_B Z + a0)), (2, .int v2), (3, .int v3)] [.int r7, .int r6, .int v2] R I L _
    refine am_ior dX11_reachedFrom_23 ?_
    refine am_aload_n dX11_reachedFrom_24 rfl 0 rfl ?_
    refine am_iload_n dX11_reachedFrom_25 rfl 1 rfl ?_
    refine am_iconst (v := 2) dX11_reachedFrom_26 (by decide) ?_
    refine am_callV [.int v2, .int (2 : Int32)] (tX11_step R I L a0 v2 (2 : Int32) h1) h1 clX11 gX11_reachedFrom_X11_step hX11_step rfl ⟨Nat.le_of_ble_eq_true rfl, Nat.le_of_ble_eq_true rfl⟩ rfl rfl (Nat.le_of_ble_eq_true rfl) dX11_reachedFrom_27 (fun r8 => ?_)
    show am_V Z X kX11_reachedFrom (fun r : Int32 => (some (.int r), R, I, L)) 30 [(0, .ref (am_B Z + a0)), (2, .int v2), (3, .int v3)] [.int r8, .int (r6 ||| r7), .int v2] R I L _
    refine am_ior dX11_reachedFrom_30 ?_
    refine am_ior dX11_reachedFrom_31 ?_
    refine am_letTi (fun v9 => ?_)
    refine am_istore_n (ls' := [(2, .int v9), (0, .ref (am_B Z + a0)), (3, .int v3)]) dX11_reachedFrom_32 rfl (Nat.le_of_ble_eq_true rfl) rfl ?_
    refine am_iinc (j := 2) (ls' := [(3, .int (v3 + (1 : Int32))), (2, .int v9), (0, .ref (am_B Z + a0))]) dX11_reachedFrom_33 rfl rfl (Nat.le_of_ble_eq_true rfl) rfl ?_
    refine am_goto (tgt := 4) dX11_reachedFrom_36 rfl ?_
    refine am_sub (ls' := [(0, .ref (am_B Z + a0)), (2, .int v9), (3, .int (v3 + (1 : Int32)))]) [2, 1, 0] rfl ?_
    exact hih4 v9 (v3 + (1 : Int32))
theorem uX11_reachedFrom_4 {Z : am_Z} {X : am_X} (R : am_R) (I : am_I) (L : am_L) (a0 : Nat) (h1 : am_G Z a0 = some (.inl 11)) : ∀ (n : Nat) (v2 : Int32) (v3 : Int32), am_V Z X kX11_reachedFrom (fun r : Int32 => (some (.int r), R, I, L)) 4 [(0, .ref (am_B Z + a0)), (2, .int v2), (3, .int v3)] [] R I L (lX11_reachedFrom_4 R I a0 n v2 v3) := by
  intro n
  induction n with
  | zero => intro _ _; exact am_none
  | succ n ih => exact fun v2 v3 => vX11_reachedFrom_4 R I L a0 h1 (lX11_reachedFrom_4 R I a0 n) ih v2 v3
set_option maxRecDepth 100000 in
set_option maxHeartbeats 4000000 in
theorem tX11_reachedFrom {Z : am_Z} (R : am_R) (I : am_I) (L : am_L) (a0 : Nat) (x1 : Int32) (h_a0 : am_G Z a0 = some (.inl 11)) : am_M Z yX11_reachedFrom kX11_reachedFrom [.ref (am_B Z + a0), .int x1] R I L (pX11_reachedFrom R I a0 x1) (fun r : Int32 => (some (.int r), R, I, L)) := by
  refine am_entry (ls := [(0, .ref (am_B Z + a0)), (1, .int x1)]) (by decide) hX11_reachedFrom rfl (Nat.le_of_ble_eq_true rfl) rfl (fun X => ?_)
  unfold pX11_reachedFrom
  refine am_iload_n dX11_reachedFrom_0 rfl 1 rfl ?_
  refine am_istore_n (ls' := [(2, .int x1), (0, .ref (am_B Z + a0)), (1, .int x1)]) dX11_reachedFrom_1 rfl (Nat.le_of_ble_eq_true rfl) rfl ?_
  refine am_iconst (v := 0) dX11_reachedFrom_2 (by decide) ?_
  refine am_istore_n (ls' := [(3, .int (0 : Int32)), (2, .int x1), (0, .ref (am_B Z + a0)), (1, .int x1)]) dX11_reachedFrom_3 rfl (Nat.le_of_ble_eq_true rfl) rfl ?_
  refine am_sub (ls' := [(0, .ref (am_B Z + a0)), (2, .int x1), (3, .int (0 : Int32))]) [2, 1, 0] rfl ?_
  exact uX11_reachedFrom_4 R I L a0 h_a0 am_fu x1 (0 : Int32)
abbrev kX11_useful : am_K := (cX11_useful, 4, RX11, wsX11_useful, some .int, { frames := 3, cells := 0, slots := 0, locals := 69 })
theorem hX11_useful : am_cl yX11_useful kX11_useful 0 := ⟨⟨_, rfl⟩, rfl, rfl, by decide +kernel, by decide +kernel, by decide +kernel⟩
theorem iX11_useful_11 : ∀ w ∈ u_ws RX11 TX11 50, w ∈ wsX11_useful := by decide +kernel
theorem fX11_useful_112 : Cond.fieldLink RX11 112 "AmbiguityAnalyzerModel" "initials" "I" ∈ wsX11_useful := by decide +kernel
theorem fX11_useful_19 : Cond.fieldLink RX11 19 "AmbiguityAnalyzerModel" "states" "I" ∈ wsX11_useful := by decide +kernel
theorem fX11_useful_115 : Cond.fieldLink RX11 115 "AmbiguityAnalyzerModel" "finals" "I" ∈ wsX11_useful := by decide +kernel
set_option maxRecDepth 100000 in
set_option maxHeartbeats 4000000 in
theorem vX11_useful_13 {Z : am_Z} {X : am_X} (R : am_R) (I : am_I) (L : am_L) (a0 : Nat) (r1 : Int32) (h2 : am_G Z a0 = some (.inl 11)) (ih5 : Int32 → Int32 → Option (Int32)) (hih5 : ∀ (v3 : Int32) (v4 : Int32), am_V Z X kX11_useful (fun r : Int32 => (some (.int r), R, I, L)) 13 [(0, .ref (am_B Z + a0)), (1, .int r1), (2, .int v3), (3, .int v4)] [] R I L (ih5 v3 v4)) (v3 : Int32) (v4 : Int32) : am_V Z X kX11_useful (fun r : Int32 => (some (.int r), R, I, L)) 13 [(0, .ref (am_B Z + a0)), (1, .int r1), (2, .int v3), (3, .int v4)] [] R I L (sX11_useful_13 R I a0 r1 ih5 v3 v4) := by
  unfold sX11_useful_13
  refine am_iload_n dX11_useful_13 rfl 3 rfl ?_
  refine am_aload_n dX11_useful_14 rfl 0 rfl ?_
  refine am_get 11 3 clX11 (Nat.le_of_ble_eq_true rfl) h2 iX11_useful_11 fX11_useful_19 rfl dX11_useful_15 ?_
  refine am_icmp_ge (tgt := 61) dX11_useful_18 rfl (fun e6 => ?_) (fun e6 => ?_)
  · refine am_iload_n dX11_useful_61 rfl 2 rfl ?_
    exact am_iret dX11_useful_62 rfl rfl
  · refine am_iload_n dX11_useful_21 rfl 2 rfl ?_
    refine am_iload_n dX11_useful_22 rfl 1 rfl ?_
    refine am_i2l dX11_useful_23 ?_
    refine am_iload_n dX11_useful_24 rfl 3 rfl ?_
    refine am_callS [.long (Int32.toInt64 r1), .int v4] (tX11_has R I L (Int32.toInt64 r1) v4) gX11_useful_X11_has hX11_has ⟨Nat.le_of_ble_eq_true rfl, Nat.le_of_ble_eq_true rfl⟩ rfl rfl (Nat.le_of_ble_eq_true rfl) dX11_useful_25 (fun r7 => ?_)
    show am_V Z X kX11_useful (fun r : Int32 => (some (.int r), R, I, L)) 28 [(0, .ref (am_B Z + a0)), (1, .int r1), (2, .int v3), (3, .int v4)] [.int r7, .int v3] R I L _
    refine am_jnV (fun j8 ej8 => ?_)
    have hj8 : ∀ (v9 : Int32), am_V Z X kX11_useful (fun r : Int32 => (some (.int r), R, I, L)) 53 [(0, .ref (am_B Z + a0)), (1, .int r1), (3, .int v4)] [.int v9, .int v3] R I L (j8 v9) := by
      subst ej8
      intro v9
      show am_V Z X kX11_useful (fun r : Int32 => (some (.int r), R, I, L)) 53 [(0, .ref (am_B Z + a0)), (1, .int r1), (3, .int v4)] [.int v9, .int v3] R I L _
      refine am_ior dX11_useful_53 ?_
      refine am_letTi (fun v10 => ?_)
      refine am_istore_n (ls' := [(2, .int v10), (0, .ref (am_B Z + a0)), (1, .int r1), (3, .int v4)]) dX11_useful_54 rfl (Nat.le_of_ble_eq_true rfl) rfl ?_
      refine am_iinc (j := 3) (ls' := [(3, .int (v4 + (1 : Int32))), (2, .int v10), (0, .ref (am_B Z + a0)), (1, .int r1)]) dX11_useful_55 rfl rfl (Nat.le_of_ble_eq_true rfl) rfl ?_
      refine am_goto (tgt := 13) dX11_useful_58 rfl ?_
      refine am_sub (ls' := [(0, .ref (am_B Z + a0)), (1, .int r1), (2, .int v10), (3, .int (v4 + (1 : Int32)))]) [2, 3, 1, 0] rfl ?_
      exact hih5 v10 (v4 + (1 : Int32))
    refine am_jnV (fun j11 ej11 => ?_)
    have hj11 : am_V Z X kX11_useful (fun r : Int32 => (some (.int r), R, I, L)) 52 [(0, .ref (am_B Z + a0)), (1, .int r1), (3, .int v4)] [.int v3] R I L j11 := by
      subst ej11
      show am_V Z X kX11_useful (fun r : Int32 => (some (.int r), R, I, L)) 52 [(0, .ref (am_B Z + a0)), (1, .int r1), (3, .int v4)] [.int v3] R I L _
      refine am_iconst (v := 0) dX11_useful_52 (by decide) ?_
      exact hj8 (0 : Int32)
    refine am_if_eq (tgt := 52) dX11_useful_28 rfl (fun e12 => ?_) (fun e12 => ?_)
    · refine am_sub (ls' := [(0, .ref (am_B Z + a0)), (1, .int r1), (3, .int v4)]) [0, 1, 3] rfl ?_
      exact hj11
    · refine am_aload_n dX11_useful_31 rfl 0 rfl ?_
      refine am_iconst (v := 1) dX11_useful_32 (by decide) ?_
      refine am_iload_n dX11_useful_33 rfl 3 rfl ?_
      refine am_ishl dX11_useful_34 ?_
      refine am_callV [.int ((1 : Int32) <<< (v4 &&& 31))] (tX11_reachedFrom R I L a0 ((1 : Int32) <<< (v4 &&& 31)) h2) h2 clX11 gX11_useful_X11_reachedFrom hX11_reachedFrom rfl ⟨Nat.le_of_ble_eq_true rfl, Nat.le_of_ble_eq_true rfl⟩ rfl rfl (Nat.le_of_ble_eq_true rfl) dX11_useful_35 (fun r13 => ?_)
      show am_V Z X kX11_useful (fun r : Int32 => (some (.int r), R, I, L)) 38 [(0, .ref (am_B Z + a0)), (1, .int r1), (2, .int v3), (3, .int v4)] [.int r13, .int v3] R I L _
      refine am_aload_n dX11_useful_38 rfl 0 rfl ?_
      refine am_get 11 5 clX11 (Nat.le_of_ble_eq_true rfl) h2 iX11_useful_11 fX11_useful_115 rfl dX11_useful_39 ?_
      refine am_iand dX11_useful_42 ?_
      refine am_if_eq (tgt := 52) dX11_useful_43 rfl (fun e14 => ?_) (fun e14 => ?_)
      · refine am_sub (ls' := [(0, .ref (am_B Z + a0)), (1, .int r1), (3, .int v4)]) [0, 1, 3] rfl ?_
        exact hj11
      · refine am_iconst (v := 1) dX11_useful_46 (by decide) ?_
        refine am_iload_n dX11_useful_47 rfl 3 rfl ?_
        refine am_ishl dX11_useful_48 ?_
        refine am_goto (tgt := 53) dX11_useful_49 rfl ?_
        refine am_sub (ls' := [(0, .ref (am_B Z + a0)), (1, .int r1), (3, .int v4)]) [0, 1, 3] rfl ?_
        exact hj8 ((1 : Int32) <<< (v4 &&& 31))
theorem uX11_useful_13 {Z : am_Z} {X : am_X} (R : am_R) (I : am_I) (L : am_L) (a0 : Nat) (r1 : Int32) (h2 : am_G Z a0 = some (.inl 11)) : ∀ (n : Nat) (v3 : Int32) (v4 : Int32), am_V Z X kX11_useful (fun r : Int32 => (some (.int r), R, I, L)) 13 [(0, .ref (am_B Z + a0)), (1, .int r1), (2, .int v3), (3, .int v4)] [] R I L (lX11_useful_13 R I a0 r1 n v3 v4) := by
  intro n
  induction n with
  | zero => intro _ _; exact am_none
  | succ n ih => exact fun v3 v4 => vX11_useful_13 R I L a0 r1 h2 (lX11_useful_13 R I a0 r1 n) ih v3 v4
set_option maxRecDepth 100000 in
set_option maxHeartbeats 4000000 in
theorem tX11_useful {Z : am_Z} (R : am_R) (I : am_I) (L : am_L) (a0 : Nat) (h_a0 : am_G Z a0 = some (.inl 11)) : am_M Z yX11_useful kX11_useful [.ref (am_B Z + a0)] R I L (pX11_useful R I a0) (fun r : Int32 => (some (.int r), R, I, L)) := by
  refine am_entry (ls := [(0, .ref (am_B Z + a0))]) (by decide) hX11_useful rfl (Nat.le_of_ble_eq_true rfl) rfl (fun X => ?_)
  unfold pX11_useful
  refine am_aload_n dX11_useful_0 rfl 0 rfl ?_
  refine am_aload_n dX11_useful_1 rfl 0 rfl ?_
  refine am_get 11 4 clX11 (Nat.le_of_ble_eq_true rfl) h_a0 iX11_useful_11 fX11_useful_112 rfl dX11_useful_2 ?_
  refine am_callV [.int (I a0 4)] (tX11_reachedFrom R I L a0 (I a0 4) h_a0) h_a0 clX11 gX11_useful_X11_reachedFrom hX11_reachedFrom rfl ⟨Nat.le_of_ble_eq_true rfl, Nat.le_of_ble_eq_true rfl⟩ rfl rfl (Nat.le_of_ble_eq_true rfl) dX11_useful_5 (fun r1 => ?_)
  show am_V Z X kX11_useful (fun r : Int32 => (some (.int r), R, I, L)) 8 [(0, .ref (am_B Z + a0))] [.int r1] R I L _
  refine am_istore_n (ls' := [(1, .int r1), (0, .ref (am_B Z + a0))]) dX11_useful_8 rfl (Nat.le_of_ble_eq_true rfl) rfl ?_
  refine am_iconst (v := 0) dX11_useful_9 (by decide) ?_
  refine am_istore_n (ls' := [(2, .int (0 : Int32)), (1, .int r1), (0, .ref (am_B Z + a0))]) dX11_useful_10 rfl (Nat.le_of_ble_eq_true rfl) rfl ?_
  refine am_iconst (v := 0) dX11_useful_11 (by decide) ?_
  refine am_istore_n (ls' := [(3, .int (0 : Int32)), (2, .int (0 : Int32)), (1, .int r1), (0, .ref (am_B Z + a0))]) dX11_useful_12 rfl (Nat.le_of_ble_eq_true rfl) rfl ?_
  refine am_sub (ls' := [(0, .ref (am_B Z + a0)), (1, .int r1), (2, .int (0 : Int32)), (3, .int (0 : Int32))]) [3, 2, 1, 0] rfl ?_
  exact uX11_useful_13 R I L a0 r1 h_a0 am_fu (0 : Int32) (0 : Int32)
abbrev kX11_usefulStates : am_K := (cX11_usefulStates, 1, RX11, wsX11_usefulStates, some .int, { frames := 4, cells := 0, slots := 0, locals := 92 })
theorem hX11_usefulStates : am_cl yX11_usefulStates kX11_usefulStates 0 := ⟨⟨_, rfl⟩, rfl, rfl, by decide +kernel, by decide +kernel, by decide +kernel⟩
set_option maxRecDepth 100000 in
set_option maxHeartbeats 4000000 in
theorem tX11_usefulStates {Z : am_Z} (R : am_R) (I : am_I) (L : am_L) (a0 : Nat) (h_a0 : am_G Z a0 = some (.inl 11)) : am_M Z yX11_usefulStates kX11_usefulStates [.ref (am_B Z + a0)] R I L (pX11_usefulStates R I a0) (fun r : Int32 => (some (.int r), R, I, L)) := by
  refine am_entry (ls := [(0, .ref (am_B Z + a0))]) (by decide) hX11_usefulStates rfl (Nat.le_of_ble_eq_true rfl) rfl (fun X => ?_)
  unfold pX11_usefulStates
  refine am_aload_n dX11_usefulStates_0 rfl 0 rfl ?_
  refine am_callV [] (tX11_useful R I L a0 h_a0) h_a0 clX11 gX11_usefulStates_X11_useful hX11_useful rfl ⟨Nat.le_of_ble_eq_true rfl, Nat.le_of_ble_eq_true rfl⟩ rfl rfl (Nat.le_of_ble_eq_true rfl) dX11_usefulStates_1 (fun r1 => ?_)
  show am_V Z X kX11_usefulStates (fun r : Int32 => (some (.int r), R, I, L)) 4 [(0, .ref (am_B Z + a0))] [.int r1] R I L _
  exact am_iret dX11_usefulStates_4 rfl rfl
abbrev kX11_renumbered : am_K := (cX11_renumbered, 5, RX11, wsX11_renumbered, some .int, { frames := 1, cells := 0, slots := 0, locals := 22 })
theorem hX11_renumbered : am_cl yX11_renumbered kX11_renumbered 2 := ⟨⟨_, rfl⟩, rfl, rfl, by decide +kernel, by decide +kernel, by decide +kernel⟩
theorem iX11_renumbered_11 : ∀ w ∈ u_ws RX11 TX11 50, w ∈ wsX11_renumbered := by decide +kernel
theorem fX11_renumbered_23 : Cond.fieldLink RX11 23 "AmbiguityAnalyzerModel" "numberOf" "[I" ∈ wsX11_renumbered := by decide +kernel
set_option maxRecDepth 100000 in
set_option maxHeartbeats 4000000 in
theorem vX11_renumbered_5 {Z : am_Z} {X : am_X} (R : am_R) (I : am_I) (L : am_L) (a0 : Nat) (x1 : Int32) (x2 : Int32) (h1 : am_G Z a0 = some (.inl 11)) (ih4 : Int32 → Int32 → Option (Int32)) (hih4 : ∀ (v2 : Int32) (v3 : Int32), am_V Z X kX11_renumbered (fun r : Int32 => (some (.int r), R, I, L)) 5 [(0, .ref (am_B Z + a0)), (1, .int x1), (2, .int x2), (3, .int v2), (4, .int v3)] [] R I L (ih4 v2 v3)) (v2 : Int32) (v3 : Int32) : am_V Z X kX11_renumbered (fun r : Int32 => (some (.int r), R, I, L)) 5 [(0, .ref (am_B Z + a0)), (1, .int x1), (2, .int x2), (3, .int v2), (4, .int v3)] [] R I L (sX11_renumbered_5 R I a0 x1 x2 ih4 v2 v3) := by
  unfold sX11_renumbered_5
  refine am_iload dX11_renumbered_5 4 rfl ?_
  refine am_bipush (v := 6) dX11_renumbered_7 (by decide) ?_
  refine am_icmp_ge (tgt := 46) dX11_renumbered_9 rfl (fun e5 => ?_) (fun e5 => ?_)
  · refine am_iload_n dX11_renumbered_46 rfl 3 rfl ?_
    exact am_iret dX11_renumbered_47 rfl rfl
  · refine am_iload_n dX11_renumbered_12 rfl 3 rfl ?_
    refine am_iload_n dX11_renumbered_13 rfl 1 rfl ?_
    refine am_iload_n dX11_renumbered_14 rfl 2 rfl ?_
    refine am_iand dX11_renumbered_15 ?_
    refine am_i2l dX11_renumbered_16 ?_
    refine am_iload dX11_renumbered_17 4 rfl ?_
    refine am_callS [.long (Int32.toInt64 (x1 &&& x2)), .int v3] (tX11_has R I L (Int32.toInt64 (x1 &&& x2)) v3) gX11_renumbered_X11_has hX11_has ⟨Nat.le_of_ble_eq_true rfl, Nat.le_of_ble_eq_true rfl⟩ rfl rfl (Nat.le_of_ble_eq_true rfl) dX11_renumbered_19 (fun r6 => ?_)
    show am_V Z X kX11_renumbered (fun r : Int32 => (some (.int r), R, I, L)) 22 [(0, .ref (am_B Z + a0)), (1, .int x1), (2, .int x2), (3, .int v2), (4, .int v3)] [.int r6, .int v2] R I L _
    refine am_jnV (fun j7 ej7 => ?_)
    have hj7 : ∀ (v8 : Int32), am_V Z X kX11_renumbered (fun r : Int32 => (some (.int r), R, I, L)) 38 [(0, .ref (am_B Z + a0)), (1, .int x1), (2, .int x2), (4, .int v3)] [.int v8, .int v2] R I L (j7 v8) := by
      subst ej7
      intro v8
      show am_V Z X kX11_renumbered (fun r : Int32 => (some (.int r), R, I, L)) 38 [(0, .ref (am_B Z + a0)), (1, .int x1), (2, .int x2), (4, .int v3)] [.int v8, .int v2] R I L _
      refine am_ior dX11_renumbered_38 ?_
      refine am_letTi (fun v9 => ?_)
      refine am_istore_n (ls' := [(3, .int v9), (0, .ref (am_B Z + a0)), (1, .int x1), (2, .int x2), (4, .int v3)]) dX11_renumbered_39 rfl (Nat.le_of_ble_eq_true rfl) rfl ?_
      refine am_iinc (j := 4) (ls' := [(4, .int (v3 + (1 : Int32))), (3, .int v9), (0, .ref (am_B Z + a0)), (1, .int x1), (2, .int x2)]) dX11_renumbered_40 rfl rfl (Nat.le_of_ble_eq_true rfl) rfl ?_
      refine am_goto (tgt := 5) dX11_renumbered_43 rfl ?_
      refine am_sub (ls' := [(0, .ref (am_B Z + a0)), (1, .int x1), (2, .int x2), (3, .int v9), (4, .int (v3 + (1 : Int32)))]) [2, 3, 4, 1, 0] rfl ?_
      exact hih4 v9 (v3 + (1 : Int32))
    refine am_if_eq (tgt := 37) dX11_renumbered_22 rfl (fun e10 => ?_) (fun e10 => ?_)
    · refine am_iconst (v := 0) dX11_renumbered_37 (by decide) ?_
      refine am_sub (ls' := [(0, .ref (am_B Z + a0)), (1, .int x1), (2, .int x2), (4, .int v3)]) [0, 1, 2, 4] rfl ?_
      exact hj7 (0 : Int32)
    · refine am_iconst (v := 1) dX11_renumbered_25 (by decide) ?_
      refine am_aload_n dX11_renumbered_26 rfl 0 rfl ?_
      refine am_getR 11 7 clX11 (Nat.le_of_ble_eq_true rfl) h1 iX11_renumbered_11 fX11_renumbered_23 rfl rfl dX11_renumbered_27 (fun h11 => ?_)
      refine am_iload dX11_renumbered_30 4 rfl ?_
      refine am_iald h11 dX11_renumbered_32 ?_
      refine am_ishl dX11_renumbered_33 ?_
      refine am_goto (tgt := 38) dX11_renumbered_34 rfl ?_
      refine am_sub (ls' := [(0, .ref (am_B Z + a0)), (1, .int x1), (2, .int x2), (4, .int v3)]) [0, 1, 2, 4] rfl ?_
      exact hj7 ((1 : Int32) <<< ((I (R a0 7) (Int32.toNatClampNeg v3)) &&& 31))
theorem uX11_renumbered_5 {Z : am_Z} {X : am_X} (R : am_R) (I : am_I) (L : am_L) (a0 : Nat) (x1 : Int32) (x2 : Int32) (h1 : am_G Z a0 = some (.inl 11)) : ∀ (n : Nat) (v2 : Int32) (v3 : Int32), am_V Z X kX11_renumbered (fun r : Int32 => (some (.int r), R, I, L)) 5 [(0, .ref (am_B Z + a0)), (1, .int x1), (2, .int x2), (3, .int v2), (4, .int v3)] [] R I L (lX11_renumbered_5 R I a0 x1 x2 n v2 v3) := by
  intro n
  induction n with
  | zero => intro _ _; exact am_none
  | succ n ih => exact fun v2 v3 => vX11_renumbered_5 R I L a0 x1 x2 h1 (lX11_renumbered_5 R I a0 x1 x2 n) ih v2 v3
set_option maxRecDepth 100000 in
set_option maxHeartbeats 4000000 in
theorem tX11_renumbered {Z : am_Z} (R : am_R) (I : am_I) (L : am_L) (a0 : Nat) (x1 : Int32) (x2 : Int32) (h_a0 : am_G Z a0 = some (.inl 11)) : am_M Z yX11_renumbered kX11_renumbered [.ref (am_B Z + a0), .int x1, .int x2] R I L (pX11_renumbered R I a0 x1 x2) (fun r : Int32 => (some (.int r), R, I, L)) := by
  refine am_entry (ls := [(0, .ref (am_B Z + a0)), (1, .int x1), (2, .int x2)]) (by decide) hX11_renumbered rfl (Nat.le_of_ble_eq_true rfl) rfl (fun X => ?_)
  unfold pX11_renumbered
  refine am_iconst (v := 0) dX11_renumbered_0 (by decide) ?_
  refine am_istore_n (ls' := [(3, .int (0 : Int32)), (0, .ref (am_B Z + a0)), (1, .int x1), (2, .int x2)]) dX11_renumbered_1 rfl (Nat.le_of_ble_eq_true rfl) rfl ?_
  refine am_iconst (v := 0) dX11_renumbered_2 (by decide) ?_
  refine am_istore (ls' := [(4, .int (0 : Int32)), (3, .int (0 : Int32)), (0, .ref (am_B Z + a0)), (1, .int x1), (2, .int x2)]) dX11_renumbered_3 (Nat.le_of_ble_eq_true rfl) rfl ?_
  refine am_sub (ls' := [(0, .ref (am_B Z + a0)), (1, .int x1), (2, .int x2), (3, .int (0 : Int32)), (4, .int (0 : Int32))]) [2, 3, 4, 1, 0] rfl ?_
  exact uX11_renumbered_5 R I L a0 x1 x2 h_a0 am_fu (0 : Int32) (0 : Int32)
