abbrev kX10_useWord : am_K := (cX10_useWord, 3, RX10, wsX10_useWord, some .int, { frames := 4, cells := 0, slots := 0, locals := 86 })
theorem hX10_useWord : am_cl yX10_useWord kX10_useWord 1 := ⟨⟨_, rfl⟩, rfl, rfl, by decide +kernel, by decide +kernel, by decide +kernel⟩
theorem iX10_useWord_5 : ∀ w ∈ u_ws RX5 TX5 3, w ∈ wsX10_useWord := by decide +kernel
theorem fX10_useWord_281 : Cond.fieldLink RX10 281 "AmbiguityAnalyzer$Shelf" "content" "I" ∈ wsX10_useWord := by decide +kernel
theorem iX10_useWord_10 : ∀ w ∈ u_ws RX10 TX10 18, w ∈ wsX10_useWord := by decide +kernel
theorem fX10_useWord_36 : Cond.fieldLink RX10 36 "AmbiguityAnalyzer" "word" "LAmbiguityAnalyzer$Word;" ∈ wsX10_useWord := by decide +kernel
theorem iX10_useWord_8 : ∀ w ∈ u_ws RX8 TX8 2, w ∈ wsX10_useWord := by decide +kernel
theorem fX10_useWord_158 : Cond.fieldLink RX10 158 "AmbiguityAnalyzer$Word" "length" "I" ∈ wsX10_useWord := by decide +kernel
set_option maxRecDepth 100000 in
set_option maxHeartbeats 4000000 in
theorem tX10_useWord {Z : am_Z} (R : am_R) (I : am_I) (L : am_L) (a0 : Nat) (x1 : Int32) (h_a0 : am_G Z a0 = some (.inl 10)) : am_M Z yX10_useWord kX10_useWord [.ref (am_B Z + a0), .int x1] R I L (pX10_useWord R I L a0 x1) (fun r : Int32 × am_I => (some (.int r.1), R, r.2, L)) := by
  refine am_entry (ls := [(0, .ref (am_B Z + a0)), (1, .int x1)]) (by decide) hX10_useWord rfl (Nat.le_of_ble_eq_true rfl) rfl (fun X => ?_)
  unfold pX10_useWord
  refine am_aload_n dX10_useWord_0 rfl 0 rfl ?_
  refine am_iload_n dX10_useWord_1 rfl 1 rfl ?_
  refine am_callVh [.int x1] (tX10_shelfAt R I L a0 x1 h_a0) h_a0 clX10 gX10_useWord_X10_shelfAt hX10_shelfAt rfl ⟨Nat.le_of_ble_eq_true rfl, Nat.le_of_ble_eq_true rfl⟩ rfl rfl (Nat.le_of_ble_eq_true rfl) dX10_useWord_2 (fun r1 hT h3 => ?_)
  have h2 := am_shelfAt hT h_a0 h3
  show am_V Z X kX10_useWord (fun r : Int32 × am_I => (some (.int r.1), R, r.2, L)) 5 [(0, .ref (am_B Z + a0)), (1, .int x1)] [am_rv (am_B Z) r1] R I L _
  refine am_astore_nR (ls' := [(2, am_rv (am_B Z) r1), (0, .ref (am_B Z + a0)), (1, .int x1)]) dX10_useWord_5 rfl (Nat.le_of_ble_eq_true rfl) rfl ?_
  refine am_aload_nR dX10_useWord_6 rfl 0 rfl ?_
  refine am_ifnn (tgt := 12) dX10_useWord_7 rfl (fun e4 => ?_) (fun e4 => ?_)
  · refine am_iconst (v := -1) dX10_useWord_10 (by decide) ?_
    exact am_iret dX10_useWord_11 rfl rfl
  · refine am_aload_nR dX10_useWord_12 rfl 0 rfl ?_
    refine am_top (am_rv_pos e4) ?_
    refine am_get 5 0 clX5 (Nat.le_of_ble_eq_true rfl) (h2 e4) iX10_useWord_5 fX10_useWord_281 rfl dX10_useWord_13 ?_
    refine am_if_ne (tgt := 22) dX10_useWord_16 rfl (fun e5 => ?_) (fun e5 => ?_)
    · refine am_aload_nR dX10_useWord_22 rfl 0 rfl ?_
      refine am_top (am_rv_pos e4) ?_
      refine am_get 5 0 clX5 (Nat.le_of_ble_eq_true rfl) (h2 e4) iX10_useWord_5 fX10_useWord_281 rfl dX10_useWord_23 ?_
      refine am_iconst (v := 1) dX10_useWord_26 (by decide) ?_
      refine am_icmp_eq (tgt := 33) dX10_useWord_27 rfl (fun e6 => ?_) (fun e6 => ?_)
      · refine am_aload_nR dX10_useWord_33 rfl 0 rfl ?_
        refine am_top (am_rv_pos e4) ?_
        refine am_aload_n dX10_useWord_34 rfl 1 rfl ?_
        refine am_getR 10 6 clX10 (Nat.le_of_ble_eq_true rfl) h_a0 iX10_useWord_10 fX10_useWord_36 rfl rfl dX10_useWord_35 (fun h7 => ?_)
        refine am_callV [.ref (am_B Z + (R a0 6))] (tX5_copyWordTo R I L r1 (R a0 6) (h2 e4) h7) (h2 e4) clX5 gX10_useWord_X5_copyWordTo hX5_copyWordTo rfl ⟨Nat.le_of_ble_eq_true rfl, Nat.le_of_ble_eq_true rfl⟩ rfl rfl (Nat.le_of_ble_eq_true rfl) dX10_useWord_38 (fun r8 => ?_)
        show am_V Z X kX10_useWord (fun r : Int32 × am_I => (some (.int r.1), R, r.2, L)) 41 [(2, am_rv (am_B Z) r1), (0, .ref (am_B Z + a0)), (1, .int x1)] [] R r8 L _
        refine am_aload_n dX10_useWord_41 rfl 1 rfl ?_
        refine am_getR 10 6 clX10 (Nat.le_of_ble_eq_true rfl) h_a0 iX10_useWord_10 fX10_useWord_36 rfl rfl dX10_useWord_42 (fun h9 => ?_)
        refine am_get 8 0 clX8 (Nat.le_of_ble_eq_true rfl) h9 iX10_useWord_8 fX10_useWord_158 rfl dX10_useWord_45 ?_
        exact am_iret dX10_useWord_48 rfl rfl
      · refine am_bipush (v := -8) dX10_useWord_30 (by decide) ?_
        exact am_iret dX10_useWord_32 rfl rfl
    · refine am_bipush (v := -7) dX10_useWord_19 (by decide) ?_
      exact am_iret dX10_useWord_21 rfl rfl
abbrev kX10_shelfElement : am_K := (cX10_shelfElement, 4, RX10, wsX10_shelfElement, some .long, { frames := 2, cells := 0, slots := 0, locals := 42 })
theorem hX10_shelfElement : am_cl yX10_shelfElement kX10_shelfElement 2 := ⟨⟨_, rfl⟩, rfl, rfl, by decide +kernel, by decide +kernel, by decide +kernel⟩
theorem iX10_shelfElement_5 : ∀ w ∈ u_ws RX5 TX5 3, w ∈ wsX10_shelfElement := by decide +kernel
theorem fX10_shelfElement_281 : Cond.fieldLink RX10 281 "AmbiguityAnalyzer$Shelf" "content" "I" ∈ wsX10_shelfElement := by decide +kernel
set_option maxRecDepth 100000 in
set_option maxHeartbeats 4000000 in
theorem tX10_shelfElement {Z : am_Z} (R : am_R) (I : am_I) (L : am_L) (a0 : Nat) (x1 : Int32) (x2 : Int32) (h_a0 : am_G Z a0 = some (.inl 10)) : am_M Z yX10_shelfElement kX10_shelfElement [.ref (am_B Z + a0), .int x1, .int x2] R I L (pX10_shelfElement R I L a0 x1 x2) (fun r : Int64 => (some (.long r), R, I, L)) := by
  refine am_entry (ls := [(0, .ref (am_B Z + a0)), (1, .int x1), (2, .int x2)]) (by decide) hX10_shelfElement rfl (Nat.le_of_ble_eq_true rfl) rfl (fun X => ?_)
  unfold pX10_shelfElement
  refine am_aload_n dX10_shelfElement_0 rfl 0 rfl ?_
  refine am_iload_n dX10_shelfElement_1 rfl 1 rfl ?_
  refine am_callVh [.int x1] (tX10_shelfAt R I L a0 x1 h_a0) h_a0 clX10 gX10_shelfElement_X10_shelfAt hX10_shelfAt rfl ⟨Nat.le_of_ble_eq_true rfl, Nat.le_of_ble_eq_true rfl⟩ rfl rfl (Nat.le_of_ble_eq_true rfl) dX10_shelfElement_2 (fun r1 hT h3 => ?_)
  have h2 := am_shelfAt hT h_a0 h3
  show am_V Z X kX10_shelfElement (fun r : Int64 => (some (.long r), R, I, L)) 5 [(0, .ref (am_B Z + a0)), (1, .int x1), (2, .int x2)] [am_rv (am_B Z) r1] R I L _
  refine am_astore_nR (ls' := [(3, am_rv (am_B Z) r1), (0, .ref (am_B Z + a0)), (1, .int x1), (2, .int x2)]) dX10_shelfElement_5 rfl (Nat.le_of_ble_eq_true rfl) rfl ?_
  refine am_aload_nR dX10_shelfElement_6 rfl 0 rfl ?_
  refine am_ifnn (tgt := 14) dX10_shelfElement_7 rfl (fun e4 => ?_) (fun e4 => ?_)
  · refine am_ldc2 (v := -1) dX10_shelfElement_10 (by decide +kernel) ?_
    exact am_lret dX10_shelfElement_13 rfl rfl
  · refine am_aload_nR dX10_shelfElement_14 rfl 0 rfl ?_
    refine am_top (am_rv_pos e4) ?_
    refine am_get 5 0 clX5 (Nat.le_of_ble_eq_true rfl) (h2 e4) iX10_shelfElement_5 fX10_shelfElement_281 rfl dX10_shelfElement_15 ?_
    refine am_if_ne (tgt := 25) dX10_shelfElement_18 rfl (fun e5 => ?_) (fun e5 => ?_)
    · refine am_aload_nR dX10_shelfElement_25 rfl 0 rfl ?_
      refine am_top (am_rv_pos e4) ?_
      refine am_iload_n dX10_shelfElement_26 rfl 3 rfl ?_
      refine am_callV [.int x2] (tX5_hasPosition R I L r1 x2 (h2 e4)) (h2 e4) clX5 gX10_shelfElement_X5_hasPosition hX5_hasPosition rfl ⟨Nat.le_of_ble_eq_true rfl, Nat.le_of_ble_eq_true rfl⟩ rfl rfl (Nat.le_of_ble_eq_true rfl) dX10_shelfElement_27 (fun r6 => ?_)
      show am_V Z X kX10_shelfElement (fun r : Int64 => (some (.long r), R, I, L)) 30 [(3, am_rv (am_B Z) r1), (0, .ref (am_B Z + a0)), (1, .int x1), (2, .int x2)] [.int r6] R I L _
      refine am_if_eq (tgt := 41) dX10_shelfElement_30 rfl (fun e7 => ?_) (fun e7 => ?_)
      · refine am_ldc2 (v := -1) dX10_shelfElement_41 (by decide +kernel) ?_
        exact am_lret dX10_shelfElement_44 rfl rfl
      · refine am_aload_nR dX10_shelfElement_33 rfl 0 rfl ?_
        refine am_top (am_rv_pos e4) ?_
        refine am_iload_n dX10_shelfElement_34 rfl 3 rfl ?_
        refine am_callV [.int x2] (tX5_elementAt R I L r1 x2 (h2 e4)) (h2 e4) clX5 gX10_shelfElement_X5_elementAt hX5_elementAt rfl ⟨Nat.le_of_ble_eq_true rfl, Nat.le_of_ble_eq_true rfl⟩ rfl rfl (Nat.le_of_ble_eq_true rfl) dX10_shelfElement_35 (fun r8 => ?_)
        show am_V Z X kX10_shelfElement (fun r : Int64 => (some (.long r), R, I, L)) 38 [(3, am_rv (am_B Z) r1), (0, .ref (am_B Z + a0)), (1, .int x1), (2, .int x2)] [.long r8] R I L _
        refine am_goto (tgt := 44) dX10_shelfElement_38 rfl ?_
        exact am_lret dX10_shelfElement_44 rfl rfl
    · refine am_ldc2 (v := -7) dX10_shelfElement_21 (by decide +kernel) ?_
      exact am_lret dX10_shelfElement_24 rfl rfl
abbrev kX10_copyWeights : am_K := (cX10_copyWeights, 3, RX10, wsX10_copyWeights, none, { frames := 0, cells := 0, slots := 0, locals := 0 })
theorem hX10_copyWeights : am_cl yX10_copyWeights kX10_copyWeights 2 := ⟨⟨_, rfl⟩, rfl, rfl, by decide +kernel, by decide +kernel, by decide +kernel⟩
set_option maxRecDepth 100000 in
set_option maxHeartbeats 4000000 in
theorem vX10_copyWeights_2 {Z : am_Z} {X : am_X} (R : am_R) (L : am_L) (a0 : Nat) (a1 : Nat) (h1 : am_G Z a0 = some (.inr (0, 3))) (h2 : am_G Z a1 = some (.inr (0, 3))) (ih5 : Int32 → am_I → Option (am_I)) (hih5 : ∀ (v3 : Int32) (J4 : am_I), am_V Z X kX10_copyWeights (fun r : am_I => (none, R, r, L)) 2 [(0, .ref (am_B Z + a0)), (1, .ref (am_B Z + a1)), (2, .int v3)] [] R J4 L (ih5 v3 J4)) (v3 : Int32) (J4 : am_I) : am_V Z X kX10_copyWeights (fun r : am_I => (none, R, r, L)) 2 [(0, .ref (am_B Z + a0)), (1, .ref (am_B Z + a1)), (2, .int v3)] [] R J4 L (sX10_copyWeights_2 a0 a1 ih5 v3 J4) := by
  unfold sX10_copyWeights_2
  refine am_iload_n dX10_copyWeights_2 rfl 2 rfl ?_
  refine am_iconst (v := 3) dX10_copyWeights_3 (by decide) ?_
  refine am_icmp_ge (tgt := 19) dX10_copyWeights_4 rfl (fun e6 => ?_) (fun e6 => ?_)
  · exact am_vret dX10_copyWeights_19 rfl rfl
  · refine am_aload_n dX10_copyWeights_7 rfl 1 rfl ?_
    refine am_iload_n dX10_copyWeights_8 rfl 2 rfl ?_
    refine am_aload_n dX10_copyWeights_9 rfl 0 rfl ?_
    refine am_iload_n dX10_copyWeights_10 rfl 2 rfl ?_
    refine am_iald h1 dX10_copyWeights_11 ?_
    refine am_iast h2 dX10_copyWeights_12 ?_
    refine am_letI (fun J7 => ?_)
    refine am_iinc (j := 2) (ls' := [(2, .int (v3 + (1 : Int32))), (0, .ref (am_B Z + a0)), (1, .ref (am_B Z + a1))]) dX10_copyWeights_13 rfl rfl (Nat.le_of_ble_eq_true rfl) rfl ?_
    refine am_goto (tgt := 2) dX10_copyWeights_16 rfl ?_
    refine am_sub (ls' := [(0, .ref (am_B Z + a0)), (1, .ref (am_B Z + a1)), (2, .int (v3 + (1 : Int32)))]) [1, 2, 0] rfl ?_
    exact hih5 (v3 + (1 : Int32)) J7
theorem uX10_copyWeights_2 {Z : am_Z} {X : am_X} (R : am_R) (L : am_L) (a0 : Nat) (a1 : Nat) (h1 : am_G Z a0 = some (.inr (0, 3))) (h2 : am_G Z a1 = some (.inr (0, 3))) : ∀ (n : Nat) (v3 : Int32) (J4 : am_I), am_V Z X kX10_copyWeights (fun r : am_I => (none, R, r, L)) 2 [(0, .ref (am_B Z + a0)), (1, .ref (am_B Z + a1)), (2, .int v3)] [] R J4 L (lX10_copyWeights_2 a0 a1 n v3 J4) := by
  intro n
  induction n with
  | zero => intro _ _; exact am_none
  | succ n ih => exact fun v3 J4 => vX10_copyWeights_2 R L a0 a1 h1 h2 (lX10_copyWeights_2 a0 a1 n) ih v3 J4
set_option maxRecDepth 100000 in
set_option maxHeartbeats 4000000 in
theorem tX10_copyWeights {Z : am_Z} (R : am_R) (I : am_I) (L : am_L) (a0 : Nat) (a1 : Nat) (h_a0 : am_G Z a0 = some (.inr (0, 3))) (h_a1 : am_G Z a1 = some (.inr (0, 3))) : am_M Z yX10_copyWeights kX10_copyWeights [.ref (am_B Z + a0), .ref (am_B Z + a1)] R I L (pX10_copyWeights I a0 a1) (fun r : am_I => (none, R, r, L)) := by
  refine am_entry (ls := [(0, .ref (am_B Z + a0)), (1, .ref (am_B Z + a1))]) (by decide) hX10_copyWeights rfl (Nat.le_of_ble_eq_true rfl) rfl (fun X => ?_)
  unfold pX10_copyWeights
  refine am_iconst (v := 0) dX10_copyWeights_0 (by decide) ?_
  refine am_istore_n (ls' := [(2, .int (0 : Int32)), (0, .ref (am_B Z + a0)), (1, .ref (am_B Z + a1))]) dX10_copyWeights_1 rfl (Nat.le_of_ble_eq_true rfl) rfl ?_
  refine am_sub (ls' := [(0, .ref (am_B Z + a0)), (1, .ref (am_B Z + a1)), (2, .int (0 : Int32))]) [1, 2, 0] rfl ?_
  exact uX10_copyWeights_2 R L a0 a1 h_a0 h_a1 am_fu (0 : Int32) I
abbrev kX10_save : am_K := (cX10_save, 1, RX10, wsX10_save, some .int, { frames := 1, cells := 0, slots := 0, locals := 22 })
theorem hX10_save : am_cl yX10_save kX10_save 0 := ⟨⟨_, rfl⟩, rfl, rfl, by decide +kernel, by decide +kernel, by decide +kernel⟩
theorem iX10_save_10 : ∀ w ∈ u_ws RX10 TX10 18, w ∈ wsX10_save := by decide +kernel
theorem fX10_save_16 : Cond.fieldLink RX10 16 "AmbiguityAnalyzer" "savedAutomaton" "LAmbiguityAnalyzer$Automaton;" ∈ wsX10_save := by decide +kernel
theorem fX10_save_12 : Cond.fieldLink RX10 12 "AmbiguityAnalyzer" "automaton" "LAmbiguityAnalyzer$Automaton;" ∈ wsX10_save := by decide +kernel
theorem fX10_save_19 : Cond.fieldLink RX10 19 "AmbiguityAnalyzer" "weights" "[I" ∈ wsX10_save := by decide +kernel
theorem fX10_save_23 : Cond.fieldLink RX10 23 "AmbiguityAnalyzer" "savedWeights" "[I" ∈ wsX10_save := by decide +kernel
theorem fX10_save_302 : Cond.fieldLink RX10 302 "AmbiguityAnalyzer" "somethingSaved" "Z" ∈ wsX10_save := by decide +kernel
theorem iX10_save_0 : ∀ w ∈ u_ws RX0 TX0 4, w ∈ wsX10_save := by decide +kernel
theorem fX10_save_92 : Cond.fieldLink RX10 92 "AmbiguityAnalyzer$Automaton" "states" "I" ∈ wsX10_save := by decide +kernel
set_option maxRecDepth 100000 in
set_option maxHeartbeats 4000000 in
theorem tX10_save {Z : am_Z} (R : am_R) (I : am_I) (L : am_L) (a0 : Nat) (h_a0 : am_G Z a0 = some (.inl 10)) : am_M Z yX10_save kX10_save [.ref (am_B Z + a0)] R I L (pX10_save R I a0) (fun r : Int32 × am_I => (some (.int r.1), R, r.2, L)) := by
  refine am_entry (ls := [(0, .ref (am_B Z + a0))]) (by decide) hX10_save rfl (Nat.le_of_ble_eq_true rfl) rfl (fun X => ?_)
  unfold pX10_save
  refine am_aload_n dX10_save_0 rfl 0 rfl ?_
  refine am_getR 10 1 clX10 (Nat.le_of_ble_eq_true rfl) h_a0 iX10_save_10 fX10_save_16 rfl rfl dX10_save_1 (fun h1 => ?_)
  refine am_aload_n dX10_save_4 rfl 0 rfl ?_
  refine am_getR 10 0 clX10 (Nat.le_of_ble_eq_true rfl) h_a0 iX10_save_10 fX10_save_12 rfl rfl dX10_save_5 (fun h2 => ?_)
  refine am_callV [.ref (am_B Z + (R a0 0))] (tX0_copyFrom R I L (R a0 1) (R a0 0) h1 h2) h1 clX0 gX10_save_X0_copyFrom hX0_copyFrom rfl ⟨Nat.le_of_ble_eq_true rfl, Nat.le_of_ble_eq_true rfl⟩ rfl rfl (Nat.le_of_ble_eq_true rfl) dX10_save_8 (fun r3 => ?_)
  show am_V Z X kX10_save (fun r : Int32 × am_I => (some (.int r.1), R, r.2, L)) 11 [(0, .ref (am_B Z + a0))] [] R r3 L _
  refine am_aload_n dX10_save_11 rfl 0 rfl ?_
  refine am_getR 10 2 clX10 (Nat.le_of_ble_eq_true rfl) h_a0 iX10_save_10 fX10_save_19 rfl rfl dX10_save_12 (fun h4 => ?_)
  refine am_aload_n dX10_save_15 rfl 0 rfl ?_
  refine am_getR 10 3 clX10 (Nat.le_of_ble_eq_true rfl) h_a0 iX10_save_10 fX10_save_23 rfl rfl dX10_save_16 (fun h5 => ?_)
  refine am_callS [.ref (am_B Z + (R a0 2)), .ref (am_B Z + (R a0 3))] (tX10_copyWeights R r3 L (R a0 2) (R a0 3) h4 h5) gX10_save_X10_copyWeights hX10_copyWeights ⟨Nat.le_of_ble_eq_true rfl, Nat.le_of_ble_eq_true rfl⟩ rfl rfl (Nat.le_of_ble_eq_true rfl) dX10_save_19 (fun r6 => ?_)
  show am_V Z X kX10_save (fun r : Int32 × am_I => (some (.int r.1), R, r.2, L)) 22 [(0, .ref (am_B Z + a0))] [] R r6 L _
  refine am_aload_n dX10_save_22 rfl 0 rfl ?_
  refine am_iconst (v := 1) dX10_save_23 (by decide) ?_
  refine am_putZ 10 4 clX10 (Nat.le_of_ble_eq_true rfl) h_a0 iX10_save_10 fX10_save_302 rfl rfl (by decide) dX10_save_24 ?_
  refine am_letI (fun J7 => ?_)
  refine am_aload_n dX10_save_27 rfl 0 rfl ?_
  refine am_getR 10 0 clX10 (Nat.le_of_ble_eq_true rfl) h_a0 iX10_save_10 fX10_save_12 rfl rfl dX10_save_28 (fun h8 => ?_)
  refine am_get 0 0 clX0 (Nat.le_of_ble_eq_true rfl) h8 iX10_save_0 fX10_save_92 rfl dX10_save_31 ?_
  exact am_iret dX10_save_34 rfl rfl
abbrev kX10_restore : am_K := (cX10_restore, 1, RX10, wsX10_restore, some .int, { frames := 1, cells := 0, slots := 0, locals := 22 })
theorem hX10_restore : am_cl yX10_restore kX10_restore 0 := ⟨⟨_, rfl⟩, rfl, rfl, by decide +kernel, by decide +kernel, by decide +kernel⟩
theorem iX10_restore_10 : ∀ w ∈ u_ws RX10 TX10 18, w ∈ wsX10_restore := by decide +kernel
theorem fX10_restore_302 : Cond.fieldLink RX10 302 "AmbiguityAnalyzer" "somethingSaved" "Z" ∈ wsX10_restore := by decide +kernel
theorem fX10_restore_12 : Cond.fieldLink RX10 12 "AmbiguityAnalyzer" "automaton" "LAmbiguityAnalyzer$Automaton;" ∈ wsX10_restore := by decide +kernel
theorem fX10_restore_16 : Cond.fieldLink RX10 16 "AmbiguityAnalyzer" "savedAutomaton" "LAmbiguityAnalyzer$Automaton;" ∈ wsX10_restore := by decide +kernel
theorem fX10_restore_23 : Cond.fieldLink RX10 23 "AmbiguityAnalyzer" "savedWeights" "[I" ∈ wsX10_restore := by decide +kernel
theorem fX10_restore_19 : Cond.fieldLink RX10 19 "AmbiguityAnalyzer" "weights" "[I" ∈ wsX10_restore := by decide +kernel
theorem iX10_restore_0 : ∀ w ∈ u_ws RX0 TX0 4, w ∈ wsX10_restore := by decide +kernel
theorem fX10_restore_92 : Cond.fieldLink RX10 92 "AmbiguityAnalyzer$Automaton" "states" "I" ∈ wsX10_restore := by decide +kernel
set_option maxRecDepth 100000 in
set_option maxHeartbeats 4000000 in
theorem tX10_restore {Z : am_Z} (R : am_R) (I : am_I) (L : am_L) (a0 : Nat) (h_a0 : am_G Z a0 = some (.inl 10)) : am_M Z yX10_restore kX10_restore [.ref (am_B Z + a0)] R I L (pX10_restore R I a0) (fun r : Int32 × am_I => (some (.int r.1), R, r.2, L)) := by
  refine am_entry (ls := [(0, .ref (am_B Z + a0))]) (by decide) hX10_restore rfl (Nat.le_of_ble_eq_true rfl) rfl (fun X => ?_)
  unfold pX10_restore
  refine am_aload_n dX10_restore_0 rfl 0 rfl ?_
  refine am_get 10 4 clX10 (Nat.le_of_ble_eq_true rfl) h_a0 iX10_restore_10 fX10_restore_302 rfl dX10_restore_1 ?_
  refine am_if_ne (tgt := 10) dX10_restore_4 rfl (fun e1 => ?_) (fun e1 => ?_)
  · refine am_aload_n dX10_restore_10 rfl 0 rfl ?_
    refine am_getR 10 0 clX10 (Nat.le_of_ble_eq_true rfl) h_a0 iX10_restore_10 fX10_restore_12 rfl rfl dX10_restore_11 (fun h2 => ?_)
    refine am_aload_n dX10_restore_14 rfl 0 rfl ?_
    refine am_getR 10 1 clX10 (Nat.le_of_ble_eq_true rfl) h_a0 iX10_restore_10 fX10_restore_16 rfl rfl dX10_restore_15 (fun h3 => ?_)
    refine am_callV [.ref (am_B Z + (R a0 1))] (tX0_copyFrom R I L (R a0 0) (R a0 1) h2 h3) h2 clX0 gX10_restore_X0_copyFrom hX0_copyFrom rfl ⟨Nat.le_of_ble_eq_true rfl, Nat.le_of_ble_eq_true rfl⟩ rfl rfl (Nat.le_of_ble_eq_true rfl) dX10_restore_18 (fun r4 => ?_)
    show am_V Z X kX10_restore (fun r : Int32 × am_I => (some (.int r.1), R, r.2, L)) 21 [(0, .ref (am_B Z + a0))] [] R r4 L _
    refine am_aload_n dX10_restore_21 rfl 0 rfl ?_
    refine am_getR 10 3 clX10 (Nat.le_of_ble_eq_true rfl) h_a0 iX10_restore_10 fX10_restore_23 rfl rfl dX10_restore_22 (fun h5 => ?_)
    refine am_aload_n dX10_restore_25 rfl 0 rfl ?_
    refine am_getR 10 2 clX10 (Nat.le_of_ble_eq_true rfl) h_a0 iX10_restore_10 fX10_restore_19 rfl rfl dX10_restore_26 (fun h6 => ?_)
    refine am_callS [.ref (am_B Z + (R a0 3)), .ref (am_B Z + (R a0 2))] (tX10_copyWeights R r4 L (R a0 3) (R a0 2) h5 h6) gX10_restore_X10_copyWeights hX10_copyWeights ⟨Nat.le_of_ble_eq_true rfl, Nat.le_of_ble_eq_true rfl⟩ rfl rfl (Nat.le_of_ble_eq_true rfl) dX10_restore_29 (fun r7 => ?_)
    show am_V Z X kX10_restore (fun r : Int32 × am_I => (some (.int r.1), R, r.2, L)) 32 [(0, .ref (am_B Z + a0))] [] R r7 L _
    refine am_aload_n dX10_restore_32 rfl 0 rfl ?_
    refine am_getR 10 0 clX10 (Nat.le_of_ble_eq_true rfl) h_a0 iX10_restore_10 fX10_restore_12 rfl rfl dX10_restore_33 (fun h8 => ?_)
    refine am_get 0 0 clX0 (Nat.le_of_ble_eq_true rfl) h8 iX10_restore_0 fX10_restore_92 rfl dX10_restore_36 ?_
    exact am_iret dX10_restore_39 rfl rfl
  · refine am_bipush (v := -4) dX10_restore_7 (by decide) ?_
    exact am_iret dX10_restore_9 rfl rfl
abbrev kJxe99ae_isNaN_b9ae7 : am_K := (cJxe99ae_isNaN_b9ae7, 2, RJxe99ae, wsJxe99ae_isNaN_b9ae7, some .boolean, { frames := 0, cells := 0, slots := 0, locals := 0 })
theorem hJxe99ae_isNaN_b9ae7 : am_cl yJxe99ae_isNaN_b9ae7 kJxe99ae_isNaN_b9ae7 1 := ⟨⟨_, rfl⟩, rfl, rfl, by decide +kernel, by decide +kernel, by decide +kernel⟩
set_option maxRecDepth 100000 in
set_option maxHeartbeats 4000000 in
theorem tJxe99ae_isNaN_b9ae7 {Z : am_Z} (R : am_R) (I : am_I) (L : am_L) (x0 : UInt64)  : am_M Z yJxe99ae_isNaN_b9ae7 kJxe99ae_isNaN_b9ae7 [.double x0] R I L (pJxe99ae_isNaN_b9ae7 x0) (fun r : Int32 => (some (.int r), R, I, L)) := by
  refine am_entry (ls := [(0, .double x0)]) (by decide) hJxe99ae_isNaN_b9ae7 rfl (Nat.le_of_ble_eq_true rfl) rfl (fun X => ?_)
  unfold pJxe99ae_isNaN_b9ae7
  refine am_dload_n dJxe99ae_isNaN_b9ae7_0 rfl 0 rfl ?_
  refine am_dload_n dJxe99ae_isNaN_b9ae7_1 rfl 0 rfl ?_
  refine am_dcmp dJxe99ae_isNaN_b9ae7_2 ?_
  refine am_if_eq (tgt := 10) dJxe99ae_isNaN_b9ae7_3 rfl (fun e1 => ?_) (fun e1 => ?_)
  · refine am_iconst (v := 0) dJxe99ae_isNaN_b9ae7_10 (by decide) ?_
    exact am_zret (by decide) dJxe99ae_isNaN_b9ae7_11 rfl rfl
  · refine am_iconst (v := 1) dJxe99ae_isNaN_b9ae7_6 (by decide) ?_
    refine am_goto (tgt := 11) dJxe99ae_isNaN_b9ae7_7 rfl ?_
    exact am_zret (by decide) dJxe99ae_isNaN_b9ae7_11 rfl rfl
abbrev kJxe99ae_doubleToLongBits_ccdee : am_K := (cJxe99ae_doubleToLongBits_ccdee, 2, RJxe99ae, wsJxe99ae_doubleToLongBits_ccdee, some .long, { frames := 1, cells := 0, slots := 0, locals := 23 })
theorem hJxe99ae_doubleToLongBits_ccdee : am_cl yJxe99ae_doubleToLongBits_ccdee kJxe99ae_doubleToLongBits_ccdee 1 := ⟨⟨_, rfl⟩, rfl, rfl, by decide +kernel, by decide +kernel, by decide +kernel⟩
set_option maxRecDepth 100000 in
set_option maxHeartbeats 4000000 in
theorem tJxe99ae_doubleToLongBits_ccdee {Z : am_Z} (R : am_R) (I : am_I) (L : am_L) (x0 : UInt64)  : am_M Z yJxe99ae_doubleToLongBits_ccdee kJxe99ae_doubleToLongBits_ccdee [.double x0] R I L (pJxe99ae_doubleToLongBits_ccdee x0) (fun r : Int64 => (some (.long r), R, I, L)) := by
  refine am_entry (ls := [(0, .double x0)]) (by decide) hJxe99ae_doubleToLongBits_ccdee rfl (Nat.le_of_ble_eq_true rfl) rfl (fun X => ?_)
  unfold pJxe99ae_doubleToLongBits_ccdee
  refine am_dload_n dJxe99ae_doubleToLongBits_ccdee_0 rfl 0 rfl ?_
  refine am_callS [.double x0] (tJxe99ae_isNaN_b9ae7 R I L x0) gJxe99ae_doubleToLongBits_ccdee_Jxe99ae_isNaN_b9ae7 hJxe99ae_isNaN_b9ae7 ⟨Nat.le_of_ble_eq_true rfl, Nat.le_of_ble_eq_true rfl⟩ rfl rfl (Nat.le_of_ble_eq_true rfl) dJxe99ae_doubleToLongBits_ccdee_1 (fun r1 => ?_)
  show am_V Z X kJxe99ae_doubleToLongBits_ccdee (fun r : Int64 => (some (.long r), R, I, L)) 4 [(0, .double x0)] [.int r1] R I L _
  refine am_if_ne (tgt := 12) dJxe99ae_doubleToLongBits_ccdee_4 rfl (fun e2 => ?_) (fun e2 => ?_)
  · refine am_ldc2 (v := 9221120237041090560) dJxe99ae_doubleToLongBits_ccdee_12 (by decide +kernel) ?_
    exact am_lret dJxe99ae_doubleToLongBits_ccdee_15 rfl rfl
  · refine am_dload_n dJxe99ae_doubleToLongBits_ccdee_7 rfl 0 rfl ?_
    refine am_d2rl (by decide +kernel) (by decide +kernel) (by decide +kernel) (by decide +kernel) (Nat.le_of_ble_eq_true rfl) (Nat.le_of_ble_eq_true rfl) dJxe99ae_doubleToLongBits_ccdee_8 ?_
    exact am_lret dJxe99ae_doubleToLongBits_ccdee_11 rfl rfl
