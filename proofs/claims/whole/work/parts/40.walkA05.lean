abbrev kX7_errorPosition : am_K := (cX7_errorPosition, 4, RX7, wsX7_errorPosition, some .int, { frames := 2, cells := 0, slots := 0, locals := 43 })
theorem hX7_errorPosition : am_cl yX7_errorPosition kX7_errorPosition 1 := ⟨⟨_, rfl⟩, rfl, rfl, by decide +kernel, by decide +kernel, by decide +kernel⟩
theorem iX7_errorPosition_7 : ∀ w ∈ u_ws RX7 TX7 2, w ∈ wsX7_errorPosition := by decide +kernel
theorem fX7_errorPosition_15 : Cond.fieldLink RX7 15 "AmbiguityAnalyzer$Text" "length" "I" ∈ wsX7_errorPosition := by decide +kernel
set_option maxRecDepth 100000 in
set_option maxHeartbeats 4000000 in
theorem vX7_errorPosition_4 {Z : am_Z} {X : am_X} (R : am_R) (I : am_I) (L : am_L) (a0 : Nat) (x1 : Int32) (h4 : am_G Z a0 = some (.inl 7)) (j1 : Int32 → Option (Int32)) (hj1 : ∀ (v2 : Int32), am_V Z X kX7_errorPosition (fun r : Int32 => (some (.int r), R, I, L)) 36 [(0, .ref (am_B Z + a0)), (2, .int v2)] [] R I L (j1 v2)) (ih7 : Int32 → Int32 → Option (Int32)) (hih7 : ∀ (v5 : Int32) (v6 : Int32), am_V Z X kX7_errorPosition (fun r : Int32 => (some (.int r), R, I, L)) 4 [(0, .ref (am_B Z + a0)), (1, .int x1), (2, .int v5), (3, .int v6)] [] R I L (ih7 v5 v6)) (v5 : Int32) (v6 : Int32) : am_V Z X kX7_errorPosition (fun r : Int32 => (some (.int r), R, I, L)) 4 [(0, .ref (am_B Z + a0)), (1, .int x1), (2, .int v5), (3, .int v6)] [] R I L (sX7_errorPosition_4 R I a0 x1 j1 ih7 v5 v6) := by
  unfold sX7_errorPosition_4
  refine am_iload_n dX7_errorPosition_4 rfl 3 rfl ?_
  refine am_aload_n dX7_errorPosition_5 rfl 0 rfl ?_
  refine am_get 7 0 clX7 (Nat.le_of_ble_eq_true rfl) h4 iX7_errorPosition_7 fX7_errorPosition_15 rfl dX7_errorPosition_6 ?_
  refine am_icmp_ge (tgt := 36) dX7_errorPosition_9 rfl (fun e8 => ?_) (fun e8 => ?_)
  · refine am_sub (ls' := [(0, .ref (am_B Z + a0)), (2, .int v5)]) [0, 2] rfl ?_
    exact hj1 v5
  · refine am_iload_n dX7_errorPosition_12 rfl 2 rfl ?_
    refine am_aload_n dX7_errorPosition_13 rfl 0 rfl ?_
    refine am_iload_n dX7_errorPosition_14 rfl 3 rfl ?_
    refine am_callV [.int v6] (tX7_characterAt R I L a0 v6 h4) h4 clX7 gX7_errorPosition_X7_characterAt hX7_characterAt rfl ⟨Nat.le_of_ble_eq_true rfl, Nat.le_of_ble_eq_true rfl⟩ rfl rfl (Nat.le_of_ble_eq_true rfl) dX7_errorPosition_15 (fun r9 => ?_)
    show am_V Z X kX7_errorPosition (fun r : Int32 => (some (.int r), R, I, L)) 18 [(0, .ref (am_B Z + a0)), (1, .int x1), (2, .int v5), (3, .int v6)] [.int r9, .int v5] R I L _
    refine am_iload_n dX7_errorPosition_18 rfl 1 rfl ?_
    refine am_callS [.int v5, .int r9, .int x1] (tX7_nextMode R I L v5 r9 x1) gX7_errorPosition_X7_nextMode hX7_nextMode ⟨Nat.le_of_ble_eq_true rfl, Nat.le_of_ble_eq_true rfl⟩ rfl rfl (Nat.le_of_ble_eq_true rfl) dX7_errorPosition_19 (fun r10 => ?_)
    show am_V Z X kX7_errorPosition (fun r : Int32 => (some (.int r), R, I, L)) 22 [(0, .ref (am_B Z + a0)), (1, .int x1), (2, .int v5), (3, .int v6)] [.int r10] R I L _
    refine am_istore_n (ls' := [(2, .int r10), (0, .ref (am_B Z + a0)), (1, .int x1), (3, .int v6)]) dX7_errorPosition_22 rfl (Nat.le_of_ble_eq_true rfl) rfl ?_
    refine am_iload_n dX7_errorPosition_23 rfl 0 rfl ?_
    refine am_iconst (v := -1) dX7_errorPosition_24 (by decide) ?_
    refine am_icmp_ne (tgt := 30) dX7_errorPosition_25 rfl (fun e11 => ?_) (fun e11 => ?_)
    · refine am_iinc (j := 3) (ls' := [(3, .int (v6 + (1 : Int32))), (2, .int r10), (0, .ref (am_B Z + a0)), (1, .int x1)]) dX7_errorPosition_30 rfl rfl (Nat.le_of_ble_eq_true rfl) rfl ?_
      refine am_goto (tgt := 4) dX7_errorPosition_33 rfl ?_
      refine am_sub (ls' := [(0, .ref (am_B Z + a0)), (1, .int x1), (2, .int r10), (3, .int (v6 + (1 : Int32)))]) [2, 3, 1, 0] rfl ?_
      exact hih7 r10 (v6 + (1 : Int32))
    · refine am_iload_n dX7_errorPosition_28 rfl 3 rfl ?_
      exact am_iret dX7_errorPosition_29 rfl rfl
theorem uX7_errorPosition_4 {Z : am_Z} {X : am_X} (R : am_R) (I : am_I) (L : am_L) (a0 : Nat) (x1 : Int32) (h4 : am_G Z a0 = some (.inl 7)) (j1 : Int32 → Option (Int32)) (hj1 : ∀ (v2 : Int32), am_V Z X kX7_errorPosition (fun r : Int32 => (some (.int r), R, I, L)) 36 [(0, .ref (am_B Z + a0)), (2, .int v2)] [] R I L (j1 v2)) : ∀ (n : Nat) (v5 : Int32) (v6 : Int32), am_V Z X kX7_errorPosition (fun r : Int32 => (some (.int r), R, I, L)) 4 [(0, .ref (am_B Z + a0)), (1, .int x1), (2, .int v5), (3, .int v6)] [] R I L (lX7_errorPosition_4 R I a0 x1 j1 n v5 v6) := by
  intro n
  induction n with
  | zero => intro _ _; exact am_none
  | succ n ih => exact fun v5 v6 => vX7_errorPosition_4 R I L a0 x1 h4 j1 hj1 (lX7_errorPosition_4 R I a0 x1 j1 n) ih v5 v6
set_option maxRecDepth 100000 in
set_option maxHeartbeats 4000000 in
theorem tX7_errorPosition {Z : am_Z} (R : am_R) (I : am_I) (L : am_L) (a0 : Nat) (x1 : Int32) (h_a0 : am_G Z a0 = some (.inl 7)) : am_M Z yX7_errorPosition kX7_errorPosition [.ref (am_B Z + a0), .int x1] R I L (pX7_errorPosition R I a0 x1) (fun r : Int32 => (some (.int r), R, I, L)) := by
  refine am_entry (ls := [(0, .ref (am_B Z + a0)), (1, .int x1)]) (by decide) hX7_errorPosition rfl (Nat.le_of_ble_eq_true rfl) rfl (fun X => ?_)
  unfold pX7_errorPosition
  refine am_iconst (v := 0) dX7_errorPosition_0 (by decide) ?_
  refine am_istore_n (ls' := [(2, .int (0 : Int32)), (0, .ref (am_B Z + a0)), (1, .int x1)]) dX7_errorPosition_1 rfl (Nat.le_of_ble_eq_true rfl) rfl ?_
  refine am_iconst (v := 0) dX7_errorPosition_2 (by decide) ?_
  refine am_istore_n (ls' := [(3, .int (0 : Int32)), (2, .int (0 : Int32)), (0, .ref (am_B Z + a0)), (1, .int x1)]) dX7_errorPosition_3 rfl (Nat.le_of_ble_eq_true rfl) rfl ?_
  refine am_jnV (fun j1 ej1 => ?_)
  have hj1 : ∀ (v2 : Int32), am_V Z X kX7_errorPosition (fun r : Int32 => (some (.int r), R, I, L)) 36 [(0, .ref (am_B Z + a0)), (2, .int v2)] [] R I L (j1 v2) := by
    subst ej1
    intro v2
    show am_V Z X kX7_errorPosition (fun r : Int32 => (some (.int r), R, I, L)) 36 [(0, .ref (am_B Z + a0)), (2, .int v2)] [] R I L _
    refine am_iload_n dX7_errorPosition_36 rfl 1 rfl ?_
    refine am_iconst (v := 4) dX7_errorPosition_37 (by decide) ?_
    refine am_icmp_ne (tgt := 45) dX7_errorPosition_38 rfl (fun e3 => ?_) (fun e3 => ?_)
    · refine am_aload_n dX7_errorPosition_45 rfl 0 rfl ?_
      refine am_get 7 0 clX7 (Nat.le_of_ble_eq_true rfl) h_a0 iX7_errorPosition_7 fX7_errorPosition_15 rfl dX7_errorPosition_46 ?_
      exact am_iret dX7_errorPosition_49 rfl rfl
    · refine am_iconst (v := -1) dX7_errorPosition_41 (by decide) ?_
      refine am_goto (tgt := 49) dX7_errorPosition_42 rfl ?_
      exact am_iret dX7_errorPosition_49 rfl rfl
  refine am_sub (ls' := [(0, .ref (am_B Z + a0)), (1, .int x1), (2, .int (0 : Int32)), (3, .int (0 : Int32))]) [2, 3, 1, 0] rfl ?_
  exact uX7_errorPosition_4 R I L a0 x1 h_a0 j1 hj1 am_fu (0 : Int32) (0 : Int32)
abbrev kX7_addItemTo : am_K := (cX7_addItemTo, 5, RX7, wsX7_addItemTo, some .int, { frames := 3, cells := 0, slots := 0, locals := 67 })
theorem hX7_addItemTo : am_cl yX7_addItemTo kX7_addItemTo 2 := ⟨⟨_, rfl⟩, rfl, rfl, by decide +kernel, by decide +kernel, by decide +kernel⟩
theorem iX7_addItemTo_0 : ∀ w ∈ u_ws RX0 TX0 4, w ∈ wsX7_addItemTo := by decide +kernel
theorem fX7_addItemTo_40 : Cond.fieldLink RX7 40 "AmbiguityAnalyzer$Automaton" "finals" "I" ∈ wsX7_addItemTo := by decide +kernel
theorem fX7_addItemTo_35 : Cond.fieldLink RX7 35 "AmbiguityAnalyzer$Automaton" "initials" "I" ∈ wsX7_addItemTo := by decide +kernel
set_option maxRecDepth 100000 in
set_option maxHeartbeats 4000000 in
theorem tX7_addItemTo {Z : am_Z} (R : am_R) (I : am_I) (L : am_L) (a0 : Nat) (a1 : Nat) (x2 : Int32) (h_a0 : am_G Z a0 = some (.inl 7)) (h_a1 : am_G Z a1 = some (.inl 0)) : am_M Z yX7_addItemTo kX7_addItemTo [.ref (am_B Z + a0), .ref (am_B Z + a1), .int x2] R I L (pX7_addItemTo R I a0 a1 x2) (fun r : Int32 × am_I => (some (.int r.1), R, r.2, L)) := by
  refine am_entry (ls := [(0, .ref (am_B Z + a0)), (1, .ref (am_B Z + a1)), (2, .int x2)]) (by decide) hX7_addItemTo rfl (Nat.le_of_ble_eq_true rfl) rfl (fun X => ?_)
  unfold pX7_addItemTo
  refine am_aload_n dX7_addItemTo_0 rfl 0 rfl ?_
  refine am_iload_n dX7_addItemTo_1 rfl 2 rfl ?_
  refine am_callV [.int x2] (tX7_characterAt R I L a0 x2 h_a0) h_a0 clX7 gX7_addItemTo_X7_characterAt hX7_characterAt rfl ⟨Nat.le_of_ble_eq_true rfl, Nat.le_of_ble_eq_true rfl⟩ rfl rfl (Nat.le_of_ble_eq_true rfl) dX7_addItemTo_2 (fun r1 => ?_)
  show am_V Z X kX7_addItemTo (fun r : Int32 × am_I => (some (.int r.1), R, r.2, L)) 5 [(0, .ref (am_B Z + a0)), (1, .ref (am_B Z + a1)), (2, .int x2)] [.int r1] R I L _
  refine am_istore_n (ls' := [(3, .int r1), (0, .ref (am_B Z + a0)), (1, .ref (am_B Z + a1)), (2, .int x2)]) dX7_addItemTo_5 rfl (Nat.le_of_ble_eq_true rfl) rfl ?_
  refine am_aload_n dX7_addItemTo_6 rfl 1 rfl ?_
  refine am_iload_n dX7_addItemTo_7 rfl 3 rfl ?_
  refine am_iconst (v := 1) dX7_addItemTo_8 (by decide) ?_
  refine am_iadd dX7_addItemTo_9 ?_
  refine am_callV [.int (x2 + (1 : Int32))] (tX7_characterAt R I L a0 (x2 + (1 : Int32)) h_a0) h_a0 clX7 gX7_addItemTo_X7_characterAt hX7_characterAt rfl ⟨Nat.le_of_ble_eq_true rfl, Nat.le_of_ble_eq_true rfl⟩ rfl rfl (Nat.le_of_ble_eq_true rfl) dX7_addItemTo_10 (fun r2 => ?_)
  show am_V Z X kX7_addItemTo (fun r : Int32 × am_I => (some (.int r.1), R, r.2, L)) 13 [(3, .int r1), (0, .ref (am_B Z + a0)), (1, .ref (am_B Z + a1)), (2, .int x2)] [.int r2] R I L _
  refine am_istore (ls' := [(4, .int r2), (3, .int r1), (0, .ref (am_B Z + a0)), (1, .ref (am_B Z + a1)), (2, .int x2)]) dX7_addItemTo_13 (Nat.le_of_ble_eq_true rfl) rfl ?_
  refine am_iload_n dX7_addItemTo_15 rfl 1 rfl ?_
  refine am_bipush (v := 62) dX7_addItemTo_16 (by decide) ?_
  refine am_icmp_ne (tgt := 39) dX7_addItemTo_18 rfl (fun e3 => ?_) (fun e3 => ?_)
  · refine am_iload dX7_addItemTo_39 0 rfl ?_
    refine am_bipush (v := 33) dX7_addItemTo_41 (by decide) ?_
    refine am_icmp_ne (tgt := 63) dX7_addItemTo_43 rfl (fun e4 => ?_) (fun e4 => ?_)
    · refine am_aload_n dX7_addItemTo_63 rfl 3 rfl ?_
      refine am_iload_n dX7_addItemTo_64 rfl 1 rfl ?_
      refine am_bipush (v := 48) dX7_addItemTo_65 (by decide) ?_
      refine am_isub dX7_addItemTo_67 ?_
      refine am_iload dX7_addItemTo_68 0 rfl ?_
      refine am_bipush (v := 97) dX7_addItemTo_70 (by decide) ?_
      refine am_isub dX7_addItemTo_72 ?_
      refine am_aload_n dX7_addItemTo_73 rfl 2 rfl ?_
      refine am_iload_n dX7_addItemTo_74 rfl 4 rfl ?_
      refine am_iconst (v := 2) dX7_addItemTo_75 (by decide) ?_
      refine am_iadd dX7_addItemTo_76 ?_
      refine am_callV [.int (x2 + (2 : Int32))] (tX7_characterAt R I L a0 (x2 + (2 : Int32)) h_a0) h_a0 clX7 gX7_addItemTo_X7_characterAt hX7_characterAt rfl ⟨Nat.le_of_ble_eq_true rfl, Nat.le_of_ble_eq_true rfl⟩ rfl rfl (Nat.le_of_ble_eq_true rfl) dX7_addItemTo_77 (fun r5 => ?_)
      show am_V Z X kX7_addItemTo (fun r : Int32 × am_I => (some (.int r.1), R, r.2, L)) 80 [(4, .int r2), (3, .int r1), (0, .ref (am_B Z + a0)), (1, .ref (am_B Z + a1)), (2, .int x2)] [.int r5, .int (r2 - (97 : Int32)), .int (r1 - (48 : Int32)), .ref (am_B Z + a1)] R I L _
      refine am_bipush (v := 48) dX7_addItemTo_80 (by decide) ?_
      refine am_isub dX7_addItemTo_82 ?_
      refine am_callV [.int (r1 - (48 : Int32)), .int (r2 - (97 : Int32)), .int (r5 - (48 : Int32))] (tX0_add R I L a1 (r1 - (48 : Int32)) (r2 - (97 : Int32)) (r5 - (48 : Int32)) h_a1) h_a1 clX0 gX7_addItemTo_X0_add hX0_add rfl ⟨Nat.le_of_ble_eq_true rfl, Nat.le_of_ble_eq_true rfl⟩ rfl rfl (Nat.le_of_ble_eq_true rfl) dX7_addItemTo_83 (fun r6 => ?_)
      show am_V Z X kX7_addItemTo (fun r : Int32 × am_I => (some (.int r.1), R, r.2, L)) 86 [(4, .int r2), (3, .int r1), (0, .ref (am_B Z + a0)), (1, .ref (am_B Z + a1)), (2, .int x2)] [.int r6.1] R r6.2 L _
      refine am_pop dX7_addItemTo_86 rfl ?_
      refine am_iconst (v := 3) dX7_addItemTo_87 (by decide) ?_
      exact am_iret dX7_addItemTo_88 rfl rfl
    · refine am_aload_n dX7_addItemTo_46 rfl 3 rfl ?_
      refine am_dup dX7_addItemTo_47 rfl ?_
      refine am_get 0 2 clX0 (Nat.le_of_ble_eq_true rfl) h_a1 iX7_addItemTo_0 fX7_addItemTo_40 rfl dX7_addItemTo_48 ?_
      refine am_iconst (v := 1) dX7_addItemTo_51 (by decide) ?_
      refine am_iload_n dX7_addItemTo_52 rfl 1 rfl ?_
      refine am_bipush (v := 48) dX7_addItemTo_53 (by decide) ?_
      refine am_isub dX7_addItemTo_55 ?_
      refine am_ishl dX7_addItemTo_56 ?_
      refine am_ior dX7_addItemTo_57 ?_
      refine am_putI 0 2 clX0 (Nat.le_of_ble_eq_true rfl) h_a1 iX7_addItemTo_0 fX7_addItemTo_40 rfl rfl dX7_addItemTo_58 ?_
      refine am_letI (fun J7 => ?_)
      refine am_iconst (v := 2) dX7_addItemTo_61 (by decide) ?_
      exact am_iret dX7_addItemTo_62 rfl rfl
  · refine am_aload_n dX7_addItemTo_21 rfl 3 rfl ?_
    refine am_dup dX7_addItemTo_22 rfl ?_
    refine am_get 0 1 clX0 (Nat.le_of_ble_eq_true rfl) h_a1 iX7_addItemTo_0 fX7_addItemTo_35 rfl dX7_addItemTo_23 ?_
    refine am_iconst (v := 1) dX7_addItemTo_26 (by decide) ?_
    refine am_iload dX7_addItemTo_27 0 rfl ?_
    refine am_bipush (v := 48) dX7_addItemTo_29 (by decide) ?_
    refine am_isub dX7_addItemTo_31 ?_
    refine am_ishl dX7_addItemTo_32 ?_
    refine am_ior dX7_addItemTo_33 ?_
    refine am_putI 0 1 clX0 (Nat.le_of_ble_eq_true rfl) h_a1 iX7_addItemTo_0 fX7_addItemTo_35 rfl rfl dX7_addItemTo_34 ?_
    refine am_letI (fun J8 => ?_)
    refine am_iconst (v := 2) dX7_addItemTo_37 (by decide) ?_
    exact am_iret dX7_addItemTo_38 rfl rfl
abbrev kX7_addItemsTo : am_K := (cX7_addItemsTo, 5, RX7, wsX7_addItemsTo, some .int, { frames := 4, cells := 0, slots := 0, locals := 91 })
theorem hX7_addItemsTo : am_cl yX7_addItemsTo kX7_addItemsTo 1 := ⟨⟨_, rfl⟩, rfl, rfl, by decide +kernel, by decide +kernel, by decide +kernel⟩
theorem iX7_addItemsTo_7 : ∀ w ∈ u_ws RX7 TX7 2, w ∈ wsX7_addItemsTo := by decide +kernel
theorem fX7_addItemsTo_15 : Cond.fieldLink RX7 15 "AmbiguityAnalyzer$Text" "length" "I" ∈ wsX7_addItemsTo := by decide +kernel
set_option maxRecDepth 100000 in
set_option maxHeartbeats 4000000 in
theorem vX7_addItemsTo_4 {Z : am_Z} {X : am_X} (R : am_R) (L : am_L) (a0 : Nat) (a1 : Nat) (h1 : am_G Z a0 = some (.inl 7)) (h2 : am_G Z a1 = some (.inl 0)) (ih6 : Int32 → Int32 → am_I → Option (Int32 × am_I)) (hih6 : ∀ (v3 : Int32) (v4 : Int32) (J5 : am_I), am_V Z X kX7_addItemsTo (fun r : Int32 × am_I => (some (.int r.1), R, r.2, L)) 4 [(0, .ref (am_B Z + a0)), (1, .ref (am_B Z + a1)), (2, .int v3), (3, .int v4)] [] R J5 L (ih6 v3 v4 J5)) (v3 : Int32) (v4 : Int32) (J5 : am_I) : am_V Z X kX7_addItemsTo (fun r : Int32 × am_I => (some (.int r.1), R, r.2, L)) 4 [(0, .ref (am_B Z + a0)), (1, .ref (am_B Z + a1)), (2, .int v3), (3, .int v4)] [] R J5 L (sX7_addItemsTo_4 R a0 a1 ih6 v3 v4 J5) := by
  unfold sX7_addItemsTo_4
  refine am_iload_n dX7_addItemsTo_4 rfl 3 rfl ?_
  refine am_aload_n dX7_addItemsTo_5 rfl 0 rfl ?_
  refine am_get 7 0 clX7 (Nat.le_of_ble_eq_true rfl) h1 iX7_addItemsTo_7 fX7_addItemsTo_15 rfl dX7_addItemsTo_6 ?_
  refine am_icmp_ge (tgt := 39) dX7_addItemsTo_9 rfl (fun e7 => ?_) (fun e7 => ?_)
  · refine am_iload_n dX7_addItemsTo_39 rfl 2 rfl ?_
    exact am_iret dX7_addItemsTo_40 rfl rfl
  · refine am_iload_n dX7_addItemsTo_12 rfl 2 rfl ?_
    refine am_bipush (v := 60) dX7_addItemsTo_13 (by decide) ?_
    refine am_icmp_ge (tgt := 39) dX7_addItemsTo_15 rfl (fun e8 => ?_) (fun e8 => ?_)
    · refine am_iload_n dX7_addItemsTo_39 rfl 2 rfl ?_
      exact am_iret dX7_addItemsTo_40 rfl rfl
    · refine am_aload_n dX7_addItemsTo_18 rfl 0 rfl ?_
      refine am_aload_n dX7_addItemsTo_19 rfl 1 rfl ?_
      refine am_iload_n dX7_addItemsTo_20 rfl 3 rfl ?_
      refine am_callV [.ref (am_B Z + a1), .int v4] (tX7_addItemTo R J5 L a0 a1 v4 h1 h2) h1 clX7 gX7_addItemsTo_X7_addItemTo hX7_addItemTo rfl ⟨Nat.le_of_ble_eq_true rfl, Nat.le_of_ble_eq_true rfl⟩ rfl rfl (Nat.le_of_ble_eq_true rfl) dX7_addItemsTo_21 (fun r9 => ?_)
      show am_V Z X kX7_addItemsTo (fun r : Int32 × am_I => (some (.int r.1), R, r.2, L)) 24 [(0, .ref (am_B Z + a0)), (1, .ref (am_B Z + a1)), (2, .int v3), (3, .int v4)] [.int r9.1] R r9.2 L _
      refine am_istore (ls' := [(4, .int r9.1), (0, .ref (am_B Z + a0)), (1, .ref (am_B Z + a1)), (2, .int v3), (3, .int v4)]) dX7_addItemsTo_24 (Nat.le_of_ble_eq_true rfl) rfl ?_
      refine am_iload_n dX7_addItemsTo_26 rfl 4 rfl ?_
      refine am_iload dX7_addItemsTo_27 0 rfl ?_
      refine am_iconst (v := 1) dX7_addItemsTo_29 (by decide) ?_
      refine am_iadd dX7_addItemsTo_30 ?_
      refine am_iadd dX7_addItemsTo_31 ?_
      refine am_letTi (fun v10 => ?_)
      refine am_istore_n (ls' := [(3, .int v10), (4, .int r9.1), (0, .ref (am_B Z + a0)), (1, .ref (am_B Z + a1)), (2, .int v3)]) dX7_addItemsTo_32 rfl (Nat.le_of_ble_eq_true rfl) rfl ?_
      refine am_iinc (j := 4) (ls' := [(2, .int (v3 + (1 : Int32))), (3, .int v10), (4, .int r9.1), (0, .ref (am_B Z + a0)), (1, .ref (am_B Z + a1))]) dX7_addItemsTo_33 rfl rfl (Nat.le_of_ble_eq_true rfl) rfl ?_
      refine am_goto (tgt := 4) dX7_addItemsTo_36 rfl ?_
      refine am_sub (ls' := [(0, .ref (am_B Z + a0)), (1, .ref (am_B Z + a1)), (2, .int (v3 + (1 : Int32))), (3, .int v10)]) [3, 4, 0, 1] rfl ?_
      exact hih6 (v3 + (1 : Int32)) v10 r9.2
theorem uX7_addItemsTo_4 {Z : am_Z} {X : am_X} (R : am_R) (L : am_L) (a0 : Nat) (a1 : Nat) (h1 : am_G Z a0 = some (.inl 7)) (h2 : am_G Z a1 = some (.inl 0)) : ∀ (n : Nat) (v3 : Int32) (v4 : Int32) (J5 : am_I), am_V Z X kX7_addItemsTo (fun r : Int32 × am_I => (some (.int r.1), R, r.2, L)) 4 [(0, .ref (am_B Z + a0)), (1, .ref (am_B Z + a1)), (2, .int v3), (3, .int v4)] [] R J5 L (lX7_addItemsTo_4 R a0 a1 n v3 v4 J5) := by
  intro n
  induction n with
  | zero => intro _ _ _; exact am_none
  | succ n ih => exact fun v3 v4 J5 => vX7_addItemsTo_4 R L a0 a1 h1 h2 (lX7_addItemsTo_4 R a0 a1 n) ih v3 v4 J5
set_option maxRecDepth 100000 in
set_option maxHeartbeats 4000000 in
theorem tX7_addItemsTo {Z : am_Z} (R : am_R) (I : am_I) (L : am_L) (a0 : Nat) (a1 : Nat) (h_a0 : am_G Z a0 = some (.inl 7)) (h_a1 : am_G Z a1 = some (.inl 0)) : am_M Z yX7_addItemsTo kX7_addItemsTo [.ref (am_B Z + a0), .ref (am_B Z + a1)] R I L (pX7_addItemsTo R I a0 a1) (fun r : Int32 × am_I => (some (.int r.1), R, r.2, L)) := by
  refine am_entry (ls := [(0, .ref (am_B Z + a0)), (1, .ref (am_B Z + a1))]) (by decide) hX7_addItemsTo rfl (Nat.le_of_ble_eq_true rfl) rfl (fun X => ?_)
  unfold pX7_addItemsTo
  refine am_iconst (v := 0) dX7_addItemsTo_0 (by decide) ?_
  refine am_istore_n (ls' := [(2, .int (0 : Int32)), (0, .ref (am_B Z + a0)), (1, .ref (am_B Z + a1))]) dX7_addItemsTo_1 rfl (Nat.le_of_ble_eq_true rfl) rfl ?_
  refine am_iconst (v := 0) dX7_addItemsTo_2 (by decide) ?_
  refine am_istore_n (ls' := [(3, .int (0 : Int32)), (2, .int (0 : Int32)), (0, .ref (am_B Z + a0)), (1, .ref (am_B Z + a1))]) dX7_addItemsTo_3 rfl (Nat.le_of_ble_eq_true rfl) rfl ?_
  refine am_sub (ls' := [(0, .ref (am_B Z + a0)), (1, .ref (am_B Z + a1)), (2, .int (0 : Int32)), (3, .int (0 : Int32))]) [2, 3, 1, 0] rfl ?_
  exact uX7_addItemsTo_4 R L a0 a1 h_a0 h_a1 am_fu (0 : Int32) (0 : Int32) I
abbrev kX8_copyFrom : am_K := (cX8_copyFrom, 3, RX8, wsX8_copyFrom, none, { frames := 2, cells := 0, slots := 0, locals := 43 })
theorem hX8_copyFrom : am_cl yX8_copyFrom kX8_copyFrom 1 := ⟨⟨_, rfl⟩, rfl, rfl, by decide +kernel, by decide +kernel, by decide +kernel⟩
theorem iX8_copyFrom_8 : ∀ w ∈ u_ws RX8 TX8 2, w ∈ wsX8_copyFrom := by decide +kernel
theorem fX8_copyFrom_15 : Cond.fieldLink RX8 15 "AmbiguityAnalyzer$Word" "length" "I" ∈ wsX8_copyFrom := by decide +kernel
set_option maxRecDepth 100000 in
set_option maxHeartbeats 4000000 in
theorem vX8_copyFrom_10 {Z : am_Z} {X : am_X} (R : am_R) (L : am_L) (a0 : Nat) (a1 : Nat) (h2 : am_G Z a0 = some (.inl 8)) (h3 : am_G Z a1 = some (.inl 8)) (ih6 : Int32 → am_I → Option (am_I)) (hih6 : ∀ (v4 : Int32) (J5 : am_I), am_V Z X kX8_copyFrom (fun r : am_I => (none, R, r, L)) 10 [(0, .ref (am_B Z + a0)), (1, .ref (am_B Z + a1)), (2, .int v4)] [] R J5 L (ih6 v4 J5)) (v4 : Int32) (J5 : am_I) : am_V Z X kX8_copyFrom (fun r : am_I => (none, R, r, L)) 10 [(0, .ref (am_B Z + a0)), (1, .ref (am_B Z + a1)), (2, .int v4)] [] R J5 L (sX8_copyFrom_10 R a0 a1 ih6 v4 J5) := by
  unfold sX8_copyFrom_10
  refine am_iload_n dX8_copyFrom_10 rfl 2 rfl ?_
  refine am_aload_n dX8_copyFrom_11 rfl 0 rfl ?_
  refine am_get 8 0 clX8 (Nat.le_of_ble_eq_true rfl) h2 iX8_copyFrom_8 fX8_copyFrom_15 rfl dX8_copyFrom_12 ?_
  refine am_icmp_ge (tgt := 34) dX8_copyFrom_15 rfl (fun e7 => ?_) (fun e7 => ?_)
  · exact am_vret dX8_copyFrom_34 rfl rfl
  · refine am_aload_n dX8_copyFrom_18 rfl 0 rfl ?_
    refine am_iload_n dX8_copyFrom_19 rfl 2 rfl ?_
    refine am_aload_n dX8_copyFrom_20 rfl 1 rfl ?_
    refine am_iload_n dX8_copyFrom_21 rfl 2 rfl ?_
    refine am_callV [.int v4] (tX8_letterAt R J5 L a1 v4 h3) h3 clX8 gX8_copyFrom_X8_letterAt hX8_letterAt rfl ⟨Nat.le_of_ble_eq_true rfl, Nat.le_of_ble_eq_true rfl⟩ rfl rfl (Nat.le_of_ble_eq_true rfl) dX8_copyFrom_22 (fun r8 => ?_)
    show am_V Z X kX8_copyFrom (fun r : am_I => (none, R, r, L)) 25 [(0, .ref (am_B Z + a0)), (1, .ref (am_B Z + a1)), (2, .int v4)] [.int r8, .int v4, .ref (am_B Z + a0)] R J5 L _
    refine am_callV [.int v4, .int r8] (tX8_setLetter R J5 L a0 v4 r8 h2) h2 clX8 gX8_copyFrom_X8_setLetter hX8_setLetter rfl ⟨Nat.le_of_ble_eq_true rfl, Nat.le_of_ble_eq_true rfl⟩ rfl rfl (Nat.le_of_ble_eq_true rfl) dX8_copyFrom_25 (fun r9 => ?_)
    show am_V Z X kX8_copyFrom (fun r : am_I => (none, R, r, L)) 28 [(0, .ref (am_B Z + a0)), (1, .ref (am_B Z + a1)), (2, .int v4)] [] R r9 L _
    refine am_iinc (j := 2) (ls' := [(2, .int (v4 + (1 : Int32))), (0, .ref (am_B Z + a0)), (1, .ref (am_B Z + a1))]) dX8_copyFrom_28 rfl rfl (Nat.le_of_ble_eq_true rfl) rfl ?_
    refine am_goto (tgt := 10) dX8_copyFrom_31 rfl ?_
    refine am_sub (ls' := [(0, .ref (am_B Z + a0)), (1, .ref (am_B Z + a1)), (2, .int (v4 + (1 : Int32)))]) [1, 2, 0] rfl ?_
    exact hih6 (v4 + (1 : Int32)) r9
theorem uX8_copyFrom_10 {Z : am_Z} {X : am_X} (R : am_R) (L : am_L) (a0 : Nat) (a1 : Nat) (h2 : am_G Z a0 = some (.inl 8)) (h3 : am_G Z a1 = some (.inl 8)) : ∀ (n : Nat) (v4 : Int32) (J5 : am_I), am_V Z X kX8_copyFrom (fun r : am_I => (none, R, r, L)) 10 [(0, .ref (am_B Z + a0)), (1, .ref (am_B Z + a1)), (2, .int v4)] [] R J5 L (lX8_copyFrom_10 R a0 a1 n v4 J5) := by
  intro n
  induction n with
  | zero => intro _ _; exact am_none
  | succ n ih => exact fun v4 J5 => vX8_copyFrom_10 R L a0 a1 h2 h3 (lX8_copyFrom_10 R a0 a1 n) ih v4 J5
set_option maxRecDepth 100000 in
set_option maxHeartbeats 4000000 in
theorem tX8_copyFrom {Z : am_Z} (R : am_R) (I : am_I) (L : am_L) (a0 : Nat) (a1 : Nat) (h_a0 : am_G Z a0 = some (.inl 8)) (h_a1 : am_G Z a1 = some (.inl 8)) : am_M Z yX8_copyFrom kX8_copyFrom [.ref (am_B Z + a0), .ref (am_B Z + a1)] R I L (pX8_copyFrom R I a0 a1) (fun r : am_I => (none, R, r, L)) := by
  refine am_entry (ls := [(0, .ref (am_B Z + a0)), (1, .ref (am_B Z + a1))]) (by decide) hX8_copyFrom rfl (Nat.le_of_ble_eq_true rfl) rfl (fun X => ?_)
  unfold pX8_copyFrom
  refine am_aload_n dX8_copyFrom_0 rfl 0 rfl ?_
  refine am_aload_n dX8_copyFrom_1 rfl 1 rfl ?_
  refine am_get 8 0 clX8 (Nat.le_of_ble_eq_true rfl) h_a1 iX8_copyFrom_8 fX8_copyFrom_15 rfl dX8_copyFrom_2 ?_
  refine am_putI 8 0 clX8 (Nat.le_of_ble_eq_true rfl) h_a0 iX8_copyFrom_8 fX8_copyFrom_15 rfl rfl dX8_copyFrom_5 ?_
  refine am_letI (fun J1 => ?_)
  refine am_iconst (v := 0) dX8_copyFrom_8 (by decide) ?_
  refine am_istore_n (ls' := [(2, .int (0 : Int32)), (0, .ref (am_B Z + a0)), (1, .ref (am_B Z + a1))]) dX8_copyFrom_9 rfl (Nat.le_of_ble_eq_true rfl) rfl ?_
  refine am_sub (ls' := [(0, .ref (am_B Z + a0)), (1, .ref (am_B Z + a1)), (2, .int (0 : Int32))]) [1, 2, 0] rfl ?_
  exact uX8_copyFrom_10 R L a0 a1 h_a0 h_a1 am_fu (0 : Int32) J1
abbrev kX9_look : am_K := (cX9_look, 2, RX9, wsX9_look, none, { frames := 4, cells := 0, slots := 0, locals := 90 })
theorem hX9_look : am_cl yX9_look kX9_look 1 := ⟨⟨_, rfl⟩, rfl, rfl, by decide +kernel, by decide +kernel, by decide +kernel⟩
theorem iX9_look_9 : ∀ w ∈ u_ws RX9 TX9 13, w ∈ wsX9_look := by decide +kernel
theorem fX9_look_14 : Cond.fieldLink RX9 14 "AmbiguityAnalyzer$WordSearch" "steps" "LAmbiguityAnalyzer$Steps;" ∈ wsX9_look := by decide +kernel
theorem iX9_look_0 : ∀ w ∈ u_ws RX0 TX0 4, w ∈ wsX9_look := by decide +kernel
theorem fX9_look_37 : Cond.fieldLink RX9 37 "AmbiguityAnalyzer$Automaton" "states" "I" ∈ wsX9_look := by decide +kernel
theorem fX9_look_42 : Cond.fieldLink RX9 42 "AmbiguityAnalyzer$WordSearch" "states" "I" ∈ wsX9_look := by decide +kernel
theorem fX9_look_43 : Cond.fieldLink RX9 43 "AmbiguityAnalyzer$Automaton" "initials" "I" ∈ wsX9_look := by decide +kernel
theorem fX9_look_46 : Cond.fieldLink RX9 46 "AmbiguityAnalyzer$WordSearch" "initials" "I" ∈ wsX9_look := by decide +kernel
theorem fX9_look_47 : Cond.fieldLink RX9 47 "AmbiguityAnalyzer$Automaton" "finals" "I" ∈ wsX9_look := by decide +kernel
theorem fX9_look_50 : Cond.fieldLink RX9 50 "AmbiguityAnalyzer$WordSearch" "finals" "I" ∈ wsX9_look := by decide +kernel
theorem fX9_look_55 : Cond.fieldLink RX9 55 "AmbiguityAnalyzer$WordSearch" "useful" "I" ∈ wsX9_look := by decide +kernel
set_option maxRecDepth 100000 in
set_option maxHeartbeats 4000000 in
theorem tX9_look {Z : am_Z} (R : am_R) (I : am_I) (L : am_L) (a0 : Nat) (a1 : Nat) (h_a0 : am_G Z a0 = some (.inl 9)) (h_a1 : am_G Z a1 = some (.inl 0)) : am_M Z yX9_look kX9_look [.ref (am_B Z + a0), .ref (am_B Z + a1)] R I L (pX9_look R I a0 a1) (fun r : am_I => (none, R, r, L)) := by
  refine am_entry (ls := [(0, .ref (am_B Z + a0)), (1, .ref (am_B Z + a1))]) (by decide) hX9_look rfl (Nat.le_of_ble_eq_true rfl) rfl (fun X => ?_)
  unfold pX9_look
  refine am_aload_n dX9_look_0 rfl 0 rfl ?_
  refine am_getR 9 0 clX9 (Nat.le_of_ble_eq_true rfl) h_a0 iX9_look_9 fX9_look_14 rfl rfl dX9_look_1 (fun h1 => ?_)
  refine am_aload_n dX9_look_4 rfl 1 rfl ?_
  refine am_callV [.ref (am_B Z + a1)] (tX6_load R I L (R a0 0) a1 h1 h_a1) h1 clX6 gX9_look_X6_load hX6_load rfl ⟨Nat.le_of_ble_eq_true rfl, Nat.le_of_ble_eq_true rfl⟩ rfl rfl (Nat.le_of_ble_eq_true rfl) dX9_look_5 (fun r2 => ?_)
  show am_V Z X kX9_look (fun r : am_I => (none, R, r, L)) 8 [(0, .ref (am_B Z + a0)), (1, .ref (am_B Z + a1))] [] R r2 L _
  refine am_aload_n dX9_look_8 rfl 0 rfl ?_
  refine am_aload_n dX9_look_9 rfl 1 rfl ?_
  refine am_get 0 0 clX0 (Nat.le_of_ble_eq_true rfl) h_a1 iX9_look_0 fX9_look_37 rfl dX9_look_10 ?_
  refine am_putI 9 1 clX9 (Nat.le_of_ble_eq_true rfl) h_a0 iX9_look_9 fX9_look_42 rfl rfl dX9_look_13 ?_
  refine am_letI (fun J3 => ?_)
  refine am_aload_n dX9_look_16 rfl 0 rfl ?_
  refine am_aload_n dX9_look_17 rfl 1 rfl ?_
  refine am_get 0 1 clX0 (Nat.le_of_ble_eq_true rfl) h_a1 iX9_look_0 fX9_look_43 rfl dX9_look_18 ?_
  refine am_putI 9 2 clX9 (Nat.le_of_ble_eq_true rfl) h_a0 iX9_look_9 fX9_look_46 rfl rfl dX9_look_21 ?_
  refine am_letI (fun J4 => ?_)
  refine am_aload_n dX9_look_24 rfl 0 rfl ?_
  refine am_aload_n dX9_look_25 rfl 1 rfl ?_
  refine am_get 0 2 clX0 (Nat.le_of_ble_eq_true rfl) h_a1 iX9_look_0 fX9_look_47 rfl dX9_look_26 ?_
  refine am_putI 9 3 clX9 (Nat.le_of_ble_eq_true rfl) h_a0 iX9_look_9 fX9_look_50 rfl rfl dX9_look_29 ?_
  refine am_letI (fun J5 => ?_)
  refine am_aload_n dX9_look_32 rfl 0 rfl ?_
  refine am_aload_n dX9_look_33 rfl 1 rfl ?_
  refine am_callV [] (tX0_usefulSet R J5 L a1 h_a1) h_a1 clX0 gX9_look_X0_usefulSet hX0_usefulSet rfl ⟨Nat.le_of_ble_eq_true rfl, Nat.le_of_ble_eq_true rfl⟩ rfl rfl (Nat.le_of_ble_eq_true rfl) dX9_look_34 (fun r6 => ?_)
  show am_V Z X kX9_look (fun r : am_I => (none, R, r, L)) 37 [(0, .ref (am_B Z + a0)), (1, .ref (am_B Z + a1))] [.int r6, .ref (am_B Z + a0)] R J5 L _
  refine am_putI 9 4 clX9 (Nat.le_of_ble_eq_true rfl) h_a0 iX9_look_9 fX9_look_55 rfl rfl dX9_look_37 ?_
  refine am_letI (fun J7 => ?_)
  exact am_vret dX9_look_40 rfl rfl
abbrev kX9_meet : am_K := (cX9_meet, 4, RX9, wsX9_meet, none, { frames := 0, cells := 0, slots := 0, locals := 0 })
theorem hX9_meet : am_cl yX9_meet kX9_meet 3 := ⟨⟨_, rfl⟩, rfl, rfl, by decide +kernel, by decide +kernel, by decide +kernel⟩
theorem iX9_meet_9 : ∀ w ∈ u_ws RX9 TX9 13, w ∈ wsX9_meet := by decide +kernel
theorem fX9_meet_109 : Cond.fieldLink RX9 109 "AmbiguityAnalyzer$WordSearch" "nodeCount" "I" ∈ wsX9_meet := by decide +kernel
theorem fX9_meet_18 : Cond.fieldLink RX9 18 "AmbiguityAnalyzer$WordSearch" "nodes" "[I" ∈ wsX9_meet := by decide +kernel
theorem fX9_meet_26 : Cond.fieldLink RX9 26 "AmbiguityAnalyzer$WordSearch" "met" "[J" ∈ wsX9_meet := by decide +kernel
set_option maxRecDepth 100000 in
set_option maxHeartbeats 4000000 in
theorem tX9_meet {Z : am_Z} (R : am_R) (I : am_I) (L : am_L) (a0 : Nat) (x1 : Int32) (x2 : Int32) (x3 : Int32) (h_a0 : am_G Z a0 = some (.inl 9)) : am_M Z yX9_meet kX9_meet [.ref (am_B Z + a0), .int x1, .int x2, .int x3] R I L (pX9_meet R I L a0 x1 x2 x3) (fun r : am_I × am_L => (none, R, r.1, r.2)) := by
  refine am_entry (ls := [(0, .ref (am_B Z + a0)), (1, .int x1), (2, .int x2), (3, .int x3)]) (by decide) hX9_meet rfl (Nat.le_of_ble_eq_true rfl) rfl (fun X => ?_)
  unfold pX9_meet
  refine am_iload_n dX9_meet_0 rfl 1 rfl ?_
  refine am_if_lt (tgt := 22) dX9_meet_1 rfl (fun e1 => ?_) (fun e1 => ?_)
  · exact am_vret dX9_meet_22 rfl rfl
  · refine am_iload_n dX9_meet_4 rfl 1 rfl ?_
    refine am_bipush (v := 64) dX9_meet_5 (by decide) ?_
    refine am_icmp_ge (tgt := 22) dX9_meet_7 rfl (fun e2 => ?_) (fun e2 => ?_)
    · exact am_vret dX9_meet_22 rfl rfl
    · refine am_aload_n dX9_meet_10 rfl 0 rfl ?_
      refine am_get 9 9 clX9 (Nat.le_of_ble_eq_true rfl) h_a0 iX9_meet_9 fX9_meet_109 rfl dX9_meet_11 ?_
      refine am_aload_n dX9_meet_14 rfl 0 rfl ?_
      refine am_getR 9 8 clX9 (Nat.le_of_ble_eq_true rfl) h_a0 iX9_meet_9 fX9_meet_18 rfl rfl dX9_meet_15 (fun h3 => ?_)
      refine am_alen (t := 0) (v := 4096) rfl h3 (by decide) dX9_meet_18 ?_
      refine am_icmp_lt (tgt := 23) dX9_meet_19 rfl (fun e4 => ?_) (fun e4 => ?_)
      · refine am_aload_n dX9_meet_23 rfl 0 rfl ?_
        refine am_getR 9 11 clX9 (Nat.le_of_ble_eq_true rfl) h_a0 iX9_meet_9 fX9_meet_26 rfl rfl dX9_meet_24 (fun h5 => ?_)
        refine am_iload_n dX9_meet_27 rfl 1 rfl ?_
        refine am_lald h5 dX9_meet_28 ?_
        refine am_iload_n dX9_meet_29 rfl 2 rfl ?_
        refine am_lshr dX9_meet_30 ?_
        refine am_lconst (v := 1) dX9_meet_31 (by decide) ?_
        refine am_land dX9_meet_32 ?_
        refine am_lconst (v := 0) dX9_meet_33 (by decide) ?_
        refine am_lcmp dX9_meet_34 ?_
        refine am_if_eq (tgt := 39) dX9_meet_35 rfl (fun e6 => ?_) (fun e6 => ?_)
        · refine am_aload_n dX9_meet_39 rfl 0 rfl ?_
          refine am_getR 9 11 clX9 (Nat.le_of_ble_eq_true rfl) h_a0 iX9_meet_9 fX9_meet_26 rfl rfl dX9_meet_40 (fun h7 => ?_)
          refine am_iload_n dX9_meet_43 rfl 1 rfl ?_
          refine am_dup2 dX9_meet_44 rfl rfl ?_
          refine am_lald h7 dX9_meet_45 ?_
          refine am_lconst (v := 1) dX9_meet_46 (by decide) ?_
          refine am_iload_n dX9_meet_47 rfl 2 rfl ?_
          refine am_lshl dX9_meet_48 ?_
          refine am_lor dX9_meet_49 ?_
          refine am_last h7 dX9_meet_50 ?_
          refine am_letL (fun J8 => ?_)
          refine am_aload_n dX9_meet_51 rfl 0 rfl ?_
          refine am_getR 9 8 clX9 (Nat.le_of_ble_eq_true rfl) h_a0 iX9_meet_9 fX9_meet_18 rfl rfl dX9_meet_52 (fun h9 => ?_)
          refine am_aload_n dX9_meet_55 rfl 0 rfl ?_
          refine am_get 9 9 clX9 (Nat.le_of_ble_eq_true rfl) h_a0 iX9_meet_9 fX9_meet_109 rfl dX9_meet_56 ?_
          refine am_iload_n dX9_meet_59 rfl 3 rfl ?_
          refine am_iload_n dX9_meet_60 rfl 1 rfl ?_
          refine am_bipush (v := 6) dX9_meet_61 (by decide) ?_
          refine am_ishl dX9_meet_63 ?_
          refine am_ior dX9_meet_64 ?_
          refine am_iload_n dX9_meet_65 rfl 2 rfl ?_
          refine am_ior dX9_meet_66 ?_
          refine am_iast h9 dX9_meet_67 ?_
          refine am_letI (fun J10 => ?_)
          refine am_aload_n dX9_meet_68 rfl 0 rfl ?_
          refine am_dup dX9_meet_69 rfl ?_
          refine am_get 9 9 clX9 (Nat.le_of_ble_eq_true rfl) h_a0 iX9_meet_9 fX9_meet_109 rfl dX9_meet_70 ?_
          refine am_iconst (v := 1) dX9_meet_73 (by decide) ?_
          refine am_iadd dX9_meet_74 ?_
          refine am_putI 9 9 clX9 (Nat.le_of_ble_eq_true rfl) h_a0 iX9_meet_9 fX9_meet_109 rfl rfl dX9_meet_75 ?_
          refine am_letI (fun J11 => ?_)
          exact am_vret dX9_meet_78 rfl rfl
        · exact am_vret dX9_meet_38 rfl rfl
      · exact am_vret dX9_meet_22 rfl rfl
abbrev kX9_nodeAt : am_K := (cX9_nodeAt, 2, RX9, wsX9_nodeAt, some .int, { frames := 0, cells := 0, slots := 0, locals := 0 })
theorem hX9_nodeAt : am_cl yX9_nodeAt kX9_nodeAt 1 := ⟨⟨_, rfl⟩, rfl, rfl, by decide +kernel, by decide +kernel, by decide +kernel⟩
theorem iX9_nodeAt_9 : ∀ w ∈ u_ws RX9 TX9 13, w ∈ wsX9_nodeAt := by decide +kernel
theorem fX9_nodeAt_18 : Cond.fieldLink RX9 18 "AmbiguityAnalyzer$WordSearch" "nodes" "[I" ∈ wsX9_nodeAt := by decide +kernel
set_option maxRecDepth 100000 in
set_option maxHeartbeats 4000000 in
theorem tX9_nodeAt {Z : am_Z} (R : am_R) (I : am_I) (L : am_L) (a0 : Nat) (x1 : Int32) (h_a0 : am_G Z a0 = some (.inl 9)) : am_M Z yX9_nodeAt kX9_nodeAt [.ref (am_B Z + a0), .int x1] R I L (pX9_nodeAt R I a0 x1) (fun r : Int32 => (some (.int r), R, I, L)) := by
  refine am_entry (ls := [(0, .ref (am_B Z + a0)), (1, .int x1)]) (by decide) hX9_nodeAt rfl (Nat.le_of_ble_eq_true rfl) rfl (fun X => ?_)
  unfold pX9_nodeAt
  refine am_iload_n dX9_nodeAt_0 rfl 1 rfl ?_
  refine am_if_lt (tgt := 22) dX9_nodeAt_1 rfl (fun e1 => ?_) (fun e1 => ?_)
  · refine am_iconst (v := 0) dX9_nodeAt_22 (by decide) ?_
    exact am_iret dX9_nodeAt_23 rfl rfl
  · refine am_iload_n dX9_nodeAt_4 rfl 1 rfl ?_
    refine am_aload_n dX9_nodeAt_5 rfl 0 rfl ?_
    refine am_getR 9 8 clX9 (Nat.le_of_ble_eq_true rfl) h_a0 iX9_nodeAt_9 fX9_nodeAt_18 rfl rfl dX9_nodeAt_6 (fun h2 => ?_)
    refine am_alen (t := 0) (v := 4096) rfl h2 (by decide) dX9_nodeAt_9 ?_
    refine am_icmp_ge (tgt := 22) dX9_nodeAt_10 rfl (fun e3 => ?_) (fun e3 => ?_)
    · refine am_iconst (v := 0) dX9_nodeAt_22 (by decide) ?_
      exact am_iret dX9_nodeAt_23 rfl rfl
    · refine am_aload_n dX9_nodeAt_13 rfl 0 rfl ?_
      refine am_getR 9 8 clX9 (Nat.le_of_ble_eq_true rfl) h_a0 iX9_nodeAt_9 fX9_nodeAt_18 rfl rfl dX9_nodeAt_14 (fun h4 => ?_)
      refine am_iload_n dX9_nodeAt_17 rfl 1 rfl ?_
      refine am_iald h4 dX9_nodeAt_18 ?_
      refine am_goto (tgt := 23) dX9_nodeAt_19 rfl ?_
      exact am_iret dX9_nodeAt_23 rfl rfl
abbrev kX9_firstSet : am_K := (cX9_firstSet, 2, RX9, wsX9_firstSet, some .int, { frames := 1, cells := 0, slots := 0, locals := 21 })
theorem hX9_firstSet : am_cl yX9_firstSet kX9_firstSet 1 := ⟨⟨_, rfl⟩, rfl, rfl, by decide +kernel, by decide +kernel, by decide +kernel⟩
set_option maxRecDepth 100000 in
set_option maxHeartbeats 4000000 in
theorem tX9_firstSet {Z : am_Z} (R : am_R) (I : am_I) (L : am_L) (a0 : Nat) (x1 : Int32) (h_a0 : am_G Z a0 = some (.inl 9)) : am_M Z yX9_firstSet kX9_firstSet [.ref (am_B Z + a0), .int x1] R I L (pX9_firstSet R I a0 x1) (fun r : Int32 => (some (.int r), R, I, L)) := by
  refine am_entry (ls := [(0, .ref (am_B Z + a0)), (1, .int x1)]) (by decide) hX9_firstSet rfl (Nat.le_of_ble_eq_true rfl) rfl (fun X => ?_)
  unfold pX9_firstSet
  refine am_aload_n dX9_firstSet_0 rfl 0 rfl ?_
  refine am_iload_n dX9_firstSet_1 rfl 1 rfl ?_
  refine am_callV [.int x1] (tX9_nodeAt R I L a0 x1 h_a0) h_a0 clX9 gX9_firstSet_X9_nodeAt hX9_nodeAt rfl ⟨Nat.le_of_ble_eq_true rfl, Nat.le_of_ble_eq_true rfl⟩ rfl rfl (Nat.le_of_ble_eq_true rfl) dX9_firstSet_2 (fun r1 => ?_)
  show am_V Z X kX9_firstSet (fun r : Int32 => (some (.int r), R, I, L)) 5 [(0, .ref (am_B Z + a0)), (1, .int x1)] [.int r1] R I L _
  refine am_bipush (v := 6) dX9_firstSet_5 (by decide) ?_
  refine am_ishr dX9_firstSet_7 ?_
  refine am_bipush (v := 63) dX9_firstSet_8 (by decide) ?_
  refine am_iand dX9_firstSet_10 ?_
  exact am_iret dX9_firstSet_11 rfl rfl
abbrev kX9_secondSet : am_K := (cX9_secondSet, 2, RX9, wsX9_secondSet, some .int, { frames := 1, cells := 0, slots := 0, locals := 21 })
theorem hX9_secondSet : am_cl yX9_secondSet kX9_secondSet 1 := ⟨⟨_, rfl⟩, rfl, rfl, by decide +kernel, by decide +kernel, by decide +kernel⟩
set_option maxRecDepth 100000 in
set_option maxHeartbeats 4000000 in
theorem tX9_secondSet {Z : am_Z} (R : am_R) (I : am_I) (L : am_L) (a0 : Nat) (x1 : Int32) (h_a0 : am_G Z a0 = some (.inl 9)) : am_M Z yX9_secondSet kX9_secondSet [.ref (am_B Z + a0), .int x1] R I L (pX9_secondSet R I a0 x1) (fun r : Int32 => (some (.int r), R, I, L)) := by
  refine am_entry (ls := [(0, .ref (am_B Z + a0)), (1, .int x1)]) (by decide) hX9_secondSet rfl (Nat.le_of_ble_eq_true rfl) rfl (fun X => ?_)
  unfold pX9_secondSet
  refine am_aload_n dX9_secondSet_0 rfl 0 rfl ?_
  refine am_iload_n dX9_secondSet_1 rfl 1 rfl ?_
  refine am_callV [.int x1] (tX9_nodeAt R I L a0 x1 h_a0) h_a0 clX9 gX9_secondSet_X9_nodeAt hX9_nodeAt rfl ⟨Nat.le_of_ble_eq_true rfl, Nat.le_of_ble_eq_true rfl⟩ rfl rfl (Nat.le_of_ble_eq_true rfl) dX9_secondSet_2 (fun r1 => ?_)
  show am_V Z X kX9_secondSet (fun r : Int32 => (some (.int r), R, I, L)) 5 [(0, .ref (am_B Z + a0)), (1, .int x1)] [.int r1] R I L _
  refine am_bipush (v := 63) dX9_secondSet_5 (by decide) ?_
  refine am_iand dX9_secondSet_7 ?_
  exact am_iret dX9_secondSet_8 rfl rfl
abbrev kX9_isGoal : am_K := (cX9_isGoal, 4, RX9, wsX9_isGoal, some .boolean, { frames := 1, cells := 0, slots := 0, locals := 20 })
theorem hX9_isGoal : am_cl yX9_isGoal kX9_isGoal 2 := ⟨⟨_, rfl⟩, rfl, rfl, by decide +kernel, by decide +kernel, by decide +kernel⟩
theorem iX9_isGoal_9 : ∀ w ∈ u_ws RX9 TX9 13, w ∈ wsX9_isGoal := by decide +kernel
theorem fX9_isGoal_68 : Cond.fieldLink RX9 68 "AmbiguityAnalyzer$WordSearch" "goal" "I" ∈ wsX9_isGoal := by decide +kernel
theorem fX9_isGoal_50 : Cond.fieldLink RX9 50 "AmbiguityAnalyzer$WordSearch" "finals" "I" ∈ wsX9_isGoal := by decide +kernel
theorem fX9_isGoal_75 : Cond.fieldLink RX9 75 "AmbiguityAnalyzer$WordSearch" "goalP" "I" ∈ wsX9_isGoal := by decide +kernel
theorem fX9_isGoal_81 : Cond.fieldLink RX9 81 "AmbiguityAnalyzer$WordSearch" "goalQ" "I" ∈ wsX9_isGoal := by decide +kernel
set_option maxRecDepth 100000 in
set_option maxHeartbeats 4000000 in
theorem tX9_isGoal {Z : am_Z} (R : am_R) (I : am_I) (L : am_L) (a0 : Nat) (x1 : Int32) (x2 : Int32) (h_a0 : am_G Z a0 = some (.inl 9)) : am_M Z yX9_isGoal kX9_isGoal [.ref (am_B Z + a0), .int x1, .int x2] R I L (pX9_isGoal I a0 x1 x2) (fun r : Int32 => (some (.int r), R, I, L)) := by
  refine am_entry (ls := [(0, .ref (am_B Z + a0)), (1, .int x1), (2, .int x2)]) (by decide) hX9_isGoal rfl (Nat.le_of_ble_eq_true rfl) rfl (fun X => ?_)
  unfold pX9_isGoal
  refine am_aload_n dX9_isGoal_0 rfl 0 rfl ?_
  refine am_get 9 5 clX9 (Nat.le_of_ble_eq_true rfl) h_a0 iX9_isGoal_9 fX9_isGoal_68 rfl dX9_isGoal_1 ?_
  refine am_iconst (v := 2) dX9_isGoal_4 (by decide) ?_
  refine am_icmp_ne (tgt := 40) dX9_isGoal_5 rfl (fun e1 => ?_) (fun e1 => ?_)
  · refine am_aload_n dX9_isGoal_40 rfl 0 rfl ?_
    refine am_get 9 5 clX9 (Nat.le_of_ble_eq_true rfl) h_a0 iX9_isGoal_9 fX9_isGoal_68 rfl dX9_isGoal_41 ?_
    refine am_iconst (v := 1) dX9_isGoal_44 (by decide) ?_
    refine am_icmp_ne (tgt := 63) dX9_isGoal_45 rfl (fun e2 => ?_) (fun e2 => ?_)
    · refine am_iload_n dX9_isGoal_63 rfl 2 rfl ?_
      refine am_aload_n dX9_isGoal_64 rfl 0 rfl ?_
      refine am_get 9 3 clX9 (Nat.le_of_ble_eq_true rfl) h_a0 iX9_isGoal_9 fX9_isGoal_50 rfl dX9_isGoal_65 ?_
      refine am_iand dX9_isGoal_68 ?_
      refine am_if_ne (tgt := 85) dX9_isGoal_69 rfl (fun e3 => ?_) (fun e3 => ?_)
      · refine am_iconst (v := 1) dX9_isGoal_85 (by decide) ?_
        refine am_goto (tgt := 90) dX9_isGoal_86 rfl ?_
        exact am_zret (by decide) dX9_isGoal_90 rfl rfl
      · refine am_iload_n dX9_isGoal_72 rfl 1 rfl ?_
        refine am_aload_n dX9_isGoal_73 rfl 0 rfl ?_
        refine am_get 9 3 clX9 (Nat.le_of_ble_eq_true rfl) h_a0 iX9_isGoal_9 fX9_isGoal_50 rfl dX9_isGoal_74 ?_
        refine am_iand dX9_isGoal_77 ?_
        refine am_callS [.int (x1 &&& (I a0 3))] (tJ6_bitCount_0f7a4 R I L (x1 &&& (I a0 3))) gX9_isGoal_J6_bitCount_0f7a4 hJ6_bitCount_0f7a4 ⟨Nat.le_of_ble_eq_true rfl, Nat.le_of_ble_eq_true rfl⟩ rfl rfl (Nat.le_of_ble_eq_true rfl) dX9_isGoal_78 (fun r4 => ?_)
        show am_V Z X kX9_isGoal (fun r : Int32 => (some (.int r), R, I, L)) 81 [(0, .ref (am_B Z + a0)), (1, .int x1), (2, .int x2)] [.int r4] R I L _
        refine am_iconst (v := 1) dX9_isGoal_81 (by decide) ?_
        refine am_icmp_le (tgt := 89) dX9_isGoal_82 rfl (fun e5 => ?_) (fun e5 => ?_)
        · refine am_iconst (v := 0) dX9_isGoal_89 (by decide) ?_
          exact am_zret (by decide) dX9_isGoal_90 rfl rfl
        · refine am_iconst (v := 1) dX9_isGoal_85 (by decide) ?_
          refine am_goto (tgt := 90) dX9_isGoal_86 rfl ?_
          exact am_zret (by decide) dX9_isGoal_90 rfl rfl
    · refine am_iload_n dX9_isGoal_48 rfl 2 rfl ?_
      refine am_aload_n dX9_isGoal_49 rfl 0 rfl ?_
      refine am_get 9 6 clX9 (Nat.le_of_ble_eq_true rfl) h_a0 iX9_isGoal_9 fX9_isGoal_75 rfl dX9_isGoal_50 ?_
      refine am_iand dX9_isGoal_53 ?_
      refine am_if_eq (tgt := 61) dX9_isGoal_54 rfl (fun e6 => ?_) (fun e6 => ?_)
      · refine am_iconst (v := 0) dX9_isGoal_61 (by decide) ?_
        exact am_zret (by decide) dX9_isGoal_62 rfl rfl
      · refine am_iconst (v := 1) dX9_isGoal_57 (by decide) ?_
        refine am_goto (tgt := 62) dX9_isGoal_58 rfl ?_
        exact am_zret (by decide) dX9_isGoal_62 rfl rfl
  · refine am_aload_n dX9_isGoal_8 rfl 0 rfl ?_
    refine am_get 9 6 clX9 (Nat.le_of_ble_eq_true rfl) h_a0 iX9_isGoal_9 fX9_isGoal_75 rfl dX9_isGoal_9 ?_
    refine am_aload_n dX9_isGoal_12 rfl 0 rfl ?_
    refine am_get 9 7 clX9 (Nat.le_of_ble_eq_true rfl) h_a0 iX9_isGoal_9 fX9_isGoal_81 rfl dX9_isGoal_13 ?_
    refine am_ior dX9_isGoal_16 ?_
    refine am_letTi (fun v7 => ?_)
    refine am_istore_n (ls' := [(3, .int v7), (0, .ref (am_B Z + a0)), (1, .int x1), (2, .int x2)]) dX9_isGoal_17 rfl (Nat.le_of_ble_eq_true rfl) rfl ?_
    refine am_iload_n dX9_isGoal_18 rfl 2 rfl ?_
    refine am_iload_n dX9_isGoal_19 rfl 0 rfl ?_
    refine am_iand dX9_isGoal_20 ?_
    refine am_iload_n dX9_isGoal_21 rfl 0 rfl ?_
    refine am_icmp_ne (tgt := 38) dX9_isGoal_22 rfl (fun e8 => ?_) (fun e8 => ?_)
    · refine am_iconst (v := 0) dX9_isGoal_38 (by decide) ?_
      exact am_zret (by decide) dX9_isGoal_39 rfl rfl
    · refine am_iload_n dX9_isGoal_25 rfl 3 rfl ?_
      refine am_aload_n dX9_isGoal_26 rfl 1 rfl ?_
      refine am_get 9 7 clX9 (Nat.le_of_ble_eq_true rfl) h_a0 iX9_isGoal_9 fX9_isGoal_81 rfl dX9_isGoal_27 ?_
      refine am_iand dX9_isGoal_30 ?_
      refine am_if_eq (tgt := 38) dX9_isGoal_31 rfl (fun e9 => ?_) (fun e9 => ?_)
      · refine am_iconst (v := 0) dX9_isGoal_38 (by decide) ?_
        exact am_zret (by decide) dX9_isGoal_39 rfl rfl
      · refine am_iconst (v := 1) dX9_isGoal_34 (by decide) ?_
        refine am_goto (tgt := 39) dX9_isGoal_35 rfl ?_
        exact am_zret (by decide) dX9_isGoal_39 rfl rfl
abbrev kX9_goOn : am_K := (cX9_goOn, 7, RX9, wsX9_goOn, none, { frames := 2, cells := 0, slots := 0, locals := 42 })
theorem hX9_goOn : am_cl yX9_goOn kX9_goOn 2 := ⟨⟨_, rfl⟩, rfl, rfl, by decide +kernel, by decide +kernel, by decide +kernel⟩
theorem iX9_goOn_9 : ∀ w ∈ u_ws RX9 TX9 13, w ∈ wsX9_goOn := by decide +kernel
theorem fX9_goOn_14 : Cond.fieldLink RX9 14 "AmbiguityAnalyzer$WordSearch" "steps" "LAmbiguityAnalyzer$Steps;" ∈ wsX9_goOn := by decide +kernel
theorem fX9_goOn_68 : Cond.fieldLink RX9 68 "AmbiguityAnalyzer$WordSearch" "goal" "I" ∈ wsX9_goOn := by decide +kernel
set_option maxRecDepth 100000 in
set_option maxHeartbeats 4000000 in
theorem tX9_goOn {Z : am_Z} (R : am_R) (I : am_I) (L : am_L) (a0 : Nat) (x1 : Int32) (x2 : Int32) (h_a0 : am_G Z a0 = some (.inl 9)) : am_M Z yX9_goOn kX9_goOn [.ref (am_B Z + a0), .int x1, .int x2] R I L (pX9_goOn R I L a0 x1 x2) (fun r : am_I × am_L => (none, R, r.1, r.2)) := by
  refine am_entry (ls := [(0, .ref (am_B Z + a0)), (1, .int x1), (2, .int x2)]) (by decide) hX9_goOn rfl (Nat.le_of_ble_eq_true rfl) rfl (fun X => ?_)
  unfold pX9_goOn
  refine am_aload_n dX9_goOn_0 rfl 0 rfl ?_
  refine am_iload_n dX9_goOn_1 rfl 1 rfl ?_
  refine am_callV [.int x1] (tX9_firstSet R I L a0 x1 h_a0) h_a0 clX9 gX9_goOn_X9_firstSet hX9_firstSet rfl ⟨Nat.le_of_ble_eq_true rfl, Nat.le_of_ble_eq_true rfl⟩ rfl rfl (Nat.le_of_ble_eq_true rfl) dX9_goOn_2 (fun r1 => ?_)
  show am_V Z X kX9_goOn (fun r : am_I × am_L => (none, R, r.1, r.2)) 5 [(0, .ref (am_B Z + a0)), (1, .int x1), (2, .int x2)] [.int r1] R I L _
  refine am_istore_n (ls' := [(3, .int r1), (0, .ref (am_B Z + a0)), (1, .int x1), (2, .int x2)]) dX9_goOn_5 rfl (Nat.le_of_ble_eq_true rfl) rfl ?_
  refine am_aload_n dX9_goOn_6 rfl 1 rfl ?_
  refine am_iload_n dX9_goOn_7 rfl 2 rfl ?_
  refine am_callV [.int x1] (tX9_secondSet R I L a0 x1 h_a0) h_a0 clX9 gX9_goOn_X9_secondSet hX9_secondSet rfl ⟨Nat.le_of_ble_eq_true rfl, Nat.le_of_ble_eq_true rfl⟩ rfl rfl (Nat.le_of_ble_eq_true rfl) dX9_goOn_8 (fun r2 => ?_)
  show am_V Z X kX9_goOn (fun r : am_I × am_L => (none, R, r.1, r.2)) 11 [(3, .int r1), (0, .ref (am_B Z + a0)), (1, .int x1), (2, .int x2)] [.int r2] R I L _
  refine am_istore (ls' := [(4, .int r2), (3, .int r1), (0, .ref (am_B Z + a0)), (1, .int x1), (2, .int x2)]) dX9_goOn_11 (Nat.le_of_ble_eq_true rfl) rfl ?_
  refine am_aload_n dX9_goOn_13 rfl 2 rfl ?_
  refine am_getR 9 0 clX9 (Nat.le_of_ble_eq_true rfl) h_a0 iX9_goOn_9 fX9_goOn_14 rfl rfl dX9_goOn_14 (fun h3 => ?_)
  refine am_iload_n dX9_goOn_17 rfl 1 rfl ?_
  refine am_iload_n dX9_goOn_18 rfl 4 rfl ?_
  refine am_callV [.int r1, .int x2] (tX6_reachedOnce R I L (R a0 0) r1 x2 h3) h3 clX6 gX9_goOn_X6_reachedOnce hX6_reachedOnce rfl ⟨Nat.le_of_ble_eq_true rfl, Nat.le_of_ble_eq_true rfl⟩ rfl rfl (Nat.le_of_ble_eq_true rfl) dX9_goOn_19 (fun r4 => ?_)
  show am_V Z X kX9_goOn (fun r : am_I × am_L => (none, R, r.1, r.2)) 22 [(4, .int r2), (3, .int r1), (0, .ref (am_B Z + a0)), (1, .int x1), (2, .int x2)] [.int r4] R I L _
  refine am_istore (ls' := [(5, .int r4), (4, .int r2), (3, .int r1), (0, .ref (am_B Z + a0)), (1, .int x1), (2, .int x2)]) dX9_goOn_22 (Nat.le_of_ble_eq_true rfl) rfl ?_
  refine am_aload_n dX9_goOn_24 rfl 3 rfl ?_
  refine am_getR 9 0 clX9 (Nat.le_of_ble_eq_true rfl) h_a0 iX9_goOn_9 fX9_goOn_14 rfl rfl dX9_goOn_25 (fun h5 => ?_)
  refine am_iload dX9_goOn_28 1 rfl ?_
  refine am_iload_n dX9_goOn_30 rfl 5 rfl ?_
  refine am_callV [.int r2, .int x2] (tX6_reachedOnce R I L (R a0 0) r2 x2 h5) h5 clX6 gX9_goOn_X6_reachedOnce hX6_reachedOnce rfl ⟨Nat.le_of_ble_eq_true rfl, Nat.le_of_ble_eq_true rfl⟩ rfl rfl (Nat.le_of_ble_eq_true rfl) dX9_goOn_31 (fun r6 => ?_)
  show am_V Z X kX9_goOn (fun r : am_I × am_L => (none, R, r.1, r.2)) 34 [(5, .int r4), (4, .int r2), (3, .int r1), (0, .ref (am_B Z + a0)), (1, .int x1), (2, .int x2)] [.int r6] R I L _
  refine am_istore (ls' := [(6, .int r6), (5, .int r4), (4, .int r2), (3, .int r1), (0, .ref (am_B Z + a0)), (1, .int x1), (2, .int x2)]) dX9_goOn_34 (Nat.le_of_ble_eq_true rfl) rfl ?_
  refine am_aload_n dX9_goOn_36 rfl 4 rfl ?_
  refine am_get 9 5 clX9 (Nat.le_of_ble_eq_true rfl) h_a0 iX9_goOn_9 fX9_goOn_68 rfl dX9_goOn_37 ?_
  refine am_iconst (v := 2) dX9_goOn_40 (by decide) ?_
  refine am_jnV (fun j7 ej7 => ?_)
  have hj7 : ∀ (v8 : Int32), am_V Z X kX9_goOn (fun r : am_I × am_L => (none, R, r.1, r.2)) 63 [(0, .ref (am_B Z + a0)), (1, .int x1), (2, .int x2), (5, .int r4), (6, .int v8)] [] R I L (j7 v8) := by
    subst ej7
    intro v8
    show am_V Z X kX9_goOn (fun r : am_I × am_L => (none, R, r.1, r.2)) 63 [(0, .ref (am_B Z + a0)), (1, .int x1), (2, .int x2), (5, .int r4), (6, .int v8)] [] R I L _
    refine am_aload_n dX9_goOn_63 rfl 0 rfl ?_
    refine am_iload dX9_goOn_64 3 rfl ?_
    refine am_iload dX9_goOn_66 4 rfl ?_
    refine am_iload_n dX9_goOn_68 rfl 1 rfl ?_
    refine am_bipush (v := 14) dX9_goOn_69 (by decide) ?_
    refine am_ishl dX9_goOn_71 ?_
    refine am_iload_n dX9_goOn_72 rfl 2 rfl ?_
    refine am_bipush (v := 12) dX9_goOn_73 (by decide) ?_
    refine am_ishl dX9_goOn_75 ?_
    refine am_ior dX9_goOn_76 ?_
    refine am_callV [.int r4, .int v8, .int ((x1 <<< ((14 : Int32) &&& 31)) ||| (x2 <<< ((12 : Int32) &&& 31)))] (tX9_meet R I L a0 r4 v8 ((x1 <<< ((14 : Int32) &&& 31)) ||| (x2 <<< ((12 : Int32) &&& 31))) h_a0) h_a0 clX9 gX9_goOn_X9_meet hX9_meet rfl ⟨Nat.le_of_ble_eq_true rfl, Nat.le_of_ble_eq_true rfl⟩ rfl rfl (Nat.le_of_ble_eq_true rfl) dX9_goOn_77 (fun r9 => ?_)
    show am_V Z X kX9_goOn (fun r : am_I × am_L => (none, R, r.1, r.2)) 80 [(0, .ref (am_B Z + a0)), (1, .int x1), (2, .int x2), (5, .int r4), (6, .int v8)] [] R r9.1 r9.2 _
    exact am_vret dX9_goOn_80 rfl rfl
  refine am_icmp_eq (tgt := 63) dX9_goOn_41 rfl (fun e10 => ?_) (fun e10 => ?_)
  · refine am_sub (ls' := [(0, .ref (am_B Z + a0)), (1, .int x1), (2, .int x2), (5, .int r4), (6, .int r6)]) [4, 5, 6, 1, 0] rfl ?_
    exact hj7 r6
  · refine am_iload dX9_goOn_44 0 rfl ?_
    refine am_aload_n dX9_goOn_46 rfl 4 rfl ?_
    refine am_getR 9 0 clX9 (Nat.le_of_ble_eq_true rfl) h_a0 iX9_goOn_9 fX9_goOn_14 rfl rfl dX9_goOn_47 (fun h11 => ?_)
    refine am_iload_n dX9_goOn_50 rfl 3 rfl ?_
    refine am_iload dX9_goOn_51 2 rfl ?_
    refine am_iconst (v := -1) dX9_goOn_53 (by decide) ?_
    refine am_ixor dX9_goOn_54 ?_
    refine am_iand dX9_goOn_55 ?_
    refine am_iload_n dX9_goOn_56 rfl 6 rfl ?_
    refine am_callV [.int (r1 &&& (r2 ^^^ (-1 : Int32))), .int x2] (tX6_reachedTwice R I L (R a0 0) (r1 &&& (r2 ^^^ (-1 : Int32))) x2 h11) h11 clX6 gX9_goOn_X6_reachedTwice hX6_reachedTwice rfl ⟨Nat.le_of_ble_eq_true rfl, Nat.le_of_ble_eq_true rfl⟩ rfl rfl (Nat.le_of_ble_eq_true rfl) dX9_goOn_57 (fun r12 => ?_)
    show am_V Z X kX9_goOn (fun r : am_I × am_L => (none, R, r.1, r.2)) 60 [(6, .int r6), (5, .int r4), (4, .int r2), (3, .int r1), (0, .ref (am_B Z + a0)), (1, .int x1), (2, .int x2)] [.int r12, .int r6] R I L _
    refine am_ior dX9_goOn_60 ?_
    refine am_letTi (fun v13 => ?_)
    refine am_istore (ls' := [(6, .int v13), (5, .int r4), (4, .int r2), (3, .int r1), (0, .ref (am_B Z + a0)), (1, .int x1), (2, .int x2)]) dX9_goOn_61 (Nat.le_of_ble_eq_true rfl) rfl ?_
    refine am_sub (ls' := [(0, .ref (am_B Z + a0)), (1, .int x1), (2, .int x2), (5, .int r4), (6, .int v13)]) [4, 5, 6, 1, 0] rfl ?_
    exact hj7 v13
abbrev kX9_run : am_K := (cX9_run, 5, RX9, wsX9_run, some .boolean, { frames := 3, cells := 0, slots := 0, locals := 68 })
theorem hX9_run : am_cl yX9_run kX9_run 2 := ⟨⟨_, rfl⟩, rfl, rfl, by decide +kernel, by decide +kernel, by decide +kernel⟩
theorem iX9_run_9 : ∀ w ∈ u_ws RX9 TX9 13, w ∈ wsX9_run := by decide +kernel
theorem fX9_run_26 : Cond.fieldLink RX9 26 "AmbiguityAnalyzer$WordSearch" "met" "[J" ∈ wsX9_run := by decide +kernel
theorem fX9_run_109 : Cond.fieldLink RX9 109 "AmbiguityAnalyzer$WordSearch" "nodeCount" "I" ∈ wsX9_run := by decide +kernel
theorem fX9_run_22 : Cond.fieldLink RX9 22 "AmbiguityAnalyzer$WordSearch" "foundNode" "I" ∈ wsX9_run := by decide +kernel
theorem fX9_run_18 : Cond.fieldLink RX9 18 "AmbiguityAnalyzer$WordSearch" "nodes" "[I" ∈ wsX9_run := by decide +kernel
set_option maxRecDepth 100000 in
set_option maxHeartbeats 4000000 in
theorem vX9_run_84 {Z : am_Z} {X : am_X} (R : am_R) (a0 : Nat) (v7 : Int32) (h21 : am_G Z a0 = some (.inl 9)) (j18 : am_I → am_L → Option (Int32 × am_I × am_L)) (hj18 : ∀ (J19 : am_I) (J20 : am_L), am_V Z X kX9_run (fun r : Int32 × am_I × am_L => (some (.int r.1), R, r.2.1, r.2.2)) 103 [(0, .ref (am_B Z + a0)), (3, .int v7)] [] R J19 J20 (j18 J19 J20)) (ih25 : Int32 → am_I → am_L → Option (Int32 × am_I × am_L)) (hih25 : ∀ (v22 : Int32) (J23 : am_I) (J24 : am_L), am_V Z X kX9_run (fun r : Int32 × am_I × am_L => (some (.int r.1), R, r.2.1, r.2.2)) 84 [(0, .ref (am_B Z + a0)), (3, .int v7), (4, .int v22)] [] R J23 J24 (ih25 v22 J23 J24)) (v22 : Int32) (J23 : am_I) (J24 : am_L) : am_V Z X kX9_run (fun r : Int32 × am_I × am_L => (some (.int r.1), R, r.2.1, r.2.2)) 84 [(0, .ref (am_B Z + a0)), (3, .int v7), (4, .int v22)] [] R J23 J24 (sX9_run_84 R a0 v7 j18 ih25 v22 J23 J24) := by
  unfold sX9_run_84
  refine am_iload dX9_run_84 2 rfl ?_
  refine am_iconst (v := 3) dX9_run_86 (by decide) ?_
  refine am_icmp_ge (tgt := 103) dX9_run_87 rfl (fun e26 => ?_) (fun e26 => ?_)
  · refine am_sub (ls' := [(0, .ref (am_B Z + a0)), (3, .int v7)]) [0, 1] rfl ?_
    exact hj18 J23 J24
  · refine am_aload_n dX9_run_90 rfl 0 rfl ?_
    refine am_iload_n dX9_run_91 rfl 1 rfl ?_
    refine am_iload dX9_run_92 2 rfl ?_
    refine am_callV [.int v7, .int v22] (tX9_goOn R J23 J24 a0 v7 v22 h21) h21 clX9 gX9_run_X9_goOn hX9_goOn rfl ⟨Nat.le_of_ble_eq_true rfl, Nat.le_of_ble_eq_true rfl⟩ rfl rfl (Nat.le_of_ble_eq_true rfl) dX9_run_94 (fun r27 => ?_)
    show am_V Z X kX9_run (fun r : Int32 × am_I × am_L => (some (.int r.1), R, r.2.1, r.2.2)) 97 [(0, .ref (am_B Z + a0)), (3, .int v7), (4, .int v22)] [] R r27.1 r27.2 _
    refine am_iinc (j := 2) (ls' := [(4, .int (v22 + (1 : Int32))), (0, .ref (am_B Z + a0)), (3, .int v7)]) dX9_run_97 rfl rfl (Nat.le_of_ble_eq_true rfl) rfl ?_
    refine am_goto (tgt := 84) dX9_run_100 rfl ?_
    refine am_sub (ls' := [(0, .ref (am_B Z + a0)), (3, .int v7), (4, .int (v22 + (1 : Int32)))]) [1, 2, 0] rfl ?_
    exact hih25 (v22 + (1 : Int32)) r27.1 r27.2
theorem uX9_run_84 {Z : am_Z} {X : am_X} (R : am_R) (a0 : Nat) (v7 : Int32) (h21 : am_G Z a0 = some (.inl 9)) (j18 : am_I → am_L → Option (Int32 × am_I × am_L)) (hj18 : ∀ (J19 : am_I) (J20 : am_L), am_V Z X kX9_run (fun r : Int32 × am_I × am_L => (some (.int r.1), R, r.2.1, r.2.2)) 103 [(0, .ref (am_B Z + a0)), (3, .int v7)] [] R J19 J20 (j18 J19 J20)) : ∀ (n : Nat) (v22 : Int32) (J23 : am_I) (J24 : am_L), am_V Z X kX9_run (fun r : Int32 × am_I × am_L => (some (.int r.1), R, r.2.1, r.2.2)) 84 [(0, .ref (am_B Z + a0)), (3, .int v7), (4, .int v22)] [] R J23 J24 (lX9_run_84 R a0 v7 j18 n v22 J23 J24) := by
  intro n
  induction n with
  | zero => intro _ _ _; exact am_none
  | succ n ih => exact fun v22 J23 J24 => vX9_run_84 R a0 v7 h21 j18 hj18 (lX9_run_84 R a0 v7 j18 n) ih v22 J23 J24
set_option maxRecDepth 100000 in
set_option maxHeartbeats 4000000 in
theorem vX9_run_40 {Z : am_Z} {X : am_X} (R : am_R) (a0 : Nat) (h6 : am_G Z a0 = some (.inl 9)) (ih10 : Int32 → am_I → am_L → Option (Int32 × am_I × am_L)) (hih10 : ∀ (v7 : Int32) (J8 : am_I) (J9 : am_L), am_V Z X kX9_run (fun r : Int32 × am_I × am_L => (some (.int r.1), R, r.2.1, r.2.2)) 40 [(0, .ref (am_B Z + a0)), (3, .int v7)] [] R J8 J9 (ih10 v7 J8 J9)) (v7 : Int32) (J8 : am_I) (J9 : am_L) : am_V Z X kX9_run (fun r : Int32 × am_I × am_L => (some (.int r.1), R, r.2.1, r.2.2)) 40 [(0, .ref (am_B Z + a0)), (3, .int v7)] [] R J8 J9 (sX9_run_40 R a0 ih10 v7 J8 J9) := by
  unfold sX9_run_40
  refine am_iload_n dX9_run_40 rfl 1 rfl ?_
  refine am_aload_n dX9_run_41 rfl 0 rfl ?_
  refine am_get 9 9 clX9 (Nat.le_of_ble_eq_true rfl) h6 iX9_run_9 fX9_run_109 rfl dX9_run_42 ?_
  refine am_icmp_ge (tgt := 109) dX9_run_45 rfl (fun e11 => ?_) (fun e11 => ?_)
  · refine am_iconst (v := 0) dX9_run_109 (by decide) ?_
    exact am_zret (by decide) dX9_run_110 rfl rfl
  · refine am_iload_n dX9_run_48 rfl 1 rfl ?_
    refine am_aload_n dX9_run_49 rfl 0 rfl ?_
    refine am_getR 9 8 clX9 (Nat.le_of_ble_eq_true rfl) h6 iX9_run_9 fX9_run_18 rfl rfl dX9_run_50 (fun h12 => ?_)
    refine am_alen (t := 0) (v := 4096) rfl h12 (by decide) dX9_run_53 ?_
    refine am_icmp_ge (tgt := 109) dX9_run_54 rfl (fun e13 => ?_) (fun e13 => ?_)
    · refine am_iconst (v := 0) dX9_run_109 (by decide) ?_
      exact am_zret (by decide) dX9_run_110 rfl rfl
    · refine am_aload_n dX9_run_57 rfl 0 rfl ?_
      refine am_aload_n dX9_run_58 rfl 0 rfl ?_
      refine am_iload_n dX9_run_59 rfl 1 rfl ?_
      refine am_callV [.int v7] (tX9_firstSet R J8 J9 a0 v7 h6) h6 clX9 gX9_run_X9_firstSet hX9_firstSet rfl ⟨Nat.le_of_ble_eq_true rfl, Nat.le_of_ble_eq_true rfl⟩ rfl rfl (Nat.le_of_ble_eq_true rfl) dX9_run_60 (fun r14 => ?_)
      show am_V Z X kX9_run (fun r : Int32 × am_I × am_L => (some (.int r.1), R, r.2.1, r.2.2)) 63 [(0, .ref (am_B Z + a0)), (3, .int v7)] [.int r14, .ref (am_B Z + a0)] R J8 J9 _
      refine am_aload_n dX9_run_63 rfl 0 rfl ?_
      refine am_iload_n dX9_run_64 rfl 1 rfl ?_
      refine am_callV [.int v7] (tX9_secondSet R J8 J9 a0 v7 h6) h6 clX9 gX9_run_X9_secondSet hX9_secondSet rfl ⟨Nat.le_of_ble_eq_true rfl, Nat.le_of_ble_eq_true rfl⟩ rfl rfl (Nat.le_of_ble_eq_true rfl) dX9_run_65 (fun r15 => ?_)
      show am_V Z X kX9_run (fun r : Int32 × am_I × am_L => (some (.int r.1), R, r.2.1, r.2.2)) 68 [(0, .ref (am_B Z + a0)), (3, .int v7)] [.int r15, .int r14, .ref (am_B Z + a0)] R J8 J9 _
      refine am_callV [.int r14, .int r15] (tX9_isGoal R J8 J9 a0 r14 r15 h6) h6 clX9 gX9_run_X9_isGoal hX9_isGoal rfl ⟨Nat.le_of_ble_eq_true rfl, Nat.le_of_ble_eq_true rfl⟩ rfl rfl (Nat.le_of_ble_eq_true rfl) dX9_run_68 (fun r16 => ?_)
      show am_V Z X kX9_run (fun r : Int32 × am_I × am_L => (some (.int r.1), R, r.2.1, r.2.2)) 71 [(0, .ref (am_B Z + a0)), (3, .int v7)] [.int r16] R J8 J9 _
      refine am_if_eq (tgt := 81) dX9_run_71 rfl (fun e17 => ?_) (fun e17 => ?_)
      · refine am_iconst (v := 0) dX9_run_81 (by decide) ?_
        refine am_istore (ls' := [(4, .int (0 : Int32)), (0, .ref (am_B Z + a0)), (3, .int v7)]) dX9_run_82 (Nat.le_of_ble_eq_true rfl) rfl ?_
        refine am_jnV (fun j18 ej18 => ?_)
        have hj18 : ∀ (J19 : am_I) (J20 : am_L), am_V Z X kX9_run (fun r : Int32 × am_I × am_L => (some (.int r.1), R, r.2.1, r.2.2)) 103 [(0, .ref (am_B Z + a0)), (3, .int v7)] [] R J19 J20 (j18 J19 J20) := by
          subst ej18
          intro J19 J20
          show am_V Z X kX9_run (fun r : Int32 × am_I × am_L => (some (.int r.1), R, r.2.1, r.2.2)) 103 [(0, .ref (am_B Z + a0)), (3, .int v7)] [] R J19 J20 _
          refine am_iinc (j := 1) (ls' := [(3, .int (v7 + (1 : Int32))), (0, .ref (am_B Z + a0))]) dX9_run_103 rfl rfl (Nat.le_of_ble_eq_true rfl) rfl ?_
          refine am_goto (tgt := 40) dX9_run_106 rfl ?_
          refine am_sub (ls' := [(0, .ref (am_B Z + a0)), (3, .int (v7 + (1 : Int32)))]) [1, 0] rfl ?_
          exact hih10 (v7 + (1 : Int32)) J19 J20
        refine am_sub (ls' := [(0, .ref (am_B Z + a0)), (3, .int v7), (4, .int (0 : Int32))]) [1, 2, 0] rfl ?_
        exact uX9_run_84 R a0 v7 h6 j18 hj18 am_fu (0 : Int32) J8 J9
      · refine am_aload_n dX9_run_74 rfl 0 rfl ?_
        refine am_iload_n dX9_run_75 rfl 1 rfl ?_
        refine am_putI 9 10 clX9 (Nat.le_of_ble_eq_true rfl) h6 iX9_run_9 fX9_run_22 rfl rfl dX9_run_76 ?_
        refine am_letI (fun J28 => ?_)
        refine am_iconst (v := 1) dX9_run_79 (by decide) ?_
        exact am_zret (by decide) dX9_run_80 rfl rfl
theorem uX9_run_40 {Z : am_Z} {X : am_X} (R : am_R) (a0 : Nat) (h6 : am_G Z a0 = some (.inl 9)) : ∀ (n : Nat) (v7 : Int32) (J8 : am_I) (J9 : am_L), am_V Z X kX9_run (fun r : Int32 × am_I × am_L => (some (.int r.1), R, r.2.1, r.2.2)) 40 [(0, .ref (am_B Z + a0)), (3, .int v7)] [] R J8 J9 (lX9_run_40 R a0 n v7 J8 J9) := by
  intro n
  induction n with
  | zero => intro _ _ _; exact am_none
  | succ n ih => exact fun v7 J8 J9 => vX9_run_40 R a0 h6 (lX9_run_40 R a0 n) ih v7 J8 J9
set_option maxRecDepth 100000 in
set_option maxHeartbeats 4000000 in
theorem vX9_run_2 {Z : am_Z} {X : am_X} (R : am_R) (I : am_I) (a0 : Nat) (x1 : Int32) (x2 : Int32) (h29 : am_G Z a0 = some (.inl 9)) (j1 : am_L → Option (Int32 × am_I × am_L)) (hj1 : ∀ (J2 : am_L), am_V Z X kX9_run (fun r : Int32 × am_I × am_L => (some (.int r.1), R, r.2.1, r.2.2)) 21 [(0, .ref (am_B Z + a0)), (1, .int x1), (2, .int x2)] [] R I J2 (j1 J2)) (ih32 : Int32 → am_L → Option (Int32 × am_I × am_L)) (hih32 : ∀ (v30 : Int32) (J31 : am_L), am_V Z X kX9_run (fun r : Int32 × am_I × am_L => (some (.int r.1), R, r.2.1, r.2.2)) 2 [(0, .ref (am_B Z + a0)), (1, .int x1), (2, .int x2), (3, .int v30)] [] R I J31 (ih32 v30 J31)) (v30 : Int32) (J31 : am_L) : am_V Z X kX9_run (fun r : Int32 × am_I × am_L => (some (.int r.1), R, r.2.1, r.2.2)) 2 [(0, .ref (am_B Z + a0)), (1, .int x1), (2, .int x2), (3, .int v30)] [] R I J31 (sX9_run_2 R I a0 x1 x2 j1 ih32 v30 J31) := by
  unfold sX9_run_2
  refine am_iload_n dX9_run_2 rfl 3 rfl ?_
  refine am_bipush (v := 64) dX9_run_3 (by decide) ?_
  refine am_icmp_ge (tgt := 21) dX9_run_5 rfl (fun e33 => ?_) (fun e33 => ?_)
  · refine am_sub (ls' := [(0, .ref (am_B Z + a0)), (1, .int x1), (2, .int x2)]) [0, 1, 2] rfl ?_
    exact hj1 J31
  · refine am_aload_n dX9_run_8 rfl 0 rfl ?_
    refine am_getR 9 11 clX9 (Nat.le_of_ble_eq_true rfl) h29 iX9_run_9 fX9_run_26 rfl rfl dX9_run_9 (fun h34 => ?_)
    refine am_iload_n dX9_run_12 rfl 3 rfl ?_
    refine am_lconst (v := 0) dX9_run_13 (by decide) ?_
    refine am_last h34 dX9_run_14 ?_
    refine am_letL (fun J35 => ?_)
    refine am_iinc (j := 3) (ls' := [(3, .int (v30 + (1 : Int32))), (0, .ref (am_B Z + a0)), (1, .int x1), (2, .int x2)]) dX9_run_15 rfl rfl (Nat.le_of_ble_eq_true rfl) rfl ?_
    refine am_goto (tgt := 2) dX9_run_18 rfl ?_
    refine am_sub (ls' := [(0, .ref (am_B Z + a0)), (1, .int x1), (2, .int x2), (3, .int (v30 + (1 : Int32)))]) [1, 2, 3, 0] rfl ?_
    exact hih32 (v30 + (1 : Int32)) J35
theorem uX9_run_2 {Z : am_Z} {X : am_X} (R : am_R) (I : am_I) (a0 : Nat) (x1 : Int32) (x2 : Int32) (h29 : am_G Z a0 = some (.inl 9)) (j1 : am_L → Option (Int32 × am_I × am_L)) (hj1 : ∀ (J2 : am_L), am_V Z X kX9_run (fun r : Int32 × am_I × am_L => (some (.int r.1), R, r.2.1, r.2.2)) 21 [(0, .ref (am_B Z + a0)), (1, .int x1), (2, .int x2)] [] R I J2 (j1 J2)) : ∀ (n : Nat) (v30 : Int32) (J31 : am_L), am_V Z X kX9_run (fun r : Int32 × am_I × am_L => (some (.int r.1), R, r.2.1, r.2.2)) 2 [(0, .ref (am_B Z + a0)), (1, .int x1), (2, .int x2), (3, .int v30)] [] R I J31 (lX9_run_2 R I a0 x1 x2 j1 n v30 J31) := by
  intro n
  induction n with
  | zero => intro _ _; exact am_none
  | succ n ih => exact fun v30 J31 => vX9_run_2 R I a0 x1 x2 h29 j1 hj1 (lX9_run_2 R I a0 x1 x2 j1 n) ih v30 J31
set_option maxRecDepth 100000 in
set_option maxHeartbeats 4000000 in
theorem tX9_run {Z : am_Z} (R : am_R) (I : am_I) (L : am_L) (a0 : Nat) (x1 : Int32) (x2 : Int32) (h_a0 : am_G Z a0 = some (.inl 9)) : am_M Z yX9_run kX9_run [.ref (am_B Z + a0), .int x1, .int x2] R I L (pX9_run R I L a0 x1 x2) (fun r : Int32 × am_I × am_L => (some (.int r.1), R, r.2.1, r.2.2)) := by
  refine am_entry (ls := [(0, .ref (am_B Z + a0)), (1, .int x1), (2, .int x2)]) (by decide) hX9_run rfl (Nat.le_of_ble_eq_true rfl) rfl (fun X => ?_)
  unfold pX9_run
  refine am_iconst (v := 0) dX9_run_0 (by decide) ?_
  refine am_istore_n (ls' := [(3, .int (0 : Int32)), (0, .ref (am_B Z + a0)), (1, .int x1), (2, .int x2)]) dX9_run_1 rfl (Nat.le_of_ble_eq_true rfl) rfl ?_
  refine am_jnV (fun j1 ej1 => ?_)
  have hj1 : ∀ (J2 : am_L), am_V Z X kX9_run (fun r : Int32 × am_I × am_L => (some (.int r.1), R, r.2.1, r.2.2)) 21 [(0, .ref (am_B Z + a0)), (1, .int x1), (2, .int x2)] [] R I J2 (j1 J2) := by
    subst ej1
    intro J2
    show am_V Z X kX9_run (fun r : Int32 × am_I × am_L => (some (.int r.1), R, r.2.1, r.2.2)) 21 [(0, .ref (am_B Z + a0)), (1, .int x1), (2, .int x2)] [] R I J2 _
    refine am_aload_n dX9_run_21 rfl 0 rfl ?_
    refine am_iconst (v := 0) dX9_run_22 (by decide) ?_
    refine am_putI 9 9 clX9 (Nat.le_of_ble_eq_true rfl) h_a0 iX9_run_9 fX9_run_109 rfl rfl dX9_run_23 ?_
    refine am_letI (fun J3 => ?_)
    refine am_aload_n dX9_run_26 rfl 0 rfl ?_
    refine am_iconst (v := -1) dX9_run_27 (by decide) ?_
    refine am_putI 9 10 clX9 (Nat.le_of_ble_eq_true rfl) h_a0 iX9_run_9 fX9_run_22 rfl rfl dX9_run_28 ?_
    refine am_letI (fun J4 => ?_)
    refine am_aload_n dX9_run_31 rfl 0 rfl ?_
    refine am_iload_n dX9_run_32 rfl 1 rfl ?_
    refine am_iload_n dX9_run_33 rfl 2 rfl ?_
    refine am_iconst (v := 0) dX9_run_34 (by decide) ?_
    refine am_callV [.int x1, .int x2, .int (0 : Int32)] (tX9_meet R J4 J2 a0 x1 x2 (0 : Int32) h_a0) h_a0 clX9 gX9_run_X9_meet hX9_meet rfl ⟨Nat.le_of_ble_eq_true rfl, Nat.le_of_ble_eq_true rfl⟩ rfl rfl (Nat.le_of_ble_eq_true rfl) dX9_run_35 (fun r5 => ?_)
    show am_V Z X kX9_run (fun r : Int32 × am_I × am_L => (some (.int r.1), R, r.2.1, r.2.2)) 38 [(0, .ref (am_B Z + a0)), (1, .int x1), (2, .int x2)] [] R r5.1 r5.2 _
    refine am_iconst (v := 0) dX9_run_38 (by decide) ?_
    refine am_istore_n (ls' := [(3, .int (0 : Int32)), (0, .ref (am_B Z + a0)), (1, .int x1), (2, .int x2)]) dX9_run_39 rfl (Nat.le_of_ble_eq_true rfl) rfl ?_
    refine am_sub (ls' := [(0, .ref (am_B Z + a0)), (3, .int (0 : Int32))]) [1, 0] rfl ?_
    exact uX9_run_40 R a0 h_a0 am_fu (0 : Int32) r5.1 r5.2
  refine am_sub (ls' := [(0, .ref (am_B Z + a0)), (1, .int x1), (2, .int x2), (3, .int (0 : Int32))]) [1, 2, 3, 0] rfl ?_
  exact uX9_run_2 R I a0 x1 x2 h_a0 j1 hj1 am_fu (0 : Int32) L
abbrev kX9_findAmbiguousWord : am_K := (cX9_findAmbiguousWord, 1, RX9, wsX9_findAmbiguousWord, some .boolean, { frames := 4, cells := 0, slots := 0, locals := 92 })
theorem hX9_findAmbiguousWord : am_cl yX9_findAmbiguousWord kX9_findAmbiguousWord 0 := ⟨⟨_, rfl⟩, rfl, rfl, by decide +kernel, by decide +kernel, by decide +kernel⟩
theorem iX9_findAmbiguousWord_9 : ∀ w ∈ u_ws RX9 TX9 13, w ∈ wsX9_findAmbiguousWord := by decide +kernel
theorem fX9_findAmbiguousWord_68 : Cond.fieldLink RX9 68 "AmbiguityAnalyzer$WordSearch" "goal" "I" ∈ wsX9_findAmbiguousWord := by decide +kernel
theorem fX9_findAmbiguousWord_46 : Cond.fieldLink RX9 46 "AmbiguityAnalyzer$WordSearch" "initials" "I" ∈ wsX9_findAmbiguousWord := by decide +kernel
set_option maxRecDepth 100000 in
set_option maxHeartbeats 4000000 in
theorem tX9_findAmbiguousWord {Z : am_Z} (R : am_R) (I : am_I) (L : am_L) (a0 : Nat) (h_a0 : am_G Z a0 = some (.inl 9)) : am_M Z yX9_findAmbiguousWord kX9_findAmbiguousWord [.ref (am_B Z + a0)] R I L (pX9_findAmbiguousWord R I L a0) (fun r : Int32 × am_I × am_L => (some (.int r.1), R, r.2.1, r.2.2)) := by
  refine am_entry (ls := [(0, .ref (am_B Z + a0))]) (by decide) hX9_findAmbiguousWord rfl (Nat.le_of_ble_eq_true rfl) rfl (fun X => ?_)
  unfold pX9_findAmbiguousWord
  refine am_aload_n dX9_findAmbiguousWord_0 rfl 0 rfl ?_
  refine am_iconst (v := 0) dX9_findAmbiguousWord_1 (by decide) ?_
  refine am_putI 9 5 clX9 (Nat.le_of_ble_eq_true rfl) h_a0 iX9_findAmbiguousWord_9 fX9_findAmbiguousWord_68 rfl rfl dX9_findAmbiguousWord_2 ?_
  refine am_letI (fun J1 => ?_)
  refine am_aload_n dX9_findAmbiguousWord_5 rfl 0 rfl ?_
  refine am_aload_n dX9_findAmbiguousWord_6 rfl 0 rfl ?_
  refine am_get 9 2 clX9 (Nat.le_of_ble_eq_true rfl) h_a0 iX9_findAmbiguousWord_9 fX9_findAmbiguousWord_46 rfl dX9_findAmbiguousWord_7 ?_
  refine am_iconst (v := 0) dX9_findAmbiguousWord_10 (by decide) ?_
  refine am_callV [.int (J1 a0 2), .int (0 : Int32)] (tX9_run R J1 L a0 (J1 a0 2) (0 : Int32) h_a0) h_a0 clX9 gX9_findAmbiguousWord_X9_run hX9_run rfl ⟨Nat.le_of_ble_eq_true rfl, Nat.le_of_ble_eq_true rfl⟩ rfl rfl (Nat.le_of_ble_eq_true rfl) dX9_findAmbiguousWord_11 (fun r2 => ?_)
  show am_V Z X kX9_findAmbiguousWord (fun r : Int32 × am_I × am_L => (some (.int r.1), R, r.2.1, r.2.2)) 14 [(0, .ref (am_B Z + a0))] [.int r2.1] R r2.2.1 r2.2.2 _
  refine am_ckV (fun hb3 => ?_)
  exact am_zret hb3 dX9_findAmbiguousWord_14 rfl rfl
abbrev kX9_findLoopWord : am_K := (cX9_findLoopWord, 2, RX9, wsX9_findLoopWord, some .boolean, { frames := 4, cells := 0, slots := 0, locals := 92 })
theorem hX9_findLoopWord : am_cl yX9_findLoopWord kX9_findLoopWord 1 := ⟨⟨_, rfl⟩, rfl, rfl, by decide +kernel, by decide +kernel, by decide +kernel⟩
theorem iX9_findLoopWord_9 : ∀ w ∈ u_ws RX9 TX9 13, w ∈ wsX9_findLoopWord := by decide +kernel
theorem fX9_findLoopWord_68 : Cond.fieldLink RX9 68 "AmbiguityAnalyzer$WordSearch" "goal" "I" ∈ wsX9_findLoopWord := by decide +kernel
theorem fX9_findLoopWord_75 : Cond.fieldLink RX9 75 "AmbiguityAnalyzer$WordSearch" "goalP" "I" ∈ wsX9_findLoopWord := by decide +kernel
theorem fX9_findLoopWord_55 : Cond.fieldLink RX9 55 "AmbiguityAnalyzer$WordSearch" "useful" "I" ∈ wsX9_findLoopWord := by decide +kernel
set_option maxRecDepth 100000 in
set_option maxHeartbeats 4000000 in
theorem tX9_findLoopWord {Z : am_Z} (R : am_R) (I : am_I) (L : am_L) (a0 : Nat) (x1 : Int32) (h_a0 : am_G Z a0 = some (.inl 9)) : am_M Z yX9_findLoopWord kX9_findLoopWord [.ref (am_B Z + a0), .int x1] R I L (pX9_findLoopWord R I L a0 x1) (fun r : Int32 × am_I × am_L => (some (.int r.1), R, r.2.1, r.2.2)) := by
  refine am_entry (ls := [(0, .ref (am_B Z + a0)), (1, .int x1)]) (by decide) hX9_findLoopWord rfl (Nat.le_of_ble_eq_true rfl) rfl (fun X => ?_)
  unfold pX9_findLoopWord
  refine am_aload_n dX9_findLoopWord_0 rfl 0 rfl ?_
  refine am_iconst (v := 1) dX9_findLoopWord_1 (by decide) ?_
  refine am_putI 9 5 clX9 (Nat.le_of_ble_eq_true rfl) h_a0 iX9_findLoopWord_9 fX9_findLoopWord_68 rfl rfl dX9_findLoopWord_2 ?_
  refine am_letI (fun J1 => ?_)
  refine am_aload_n dX9_findLoopWord_5 rfl 0 rfl ?_
  refine am_iconst (v := 1) dX9_findLoopWord_6 (by decide) ?_
  refine am_iload_n dX9_findLoopWord_7 rfl 1 rfl ?_
  refine am_ishl dX9_findLoopWord_8 ?_
  refine am_putI 9 6 clX9 (Nat.le_of_ble_eq_true rfl) h_a0 iX9_findLoopWord_9 fX9_findLoopWord_75 rfl rfl dX9_findLoopWord_9 ?_
  refine am_letI (fun J2 => ?_)
  refine am_aload_n dX9_findLoopWord_12 rfl 0 rfl ?_
  refine am_get 9 4 clX9 (Nat.le_of_ble_eq_true rfl) h_a0 iX9_findLoopWord_9 fX9_findLoopWord_55 rfl dX9_findLoopWord_13 ?_
  refine am_iload_n dX9_findLoopWord_16 rfl 1 rfl ?_
  refine am_callN (host := RX10) [.int (J2 a0 4), .int x1] (tX10_contains R J2 L (J2 a0 4) x1) gX9_findLoopWord_X10_contains_n78 (by decide +kernel) (by decide +kernel) (by decide +kernel) hX10_contains ⟨Nat.le_of_ble_eq_true rfl, Nat.le_of_ble_eq_true rfl⟩ rfl rfl (Nat.le_of_ble_eq_true rfl) dX9_findLoopWord_17 (fun r3 => ?_)
  show am_V Z X kX9_findLoopWord (fun r : Int32 × am_I × am_L => (some (.int r.1), R, r.2.1, r.2.2)) 20 [(0, .ref (am_B Z + a0)), (1, .int x1)] [.int r3] R J2 L _
  refine am_if_eq (tgt := 39) dX9_findLoopWord_20 rfl (fun e4 => ?_) (fun e4 => ?_)
  · refine am_iconst (v := 0) dX9_findLoopWord_39 (by decide) ?_
    exact am_zret (by decide) dX9_findLoopWord_40 rfl rfl
  · refine am_aload_n dX9_findLoopWord_23 rfl 0 rfl ?_
    refine am_aload_n dX9_findLoopWord_24 rfl 0 rfl ?_
    refine am_get 9 6 clX9 (Nat.le_of_ble_eq_true rfl) h_a0 iX9_findLoopWord_9 fX9_findLoopWord_75 rfl dX9_findLoopWord_25 ?_
    refine am_iconst (v := 0) dX9_findLoopWord_28 (by decide) ?_
    refine am_callV [.int (J2 a0 6), .int (0 : Int32)] (tX9_run R J2 L a0 (J2 a0 6) (0 : Int32) h_a0) h_a0 clX9 gX9_findLoopWord_X9_run hX9_run rfl ⟨Nat.le_of_ble_eq_true rfl, Nat.le_of_ble_eq_true rfl⟩ rfl rfl (Nat.le_of_ble_eq_true rfl) dX9_findLoopWord_29 (fun r5 => ?_)
    show am_V Z X kX9_findLoopWord (fun r : Int32 × am_I × am_L => (some (.int r.1), R, r.2.1, r.2.2)) 32 [(0, .ref (am_B Z + a0)), (1, .int x1)] [.int r5.1] R r5.2.1 r5.2.2 _
    refine am_if_eq (tgt := 39) dX9_findLoopWord_32 rfl (fun e6 => ?_) (fun e6 => ?_)
    · refine am_iconst (v := 0) dX9_findLoopWord_39 (by decide) ?_
      exact am_zret (by decide) dX9_findLoopWord_40 rfl rfl
    · refine am_iconst (v := 1) dX9_findLoopWord_35 (by decide) ?_
      refine am_goto (tgt := 40) dX9_findLoopWord_36 rfl ?_
      exact am_zret (by decide) dX9_findLoopWord_40 rfl rfl
abbrev kX9_lowestLoopState : am_K := (cX9_lowestLoopState, 2, RX9, wsX9_lowestLoopState, some .int, { frames := 5, cells := 0, slots := 0, locals := 113 })
theorem hX9_lowestLoopState : am_cl yX9_lowestLoopState kX9_lowestLoopState 0 := ⟨⟨_, rfl⟩, rfl, rfl, by decide +kernel, by decide +kernel, by decide +kernel⟩
theorem iX9_lowestLoopState_9 : ∀ w ∈ u_ws RX9 TX9 13, w ∈ wsX9_lowestLoopState := by decide +kernel
theorem fX9_lowestLoopState_42 : Cond.fieldLink RX9 42 "AmbiguityAnalyzer$WordSearch" "states" "I" ∈ wsX9_lowestLoopState := by decide +kernel
set_option maxRecDepth 100000 in
set_option maxHeartbeats 4000000 in
theorem vX9_lowestLoopState_2 {Z : am_Z} {X : am_X} (R : am_R) (a0 : Nat) (h1 : am_G Z a0 = some (.inl 9)) (ih5 : Int32 → am_I → am_L → Option (Int32 × am_I × am_L)) (hih5 : ∀ (v2 : Int32) (J3 : am_I) (J4 : am_L), am_V Z X kX9_lowestLoopState (fun r : Int32 × am_I × am_L => (some (.int r.1), R, r.2.1, r.2.2)) 2 [(0, .ref (am_B Z + a0)), (1, .int v2)] [] R J3 J4 (ih5 v2 J3 J4)) (v2 : Int32) (J3 : am_I) (J4 : am_L) : am_V Z X kX9_lowestLoopState (fun r : Int32 × am_I × am_L => (some (.int r.1), R, r.2.1, r.2.2)) 2 [(0, .ref (am_B Z + a0)), (1, .int v2)] [] R J3 J4 (sX9_lowestLoopState_2 R a0 ih5 v2 J3 J4) := by
  unfold sX9_lowestLoopState_2
  refine am_iload_n dX9_lowestLoopState_2 rfl 1 rfl ?_
  refine am_aload_n dX9_lowestLoopState_3 rfl 0 rfl ?_
  refine am_get 9 1 clX9 (Nat.le_of_ble_eq_true rfl) h1 iX9_lowestLoopState_9 fX9_lowestLoopState_42 rfl dX9_lowestLoopState_4 ?_
  refine am_icmp_ge (tgt := 26) dX9_lowestLoopState_7 rfl (fun e6 => ?_) (fun e6 => ?_)
  · refine am_iconst (v := -1) dX9_lowestLoopState_26 (by decide) ?_
    exact am_iret dX9_lowestLoopState_27 rfl rfl
  · refine am_aload_n dX9_lowestLoopState_10 rfl 0 rfl ?_
    refine am_iload_n dX9_lowestLoopState_11 rfl 1 rfl ?_
    refine am_callV [.int v2] (tX9_findLoopWord R J3 J4 a0 v2 h1) h1 clX9 gX9_lowestLoopState_X9_findLoopWord hX9_findLoopWord rfl ⟨Nat.le_of_ble_eq_true rfl, Nat.le_of_ble_eq_true rfl⟩ rfl rfl (Nat.le_of_ble_eq_true rfl) dX9_lowestLoopState_12 (fun r7 => ?_)
    show am_V Z X kX9_lowestLoopState (fun r : Int32 × am_I × am_L => (some (.int r.1), R, r.2.1, r.2.2)) 15 [(0, .ref (am_B Z + a0)), (1, .int v2)] [.int r7.1] R r7.2.1 r7.2.2 _
    refine am_if_eq (tgt := 20) dX9_lowestLoopState_15 rfl (fun e8 => ?_) (fun e8 => ?_)
    · refine am_iinc (j := 1) (ls' := [(1, .int (v2 + (1 : Int32))), (0, .ref (am_B Z + a0))]) dX9_lowestLoopState_20 rfl rfl (Nat.le_of_ble_eq_true rfl) rfl ?_
      refine am_goto (tgt := 2) dX9_lowestLoopState_23 rfl ?_
      refine am_sub (ls' := [(0, .ref (am_B Z + a0)), (1, .int (v2 + (1 : Int32)))]) [1, 0] rfl ?_
      exact hih5 (v2 + (1 : Int32)) r7.2.1 r7.2.2
    · refine am_iload_n dX9_lowestLoopState_18 rfl 1 rfl ?_
      exact am_iret dX9_lowestLoopState_19 rfl rfl
theorem uX9_lowestLoopState_2 {Z : am_Z} {X : am_X} (R : am_R) (a0 : Nat) (h1 : am_G Z a0 = some (.inl 9)) : ∀ (n : Nat) (v2 : Int32) (J3 : am_I) (J4 : am_L), am_V Z X kX9_lowestLoopState (fun r : Int32 × am_I × am_L => (some (.int r.1), R, r.2.1, r.2.2)) 2 [(0, .ref (am_B Z + a0)), (1, .int v2)] [] R J3 J4 (lX9_lowestLoopState_2 R a0 n v2 J3 J4) := by
  intro n
  induction n with
  | zero => intro _ _ _; exact am_none
  | succ n ih => exact fun v2 J3 J4 => vX9_lowestLoopState_2 R a0 h1 (lX9_lowestLoopState_2 R a0 n) ih v2 J3 J4
set_option maxRecDepth 100000 in
set_option maxHeartbeats 4000000 in
theorem tX9_lowestLoopState {Z : am_Z} (R : am_R) (I : am_I) (L : am_L) (a0 : Nat) (h_a0 : am_G Z a0 = some (.inl 9)) : am_M Z yX9_lowestLoopState kX9_lowestLoopState [.ref (am_B Z + a0)] R I L (pX9_lowestLoopState R I L a0) (fun r : Int32 × am_I × am_L => (some (.int r.1), R, r.2.1, r.2.2)) := by
  refine am_entry (ls := [(0, .ref (am_B Z + a0))]) (by decide) hX9_lowestLoopState rfl (Nat.le_of_ble_eq_true rfl) rfl (fun X => ?_)
  unfold pX9_lowestLoopState
  refine am_iconst (v := 0) dX9_lowestLoopState_0 (by decide) ?_
  refine am_istore_n (ls' := [(1, .int (0 : Int32)), (0, .ref (am_B Z + a0))]) dX9_lowestLoopState_1 rfl (Nat.le_of_ble_eq_true rfl) rfl ?_
  refine am_sub (ls' := [(0, .ref (am_B Z + a0)), (1, .int (0 : Int32))]) [1, 0] rfl ?_
  exact uX9_lowestLoopState_2 R a0 h_a0 am_fu (0 : Int32) I L
abbrev kX9_findSplitWord : am_K := (cX9_findSplitWord, 3, RX9, wsX9_findSplitWord, some .boolean, { frames := 4, cells := 0, slots := 0, locals := 92 })
theorem hX9_findSplitWord : am_cl yX9_findSplitWord kX9_findSplitWord 2 := ⟨⟨_, rfl⟩, rfl, rfl, by decide +kernel, by decide +kernel, by decide +kernel⟩
theorem iX9_findSplitWord_9 : ∀ w ∈ u_ws RX9 TX9 13, w ∈ wsX9_findSplitWord := by decide +kernel
theorem fX9_findSplitWord_68 : Cond.fieldLink RX9 68 "AmbiguityAnalyzer$WordSearch" "goal" "I" ∈ wsX9_findSplitWord := by decide +kernel
theorem fX9_findSplitWord_75 : Cond.fieldLink RX9 75 "AmbiguityAnalyzer$WordSearch" "goalP" "I" ∈ wsX9_findSplitWord := by decide +kernel
theorem fX9_findSplitWord_81 : Cond.fieldLink RX9 81 "AmbiguityAnalyzer$WordSearch" "goalQ" "I" ∈ wsX9_findSplitWord := by decide +kernel
theorem fX9_findSplitWord_55 : Cond.fieldLink RX9 55 "AmbiguityAnalyzer$WordSearch" "useful" "I" ∈ wsX9_findSplitWord := by decide +kernel
set_option maxRecDepth 100000 in
set_option maxHeartbeats 4000000 in
theorem tX9_findSplitWord {Z : am_Z} (R : am_R) (I : am_I) (L : am_L) (a0 : Nat) (x1 : Int32) (x2 : Int32) (h_a0 : am_G Z a0 = some (.inl 9)) : am_M Z yX9_findSplitWord kX9_findSplitWord [.ref (am_B Z + a0), .int x1, .int x2] R I L (pX9_findSplitWord R I L a0 x1 x2) (fun r : Int32 × am_I × am_L => (some (.int r.1), R, r.2.1, r.2.2)) := by
  refine am_entry (ls := [(0, .ref (am_B Z + a0)), (1, .int x1), (2, .int x2)]) (by decide) hX9_findSplitWord rfl (Nat.le_of_ble_eq_true rfl) rfl (fun X => ?_)
  unfold pX9_findSplitWord
  refine am_aload_n dX9_findSplitWord_0 rfl 0 rfl ?_
  refine am_iconst (v := 2) dX9_findSplitWord_1 (by decide) ?_
  refine am_putI 9 5 clX9 (Nat.le_of_ble_eq_true rfl) h_a0 iX9_findSplitWord_9 fX9_findSplitWord_68 rfl rfl dX9_findSplitWord_2 ?_
  refine am_letI (fun J1 => ?_)
  refine am_aload_n dX9_findSplitWord_5 rfl 0 rfl ?_
  refine am_iconst (v := 1) dX9_findSplitWord_6 (by decide) ?_
  refine am_iload_n dX9_findSplitWord_7 rfl 1 rfl ?_
  refine am_ishl dX9_findSplitWord_8 ?_
  refine am_putI 9 6 clX9 (Nat.le_of_ble_eq_true rfl) h_a0 iX9_findSplitWord_9 fX9_findSplitWord_75 rfl rfl dX9_findSplitWord_9 ?_
  refine am_letI (fun J2 => ?_)
  refine am_aload_n dX9_findSplitWord_12 rfl 0 rfl ?_
  refine am_iconst (v := 1) dX9_findSplitWord_13 (by decide) ?_
  refine am_iload_n dX9_findSplitWord_14 rfl 2 rfl ?_
  refine am_ishl dX9_findSplitWord_15 ?_
  refine am_putI 9 7 clX9 (Nat.le_of_ble_eq_true rfl) h_a0 iX9_findSplitWord_9 fX9_findSplitWord_81 rfl rfl dX9_findSplitWord_16 ?_
  refine am_letI (fun J3 => ?_)
  refine am_iload_n dX9_findSplitWord_19 rfl 1 rfl ?_
  refine am_iload_n dX9_findSplitWord_20 rfl 2 rfl ?_
  refine am_icmp_eq (tgt := 65) dX9_findSplitWord_21 rfl (fun e4 => ?_) (fun e4 => ?_)
  · refine am_iconst (v := 0) dX9_findSplitWord_65 (by decide) ?_
    exact am_zret (by decide) dX9_findSplitWord_66 rfl rfl
  · refine am_aload_n dX9_findSplitWord_24 rfl 0 rfl ?_
    refine am_get 9 4 clX9 (Nat.le_of_ble_eq_true rfl) h_a0 iX9_findSplitWord_9 fX9_findSplitWord_55 rfl dX9_findSplitWord_25 ?_
    refine am_iload_n dX9_findSplitWord_28 rfl 1 rfl ?_
    refine am_callN (host := RX10) [.int (J3 a0 4), .int x1] (tX10_contains R J3 L (J3 a0 4) x1) gX9_findSplitWord_X10_contains_n78 (by decide +kernel) (by decide +kernel) (by decide +kernel) hX10_contains ⟨Nat.le_of_ble_eq_true rfl, Nat.le_of_ble_eq_true rfl⟩ rfl rfl (Nat.le_of_ble_eq_true rfl) dX9_findSplitWord_29 (fun r5 => ?_)
    show am_V Z X kX9_findSplitWord (fun r : Int32 × am_I × am_L => (some (.int r.1), R, r.2.1, r.2.2)) 32 [(0, .ref (am_B Z + a0)), (1, .int x1), (2, .int x2)] [.int r5] R J3 L _
    refine am_if_eq (tgt := 65) dX9_findSplitWord_32 rfl (fun e6 => ?_) (fun e6 => ?_)
    · refine am_iconst (v := 0) dX9_findSplitWord_65 (by decide) ?_
      exact am_zret (by decide) dX9_findSplitWord_66 rfl rfl
    · refine am_aload_n dX9_findSplitWord_35 rfl 0 rfl ?_
      refine am_get 9 4 clX9 (Nat.le_of_ble_eq_true rfl) h_a0 iX9_findSplitWord_9 fX9_findSplitWord_55 rfl dX9_findSplitWord_36 ?_
      refine am_iload_n dX9_findSplitWord_39 rfl 2 rfl ?_
      refine am_callN (host := RX10) [.int (J3 a0 4), .int x2] (tX10_contains R J3 L (J3 a0 4) x2) gX9_findSplitWord_X10_contains_n78 (by decide +kernel) (by decide +kernel) (by decide +kernel) hX10_contains ⟨Nat.le_of_ble_eq_true rfl, Nat.le_of_ble_eq_true rfl⟩ rfl rfl (Nat.le_of_ble_eq_true rfl) dX9_findSplitWord_40 (fun r7 => ?_)
      show am_V Z X kX9_findSplitWord (fun r : Int32 × am_I × am_L => (some (.int r.1), R, r.2.1, r.2.2)) 43 [(0, .ref (am_B Z + a0)), (1, .int x1), (2, .int x2)] [.int r7] R J3 L _
      refine am_if_eq (tgt := 65) dX9_findSplitWord_43 rfl (fun e8 => ?_) (fun e8 => ?_)
      · refine am_iconst (v := 0) dX9_findSplitWord_65 (by decide) ?_
        exact am_zret (by decide) dX9_findSplitWord_66 rfl rfl
      · refine am_aload_n dX9_findSplitWord_46 rfl 0 rfl ?_
        refine am_aload_n dX9_findSplitWord_47 rfl 0 rfl ?_
        refine am_get 9 6 clX9 (Nat.le_of_ble_eq_true rfl) h_a0 iX9_findSplitWord_9 fX9_findSplitWord_75 rfl dX9_findSplitWord_48 ?_
        refine am_aload_n dX9_findSplitWord_51 rfl 0 rfl ?_
        refine am_get 9 7 clX9 (Nat.le_of_ble_eq_true rfl) h_a0 iX9_findSplitWord_9 fX9_findSplitWord_81 rfl dX9_findSplitWord_52 ?_
        refine am_callV [.int (J3 a0 6), .int (J3 a0 7)] (tX9_run R J3 L a0 (J3 a0 6) (J3 a0 7) h_a0) h_a0 clX9 gX9_findSplitWord_X9_run hX9_run rfl ⟨Nat.le_of_ble_eq_true rfl, Nat.le_of_ble_eq_true rfl⟩ rfl rfl (Nat.le_of_ble_eq_true rfl) dX9_findSplitWord_55 (fun r9 => ?_)
        show am_V Z X kX9_findSplitWord (fun r : Int32 × am_I × am_L => (some (.int r.1), R, r.2.1, r.2.2)) 58 [(0, .ref (am_B Z + a0)), (1, .int x1), (2, .int x2)] [.int r9.1] R r9.2.1 r9.2.2 _
        refine am_if_eq (tgt := 65) dX9_findSplitWord_58 rfl (fun e10 => ?_) (fun e10 => ?_)
        · refine am_iconst (v := 0) dX9_findSplitWord_65 (by decide) ?_
          exact am_zret (by decide) dX9_findSplitWord_66 rfl rfl
        · refine am_iconst (v := 1) dX9_findSplitWord_61 (by decide) ?_
          refine am_goto (tgt := 66) dX9_findSplitWord_62 rfl ?_
          exact am_zret (by decide) dX9_findSplitWord_66 rfl rfl
abbrev kX9_firstSplitPair : am_K := (cX9_firstSplitPair, 3, RX9, wsX9_firstSplitPair, some .int, { frames := 5, cells := 0, slots := 0, locals := 114 })
theorem hX9_firstSplitPair : am_cl yX9_firstSplitPair kX9_firstSplitPair 0 := ⟨⟨_, rfl⟩, rfl, rfl, by decide +kernel, by decide +kernel, by decide +kernel⟩
theorem iX9_firstSplitPair_9 : ∀ w ∈ u_ws RX9 TX9 13, w ∈ wsX9_firstSplitPair := by decide +kernel
theorem fX9_firstSplitPair_42 : Cond.fieldLink RX9 42 "AmbiguityAnalyzer$WordSearch" "states" "I" ∈ wsX9_firstSplitPair := by decide +kernel
set_option maxRecDepth 100000 in
set_option maxHeartbeats 4000000 in
theorem vX9_firstSplitPair_12 {Z : am_Z} {X : am_X} (R : am_R) (a0 : Nat) (v2 : Int32) (h10 : am_G Z a0 = some (.inl 9)) (j7 : am_I → am_L → Option (Int32 × am_I × am_L)) (hj7 : ∀ (J8 : am_I) (J9 : am_L), am_V Z X kX9_firstSplitPair (fun r : Int32 × am_I × am_L => (some (.int r.1), R, r.2.1, r.2.2)) 42 [(0, .ref (am_B Z + a0)), (1, .int v2)] [] R J8 J9 (j7 J8 J9)) (ih14 : Int32 → am_I → am_L → Option (Int32 × am_I × am_L)) (hih14 : ∀ (v11 : Int32) (J12 : am_I) (J13 : am_L), am_V Z X kX9_firstSplitPair (fun r : Int32 × am_I × am_L => (some (.int r.1), R, r.2.1, r.2.2)) 12 [(0, .ref (am_B Z + a0)), (1, .int v2), (2, .int v11)] [] R J12 J13 (ih14 v11 J12 J13)) (v11 : Int32) (J12 : am_I) (J13 : am_L) : am_V Z X kX9_firstSplitPair (fun r : Int32 × am_I × am_L => (some (.int r.1), R, r.2.1, r.2.2)) 12 [(0, .ref (am_B Z + a0)), (1, .int v2), (2, .int v11)] [] R J12 J13 (sX9_firstSplitPair_12 R a0 v2 j7 ih14 v11 J12 J13) := by
  unfold sX9_firstSplitPair_12
  refine am_iload_n dX9_firstSplitPair_12 rfl 2 rfl ?_
  refine am_aload_n dX9_firstSplitPair_13 rfl 0 rfl ?_
  refine am_get 9 1 clX9 (Nat.le_of_ble_eq_true rfl) h10 iX9_firstSplitPair_9 fX9_firstSplitPair_42 rfl dX9_firstSplitPair_14 ?_
  refine am_icmp_ge (tgt := 42) dX9_firstSplitPair_17 rfl (fun e15 => ?_) (fun e15 => ?_)
  · refine am_sub (ls' := [(0, .ref (am_B Z + a0)), (1, .int v2)]) [0, 1] rfl ?_
    exact hj7 J12 J13
  · refine am_aload_n dX9_firstSplitPair_20 rfl 0 rfl ?_
    refine am_iload_n dX9_firstSplitPair_21 rfl 1 rfl ?_
    refine am_iload_n dX9_firstSplitPair_22 rfl 2 rfl ?_
    refine am_callV [.int v2, .int v11] (tX9_findSplitWord R J12 J13 a0 v2 v11 h10) h10 clX9 gX9_firstSplitPair_X9_findSplitWord hX9_findSplitWord rfl ⟨Nat.le_of_ble_eq_true rfl, Nat.le_of_ble_eq_true rfl⟩ rfl rfl (Nat.le_of_ble_eq_true rfl) dX9_firstSplitPair_23 (fun r16 => ?_)
    show am_V Z X kX9_firstSplitPair (fun r : Int32 × am_I × am_L => (some (.int r.1), R, r.2.1, r.2.2)) 26 [(0, .ref (am_B Z + a0)), (1, .int v2), (2, .int v11)] [.int r16.1] R r16.2.1 r16.2.2 _
    refine am_if_eq (tgt := 36) dX9_firstSplitPair_26 rfl (fun e17 => ?_) (fun e17 => ?_)
    · refine am_iinc (j := 2) (ls' := [(2, .int (v11 + (1 : Int32))), (0, .ref (am_B Z + a0)), (1, .int v2)]) dX9_firstSplitPair_36 rfl rfl (Nat.le_of_ble_eq_true rfl) rfl ?_
      refine am_goto (tgt := 12) dX9_firstSplitPair_39 rfl ?_
      refine am_sub (ls' := [(0, .ref (am_B Z + a0)), (1, .int v2), (2, .int (v11 + (1 : Int32)))]) [1, 2, 0] rfl ?_
      exact hih14 (v11 + (1 : Int32)) r16.2.1 r16.2.2
    · refine am_bipush (v := 8) dX9_firstSplitPair_29 (by decide) ?_
      refine am_iload_n dX9_firstSplitPair_31 rfl 1 rfl ?_
      refine am_imul dX9_firstSplitPair_32 ?_
      refine am_iload_n dX9_firstSplitPair_33 rfl 2 rfl ?_
      refine am_iadd dX9_firstSplitPair_34 ?_
      exact am_iret dX9_firstSplitPair_35 rfl rfl
theorem uX9_firstSplitPair_12 {Z : am_Z} {X : am_X} (R : am_R) (a0 : Nat) (v2 : Int32) (h10 : am_G Z a0 = some (.inl 9)) (j7 : am_I → am_L → Option (Int32 × am_I × am_L)) (hj7 : ∀ (J8 : am_I) (J9 : am_L), am_V Z X kX9_firstSplitPair (fun r : Int32 × am_I × am_L => (some (.int r.1), R, r.2.1, r.2.2)) 42 [(0, .ref (am_B Z + a0)), (1, .int v2)] [] R J8 J9 (j7 J8 J9)) : ∀ (n : Nat) (v11 : Int32) (J12 : am_I) (J13 : am_L), am_V Z X kX9_firstSplitPair (fun r : Int32 × am_I × am_L => (some (.int r.1), R, r.2.1, r.2.2)) 12 [(0, .ref (am_B Z + a0)), (1, .int v2), (2, .int v11)] [] R J12 J13 (lX9_firstSplitPair_12 R a0 v2 j7 n v11 J12 J13) := by
  intro n
  induction n with
  | zero => intro _ _ _; exact am_none
  | succ n ih => exact fun v11 J12 J13 => vX9_firstSplitPair_12 R a0 v2 h10 j7 hj7 (lX9_firstSplitPair_12 R a0 v2 j7 n) ih v11 J12 J13
set_option maxRecDepth 100000 in
set_option maxHeartbeats 4000000 in
theorem vX9_firstSplitPair_2 {Z : am_Z} {X : am_X} (R : am_R) (a0 : Nat) (h1 : am_G Z a0 = some (.inl 9)) (ih5 : Int32 → am_I → am_L → Option (Int32 × am_I × am_L)) (hih5 : ∀ (v2 : Int32) (J3 : am_I) (J4 : am_L), am_V Z X kX9_firstSplitPair (fun r : Int32 × am_I × am_L => (some (.int r.1), R, r.2.1, r.2.2)) 2 [(0, .ref (am_B Z + a0)), (1, .int v2)] [] R J3 J4 (ih5 v2 J3 J4)) (v2 : Int32) (J3 : am_I) (J4 : am_L) : am_V Z X kX9_firstSplitPair (fun r : Int32 × am_I × am_L => (some (.int r.1), R, r.2.1, r.2.2)) 2 [(0, .ref (am_B Z + a0)), (1, .int v2)] [] R J3 J4 (sX9_firstSplitPair_2 R a0 ih5 v2 J3 J4) := by
  unfold sX9_firstSplitPair_2
  refine am_iload_n dX9_firstSplitPair_2 rfl 1 rfl ?_
  refine am_aload_n dX9_firstSplitPair_3 rfl 0 rfl ?_
  refine am_get 9 1 clX9 (Nat.le_of_ble_eq_true rfl) h1 iX9_firstSplitPair_9 fX9_firstSplitPair_42 rfl dX9_firstSplitPair_4 ?_
  refine am_icmp_ge (tgt := 48) dX9_firstSplitPair_7 rfl (fun e6 => ?_) (fun e6 => ?_)
  · refine am_iconst (v := -1) dX9_firstSplitPair_48 (by decide) ?_
    exact am_iret dX9_firstSplitPair_49 rfl rfl
  · refine am_iconst (v := 0) dX9_firstSplitPair_10 (by decide) ?_
    refine am_istore_n (ls' := [(2, .int (0 : Int32)), (0, .ref (am_B Z + a0)), (1, .int v2)]) dX9_firstSplitPair_11 rfl (Nat.le_of_ble_eq_true rfl) rfl ?_
    refine am_jnV (fun j7 ej7 => ?_)
    have hj7 : ∀ (J8 : am_I) (J9 : am_L), am_V Z X kX9_firstSplitPair (fun r : Int32 × am_I × am_L => (some (.int r.1), R, r.2.1, r.2.2)) 42 [(0, .ref (am_B Z + a0)), (1, .int v2)] [] R J8 J9 (j7 J8 J9) := by
      subst ej7
      intro J8 J9
      show am_V Z X kX9_firstSplitPair (fun r : Int32 × am_I × am_L => (some (.int r.1), R, r.2.1, r.2.2)) 42 [(0, .ref (am_B Z + a0)), (1, .int v2)] [] R J8 J9 _
      refine am_iinc (j := 1) (ls' := [(1, .int (v2 + (1 : Int32))), (0, .ref (am_B Z + a0))]) dX9_firstSplitPair_42 rfl rfl (Nat.le_of_ble_eq_true rfl) rfl ?_
      refine am_goto (tgt := 2) dX9_firstSplitPair_45 rfl ?_
      refine am_sub (ls' := [(0, .ref (am_B Z + a0)), (1, .int (v2 + (1 : Int32)))]) [1, 0] rfl ?_
      exact hih5 (v2 + (1 : Int32)) J8 J9
    refine am_sub (ls' := [(0, .ref (am_B Z + a0)), (1, .int v2), (2, .int (0 : Int32))]) [1, 2, 0] rfl ?_
    exact uX9_firstSplitPair_12 R a0 v2 h1 j7 hj7 am_fu (0 : Int32) J3 J4
theorem uX9_firstSplitPair_2 {Z : am_Z} {X : am_X} (R : am_R) (a0 : Nat) (h1 : am_G Z a0 = some (.inl 9)) : ∀ (n : Nat) (v2 : Int32) (J3 : am_I) (J4 : am_L), am_V Z X kX9_firstSplitPair (fun r : Int32 × am_I × am_L => (some (.int r.1), R, r.2.1, r.2.2)) 2 [(0, .ref (am_B Z + a0)), (1, .int v2)] [] R J3 J4 (lX9_firstSplitPair_2 R a0 n v2 J3 J4) := by
  intro n
  induction n with
  | zero => intro _ _ _; exact am_none
  | succ n ih => exact fun v2 J3 J4 => vX9_firstSplitPair_2 R a0 h1 (lX9_firstSplitPair_2 R a0 n) ih v2 J3 J4
set_option maxRecDepth 100000 in
set_option maxHeartbeats 4000000 in
theorem tX9_firstSplitPair {Z : am_Z} (R : am_R) (I : am_I) (L : am_L) (a0 : Nat) (h_a0 : am_G Z a0 = some (.inl 9)) : am_M Z yX9_firstSplitPair kX9_firstSplitPair [.ref (am_B Z + a0)] R I L (pX9_firstSplitPair R I L a0) (fun r : Int32 × am_I × am_L => (some (.int r.1), R, r.2.1, r.2.2)) := by
  refine am_entry (ls := [(0, .ref (am_B Z + a0))]) (by decide) hX9_firstSplitPair rfl (Nat.le_of_ble_eq_true rfl) rfl (fun X => ?_)
  unfold pX9_firstSplitPair
  refine am_iconst (v := 0) dX9_firstSplitPair_0 (by decide) ?_
  refine am_istore_n (ls' := [(1, .int (0 : Int32)), (0, .ref (am_B Z + a0))]) dX9_firstSplitPair_1 rfl (Nat.le_of_ble_eq_true rfl) rfl ?_
  refine am_sub (ls' := [(0, .ref (am_B Z + a0)), (1, .int (0 : Int32))]) [1, 0] rfl ?_
  exact uX9_firstSplitPair_2 R a0 h_a0 am_fu (0 : Int32) I L
abbrev kX9_growthKind : am_K := (cX9_growthKind, 1, RX9, wsX9_growthKind, some .int, { frames := 6, cells := 0, slots := 0, locals := 136 })
theorem hX9_growthKind : am_cl yX9_growthKind kX9_growthKind 0 := ⟨⟨_, rfl⟩, rfl, rfl, by decide +kernel, by decide +kernel, by decide +kernel⟩
set_option maxRecDepth 100000 in
set_option maxHeartbeats 4000000 in
theorem tX9_growthKind {Z : am_Z} (R : am_R) (I : am_I) (L : am_L) (a0 : Nat) (h_a0 : am_G Z a0 = some (.inl 9)) : am_M Z yX9_growthKind kX9_growthKind [.ref (am_B Z + a0)] R I L (pX9_growthKind R I L a0) (fun r : Int32 × am_I × am_L => (some (.int r.1), R, r.2.1, r.2.2)) := by
  refine am_entry (ls := [(0, .ref (am_B Z + a0))]) (by decide) hX9_growthKind rfl (Nat.le_of_ble_eq_true rfl) rfl (fun X => ?_)
  unfold pX9_growthKind
  refine am_aload_n dX9_growthKind_0 rfl 0 rfl ?_
  refine am_callV [] (tX9_findAmbiguousWord R I L a0 h_a0) h_a0 clX9 gX9_growthKind_X9_findAmbiguousWord hX9_findAmbiguousWord rfl ⟨Nat.le_of_ble_eq_true rfl, Nat.le_of_ble_eq_true rfl⟩ rfl rfl (Nat.le_of_ble_eq_true rfl) dX9_growthKind_1 (fun r1 => ?_)
  show am_V Z X kX9_growthKind (fun r : Int32 × am_I × am_L => (some (.int r.1), R, r.2.1, r.2.2)) 4 [(0, .ref (am_B Z + a0))] [.int r1.1] R r1.2.1 r1.2.2 _
  refine am_if_ne (tgt := 9) dX9_growthKind_4 rfl (fun e2 => ?_) (fun e2 => ?_)
  · refine am_aload_n dX9_growthKind_9 rfl 0 rfl ?_
    refine am_callV [] (tX9_lowestLoopState R r1.2.1 r1.2.2 a0 h_a0) h_a0 clX9 gX9_growthKind_X9_lowestLoopState hX9_lowestLoopState rfl ⟨Nat.le_of_ble_eq_true rfl, Nat.le_of_ble_eq_true rfl⟩ rfl rfl (Nat.le_of_ble_eq_true rfl) dX9_growthKind_10 (fun r3 => ?_)
    show am_V Z X kX9_growthKind (fun r : Int32 × am_I × am_L => (some (.int r.1), R, r.2.1, r.2.2)) 13 [(0, .ref (am_B Z + a0))] [.int r3.1] R r3.2.1 r3.2.2 _
    refine am_iconst (v := -1) dX9_growthKind_13 (by decide) ?_
    refine am_icmp_eq (tgt := 19) dX9_growthKind_14 rfl (fun e4 => ?_) (fun e4 => ?_)
    · refine am_aload_n dX9_growthKind_19 rfl 0 rfl ?_
      refine am_callV [] (tX9_firstSplitPair R r3.2.1 r3.2.2 a0 h_a0) h_a0 clX9 gX9_growthKind_X9_firstSplitPair hX9_firstSplitPair rfl ⟨Nat.le_of_ble_eq_true rfl, Nat.le_of_ble_eq_true rfl⟩ rfl rfl (Nat.le_of_ble_eq_true rfl) dX9_growthKind_20 (fun r5 => ?_)
      show am_V Z X kX9_growthKind (fun r : Int32 × am_I × am_L => (some (.int r.1), R, r.2.1, r.2.2)) 23 [(0, .ref (am_B Z + a0))] [.int r5.1] R r5.2.1 r5.2.2 _
      refine am_iconst (v := -1) dX9_growthKind_23 (by decide) ?_
      refine am_icmp_eq (tgt := 31) dX9_growthKind_24 rfl (fun e6 => ?_) (fun e6 => ?_)
      · refine am_iconst (v := 1) dX9_growthKind_31 (by decide) ?_
        exact am_iret dX9_growthKind_32 rfl rfl
      · refine am_iconst (v := 2) dX9_growthKind_27 (by decide) ?_
        refine am_goto (tgt := 32) dX9_growthKind_28 rfl ?_
        exact am_iret dX9_growthKind_32 rfl rfl
    · refine am_iconst (v := 3) dX9_growthKind_17 (by decide) ?_
      exact am_iret dX9_growthKind_18 rfl rfl
  · refine am_iconst (v := 0) dX9_growthKind_7 (by decide) ?_
    exact am_iret dX9_growthKind_8 rfl rfl
