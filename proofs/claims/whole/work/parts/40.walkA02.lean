abbrev kX1_countWords : am_K := (cX1_countWords, 7, RX1, wsX1_countWords, some .long, { frames := 2, cells := 0, slots := 0, locals := 47 })
theorem hX1_countWords : am_cl yX1_countWords kX1_countWords 3 := ⟨⟨_, rfl⟩, rfl, rfl, by decide +kernel, by decide +kernel, by decide +kernel⟩
theorem iX1_countWords_1 : ∀ w ∈ u_ws RX1 TX1 4, w ∈ wsX1_countWords := by decide +kernel
theorem fX1_countWords_18 : Cond.fieldLink RX1 18 "AmbiguityAnalyzer$Counter" "words" "[J" ∈ wsX1_countWords := by decide +kernel
theorem iX1_countWords_0 : ∀ w ∈ u_ws RX0 TX0 4, w ∈ wsX1_countWords := by decide +kernel
theorem fX1_countWords_54 : Cond.fieldLink RX1 54 "AmbiguityAnalyzer$Automaton" "initials" "I" ∈ wsX1_countWords := by decide +kernel
theorem fX1_countWords_71 : Cond.fieldLink RX1 71 "AmbiguityAnalyzer$Automaton" "finals" "I" ∈ wsX1_countWords := by decide +kernel
set_option maxRecDepth 100000 in
set_option maxHeartbeats 4000000 in
theorem vX1_countWords_63 {Z : am_Z} {X : am_X} (R : am_R) (I : am_I) (a0 : Nat) (a1 : Nat) (J4 : am_L) (h5 : am_G Z a0 = some (.inl 1)) (h6 : am_G Z a1 = some (.inl 0)) (ih9 : Int64 → Int32 → Option (Int64 × am_L)) (hih9 : ∀ (v7 : Int64) (v8 : Int32), am_V Z X kX1_countWords (fun r : Int64 × am_L => (some (.long r.1), R, I, r.2)) 63 [(0, .ref (am_B Z + a0)), (1, .ref (am_B Z + a1)), (4, .long v7), (6, .int v8)] [] R I J4 (ih9 v7 v8)) (v7 : Int64) (v8 : Int32) : am_V Z X kX1_countWords (fun r : Int64 × am_L => (some (.long r.1), R, I, r.2)) 63 [(0, .ref (am_B Z + a0)), (1, .ref (am_B Z + a1)), (4, .long v7), (6, .int v8)] [] R I J4 (sX1_countWords_63 R I a0 a1 J4 ih9 v7 v8) := by
  unfold sX1_countWords_63
  refine am_iload dX1_countWords_63 3 rfl ?_
  refine am_bipush (v := 64) dX1_countWords_65 (by decide) ?_
  refine am_icmp_ge (tgt := 100) dX1_countWords_67 rfl (fun e10 => ?_) (fun e10 => ?_)
  · refine am_lload dX1_countWords_100 2 rfl ?_
    exact am_lret dX1_countWords_102 rfl rfl
  · refine am_iload dX1_countWords_70 3 rfl ?_
    refine am_aload_n dX1_countWords_72 rfl 1 rfl ?_
    refine am_get 0 2 clX0 (Nat.le_of_ble_eq_true rfl) h6 iX1_countWords_0 fX1_countWords_71 rfl dX1_countWords_73 ?_
    refine am_iand dX1_countWords_76 ?_
    refine am_jnV (fun j11 ej11 => ?_)
    have hj11 : ∀ (v12 : Int64), am_V Z X kX1_countWords (fun r : Int64 × am_L => (some (.long r.1), R, I, r.2)) 94 [(0, .ref (am_B Z + a0)), (1, .ref (am_B Z + a1)), (4, .long v12), (6, .int v8)] [] R I J4 (j11 v12) := by
      subst ej11
      intro v12
      show am_V Z X kX1_countWords (fun r : Int64 × am_L => (some (.long r.1), R, I, r.2)) 94 [(0, .ref (am_B Z + a0)), (1, .ref (am_B Z + a1)), (4, .long v12), (6, .int v8)] [] R I J4 _
      refine am_iinc (j := 3) (ls' := [(6, .int (v8 + (1 : Int32))), (0, .ref (am_B Z + a0)), (1, .ref (am_B Z + a1)), (4, .long v12)]) dX1_countWords_94 rfl rfl (Nat.le_of_ble_eq_true rfl) rfl ?_
      refine am_goto (tgt := 63) dX1_countWords_97 rfl ?_
      refine am_sub (ls' := [(0, .ref (am_B Z + a0)), (1, .ref (am_B Z + a1)), (4, .long v12), (6, .int (v8 + (1 : Int32)))]) [1, 2, 3, 0] rfl ?_
      exact hih9 v12 (v8 + (1 : Int32))
    refine am_if_eq (tgt := 94) dX1_countWords_77 rfl (fun e13 => ?_) (fun e13 => ?_)
    · exact hj11 v7
    · refine am_lload dX1_countWords_80 2 rfl ?_
      refine am_aload_n dX1_countWords_82 rfl 0 rfl ?_
      refine am_getR 1 2 clX1 (Nat.le_of_ble_eq_true rfl) h5 iX1_countWords_1 fX1_countWords_18 rfl rfl dX1_countWords_83 (fun h14 => ?_)
      refine am_iload dX1_countWords_86 3 rfl ?_
      refine am_lald h14 dX1_countWords_88 ?_
      refine am_callS [.long v7, .long (J4 (R a0 2) (Int32.toNatClampNeg v8))] (tX1_sum R I J4 v7 (J4 (R a0 2) (Int32.toNatClampNeg v8))) gX1_countWords_X1_sum hX1_sum ⟨Nat.le_of_ble_eq_true rfl, Nat.le_of_ble_eq_true rfl⟩ rfl rfl (Nat.le_of_ble_eq_true rfl) dX1_countWords_89 (fun r15 => ?_)
      show am_V Z X kX1_countWords (fun r : Int64 × am_L => (some (.long r.1), R, I, r.2)) 92 [(0, .ref (am_B Z + a0)), (1, .ref (am_B Z + a1)), (4, .long v7), (6, .int v8)] [.long r15] R I J4 _
      refine am_lstore (ls' := [(4, .long r15), (0, .ref (am_B Z + a0)), (1, .ref (am_B Z + a1)), (6, .int v8)]) dX1_countWords_92 (Nat.le_of_ble_eq_true rfl) rfl ?_
      refine am_sub (ls' := [(0, .ref (am_B Z + a0)), (1, .ref (am_B Z + a1)), (4, .long r15), (6, .int v8)]) [1, 2, 0, 3] rfl ?_
      exact hj11 r15
theorem uX1_countWords_63 {Z : am_Z} {X : am_X} (R : am_R) (I : am_I) (a0 : Nat) (a1 : Nat) (J4 : am_L) (h5 : am_G Z a0 = some (.inl 1)) (h6 : am_G Z a1 = some (.inl 0)) : ∀ (n : Nat) (v7 : Int64) (v8 : Int32), am_V Z X kX1_countWords (fun r : Int64 × am_L => (some (.long r.1), R, I, r.2)) 63 [(0, .ref (am_B Z + a0)), (1, .ref (am_B Z + a1)), (4, .long v7), (6, .int v8)] [] R I J4 (lX1_countWords_63 R I a0 a1 J4 n v7 v8) := by
  intro n
  induction n with
  | zero => intro _ _; exact am_none
  | succ n ih => exact fun v7 v8 => vX1_countWords_63 R I a0 a1 J4 h5 h6 (lX1_countWords_63 R I a0 a1 J4 n) ih v7 v8
set_option maxRecDepth 100000 in
set_option maxHeartbeats 4000000 in
theorem vX1_countWords_40 {Z : am_Z} {X : am_X} (R : am_R) (I : am_I) (a0 : Nat) (a1 : Nat) (a2 : Nat) (x3 : Int32) (h16 : am_G Z a0 = some (.inl 1)) (h17 : am_G Z a1 = some (.inl 0)) (h18 : am_G Z a2 = some (.inl 6)) (j3 : am_L → Option (Int64 × am_L)) (hj3 : ∀ (J4 : am_L), am_V Z X kX1_countWords (fun r : Int64 × am_L => (some (.long r.1), R, I, r.2)) 57 [(0, .ref (am_B Z + a0)), (1, .ref (am_B Z + a1))] [] R I J4 (j3 J4)) (ih21 : Int32 → am_L → Option (Int64 × am_L)) (hih21 : ∀ (v19 : Int32) (J20 : am_L), am_V Z X kX1_countWords (fun r : Int64 × am_L => (some (.long r.1), R, I, r.2)) 40 [(0, .ref (am_B Z + a0)), (1, .ref (am_B Z + a1)), (2, .ref (am_B Z + a2)), (3, .int x3), (4, .int v19)] [] R I J20 (ih21 v19 J20)) (v19 : Int32) (J20 : am_L) : am_V Z X kX1_countWords (fun r : Int64 × am_L => (some (.long r.1), R, I, r.2)) 40 [(0, .ref (am_B Z + a0)), (1, .ref (am_B Z + a1)), (2, .ref (am_B Z + a2)), (3, .int x3), (4, .int v19)] [] R I J20 (sX1_countWords_40 R I a0 a1 a2 x3 j3 ih21 v19 J20) := by
  unfold sX1_countWords_40
  refine am_iload dX1_countWords_40 4 rfl ?_
  refine am_iload_n dX1_countWords_42 rfl 3 rfl ?_
  refine am_icmp_ge (tgt := 57) dX1_countWords_43 rfl (fun e22 => ?_) (fun e22 => ?_)
  · refine am_sub (ls' := [(0, .ref (am_B Z + a0)), (1, .ref (am_B Z + a1))]) [0, 1] rfl ?_
    exact hj3 J20
  · refine am_aload_n dX1_countWords_46 rfl 0 rfl ?_
    refine am_aload_n dX1_countWords_47 rfl 2 rfl ?_
    refine am_callV [.ref (am_B Z + a2)] (tX1_extendWords R I J20 a0 a2 h16 h18) h16 clX1 gX1_countWords_X1_extendWords hX1_extendWords rfl ⟨Nat.le_of_ble_eq_true rfl, Nat.le_of_ble_eq_true rfl⟩ rfl rfl (Nat.le_of_ble_eq_true rfl) dX1_countWords_48 (fun r23 => ?_)
    show am_V Z X kX1_countWords (fun r : Int64 × am_L => (some (.long r.1), R, I, r.2)) 51 [(0, .ref (am_B Z + a0)), (1, .ref (am_B Z + a1)), (2, .ref (am_B Z + a2)), (3, .int x3), (4, .int v19)] [] R I r23 _
    refine am_iinc (j := 4) (ls' := [(4, .int (v19 + (1 : Int32))), (0, .ref (am_B Z + a0)), (1, .ref (am_B Z + a1)), (2, .ref (am_B Z + a2)), (3, .int x3)]) dX1_countWords_51 rfl rfl (Nat.le_of_ble_eq_true rfl) rfl ?_
    refine am_goto (tgt := 40) dX1_countWords_54 rfl ?_
    refine am_sub (ls' := [(0, .ref (am_B Z + a0)), (1, .ref (am_B Z + a1)), (2, .ref (am_B Z + a2)), (3, .int x3), (4, .int (v19 + (1 : Int32)))]) [1, 2, 3, 4, 0] rfl ?_
    exact hih21 (v19 + (1 : Int32)) r23
theorem uX1_countWords_40 {Z : am_Z} {X : am_X} (R : am_R) (I : am_I) (a0 : Nat) (a1 : Nat) (a2 : Nat) (x3 : Int32) (h16 : am_G Z a0 = some (.inl 1)) (h17 : am_G Z a1 = some (.inl 0)) (h18 : am_G Z a2 = some (.inl 6)) (j3 : am_L → Option (Int64 × am_L)) (hj3 : ∀ (J4 : am_L), am_V Z X kX1_countWords (fun r : Int64 × am_L => (some (.long r.1), R, I, r.2)) 57 [(0, .ref (am_B Z + a0)), (1, .ref (am_B Z + a1))] [] R I J4 (j3 J4)) : ∀ (n : Nat) (v19 : Int32) (J20 : am_L), am_V Z X kX1_countWords (fun r : Int64 × am_L => (some (.long r.1), R, I, r.2)) 40 [(0, .ref (am_B Z + a0)), (1, .ref (am_B Z + a1)), (2, .ref (am_B Z + a2)), (3, .int x3), (4, .int v19)] [] R I J20 (lX1_countWords_40 R I a0 a1 a2 x3 j3 n v19 J20) := by
  intro n
  induction n with
  | zero => intro _ _; exact am_none
  | succ n ih => exact fun v19 J20 => vX1_countWords_40 R I a0 a1 a2 x3 h16 h17 h18 j3 hj3 (lX1_countWords_40 R I a0 a1 a2 x3 j3 n) ih v19 J20
set_option maxRecDepth 100000 in
set_option maxHeartbeats 4000000 in
theorem vX1_countWords_3 {Z : am_Z} {X : am_X} (R : am_R) (I : am_I) (a0 : Nat) (a1 : Nat) (a2 : Nat) (x3 : Int32) (h24 : am_G Z a0 = some (.inl 1)) (h25 : am_G Z a1 = some (.inl 0)) (h26 : am_G Z a2 = some (.inl 6)) (j1 : am_L → Option (Int64 × am_L)) (hj1 : ∀ (J2 : am_L), am_V Z X kX1_countWords (fun r : Int64 × am_L => (some (.long r.1), R, I, r.2)) 37 [(0, .ref (am_B Z + a0)), (1, .ref (am_B Z + a1)), (2, .ref (am_B Z + a2)), (3, .int x3)] [] R I J2 (j1 J2)) (ih29 : Int32 → am_L → Option (Int64 × am_L)) (hih29 : ∀ (v27 : Int32) (J28 : am_L), am_V Z X kX1_countWords (fun r : Int64 × am_L => (some (.long r.1), R, I, r.2)) 3 [(0, .ref (am_B Z + a0)), (1, .ref (am_B Z + a1)), (2, .ref (am_B Z + a2)), (3, .int x3), (4, .int v27)] [] R I J28 (ih29 v27 J28)) (v27 : Int32) (J28 : am_L) : am_V Z X kX1_countWords (fun r : Int64 × am_L => (some (.long r.1), R, I, r.2)) 3 [(0, .ref (am_B Z + a0)), (1, .ref (am_B Z + a1)), (2, .ref (am_B Z + a2)), (3, .int x3), (4, .int v27)] [] R I J28 (sX1_countWords_3 R I a0 a1 a2 x3 j1 ih29 v27 J28) := by
  unfold sX1_countWords_3
  refine am_iload dX1_countWords_3 4 rfl ?_
  refine am_bipush (v := 64) dX1_countWords_5 (by decide) ?_
  refine am_icmp_ge (tgt := 37) dX1_countWords_7 rfl (fun e30 => ?_) (fun e30 => ?_)
  · refine am_sub (ls' := [(0, .ref (am_B Z + a0)), (1, .ref (am_B Z + a1)), (2, .ref (am_B Z + a2)), (3, .int x3)]) [0, 1, 2, 3] rfl ?_
    exact hj1 J28
  · refine am_aload_n dX1_countWords_10 rfl 0 rfl ?_
    refine am_getR 1 2 clX1 (Nat.le_of_ble_eq_true rfl) h24 iX1_countWords_1 fX1_countWords_18 rfl rfl dX1_countWords_11 (fun h31 => ?_)
    refine am_iload dX1_countWords_14 4 rfl ?_
    refine am_iload dX1_countWords_16 4 rfl ?_
    refine am_aload_n dX1_countWords_18 rfl 1 rfl ?_
    refine am_get 0 1 clX0 (Nat.le_of_ble_eq_true rfl) h25 iX1_countWords_0 fX1_countWords_54 rfl dX1_countWords_19 ?_
    refine am_letJ (fun k33 ek33 => ?_)
    have hk33 : ∀ v32 : Int64, am_V Z X kX1_countWords (fun r : Int64 × am_L => (some (.long r.1), R, I, r.2)) 30 [(0, .ref (am_B Z + a0)), (1, .ref (am_B Z + a1)), (2, .ref (am_B Z + a2)), (3, .int x3), (4, .int v27)] [.long v32, .int v27, .ref (am_B Z + (R a0 2))] R I J28 (k33 v32) := by
      subst ek33
      intro v32
      show am_V Z X kX1_countWords (fun r : Int64 × am_L => (some (.long r.1), R, I, r.2)) 30 [(0, .ref (am_B Z + a0)), (1, .ref (am_B Z + a1)), (2, .ref (am_B Z + a2)), (3, .int x3), (4, .int v27)] [.long v32, .int v27, .ref (am_B Z + (R a0 2))] R I J28 _
      refine am_last h31 dX1_countWords_30 ?_
      refine am_letL (fun J34 => ?_)
      refine am_iinc (j := 4) (ls' := [(4, .int (v27 + (1 : Int32))), (0, .ref (am_B Z + a0)), (1, .ref (am_B Z + a1)), (2, .ref (am_B Z + a2)), (3, .int x3)]) dX1_countWords_31 rfl rfl (Nat.le_of_ble_eq_true rfl) rfl ?_
      refine am_goto (tgt := 3) dX1_countWords_34 rfl ?_
      refine am_sub (ls' := [(0, .ref (am_B Z + a0)), (1, .ref (am_B Z + a1)), (2, .ref (am_B Z + a2)), (3, .int x3), (4, .int (v27 + (1 : Int32)))]) [1, 2, 3, 4, 0] rfl ?_
      exact hih29 (v27 + (1 : Int32)) J34
    refine am_icmp_neL (tgt := 29) dX1_countWords_22 rfl (fun e35 => ?_) (fun e35 => ?_)
    · refine am_lconst (v := 0) dX1_countWords_29 (by decide) ?_
      exact hk33 _
    · refine am_lconst (v := 1) dX1_countWords_25 (by decide) ?_
      refine am_goto (tgt := 30) dX1_countWords_26 rfl ?_
      exact hk33 _
theorem uX1_countWords_3 {Z : am_Z} {X : am_X} (R : am_R) (I : am_I) (a0 : Nat) (a1 : Nat) (a2 : Nat) (x3 : Int32) (h24 : am_G Z a0 = some (.inl 1)) (h25 : am_G Z a1 = some (.inl 0)) (h26 : am_G Z a2 = some (.inl 6)) (j1 : am_L → Option (Int64 × am_L)) (hj1 : ∀ (J2 : am_L), am_V Z X kX1_countWords (fun r : Int64 × am_L => (some (.long r.1), R, I, r.2)) 37 [(0, .ref (am_B Z + a0)), (1, .ref (am_B Z + a1)), (2, .ref (am_B Z + a2)), (3, .int x3)] [] R I J2 (j1 J2)) : ∀ (n : Nat) (v27 : Int32) (J28 : am_L), am_V Z X kX1_countWords (fun r : Int64 × am_L => (some (.long r.1), R, I, r.2)) 3 [(0, .ref (am_B Z + a0)), (1, .ref (am_B Z + a1)), (2, .ref (am_B Z + a2)), (3, .int x3), (4, .int v27)] [] R I J28 (lX1_countWords_3 R I a0 a1 a2 x3 j1 n v27 J28) := by
  intro n
  induction n with
  | zero => intro _ _; exact am_none
  | succ n ih => exact fun v27 J28 => vX1_countWords_3 R I a0 a1 a2 x3 h24 h25 h26 j1 hj1 (lX1_countWords_3 R I a0 a1 a2 x3 j1 n) ih v27 J28
set_option maxRecDepth 100000 in
set_option maxHeartbeats 4000000 in
theorem tX1_countWords {Z : am_Z} (R : am_R) (I : am_I) (L : am_L) (a0 : Nat) (a1 : Nat) (a2 : Nat) (x3 : Int32) (h_a0 : am_G Z a0 = some (.inl 1)) (h_a1 : am_G Z a1 = some (.inl 0)) (h_a2 : am_G Z a2 = some (.inl 6)) : am_M Z yX1_countWords kX1_countWords [.ref (am_B Z + a0), .ref (am_B Z + a1), .ref (am_B Z + a2), .int x3] R I L (pX1_countWords R I L a0 a1 a2 x3) (fun r : Int64 × am_L => (some (.long r.1), R, I, r.2)) := by
  refine am_entry (ls := [(0, .ref (am_B Z + a0)), (1, .ref (am_B Z + a1)), (2, .ref (am_B Z + a2)), (3, .int x3)]) (by decide) hX1_countWords rfl (Nat.le_of_ble_eq_true rfl) rfl (fun X => ?_)
  unfold pX1_countWords
  refine am_iconst (v := 0) dX1_countWords_0 (by decide) ?_
  refine am_istore (ls' := [(4, .int (0 : Int32)), (0, .ref (am_B Z + a0)), (1, .ref (am_B Z + a1)), (2, .ref (am_B Z + a2)), (3, .int x3)]) dX1_countWords_1 (Nat.le_of_ble_eq_true rfl) rfl ?_
  refine am_jnV (fun j1 ej1 => ?_)
  have hj1 : ∀ (J2 : am_L), am_V Z X kX1_countWords (fun r : Int64 × am_L => (some (.long r.1), R, I, r.2)) 37 [(0, .ref (am_B Z + a0)), (1, .ref (am_B Z + a1)), (2, .ref (am_B Z + a2)), (3, .int x3)] [] R I J2 (j1 J2) := by
    subst ej1
    intro J2
    show am_V Z X kX1_countWords (fun r : Int64 × am_L => (some (.long r.1), R, I, r.2)) 37 [(0, .ref (am_B Z + a0)), (1, .ref (am_B Z + a1)), (2, .ref (am_B Z + a2)), (3, .int x3)] [] R I J2 _
    refine am_iconst (v := 0) dX1_countWords_37 (by decide) ?_
    refine am_istore (ls' := [(4, .int (0 : Int32)), (0, .ref (am_B Z + a0)), (1, .ref (am_B Z + a1)), (2, .ref (am_B Z + a2)), (3, .int x3)]) dX1_countWords_38 (Nat.le_of_ble_eq_true rfl) rfl ?_
    refine am_jnV (fun j3 ej3 => ?_)
    have hj3 : ∀ (J4 : am_L), am_V Z X kX1_countWords (fun r : Int64 × am_L => (some (.long r.1), R, I, r.2)) 57 [(0, .ref (am_B Z + a0)), (1, .ref (am_B Z + a1))] [] R I J4 (j3 J4) := by
      subst ej3
      intro J4
      show am_V Z X kX1_countWords (fun r : Int64 × am_L => (some (.long r.1), R, I, r.2)) 57 [(0, .ref (am_B Z + a0)), (1, .ref (am_B Z + a1))] [] R I J4 _
      refine am_lconst (v := 0) dX1_countWords_57 (by decide) ?_
      refine am_lstore (ls' := [(4, .long (0 : Int64)), (0, .ref (am_B Z + a0)), (1, .ref (am_B Z + a1))]) dX1_countWords_58 (Nat.le_of_ble_eq_true rfl) rfl ?_
      refine am_iconst (v := 0) dX1_countWords_60 (by decide) ?_
      refine am_istore (ls' := [(6, .int (0 : Int32)), (4, .long (0 : Int64)), (0, .ref (am_B Z + a0)), (1, .ref (am_B Z + a1))]) dX1_countWords_61 (Nat.le_of_ble_eq_true rfl) rfl ?_
      refine am_sub (ls' := [(0, .ref (am_B Z + a0)), (1, .ref (am_B Z + a1)), (4, .long (0 : Int64)), (6, .int (0 : Int32))]) [2, 3, 1, 0] rfl ?_
      exact uX1_countWords_63 R I a0 a1 J4 h_a0 h_a1 am_fu (0 : Int64) (0 : Int32)
    refine am_sub (ls' := [(0, .ref (am_B Z + a0)), (1, .ref (am_B Z + a1)), (2, .ref (am_B Z + a2)), (3, .int x3), (4, .int (0 : Int32))]) [1, 2, 3, 4, 0] rfl ?_
    exact uX1_countWords_40 R I a0 a1 a2 x3 h_a0 h_a1 h_a2 j3 hj3 am_fu (0 : Int32) J2
  refine am_sub (ls' := [(0, .ref (am_B Z + a0)), (1, .ref (am_B Z + a1)), (2, .ref (am_B Z + a2)), (3, .int x3), (4, .int (0 : Int32))]) [1, 2, 3, 4, 0] rfl ?_
  exact uX1_countWords_3 R I a0 a1 a2 x3 h_a0 h_a1 h_a2 j1 hj1 am_fu (0 : Int32) L
abbrev kX1_bitsOfQuotient : am_K := (cX1_bitsOfQuotient, 9, RX1, wsX1_bitsOfQuotient, some .long, { frames := 0, cells := 0, slots := 0, locals := 0 })
theorem hX1_bitsOfQuotient : am_cl yX1_bitsOfQuotient kX1_bitsOfQuotient 2 := ⟨⟨_, rfl⟩, rfl, rfl, by decide +kernel, by decide +kernel, by decide +kernel⟩
set_option maxRecDepth 100000 in
set_option maxHeartbeats 4000000 in
theorem vX1_bitsOfQuotient_20 {Z : am_Z} {X : am_X} (R : am_R) (I : am_I) (L : am_L) (j3 : UInt64 → Int32 → Option (Int64)) (hj3 : ∀ (v4 : UInt64) (v5 : Int32), am_V Z X kX1_bitsOfQuotient (fun r : Int64 => (some (.long r), R, I, L)) 50 [(4, .double v4), (6, .int v5)] [] R I L (j3 v4 v5)) (ih9 : UInt64 → Int32 → Option (Int64)) (hih9 : ∀ (v7 : UInt64) (v8 : Int32), am_V Z X kX1_bitsOfQuotient (fun r : Int64 => (some (.long r), R, I, L)) 20 [(4, .double v7), (6, .int v8)] [] R I L (ih9 v7 v8)) (v7 : UInt64) (v8 : Int32) : am_V Z X kX1_bitsOfQuotient (fun r : Int64 => (some (.long r), R, I, L)) 20 [(4, .double v7), (6, .int v8)] [] R I L (sX1_bitsOfQuotient_20 j3 ih9 v7 v8) := by
  unfold sX1_bitsOfQuotient_20
  refine am_dload dX1_bitsOfQuotient_20 0 rfl ?_
  refine am_ldc2d (v := 4611686018427387904) dX1_bitsOfQuotient_22 (by decide +kernel) ?_
  refine am_dcmp dX1_bitsOfQuotient_25 ?_
  refine am_if_lt (tgt := 50) dX1_bitsOfQuotient_26 rfl (fun e10 => ?_) (fun e10 => ?_)
  · exact hj3 v7 v8
  · refine am_iload dX1_bitsOfQuotient_29 1 rfl ?_
    refine am_bipush (v := 64) dX1_bitsOfQuotient_31 (by decide) ?_
    refine am_icmp_ge (tgt := 50) dX1_bitsOfQuotient_33 rfl (fun e11 => ?_) (fun e11 => ?_)
    · exact hj3 v7 v8
    · refine am_dload dX1_bitsOfQuotient_36 0 rfl ?_
      refine am_ldc2d (v := 4611686018427387904) dX1_bitsOfQuotient_38 (by decide +kernel) ?_
      refine am_ddiv dX1_bitsOfQuotient_41 ?_
      refine am_letTd (fun v12 => ?_)
      refine am_dstore (ls' := [(4, .double v12), (6, .int v8)]) dX1_bitsOfQuotient_42 (Nat.le_of_ble_eq_true rfl) rfl ?_
      refine am_iinc (j := 1) (ls' := [(6, .int (v8 + (1 : Int32))), (4, .double v12)]) dX1_bitsOfQuotient_44 rfl rfl (Nat.le_of_ble_eq_true rfl) rfl ?_
      refine am_goto (tgt := 20) dX1_bitsOfQuotient_47 rfl ?_
      refine am_sub (ls' := [(4, .double v12), (6, .int (v8 + (1 : Int32)))]) [1, 0] rfl ?_
      exact hih9 v12 (v8 + (1 : Int32))
theorem uX1_bitsOfQuotient_20 {Z : am_Z} {X : am_X} (R : am_R) (I : am_I) (L : am_L) (j3 : UInt64 → Int32 → Option (Int64)) (hj3 : ∀ (v4 : UInt64) (v5 : Int32), am_V Z X kX1_bitsOfQuotient (fun r : Int64 => (some (.long r), R, I, L)) 50 [(4, .double v4), (6, .int v5)] [] R I L (j3 v4 v5)) : ∀ (n : Nat) (v7 : UInt64) (v8 : Int32), am_V Z X kX1_bitsOfQuotient (fun r : Int64 => (some (.long r), R, I, L)) 20 [(4, .double v7), (6, .int v8)] [] R I L (lX1_bitsOfQuotient_20 j3 n v7 v8) := by
  intro n
  induction n with
  | zero => intro _ _; exact am_none
  | succ n ih => exact fun v7 v8 => vX1_bitsOfQuotient_20 R I L j3 hj3 (lX1_bitsOfQuotient_20 j3 n) ih v7 v8
set_option maxRecDepth 100000 in
set_option maxHeartbeats 4000000 in
theorem tX1_bitsOfQuotient {Z : am_Z} (R : am_R) (I : am_I) (L : am_L) (x0 : Int64) (x2 : Int64)  : am_M Z yX1_bitsOfQuotient kX1_bitsOfQuotient [.long x0, .long x2] R I L (pX1_bitsOfQuotient x0 x2) (fun r : Int64 => (some (.long r), R, I, L)) := by
  refine am_entry (ls := [(0, .long x0), (2, .long x2)]) (by decide) hX1_bitsOfQuotient rfl (Nat.le_of_ble_eq_true rfl) rfl (fun X => ?_)
  unfold pX1_bitsOfQuotient
  refine am_lload_n dX1_bitsOfQuotient_0 rfl 1 rfl ?_
  refine am_lconst (v := 0) dX1_bitsOfQuotient_1 (by decide) ?_
  refine am_lcmp dX1_bitsOfQuotient_2 ?_
  refine am_if_gt (tgt := 10) dX1_bitsOfQuotient_3 rfl (fun e1 => ?_) (fun e1 => ?_)
  · refine am_lload_n dX1_bitsOfQuotient_10 rfl 0 rfl ?_
    refine am_l2d dX1_bitsOfQuotient_11 ?_
    refine am_lload_n dX1_bitsOfQuotient_12 rfl 1 rfl ?_
    refine am_l2d dX1_bitsOfQuotient_13 ?_
    refine am_ddiv dX1_bitsOfQuotient_14 ?_
    refine am_letTd (fun v2 => ?_)
    refine am_dstore (ls' := [(4, .double v2), (0, .long x0), (2, .long x2)]) dX1_bitsOfQuotient_15 (Nat.le_of_ble_eq_true rfl) rfl ?_
    refine am_iconst (v := 0) dX1_bitsOfQuotient_17 (by decide) ?_
    refine am_istore (ls' := [(6, .int (0 : Int32)), (4, .double v2), (0, .long x0), (2, .long x2)]) dX1_bitsOfQuotient_18 (Nat.le_of_ble_eq_true rfl) rfl ?_
    refine am_jnV (fun j3 ej3 => ?_)
    have hj3 : ∀ (v4 : UInt64) (v5 : Int32), am_V Z X kX1_bitsOfQuotient (fun r : Int64 => (some (.long r), R, I, L)) 50 [(4, .double v4), (6, .int v5)] [] R I L (j3 v4 v5) := by
      subst ej3
      intro v4 v5
      show am_V Z X kX1_bitsOfQuotient (fun r : Int64 => (some (.long r), R, I, L)) 50 [(4, .double v4), (6, .int v5)] [] R I L _
      refine am_dload dX1_bitsOfQuotient_50 0 rfl ?_
      refine am_dconst1 dX1_bitsOfQuotient_52 ?_
      refine am_dsub dX1_bitsOfQuotient_53 ?_
      refine am_ldc2d (v := 4841369599423283200) dX1_bitsOfQuotient_54 (by decide +kernel) ?_
      refine am_dmul dX1_bitsOfQuotient_57 ?_
      refine am_d2l dX1_bitsOfQuotient_58 ?_
      refine am_letTl (fun v6 => ?_)
      refine am_lstore (ls' := [(7, .long v6), (4, .double v4), (6, .int v5)]) dX1_bitsOfQuotient_59 (Nat.le_of_ble_eq_true rfl) rfl ?_
      refine am_sipush (v := 1023) dX1_bitsOfQuotient_61 (by decide) ?_
      refine am_iload dX1_bitsOfQuotient_64 2 rfl ?_
      refine am_iadd dX1_bitsOfQuotient_66 ?_
      refine am_i2l dX1_bitsOfQuotient_67 ?_
      refine am_bipush (v := 52) dX1_bitsOfQuotient_68 (by decide) ?_
      refine am_lshl dX1_bitsOfQuotient_70 ?_
      refine am_lload dX1_bitsOfQuotient_71 0 rfl ?_
      refine am_ladd dX1_bitsOfQuotient_73 ?_
      exact am_lret dX1_bitsOfQuotient_74 rfl rfl
    refine am_sub (ls' := [(4, .double v2), (6, .int (0 : Int32))]) [1, 0] rfl ?_
    exact uX1_bitsOfQuotient_20 R I L j3 hj3 am_fu v2 (0 : Int32)
  · refine am_ldc2 (v := 9221120237041090560) dX1_bitsOfQuotient_6 (by decide +kernel) ?_
    exact am_lret dX1_bitsOfQuotient_9 rfl rfl
abbrev kX2_cheapest : am_K := (cX2_cheapest, 4, RX2, wsX2_cheapest, some .int, { frames := 1, cells := 0, slots := 0, locals := 23 })
theorem hX2_cheapest : am_cl yX2_cheapest kX2_cheapest 1 := ⟨⟨_, rfl⟩, rfl, rfl, by decide +kernel, by decide +kernel, by decide +kernel⟩
theorem iX2_cheapest_2 : ∀ w ∈ u_ws RX2 TX2 1, w ∈ wsX2_cheapest := by decide +kernel
theorem fX2_cheapest_9 : Cond.fieldLink RX2 9 "AmbiguityAnalyzer$LightSearch" "costs" "[I" ∈ wsX2_cheapest := by decide +kernel
set_option maxRecDepth 100000 in
set_option maxHeartbeats 4000000 in
theorem vX2_cheapest_5 {Z : am_Z} {X : am_X} (R : am_R) (I : am_I) (L : am_L) (a0 : Nat) (x1 : Int32) (h1 : am_G Z a0 = some (.inl 2)) (ih4 : Int32 → Int32 → Option (Int32)) (hih4 : ∀ (v2 : Int32) (v3 : Int32), am_V Z X kX2_cheapest (fun r : Int32 => (some (.int r), R, I, L)) 5 [(0, .ref (am_B Z + a0)), (1, .int x1), (2, .int v2), (3, .int v3)] [] R I L (ih4 v2 v3)) (v2 : Int32) (v3 : Int32) : am_V Z X kX2_cheapest (fun r : Int32 => (some (.int r), R, I, L)) 5 [(0, .ref (am_B Z + a0)), (1, .int x1), (2, .int v2), (3, .int v3)] [] R I L (sX2_cheapest_5 R I a0 x1 ih4 v2 v3) := by
  unfold sX2_cheapest_5
  refine am_iload_n dX2_cheapest_5 rfl 3 rfl ?_
  refine am_bipush (v := 6) dX2_cheapest_6 (by decide) ?_
  refine am_icmp_ge (tgt := 40) dX2_cheapest_8 rfl (fun e5 => ?_) (fun e5 => ?_)
  · refine am_iload_n dX2_cheapest_40 rfl 2 rfl ?_
    exact am_iret dX2_cheapest_41 rfl rfl
  · refine am_iload_n dX2_cheapest_11 rfl 1 rfl ?_
    refine am_iload_n dX2_cheapest_12 rfl 3 rfl ?_
    refine am_callN (host := RX10) [.int x1, .int v3] (tX10_contains R I L x1 v3) gX2_cheapest_X10_contains_n58 (by decide +kernel) (by decide +kernel) (by decide +kernel) hX10_contains ⟨Nat.le_of_ble_eq_true rfl, Nat.le_of_ble_eq_true rfl⟩ rfl rfl (Nat.le_of_ble_eq_true rfl) dX2_cheapest_13 (fun r6 => ?_)
    show am_V Z X kX2_cheapest (fun r : Int32 => (some (.int r), R, I, L)) 16 [(0, .ref (am_B Z + a0)), (1, .int x1), (2, .int v2), (3, .int v3)] [.int r6] R I L _
    refine am_jnV (fun j7 ej7 => ?_)
    have hj7 : ∀ (v8 : Int32), am_V Z X kX2_cheapest (fun r : Int32 => (some (.int r), R, I, L)) 33 [(0, .ref (am_B Z + a0)), (1, .int x1), (3, .int v3)] [.int v8] R I L (j7 v8) := by
      subst ej7
      intro v8
      show am_V Z X kX2_cheapest (fun r : Int32 => (some (.int r), R, I, L)) 33 [(0, .ref (am_B Z + a0)), (1, .int x1), (3, .int v3)] [.int v8] R I L _
      refine am_istore_n (ls' := [(2, .int v8), (0, .ref (am_B Z + a0)), (1, .int x1), (3, .int v3)]) dX2_cheapest_33 rfl (Nat.le_of_ble_eq_true rfl) rfl ?_
      refine am_iinc (j := 3) (ls' := [(3, .int (v3 + (1 : Int32))), (2, .int v8), (0, .ref (am_B Z + a0)), (1, .int x1)]) dX2_cheapest_34 rfl rfl (Nat.le_of_ble_eq_true rfl) rfl ?_
      refine am_goto (tgt := 5) dX2_cheapest_37 rfl ?_
      refine am_sub (ls' := [(0, .ref (am_B Z + a0)), (1, .int x1), (2, .int v8), (3, .int (v3 + (1 : Int32)))]) [2, 3, 1, 0] rfl ?_
      exact hih4 v8 (v3 + (1 : Int32))
    refine am_if_eq (tgt := 32) dX2_cheapest_16 rfl (fun e9 => ?_) (fun e9 => ?_)
    · refine am_iload_n dX2_cheapest_32 rfl 2 rfl ?_
      refine am_sub (ls' := [(0, .ref (am_B Z + a0)), (1, .int x1), (3, .int v3)]) [0, 1, 3] rfl ?_
      exact hj7 v2
    · refine am_iload_n dX2_cheapest_19 rfl 2 rfl ?_
      refine am_aload_n dX2_cheapest_20 rfl 0 rfl ?_
      refine am_getR 2 0 clX2 (Nat.le_of_ble_eq_true rfl) h1 iX2_cheapest_2 fX2_cheapest_9 rfl rfl dX2_cheapest_21 (fun h10 => ?_)
      refine am_iload_n dX2_cheapest_24 rfl 3 rfl ?_
      refine am_iald h10 dX2_cheapest_25 ?_
      refine am_mmin (by decide +kernel) (by decide +kernel) (by decide +kernel) (by decide +kernel) (Nat.le_of_ble_eq_true rfl) (Nat.le_of_ble_eq_true rfl) dX2_cheapest_26 ?_
      refine am_goto (tgt := 33) dX2_cheapest_29 rfl ?_
      refine am_sub (ls' := [(0, .ref (am_B Z + a0)), (1, .int x1), (3, .int v3)]) [0, 1, 3] rfl ?_
      exact hj7 (if (I (R a0 0) (Int32.toNatClampNeg v3)) < v2 then (I (R a0 0) (Int32.toNatClampNeg v3)) else v2)
theorem uX2_cheapest_5 {Z : am_Z} {X : am_X} (R : am_R) (I : am_I) (L : am_L) (a0 : Nat) (x1 : Int32) (h1 : am_G Z a0 = some (.inl 2)) : ∀ (n : Nat) (v2 : Int32) (v3 : Int32), am_V Z X kX2_cheapest (fun r : Int32 => (some (.int r), R, I, L)) 5 [(0, .ref (am_B Z + a0)), (1, .int x1), (2, .int v2), (3, .int v3)] [] R I L (lX2_cheapest_5 R I a0 x1 n v2 v3) := by
  intro n
  induction n with
  | zero => intro _ _; exact am_none
  | succ n ih => exact fun v2 v3 => vX2_cheapest_5 R I L a0 x1 h1 (lX2_cheapest_5 R I a0 x1 n) ih v2 v3
set_option maxRecDepth 100000 in
set_option maxHeartbeats 4000000 in
theorem tX2_cheapest {Z : am_Z} (R : am_R) (I : am_I) (L : am_L) (a0 : Nat) (x1 : Int32) (h_a0 : am_G Z a0 = some (.inl 2)) : am_M Z yX2_cheapest kX2_cheapest [.ref (am_B Z + a0), .int x1] R I L (pX2_cheapest R I a0 x1) (fun r : Int32 => (some (.int r), R, I, L)) := by
  refine am_entry (ls := [(0, .ref (am_B Z + a0)), (1, .int x1)]) (by decide) hX2_cheapest rfl (Nat.le_of_ble_eq_true rfl) rfl (fun X => ?_)
  unfold pX2_cheapest
  refine am_ldc (v := 1000000) dX2_cheapest_0 (by decide +kernel) ?_
  refine am_istore_n (ls' := [(2, .int (1000000 : Int32)), (0, .ref (am_B Z + a0)), (1, .int x1)]) dX2_cheapest_2 rfl (Nat.le_of_ble_eq_true rfl) rfl ?_
  refine am_iconst (v := 0) dX2_cheapest_3 (by decide) ?_
  refine am_istore_n (ls' := [(3, .int (0 : Int32)), (2, .int (1000000 : Int32)), (0, .ref (am_B Z + a0)), (1, .int x1)]) dX2_cheapest_4 rfl (Nat.le_of_ble_eq_true rfl) rfl ?_
  refine am_sub (ls' := [(0, .ref (am_B Z + a0)), (1, .int x1), (2, .int (1000000 : Int32)), (3, .int (0 : Int32))]) [2, 3, 1, 0] rfl ?_
  exact uX2_cheapest_5 R I L a0 x1 h_a0 am_fu (1000000 : Int32) (0 : Int32)
abbrev kX2_price : am_K := (cX2_price, 2, RX2, wsX2_price, some .int, { frames := 0, cells := 0, slots := 0, locals := 0 })
theorem hX2_price : am_cl yX2_price kX2_price 2 := ⟨⟨_, rfl⟩, rfl, rfl, by decide +kernel, by decide +kernel, by decide +kernel⟩
set_option maxRecDepth 100000 in
set_option maxHeartbeats 4000000 in
theorem tX2_price {Z : am_Z} (R : am_R) (I : am_I) (L : am_L) (a0 : Nat) (x1 : Int32) (h_a0 : am_G Z a0 = some (.inr (0, 3))) : am_M Z yX2_price kX2_price [.ref (am_B Z + a0), .int x1] R I L (pX2_price I a0 x1) (fun r : Int32 => (some (.int r), R, I, L)) := by
  refine am_entry (ls := [(0, .ref (am_B Z + a0)), (1, .int x1)]) (by decide) hX2_price rfl (Nat.le_of_ble_eq_true rfl) rfl (fun X => ?_)
  unfold pX2_price
  refine am_iload_n dX2_price_0 rfl 1 rfl ?_
  refine am_if_lt (tgt := 21) dX2_price_1 rfl (fun e1 => ?_) (fun e1 => ?_)
  · refine am_iconst (v := 1) dX2_price_21 (by decide) ?_
    exact am_iret dX2_price_22 rfl rfl
  · refine am_iload_n dX2_price_4 rfl 1 rfl ?_
    refine am_aload_n dX2_price_5 rfl 0 rfl ?_
    refine am_alen (t := 0) (v := 3) rfl h_a0 (by decide) dX2_price_6 ?_
    refine am_icmp_ge (tgt := 21) dX2_price_7 rfl (fun e2 => ?_) (fun e2 => ?_)
    · refine am_iconst (v := 1) dX2_price_21 (by decide) ?_
      exact am_iret dX2_price_22 rfl rfl
    · refine am_aload_n dX2_price_10 rfl 0 rfl ?_
      refine am_iload_n dX2_price_11 rfl 1 rfl ?_
      refine am_iald h_a0 dX2_price_12 ?_
      refine am_bipush (v := 64) dX2_price_13 (by decide) ?_
      refine am_imul dX2_price_15 ?_
      refine am_iconst (v := 1) dX2_price_16 (by decide) ?_
      refine am_iadd dX2_price_17 ?_
      refine am_goto (tgt := 22) dX2_price_18 rfl ?_
      exact am_iret dX2_price_22 rfl rfl
abbrev kX2_computeCosts : am_K := (cX2_computeCosts, 7, RX2, wsX2_computeCosts, none, { frames := 2, cells := 0, slots := 0, locals := 46 })
theorem hX2_computeCosts : am_cl yX2_computeCosts kX2_computeCosts 2 := ⟨⟨_, rfl⟩, rfl, rfl, by decide +kernel, by decide +kernel, by decide +kernel⟩
theorem iX2_computeCosts_2 : ∀ w ∈ u_ws RX2 TX2 1, w ∈ wsX2_computeCosts := by decide +kernel
theorem fX2_computeCosts_9 : Cond.fieldLink RX2 9 "AmbiguityAnalyzer$LightSearch" "costs" "[I" ∈ wsX2_computeCosts := by decide +kernel
theorem iX2_computeCosts_0 : ∀ w ∈ u_ws RX0 TX0 4, w ∈ wsX2_computeCosts := by decide +kernel
theorem fX2_computeCosts_55 : Cond.fieldLink RX2 55 "AmbiguityAnalyzer$Automaton" "finals" "I" ∈ wsX2_computeCosts := by decide +kernel
theorem fX2_computeCosts_62 : Cond.fieldLink RX2 62 "AmbiguityAnalyzer$Automaton" "states" "I" ∈ wsX2_computeCosts := by decide +kernel
set_option maxRecDepth 100000 in
set_option maxHeartbeats 4000000 in
theorem vX2_computeCosts_60 {Z : am_Z} {X : am_X} (R : am_R) (L : am_L) (a0 : Nat) (a1 : Nat) (a2 : Nat) (v6 : Int32) (v15 : Int32) (h21 : am_G Z a0 = some (.inl 2)) (h22 : am_G Z a1 = some (.inl 0)) (h23 : am_G Z a2 = some (.inr (0, 3))) (j19 : am_I → Option (am_I)) (hj19 : ∀ (J20 : am_I), am_V Z X kX2_computeCosts (fun r : am_I => (none, R, r, L)) 112 [(0, .ref (am_B Z + a0)), (1, .ref (am_B Z + a1)), (2, .ref (am_B Z + a2)), (3, .int v6), (4, .int v15)] [] R J20 L (j19 J20)) (ih26 : Int32 → am_I → Option (am_I)) (hih26 : ∀ (v24 : Int32) (J25 : am_I), am_V Z X kX2_computeCosts (fun r : am_I => (none, R, r, L)) 60 [(0, .ref (am_B Z + a0)), (1, .ref (am_B Z + a1)), (2, .ref (am_B Z + a2)), (3, .int v6), (4, .int v15), (5, .int v24)] [] R J25 L (ih26 v24 J25)) (v24 : Int32) (J25 : am_I) : am_V Z X kX2_computeCosts (fun r : am_I => (none, R, r, L)) 60 [(0, .ref (am_B Z + a0)), (1, .ref (am_B Z + a1)), (2, .ref (am_B Z + a2)), (3, .int v6), (4, .int v15), (5, .int v24)] [] R J25 L (sX2_computeCosts_60 R a0 a1 a2 v6 v15 j19 ih26 v24 J25) := by
  unfold sX2_computeCosts_60
  refine am_iload dX2_computeCosts_60 5 rfl ?_
  refine am_iconst (v := 3) dX2_computeCosts_62 (by decide) ?_
  refine am_icmp_ge (tgt := 112) dX2_computeCosts_63 rfl (fun e27 => ?_) (fun e27 => ?_)
  · refine am_sub (ls' := [(0, .ref (am_B Z + a0)), (1, .ref (am_B Z + a1)), (2, .ref (am_B Z + a2)), (3, .int v6), (4, .int v15)]) [0, 1, 2, 3, 4] rfl ?_
    exact hj19 J25
  · refine am_aload_n dX2_computeCosts_66 rfl 0 rfl ?_
    refine am_aload_n dX2_computeCosts_67 rfl 1 rfl ?_
    refine am_iload dX2_computeCosts_68 4 rfl ?_
    refine am_iload dX2_computeCosts_70 5 rfl ?_
    refine am_callV [.int v15, .int v24] (tX0_targetsOf R J25 L a1 v15 v24 h22) h22 clX0 gX2_computeCosts_X0_targetsOf hX0_targetsOf rfl ⟨Nat.le_of_ble_eq_true rfl, Nat.le_of_ble_eq_true rfl⟩ rfl rfl (Nat.le_of_ble_eq_true rfl) dX2_computeCosts_72 (fun r28 => ?_)
    show am_V Z X kX2_computeCosts (fun r : am_I => (none, R, r, L)) 75 [(0, .ref (am_B Z + a0)), (1, .ref (am_B Z + a1)), (2, .ref (am_B Z + a2)), (3, .int v6), (4, .int v15), (5, .int v24)] [.int r28, .ref (am_B Z + a0)] R J25 L _
    refine am_callV [.int r28] (tX2_cheapest R J25 L a0 r28 h21) h21 clX2 gX2_computeCosts_X2_cheapest hX2_cheapest rfl ⟨Nat.le_of_ble_eq_true rfl, Nat.le_of_ble_eq_true rfl⟩ rfl rfl (Nat.le_of_ble_eq_true rfl) dX2_computeCosts_75 (fun r29 => ?_)
    show am_V Z X kX2_computeCosts (fun r : am_I => (none, R, r, L)) 78 [(0, .ref (am_B Z + a0)), (1, .ref (am_B Z + a1)), (2, .ref (am_B Z + a2)), (3, .int v6), (4, .int v15), (5, .int v24)] [.int r29] R J25 L _
    refine am_istore (ls' := [(6, .int r29), (0, .ref (am_B Z + a0)), (1, .ref (am_B Z + a1)), (2, .ref (am_B Z + a2)), (3, .int v6), (4, .int v15), (5, .int v24)]) dX2_computeCosts_78 (Nat.le_of_ble_eq_true rfl) rfl ?_
    refine am_aload_n dX2_computeCosts_80 rfl 1 rfl ?_
    refine am_getR 2 0 clX2 (Nat.le_of_ble_eq_true rfl) h21 iX2_computeCosts_2 fX2_computeCosts_9 rfl rfl dX2_computeCosts_81 (fun h30 => ?_)
    refine am_iload dX2_computeCosts_84 5 rfl ?_
    refine am_aload_n dX2_computeCosts_86 rfl 1 rfl ?_
    refine am_getR 2 0 clX2 (Nat.le_of_ble_eq_true rfl) h21 iX2_computeCosts_2 fX2_computeCosts_9 rfl rfl dX2_computeCosts_87 (fun h31 => ?_)
    refine am_iload dX2_computeCosts_90 5 rfl ?_
    refine am_iald h31 dX2_computeCosts_92 ?_
    refine am_iload dX2_computeCosts_93 0 rfl ?_
    refine am_aload_n dX2_computeCosts_95 rfl 3 rfl ?_
    refine am_iload dX2_computeCosts_96 6 rfl ?_
    refine am_callS [.ref (am_B Z + a2), .int v24] (tX2_price R J25 L a2 v24 h23) gX2_computeCosts_X2_price hX2_price ⟨Nat.le_of_ble_eq_true rfl, Nat.le_of_ble_eq_true rfl⟩ rfl rfl (Nat.le_of_ble_eq_true rfl) dX2_computeCosts_98 (fun r32 => ?_)
    show am_V Z X kX2_computeCosts (fun r : am_I => (none, R, r, L)) 101 [(6, .int r29), (0, .ref (am_B Z + a0)), (1, .ref (am_B Z + a1)), (2, .ref (am_B Z + a2)), (3, .int v6), (4, .int v15), (5, .int v24)] [.int r32, .int r29, .int (J25 (R a0 0) (Int32.toNatClampNeg v15)), .int v15, .ref (am_B Z + (R a0 0))] R J25 L _
    refine am_iadd dX2_computeCosts_101 ?_
    refine am_mmin (by decide +kernel) (by decide +kernel) (by decide +kernel) (by decide +kernel) (Nat.le_of_ble_eq_true rfl) (Nat.le_of_ble_eq_true rfl) dX2_computeCosts_102 ?_
    refine am_iast h30 dX2_computeCosts_105 ?_
    refine am_letI (fun J33 => ?_)
    refine am_iinc (j := 6) (ls' := [(5, .int (v24 + (1 : Int32))), (6, .int r29), (0, .ref (am_B Z + a0)), (1, .ref (am_B Z + a1)), (2, .ref (am_B Z + a2)), (3, .int v6), (4, .int v15)]) dX2_computeCosts_106 rfl rfl (Nat.le_of_ble_eq_true rfl) rfl ?_
    refine am_goto (tgt := 60) dX2_computeCosts_109 rfl ?_
    refine am_sub (ls' := [(0, .ref (am_B Z + a0)), (1, .ref (am_B Z + a1)), (2, .ref (am_B Z + a2)), (3, .int v6), (4, .int v15), (5, .int (v24 + (1 : Int32)))]) [2, 3, 4, 5, 6, 0] rfl ?_
    exact hih26 (v24 + (1 : Int32)) J33
theorem uX2_computeCosts_60 {Z : am_Z} {X : am_X} (R : am_R) (L : am_L) (a0 : Nat) (a1 : Nat) (a2 : Nat) (v6 : Int32) (v15 : Int32) (h21 : am_G Z a0 = some (.inl 2)) (h22 : am_G Z a1 = some (.inl 0)) (h23 : am_G Z a2 = some (.inr (0, 3))) (j19 : am_I → Option (am_I)) (hj19 : ∀ (J20 : am_I), am_V Z X kX2_computeCosts (fun r : am_I => (none, R, r, L)) 112 [(0, .ref (am_B Z + a0)), (1, .ref (am_B Z + a1)), (2, .ref (am_B Z + a2)), (3, .int v6), (4, .int v15)] [] R J20 L (j19 J20)) : ∀ (n : Nat) (v24 : Int32) (J25 : am_I), am_V Z X kX2_computeCosts (fun r : am_I => (none, R, r, L)) 60 [(0, .ref (am_B Z + a0)), (1, .ref (am_B Z + a1)), (2, .ref (am_B Z + a2)), (3, .int v6), (4, .int v15), (5, .int v24)] [] R J25 L (lX2_computeCosts_60 R a0 a1 a2 v6 v15 j19 n v24 J25) := by
  intro n
  induction n with
  | zero => intro _ _; exact am_none
  | succ n ih => exact fun v24 J25 => vX2_computeCosts_60 R L a0 a1 a2 v6 v15 h21 h22 h23 j19 hj19 (lX2_computeCosts_60 R a0 a1 a2 v6 v15 j19 n) ih v24 J25
set_option maxRecDepth 100000 in
set_option maxHeartbeats 4000000 in
theorem vX2_computeCosts_50 {Z : am_Z} {X : am_X} (R : am_R) (L : am_L) (a0 : Nat) (a1 : Nat) (a2 : Nat) (v6 : Int32) (h12 : am_G Z a0 = some (.inl 2)) (h13 : am_G Z a1 = some (.inl 0)) (h14 : am_G Z a2 = some (.inr (0, 3))) (j10 : am_I → Option (am_I)) (hj10 : ∀ (J11 : am_I), am_V Z X kX2_computeCosts (fun r : am_I => (none, R, r, L)) 118 [(0, .ref (am_B Z + a0)), (1, .ref (am_B Z + a1)), (2, .ref (am_B Z + a2)), (3, .int v6)] [] R J11 L (j10 J11)) (ih17 : Int32 → am_I → Option (am_I)) (hih17 : ∀ (v15 : Int32) (J16 : am_I), am_V Z X kX2_computeCosts (fun r : am_I => (none, R, r, L)) 50 [(0, .ref (am_B Z + a0)), (1, .ref (am_B Z + a1)), (2, .ref (am_B Z + a2)), (3, .int v6), (4, .int v15)] [] R J16 L (ih17 v15 J16)) (v15 : Int32) (J16 : am_I) : am_V Z X kX2_computeCosts (fun r : am_I => (none, R, r, L)) 50 [(0, .ref (am_B Z + a0)), (1, .ref (am_B Z + a1)), (2, .ref (am_B Z + a2)), (3, .int v6), (4, .int v15)] [] R J16 L (sX2_computeCosts_50 R a0 a1 a2 v6 j10 ih17 v15 J16) := by
  unfold sX2_computeCosts_50
  refine am_iload dX2_computeCosts_50 4 rfl ?_
  refine am_bipush (v := 6) dX2_computeCosts_52 (by decide) ?_
  refine am_icmp_ge (tgt := 118) dX2_computeCosts_54 rfl (fun e18 => ?_) (fun e18 => ?_)
  · refine am_sub (ls' := [(0, .ref (am_B Z + a0)), (1, .ref (am_B Z + a1)), (2, .ref (am_B Z + a2)), (3, .int v6)]) [0, 1, 2, 3] rfl ?_
    exact hj10 J16
  · refine am_iconst (v := 0) dX2_computeCosts_57 (by decide) ?_
    refine am_istore (ls' := [(5, .int (0 : Int32)), (0, .ref (am_B Z + a0)), (1, .ref (am_B Z + a1)), (2, .ref (am_B Z + a2)), (3, .int v6), (4, .int v15)]) dX2_computeCosts_58 (Nat.le_of_ble_eq_true rfl) rfl ?_
    refine am_jnV (fun j19 ej19 => ?_)
    have hj19 : ∀ (J20 : am_I), am_V Z X kX2_computeCosts (fun r : am_I => (none, R, r, L)) 112 [(0, .ref (am_B Z + a0)), (1, .ref (am_B Z + a1)), (2, .ref (am_B Z + a2)), (3, .int v6), (4, .int v15)] [] R J20 L (j19 J20) := by
      subst ej19
      intro J20
      show am_V Z X kX2_computeCosts (fun r : am_I => (none, R, r, L)) 112 [(0, .ref (am_B Z + a0)), (1, .ref (am_B Z + a1)), (2, .ref (am_B Z + a2)), (3, .int v6), (4, .int v15)] [] R J20 L _
      refine am_iinc (j := 4) (ls' := [(4, .int (v15 + (1 : Int32))), (0, .ref (am_B Z + a0)), (1, .ref (am_B Z + a1)), (2, .ref (am_B Z + a2)), (3, .int v6)]) dX2_computeCosts_112 rfl rfl (Nat.le_of_ble_eq_true rfl) rfl ?_
      refine am_goto (tgt := 50) dX2_computeCosts_115 rfl ?_
      refine am_sub (ls' := [(0, .ref (am_B Z + a0)), (1, .ref (am_B Z + a1)), (2, .ref (am_B Z + a2)), (3, .int v6), (4, .int (v15 + (1 : Int32)))]) [1, 2, 3, 4, 0] rfl ?_
      exact hih17 (v15 + (1 : Int32)) J20
    refine am_sub (ls' := [(0, .ref (am_B Z + a0)), (1, .ref (am_B Z + a1)), (2, .ref (am_B Z + a2)), (3, .int v6), (4, .int v15), (5, .int (0 : Int32))]) [1, 2, 3, 4, 5, 0] rfl ?_
    exact uX2_computeCosts_60 R L a0 a1 a2 v6 v15 h12 h13 h14 j19 hj19 am_fu (0 : Int32) J16
theorem uX2_computeCosts_50 {Z : am_Z} {X : am_X} (R : am_R) (L : am_L) (a0 : Nat) (a1 : Nat) (a2 : Nat) (v6 : Int32) (h12 : am_G Z a0 = some (.inl 2)) (h13 : am_G Z a1 = some (.inl 0)) (h14 : am_G Z a2 = some (.inr (0, 3))) (j10 : am_I → Option (am_I)) (hj10 : ∀ (J11 : am_I), am_V Z X kX2_computeCosts (fun r : am_I => (none, R, r, L)) 118 [(0, .ref (am_B Z + a0)), (1, .ref (am_B Z + a1)), (2, .ref (am_B Z + a2)), (3, .int v6)] [] R J11 L (j10 J11)) : ∀ (n : Nat) (v15 : Int32) (J16 : am_I), am_V Z X kX2_computeCosts (fun r : am_I => (none, R, r, L)) 50 [(0, .ref (am_B Z + a0)), (1, .ref (am_B Z + a1)), (2, .ref (am_B Z + a2)), (3, .int v6), (4, .int v15)] [] R J16 L (lX2_computeCosts_50 R a0 a1 a2 v6 j10 n v15 J16) := by
  intro n
  induction n with
  | zero => intro _ _; exact am_none
  | succ n ih => exact fun v15 J16 => vX2_computeCosts_50 R L a0 a1 a2 v6 h12 h13 h14 j10 hj10 (lX2_computeCosts_50 R a0 a1 a2 v6 j10 n) ih v15 J16
set_option maxRecDepth 100000 in
set_option maxHeartbeats 4000000 in
theorem vX2_computeCosts_39 {Z : am_Z} {X : am_X} (R : am_R) (L : am_L) (a0 : Nat) (a1 : Nat) (a2 : Nat) (h3 : am_G Z a0 = some (.inl 2)) (h4 : am_G Z a1 = some (.inl 0)) (h5 : am_G Z a2 = some (.inr (0, 3))) (ih8 : Int32 → am_I → Option (am_I)) (hih8 : ∀ (v6 : Int32) (J7 : am_I), am_V Z X kX2_computeCosts (fun r : am_I => (none, R, r, L)) 39 [(0, .ref (am_B Z + a0)), (1, .ref (am_B Z + a1)), (2, .ref (am_B Z + a2)), (3, .int v6)] [] R J7 L (ih8 v6 J7)) (v6 : Int32) (J7 : am_I) : am_V Z X kX2_computeCosts (fun r : am_I => (none, R, r, L)) 39 [(0, .ref (am_B Z + a0)), (1, .ref (am_B Z + a1)), (2, .ref (am_B Z + a2)), (3, .int v6)] [] R J7 L (sX2_computeCosts_39 R a0 a1 a2 ih8 v6 J7) := by
  unfold sX2_computeCosts_39
  refine am_iload_n dX2_computeCosts_39 rfl 3 rfl ?_
  refine am_aload_n dX2_computeCosts_40 rfl 1 rfl ?_
  refine am_get 0 0 clX0 (Nat.le_of_ble_eq_true rfl) h4 iX2_computeCosts_0 fX2_computeCosts_62 rfl dX2_computeCosts_41 ?_
  refine am_icmp_ge (tgt := 124) dX2_computeCosts_44 rfl (fun e9 => ?_) (fun e9 => ?_)
  · exact am_vret dX2_computeCosts_124 rfl rfl
  · refine am_iconst (v := 0) dX2_computeCosts_47 (by decide) ?_
    refine am_istore (ls' := [(4, .int (0 : Int32)), (0, .ref (am_B Z + a0)), (1, .ref (am_B Z + a1)), (2, .ref (am_B Z + a2)), (3, .int v6)]) dX2_computeCosts_48 (Nat.le_of_ble_eq_true rfl) rfl ?_
    refine am_jnV (fun j10 ej10 => ?_)
    have hj10 : ∀ (J11 : am_I), am_V Z X kX2_computeCosts (fun r : am_I => (none, R, r, L)) 118 [(0, .ref (am_B Z + a0)), (1, .ref (am_B Z + a1)), (2, .ref (am_B Z + a2)), (3, .int v6)] [] R J11 L (j10 J11) := by
      subst ej10
      intro J11
      show am_V Z X kX2_computeCosts (fun r : am_I => (none, R, r, L)) 118 [(0, .ref (am_B Z + a0)), (1, .ref (am_B Z + a1)), (2, .ref (am_B Z + a2)), (3, .int v6)] [] R J11 L _
      refine am_iinc (j := 3) (ls' := [(3, .int (v6 + (1 : Int32))), (0, .ref (am_B Z + a0)), (1, .ref (am_B Z + a1)), (2, .ref (am_B Z + a2))]) dX2_computeCosts_118 rfl rfl (Nat.le_of_ble_eq_true rfl) rfl ?_
      refine am_goto (tgt := 39) dX2_computeCosts_121 rfl ?_
      refine am_sub (ls' := [(0, .ref (am_B Z + a0)), (1, .ref (am_B Z + a1)), (2, .ref (am_B Z + a2)), (3, .int (v6 + (1 : Int32)))]) [1, 2, 3, 0] rfl ?_
      exact hih8 (v6 + (1 : Int32)) J11
    refine am_sub (ls' := [(0, .ref (am_B Z + a0)), (1, .ref (am_B Z + a1)), (2, .ref (am_B Z + a2)), (3, .int v6), (4, .int (0 : Int32))]) [1, 2, 3, 4, 0] rfl ?_
    exact uX2_computeCosts_50 R L a0 a1 a2 v6 h3 h4 h5 j10 hj10 am_fu (0 : Int32) J7
theorem uX2_computeCosts_39 {Z : am_Z} {X : am_X} (R : am_R) (L : am_L) (a0 : Nat) (a1 : Nat) (a2 : Nat) (h3 : am_G Z a0 = some (.inl 2)) (h4 : am_G Z a1 = some (.inl 0)) (h5 : am_G Z a2 = some (.inr (0, 3))) : ∀ (n : Nat) (v6 : Int32) (J7 : am_I), am_V Z X kX2_computeCosts (fun r : am_I => (none, R, r, L)) 39 [(0, .ref (am_B Z + a0)), (1, .ref (am_B Z + a1)), (2, .ref (am_B Z + a2)), (3, .int v6)] [] R J7 L (lX2_computeCosts_39 R a0 a1 a2 n v6 J7) := by
  intro n
  induction n with
  | zero => intro _ _; exact am_none
  | succ n ih => exact fun v6 J7 => vX2_computeCosts_39 R L a0 a1 a2 h3 h4 h5 (lX2_computeCosts_39 R a0 a1 a2 n) ih v6 J7
set_option maxRecDepth 100000 in
set_option maxHeartbeats 4000000 in
theorem vX2_computeCosts_2 {Z : am_Z} {X : am_X} (R : am_R) (L : am_L) (a0 : Nat) (a1 : Nat) (a2 : Nat) (h34 : am_G Z a0 = some (.inl 2)) (h35 : am_G Z a1 = some (.inl 0)) (h36 : am_G Z a2 = some (.inr (0, 3))) (j1 : am_I → Option (am_I)) (hj1 : ∀ (J2 : am_I), am_V Z X kX2_computeCosts (fun r : am_I => (none, R, r, L)) 37 [(0, .ref (am_B Z + a0)), (1, .ref (am_B Z + a1)), (2, .ref (am_B Z + a2))] [] R J2 L (j1 J2)) (ih39 : Int32 → am_I → Option (am_I)) (hih39 : ∀ (v37 : Int32) (J38 : am_I), am_V Z X kX2_computeCosts (fun r : am_I => (none, R, r, L)) 2 [(0, .ref (am_B Z + a0)), (1, .ref (am_B Z + a1)), (2, .ref (am_B Z + a2)), (3, .int v37)] [] R J38 L (ih39 v37 J38)) (v37 : Int32) (J38 : am_I) : am_V Z X kX2_computeCosts (fun r : am_I => (none, R, r, L)) 2 [(0, .ref (am_B Z + a0)), (1, .ref (am_B Z + a1)), (2, .ref (am_B Z + a2)), (3, .int v37)] [] R J38 L (sX2_computeCosts_2 R a0 a1 a2 j1 ih39 v37 J38) := by
  unfold sX2_computeCosts_2
  refine am_iload_n dX2_computeCosts_2 rfl 3 rfl ?_
  refine am_bipush (v := 6) dX2_computeCosts_3 (by decide) ?_
  refine am_icmp_ge (tgt := 37) dX2_computeCosts_5 rfl (fun e40 => ?_) (fun e40 => ?_)
  · refine am_sub (ls' := [(0, .ref (am_B Z + a0)), (1, .ref (am_B Z + a1)), (2, .ref (am_B Z + a2))]) [0, 1, 2] rfl ?_
    exact hj1 J38
  · refine am_aload_n dX2_computeCosts_8 rfl 0 rfl ?_
    refine am_getR 2 0 clX2 (Nat.le_of_ble_eq_true rfl) h34 iX2_computeCosts_2 fX2_computeCosts_9 rfl rfl dX2_computeCosts_9 (fun h41 => ?_)
    refine am_iload_n dX2_computeCosts_12 rfl 3 rfl ?_
    refine am_aload_n dX2_computeCosts_13 rfl 1 rfl ?_
    refine am_get 0 2 clX0 (Nat.le_of_ble_eq_true rfl) h35 iX2_computeCosts_0 fX2_computeCosts_55 rfl dX2_computeCosts_14 ?_
    refine am_iload_n dX2_computeCosts_17 rfl 3 rfl ?_
    refine am_callN (host := RX10) [.int (J38 a1 2), .int v37] (tX10_contains R J38 L (J38 a1 2) v37) gX2_computeCosts_X10_contains_n58 (by decide +kernel) (by decide +kernel) (by decide +kernel) hX10_contains ⟨Nat.le_of_ble_eq_true rfl, Nat.le_of_ble_eq_true rfl⟩ rfl rfl (Nat.le_of_ble_eq_true rfl) dX2_computeCosts_18 (fun r42 => ?_)
    show am_V Z X kX2_computeCosts (fun r : am_I => (none, R, r, L)) 21 [(0, .ref (am_B Z + a0)), (1, .ref (am_B Z + a1)), (2, .ref (am_B Z + a2)), (3, .int v37)] [.int r42, .int v37, .ref (am_B Z + (R a0 0))] R J38 L _
    refine am_letJ (fun k44 ek44 => ?_)
    have hk44 : ∀ v43 : Int32, am_V Z X kX2_computeCosts (fun r : am_I => (none, R, r, L)) 30 [(0, .ref (am_B Z + a0)), (1, .ref (am_B Z + a1)), (2, .ref (am_B Z + a2)), (3, .int v37)] [.int v43, .int v37, .ref (am_B Z + (R a0 0))] R J38 L (k44 v43) := by
      subst ek44
      intro v43
      show am_V Z X kX2_computeCosts (fun r : am_I => (none, R, r, L)) 30 [(0, .ref (am_B Z + a0)), (1, .ref (am_B Z + a1)), (2, .ref (am_B Z + a2)), (3, .int v37)] [.int v43, .int v37, .ref (am_B Z + (R a0 0))] R J38 L _
      refine am_iast h41 dX2_computeCosts_30 ?_
      refine am_letI (fun J45 => ?_)
      refine am_iinc (j := 3) (ls' := [(3, .int (v37 + (1 : Int32))), (0, .ref (am_B Z + a0)), (1, .ref (am_B Z + a1)), (2, .ref (am_B Z + a2))]) dX2_computeCosts_31 rfl rfl (Nat.le_of_ble_eq_true rfl) rfl ?_
      refine am_goto (tgt := 2) dX2_computeCosts_34 rfl ?_
      refine am_sub (ls' := [(0, .ref (am_B Z + a0)), (1, .ref (am_B Z + a1)), (2, .ref (am_B Z + a2)), (3, .int (v37 + (1 : Int32)))]) [1, 2, 3, 0] rfl ?_
      exact hih39 (v37 + (1 : Int32)) J45
    refine am_if_eqL (tgt := 28) dX2_computeCosts_21 rfl (fun e46 => ?_) (fun e46 => ?_)
    · refine am_ldc (v := 1000000) dX2_computeCosts_28 (by decide +kernel) ?_
      exact hk44 _
    · refine am_iconst (v := 0) dX2_computeCosts_24 (by decide) ?_
      refine am_goto (tgt := 30) dX2_computeCosts_25 rfl ?_
      exact hk44 _
theorem uX2_computeCosts_2 {Z : am_Z} {X : am_X} (R : am_R) (L : am_L) (a0 : Nat) (a1 : Nat) (a2 : Nat) (h34 : am_G Z a0 = some (.inl 2)) (h35 : am_G Z a1 = some (.inl 0)) (h36 : am_G Z a2 = some (.inr (0, 3))) (j1 : am_I → Option (am_I)) (hj1 : ∀ (J2 : am_I), am_V Z X kX2_computeCosts (fun r : am_I => (none, R, r, L)) 37 [(0, .ref (am_B Z + a0)), (1, .ref (am_B Z + a1)), (2, .ref (am_B Z + a2))] [] R J2 L (j1 J2)) : ∀ (n : Nat) (v37 : Int32) (J38 : am_I), am_V Z X kX2_computeCosts (fun r : am_I => (none, R, r, L)) 2 [(0, .ref (am_B Z + a0)), (1, .ref (am_B Z + a1)), (2, .ref (am_B Z + a2)), (3, .int v37)] [] R J38 L (lX2_computeCosts_2 R a0 a1 a2 j1 n v37 J38) := by
  intro n
  induction n with
  | zero => intro _ _; exact am_none
  | succ n ih => exact fun v37 J38 => vX2_computeCosts_2 R L a0 a1 a2 h34 h35 h36 j1 hj1 (lX2_computeCosts_2 R a0 a1 a2 j1 n) ih v37 J38
set_option maxRecDepth 100000 in
set_option maxHeartbeats 4000000 in
theorem tX2_computeCosts {Z : am_Z} (R : am_R) (I : am_I) (L : am_L) (a0 : Nat) (a1 : Nat) (a2 : Nat) (h_a0 : am_G Z a0 = some (.inl 2)) (h_a1 : am_G Z a1 = some (.inl 0)) (h_a2 : am_G Z a2 = some (.inr (0, 3))) : am_M Z yX2_computeCosts kX2_computeCosts [.ref (am_B Z + a0), .ref (am_B Z + a1), .ref (am_B Z + a2)] R I L (pX2_computeCosts R I a0 a1 a2) (fun r : am_I => (none, R, r, L)) := by
  refine am_entry (ls := [(0, .ref (am_B Z + a0)), (1, .ref (am_B Z + a1)), (2, .ref (am_B Z + a2))]) (by decide) hX2_computeCosts rfl (Nat.le_of_ble_eq_true rfl) rfl (fun X => ?_)
  unfold pX2_computeCosts
  refine am_iconst (v := 0) dX2_computeCosts_0 (by decide) ?_
  refine am_istore_n (ls' := [(3, .int (0 : Int32)), (0, .ref (am_B Z + a0)), (1, .ref (am_B Z + a1)), (2, .ref (am_B Z + a2))]) dX2_computeCosts_1 rfl (Nat.le_of_ble_eq_true rfl) rfl ?_
  refine am_jnV (fun j1 ej1 => ?_)
  have hj1 : ∀ (J2 : am_I), am_V Z X kX2_computeCosts (fun r : am_I => (none, R, r, L)) 37 [(0, .ref (am_B Z + a0)), (1, .ref (am_B Z + a1)), (2, .ref (am_B Z + a2))] [] R J2 L (j1 J2) := by
    subst ej1
    intro J2
    show am_V Z X kX2_computeCosts (fun r : am_I => (none, R, r, L)) 37 [(0, .ref (am_B Z + a0)), (1, .ref (am_B Z + a1)), (2, .ref (am_B Z + a2))] [] R J2 L _
    refine am_iconst (v := 1) dX2_computeCosts_37 (by decide) ?_
    refine am_istore_n (ls' := [(3, .int (1 : Int32)), (0, .ref (am_B Z + a0)), (1, .ref (am_B Z + a1)), (2, .ref (am_B Z + a2))]) dX2_computeCosts_38 rfl (Nat.le_of_ble_eq_true rfl) rfl ?_
    refine am_sub (ls' := [(0, .ref (am_B Z + a0)), (1, .ref (am_B Z + a1)), (2, .ref (am_B Z + a2)), (3, .int (1 : Int32))]) [1, 2, 3, 0] rfl ?_
    exact uX2_computeCosts_39 R L a0 a1 a2 h_a0 h_a1 h_a2 am_fu (1 : Int32) J2
  refine am_sub (ls' := [(0, .ref (am_B Z + a0)), (1, .ref (am_B Z + a1)), (2, .ref (am_B Z + a2)), (3, .int (0 : Int32))]) [1, 2, 3, 0] rfl ?_
  exact uX2_computeCosts_2 R L a0 a1 a2 h_a0 h_a1 h_a2 j1 hj1 am_fu (0 : Int32) I
abbrev kX2_statesOfCost : am_K := (cX2_statesOfCost, 5, RX2, wsX2_statesOfCost, some .int, { frames := 1, cells := 0, slots := 0, locals := 21 })
theorem hX2_statesOfCost : am_cl yX2_statesOfCost kX2_statesOfCost 2 := ⟨⟨_, rfl⟩, rfl, rfl, by decide +kernel, by decide +kernel, by decide +kernel⟩
theorem iX2_statesOfCost_2 : ∀ w ∈ u_ws RX2 TX2 1, w ∈ wsX2_statesOfCost := by decide +kernel
theorem fX2_statesOfCost_9 : Cond.fieldLink RX2 9 "AmbiguityAnalyzer$LightSearch" "costs" "[I" ∈ wsX2_statesOfCost := by decide +kernel
set_option maxRecDepth 100000 in
set_option maxHeartbeats 4000000 in
theorem vX2_statesOfCost_5 {Z : am_Z} {X : am_X} (R : am_R) (I : am_I) (L : am_L) (a0 : Nat) (x1 : Int32) (x2 : Int32) (h1 : am_G Z a0 = some (.inl 2)) (ih4 : Int32 → Int32 → Option (Int32)) (hih4 : ∀ (v2 : Int32) (v3 : Int32), am_V Z X kX2_statesOfCost (fun r : Int32 => (some (.int r), R, I, L)) 5 [(0, .ref (am_B Z + a0)), (1, .int x1), (2, .int x2), (3, .int v2), (4, .int v3)] [] R I L (ih4 v2 v3)) (v2 : Int32) (v3 : Int32) : am_V Z X kX2_statesOfCost (fun r : Int32 => (some (.int r), R, I, L)) 5 [(0, .ref (am_B Z + a0)), (1, .int x1), (2, .int x2), (3, .int v2), (4, .int v3)] [] R I L (sX2_statesOfCost_5 R I a0 x1 x2 ih4 v2 v3) := by
  unfold sX2_statesOfCost_5
  refine am_iload dX2_statesOfCost_5 4 rfl ?_
  refine am_bipush (v := 6) dX2_statesOfCost_7 (by decide) ?_
  refine am_icmp_ge (tgt := 49) dX2_statesOfCost_9 rfl (fun e5 => ?_) (fun e5 => ?_)
  · refine am_iload_n dX2_statesOfCost_49 rfl 3 rfl ?_
    exact am_iret dX2_statesOfCost_50 rfl rfl
  · refine am_iload_n dX2_statesOfCost_12 rfl 3 rfl ?_
    refine am_iload_n dX2_statesOfCost_13 rfl 1 rfl ?_
    refine am_iload dX2_statesOfCost_14 4 rfl ?_
    refine am_callN (host := RX10) [.int x1, .int v3] (tX10_contains R I L x1 v3) gX2_statesOfCost_X10_contains_n58 (by decide +kernel) (by decide +kernel) (by decide +kernel) hX10_contains ⟨Nat.le_of_ble_eq_true rfl, Nat.le_of_ble_eq_true rfl⟩ rfl rfl (Nat.le_of_ble_eq_true rfl) dX2_statesOfCost_16 (fun r6 => ?_)
    show am_V Z X kX2_statesOfCost (fun r : Int32 => (some (.int r), R, I, L)) 19 [(0, .ref (am_B Z + a0)), (1, .int x1), (2, .int x2), (3, .int v2), (4, .int v3)] [.int r6, .int v2] R I L _
    refine am_jnV (fun j7 ej7 => ?_)
    have hj7 : ∀ (v8 : Int32), am_V Z X kX2_statesOfCost (fun r : Int32 => (some (.int r), R, I, L)) 41 [(0, .ref (am_B Z + a0)), (1, .int x1), (2, .int x2), (4, .int v3)] [.int v8, .int v2] R I L (j7 v8) := by
      subst ej7
      intro v8
      show am_V Z X kX2_statesOfCost (fun r : Int32 => (some (.int r), R, I, L)) 41 [(0, .ref (am_B Z + a0)), (1, .int x1), (2, .int x2), (4, .int v3)] [.int v8, .int v2] R I L _
      refine am_ior dX2_statesOfCost_41 ?_
      refine am_letTi (fun v9 => ?_)
      refine am_istore_n (ls' := [(3, .int v9), (0, .ref (am_B Z + a0)), (1, .int x1), (2, .int x2), (4, .int v3)]) dX2_statesOfCost_42 rfl (Nat.le_of_ble_eq_true rfl) rfl ?_
      refine am_iinc (j := 4) (ls' := [(4, .int (v3 + (1 : Int32))), (3, .int v9), (0, .ref (am_B Z + a0)), (1, .int x1), (2, .int x2)]) dX2_statesOfCost_43 rfl rfl (Nat.le_of_ble_eq_true rfl) rfl ?_
      refine am_goto (tgt := 5) dX2_statesOfCost_46 rfl ?_
      refine am_sub (ls' := [(0, .ref (am_B Z + a0)), (1, .int x1), (2, .int x2), (3, .int v9), (4, .int (v3 + (1 : Int32)))]) [2, 3, 4, 1, 0] rfl ?_
      exact hih4 v9 (v3 + (1 : Int32))
    refine am_jnV (fun j10 ej10 => ?_)
    have hj10 : am_V Z X kX2_statesOfCost (fun r : Int32 => (some (.int r), R, I, L)) 40 [(0, .ref (am_B Z + a0)), (1, .int x1), (2, .int x2), (4, .int v3)] [.int v2] R I L j10 := by
      subst ej10
      show am_V Z X kX2_statesOfCost (fun r : Int32 => (some (.int r), R, I, L)) 40 [(0, .ref (am_B Z + a0)), (1, .int x1), (2, .int x2), (4, .int v3)] [.int v2] R I L _
      refine am_iconst (v := 0) dX2_statesOfCost_40 (by decide) ?_
      exact hj7 (0 : Int32)
    refine am_if_eq (tgt := 40) dX2_statesOfCost_19 rfl (fun e11 => ?_) (fun e11 => ?_)
    · refine am_sub (ls' := [(0, .ref (am_B Z + a0)), (1, .int x1), (2, .int x2), (4, .int v3)]) [0, 1, 2, 4] rfl ?_
      exact hj10
    · refine am_aload_n dX2_statesOfCost_22 rfl 0 rfl ?_
      refine am_getR 2 0 clX2 (Nat.le_of_ble_eq_true rfl) h1 iX2_statesOfCost_2 fX2_statesOfCost_9 rfl rfl dX2_statesOfCost_23 (fun h12 => ?_)
      refine am_iload dX2_statesOfCost_26 4 rfl ?_
      refine am_iald h12 dX2_statesOfCost_28 ?_
      refine am_iload_n dX2_statesOfCost_29 rfl 2 rfl ?_
      refine am_icmp_ne (tgt := 40) dX2_statesOfCost_30 rfl (fun e13 => ?_) (fun e13 => ?_)
      · refine am_sub (ls' := [(0, .ref (am_B Z + a0)), (1, .int x1), (2, .int x2), (4, .int v3)]) [0, 1, 2, 4] rfl ?_
        exact hj10
      · refine am_iconst (v := 1) dX2_statesOfCost_33 (by decide) ?_
        refine am_iload dX2_statesOfCost_34 4 rfl ?_
        refine am_ishl dX2_statesOfCost_36 ?_
        refine am_goto (tgt := 41) dX2_statesOfCost_37 rfl ?_
        refine am_sub (ls' := [(0, .ref (am_B Z + a0)), (1, .int x1), (2, .int x2), (4, .int v3)]) [0, 1, 2, 4] rfl ?_
        exact hj7 ((1 : Int32) <<< (v3 &&& 31))
theorem uX2_statesOfCost_5 {Z : am_Z} {X : am_X} (R : am_R) (I : am_I) (L : am_L) (a0 : Nat) (x1 : Int32) (x2 : Int32) (h1 : am_G Z a0 = some (.inl 2)) : ∀ (n : Nat) (v2 : Int32) (v3 : Int32), am_V Z X kX2_statesOfCost (fun r : Int32 => (some (.int r), R, I, L)) 5 [(0, .ref (am_B Z + a0)), (1, .int x1), (2, .int x2), (3, .int v2), (4, .int v3)] [] R I L (lX2_statesOfCost_5 R I a0 x1 x2 n v2 v3) := by
  intro n
  induction n with
  | zero => intro _ _; exact am_none
  | succ n ih => exact fun v2 v3 => vX2_statesOfCost_5 R I L a0 x1 x2 h1 (lX2_statesOfCost_5 R I a0 x1 x2 n) ih v2 v3
set_option maxRecDepth 100000 in
set_option maxHeartbeats 4000000 in
theorem tX2_statesOfCost {Z : am_Z} (R : am_R) (I : am_I) (L : am_L) (a0 : Nat) (x1 : Int32) (x2 : Int32) (h_a0 : am_G Z a0 = some (.inl 2)) : am_M Z yX2_statesOfCost kX2_statesOfCost [.ref (am_B Z + a0), .int x1, .int x2] R I L (pX2_statesOfCost R I a0 x1 x2) (fun r : Int32 => (some (.int r), R, I, L)) := by
  refine am_entry (ls := [(0, .ref (am_B Z + a0)), (1, .int x1), (2, .int x2)]) (by decide) hX2_statesOfCost rfl (Nat.le_of_ble_eq_true rfl) rfl (fun X => ?_)
  unfold pX2_statesOfCost
  refine am_iconst (v := 0) dX2_statesOfCost_0 (by decide) ?_
  refine am_istore_n (ls' := [(3, .int (0 : Int32)), (0, .ref (am_B Z + a0)), (1, .int x1), (2, .int x2)]) dX2_statesOfCost_1 rfl (Nat.le_of_ble_eq_true rfl) rfl ?_
  refine am_iconst (v := 0) dX2_statesOfCost_2 (by decide) ?_
  refine am_istore (ls' := [(4, .int (0 : Int32)), (3, .int (0 : Int32)), (0, .ref (am_B Z + a0)), (1, .int x1), (2, .int x2)]) dX2_statesOfCost_3 (Nat.le_of_ble_eq_true rfl) rfl ?_
  refine am_sub (ls' := [(0, .ref (am_B Z + a0)), (1, .int x1), (2, .int x2), (3, .int (0 : Int32)), (4, .int (0 : Int32))]) [2, 3, 4, 1, 0] rfl ?_
  exact uX2_statesOfCost_5 R I L a0 x1 x2 h_a0 am_fu (0 : Int32) (0 : Int32)
abbrev kX2_image : am_K := (cX2_image, 5, RX2, wsX2_image, some .int, { frames := 1, cells := 0, slots := 0, locals := 23 })
theorem hX2_image : am_cl yX2_image kX2_image 3 := ⟨⟨_, rfl⟩, rfl, rfl, by decide +kernel, by decide +kernel, by decide +kernel⟩
set_option maxRecDepth 100000 in
set_option maxHeartbeats 4000000 in
theorem vX2_image_5 {Z : am_Z} {X : am_X} (R : am_R) (I : am_I) (L : am_L) (a0 : Nat) (x1 : Int32) (x2 : Int32) (h1 : am_G Z a0 = some (.inl 0)) (ih4 : Int32 → Int32 → Option (Int32)) (hih4 : ∀ (v2 : Int32) (v3 : Int32), am_V Z X kX2_image (fun r : Int32 => (some (.int r), R, I, L)) 5 [(0, .ref (am_B Z + a0)), (1, .int x1), (2, .int x2), (3, .int v2), (4, .int v3)] [] R I L (ih4 v2 v3)) (v2 : Int32) (v3 : Int32) : am_V Z X kX2_image (fun r : Int32 => (some (.int r), R, I, L)) 5 [(0, .ref (am_B Z + a0)), (1, .int x1), (2, .int x2), (3, .int v2), (4, .int v3)] [] R I L (sX2_image_5 R I a0 x1 x2 ih4 v2 v3) := by
  unfold sX2_image_5
  refine am_iload dX2_image_5 4 rfl ?_
  refine am_bipush (v := 6) dX2_image_7 (by decide) ?_
  refine am_icmp_ge (tgt := 41) dX2_image_9 rfl (fun e5 => ?_) (fun e5 => ?_)
  · refine am_iload_n dX2_image_41 rfl 3 rfl ?_
    exact am_iret dX2_image_42 rfl rfl
  · refine am_iload_n dX2_image_12 rfl 3 rfl ?_
    refine am_iload_n dX2_image_13 rfl 1 rfl ?_
    refine am_iload dX2_image_14 4 rfl ?_
    refine am_callN (host := RX10) [.int x1, .int v3] (tX10_contains R I L x1 v3) gX2_image_X10_contains_n58 (by decide +kernel) (by decide +kernel) (by decide +kernel) hX10_contains ⟨Nat.le_of_ble_eq_true rfl, Nat.le_of_ble_eq_true rfl⟩ rfl rfl (Nat.le_of_ble_eq_true rfl) dX2_image_16 (fun r6 => ?_)
    show am_V Z X kX2_image (fun r : Int32 => (some (.int r), R, I, L)) 19 [(0, .ref (am_B Z + a0)), (1, .int x1), (2, .int x2), (3, .int v2), (4, .int v3)] [.int r6, .int v2] R I L _
    refine am_jnV (fun j7 ej7 => ?_)
    have hj7 : ∀ (v8 : Int32), am_V Z X kX2_image (fun r : Int32 => (some (.int r), R, I, L)) 33 [(0, .ref (am_B Z + a0)), (1, .int x1), (2, .int x2), (4, .int v3)] [.int v8, .int v2] R I L (j7 v8) := by
      subst ej7
      intro v8
      show am_V Z X kX2_image (fun r : Int32 => (some (.int r), R, I, L)) 33 [(0, .ref (am_B Z + a0)), (1, .int x1), (2, .int x2), (4, .int v3)] [.int v8, .int v2] R I L _
      refine am_ior dX2_image_33 ?_
      refine am_letTi (fun v9 => ?_)
      refine am_istore_n (ls' := [(3, .int v9), (0, .ref (am_B Z + a0)), (1, .int x1), (2, .int x2), (4, .int v3)]) dX2_image_34 rfl (Nat.le_of_ble_eq_true rfl) rfl ?_
      refine am_iinc (j := 4) (ls' := [(4, .int (v3 + (1 : Int32))), (3, .int v9), (0, .ref (am_B Z + a0)), (1, .int x1), (2, .int x2)]) dX2_image_35 rfl rfl (Nat.le_of_ble_eq_true rfl) rfl ?_
      refine am_goto (tgt := 5) dX2_image_38 rfl ?_
      refine am_sub (ls' := [(0, .ref (am_B Z + a0)), (1, .int x1), (2, .int x2), (3, .int v9), (4, .int (v3 + (1 : Int32)))]) [2, 3, 4, 1, 0] rfl ?_
      exact hih4 v9 (v3 + (1 : Int32))
    refine am_if_eq (tgt := 32) dX2_image_19 rfl (fun e10 => ?_) (fun e10 => ?_)
    · refine am_iconst (v := 0) dX2_image_32 (by decide) ?_
      refine am_sub (ls' := [(0, .ref (am_B Z + a0)), (1, .int x1), (2, .int x2), (4, .int v3)]) [0, 1, 2, 4] rfl ?_
      exact hj7 (0 : Int32)
    · refine am_aload_n dX2_image_22 rfl 0 rfl ?_
      refine am_iload dX2_image_23 4 rfl ?_
      refine am_iload_n dX2_image_25 rfl 2 rfl ?_
      refine am_callV [.int v3, .int x2] (tX0_targetsOf R I L a0 v3 x2 h1) h1 clX0 gX2_image_X0_targetsOf hX0_targetsOf rfl ⟨Nat.le_of_ble_eq_true rfl, Nat.le_of_ble_eq_true rfl⟩ rfl rfl (Nat.le_of_ble_eq_true rfl) dX2_image_26 (fun r11 => ?_)
      show am_V Z X kX2_image (fun r : Int32 => (some (.int r), R, I, L)) 29 [(0, .ref (am_B Z + a0)), (1, .int x1), (2, .int x2), (3, .int v2), (4, .int v3)] [.int r11, .int v2] R I L _
      refine am_goto (tgt := 33) dX2_image_29 rfl ?_
      refine am_sub (ls' := [(0, .ref (am_B Z + a0)), (1, .int x1), (2, .int x2), (4, .int v3)]) [0, 1, 2, 4] rfl ?_
      exact hj7 r11
theorem uX2_image_5 {Z : am_Z} {X : am_X} (R : am_R) (I : am_I) (L : am_L) (a0 : Nat) (x1 : Int32) (x2 : Int32) (h1 : am_G Z a0 = some (.inl 0)) : ∀ (n : Nat) (v2 : Int32) (v3 : Int32), am_V Z X kX2_image (fun r : Int32 => (some (.int r), R, I, L)) 5 [(0, .ref (am_B Z + a0)), (1, .int x1), (2, .int x2), (3, .int v2), (4, .int v3)] [] R I L (lX2_image_5 R I a0 x1 x2 n v2 v3) := by
  intro n
  induction n with
  | zero => intro _ _; exact am_none
  | succ n ih => exact fun v2 v3 => vX2_image_5 R I L a0 x1 x2 h1 (lX2_image_5 R I a0 x1 x2 n) ih v2 v3
set_option maxRecDepth 100000 in
set_option maxHeartbeats 4000000 in
theorem tX2_image {Z : am_Z} (R : am_R) (I : am_I) (L : am_L) (a0 : Nat) (x1 : Int32) (x2 : Int32) (h_a0 : am_G Z a0 = some (.inl 0)) : am_M Z yX2_image kX2_image [.ref (am_B Z + a0), .int x1, .int x2] R I L (pX2_image R I a0 x1 x2) (fun r : Int32 => (some (.int r), R, I, L)) := by
  refine am_entry (ls := [(0, .ref (am_B Z + a0)), (1, .int x1), (2, .int x2)]) (by decide) hX2_image rfl (Nat.le_of_ble_eq_true rfl) rfl (fun X => ?_)
  unfold pX2_image
  refine am_iconst (v := 0) dX2_image_0 (by decide) ?_
  refine am_istore_n (ls' := [(3, .int (0 : Int32)), (0, .ref (am_B Z + a0)), (1, .int x1), (2, .int x2)]) dX2_image_1 rfl (Nat.le_of_ble_eq_true rfl) rfl ?_
  refine am_iconst (v := 0) dX2_image_2 (by decide) ?_
  refine am_istore (ls' := [(4, .int (0 : Int32)), (3, .int (0 : Int32)), (0, .ref (am_B Z + a0)), (1, .int x1), (2, .int x2)]) dX2_image_3 (Nat.le_of_ble_eq_true rfl) rfl ?_
  refine am_sub (ls' := [(0, .ref (am_B Z + a0)), (1, .int x1), (2, .int x2), (3, .int (0 : Int32)), (4, .int (0 : Int32))]) [2, 3, 4, 1, 0] rfl ?_
  exact uX2_image_5 R I L a0 x1 x2 h_a0 am_fu (0 : Int32) (0 : Int32)
abbrev kX2_firstLetter : am_K := (cX2_firstLetter, 7, RX2, wsX2_firstLetter, some .int, { frames := 2, cells := 0, slots := 0, locals := 47 })
theorem hX2_firstLetter : am_cl yX2_firstLetter kX2_firstLetter 4 := ⟨⟨_, rfl⟩, rfl, rfl, by decide +kernel, by decide +kernel, by decide +kernel⟩
set_option maxRecDepth 100000 in
set_option maxHeartbeats 4000000 in
theorem vX2_firstLetter_3 {Z : am_Z} {X : am_X} (R : am_R) (I : am_I) (L : am_L) (a0 : Nat) (a1 : Nat) (a2 : Nat) (x3 : Int32) (x4 : Int32) (h1 : am_G Z a0 = some (.inl 2)) (h2 : am_G Z a1 = some (.inl 0)) (h3 : am_G Z a2 = some (.inr (0, 3))) (ih5 : Int32 → Option (Int32)) (hih5 : ∀ (v4 : Int32), am_V Z X kX2_firstLetter (fun r : Int32 => (some (.int r), R, I, L)) 3 [(0, .ref (am_B Z + a0)), (1, .ref (am_B Z + a1)), (2, .ref (am_B Z + a2)), (3, .int x3), (4, .int x4), (5, .int v4)] [] R I L (ih5 v4)) (v4 : Int32) : am_V Z X kX2_firstLetter (fun r : Int32 => (some (.int r), R, I, L)) 3 [(0, .ref (am_B Z + a0)), (1, .ref (am_B Z + a1)), (2, .ref (am_B Z + a2)), (3, .int x3), (4, .int x4), (5, .int v4)] [] R I L (sX2_firstLetter_3 R I a0 a1 a2 x3 x4 ih5 v4) := by
  unfold sX2_firstLetter_3
  refine am_iload dX2_firstLetter_3 5 rfl ?_
  refine am_iconst (v := 2) dX2_firstLetter_5 (by decide) ?_
  refine am_icmp_ge (tgt := 45) dX2_firstLetter_6 rfl (fun e6 => ?_) (fun e6 => ?_)
  · refine am_iconst (v := 2) dX2_firstLetter_45 (by decide) ?_
    exact am_iret dX2_firstLetter_46 rfl rfl
  · refine am_iload dX2_firstLetter_9 4 rfl ?_
    refine am_aload_n dX2_firstLetter_11 rfl 2 rfl ?_
    refine am_iload dX2_firstLetter_12 5 rfl ?_
    refine am_callS [.ref (am_B Z + a2), .int v4] (tX2_price R I L a2 v4 h3) gX2_firstLetter_X2_price hX2_price ⟨Nat.le_of_ble_eq_true rfl, Nat.le_of_ble_eq_true rfl⟩ rfl rfl (Nat.le_of_ble_eq_true rfl) dX2_firstLetter_14 (fun r7 => ?_)
    show am_V Z X kX2_firstLetter (fun r : Int32 => (some (.int r), R, I, L)) 17 [(0, .ref (am_B Z + a0)), (1, .ref (am_B Z + a1)), (2, .ref (am_B Z + a2)), (3, .int x3), (4, .int x4), (5, .int v4)] [.int r7, .int x4] R I L _
    refine am_isub dX2_firstLetter_17 ?_
    refine am_letTi (fun v8 => ?_)
    refine am_istore (ls' := [(6, .int v8), (0, .ref (am_B Z + a0)), (1, .ref (am_B Z + a1)), (2, .ref (am_B Z + a2)), (3, .int x3), (4, .int x4), (5, .int v4)]) dX2_firstLetter_18 (Nat.le_of_ble_eq_true rfl) rfl ?_
    refine am_aload_n dX2_firstLetter_20 rfl 1 rfl ?_
    refine am_aload_n dX2_firstLetter_21 rfl 2 rfl ?_
    refine am_iload_n dX2_firstLetter_22 rfl 4 rfl ?_
    refine am_iload dX2_firstLetter_23 6 rfl ?_
    refine am_callS [.ref (am_B Z + a1), .int x3, .int v4] (tX2_image R I L a1 x3 v4 h2) gX2_firstLetter_X2_image hX2_image ⟨Nat.le_of_ble_eq_true rfl, Nat.le_of_ble_eq_true rfl⟩ rfl rfl (Nat.le_of_ble_eq_true rfl) dX2_firstLetter_25 (fun r9 => ?_)
    show am_V Z X kX2_firstLetter (fun r : Int32 => (some (.int r), R, I, L)) 28 [(6, .int v8), (0, .ref (am_B Z + a0)), (1, .ref (am_B Z + a1)), (2, .ref (am_B Z + a2)), (3, .int x3), (4, .int x4), (5, .int v4)] [.int r9, .ref (am_B Z + a0)] R I L _
    refine am_iload dX2_firstLetter_28 0 rfl ?_
    refine am_callV [.int r9, .int v8] (tX2_statesOfCost R I L a0 r9 v8 h1) h1 clX2 gX2_firstLetter_X2_statesOfCost hX2_statesOfCost rfl ⟨Nat.le_of_ble_eq_true rfl, Nat.le_of_ble_eq_true rfl⟩ rfl rfl (Nat.le_of_ble_eq_true rfl) dX2_firstLetter_30 (fun r10 => ?_)
    show am_V Z X kX2_firstLetter (fun r : Int32 => (some (.int r), R, I, L)) 33 [(6, .int v8), (0, .ref (am_B Z + a0)), (1, .ref (am_B Z + a1)), (2, .ref (am_B Z + a2)), (3, .int x3), (4, .int x4), (5, .int v4)] [.int r10] R I L _
    refine am_if_eq (tgt := 39) dX2_firstLetter_33 rfl (fun e11 => ?_) (fun e11 => ?_)
    · refine am_iinc (j := 6) (ls' := [(5, .int (v4 + (1 : Int32))), (6, .int v8), (0, .ref (am_B Z + a0)), (1, .ref (am_B Z + a1)), (2, .ref (am_B Z + a2)), (3, .int x3), (4, .int x4)]) dX2_firstLetter_39 rfl rfl (Nat.le_of_ble_eq_true rfl) rfl ?_
      refine am_goto (tgt := 3) dX2_firstLetter_42 rfl ?_
      refine am_sub (ls' := [(0, .ref (am_B Z + a0)), (1, .ref (am_B Z + a1)), (2, .ref (am_B Z + a2)), (3, .int x3), (4, .int x4), (5, .int (v4 + (1 : Int32)))]) [2, 3, 4, 5, 6, 0] rfl ?_
      exact hih5 (v4 + (1 : Int32))
    · refine am_iload dX2_firstLetter_36 6 rfl ?_
      exact am_iret dX2_firstLetter_38 rfl rfl
theorem uX2_firstLetter_3 {Z : am_Z} {X : am_X} (R : am_R) (I : am_I) (L : am_L) (a0 : Nat) (a1 : Nat) (a2 : Nat) (x3 : Int32) (x4 : Int32) (h1 : am_G Z a0 = some (.inl 2)) (h2 : am_G Z a1 = some (.inl 0)) (h3 : am_G Z a2 = some (.inr (0, 3))) : ∀ (n : Nat) (v4 : Int32), am_V Z X kX2_firstLetter (fun r : Int32 => (some (.int r), R, I, L)) 3 [(0, .ref (am_B Z + a0)), (1, .ref (am_B Z + a1)), (2, .ref (am_B Z + a2)), (3, .int x3), (4, .int x4), (5, .int v4)] [] R I L (lX2_firstLetter_3 R I a0 a1 a2 x3 x4 n v4) := by
  intro n
  induction n with
  | zero => intro _; exact am_none
  | succ n ih => exact fun v4 => vX2_firstLetter_3 R I L a0 a1 a2 x3 x4 h1 h2 h3 (lX2_firstLetter_3 R I a0 a1 a2 x3 x4 n) ih v4
set_option maxRecDepth 100000 in
set_option maxHeartbeats 4000000 in
theorem tX2_firstLetter {Z : am_Z} (R : am_R) (I : am_I) (L : am_L) (a0 : Nat) (a1 : Nat) (a2 : Nat) (x3 : Int32) (x4 : Int32) (h_a0 : am_G Z a0 = some (.inl 2)) (h_a1 : am_G Z a1 = some (.inl 0)) (h_a2 : am_G Z a2 = some (.inr (0, 3))) : am_M Z yX2_firstLetter kX2_firstLetter [.ref (am_B Z + a0), .ref (am_B Z + a1), .ref (am_B Z + a2), .int x3, .int x4] R I L (pX2_firstLetter R I a0 a1 a2 x3 x4) (fun r : Int32 => (some (.int r), R, I, L)) := by
  refine am_entry (ls := [(0, .ref (am_B Z + a0)), (1, .ref (am_B Z + a1)), (2, .ref (am_B Z + a2)), (3, .int x3), (4, .int x4)]) (by decide) hX2_firstLetter rfl (Nat.le_of_ble_eq_true rfl) rfl (fun X => ?_)
  unfold pX2_firstLetter
  refine am_iconst (v := 0) dX2_firstLetter_0 (by decide) ?_
  refine am_istore (ls' := [(5, .int (0 : Int32)), (0, .ref (am_B Z + a0)), (1, .ref (am_B Z + a1)), (2, .ref (am_B Z + a2)), (3, .int x3), (4, .int x4)]) dX2_firstLetter_1 (Nat.le_of_ble_eq_true rfl) rfl ?_
  refine am_sub (ls' := [(0, .ref (am_B Z + a0)), (1, .ref (am_B Z + a1)), (2, .ref (am_B Z + a2)), (3, .int x3), (4, .int x4), (5, .int (0 : Int32))]) [1, 2, 3, 4, 5, 0] rfl ?_
  exact uX2_firstLetter_3 R I L a0 a1 a2 x3 x4 h_a0 h_a1 h_a2 am_fu (0 : Int32)
abbrev kX8_setLetter : am_K := (cX8_setLetter, 3, RX8, wsX8_setLetter, none, { frames := 1, cells := 0, slots := 0, locals := 21 })
theorem hX8_setLetter : am_cl yX8_setLetter kX8_setLetter 2 := ⟨⟨_, rfl⟩, rfl, rfl, by decide +kernel, by decide +kernel, by decide +kernel⟩
theorem iX8_setLetter_8 : ∀ w ∈ u_ws RX8 TX8 2, w ∈ wsX8_setLetter := by decide +kernel
theorem fX8_setLetter_9 : Cond.fieldLink RX8 9 "AmbiguityAnalyzer$Word" "letters" "[I" ∈ wsX8_setLetter := by decide +kernel
set_option maxRecDepth 100000 in
set_option maxHeartbeats 4000000 in
theorem tX8_setLetter {Z : am_Z} (R : am_R) (I : am_I) (L : am_L) (a0 : Nat) (x1 : Int32) (x2 : Int32) (h_a0 : am_G Z a0 = some (.inl 8)) : am_M Z yX8_setLetter kX8_setLetter [.ref (am_B Z + a0), .int x1, .int x2] R I L (pX8_setLetter R I a0 x1 x2) (fun r : am_I => (none, R, r, L)) := by
  refine am_entry (ls := [(0, .ref (am_B Z + a0)), (1, .int x1), (2, .int x2)]) (by decide) hX8_setLetter rfl (Nat.le_of_ble_eq_true rfl) rfl (fun X => ?_)
  unfold pX8_setLetter
  refine am_aload_n dX8_setLetter_0 rfl 0 rfl ?_
  refine am_iload_n dX8_setLetter_1 rfl 1 rfl ?_
  refine am_callV [.int x1] (tX8_hasPosition R I L a0 x1 h_a0) h_a0 clX8 gX8_setLetter_X8_hasPosition hX8_hasPosition rfl ⟨Nat.le_of_ble_eq_true rfl, Nat.le_of_ble_eq_true rfl⟩ rfl rfl (Nat.le_of_ble_eq_true rfl) dX8_setLetter_2 (fun r1 => ?_)
  show am_V Z X kX8_setLetter (fun r : am_I => (none, R, r, L)) 5 [(0, .ref (am_B Z + a0)), (1, .int x1), (2, .int x2)] [.int r1] R I L _
  refine am_if_eq (tgt := 15) dX8_setLetter_5 rfl (fun e2 => ?_) (fun e2 => ?_)
  · exact am_vret dX8_setLetter_15 rfl rfl
  · refine am_aload_n dX8_setLetter_8 rfl 0 rfl ?_
    refine am_getR 8 1 clX8 (Nat.le_of_ble_eq_true rfl) h_a0 iX8_setLetter_8 fX8_setLetter_9 rfl rfl dX8_setLetter_9 (fun h3 => ?_)
    refine am_iload_n dX8_setLetter_12 rfl 1 rfl ?_
    refine am_iload_n dX8_setLetter_13 rfl 2 rfl ?_
    refine am_iast h3 dX8_setLetter_14 ?_
    refine am_letI (fun J4 => ?_)
    exact am_vret dX8_setLetter_15 rfl rfl
abbrev kX8_add : am_K := (cX8_add, 2, RX8, wsX8_add, none, { frames := 2, cells := 0, slots := 0, locals := 43 })
theorem hX8_add : am_cl yX8_add kX8_add 1 := ⟨⟨_, rfl⟩, rfl, rfl, by decide +kernel, by decide +kernel, by decide +kernel⟩
theorem iX8_add_8 : ∀ w ∈ u_ws RX8 TX8 2, w ∈ wsX8_add := by decide +kernel
theorem fX8_add_15 : Cond.fieldLink RX8 15 "AmbiguityAnalyzer$Word" "length" "I" ∈ wsX8_add := by decide +kernel
theorem fX8_add_9 : Cond.fieldLink RX8 9 "AmbiguityAnalyzer$Word" "letters" "[I" ∈ wsX8_add := by decide +kernel
set_option maxRecDepth 100000 in
set_option maxHeartbeats 4000000 in
theorem tX8_add {Z : am_Z} (R : am_R) (I : am_I) (L : am_L) (a0 : Nat) (x1 : Int32) (h_a0 : am_G Z a0 = some (.inl 8)) : am_M Z yX8_add kX8_add [.ref (am_B Z + a0), .int x1] R I L (pX8_add R I a0 x1) (fun r : am_I => (none, R, r, L)) := by
  refine am_entry (ls := [(0, .ref (am_B Z + a0)), (1, .int x1)]) (by decide) hX8_add rfl (Nat.le_of_ble_eq_true rfl) rfl (fun X => ?_)
  unfold pX8_add
  refine am_aload_n dX8_add_0 rfl 0 rfl ?_
  refine am_get 8 0 clX8 (Nat.le_of_ble_eq_true rfl) h_a0 iX8_add_8 fX8_add_15 rfl dX8_add_1 ?_
  refine am_aload_n dX8_add_4 rfl 0 rfl ?_
  refine am_getR 8 1 clX8 (Nat.le_of_ble_eq_true rfl) h_a0 iX8_add_8 fX8_add_9 rfl rfl dX8_add_5 (fun h1 => ?_)
  refine am_alen (t := 0) (v := 216) rfl h1 (by decide) dX8_add_8 ?_
  refine am_icmp_ge (tgt := 33) dX8_add_9 rfl (fun e2 => ?_) (fun e2 => ?_)
  · exact am_vret dX8_add_33 rfl rfl
  · refine am_aload_n dX8_add_12 rfl 0 rfl ?_
    refine am_dup dX8_add_13 rfl ?_
    refine am_get 8 0 clX8 (Nat.le_of_ble_eq_true rfl) h_a0 iX8_add_8 fX8_add_15 rfl dX8_add_14 ?_
    refine am_iconst (v := 1) dX8_add_17 (by decide) ?_
    refine am_iadd dX8_add_18 ?_
    refine am_putI 8 0 clX8 (Nat.le_of_ble_eq_true rfl) h_a0 iX8_add_8 fX8_add_15 rfl rfl dX8_add_19 ?_
    refine am_letI (fun J3 => ?_)
    refine am_aload_n dX8_add_22 rfl 0 rfl ?_
    refine am_aload_n dX8_add_23 rfl 0 rfl ?_
    refine am_get 8 0 clX8 (Nat.le_of_ble_eq_true rfl) h_a0 iX8_add_8 fX8_add_15 rfl dX8_add_24 ?_
    refine am_iconst (v := 1) dX8_add_27 (by decide) ?_
    refine am_isub dX8_add_28 ?_
    refine am_iload_n dX8_add_29 rfl 1 rfl ?_
    refine am_callV [.int ((J3 a0 0) - (1 : Int32)), .int x1] (tX8_setLetter R J3 L a0 ((J3 a0 0) - (1 : Int32)) x1 h_a0) h_a0 clX8 gX8_add_X8_setLetter hX8_setLetter rfl ⟨Nat.le_of_ble_eq_true rfl, Nat.le_of_ble_eq_true rfl⟩ rfl rfl (Nat.le_of_ble_eq_true rfl) dX8_add_30 (fun r4 => ?_)
    show am_V Z X kX8_add (fun r : am_I => (none, R, r, L)) 33 [(0, .ref (am_B Z + a0)), (1, .int x1)] [] R r4 L _
    exact am_vret dX8_add_33 rfl rfl
abbrev kX2_find : am_K := (cX2_find, 8, RX2, wsX2_find, some .boolean, { frames := 3, cells := 0, slots := 0, locals := 73 })
theorem hX2_find : am_cl yX2_find kX2_find 3 := ⟨⟨_, rfl⟩, rfl, rfl, by decide +kernel, by decide +kernel, by decide +kernel⟩
theorem iX2_find_0 : ∀ w ∈ u_ws RX0 TX0 4, w ∈ wsX2_find := by decide +kernel
theorem fX2_find_19 : Cond.fieldLink RX2 19 "AmbiguityAnalyzer$Automaton" "initials" "I" ∈ wsX2_find := by decide +kernel
theorem iX2_find_8 : ∀ w ∈ u_ws RX8 TX8 2, w ∈ wsX2_find := by decide +kernel
theorem fX2_find_30 : Cond.fieldLink RX2 30 "AmbiguityAnalyzer$Word" "length" "I" ∈ wsX2_find := by decide +kernel
set_option maxRecDepth 100000 in
set_option maxHeartbeats 4000000 in
theorem vX2_find_45 {Z : am_Z} {X : am_X} (R : am_R) (L : am_L) (a0 : Nat) (a1 : Nat) (a2 : Nat) (a3 : Nat) (h6 : am_G Z a0 = some (.inl 2)) (h7 : am_G Z a1 = some (.inl 0)) (h8 : am_G Z a2 = some (.inr (0, 3))) (h9 : am_G Z a3 = some (.inl 8)) (ih14 : Int32 → Int32 → Int32 → am_I → Option (Int32 × am_I)) (hih14 : ∀ (v10 : Int32) (v11 : Int32) (v12 : Int32) (J13 : am_I), am_V Z X kX2_find (fun r : Int32 × am_I => (some (.int r.1), R, r.2, L)) 45 [(0, .ref (am_B Z + a0)), (1, .ref (am_B Z + a1)), (2, .ref (am_B Z + a2)), (3, .ref (am_B Z + a3)), (4, .int v10), (5, .int v11), (6, .int v12)] [] R J13 L (ih14 v10 v11 v12 J13)) (v10 : Int32) (v11 : Int32) (v12 : Int32) (J13 : am_I) : am_V Z X kX2_find (fun r : Int32 × am_I => (some (.int r.1), R, r.2, L)) 45 [(0, .ref (am_B Z + a0)), (1, .ref (am_B Z + a1)), (2, .ref (am_B Z + a2)), (3, .ref (am_B Z + a3)), (4, .int v10), (5, .int v11), (6, .int v12)] [] R J13 L (sX2_find_45 R a0 a1 a2 a3 ih14 v10 v11 v12 J13) := by
  unfold sX2_find_45
  refine am_iload dX2_find_45 6 rfl ?_
  refine am_bipush (v := 6) dX2_find_47 (by decide) ?_
  refine am_icmp_ge (tgt := 108) dX2_find_49 rfl (fun e15 => ?_) (fun e15 => ?_)
  · refine am_iconst (v := 1) dX2_find_108 (by decide) ?_
    exact am_zret (by decide) dX2_find_109 rfl rfl
  · refine am_iload dX2_find_52 4 rfl ?_
    refine am_if_le (tgt := 108) dX2_find_54 rfl (fun e16 => ?_) (fun e16 => ?_)
    · refine am_iconst (v := 1) dX2_find_108 (by decide) ?_
      exact am_zret (by decide) dX2_find_109 rfl rfl
    · refine am_aload_n dX2_find_57 rfl 0 rfl ?_
      refine am_aload_n dX2_find_58 rfl 1 rfl ?_
      refine am_aload_n dX2_find_59 rfl 2 rfl ?_
      refine am_iload dX2_find_60 5 rfl ?_
      refine am_iload dX2_find_62 4 rfl ?_
      refine am_callV [.ref (am_B Z + a1), .ref (am_B Z + a2), .int v11, .int v10] (tX2_firstLetter R J13 L a0 a1 a2 v11 v10 h6 h7 h8) h6 clX2 gX2_find_X2_firstLetter hX2_firstLetter rfl ⟨Nat.le_of_ble_eq_true rfl, Nat.le_of_ble_eq_true rfl⟩ rfl rfl (Nat.le_of_ble_eq_true rfl) dX2_find_64 (fun r17 => ?_)
      show am_V Z X kX2_find (fun r : Int32 × am_I => (some (.int r.1), R, r.2, L)) 67 [(0, .ref (am_B Z + a0)), (1, .ref (am_B Z + a1)), (2, .ref (am_B Z + a2)), (3, .ref (am_B Z + a3)), (4, .int v10), (5, .int v11), (6, .int v12)] [.int r17] R J13 L _
      refine am_istore (ls' := [(7, .int r17), (0, .ref (am_B Z + a0)), (1, .ref (am_B Z + a1)), (2, .ref (am_B Z + a2)), (3, .ref (am_B Z + a3)), (4, .int v10), (5, .int v11), (6, .int v12)]) dX2_find_67 (Nat.le_of_ble_eq_true rfl) rfl ?_
      refine am_iload dX2_find_69 5 rfl ?_
      refine am_aload_n dX2_find_71 rfl 3 rfl ?_
      refine am_iload dX2_find_72 0 rfl ?_
      refine am_callS [.ref (am_B Z + a2), .int r17] (tX2_price R J13 L a2 r17 h8) gX2_find_X2_price hX2_price ⟨Nat.le_of_ble_eq_true rfl, Nat.le_of_ble_eq_true rfl⟩ rfl rfl (Nat.le_of_ble_eq_true rfl) dX2_find_74 (fun r18 => ?_)
      show am_V Z X kX2_find (fun r : Int32 × am_I => (some (.int r.1), R, r.2, L)) 77 [(7, .int r17), (0, .ref (am_B Z + a0)), (1, .ref (am_B Z + a1)), (2, .ref (am_B Z + a2)), (3, .ref (am_B Z + a3)), (4, .int v10), (5, .int v11), (6, .int v12)] [.int r18, .int v10] R J13 L _
      refine am_isub dX2_find_77 ?_
      refine am_letTi (fun v19 => ?_)
      refine am_istore (ls' := [(4, .int v19), (7, .int r17), (0, .ref (am_B Z + a0)), (1, .ref (am_B Z + a1)), (2, .ref (am_B Z + a2)), (3, .ref (am_B Z + a3)), (5, .int v11), (6, .int v12)]) dX2_find_78 (Nat.le_of_ble_eq_true rfl) rfl ?_
      refine am_aload_n dX2_find_80 rfl 2 rfl ?_
      refine am_aload_n dX2_find_81 rfl 3 rfl ?_
      refine am_iload dX2_find_82 6 rfl ?_
      refine am_iload dX2_find_84 1 rfl ?_
      refine am_callS [.ref (am_B Z + a1), .int v11, .int r17] (tX2_image R J13 L a1 v11 r17 h7) gX2_find_X2_image hX2_image ⟨Nat.le_of_ble_eq_true rfl, Nat.le_of_ble_eq_true rfl⟩ rfl rfl (Nat.le_of_ble_eq_true rfl) dX2_find_86 (fun r20 => ?_)
      show am_V Z X kX2_find (fun r : Int32 × am_I => (some (.int r.1), R, r.2, L)) 89 [(4, .int v19), (7, .int r17), (0, .ref (am_B Z + a0)), (1, .ref (am_B Z + a1)), (2, .ref (am_B Z + a2)), (3, .ref (am_B Z + a3)), (5, .int v11), (6, .int v12)] [.int r20, .ref (am_B Z + a0)] R J13 L _
      refine am_iload dX2_find_89 0 rfl ?_
      refine am_callV [.int r20, .int v19] (tX2_statesOfCost R J13 L a0 r20 v19 h6) h6 clX2 gX2_find_X2_statesOfCost hX2_statesOfCost rfl ⟨Nat.le_of_ble_eq_true rfl, Nat.le_of_ble_eq_true rfl⟩ rfl rfl (Nat.le_of_ble_eq_true rfl) dX2_find_91 (fun r21 => ?_)
      show am_V Z X kX2_find (fun r : Int32 × am_I => (some (.int r.1), R, r.2, L)) 94 [(4, .int v19), (7, .int r17), (0, .ref (am_B Z + a0)), (1, .ref (am_B Z + a1)), (2, .ref (am_B Z + a2)), (3, .ref (am_B Z + a3)), (5, .int v11), (6, .int v12)] [.int r21] R J13 L _
      refine am_istore (ls' := [(5, .int r21), (4, .int v19), (7, .int r17), (0, .ref (am_B Z + a0)), (1, .ref (am_B Z + a1)), (2, .ref (am_B Z + a2)), (3, .ref (am_B Z + a3)), (6, .int v12)]) dX2_find_94 (Nat.le_of_ble_eq_true rfl) rfl ?_
      refine am_aload_n dX2_find_96 rfl 6 rfl ?_
      refine am_iload dX2_find_97 2 rfl ?_
      refine am_callV [.int r17] (tX8_add R J13 L a3 r17 h9) h9 clX8 gX2_find_X8_add hX8_add rfl ⟨Nat.le_of_ble_eq_true rfl, Nat.le_of_ble_eq_true rfl⟩ rfl rfl (Nat.le_of_ble_eq_true rfl) dX2_find_99 (fun r22 => ?_)
      show am_V Z X kX2_find (fun r : Int32 × am_I => (some (.int r.1), R, r.2, L)) 102 [(5, .int r21), (4, .int v19), (7, .int r17), (0, .ref (am_B Z + a0)), (1, .ref (am_B Z + a1)), (2, .ref (am_B Z + a2)), (3, .ref (am_B Z + a3)), (6, .int v12)] [] R r22 L _
      refine am_iinc (j := 7) (ls' := [(6, .int (v12 + (1 : Int32))), (5, .int r21), (4, .int v19), (7, .int r17), (0, .ref (am_B Z + a0)), (1, .ref (am_B Z + a1)), (2, .ref (am_B Z + a2)), (3, .ref (am_B Z + a3))]) dX2_find_102 rfl rfl (Nat.le_of_ble_eq_true rfl) rfl ?_
      refine am_goto (tgt := 45) dX2_find_105 rfl ?_
      refine am_sub (ls' := [(0, .ref (am_B Z + a0)), (1, .ref (am_B Z + a1)), (2, .ref (am_B Z + a2)), (3, .ref (am_B Z + a3)), (4, .int v19), (5, .int r21), (6, .int (v12 + (1 : Int32)))]) [4, 5, 6, 7, 2, 1, 0] rfl ?_
      exact hih14 v19 r21 (v12 + (1 : Int32)) r22
theorem uX2_find_45 {Z : am_Z} {X : am_X} (R : am_R) (L : am_L) (a0 : Nat) (a1 : Nat) (a2 : Nat) (a3 : Nat) (h6 : am_G Z a0 = some (.inl 2)) (h7 : am_G Z a1 = some (.inl 0)) (h8 : am_G Z a2 = some (.inr (0, 3))) (h9 : am_G Z a3 = some (.inl 8)) : ∀ (n : Nat) (v10 : Int32) (v11 : Int32) (v12 : Int32) (J13 : am_I), am_V Z X kX2_find (fun r : Int32 × am_I => (some (.int r.1), R, r.2, L)) 45 [(0, .ref (am_B Z + a0)), (1, .ref (am_B Z + a1)), (2, .ref (am_B Z + a2)), (3, .ref (am_B Z + a3)), (4, .int v10), (5, .int v11), (6, .int v12)] [] R J13 L (lX2_find_45 R a0 a1 a2 a3 n v10 v11 v12 J13) := by
  intro n
  induction n with
  | zero => intro _ _ _ _; exact am_none
  | succ n ih => exact fun v10 v11 v12 J13 => vX2_find_45 R L a0 a1 a2 a3 h6 h7 h8 h9 (lX2_find_45 R a0 a1 a2 a3 n) ih v10 v11 v12 J13
set_option maxRecDepth 100000 in
set_option maxHeartbeats 4000000 in
theorem tX2_find {Z : am_Z} (R : am_R) (I : am_I) (L : am_L) (a0 : Nat) (a1 : Nat) (a2 : Nat) (a3 : Nat) (h_a0 : am_G Z a0 = some (.inl 2)) (h_a1 : am_G Z a1 = some (.inl 0)) (h_a2 : am_G Z a2 = some (.inr (0, 3))) (h_a3 : am_G Z a3 = some (.inl 8)) : am_M Z yX2_find kX2_find [.ref (am_B Z + a0), .ref (am_B Z + a1), .ref (am_B Z + a2), .ref (am_B Z + a3)] R I L (pX2_find R I a0 a1 a2 a3) (fun r : Int32 × am_I => (some (.int r.1), R, r.2, L)) := by
  refine am_entry (ls := [(0, .ref (am_B Z + a0)), (1, .ref (am_B Z + a1)), (2, .ref (am_B Z + a2)), (3, .ref (am_B Z + a3))]) (by decide) hX2_find rfl (Nat.le_of_ble_eq_true rfl) rfl (fun X => ?_)
  unfold pX2_find
  refine am_aload_n dX2_find_0 rfl 0 rfl ?_
  refine am_aload_n dX2_find_1 rfl 1 rfl ?_
  refine am_aload_n dX2_find_2 rfl 2 rfl ?_
  refine am_callV [.ref (am_B Z + a1), .ref (am_B Z + a2)] (tX2_computeCosts R I L a0 a1 a2 h_a0 h_a1 h_a2) h_a0 clX2 gX2_find_X2_computeCosts hX2_computeCosts rfl ⟨Nat.le_of_ble_eq_true rfl, Nat.le_of_ble_eq_true rfl⟩ rfl rfl (Nat.le_of_ble_eq_true rfl) dX2_find_3 (fun r1 => ?_)
  show am_V Z X kX2_find (fun r : Int32 × am_I => (some (.int r.1), R, r.2, L)) 6 [(0, .ref (am_B Z + a0)), (1, .ref (am_B Z + a1)), (2, .ref (am_B Z + a2)), (3, .ref (am_B Z + a3))] [] R r1 L _
  refine am_aload_n dX2_find_6 rfl 0 rfl ?_
  refine am_aload_n dX2_find_7 rfl 1 rfl ?_
  refine am_get 0 1 clX0 (Nat.le_of_ble_eq_true rfl) h_a1 iX2_find_0 fX2_find_19 rfl dX2_find_8 ?_
  refine am_callV [.int (r1 a1 1)] (tX2_cheapest R r1 L a0 (r1 a1 1) h_a0) h_a0 clX2 gX2_find_X2_cheapest hX2_cheapest rfl ⟨Nat.le_of_ble_eq_true rfl, Nat.le_of_ble_eq_true rfl⟩ rfl rfl (Nat.le_of_ble_eq_true rfl) dX2_find_11 (fun r2 => ?_)
  show am_V Z X kX2_find (fun r : Int32 × am_I => (some (.int r.1), R, r.2, L)) 14 [(0, .ref (am_B Z + a0)), (1, .ref (am_B Z + a1)), (2, .ref (am_B Z + a2)), (3, .ref (am_B Z + a3))] [.int r2] R r1 L _
  refine am_istore (ls' := [(4, .int r2), (0, .ref (am_B Z + a0)), (1, .ref (am_B Z + a1)), (2, .ref (am_B Z + a2)), (3, .ref (am_B Z + a3))]) dX2_find_14 (Nat.le_of_ble_eq_true rfl) rfl ?_
  refine am_iload dX2_find_16 0 rfl ?_
  refine am_ldc (v := 1000000) dX2_find_18 (by decide +kernel) ?_
  refine am_icmp_lt (tgt := 25) dX2_find_20 rfl (fun e3 => ?_) (fun e3 => ?_)
  · refine am_aload_n dX2_find_25 rfl 4 rfl ?_
    refine am_iconst (v := 0) dX2_find_26 (by decide) ?_
    refine am_putI 8 0 clX8 (Nat.le_of_ble_eq_true rfl) h_a3 iX2_find_8 fX2_find_30 rfl rfl dX2_find_27 ?_
    refine am_letI (fun J4 => ?_)
    refine am_aload_n dX2_find_30 rfl 1 rfl ?_
    refine am_aload_n dX2_find_31 rfl 2 rfl ?_
    refine am_get 0 1 clX0 (Nat.le_of_ble_eq_true rfl) h_a1 iX2_find_0 fX2_find_19 rfl dX2_find_32 ?_
    refine am_iload dX2_find_35 0 rfl ?_
    refine am_callV [.int (J4 a1 1), .int r2] (tX2_statesOfCost R J4 L a0 (J4 a1 1) r2 h_a0) h_a0 clX2 gX2_find_X2_statesOfCost hX2_statesOfCost rfl ⟨Nat.le_of_ble_eq_true rfl, Nat.le_of_ble_eq_true rfl⟩ rfl rfl (Nat.le_of_ble_eq_true rfl) dX2_find_37 (fun r5 => ?_)
    show am_V Z X kX2_find (fun r : Int32 × am_I => (some (.int r.1), R, r.2, L)) 40 [(4, .int r2), (0, .ref (am_B Z + a0)), (1, .ref (am_B Z + a1)), (2, .ref (am_B Z + a2)), (3, .ref (am_B Z + a3))] [.int r5] R J4 L _
    refine am_istore (ls' := [(5, .int r5), (4, .int r2), (0, .ref (am_B Z + a0)), (1, .ref (am_B Z + a1)), (2, .ref (am_B Z + a2)), (3, .ref (am_B Z + a3))]) dX2_find_40 (Nat.le_of_ble_eq_true rfl) rfl ?_
    refine am_iconst (v := 0) dX2_find_42 (by decide) ?_
    refine am_istore (ls' := [(6, .int (0 : Int32)), (5, .int r5), (4, .int r2), (0, .ref (am_B Z + a0)), (1, .ref (am_B Z + a1)), (2, .ref (am_B Z + a2)), (3, .ref (am_B Z + a3))]) dX2_find_43 (Nat.le_of_ble_eq_true rfl) rfl ?_
    refine am_sub (ls' := [(0, .ref (am_B Z + a0)), (1, .ref (am_B Z + a1)), (2, .ref (am_B Z + a2)), (3, .ref (am_B Z + a3)), (4, .int r2), (5, .int r5), (6, .int (0 : Int32))]) [3, 4, 5, 6, 2, 1, 0] rfl ?_
    exact uX2_find_45 R L a0 a1 a2 a3 h_a0 h_a1 h_a2 h_a3 am_fu r2 r5 (0 : Int32) J4
  · refine am_iconst (v := 0) dX2_find_23 (by decide) ?_
    exact am_zret (by decide) dX2_find_24 rfl rfl
abbrev kX3_makeEmpty : am_K := (cX3_makeEmpty, 2, RX3, wsX3_makeEmpty, none, { frames := 0, cells := 0, slots := 0, locals := 0 })
theorem hX3_makeEmpty : am_cl yX3_makeEmpty kX3_makeEmpty 0 := ⟨⟨_, rfl⟩, rfl, rfl, by decide +kernel, by decide +kernel, by decide +kernel⟩
theorem iX3_makeEmpty_3 : ∀ w ∈ u_ws RX3 TX3 6, w ∈ wsX3_makeEmpty := by decide +kernel
theorem fX3_makeEmpty_22 : Cond.fieldLink RX3 22 "AmbiguityAnalyzer$Result" "count" "I" ∈ wsX3_makeEmpty := by decide +kernel
theorem fX3_makeEmpty_26 : Cond.fieldLink RX3 26 "AmbiguityAnalyzer$Result" "initials" "J" ∈ wsX3_makeEmpty := by decide +kernel
theorem fX3_makeEmpty_30 : Cond.fieldLink RX3 30 "AmbiguityAnalyzer$Result" "finals" "J" ∈ wsX3_makeEmpty := by decide +kernel
theorem fX3_makeEmpty_9 : Cond.fieldLink RX3 9 "AmbiguityAnalyzer$Result" "targets" "[J" ∈ wsX3_makeEmpty := by decide +kernel
theorem fX3_makeEmpty_19 : Cond.fieldLink RX3 19 "AmbiguityAnalyzer$Result" "numbers" "[I" ∈ wsX3_makeEmpty := by decide +kernel
set_option maxRecDepth 100000 in
set_option maxHeartbeats 4000000 in
theorem vX3_makeEmpty_41 {Z : am_Z} {X : am_X} (R : am_R) (a0 : Nat) (J5 : am_L) (h6 : am_G Z a0 = some (.inl 3)) (ih9 : Int32 → am_I → Option (am_I × am_L)) (hih9 : ∀ (v7 : Int32) (J8 : am_I), am_V Z X kX3_makeEmpty (fun r : am_I × am_L => (none, R, r.1, r.2)) 41 [(0, .ref (am_B Z + a0)), (1, .int v7)] [] R J8 J5 (ih9 v7 J8)) (v7 : Int32) (J8 : am_I) : am_V Z X kX3_makeEmpty (fun r : am_I × am_L => (none, R, r.1, r.2)) 41 [(0, .ref (am_B Z + a0)), (1, .int v7)] [] R J8 J5 (sX3_makeEmpty_41 R a0 J5 ih9 v7 J8) := by
  unfold sX3_makeEmpty_41
  refine am_iload_n dX3_makeEmpty_41 rfl 1 rfl ?_
  refine am_aload_n dX3_makeEmpty_42 rfl 0 rfl ?_
  refine am_getR 3 5 clX3 (Nat.le_of_ble_eq_true rfl) h6 iX3_makeEmpty_3 fX3_makeEmpty_19 rfl rfl dX3_makeEmpty_43 (fun h10 => ?_)
  refine am_alen (t := 0) (v := 384) rfl h10 (by decide) dX3_makeEmpty_46 ?_
  refine am_icmp_ge (tgt := 63) dX3_makeEmpty_47 rfl (fun e11 => ?_) (fun e11 => ?_)
  · exact am_vret dX3_makeEmpty_63 rfl rfl
  · refine am_aload_n dX3_makeEmpty_50 rfl 0 rfl ?_
    refine am_getR 3 5 clX3 (Nat.le_of_ble_eq_true rfl) h6 iX3_makeEmpty_3 fX3_makeEmpty_19 rfl rfl dX3_makeEmpty_51 (fun h12 => ?_)
    refine am_iload_n dX3_makeEmpty_54 rfl 1 rfl ?_
    refine am_iconst (v := -1) dX3_makeEmpty_55 (by decide) ?_
    refine am_iast h12 dX3_makeEmpty_56 ?_
    refine am_letI (fun J13 => ?_)
    refine am_iinc (j := 1) (ls' := [(1, .int (v7 + (1 : Int32))), (0, .ref (am_B Z + a0))]) dX3_makeEmpty_57 rfl rfl (Nat.le_of_ble_eq_true rfl) rfl ?_
    refine am_goto (tgt := 41) dX3_makeEmpty_60 rfl ?_
    refine am_sub (ls' := [(0, .ref (am_B Z + a0)), (1, .int (v7 + (1 : Int32)))]) [1, 0] rfl ?_
    exact hih9 (v7 + (1 : Int32)) J13
theorem uX3_makeEmpty_41 {Z : am_Z} {X : am_X} (R : am_R) (a0 : Nat) (J5 : am_L) (h6 : am_G Z a0 = some (.inl 3)) : ∀ (n : Nat) (v7 : Int32) (J8 : am_I), am_V Z X kX3_makeEmpty (fun r : am_I × am_L => (none, R, r.1, r.2)) 41 [(0, .ref (am_B Z + a0)), (1, .int v7)] [] R J8 J5 (lX3_makeEmpty_41 R a0 J5 n v7 J8) := by
  intro n
  induction n with
  | zero => intro _ _; exact am_none
  | succ n ih => exact fun v7 J8 => vX3_makeEmpty_41 R a0 J5 h6 (lX3_makeEmpty_41 R a0 J5 n) ih v7 J8
set_option maxRecDepth 100000 in
set_option maxHeartbeats 4000000 in
theorem vX3_makeEmpty_17 {Z : am_Z} {X : am_X} (R : am_R) (a0 : Nat) (J1 : am_I) (h14 : am_G Z a0 = some (.inl 3)) (j4 : am_L → Option (am_I × am_L)) (hj4 : ∀ (J5 : am_L), am_V Z X kX3_makeEmpty (fun r : am_I × am_L => (none, R, r.1, r.2)) 39 [(0, .ref (am_B Z + a0))] [] R J1 J5 (j4 J5)) (ih17 : Int32 → am_L → Option (am_I × am_L)) (hih17 : ∀ (v15 : Int32) (J16 : am_L), am_V Z X kX3_makeEmpty (fun r : am_I × am_L => (none, R, r.1, r.2)) 17 [(0, .ref (am_B Z + a0)), (1, .int v15)] [] R J1 J16 (ih17 v15 J16)) (v15 : Int32) (J16 : am_L) : am_V Z X kX3_makeEmpty (fun r : am_I × am_L => (none, R, r.1, r.2)) 17 [(0, .ref (am_B Z + a0)), (1, .int v15)] [] R J1 J16 (sX3_makeEmpty_17 R a0 J1 j4 ih17 v15 J16) := by
  unfold sX3_makeEmpty_17
  refine am_iload_n dX3_makeEmpty_17 rfl 1 rfl ?_
  refine am_aload_n dX3_makeEmpty_18 rfl 0 rfl ?_
  refine am_getR 3 3 clX3 (Nat.le_of_ble_eq_true rfl) h14 iX3_makeEmpty_3 fX3_makeEmpty_9 rfl rfl dX3_makeEmpty_19 (fun h18 => ?_)
  refine am_alen (t := 1) (v := 192) rfl h18 (by decide) dX3_makeEmpty_22 ?_
  refine am_icmp_ge (tgt := 39) dX3_makeEmpty_23 rfl (fun e19 => ?_) (fun e19 => ?_)
  · refine am_sub (ls' := [(0, .ref (am_B Z + a0))]) [0] rfl ?_
    exact hj4 J16
  · refine am_aload_n dX3_makeEmpty_26 rfl 0 rfl ?_
    refine am_getR 3 3 clX3 (Nat.le_of_ble_eq_true rfl) h14 iX3_makeEmpty_3 fX3_makeEmpty_9 rfl rfl dX3_makeEmpty_27 (fun h20 => ?_)
    refine am_iload_n dX3_makeEmpty_30 rfl 1 rfl ?_
    refine am_lconst (v := 0) dX3_makeEmpty_31 (by decide) ?_
    refine am_last h20 dX3_makeEmpty_32 ?_
    refine am_letL (fun J21 => ?_)
    refine am_iinc (j := 1) (ls' := [(1, .int (v15 + (1 : Int32))), (0, .ref (am_B Z + a0))]) dX3_makeEmpty_33 rfl rfl (Nat.le_of_ble_eq_true rfl) rfl ?_
    refine am_goto (tgt := 17) dX3_makeEmpty_36 rfl ?_
    refine am_sub (ls' := [(0, .ref (am_B Z + a0)), (1, .int (v15 + (1 : Int32)))]) [1, 0] rfl ?_
    exact hih17 (v15 + (1 : Int32)) J21
theorem uX3_makeEmpty_17 {Z : am_Z} {X : am_X} (R : am_R) (a0 : Nat) (J1 : am_I) (h14 : am_G Z a0 = some (.inl 3)) (j4 : am_L → Option (am_I × am_L)) (hj4 : ∀ (J5 : am_L), am_V Z X kX3_makeEmpty (fun r : am_I × am_L => (none, R, r.1, r.2)) 39 [(0, .ref (am_B Z + a0))] [] R J1 J5 (j4 J5)) : ∀ (n : Nat) (v15 : Int32) (J16 : am_L), am_V Z X kX3_makeEmpty (fun r : am_I × am_L => (none, R, r.1, r.2)) 17 [(0, .ref (am_B Z + a0)), (1, .int v15)] [] R J1 J16 (lX3_makeEmpty_17 R a0 J1 j4 n v15 J16) := by
  intro n
  induction n with
  | zero => intro _ _; exact am_none
  | succ n ih => exact fun v15 J16 => vX3_makeEmpty_17 R a0 J1 h14 j4 hj4 (lX3_makeEmpty_17 R a0 J1 j4 n) ih v15 J16
set_option maxRecDepth 100000 in
set_option maxHeartbeats 4000000 in
theorem tX3_makeEmpty {Z : am_Z} (R : am_R) (I : am_I) (L : am_L) (a0 : Nat) (h_a0 : am_G Z a0 = some (.inl 3)) : am_M Z yX3_makeEmpty kX3_makeEmpty [.ref (am_B Z + a0)] R I L (pX3_makeEmpty R I L a0) (fun r : am_I × am_L => (none, R, r.1, r.2)) := by
  refine am_entry (ls := [(0, .ref (am_B Z + a0))]) (by decide) hX3_makeEmpty rfl (Nat.le_of_ble_eq_true rfl) rfl (fun X => ?_)
  unfold pX3_makeEmpty
  refine am_aload_n dX3_makeEmpty_0 rfl 0 rfl ?_
  refine am_iconst (v := 0) dX3_makeEmpty_1 (by decide) ?_
  refine am_putI 3 0 clX3 (Nat.le_of_ble_eq_true rfl) h_a0 iX3_makeEmpty_3 fX3_makeEmpty_22 rfl rfl dX3_makeEmpty_2 ?_
  refine am_letI (fun J1 => ?_)
  refine am_aload_n dX3_makeEmpty_5 rfl 0 rfl ?_
  refine am_lconst (v := 0) dX3_makeEmpty_6 (by decide) ?_
  refine am_putL 3 1 clX3 (Nat.le_of_ble_eq_true rfl) h_a0 iX3_makeEmpty_3 fX3_makeEmpty_26 rfl rfl dX3_makeEmpty_7 ?_
  refine am_letL (fun J2 => ?_)
  refine am_aload_n dX3_makeEmpty_10 rfl 0 rfl ?_
  refine am_lconst (v := 0) dX3_makeEmpty_11 (by decide) ?_
  refine am_putL 3 2 clX3 (Nat.le_of_ble_eq_true rfl) h_a0 iX3_makeEmpty_3 fX3_makeEmpty_30 rfl rfl dX3_makeEmpty_12 ?_
  refine am_letL (fun J3 => ?_)
  refine am_iconst (v := 0) dX3_makeEmpty_15 (by decide) ?_
  refine am_istore_n (ls' := [(1, .int (0 : Int32)), (0, .ref (am_B Z + a0))]) dX3_makeEmpty_16 rfl (Nat.le_of_ble_eq_true rfl) rfl ?_
  refine am_jnV (fun j4 ej4 => ?_)
  have hj4 : ∀ (J5 : am_L), am_V Z X kX3_makeEmpty (fun r : am_I × am_L => (none, R, r.1, r.2)) 39 [(0, .ref (am_B Z + a0))] [] R J1 J5 (j4 J5) := by
    subst ej4
    intro J5
    show am_V Z X kX3_makeEmpty (fun r : am_I × am_L => (none, R, r.1, r.2)) 39 [(0, .ref (am_B Z + a0))] [] R J1 J5 _
    refine am_iconst (v := 0) dX3_makeEmpty_39 (by decide) ?_
    refine am_istore_n (ls' := [(1, .int (0 : Int32)), (0, .ref (am_B Z + a0))]) dX3_makeEmpty_40 rfl (Nat.le_of_ble_eq_true rfl) rfl ?_
    refine am_sub (ls' := [(0, .ref (am_B Z + a0)), (1, .int (0 : Int32))]) [1, 0] rfl ?_
    exact uX3_makeEmpty_41 R a0 J5 h_a0 am_fu (0 : Int32) J1
  refine am_sub (ls' := [(0, .ref (am_B Z + a0)), (1, .int (0 : Int32))]) [1, 0] rfl ?_
  exact uX3_makeEmpty_17 R a0 J1 h_a0 j4 hj4 am_fu (0 : Int32) J3
abbrev kX3_bitOf : am_K := (cX3_bitOf, 3, RX3, wsX3_bitOf, some .long, { frames := 0, cells := 0, slots := 0, locals := 0 })
theorem hX3_bitOf : am_cl yX3_bitOf kX3_bitOf 2 := ⟨⟨_, rfl⟩, rfl, rfl, by decide +kernel, by decide +kernel, by decide +kernel⟩
theorem iX3_bitOf_3 : ∀ w ∈ u_ws RX3 TX3 6, w ∈ wsX3_bitOf := by decide +kernel
theorem fX3_bitOf_19 : Cond.fieldLink RX3 19 "AmbiguityAnalyzer$Result" "numbers" "[I" ∈ wsX3_bitOf := by decide +kernel
theorem fX3_bitOf_22 : Cond.fieldLink RX3 22 "AmbiguityAnalyzer$Result" "count" "I" ∈ wsX3_bitOf := by decide +kernel
theorem fX3_bitOf_15 : Cond.fieldLink RX3 15 "AmbiguityAnalyzer$Result" "codes" "[I" ∈ wsX3_bitOf := by decide +kernel
theorem fX3_bitOf_30 : Cond.fieldLink RX3 30 "AmbiguityAnalyzer$Result" "finals" "J" ∈ wsX3_bitOf := by decide +kernel
set_option maxRecDepth 100000 in
set_option maxHeartbeats 4000000 in
theorem tX3_bitOf {Z : am_Z} (R : am_R) (I : am_I) (L : am_L) (a0 : Nat) (x1 : Int32) (x2 : Int32) (h_a0 : am_G Z a0 = some (.inl 3)) : am_M Z yX3_bitOf kX3_bitOf [.ref (am_B Z + a0), .int x1, .int x2] R I L (pX3_bitOf R I L a0 x1 x2) (fun r : Int64 × am_I × am_L => (some (.long r.1), R, r.2.1, r.2.2)) := by
  refine am_entry (ls := [(0, .ref (am_B Z + a0)), (1, .int x1), (2, .int x2)]) (by decide) hX3_bitOf rfl (Nat.le_of_ble_eq_true rfl) rfl (fun X => ?_)
  unfold pX3_bitOf
  refine am_iload_n dX3_bitOf_0 rfl 1 rfl ?_
  refine am_if_lt (tgt := 13) dX3_bitOf_1 rfl (fun e1 => ?_) (fun e1 => ?_)
  · refine am_lconst (v := 0) dX3_bitOf_13 (by decide) ?_
    exact am_lret dX3_bitOf_14 rfl rfl
  · refine am_iload_n dX3_bitOf_4 rfl 1 rfl ?_
    refine am_aload_n dX3_bitOf_5 rfl 0 rfl ?_
    refine am_getR 3 5 clX3 (Nat.le_of_ble_eq_true rfl) h_a0 iX3_bitOf_3 fX3_bitOf_19 rfl rfl dX3_bitOf_6 (fun h2 => ?_)
    refine am_alen (t := 0) (v := 384) rfl h2 (by decide) dX3_bitOf_9 ?_
    refine am_icmp_lt (tgt := 15) dX3_bitOf_10 rfl (fun e3 => ?_) (fun e3 => ?_)
    · refine am_aload_n dX3_bitOf_15 rfl 0 rfl ?_
      refine am_getR 3 5 clX3 (Nat.le_of_ble_eq_true rfl) h_a0 iX3_bitOf_3 fX3_bitOf_19 rfl rfl dX3_bitOf_16 (fun h4 => ?_)
      refine am_iload_n dX3_bitOf_19 rfl 1 rfl ?_
      refine am_iald h4 dX3_bitOf_20 ?_
      refine am_iconst (v := -1) dX3_bitOf_21 (by decide) ?_
      refine am_jnV (fun j5 ej5 => ?_)
      have hj5 : ∀ (J6 : am_I) (J7 : am_L), am_V Z X kX3_bitOf (fun r : Int64 × am_I × am_L => (some (.long r.1), R, r.2.1, r.2.2)) 89 [(0, .ref (am_B Z + a0)), (1, .int x1)] [] R J6 J7 (j5 J6 J7) := by
        subst ej5
        intro J6 J7
        show am_V Z X kX3_bitOf (fun r : Int64 × am_I × am_L => (some (.long r.1), R, r.2.1, r.2.2)) 89 [(0, .ref (am_B Z + a0)), (1, .int x1)] [] R J6 J7 _
        refine am_lconst (v := 1) dX3_bitOf_89 (by decide) ?_
        refine am_aload_n dX3_bitOf_90 rfl 0 rfl ?_
        refine am_getR 3 5 clX3 (Nat.le_of_ble_eq_true rfl) h_a0 iX3_bitOf_3 fX3_bitOf_19 rfl rfl dX3_bitOf_91 (fun h8 => ?_)
        refine am_iload_n dX3_bitOf_94 rfl 1 rfl ?_
        refine am_iald h8 dX3_bitOf_95 ?_
        refine am_lshl dX3_bitOf_96 ?_
        exact am_lret dX3_bitOf_97 rfl rfl
      refine am_icmp_ne (tgt := 89) dX3_bitOf_22 rfl (fun e9 => ?_) (fun e9 => ?_)
      · refine am_sub (ls' := [(0, .ref (am_B Z + a0)), (1, .int x1)]) [0, 1] rfl ?_
        exact hj5 I L
      · refine am_aload_n dX3_bitOf_25 rfl 0 rfl ?_
        refine am_get 3 0 clX3 (Nat.le_of_ble_eq_true rfl) h_a0 iX3_bitOf_3 fX3_bitOf_22 rfl dX3_bitOf_26 ?_
        refine am_bipush (v := 64) dX3_bitOf_29 (by decide) ?_
        refine am_icmp_lt (tgt := 36) dX3_bitOf_31 rfl (fun e10 => ?_) (fun e10 => ?_)
        · refine am_aload_n dX3_bitOf_36 rfl 0 rfl ?_
          refine am_getR 3 5 clX3 (Nat.le_of_ble_eq_true rfl) h_a0 iX3_bitOf_3 fX3_bitOf_19 rfl rfl dX3_bitOf_37 (fun h11 => ?_)
          refine am_iload_n dX3_bitOf_40 rfl 1 rfl ?_
          refine am_aload_n dX3_bitOf_41 rfl 0 rfl ?_
          refine am_get 3 0 clX3 (Nat.le_of_ble_eq_true rfl) h_a0 iX3_bitOf_3 fX3_bitOf_22 rfl dX3_bitOf_42 ?_
          refine am_iast h11 dX3_bitOf_45 ?_
          refine am_letI (fun J12 => ?_)
          refine am_aload_n dX3_bitOf_46 rfl 0 rfl ?_
          refine am_getR 3 4 clX3 (Nat.le_of_ble_eq_true rfl) h_a0 iX3_bitOf_3 fX3_bitOf_15 rfl rfl dX3_bitOf_47 (fun h13 => ?_)
          refine am_aload_n dX3_bitOf_50 rfl 0 rfl ?_
          refine am_get 3 0 clX3 (Nat.le_of_ble_eq_true rfl) h_a0 iX3_bitOf_3 fX3_bitOf_22 rfl dX3_bitOf_51 ?_
          refine am_iload_n dX3_bitOf_54 rfl 1 rfl ?_
          refine am_iast h13 dX3_bitOf_55 ?_
          refine am_letI (fun J14 => ?_)
          refine am_aload_n dX3_bitOf_56 rfl 0 rfl ?_
          refine am_dup dX3_bitOf_57 rfl ?_
          refine am_get 3 2 clX3 (Nat.le_of_ble_eq_true rfl) h_a0 iX3_bitOf_3 fX3_bitOf_30 rfl dX3_bitOf_58 ?_
          refine am_iload_n dX3_bitOf_61 rfl 2 rfl ?_
          refine am_letJ (fun k16 ek16 => ?_)
          have hk16 : ∀ v15 : Int64, am_V Z X kX3_bitOf (fun r : Int64 × am_I × am_L => (some (.long r.1), R, r.2.1, r.2.2)) 75 [(0, .ref (am_B Z + a0)), (1, .int x1)] [.long v15, .long (L a0 2), .ref (am_B Z + a0)] R J14 L (k16 v15) := by
            subst ek16
            intro v15
            show am_V Z X kX3_bitOf (fun r : Int64 × am_I × am_L => (some (.long r.1), R, r.2.1, r.2.2)) 75 [(0, .ref (am_B Z + a0)), (1, .int x1)] [.long v15, .long (L a0 2), .ref (am_B Z + a0)] R J14 L _
            refine am_lor dX3_bitOf_75 ?_
            refine am_putL 3 2 clX3 (Nat.le_of_ble_eq_true rfl) h_a0 iX3_bitOf_3 fX3_bitOf_30 rfl rfl dX3_bitOf_76 ?_
            refine am_letL (fun J17 => ?_)
            refine am_aload_n dX3_bitOf_79 rfl 0 rfl ?_
            refine am_dup dX3_bitOf_80 rfl ?_
            refine am_get 3 0 clX3 (Nat.le_of_ble_eq_true rfl) h_a0 iX3_bitOf_3 fX3_bitOf_22 rfl dX3_bitOf_81 ?_
            refine am_iconst (v := 1) dX3_bitOf_84 (by decide) ?_
            refine am_iadd dX3_bitOf_85 ?_
            refine am_putI 3 0 clX3 (Nat.le_of_ble_eq_true rfl) h_a0 iX3_bitOf_3 fX3_bitOf_22 rfl rfl dX3_bitOf_86 ?_
            refine am_letI (fun J18 => ?_)
            exact hj5 J18 J17
          refine am_if_eqL (tgt := 74) dX3_bitOf_62 rfl (fun e19 => ?_) (fun e19 => ?_)
          · refine am_lconst (v := 0) dX3_bitOf_74 (by decide) ?_
            refine am_sub (ls' := [(0, .ref (am_B Z + a0)), (1, .int x1)]) [0, 1] rfl ?_
            exact hk16 _
          · refine am_lconst (v := 1) dX3_bitOf_65 (by decide) ?_
            refine am_aload_n dX3_bitOf_66 rfl 0 rfl ?_
            refine am_get 3 0 clX3 (Nat.le_of_ble_eq_true rfl) h_a0 iX3_bitOf_3 fX3_bitOf_22 rfl dX3_bitOf_67 ?_
            refine am_lshl dX3_bitOf_70 ?_
            refine am_goto (tgt := 75) dX3_bitOf_71 rfl ?_
            refine am_sub (ls' := [(0, .ref (am_B Z + a0)), (1, .int x1)]) [0, 1] rfl ?_
            exact hk16 _
        · refine am_lconst (v := 0) dX3_bitOf_34 (by decide) ?_
          exact am_lret dX3_bitOf_35 rfl rfl
    · refine am_lconst (v := 0) dX3_bitOf_13 (by decide) ?_
      exact am_lret dX3_bitOf_14 rfl rfl
abbrev kX3_bitOfSet : am_K := (cX3_bitOfSet, 3, RX3, wsX3_bitOfSet, some .long, { frames := 1, cells := 0, slots := 0, locals := 22 })
theorem hX3_bitOfSet : am_cl yX3_bitOfSet kX3_bitOfSet 2 := ⟨⟨_, rfl⟩, rfl, rfl, by decide +kernel, by decide +kernel, by decide +kernel⟩
theorem iX3_bitOfSet_0 : ∀ w ∈ u_ws RX0 TX0 4, w ∈ wsX3_bitOfSet := by decide +kernel
theorem fX3_bitOfSet_50 : Cond.fieldLink RX3 50 "AmbiguityAnalyzer$Automaton" "finals" "I" ∈ wsX3_bitOfSet := by decide +kernel
set_option maxRecDepth 100000 in
set_option maxHeartbeats 4000000 in
theorem tX3_bitOfSet {Z : am_Z} (R : am_R) (I : am_I) (L : am_L) (a0 : Nat) (a1 : Nat) (x2 : Int32) (h_a0 : am_G Z a0 = some (.inl 3)) (h_a1 : am_G Z a1 = some (.inl 0)) : am_M Z yX3_bitOfSet kX3_bitOfSet [.ref (am_B Z + a0), .ref (am_B Z + a1), .int x2] R I L (pX3_bitOfSet R I L a0 a1 x2) (fun r : Int64 × am_I × am_L => (some (.long r.1), R, r.2.1, r.2.2)) := by
  refine am_entry (ls := [(0, .ref (am_B Z + a0)), (1, .ref (am_B Z + a1)), (2, .int x2)]) (by decide) hX3_bitOfSet rfl (Nat.le_of_ble_eq_true rfl) rfl (fun X => ?_)
  unfold pX3_bitOfSet
  refine am_aload_n dX3_bitOfSet_0 rfl 0 rfl ?_
  refine am_iload_n dX3_bitOfSet_1 rfl 2 rfl ?_
  refine am_iload_n dX3_bitOfSet_2 rfl 2 rfl ?_
  refine am_aload_n dX3_bitOfSet_3 rfl 1 rfl ?_
  refine am_get 0 2 clX0 (Nat.le_of_ble_eq_true rfl) h_a1 iX3_bitOfSet_0 fX3_bitOfSet_50 rfl dX3_bitOfSet_4 ?_
  refine am_iand dX3_bitOfSet_7 ?_
  refine am_letJ (fun k2 ek2 => ?_)
  have hk2 : ∀ v1 : Int32, am_V Z X kX3_bitOfSet (fun r : Int64 × am_I × am_L => (some (.long r.1), R, r.2.1, r.2.2)) 16 [] [.int v1, .int x2, .ref (am_B Z + a0)] R I L (k2 v1) := by
    subst ek2
    intro v1
    show am_V Z X kX3_bitOfSet (fun r : Int64 × am_I × am_L => (some (.long r.1), R, r.2.1, r.2.2)) 16 [] [.int v1, .int x2, .ref (am_B Z + a0)] R I L _
    refine am_callV [.int x2, .int v1] (tX3_bitOf R I L a0 x2 v1 h_a0) h_a0 clX3 gX3_bitOfSet_X3_bitOf hX3_bitOf rfl ⟨Nat.le_of_ble_eq_true rfl, Nat.le_of_ble_eq_true rfl⟩ rfl rfl (Nat.le_of_ble_eq_true rfl) dX3_bitOfSet_16 (fun r3 => ?_)
    show am_V Z X kX3_bitOfSet (fun r : Int64 × am_I × am_L => (some (.long r.1), R, r.2.1, r.2.2)) 19 [] [.long r3.1] R r3.2.1 r3.2.2 _
    exact am_lret dX3_bitOfSet_19 rfl rfl
  refine am_if_eqL (tgt := 15) dX3_bitOfSet_8 rfl (fun e4 => ?_) (fun e4 => ?_)
  · refine am_iconst (v := 0) dX3_bitOfSet_15 (by decide) ?_
    refine am_sub (ls' := []) [] rfl ?_
    exact hk2 _
  · refine am_iconst (v := 1) dX3_bitOfSet_11 (by decide) ?_
    refine am_goto (tgt := 16) dX3_bitOfSet_12 rfl ?_
    refine am_sub (ls' := []) [] rfl ?_
    exact hk2 _
