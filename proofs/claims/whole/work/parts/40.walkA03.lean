abbrev kX3_makeSubsets : am_K := (cX3_makeSubsets, 6, RX3, wsX3_makeSubsets, some .boolean, { frames := 2, cells := 0, slots := 0, locals := 44 })
theorem hX3_makeSubsets : am_cl yX3_makeSubsets kX3_makeSubsets 2 := ⟨⟨_, rfl⟩, rfl, rfl, by decide +kernel, by decide +kernel, by decide +kernel⟩
theorem iX3_makeSubsets_0 : ∀ w ∈ u_ws RX0 TX0 4, w ∈ wsX3_makeSubsets := by decide +kernel
theorem fX3_makeSubsets_36 : Cond.fieldLink RX3 36 "AmbiguityAnalyzer$Automaton" "initials" "I" ∈ wsX3_makeSubsets := by decide +kernel
theorem iX3_makeSubsets_3 : ∀ w ∈ u_ws RX3 TX3 6, w ∈ wsX3_makeSubsets := by decide +kernel
theorem fX3_makeSubsets_26 : Cond.fieldLink RX3 26 "AmbiguityAnalyzer$Result" "initials" "J" ∈ wsX3_makeSubsets := by decide +kernel
theorem fX3_makeSubsets_22 : Cond.fieldLink RX3 22 "AmbiguityAnalyzer$Result" "count" "I" ∈ wsX3_makeSubsets := by decide +kernel
theorem fX3_makeSubsets_15 : Cond.fieldLink RX3 15 "AmbiguityAnalyzer$Result" "codes" "[I" ∈ wsX3_makeSubsets := by decide +kernel
theorem fX3_makeSubsets_9 : Cond.fieldLink RX3 9 "AmbiguityAnalyzer$Result" "targets" "[J" ∈ wsX3_makeSubsets := by decide +kernel
set_option maxRecDepth 100000 in
set_option maxHeartbeats 4000000 in
theorem vX3_makeSubsets_43 {Z : am_Z} {X : am_X} (R : am_R) (a0 : Nat) (a1 : Nat) (a2 : Nat) (v8 : Int32) (h17 : am_G Z a0 = some (.inl 3)) (h18 : am_G Z a1 = some (.inl 0)) (h19 : am_G Z a2 = some (.inl 6)) (j14 : am_I → am_L → Option (Int32 × am_I × am_L)) (hj14 : ∀ (J15 : am_I) (J16 : am_L), am_V Z X kX3_makeSubsets (fun r : Int32 × am_I × am_L => (some (.int r.1), R, r.2.1, r.2.2)) 92 [(0, .ref (am_B Z + a0)), (1, .ref (am_B Z + a1)), (2, .ref (am_B Z + a2)), (3, .int v8)] [] R J15 J16 (j14 J15 J16)) (ih23 : Int32 → am_I → am_L → Option (Int32 × am_I × am_L)) (hih23 : ∀ (v20 : Int32) (J21 : am_I) (J22 : am_L), am_V Z X kX3_makeSubsets (fun r : Int32 × am_I × am_L => (some (.int r.1), R, r.2.1, r.2.2)) 43 [(0, .ref (am_B Z + a0)), (1, .ref (am_B Z + a1)), (2, .ref (am_B Z + a2)), (3, .int v8), (4, .int v20)] [] R J21 J22 (ih23 v20 J21 J22)) (v20 : Int32) (J21 : am_I) (J22 : am_L) : am_V Z X kX3_makeSubsets (fun r : Int32 × am_I × am_L => (some (.int r.1), R, r.2.1, r.2.2)) 43 [(0, .ref (am_B Z + a0)), (1, .ref (am_B Z + a1)), (2, .ref (am_B Z + a2)), (3, .int v8), (4, .int v20)] [] R J21 J22 (sX3_makeSubsets_43 R a0 a1 a2 v8 j14 ih23 v20 J21 J22) := by
  unfold sX3_makeSubsets_43
  refine am_iload dX3_makeSubsets_43 4 rfl ?_
  refine am_iconst (v := 3) dX3_makeSubsets_45 (by decide) ?_
  refine am_icmp_ge (tgt := 92) dX3_makeSubsets_46 rfl (fun e24 => ?_) (fun e24 => ?_)
  · refine am_sub (ls' := [(0, .ref (am_B Z + a0)), (1, .ref (am_B Z + a1)), (2, .ref (am_B Z + a2)), (3, .int v8)]) [0, 1, 2, 3] rfl ?_
    exact hj14 J21 J22
  · refine am_aload_n dX3_makeSubsets_49 rfl 2 rfl ?_
    refine am_aload_n dX3_makeSubsets_50 rfl 0 rfl ?_
    refine am_getR 3 4 clX3 (Nat.le_of_ble_eq_true rfl) h17 iX3_makeSubsets_3 fX3_makeSubsets_15 rfl rfl dX3_makeSubsets_51 (fun h25 => ?_)
    refine am_iload_n dX3_makeSubsets_54 rfl 3 rfl ?_
    refine am_iald h25 dX3_makeSubsets_55 ?_
    refine am_iload dX3_makeSubsets_56 4 rfl ?_
    refine am_callV [.int (J21 (R a0 4) (Int32.toNatClampNeg v8)), .int v20] (tX6_reachedOnce R J21 J22 a2 (J21 (R a0 4) (Int32.toNatClampNeg v8)) v20 h19) h19 clX6 gX3_makeSubsets_X6_reachedOnce hX6_reachedOnce rfl ⟨Nat.le_of_ble_eq_true rfl, Nat.le_of_ble_eq_true rfl⟩ rfl rfl (Nat.le_of_ble_eq_true rfl) dX3_makeSubsets_58 (fun r26 => ?_)
    show am_V Z X kX3_makeSubsets (fun r : Int32 × am_I × am_L => (some (.int r.1), R, r.2.1, r.2.2)) 61 [(0, .ref (am_B Z + a0)), (1, .ref (am_B Z + a1)), (2, .ref (am_B Z + a2)), (3, .int v8), (4, .int v20)] [.int r26] R J21 J22 _
    refine am_istore (ls' := [(5, .int r26), (0, .ref (am_B Z + a0)), (1, .ref (am_B Z + a1)), (2, .ref (am_B Z + a2)), (3, .int v8), (4, .int v20)]) dX3_makeSubsets_61 (Nat.le_of_ble_eq_true rfl) rfl ?_
    refine am_iload dX3_makeSubsets_63 0 rfl ?_
    refine am_jnV (fun j27 ej27 => ?_)
    have hj27 : ∀ (J28 : am_I) (J29 : am_L), am_V Z X kX3_makeSubsets (fun r : Int32 × am_I × am_L => (some (.int r.1), R, r.2.1, r.2.2)) 86 [(0, .ref (am_B Z + a0)), (1, .ref (am_B Z + a1)), (2, .ref (am_B Z + a2)), (3, .int v8), (4, .int v20)] [] R J28 J29 (j27 J28 J29) := by
      subst ej27
      intro J28 J29
      show am_V Z X kX3_makeSubsets (fun r : Int32 × am_I × am_L => (some (.int r.1), R, r.2.1, r.2.2)) 86 [(0, .ref (am_B Z + a0)), (1, .ref (am_B Z + a1)), (2, .ref (am_B Z + a2)), (3, .int v8), (4, .int v20)] [] R J28 J29 _
      refine am_iinc (j := 4) (ls' := [(4, .int (v20 + (1 : Int32))), (0, .ref (am_B Z + a0)), (1, .ref (am_B Z + a1)), (2, .ref (am_B Z + a2)), (3, .int v8)]) dX3_makeSubsets_86 rfl rfl (Nat.le_of_ble_eq_true rfl) rfl ?_
      refine am_goto (tgt := 43) dX3_makeSubsets_89 rfl ?_
      refine am_sub (ls' := [(0, .ref (am_B Z + a0)), (1, .ref (am_B Z + a1)), (2, .ref (am_B Z + a2)), (3, .int v8), (4, .int (v20 + (1 : Int32)))]) [1, 2, 3, 4, 0] rfl ?_
      exact hih23 (v20 + (1 : Int32)) J28 J29
    refine am_if_eq (tgt := 86) dX3_makeSubsets_65 rfl (fun e30 => ?_) (fun e30 => ?_)
    · refine am_sub (ls' := [(0, .ref (am_B Z + a0)), (1, .ref (am_B Z + a1)), (2, .ref (am_B Z + a2)), (3, .int v8), (4, .int v20)]) [1, 2, 3, 4, 5] rfl ?_
      exact hj27 J21 J22
    · refine am_aload_n dX3_makeSubsets_68 rfl 1 rfl ?_
      refine am_getR 3 3 clX3 (Nat.le_of_ble_eq_true rfl) h17 iX3_makeSubsets_3 fX3_makeSubsets_9 rfl rfl dX3_makeSubsets_69 (fun h31 => ?_)
      refine am_iload_n dX3_makeSubsets_72 rfl 4 rfl ?_
      refine am_iconst (v := 3) dX3_makeSubsets_73 (by decide) ?_
      refine am_imul dX3_makeSubsets_74 ?_
      refine am_iload dX3_makeSubsets_75 5 rfl ?_
      refine am_iadd dX3_makeSubsets_77 ?_
      refine am_aload_n dX3_makeSubsets_78 rfl 1 rfl ?_
      refine am_aload_n dX3_makeSubsets_79 rfl 2 rfl ?_
      refine am_iload dX3_makeSubsets_80 0 rfl ?_
      refine am_callV [.ref (am_B Z + a1), .int r26] (tX3_bitOfSet R J21 J22 a0 a1 r26 h17 h18) h17 clX3 gX3_makeSubsets_X3_bitOfSet hX3_bitOfSet rfl ⟨Nat.le_of_ble_eq_true rfl, Nat.le_of_ble_eq_true rfl⟩ rfl rfl (Nat.le_of_ble_eq_true rfl) dX3_makeSubsets_82 (fun r32 => ?_)
      show am_V Z X kX3_makeSubsets (fun r : Int32 × am_I × am_L => (some (.int r.1), R, r.2.1, r.2.2)) 85 [(5, .int r26), (0, .ref (am_B Z + a0)), (1, .ref (am_B Z + a1)), (2, .ref (am_B Z + a2)), (3, .int v8), (4, .int v20)] [.long r32.1, .int ((v8 * (3 : Int32)) + v20), .ref (am_B Z + (R a0 3))] R r32.2.1 r32.2.2 _
      refine am_last h31 dX3_makeSubsets_85 ?_
      refine am_letL (fun J33 => ?_)
      refine am_sub (ls' := [(0, .ref (am_B Z + a0)), (1, .ref (am_B Z + a1)), (2, .ref (am_B Z + a2)), (3, .int v8), (4, .int v20)]) [1, 2, 3, 4, 5] rfl ?_
      exact hj27 r32.2.1 J33
theorem uX3_makeSubsets_43 {Z : am_Z} {X : am_X} (R : am_R) (a0 : Nat) (a1 : Nat) (a2 : Nat) (v8 : Int32) (h17 : am_G Z a0 = some (.inl 3)) (h18 : am_G Z a1 = some (.inl 0)) (h19 : am_G Z a2 = some (.inl 6)) (j14 : am_I → am_L → Option (Int32 × am_I × am_L)) (hj14 : ∀ (J15 : am_I) (J16 : am_L), am_V Z X kX3_makeSubsets (fun r : Int32 × am_I × am_L => (some (.int r.1), R, r.2.1, r.2.2)) 92 [(0, .ref (am_B Z + a0)), (1, .ref (am_B Z + a1)), (2, .ref (am_B Z + a2)), (3, .int v8)] [] R J15 J16 (j14 J15 J16)) : ∀ (n : Nat) (v20 : Int32) (J21 : am_I) (J22 : am_L), am_V Z X kX3_makeSubsets (fun r : Int32 × am_I × am_L => (some (.int r.1), R, r.2.1, r.2.2)) 43 [(0, .ref (am_B Z + a0)), (1, .ref (am_B Z + a1)), (2, .ref (am_B Z + a2)), (3, .int v8), (4, .int v20)] [] R J21 J22 (lX3_makeSubsets_43 R a0 a1 a2 v8 j14 n v20 J21 J22) := by
  intro n
  induction n with
  | zero => intro _ _ _; exact am_none
  | succ n ih => exact fun v20 J21 J22 => vX3_makeSubsets_43 R a0 a1 a2 v8 h17 h18 h19 j14 hj14 (lX3_makeSubsets_43 R a0 a1 a2 v8 j14 n) ih v20 J21 J22
set_option maxRecDepth 100000 in
set_option maxHeartbeats 4000000 in
theorem vX3_makeSubsets_26 {Z : am_Z} {X : am_X} (R : am_R) (a0 : Nat) (a1 : Nat) (a2 : Nat) (h5 : am_G Z a0 = some (.inl 3)) (h6 : am_G Z a1 = some (.inl 0)) (h7 : am_G Z a2 = some (.inl 6)) (ih11 : Int32 → am_I → am_L → Option (Int32 × am_I × am_L)) (hih11 : ∀ (v8 : Int32) (J9 : am_I) (J10 : am_L), am_V Z X kX3_makeSubsets (fun r : Int32 × am_I × am_L => (some (.int r.1), R, r.2.1, r.2.2)) 26 [(0, .ref (am_B Z + a0)), (1, .ref (am_B Z + a1)), (2, .ref (am_B Z + a2)), (3, .int v8)] [] R J9 J10 (ih11 v8 J9 J10)) (v8 : Int32) (J9 : am_I) (J10 : am_L) : am_V Z X kX3_makeSubsets (fun r : Int32 × am_I × am_L => (some (.int r.1), R, r.2.1, r.2.2)) 26 [(0, .ref (am_B Z + a0)), (1, .ref (am_B Z + a1)), (2, .ref (am_B Z + a2)), (3, .int v8)] [] R J9 J10 (sX3_makeSubsets_26 R a0 a1 a2 ih11 v8 J9 J10) := by
  unfold sX3_makeSubsets_26
  refine am_iload_n dX3_makeSubsets_26 rfl 3 rfl ?_
  refine am_aload_n dX3_makeSubsets_27 rfl 0 rfl ?_
  refine am_get 3 0 clX3 (Nat.le_of_ble_eq_true rfl) h5 iX3_makeSubsets_3 fX3_makeSubsets_22 rfl dX3_makeSubsets_28 ?_
  refine am_icmp_ge (tgt := 98) dX3_makeSubsets_31 rfl (fun e12 => ?_) (fun e12 => ?_)
  · refine am_iconst (v := 1) dX3_makeSubsets_98 (by decide) ?_
    exact am_zret (by decide) dX3_makeSubsets_99 rfl rfl
  · refine am_iload_n dX3_makeSubsets_34 rfl 3 rfl ?_
    refine am_bipush (v := 64) dX3_makeSubsets_35 (by decide) ?_
    refine am_icmp_ge (tgt := 98) dX3_makeSubsets_37 rfl (fun e13 => ?_) (fun e13 => ?_)
    · refine am_iconst (v := 1) dX3_makeSubsets_98 (by decide) ?_
      exact am_zret (by decide) dX3_makeSubsets_99 rfl rfl
    · refine am_iconst (v := 0) dX3_makeSubsets_40 (by decide) ?_
      refine am_istore (ls' := [(4, .int (0 : Int32)), (0, .ref (am_B Z + a0)), (1, .ref (am_B Z + a1)), (2, .ref (am_B Z + a2)), (3, .int v8)]) dX3_makeSubsets_41 (Nat.le_of_ble_eq_true rfl) rfl ?_
      refine am_jnV (fun j14 ej14 => ?_)
      have hj14 : ∀ (J15 : am_I) (J16 : am_L), am_V Z X kX3_makeSubsets (fun r : Int32 × am_I × am_L => (some (.int r.1), R, r.2.1, r.2.2)) 92 [(0, .ref (am_B Z + a0)), (1, .ref (am_B Z + a1)), (2, .ref (am_B Z + a2)), (3, .int v8)] [] R J15 J16 (j14 J15 J16) := by
        subst ej14
        intro J15 J16
        show am_V Z X kX3_makeSubsets (fun r : Int32 × am_I × am_L => (some (.int r.1), R, r.2.1, r.2.2)) 92 [(0, .ref (am_B Z + a0)), (1, .ref (am_B Z + a1)), (2, .ref (am_B Z + a2)), (3, .int v8)] [] R J15 J16 _
        refine am_iinc (j := 3) (ls' := [(3, .int (v8 + (1 : Int32))), (0, .ref (am_B Z + a0)), (1, .ref (am_B Z + a1)), (2, .ref (am_B Z + a2))]) dX3_makeSubsets_92 rfl rfl (Nat.le_of_ble_eq_true rfl) rfl ?_
        refine am_goto (tgt := 26) dX3_makeSubsets_95 rfl ?_
        refine am_sub (ls' := [(0, .ref (am_B Z + a0)), (1, .ref (am_B Z + a1)), (2, .ref (am_B Z + a2)), (3, .int (v8 + (1 : Int32)))]) [1, 2, 3, 0] rfl ?_
        exact hih11 (v8 + (1 : Int32)) J15 J16
      refine am_sub (ls' := [(0, .ref (am_B Z + a0)), (1, .ref (am_B Z + a1)), (2, .ref (am_B Z + a2)), (3, .int v8), (4, .int (0 : Int32))]) [1, 2, 3, 4, 0] rfl ?_
      exact uX3_makeSubsets_43 R a0 a1 a2 v8 h5 h6 h7 j14 hj14 am_fu (0 : Int32) J9 J10
theorem uX3_makeSubsets_26 {Z : am_Z} {X : am_X} (R : am_R) (a0 : Nat) (a1 : Nat) (a2 : Nat) (h5 : am_G Z a0 = some (.inl 3)) (h6 : am_G Z a1 = some (.inl 0)) (h7 : am_G Z a2 = some (.inl 6)) : ∀ (n : Nat) (v8 : Int32) (J9 : am_I) (J10 : am_L), am_V Z X kX3_makeSubsets (fun r : Int32 × am_I × am_L => (some (.int r.1), R, r.2.1, r.2.2)) 26 [(0, .ref (am_B Z + a0)), (1, .ref (am_B Z + a1)), (2, .ref (am_B Z + a2)), (3, .int v8)] [] R J9 J10 (lX3_makeSubsets_26 R a0 a1 a2 n v8 J9 J10) := by
  intro n
  induction n with
  | zero => intro _ _ _; exact am_none
  | succ n ih => exact fun v8 J9 J10 => vX3_makeSubsets_26 R a0 a1 a2 h5 h6 h7 (lX3_makeSubsets_26 R a0 a1 a2 n) ih v8 J9 J10
set_option maxRecDepth 100000 in
set_option maxHeartbeats 4000000 in
theorem tX3_makeSubsets {Z : am_Z} (R : am_R) (I : am_I) (L : am_L) (a0 : Nat) (a1 : Nat) (a2 : Nat) (h_a0 : am_G Z a0 = some (.inl 3)) (h_a1 : am_G Z a1 = some (.inl 0)) (h_a2 : am_G Z a2 = some (.inl 6)) : am_M Z yX3_makeSubsets kX3_makeSubsets [.ref (am_B Z + a0), .ref (am_B Z + a1), .ref (am_B Z + a2)] R I L (pX3_makeSubsets R I L a0 a1 a2) (fun r : Int32 × am_I × am_L => (some (.int r.1), R, r.2.1, r.2.2)) := by
  refine am_entry (ls := [(0, .ref (am_B Z + a0)), (1, .ref (am_B Z + a1)), (2, .ref (am_B Z + a2))]) (by decide) hX3_makeSubsets rfl (Nat.le_of_ble_eq_true rfl) rfl (fun X => ?_)
  unfold pX3_makeSubsets
  refine am_aload_n dX3_makeSubsets_0 rfl 0 rfl ?_
  refine am_callV [] (tX3_makeEmpty R I L a0 h_a0) h_a0 clX3 gX3_makeSubsets_X3_makeEmpty hX3_makeEmpty rfl ⟨Nat.le_of_ble_eq_true rfl, Nat.le_of_ble_eq_true rfl⟩ rfl rfl (Nat.le_of_ble_eq_true rfl) dX3_makeSubsets_1 (fun r1 => ?_)
  show am_V Z X kX3_makeSubsets (fun r : Int32 × am_I × am_L => (some (.int r.1), R, r.2.1, r.2.2)) 4 [(0, .ref (am_B Z + a0)), (1, .ref (am_B Z + a1)), (2, .ref (am_B Z + a2))] [] R r1.1 r1.2 _
  refine am_aload_n dX3_makeSubsets_4 rfl 1 rfl ?_
  refine am_get 0 1 clX0 (Nat.le_of_ble_eq_true rfl) h_a1 iX3_makeSubsets_0 fX3_makeSubsets_36 rfl dX3_makeSubsets_5 ?_
  refine am_jnV (fun j2 ej2 => ?_)
  have hj2 : ∀ (J3 : am_I) (J4 : am_L), am_V Z X kX3_makeSubsets (fun r : Int32 × am_I × am_L => (some (.int r.1), R, r.2.1, r.2.2)) 24 [(0, .ref (am_B Z + a0)), (1, .ref (am_B Z + a1)), (2, .ref (am_B Z + a2))] [] R J3 J4 (j2 J3 J4) := by
    subst ej2
    intro J3 J4
    show am_V Z X kX3_makeSubsets (fun r : Int32 × am_I × am_L => (some (.int r.1), R, r.2.1, r.2.2)) 24 [(0, .ref (am_B Z + a0)), (1, .ref (am_B Z + a1)), (2, .ref (am_B Z + a2))] [] R J3 J4 _
    refine am_iconst (v := 0) dX3_makeSubsets_24 (by decide) ?_
    refine am_istore_n (ls' := [(3, .int (0 : Int32)), (0, .ref (am_B Z + a0)), (1, .ref (am_B Z + a1)), (2, .ref (am_B Z + a2))]) dX3_makeSubsets_25 rfl (Nat.le_of_ble_eq_true rfl) rfl ?_
    refine am_sub (ls' := [(0, .ref (am_B Z + a0)), (1, .ref (am_B Z + a1)), (2, .ref (am_B Z + a2)), (3, .int (0 : Int32))]) [1, 2, 3, 0] rfl ?_
    exact uX3_makeSubsets_26 R a0 a1 a2 h_a0 h_a1 h_a2 am_fu (0 : Int32) J3 J4
  refine am_if_eq (tgt := 24) dX3_makeSubsets_8 rfl (fun e34 => ?_) (fun e34 => ?_)
  · exact hj2 r1.1 r1.2
  · refine am_aload_n dX3_makeSubsets_11 rfl 0 rfl ?_
    refine am_aload_n dX3_makeSubsets_12 rfl 0 rfl ?_
    refine am_aload_n dX3_makeSubsets_13 rfl 1 rfl ?_
    refine am_aload_n dX3_makeSubsets_14 rfl 1 rfl ?_
    refine am_get 0 1 clX0 (Nat.le_of_ble_eq_true rfl) h_a1 iX3_makeSubsets_0 fX3_makeSubsets_36 rfl dX3_makeSubsets_15 ?_
    refine am_callV [.ref (am_B Z + a1), .int (r1.1 a1 1)] (tX3_bitOfSet R r1.1 r1.2 a0 a1 (r1.1 a1 1) h_a0 h_a1) h_a0 clX3 gX3_makeSubsets_X3_bitOfSet hX3_bitOfSet rfl ⟨Nat.le_of_ble_eq_true rfl, Nat.le_of_ble_eq_true rfl⟩ rfl rfl (Nat.le_of_ble_eq_true rfl) dX3_makeSubsets_18 (fun r35 => ?_)
    show am_V Z X kX3_makeSubsets (fun r : Int32 × am_I × am_L => (some (.int r.1), R, r.2.1, r.2.2)) 21 [(0, .ref (am_B Z + a0)), (1, .ref (am_B Z + a1)), (2, .ref (am_B Z + a2))] [.long r35.1, .ref (am_B Z + a0)] R r35.2.1 r35.2.2 _
    refine am_putL 3 1 clX3 (Nat.le_of_ble_eq_true rfl) h_a0 iX3_makeSubsets_3 fX3_makeSubsets_26 rfl rfl dX3_makeSubsets_21 ?_
    refine am_letL (fun J36 => ?_)
    exact hj2 r35.2.1 J36
abbrev kX3_below : am_K := (cX3_below, 2, RX3, wsX3_below, some .int, { frames := 0, cells := 0, slots := 0, locals := 0 })
theorem hX3_below : am_cl yX3_below kX3_below 2 := ⟨⟨_, rfl⟩, rfl, rfl, by decide +kernel, by decide +kernel, by decide +kernel⟩
set_option maxRecDepth 100000 in
set_option maxHeartbeats 4000000 in
theorem tX3_below {Z : am_Z} (R : am_R) (I : am_I) (L : am_L) (x0 : Int32) (x1 : Int32)  : am_M Z yX3_below kX3_below [.int x0, .int x1] R I L (pX3_below x0 x1) (fun r : Int32 => (some (.int r), R, I, L)) := by
  refine am_entry (ls := [(0, .int x0), (1, .int x1)]) (by decide) hX3_below rfl (Nat.le_of_ble_eq_true rfl) rfl (fun X => ?_)
  unfold pX3_below
  refine am_iload_n dX3_below_0 rfl 0 rfl ?_
  refine am_iconst (v := 1) dX3_below_1 (by decide) ?_
  refine am_iload_n dX3_below_2 rfl 1 rfl ?_
  refine am_ishl dX3_below_3 ?_
  refine am_iconst (v := 1) dX3_below_4 (by decide) ?_
  refine am_isub dX3_below_5 ?_
  refine am_iand dX3_below_6 ?_
  exact am_iret dX3_below_7 rfl rfl
abbrev kX3_bitOfPair : am_K := (cX3_bitOfPair, 5, RX3, wsX3_bitOfPair, some .long, { frames := 1, cells := 0, slots := 0, locals := 22 })
theorem hX3_bitOfPair : am_cl yX3_bitOfPair kX3_bitOfPair 3 := ⟨⟨_, rfl⟩, rfl, rfl, by decide +kernel, by decide +kernel, by decide +kernel⟩
theorem iX3_bitOfPair_0 : ∀ w ∈ u_ws RX0 TX0 4, w ∈ wsX3_bitOfPair := by decide +kernel
theorem fX3_bitOfPair_50 : Cond.fieldLink RX3 50 "AmbiguityAnalyzer$Automaton" "finals" "I" ∈ wsX3_bitOfPair := by decide +kernel
set_option maxRecDepth 100000 in
set_option maxHeartbeats 4000000 in
theorem tX3_bitOfPair {Z : am_Z} (R : am_R) (I : am_I) (L : am_L) (a0 : Nat) (a1 : Nat) (x2 : Int32) (x3 : Int32) (h_a0 : am_G Z a0 = some (.inl 3)) (h_a1 : am_G Z a1 = some (.inl 0)) : am_M Z yX3_bitOfPair kX3_bitOfPair [.ref (am_B Z + a0), .ref (am_B Z + a1), .int x2, .int x3] R I L (pX3_bitOfPair R I L a0 a1 x2 x3) (fun r : Int64 × am_I × am_L => (some (.long r.1), R, r.2.1, r.2.2)) := by
  refine am_entry (ls := [(0, .ref (am_B Z + a0)), (1, .ref (am_B Z + a1)), (2, .int x2), (3, .int x3)]) (by decide) hX3_bitOfPair rfl (Nat.le_of_ble_eq_true rfl) rfl (fun X => ?_)
  unfold pX3_bitOfPair
  refine am_aload_n dX3_bitOfPair_0 rfl 1 rfl ?_
  refine am_get 0 2 clX0 (Nat.le_of_ble_eq_true rfl) h_a1 iX3_bitOfPair_0 fX3_bitOfPair_50 rfl dX3_bitOfPair_1 ?_
  refine am_iload_n dX3_bitOfPair_4 rfl 2 rfl ?_
  refine am_callN (host := RX10) [.int (I a1 2), .int x2] (tX10_contains R I L (I a1 2) x2) gX3_bitOfPair_X10_contains_n59 (by decide +kernel) (by decide +kernel) (by decide +kernel) hX10_contains ⟨Nat.le_of_ble_eq_true rfl, Nat.le_of_ble_eq_true rfl⟩ rfl rfl (Nat.le_of_ble_eq_true rfl) dX3_bitOfPair_5 (fun r1 => ?_)
  show am_V Z X kX3_bitOfPair (fun r : Int64 × am_I × am_L => (some (.long r.1), R, r.2.1, r.2.2)) 8 [(0, .ref (am_B Z + a0)), (1, .ref (am_B Z + a1)), (2, .int x2), (3, .int x3)] [.int r1] R I L _
  refine am_letJ (fun k3 ek3 => ?_)
  have hk3 : ∀ v2 : Int32, am_V Z X kX3_bitOfPair (fun r : Int64 × am_I × am_L => (some (.long r.1), R, r.2.1, r.2.2)) 25 [(0, .ref (am_B Z + a0)), (2, .int x2), (3, .int x3)] [.int v2] R I L (k3 v2) := by
    subst ek3
    intro v2
    show am_V Z X kX3_bitOfPair (fun r : Int64 × am_I × am_L => (some (.long r.1), R, r.2.1, r.2.2)) 25 [(0, .ref (am_B Z + a0)), (2, .int x2), (3, .int x3)] [.int v2] R I L _
    refine am_istore (ls' := [(4, .int v2), (0, .ref (am_B Z + a0)), (2, .int x2), (3, .int x3)]) dX3_bitOfPair_25 (Nat.le_of_ble_eq_true rfl) rfl ?_
    refine am_aload_n dX3_bitOfPair_27 rfl 1 rfl ?_
    refine am_iload_n dX3_bitOfPair_28 rfl 2 rfl ?_
    refine am_bipush (v := 64) dX3_bitOfPair_29 (by decide) ?_
    refine am_imul dX3_bitOfPair_31 ?_
    refine am_iload_n dX3_bitOfPair_32 rfl 3 rfl ?_
    refine am_iadd dX3_bitOfPair_33 ?_
    refine am_iload dX3_bitOfPair_34 0 rfl ?_
    refine am_callV [.int ((x2 * (64 : Int32)) + x3), .int v2] (tX3_bitOf R I L a0 ((x2 * (64 : Int32)) + x3) v2 h_a0) h_a0 clX3 gX3_bitOfPair_X3_bitOf hX3_bitOf rfl ⟨Nat.le_of_ble_eq_true rfl, Nat.le_of_ble_eq_true rfl⟩ rfl rfl (Nat.le_of_ble_eq_true rfl) dX3_bitOfPair_36 (fun r4 => ?_)
    show am_V Z X kX3_bitOfPair (fun r : Int64 × am_I × am_L => (some (.long r.1), R, r.2.1, r.2.2)) 39 [(4, .int v2), (0, .ref (am_B Z + a0)), (2, .int x2), (3, .int x3)] [.long r4.1] R r4.2.1 r4.2.2 _
    exact am_lret dX3_bitOfPair_39 rfl rfl
  refine am_if_eqL (tgt := 24) dX3_bitOfPair_8 rfl (fun e5 => ?_) (fun e5 => ?_)
  · refine am_iconst (v := 0) dX3_bitOfPair_24 (by decide) ?_
    refine am_sub (ls' := [(0, .ref (am_B Z + a0)), (2, .int x2), (3, .int x3)]) [0, 2, 3] rfl ?_
    exact hk3 _
  · refine am_iload_n dX3_bitOfPair_11 rfl 3 rfl ?_
    refine am_aload_n dX3_bitOfPair_12 rfl 1 rfl ?_
    refine am_get 0 2 clX0 (Nat.le_of_ble_eq_true rfl) h_a1 iX3_bitOfPair_0 fX3_bitOfPair_50 rfl dX3_bitOfPair_13 ?_
    refine am_iand dX3_bitOfPair_16 ?_
    refine am_if_neL (tgt := 24) dX3_bitOfPair_17 rfl (fun e6 => ?_) (fun e6 => ?_)
    · refine am_iconst (v := 0) dX3_bitOfPair_24 (by decide) ?_
      refine am_sub (ls' := [(0, .ref (am_B Z + a0)), (2, .int x2), (3, .int x3)]) [0, 2, 3] rfl ?_
      exact hk3 _
    · refine am_iconst (v := 1) dX3_bitOfPair_20 (by decide) ?_
      refine am_goto (tgt := 25) dX3_bitOfPair_21 rfl ?_
      refine am_sub (ls' := [(0, .ref (am_B Z + a0)), (2, .int x2), (3, .int x3)]) [0, 2, 3] rfl ?_
      exact hk3 _
abbrev kX3_addPairsAfter : am_K := (cX3_addPairsAfter, 13, RX3, wsX3_addPairsAfter, some .boolean, { frames := 2, cells := 0, slots := 0, locals := 46 })
theorem hX3_addPairsAfter : am_cl yX3_addPairsAfter kX3_addPairsAfter 4 := ⟨⟨_, rfl⟩, rfl, rfl, by decide +kernel, by decide +kernel, by decide +kernel⟩
theorem iX3_addPairsAfter_3 : ∀ w ∈ u_ws RX3 TX3 6, w ∈ wsX3_addPairsAfter := by decide +kernel
theorem fX3_addPairsAfter_15 : Cond.fieldLink RX3 15 "AmbiguityAnalyzer$Result" "codes" "[I" ∈ wsX3_addPairsAfter := by decide +kernel
theorem fX3_addPairsAfter_9 : Cond.fieldLink RX3 9 "AmbiguityAnalyzer$Result" "targets" "[J" ∈ wsX3_addPairsAfter := by decide +kernel
set_option maxRecDepth 100000 in
set_option maxHeartbeats 4000000 in
theorem vX3_addPairsAfter_54 {Z : am_Z} {X : am_X} (R : am_R) (a0 : Nat) (a1 : Nat) (x3 : Int32) (x4 : Int32) (r3 : Int32) (r4 : Int32) (h15 : am_G Z a0 = some (.inl 3)) (h16 : am_G Z a1 = some (.inl 0)) (j5 : Int64 → am_I → am_L → Option (Int32 × am_I × am_L)) (hj5 : ∀ (v6 : Int64) (J7 : am_I) (J8 : am_L), am_V Z X kX3_addPairsAfter (fun r : Int32 × am_I × am_L => (some (.int r.1), R, r.2.1, r.2.2)) 112 [(0, .ref (am_B Z + a0)), (3, .int x3), (4, .int x4), (8, .long v6)] [] R J7 J8 (j5 v6 J7 J8)) (ih21 : Int64 → Int32 → am_I → am_L → Option (Int32 × am_I × am_L)) (hih21 : ∀ (v17 : Int64) (v18 : Int32) (J19 : am_I) (J20 : am_L), am_V Z X kX3_addPairsAfter (fun r : Int32 × am_I × am_L => (some (.int r.1), R, r.2.1, r.2.2)) 54 [(0, .ref (am_B Z + a0)), (1, .ref (am_B Z + a1)), (3, .int x3), (4, .int x4), (6, .int r3), (7, .int r4), (8, .long v17), (10, .int v18)] [] R J19 J20 (ih21 v17 v18 J19 J20)) (v17 : Int64) (v18 : Int32) (J19 : am_I) (J20 : am_L) : am_V Z X kX3_addPairsAfter (fun r : Int32 × am_I × am_L => (some (.int r.1), R, r.2.1, r.2.2)) 54 [(0, .ref (am_B Z + a0)), (1, .ref (am_B Z + a1)), (3, .int x3), (4, .int x4), (6, .int r3), (7, .int r4), (8, .long v17), (10, .int v18)] [] R J19 J20 (sX3_addPairsAfter_54 R a0 a1 x3 x4 r3 r4 j5 ih21 v17 v18 J19 J20) := by
  unfold sX3_addPairsAfter_54
  refine am_iload dX3_addPairsAfter_54 7 rfl ?_
  refine am_bipush (v := 6) dX3_addPairsAfter_56 (by decide) ?_
  refine am_icmp_ge (tgt := 112) dX3_addPairsAfter_58 rfl (fun e22 => ?_) (fun e22 => ?_)
  · refine am_sub (ls' := [(0, .ref (am_B Z + a0)), (3, .int x3), (4, .int x4), (8, .long v17)]) [0, 2, 3, 6] rfl ?_
    exact hj5 v17 J19 J20
  · refine am_iload dX3_addPairsAfter_61 4 rfl ?_
    refine am_iload dX3_addPairsAfter_63 7 rfl ?_
    refine am_callN (host := RX10) [.int r3, .int v18] (tX10_contains R J19 J20 r3 v18) gX3_addPairsAfter_X10_contains_n59 (by decide +kernel) (by decide +kernel) (by decide +kernel) hX10_contains ⟨Nat.le_of_ble_eq_true rfl, Nat.le_of_ble_eq_true rfl⟩ rfl rfl (Nat.le_of_ble_eq_true rfl) dX3_addPairsAfter_65 (fun r23 => ?_)
    show am_V Z X kX3_addPairsAfter (fun r : Int32 × am_I × am_L => (some (.int r.1), R, r.2.1, r.2.2)) 68 [(0, .ref (am_B Z + a0)), (1, .ref (am_B Z + a1)), (3, .int x3), (4, .int x4), (6, .int r3), (7, .int r4), (8, .long v17), (10, .int v18)] [.int r23] R J19 J20 _
    refine am_jnV (fun j24 ej24 => ?_)
    have hj24 : ∀ (v25 : Int64) (J26 : am_I) (J27 : am_L), am_V Z X kX3_addPairsAfter (fun r : Int32 × am_I × am_L => (some (.int r.1), R, r.2.1, r.2.2)) 106 [(0, .ref (am_B Z + a0)), (1, .ref (am_B Z + a1)), (3, .int x3), (4, .int x4), (6, .int r3), (7, .int r4), (8, .long v25), (10, .int v18)] [] R J26 J27 (j24 v25 J26 J27) := by
      subst ej24
      intro v25 J26 J27
      show am_V Z X kX3_addPairsAfter (fun r : Int32 × am_I × am_L => (some (.int r.1), R, r.2.1, r.2.2)) 106 [(0, .ref (am_B Z + a0)), (1, .ref (am_B Z + a1)), (3, .int x3), (4, .int x4), (6, .int r3), (7, .int r4), (8, .long v25), (10, .int v18)] [] R J26 J27 _
      refine am_iinc (j := 7) (ls' := [(10, .int (v18 + (1 : Int32))), (0, .ref (am_B Z + a0)), (1, .ref (am_B Z + a1)), (3, .int x3), (4, .int x4), (6, .int r3), (7, .int r4), (8, .long v25)]) dX3_addPairsAfter_106 rfl rfl (Nat.le_of_ble_eq_true rfl) rfl ?_
      refine am_goto (tgt := 54) dX3_addPairsAfter_109 rfl ?_
      refine am_sub (ls' := [(0, .ref (am_B Z + a0)), (1, .ref (am_B Z + a1)), (3, .int x3), (4, .int x4), (6, .int r3), (7, .int r4), (8, .long v25), (10, .int (v18 + (1 : Int32)))]) [1, 2, 3, 4, 5, 6, 7, 0] rfl ?_
      exact hih21 v25 (v18 + (1 : Int32)) J26 J27
    refine am_if_eq (tgt := 106) dX3_addPairsAfter_68 rfl (fun e28 => ?_) (fun e28 => ?_)
    · exact hj24 v17 J19 J20
    · refine am_aload_n dX3_addPairsAfter_71 rfl 0 rfl ?_
      refine am_aload_n dX3_addPairsAfter_72 rfl 1 rfl ?_
      refine am_iload dX3_addPairsAfter_73 7 rfl ?_
      refine am_iload dX3_addPairsAfter_75 5 rfl ?_
      refine am_iload dX3_addPairsAfter_77 4 rfl ?_
      refine am_iload dX3_addPairsAfter_79 7 rfl ?_
      refine am_callS [.int r3, .int v18] (tX3_below R J19 J20 r3 v18) gX3_addPairsAfter_X3_below hX3_below ⟨Nat.le_of_ble_eq_true rfl, Nat.le_of_ble_eq_true rfl⟩ rfl rfl (Nat.le_of_ble_eq_true rfl) dX3_addPairsAfter_81 (fun r29 => ?_)
      show am_V Z X kX3_addPairsAfter (fun r : Int32 × am_I × am_L => (some (.int r.1), R, r.2.1, r.2.2)) 84 [(0, .ref (am_B Z + a0)), (1, .ref (am_B Z + a1)), (3, .int x3), (4, .int x4), (6, .int r3), (7, .int r4), (8, .long v17), (10, .int v18)] [.int r29, .int r4, .int v18, .ref (am_B Z + a1), .ref (am_B Z + a0)] R J19 J20 _
      refine am_ior dX3_addPairsAfter_84 ?_
      refine am_callV [.ref (am_B Z + a1), .int v18, .int (r4 ||| r29)] (tX3_bitOfPair R J19 J20 a0 a1 v18 (r4 ||| r29) h15 h16) h15 clX3 gX3_addPairsAfter_X3_bitOfPair hX3_bitOfPair rfl ⟨Nat.le_of_ble_eq_true rfl, Nat.le_of_ble_eq_true rfl⟩ rfl rfl (Nat.le_of_ble_eq_true rfl) dX3_addPairsAfter_85 (fun r30 => ?_)
      show am_V Z X kX3_addPairsAfter (fun r : Int32 × am_I × am_L => (some (.int r.1), R, r.2.1, r.2.2)) 88 [(0, .ref (am_B Z + a0)), (1, .ref (am_B Z + a1)), (3, .int x3), (4, .int x4), (6, .int r3), (7, .int r4), (8, .long v17), (10, .int v18)] [.long r30.1] R r30.2.1 r30.2.2 _
      refine am_lstore (ls' := [(11, .long r30.1), (0, .ref (am_B Z + a0)), (1, .ref (am_B Z + a1)), (3, .int x3), (4, .int x4), (6, .int r3), (7, .int r4), (8, .long v17), (10, .int v18)]) dX3_addPairsAfter_88 (Nat.le_of_ble_eq_true rfl) rfl ?_
      refine am_lload dX3_addPairsAfter_90 0 rfl ?_
      refine am_lconst (v := 0) dX3_addPairsAfter_92 (by decide) ?_
      refine am_lcmp dX3_addPairsAfter_93 ?_
      refine am_if_ne (tgt := 99) dX3_addPairsAfter_94 rfl (fun e31 => ?_) (fun e31 => ?_)
      · refine am_lload dX3_addPairsAfter_99 7 rfl ?_
        refine am_lload dX3_addPairsAfter_101 0 rfl ?_
        refine am_lor dX3_addPairsAfter_103 ?_
        refine am_letTl (fun v32 => ?_)
        refine am_lstore (ls' := [(8, .long v32), (11, .long r30.1), (0, .ref (am_B Z + a0)), (1, .ref (am_B Z + a1)), (3, .int x3), (4, .int x4), (6, .int r3), (7, .int r4), (10, .int v18)]) dX3_addPairsAfter_104 (Nat.le_of_ble_eq_true rfl) rfl ?_
        refine am_sub (ls' := [(0, .ref (am_B Z + a0)), (1, .ref (am_B Z + a1)), (3, .int x3), (4, .int x4), (6, .int r3), (7, .int r4), (8, .long v32), (10, .int v18)]) [2, 3, 4, 5, 6, 7, 0, 8] rfl ?_
        exact hj24 v32 r30.2.1 r30.2.2
      · refine am_iconst (v := 0) dX3_addPairsAfter_97 (by decide) ?_
        exact am_zret (by decide) dX3_addPairsAfter_98 rfl rfl
theorem uX3_addPairsAfter_54 {Z : am_Z} {X : am_X} (R : am_R) (a0 : Nat) (a1 : Nat) (x3 : Int32) (x4 : Int32) (r3 : Int32) (r4 : Int32) (h15 : am_G Z a0 = some (.inl 3)) (h16 : am_G Z a1 = some (.inl 0)) (j5 : Int64 → am_I → am_L → Option (Int32 × am_I × am_L)) (hj5 : ∀ (v6 : Int64) (J7 : am_I) (J8 : am_L), am_V Z X kX3_addPairsAfter (fun r : Int32 × am_I × am_L => (some (.int r.1), R, r.2.1, r.2.2)) 112 [(0, .ref (am_B Z + a0)), (3, .int x3), (4, .int x4), (8, .long v6)] [] R J7 J8 (j5 v6 J7 J8)) : ∀ (n : Nat) (v17 : Int64) (v18 : Int32) (J19 : am_I) (J20 : am_L), am_V Z X kX3_addPairsAfter (fun r : Int32 × am_I × am_L => (some (.int r.1), R, r.2.1, r.2.2)) 54 [(0, .ref (am_B Z + a0)), (1, .ref (am_B Z + a1)), (3, .int x3), (4, .int x4), (6, .int r3), (7, .int r4), (8, .long v17), (10, .int v18)] [] R J19 J20 (lX3_addPairsAfter_54 R a0 a1 x3 x4 r3 r4 j5 n v17 v18 J19 J20) := by
  intro n
  induction n with
  | zero => intro _ _ _ _; exact am_none
  | succ n ih => exact fun v17 v18 J19 J20 => vX3_addPairsAfter_54 R a0 a1 x3 x4 r3 r4 h15 h16 j5 hj5 (lX3_addPairsAfter_54 R a0 a1 x3 x4 r3 r4 j5 n) ih v17 v18 J19 J20
set_option maxRecDepth 100000 in
set_option maxHeartbeats 4000000 in
theorem tX3_addPairsAfter {Z : am_Z} (R : am_R) (I : am_I) (L : am_L) (a0 : Nat) (a1 : Nat) (a2 : Nat) (x3 : Int32) (x4 : Int32) (h_a0 : am_G Z a0 = some (.inl 3)) (h_a1 : am_G Z a1 = some (.inl 0)) (h_a2 : am_G Z a2 = some (.inl 6)) : am_M Z yX3_addPairsAfter kX3_addPairsAfter [.ref (am_B Z + a0), .ref (am_B Z + a1), .ref (am_B Z + a2), .int x3, .int x4] R I L (pX3_addPairsAfter R I L a0 a1 a2 x3 x4) (fun r : Int32 × am_I × am_L => (some (.int r.1), R, r.2.1, r.2.2)) := by
  refine am_entry (ls := [(0, .ref (am_B Z + a0)), (1, .ref (am_B Z + a1)), (2, .ref (am_B Z + a2)), (3, .int x3), (4, .int x4)]) (by decide) hX3_addPairsAfter rfl (Nat.le_of_ble_eq_true rfl) rfl (fun X => ?_)
  unfold pX3_addPairsAfter
  refine am_iload_n dX3_addPairsAfter_0 rfl 3 rfl ?_
  refine am_jnV (fun j1 ej1 => ?_)
  have hj1 : ∀ (v2 : Int32), am_V Z X kX3_addPairsAfter (fun r : Int32 × am_I × am_L => (some (.int r.1), R, r.2.1, r.2.2)) 20 [(0, .ref (am_B Z + a0)), (1, .ref (am_B Z + a1)), (2, .ref (am_B Z + a2)), (3, .int x3), (4, .int x4)] [.int v2] R I L (j1 v2) := by
    subst ej1
    intro v2
    show am_V Z X kX3_addPairsAfter (fun r : Int32 × am_I × am_L => (some (.int r.1), R, r.2.1, r.2.2)) 20 [(0, .ref (am_B Z + a0)), (1, .ref (am_B Z + a1)), (2, .ref (am_B Z + a2)), (3, .int x3), (4, .int x4)] [.int v2] R I L _
    refine am_istore (ls' := [(5, .int v2), (0, .ref (am_B Z + a0)), (1, .ref (am_B Z + a1)), (2, .ref (am_B Z + a2)), (3, .int x3), (4, .int x4)]) dX3_addPairsAfter_20 (Nat.le_of_ble_eq_true rfl) rfl ?_
    refine am_aload_n dX3_addPairsAfter_22 rfl 2 rfl ?_
    refine am_iload dX3_addPairsAfter_23 0 rfl ?_
    refine am_bipush (v := 64) dX3_addPairsAfter_25 (by decide) ?_
    refine am_idivC dX3_addPairsAfter_27 (by decide) ?_
    refine am_iload dX3_addPairsAfter_28 5 rfl ?_
    refine am_callV [.int (v2 / (64 : Int32)), .int x4] (tX0_targetsOf R I L a1 (v2 / (64 : Int32)) x4 h_a1) h_a1 clX0 gX3_addPairsAfter_X0_targetsOf hX0_targetsOf rfl ⟨Nat.le_of_ble_eq_true rfl, Nat.le_of_ble_eq_true rfl⟩ rfl rfl (Nat.le_of_ble_eq_true rfl) dX3_addPairsAfter_30 (fun r3 => ?_)
    show am_V Z X kX3_addPairsAfter (fun r : Int32 × am_I × am_L => (some (.int r.1), R, r.2.1, r.2.2)) 33 [(5, .int v2), (0, .ref (am_B Z + a0)), (1, .ref (am_B Z + a1)), (2, .ref (am_B Z + a2)), (3, .int x3), (4, .int x4)] [.int r3] R I L _
    refine am_istore (ls' := [(6, .int r3), (5, .int v2), (0, .ref (am_B Z + a0)), (1, .ref (am_B Z + a1)), (2, .ref (am_B Z + a2)), (3, .int x3), (4, .int x4)]) dX3_addPairsAfter_33 (Nat.le_of_ble_eq_true rfl) rfl ?_
    refine am_aload_n dX3_addPairsAfter_35 rfl 4 rfl ?_
    refine am_iload dX3_addPairsAfter_36 1 rfl ?_
    refine am_bipush (v := 64) dX3_addPairsAfter_38 (by decide) ?_
    refine am_iremC dX3_addPairsAfter_40 (by decide) ?_
    refine am_iload dX3_addPairsAfter_41 6 rfl ?_
    refine am_callV [.int (v2 - v2 / (64 : Int32) * (64 : Int32)), .int x4] (tX6_reachedOnce R I L a2 (v2 - v2 / (64 : Int32) * (64 : Int32)) x4 h_a2) h_a2 clX6 gX3_addPairsAfter_X6_reachedOnce hX6_reachedOnce rfl ⟨Nat.le_of_ble_eq_true rfl, Nat.le_of_ble_eq_true rfl⟩ rfl rfl (Nat.le_of_ble_eq_true rfl) dX3_addPairsAfter_43 (fun r4 => ?_)
    show am_V Z X kX3_addPairsAfter (fun r : Int32 × am_I × am_L => (some (.int r.1), R, r.2.1, r.2.2)) 46 [(6, .int r3), (5, .int v2), (0, .ref (am_B Z + a0)), (1, .ref (am_B Z + a1)), (2, .ref (am_B Z + a2)), (3, .int x3), (4, .int x4)] [.int r4] R I L _
    refine am_istore (ls' := [(7, .int r4), (6, .int r3), (5, .int v2), (0, .ref (am_B Z + a0)), (1, .ref (am_B Z + a1)), (2, .ref (am_B Z + a2)), (3, .int x3), (4, .int x4)]) dX3_addPairsAfter_46 (Nat.le_of_ble_eq_true rfl) rfl ?_
    refine am_lconst (v := 0) dX3_addPairsAfter_48 (by decide) ?_
    refine am_lstore (ls' := [(8, .long (0 : Int64)), (7, .int r4), (6, .int r3), (5, .int v2), (0, .ref (am_B Z + a0)), (1, .ref (am_B Z + a1)), (2, .ref (am_B Z + a2)), (3, .int x3), (4, .int x4)]) dX3_addPairsAfter_49 (Nat.le_of_ble_eq_true rfl) rfl ?_
    refine am_iconst (v := 0) dX3_addPairsAfter_51 (by decide) ?_
    refine am_istore (ls' := [(10, .int (0 : Int32)), (8, .long (0 : Int64)), (7, .int r4), (6, .int r3), (5, .int v2), (0, .ref (am_B Z + a0)), (1, .ref (am_B Z + a1)), (2, .ref (am_B Z + a2)), (3, .int x3), (4, .int x4)]) dX3_addPairsAfter_52 (Nat.le_of_ble_eq_true rfl) rfl ?_
    refine am_jnV (fun j5 ej5 => ?_)
    have hj5 : ∀ (v6 : Int64) (J7 : am_I) (J8 : am_L), am_V Z X kX3_addPairsAfter (fun r : Int32 × am_I × am_L => (some (.int r.1), R, r.2.1, r.2.2)) 112 [(0, .ref (am_B Z + a0)), (3, .int x3), (4, .int x4), (8, .long v6)] [] R J7 J8 (j5 v6 J7 J8) := by
      subst ej5
      intro v6 J7 J8
      show am_V Z X kX3_addPairsAfter (fun r : Int32 × am_I × am_L => (some (.int r.1), R, r.2.1, r.2.2)) 112 [(0, .ref (am_B Z + a0)), (3, .int x3), (4, .int x4), (8, .long v6)] [] R J7 J8 _
      refine am_iload_n dX3_addPairsAfter_112 rfl 1 rfl ?_
      refine am_iconst (v := 3) dX3_addPairsAfter_113 (by decide) ?_
      refine am_imul dX3_addPairsAfter_114 ?_
      refine am_iload dX3_addPairsAfter_115 2 rfl ?_
      refine am_iadd dX3_addPairsAfter_117 ?_
      refine am_letTi (fun v9 => ?_)
      refine am_istore (ls' := [(10, .int v9), (0, .ref (am_B Z + a0)), (3, .int x3), (4, .int x4), (8, .long v6)]) dX3_addPairsAfter_118 (Nat.le_of_ble_eq_true rfl) rfl ?_
      refine am_iload dX3_addPairsAfter_120 0 rfl ?_
      refine am_if_lt (tgt := 144) dX3_addPairsAfter_122 rfl (fun e10 => ?_) (fun e10 => ?_)
      · refine am_iconst (v := 1) dX3_addPairsAfter_144 (by decide) ?_
        exact am_zret (by decide) dX3_addPairsAfter_145 rfl rfl
      · refine am_iload dX3_addPairsAfter_125 0 rfl ?_
        refine am_aload_n dX3_addPairsAfter_127 rfl 1 rfl ?_
        refine am_getR 3 3 clX3 (Nat.le_of_ble_eq_true rfl) h_a0 iX3_addPairsAfter_3 fX3_addPairsAfter_9 rfl rfl dX3_addPairsAfter_128 (fun h11 => ?_)
        refine am_alen (t := 1) (v := 192) rfl h11 (by decide) dX3_addPairsAfter_131 ?_
        refine am_icmp_ge (tgt := 144) dX3_addPairsAfter_132 rfl (fun e12 => ?_) (fun e12 => ?_)
        · refine am_iconst (v := 1) dX3_addPairsAfter_144 (by decide) ?_
          exact am_zret (by decide) dX3_addPairsAfter_145 rfl rfl
        · refine am_aload_n dX3_addPairsAfter_135 rfl 1 rfl ?_
          refine am_getR 3 3 clX3 (Nat.le_of_ble_eq_true rfl) h_a0 iX3_addPairsAfter_3 fX3_addPairsAfter_9 rfl rfl dX3_addPairsAfter_136 (fun h13 => ?_)
          refine am_iload dX3_addPairsAfter_139 0 rfl ?_
          refine am_lload dX3_addPairsAfter_141 4 rfl ?_
          refine am_last h13 dX3_addPairsAfter_143 ?_
          refine am_letL (fun J14 => ?_)
          refine am_iconst (v := 1) dX3_addPairsAfter_144 (by decide) ?_
          exact am_zret (by decide) dX3_addPairsAfter_145 rfl rfl
    refine am_sub (ls' := [(0, .ref (am_B Z + a0)), (1, .ref (am_B Z + a1)), (3, .int x3), (4, .int x4), (6, .int r3), (7, .int r4), (8, .long (0 : Int64)), (10, .int (0 : Int32))]) [5, 6, 8, 9, 3, 2, 1, 0] rfl ?_
    exact uX3_addPairsAfter_54 R a0 a1 x3 x4 r3 r4 h_a0 h_a1 j5 hj5 am_fu (0 : Int64) (0 : Int32) I L
  refine am_jnV (fun j33 ej33 => ?_)
  have hj33 : am_V Z X kX3_addPairsAfter (fun r : Int32 × am_I × am_L => (some (.int r.1), R, r.2.1, r.2.2)) 19 [(0, .ref (am_B Z + a0)), (1, .ref (am_B Z + a1)), (2, .ref (am_B Z + a2)), (3, .int x3), (4, .int x4)] [] R I L j33 := by
    subst ej33
    show am_V Z X kX3_addPairsAfter (fun r : Int32 × am_I × am_L => (some (.int r.1), R, r.2.1, r.2.2)) 19 [(0, .ref (am_B Z + a0)), (1, .ref (am_B Z + a1)), (2, .ref (am_B Z + a2)), (3, .int x3), (4, .int x4)] [] R I L _
    refine am_iconst (v := 0) dX3_addPairsAfter_19 (by decide) ?_
    exact hj1 (0 : Int32)
  refine am_if_lt (tgt := 19) dX3_addPairsAfter_1 rfl (fun e34 => ?_) (fun e34 => ?_)
  · exact hj33
  · refine am_iload_n dX3_addPairsAfter_4 rfl 3 rfl ?_
    refine am_bipush (v := 64) dX3_addPairsAfter_5 (by decide) ?_
    refine am_icmp_ge (tgt := 19) dX3_addPairsAfter_7 rfl (fun e35 => ?_) (fun e35 => ?_)
    · exact hj33
    · refine am_aload_n dX3_addPairsAfter_10 rfl 0 rfl ?_
      refine am_getR 3 4 clX3 (Nat.le_of_ble_eq_true rfl) h_a0 iX3_addPairsAfter_3 fX3_addPairsAfter_15 rfl rfl dX3_addPairsAfter_11 (fun h36 => ?_)
      refine am_iload_n dX3_addPairsAfter_14 rfl 3 rfl ?_
      refine am_iald h36 dX3_addPairsAfter_15 ?_
      refine am_goto (tgt := 20) dX3_addPairsAfter_16 rfl ?_
      exact hj1 (I (R a0 4) (Int32.toNatClampNeg x3))
abbrev kX3_makeLeastPaths : am_K := (cX3_makeLeastPaths, 5, RX3, wsX3_makeLeastPaths, some .boolean, { frames := 3, cells := 0, slots := 0, locals := 78 })
theorem hX3_makeLeastPaths : am_cl yX3_makeLeastPaths kX3_makeLeastPaths 2 := ⟨⟨_, rfl⟩, rfl, rfl, by decide +kernel, by decide +kernel, by decide +kernel⟩
theorem iX3_makeLeastPaths_0 : ∀ w ∈ u_ws RX0 TX0 4, w ∈ wsX3_makeLeastPaths := by decide +kernel
theorem fX3_makeLeastPaths_56 : Cond.fieldLink RX3 56 "AmbiguityAnalyzer$Automaton" "states" "I" ∈ wsX3_makeLeastPaths := by decide +kernel
theorem fX3_makeLeastPaths_36 : Cond.fieldLink RX3 36 "AmbiguityAnalyzer$Automaton" "initials" "I" ∈ wsX3_makeLeastPaths := by decide +kernel
theorem iX3_makeLeastPaths_3 : ∀ w ∈ u_ws RX3 TX3 6, w ∈ wsX3_makeLeastPaths := by decide +kernel
theorem fX3_makeLeastPaths_26 : Cond.fieldLink RX3 26 "AmbiguityAnalyzer$Result" "initials" "J" ∈ wsX3_makeLeastPaths := by decide +kernel
theorem fX3_makeLeastPaths_22 : Cond.fieldLink RX3 22 "AmbiguityAnalyzer$Result" "count" "I" ∈ wsX3_makeLeastPaths := by decide +kernel
set_option maxRecDepth 100000 in
set_option maxHeartbeats 4000000 in
theorem vX3_makeLeastPaths_73 {Z : am_Z} {X : am_X} (R : am_R) (a0 : Nat) (a1 : Nat) (a2 : Nat) (v8 : Int32) (h17 : am_G Z a0 = some (.inl 3)) (h18 : am_G Z a1 = some (.inl 0)) (h19 : am_G Z a2 = some (.inl 6)) (j14 : am_I → am_L → Option (Int32 × am_I × am_L)) (hj14 : ∀ (J15 : am_I) (J16 : am_L), am_V Z X kX3_makeLeastPaths (fun r : Int32 × am_I × am_L => (some (.int r.1), R, r.2.1, r.2.2)) 99 [(0, .ref (am_B Z + a0)), (1, .ref (am_B Z + a1)), (2, .ref (am_B Z + a2)), (3, .int v8)] [] R J15 J16 (j14 J15 J16)) (ih23 : Int32 → am_I → am_L → Option (Int32 × am_I × am_L)) (hih23 : ∀ (v20 : Int32) (J21 : am_I) (J22 : am_L), am_V Z X kX3_makeLeastPaths (fun r : Int32 × am_I × am_L => (some (.int r.1), R, r.2.1, r.2.2)) 73 [(0, .ref (am_B Z + a0)), (1, .ref (am_B Z + a1)), (2, .ref (am_B Z + a2)), (3, .int v8), (4, .int v20)] [] R J21 J22 (ih23 v20 J21 J22)) (v20 : Int32) (J21 : am_I) (J22 : am_L) : am_V Z X kX3_makeLeastPaths (fun r : Int32 × am_I × am_L => (some (.int r.1), R, r.2.1, r.2.2)) 73 [(0, .ref (am_B Z + a0)), (1, .ref (am_B Z + a1)), (2, .ref (am_B Z + a2)), (3, .int v8), (4, .int v20)] [] R J21 J22 (sX3_makeLeastPaths_73 R a0 a1 a2 v8 j14 ih23 v20 J21 J22) := by
  unfold sX3_makeLeastPaths_73
  refine am_iload dX3_makeLeastPaths_73 4 rfl ?_
  refine am_iconst (v := 3) dX3_makeLeastPaths_75 (by decide) ?_
  refine am_icmp_ge (tgt := 99) dX3_makeLeastPaths_76 rfl (fun e24 => ?_) (fun e24 => ?_)
  · refine am_sub (ls' := [(0, .ref (am_B Z + a0)), (1, .ref (am_B Z + a1)), (2, .ref (am_B Z + a2)), (3, .int v8)]) [0, 1, 2, 3] rfl ?_
    exact hj14 J21 J22
  · refine am_aload_n dX3_makeLeastPaths_79 rfl 0 rfl ?_
    refine am_aload_n dX3_makeLeastPaths_80 rfl 1 rfl ?_
    refine am_aload_n dX3_makeLeastPaths_81 rfl 2 rfl ?_
    refine am_iload_n dX3_makeLeastPaths_82 rfl 3 rfl ?_
    refine am_iload dX3_makeLeastPaths_83 4 rfl ?_
    refine am_callV [.ref (am_B Z + a1), .ref (am_B Z + a2), .int v8, .int v20] (tX3_addPairsAfter R J21 J22 a0 a1 a2 v8 v20 h17 h18 h19) h17 clX3 gX3_makeLeastPaths_X3_addPairsAfter hX3_addPairsAfter rfl ⟨Nat.le_of_ble_eq_true rfl, Nat.le_of_ble_eq_true rfl⟩ rfl rfl (Nat.le_of_ble_eq_true rfl) dX3_makeLeastPaths_85 (fun r25 => ?_)
    show am_V Z X kX3_makeLeastPaths (fun r : Int32 × am_I × am_L => (some (.int r.1), R, r.2.1, r.2.2)) 88 [(0, .ref (am_B Z + a0)), (1, .ref (am_B Z + a1)), (2, .ref (am_B Z + a2)), (3, .int v8), (4, .int v20)] [.int r25.1] R r25.2.1 r25.2.2 _
    refine am_if_ne (tgt := 93) dX3_makeLeastPaths_88 rfl (fun e26 => ?_) (fun e26 => ?_)
    · refine am_iinc (j := 4) (ls' := [(4, .int (v20 + (1 : Int32))), (0, .ref (am_B Z + a0)), (1, .ref (am_B Z + a1)), (2, .ref (am_B Z + a2)), (3, .int v8)]) dX3_makeLeastPaths_93 rfl rfl (Nat.le_of_ble_eq_true rfl) rfl ?_
      refine am_goto (tgt := 73) dX3_makeLeastPaths_96 rfl ?_
      refine am_sub (ls' := [(0, .ref (am_B Z + a0)), (1, .ref (am_B Z + a1)), (2, .ref (am_B Z + a2)), (3, .int v8), (4, .int (v20 + (1 : Int32)))]) [1, 2, 3, 4, 0] rfl ?_
      exact hih23 (v20 + (1 : Int32)) r25.2.1 r25.2.2
    · refine am_iconst (v := 0) dX3_makeLeastPaths_91 (by decide) ?_
      exact am_zret (by decide) dX3_makeLeastPaths_92 rfl rfl
theorem uX3_makeLeastPaths_73 {Z : am_Z} {X : am_X} (R : am_R) (a0 : Nat) (a1 : Nat) (a2 : Nat) (v8 : Int32) (h17 : am_G Z a0 = some (.inl 3)) (h18 : am_G Z a1 = some (.inl 0)) (h19 : am_G Z a2 = some (.inl 6)) (j14 : am_I → am_L → Option (Int32 × am_I × am_L)) (hj14 : ∀ (J15 : am_I) (J16 : am_L), am_V Z X kX3_makeLeastPaths (fun r : Int32 × am_I × am_L => (some (.int r.1), R, r.2.1, r.2.2)) 99 [(0, .ref (am_B Z + a0)), (1, .ref (am_B Z + a1)), (2, .ref (am_B Z + a2)), (3, .int v8)] [] R J15 J16 (j14 J15 J16)) : ∀ (n : Nat) (v20 : Int32) (J21 : am_I) (J22 : am_L), am_V Z X kX3_makeLeastPaths (fun r : Int32 × am_I × am_L => (some (.int r.1), R, r.2.1, r.2.2)) 73 [(0, .ref (am_B Z + a0)), (1, .ref (am_B Z + a1)), (2, .ref (am_B Z + a2)), (3, .int v8), (4, .int v20)] [] R J21 J22 (lX3_makeLeastPaths_73 R a0 a1 a2 v8 j14 n v20 J21 J22) := by
  intro n
  induction n with
  | zero => intro _ _ _; exact am_none
  | succ n ih => exact fun v20 J21 J22 => vX3_makeLeastPaths_73 R a0 a1 a2 v8 h17 h18 h19 j14 hj14 (lX3_makeLeastPaths_73 R a0 a1 a2 v8 j14 n) ih v20 J21 J22
set_option maxRecDepth 100000 in
set_option maxHeartbeats 4000000 in
theorem vX3_makeLeastPaths_56 {Z : am_Z} {X : am_X} (R : am_R) (a0 : Nat) (a1 : Nat) (a2 : Nat) (h5 : am_G Z a0 = some (.inl 3)) (h6 : am_G Z a1 = some (.inl 0)) (h7 : am_G Z a2 = some (.inl 6)) (ih11 : Int32 → am_I → am_L → Option (Int32 × am_I × am_L)) (hih11 : ∀ (v8 : Int32) (J9 : am_I) (J10 : am_L), am_V Z X kX3_makeLeastPaths (fun r : Int32 × am_I × am_L => (some (.int r.1), R, r.2.1, r.2.2)) 56 [(0, .ref (am_B Z + a0)), (1, .ref (am_B Z + a1)), (2, .ref (am_B Z + a2)), (3, .int v8)] [] R J9 J10 (ih11 v8 J9 J10)) (v8 : Int32) (J9 : am_I) (J10 : am_L) : am_V Z X kX3_makeLeastPaths (fun r : Int32 × am_I × am_L => (some (.int r.1), R, r.2.1, r.2.2)) 56 [(0, .ref (am_B Z + a0)), (1, .ref (am_B Z + a1)), (2, .ref (am_B Z + a2)), (3, .int v8)] [] R J9 J10 (sX3_makeLeastPaths_56 R a0 a1 a2 ih11 v8 J9 J10) := by
  unfold sX3_makeLeastPaths_56
  refine am_iload_n dX3_makeLeastPaths_56 rfl 3 rfl ?_
  refine am_aload_n dX3_makeLeastPaths_57 rfl 0 rfl ?_
  refine am_get 3 0 clX3 (Nat.le_of_ble_eq_true rfl) h5 iX3_makeLeastPaths_3 fX3_makeLeastPaths_22 rfl dX3_makeLeastPaths_58 ?_
  refine am_icmp_ge (tgt := 105) dX3_makeLeastPaths_61 rfl (fun e12 => ?_) (fun e12 => ?_)
  · refine am_iconst (v := 1) dX3_makeLeastPaths_105 (by decide) ?_
    exact am_zret (by decide) dX3_makeLeastPaths_106 rfl rfl
  · refine am_iload_n dX3_makeLeastPaths_64 rfl 3 rfl ?_
    refine am_bipush (v := 64) dX3_makeLeastPaths_65 (by decide) ?_
    refine am_icmp_ge (tgt := 105) dX3_makeLeastPaths_67 rfl (fun e13 => ?_) (fun e13 => ?_)
    · refine am_iconst (v := 1) dX3_makeLeastPaths_105 (by decide) ?_
      exact am_zret (by decide) dX3_makeLeastPaths_106 rfl rfl
    · refine am_iconst (v := 0) dX3_makeLeastPaths_70 (by decide) ?_
      refine am_istore (ls' := [(4, .int (0 : Int32)), (0, .ref (am_B Z + a0)), (1, .ref (am_B Z + a1)), (2, .ref (am_B Z + a2)), (3, .int v8)]) dX3_makeLeastPaths_71 (Nat.le_of_ble_eq_true rfl) rfl ?_
      refine am_jnV (fun j14 ej14 => ?_)
      have hj14 : ∀ (J15 : am_I) (J16 : am_L), am_V Z X kX3_makeLeastPaths (fun r : Int32 × am_I × am_L => (some (.int r.1), R, r.2.1, r.2.2)) 99 [(0, .ref (am_B Z + a0)), (1, .ref (am_B Z + a1)), (2, .ref (am_B Z + a2)), (3, .int v8)] [] R J15 J16 (j14 J15 J16) := by
        subst ej14
        intro J15 J16
        show am_V Z X kX3_makeLeastPaths (fun r : Int32 × am_I × am_L => (some (.int r.1), R, r.2.1, r.2.2)) 99 [(0, .ref (am_B Z + a0)), (1, .ref (am_B Z + a1)), (2, .ref (am_B Z + a2)), (3, .int v8)] [] R J15 J16 _
        refine am_iinc (j := 3) (ls' := [(3, .int (v8 + (1 : Int32))), (0, .ref (am_B Z + a0)), (1, .ref (am_B Z + a1)), (2, .ref (am_B Z + a2))]) dX3_makeLeastPaths_99 rfl rfl (Nat.le_of_ble_eq_true rfl) rfl ?_
        refine am_goto (tgt := 56) dX3_makeLeastPaths_102 rfl ?_
        refine am_sub (ls' := [(0, .ref (am_B Z + a0)), (1, .ref (am_B Z + a1)), (2, .ref (am_B Z + a2)), (3, .int (v8 + (1 : Int32)))]) [1, 2, 3, 0] rfl ?_
        exact hih11 (v8 + (1 : Int32)) J15 J16
      refine am_sub (ls' := [(0, .ref (am_B Z + a0)), (1, .ref (am_B Z + a1)), (2, .ref (am_B Z + a2)), (3, .int v8), (4, .int (0 : Int32))]) [1, 2, 3, 4, 0] rfl ?_
      exact uX3_makeLeastPaths_73 R a0 a1 a2 v8 h5 h6 h7 j14 hj14 am_fu (0 : Int32) J9 J10
theorem uX3_makeLeastPaths_56 {Z : am_Z} {X : am_X} (R : am_R) (a0 : Nat) (a1 : Nat) (a2 : Nat) (h5 : am_G Z a0 = some (.inl 3)) (h6 : am_G Z a1 = some (.inl 0)) (h7 : am_G Z a2 = some (.inl 6)) : ∀ (n : Nat) (v8 : Int32) (J9 : am_I) (J10 : am_L), am_V Z X kX3_makeLeastPaths (fun r : Int32 × am_I × am_L => (some (.int r.1), R, r.2.1, r.2.2)) 56 [(0, .ref (am_B Z + a0)), (1, .ref (am_B Z + a1)), (2, .ref (am_B Z + a2)), (3, .int v8)] [] R J9 J10 (lX3_makeLeastPaths_56 R a0 a1 a2 n v8 J9 J10) := by
  intro n
  induction n with
  | zero => intro _ _ _; exact am_none
  | succ n ih => exact fun v8 J9 J10 => vX3_makeLeastPaths_56 R a0 a1 a2 h5 h6 h7 (lX3_makeLeastPaths_56 R a0 a1 a2 n) ih v8 J9 J10
set_option maxRecDepth 100000 in
set_option maxHeartbeats 4000000 in
theorem vX3_makeLeastPaths_6 {Z : am_Z} {X : am_X} (R : am_R) (a0 : Nat) (a1 : Nat) (a2 : Nat) (h27 : am_G Z a0 = some (.inl 3)) (h28 : am_G Z a1 = some (.inl 0)) (h29 : am_G Z a2 = some (.inl 6)) (j2 : am_I → am_L → Option (Int32 × am_I × am_L)) (hj2 : ∀ (J3 : am_I) (J4 : am_L), am_V Z X kX3_makeLeastPaths (fun r : Int32 × am_I × am_L => (some (.int r.1), R, r.2.1, r.2.2)) 54 [(0, .ref (am_B Z + a0)), (1, .ref (am_B Z + a1)), (2, .ref (am_B Z + a2))] [] R J3 J4 (j2 J3 J4)) (ih33 : Int32 → am_I → am_L → Option (Int32 × am_I × am_L)) (hih33 : ∀ (v30 : Int32) (J31 : am_I) (J32 : am_L), am_V Z X kX3_makeLeastPaths (fun r : Int32 × am_I × am_L => (some (.int r.1), R, r.2.1, r.2.2)) 6 [(0, .ref (am_B Z + a0)), (1, .ref (am_B Z + a1)), (2, .ref (am_B Z + a2)), (3, .int v30)] [] R J31 J32 (ih33 v30 J31 J32)) (v30 : Int32) (J31 : am_I) (J32 : am_L) : am_V Z X kX3_makeLeastPaths (fun r : Int32 × am_I × am_L => (some (.int r.1), R, r.2.1, r.2.2)) 6 [(0, .ref (am_B Z + a0)), (1, .ref (am_B Z + a1)), (2, .ref (am_B Z + a2)), (3, .int v30)] [] R J31 J32 (sX3_makeLeastPaths_6 R a0 a1 a2 j2 ih33 v30 J31 J32) := by
  unfold sX3_makeLeastPaths_6
  refine am_iload_n dX3_makeLeastPaths_6 rfl 3 rfl ?_
  refine am_aload_n dX3_makeLeastPaths_7 rfl 1 rfl ?_
  refine am_get 0 0 clX0 (Nat.le_of_ble_eq_true rfl) h28 iX3_makeLeastPaths_0 fX3_makeLeastPaths_56 rfl dX3_makeLeastPaths_8 ?_
  refine am_icmp_ge (tgt := 54) dX3_makeLeastPaths_11 rfl (fun e34 => ?_) (fun e34 => ?_)
  · refine am_sub (ls' := [(0, .ref (am_B Z + a0)), (1, .ref (am_B Z + a1)), (2, .ref (am_B Z + a2))]) [0, 1, 2] rfl ?_
    exact hj2 J31 J32
  · refine am_aload_n dX3_makeLeastPaths_14 rfl 1 rfl ?_
    refine am_get 0 1 clX0 (Nat.le_of_ble_eq_true rfl) h28 iX3_makeLeastPaths_0 fX3_makeLeastPaths_36 rfl dX3_makeLeastPaths_15 ?_
    refine am_iload_n dX3_makeLeastPaths_18 rfl 3 rfl ?_
    refine am_callN (host := RX10) [.int (J31 a1 1), .int v30] (tX10_contains R J31 J32 (J31 a1 1) v30) gX3_makeLeastPaths_X10_contains_n59 (by decide +kernel) (by decide +kernel) (by decide +kernel) hX10_contains ⟨Nat.le_of_ble_eq_true rfl, Nat.le_of_ble_eq_true rfl⟩ rfl rfl (Nat.le_of_ble_eq_true rfl) dX3_makeLeastPaths_19 (fun r35 => ?_)
    show am_V Z X kX3_makeLeastPaths (fun r : Int32 × am_I × am_L => (some (.int r.1), R, r.2.1, r.2.2)) 22 [(0, .ref (am_B Z + a0)), (1, .ref (am_B Z + a1)), (2, .ref (am_B Z + a2)), (3, .int v30)] [.int r35] R J31 J32 _
    refine am_jnV (fun j36 ej36 => ?_)
    have hj36 : ∀ (J37 : am_I) (J38 : am_L), am_V Z X kX3_makeLeastPaths (fun r : Int32 × am_I × am_L => (some (.int r.1), R, r.2.1, r.2.2)) 48 [(0, .ref (am_B Z + a0)), (1, .ref (am_B Z + a1)), (2, .ref (am_B Z + a2)), (3, .int v30)] [] R J37 J38 (j36 J37 J38) := by
      subst ej36
      intro J37 J38
      show am_V Z X kX3_makeLeastPaths (fun r : Int32 × am_I × am_L => (some (.int r.1), R, r.2.1, r.2.2)) 48 [(0, .ref (am_B Z + a0)), (1, .ref (am_B Z + a1)), (2, .ref (am_B Z + a2)), (3, .int v30)] [] R J37 J38 _
      refine am_iinc (j := 3) (ls' := [(3, .int (v30 + (1 : Int32))), (0, .ref (am_B Z + a0)), (1, .ref (am_B Z + a1)), (2, .ref (am_B Z + a2))]) dX3_makeLeastPaths_48 rfl rfl (Nat.le_of_ble_eq_true rfl) rfl ?_
      refine am_goto (tgt := 6) dX3_makeLeastPaths_51 rfl ?_
      refine am_sub (ls' := [(0, .ref (am_B Z + a0)), (1, .ref (am_B Z + a1)), (2, .ref (am_B Z + a2)), (3, .int (v30 + (1 : Int32)))]) [1, 2, 3, 0] rfl ?_
      exact hih33 (v30 + (1 : Int32)) J37 J38
    refine am_if_eq (tgt := 48) dX3_makeLeastPaths_22 rfl (fun e39 => ?_) (fun e39 => ?_)
    · exact hj36 J31 J32
    · refine am_aload_n dX3_makeLeastPaths_25 rfl 0 rfl ?_
      refine am_dup dX3_makeLeastPaths_26 rfl ?_
      refine am_get 3 1 clX3 (Nat.le_of_ble_eq_true rfl) h27 iX3_makeLeastPaths_3 fX3_makeLeastPaths_26 rfl dX3_makeLeastPaths_27 ?_
      refine am_aload_n dX3_makeLeastPaths_30 rfl 0 rfl ?_
      refine am_aload_n dX3_makeLeastPaths_31 rfl 1 rfl ?_
      refine am_iload_n dX3_makeLeastPaths_32 rfl 3 rfl ?_
      refine am_aload_n dX3_makeLeastPaths_33 rfl 1 rfl ?_
      refine am_get 0 1 clX0 (Nat.le_of_ble_eq_true rfl) h28 iX3_makeLeastPaths_0 fX3_makeLeastPaths_36 rfl dX3_makeLeastPaths_34 ?_
      refine am_iload_n dX3_makeLeastPaths_37 rfl 3 rfl ?_
      refine am_callS [.int (J31 a1 1), .int v30] (tX3_below R J31 J32 (J31 a1 1) v30) gX3_makeLeastPaths_X3_below hX3_below ⟨Nat.le_of_ble_eq_true rfl, Nat.le_of_ble_eq_true rfl⟩ rfl rfl (Nat.le_of_ble_eq_true rfl) dX3_makeLeastPaths_38 (fun r40 => ?_)
      show am_V Z X kX3_makeLeastPaths (fun r : Int32 × am_I × am_L => (some (.int r.1), R, r.2.1, r.2.2)) 41 [(0, .ref (am_B Z + a0)), (1, .ref (am_B Z + a1)), (2, .ref (am_B Z + a2)), (3, .int v30)] [.int r40, .int v30, .ref (am_B Z + a1), .ref (am_B Z + a0), .long (J32 a0 1), .ref (am_B Z + a0)] R J31 J32 _
      refine am_callV [.ref (am_B Z + a1), .int v30, .int r40] (tX3_bitOfPair R J31 J32 a0 a1 v30 r40 h27 h28) h27 clX3 gX3_makeLeastPaths_X3_bitOfPair hX3_bitOfPair rfl ⟨Nat.le_of_ble_eq_true rfl, Nat.le_of_ble_eq_true rfl⟩ rfl rfl (Nat.le_of_ble_eq_true rfl) dX3_makeLeastPaths_41 (fun r41 => ?_)
      show am_V Z X kX3_makeLeastPaths (fun r : Int32 × am_I × am_L => (some (.int r.1), R, r.2.1, r.2.2)) 44 [(0, .ref (am_B Z + a0)), (1, .ref (am_B Z + a1)), (2, .ref (am_B Z + a2)), (3, .int v30)] [.long r41.1, .long (J32 a0 1), .ref (am_B Z + a0)] R r41.2.1 r41.2.2 _
      refine am_lor dX3_makeLeastPaths_44 ?_
      refine am_putL 3 1 clX3 (Nat.le_of_ble_eq_true rfl) h27 iX3_makeLeastPaths_3 fX3_makeLeastPaths_26 rfl rfl dX3_makeLeastPaths_45 ?_
      refine am_letL (fun J42 => ?_)
      exact hj36 r41.2.1 J42
theorem uX3_makeLeastPaths_6 {Z : am_Z} {X : am_X} (R : am_R) (a0 : Nat) (a1 : Nat) (a2 : Nat) (h27 : am_G Z a0 = some (.inl 3)) (h28 : am_G Z a1 = some (.inl 0)) (h29 : am_G Z a2 = some (.inl 6)) (j2 : am_I → am_L → Option (Int32 × am_I × am_L)) (hj2 : ∀ (J3 : am_I) (J4 : am_L), am_V Z X kX3_makeLeastPaths (fun r : Int32 × am_I × am_L => (some (.int r.1), R, r.2.1, r.2.2)) 54 [(0, .ref (am_B Z + a0)), (1, .ref (am_B Z + a1)), (2, .ref (am_B Z + a2))] [] R J3 J4 (j2 J3 J4)) : ∀ (n : Nat) (v30 : Int32) (J31 : am_I) (J32 : am_L), am_V Z X kX3_makeLeastPaths (fun r : Int32 × am_I × am_L => (some (.int r.1), R, r.2.1, r.2.2)) 6 [(0, .ref (am_B Z + a0)), (1, .ref (am_B Z + a1)), (2, .ref (am_B Z + a2)), (3, .int v30)] [] R J31 J32 (lX3_makeLeastPaths_6 R a0 a1 a2 j2 n v30 J31 J32) := by
  intro n
  induction n with
  | zero => intro _ _ _; exact am_none
  | succ n ih => exact fun v30 J31 J32 => vX3_makeLeastPaths_6 R a0 a1 a2 h27 h28 h29 j2 hj2 (lX3_makeLeastPaths_6 R a0 a1 a2 j2 n) ih v30 J31 J32
set_option maxRecDepth 100000 in
set_option maxHeartbeats 4000000 in
theorem tX3_makeLeastPaths {Z : am_Z} (R : am_R) (I : am_I) (L : am_L) (a0 : Nat) (a1 : Nat) (a2 : Nat) (h_a0 : am_G Z a0 = some (.inl 3)) (h_a1 : am_G Z a1 = some (.inl 0)) (h_a2 : am_G Z a2 = some (.inl 6)) : am_M Z yX3_makeLeastPaths kX3_makeLeastPaths [.ref (am_B Z + a0), .ref (am_B Z + a1), .ref (am_B Z + a2)] R I L (pX3_makeLeastPaths R I L a0 a1 a2) (fun r : Int32 × am_I × am_L => (some (.int r.1), R, r.2.1, r.2.2)) := by
  refine am_entry (ls := [(0, .ref (am_B Z + a0)), (1, .ref (am_B Z + a1)), (2, .ref (am_B Z + a2))]) (by decide) hX3_makeLeastPaths rfl (Nat.le_of_ble_eq_true rfl) rfl (fun X => ?_)
  unfold pX3_makeLeastPaths
  refine am_aload_n dX3_makeLeastPaths_0 rfl 0 rfl ?_
  refine am_callV [] (tX3_makeEmpty R I L a0 h_a0) h_a0 clX3 gX3_makeLeastPaths_X3_makeEmpty hX3_makeEmpty rfl ⟨Nat.le_of_ble_eq_true rfl, Nat.le_of_ble_eq_true rfl⟩ rfl rfl (Nat.le_of_ble_eq_true rfl) dX3_makeLeastPaths_1 (fun r1 => ?_)
  show am_V Z X kX3_makeLeastPaths (fun r : Int32 × am_I × am_L => (some (.int r.1), R, r.2.1, r.2.2)) 4 [(0, .ref (am_B Z + a0)), (1, .ref (am_B Z + a1)), (2, .ref (am_B Z + a2))] [] R r1.1 r1.2 _
  refine am_iconst (v := 0) dX3_makeLeastPaths_4 (by decide) ?_
  refine am_istore_n (ls' := [(3, .int (0 : Int32)), (0, .ref (am_B Z + a0)), (1, .ref (am_B Z + a1)), (2, .ref (am_B Z + a2))]) dX3_makeLeastPaths_5 rfl (Nat.le_of_ble_eq_true rfl) rfl ?_
  refine am_jnV (fun j2 ej2 => ?_)
  have hj2 : ∀ (J3 : am_I) (J4 : am_L), am_V Z X kX3_makeLeastPaths (fun r : Int32 × am_I × am_L => (some (.int r.1), R, r.2.1, r.2.2)) 54 [(0, .ref (am_B Z + a0)), (1, .ref (am_B Z + a1)), (2, .ref (am_B Z + a2))] [] R J3 J4 (j2 J3 J4) := by
    subst ej2
    intro J3 J4
    show am_V Z X kX3_makeLeastPaths (fun r : Int32 × am_I × am_L => (some (.int r.1), R, r.2.1, r.2.2)) 54 [(0, .ref (am_B Z + a0)), (1, .ref (am_B Z + a1)), (2, .ref (am_B Z + a2))] [] R J3 J4 _
    refine am_iconst (v := 0) dX3_makeLeastPaths_54 (by decide) ?_
    refine am_istore_n (ls' := [(3, .int (0 : Int32)), (0, .ref (am_B Z + a0)), (1, .ref (am_B Z + a1)), (2, .ref (am_B Z + a2))]) dX3_makeLeastPaths_55 rfl (Nat.le_of_ble_eq_true rfl) rfl ?_
    refine am_sub (ls' := [(0, .ref (am_B Z + a0)), (1, .ref (am_B Z + a1)), (2, .ref (am_B Z + a2)), (3, .int (0 : Int32))]) [1, 2, 3, 0] rfl ?_
    exact uX3_makeLeastPaths_56 R a0 a1 a2 h_a0 h_a1 h_a2 am_fu (0 : Int32) J3 J4
  refine am_sub (ls' := [(0, .ref (am_B Z + a0)), (1, .ref (am_B Z + a1)), (2, .ref (am_B Z + a2)), (3, .int (0 : Int32))]) [1, 2, 3, 0] rfl ?_
  exact uX3_makeLeastPaths_6 R a0 a1 a2 h_a0 h_a1 h_a2 j2 hj2 am_fu (0 : Int32) r1.1 r1.2
abbrev kX3_targetsOf : am_K := (cX3_targetsOf, 4, RX3, wsX3_targetsOf, some .long, { frames := 1, cells := 0, slots := 0, locals := 20 })
theorem hX3_targetsOf : am_cl yX3_targetsOf kX3_targetsOf 2 := ⟨⟨_, rfl⟩, rfl, rfl, by decide +kernel, by decide +kernel, by decide +kernel⟩
theorem iX3_targetsOf_3 : ∀ w ∈ u_ws RX3 TX3 6, w ∈ wsX3_targetsOf := by decide +kernel
theorem fX3_targetsOf_22 : Cond.fieldLink RX3 22 "AmbiguityAnalyzer$Result" "count" "I" ∈ wsX3_targetsOf := by decide +kernel
theorem fX3_targetsOf_9 : Cond.fieldLink RX3 9 "AmbiguityAnalyzer$Result" "targets" "[J" ∈ wsX3_targetsOf := by decide +kernel
set_option maxRecDepth 100000 in
set_option maxHeartbeats 4000000 in
theorem tX3_targetsOf {Z : am_Z} (R : am_R) (I : am_I) (L : am_L) (a0 : Nat) (x1 : Int32) (x2 : Int32) (h_a0 : am_G Z a0 = some (.inl 3)) : am_M Z yX3_targetsOf kX3_targetsOf [.ref (am_B Z + a0), .int x1, .int x2] R I L (pX3_targetsOf R I L a0 x1 x2) (fun r : Int64 => (some (.long r), R, I, L)) := by
  refine am_entry (ls := [(0, .ref (am_B Z + a0)), (1, .int x1), (2, .int x2)]) (by decide) hX3_targetsOf rfl (Nat.le_of_ble_eq_true rfl) rfl (fun X => ?_)
  unfold pX3_targetsOf
  refine am_iload_n dX3_targetsOf_0 rfl 1 rfl ?_
  refine am_jnV (fun j1 ej1 => ?_)
  have hj1 : ∀ (v2 : Int32), am_V Z X kX3_targetsOf (fun r : Int64 => (some (.long r), R, I, L)) 30 [(0, .ref (am_B Z + a0)), (1, .int x1), (2, .int x2)] [.int v2] R I L (j1 v2) := by
    subst ej1
    intro v2
    show am_V Z X kX3_targetsOf (fun r : Int64 => (some (.long r), R, I, L)) 30 [(0, .ref (am_B Z + a0)), (1, .int x1), (2, .int x2)] [.int v2] R I L _
    refine am_istore_n (ls' := [(3, .int v2), (0, .ref (am_B Z + a0)), (1, .int x1), (2, .int x2)]) dX3_targetsOf_30 rfl (Nat.le_of_ble_eq_true rfl) rfl ?_
    refine am_iload_n dX3_targetsOf_31 rfl 0 rfl ?_
    refine am_if_eq (tgt := 48) dX3_targetsOf_32 rfl (fun e3 => ?_) (fun e3 => ?_)
    · refine am_lconst (v := 0) dX3_targetsOf_48 (by decide) ?_
      exact am_lret dX3_targetsOf_49 rfl rfl
    · refine am_aload_n dX3_targetsOf_35 rfl 1 rfl ?_
      refine am_getR 3 3 clX3 (Nat.le_of_ble_eq_true rfl) h_a0 iX3_targetsOf_3 fX3_targetsOf_9 rfl rfl dX3_targetsOf_36 (fun h4 => ?_)
      refine am_iload_n dX3_targetsOf_39 rfl 2 rfl ?_
      refine am_iconst (v := 3) dX3_targetsOf_40 (by decide) ?_
      refine am_imul dX3_targetsOf_41 ?_
      refine am_iload_n dX3_targetsOf_42 rfl 3 rfl ?_
      refine am_iadd dX3_targetsOf_43 ?_
      refine am_lald h4 dX3_targetsOf_44 ?_
      refine am_goto (tgt := 49) dX3_targetsOf_45 rfl ?_
      exact am_lret dX3_targetsOf_49 rfl rfl
  refine am_jnV (fun j5 ej5 => ?_)
  have hj5 : am_V Z X kX3_targetsOf (fun r : Int64 => (some (.long r), R, I, L)) 29 [(0, .ref (am_B Z + a0)), (1, .int x1), (2, .int x2)] [] R I L j5 := by
    subst ej5
    show am_V Z X kX3_targetsOf (fun r : Int64 => (some (.long r), R, I, L)) 29 [(0, .ref (am_B Z + a0)), (1, .int x1), (2, .int x2)] [] R I L _
    refine am_iconst (v := 0) dX3_targetsOf_29 (by decide) ?_
    exact hj1 (0 : Int32)
  refine am_if_lt (tgt := 29) dX3_targetsOf_1 rfl (fun e6 => ?_) (fun e6 => ?_)
  · exact hj5
  · refine am_iload_n dX3_targetsOf_4 rfl 1 rfl ?_
    refine am_aload_n dX3_targetsOf_5 rfl 0 rfl ?_
    refine am_get 3 0 clX3 (Nat.le_of_ble_eq_true rfl) h_a0 iX3_targetsOf_3 fX3_targetsOf_22 rfl dX3_targetsOf_6 ?_
    refine am_icmp_ge (tgt := 29) dX3_targetsOf_9 rfl (fun e7 => ?_) (fun e7 => ?_)
    · exact hj5
    · refine am_iload_n dX3_targetsOf_12 rfl 1 rfl ?_
      refine am_bipush (v := 64) dX3_targetsOf_13 (by decide) ?_
      refine am_icmp_ge (tgt := 29) dX3_targetsOf_15 rfl (fun e8 => ?_) (fun e8 => ?_)
      · exact hj5
      · refine am_iload_n dX3_targetsOf_18 rfl 2 rfl ?_
        refine am_callN (host := RX10) [.int x2] (tX10_isLetter R I L x2) gX3_targetsOf_X10_isLetter_n77 (by decide +kernel) (by decide +kernel) (by decide +kernel) hX10_isLetter ⟨Nat.le_of_ble_eq_true rfl, Nat.le_of_ble_eq_true rfl⟩ rfl rfl (Nat.le_of_ble_eq_true rfl) dX3_targetsOf_19 (fun r9 => ?_)
        show am_V Z X kX3_targetsOf (fun r : Int64 => (some (.long r), R, I, L)) 22 [(0, .ref (am_B Z + a0)), (1, .int x1), (2, .int x2)] [.int r9] R I L _
        refine am_if_eq (tgt := 29) dX3_targetsOf_22 rfl (fun e10 => ?_) (fun e10 => ?_)
        · exact hj5
        · refine am_iconst (v := 1) dX3_targetsOf_25 (by decide) ?_
          refine am_goto (tgt := 30) dX3_targetsOf_26 rfl ?_
          exact hj1 (1 : Int32)
abbrev kX3_accepts : am_K := (cX3_accepts, 8, RX3, wsX3_accepts, some .boolean, { frames := 2, cells := 0, slots := 0, locals := 43 })
theorem hX3_accepts : am_cl yX3_accepts kX3_accepts 1 := ⟨⟨_, rfl⟩, rfl, rfl, by decide +kernel, by decide +kernel, by decide +kernel⟩
theorem iX3_accepts_3 : ∀ w ∈ u_ws RX3 TX3 6, w ∈ wsX3_accepts := by decide +kernel
theorem fX3_accepts_26 : Cond.fieldLink RX3 26 "AmbiguityAnalyzer$Result" "initials" "J" ∈ wsX3_accepts := by decide +kernel
theorem iX3_accepts_8 : ∀ w ∈ u_ws RX8 TX8 2, w ∈ wsX3_accepts := by decide +kernel
theorem fX3_accepts_81 : Cond.fieldLink RX3 81 "AmbiguityAnalyzer$Word" "length" "I" ∈ wsX3_accepts := by decide +kernel
theorem fX3_accepts_22 : Cond.fieldLink RX3 22 "AmbiguityAnalyzer$Result" "count" "I" ∈ wsX3_accepts := by decide +kernel
theorem fX3_accepts_30 : Cond.fieldLink RX3 30 "AmbiguityAnalyzer$Result" "finals" "J" ∈ wsX3_accepts := by decide +kernel
set_option maxRecDepth 100000 in
set_option maxHeartbeats 4000000 in
theorem vX3_accepts_23 {Z : am_Z} {X : am_X} (R : am_R) (I : am_I) (L : am_L) (a0 : Nat) (a1 : Nat) (v7 : Int64) (v8 : Int32) (h13 : am_G Z a0 = some (.inl 3)) (h14 : am_G Z a1 = some (.inl 8)) (j11 : Int64 → Option (Int32)) (hj11 : ∀ (v12 : Int64), am_V Z X kX3_accepts (fun r : Int32 => (some (.int r), R, I, L)) 70 [(0, .ref (am_B Z + a0)), (1, .ref (am_B Z + a1)), (4, .int v8), (5, .long v12)] [] R I L (j11 v12)) (ih17 : Int64 → Int32 → Option (Int32)) (hih17 : ∀ (v15 : Int64) (v16 : Int32), am_V Z X kX3_accepts (fun r : Int32 => (some (.int r), R, I, L)) 23 [(0, .ref (am_B Z + a0)), (1, .ref (am_B Z + a1)), (2, .long v7), (4, .int v8), (5, .long v15), (7, .int v16)] [] R I L (ih17 v15 v16)) (v15 : Int64) (v16 : Int32) : am_V Z X kX3_accepts (fun r : Int32 => (some (.int r), R, I, L)) 23 [(0, .ref (am_B Z + a0)), (1, .ref (am_B Z + a1)), (2, .long v7), (4, .int v8), (5, .long v15), (7, .int v16)] [] R I L (sX3_accepts_23 R I L a0 a1 v7 v8 j11 ih17 v15 v16) := by
  unfold sX3_accepts_23
  refine am_iload dX3_accepts_23 5 rfl ?_
  refine am_aload_n dX3_accepts_25 rfl 0 rfl ?_
  refine am_get 3 0 clX3 (Nat.le_of_ble_eq_true rfl) h13 iX3_accepts_3 fX3_accepts_22 rfl dX3_accepts_26 ?_
  refine am_icmp_ge (tgt := 70) dX3_accepts_29 rfl (fun e18 => ?_) (fun e18 => ?_)
  · refine am_sub (ls' := [(0, .ref (am_B Z + a0)), (1, .ref (am_B Z + a1)), (4, .int v8), (5, .long v15)]) [0, 1, 3, 4] rfl ?_
    exact hj11 v15
  · refine am_lload dX3_accepts_32 4 rfl ?_
    refine am_lload_n dX3_accepts_34 rfl 2 rfl ?_
    refine am_iload dX3_accepts_35 5 rfl ?_
    refine am_lshr dX3_accepts_37 ?_
    refine am_lconst (v := 1) dX3_accepts_38 (by decide) ?_
    refine am_land dX3_accepts_39 ?_
    refine am_lconst (v := 0) dX3_accepts_40 (by decide) ?_
    refine am_lcmp dX3_accepts_41 ?_
    refine am_jnV (fun j19 ej19 => ?_)
    have hj19 : ∀ (v20 : Int64), am_V Z X kX3_accepts (fun r : Int32 => (some (.int r), R, I, L)) 61 [(0, .ref (am_B Z + a0)), (1, .ref (am_B Z + a1)), (2, .long v7), (4, .int v8), (7, .int v16)] [.long v20, .long v15] R I L (j19 v20) := by
      subst ej19
      intro v20
      show am_V Z X kX3_accepts (fun r : Int32 => (some (.int r), R, I, L)) 61 [(0, .ref (am_B Z + a0)), (1, .ref (am_B Z + a1)), (2, .long v7), (4, .int v8), (7, .int v16)] [.long v20, .long v15] R I L _
      refine am_lor dX3_accepts_61 ?_
      refine am_letTl (fun v21 => ?_)
      refine am_lstore (ls' := [(5, .long v21), (0, .ref (am_B Z + a0)), (1, .ref (am_B Z + a1)), (2, .long v7), (4, .int v8), (7, .int v16)]) dX3_accepts_62 (Nat.le_of_ble_eq_true rfl) rfl ?_
      refine am_iinc (j := 5) (ls' := [(7, .int (v16 + (1 : Int32))), (5, .long v21), (0, .ref (am_B Z + a0)), (1, .ref (am_B Z + a1)), (2, .long v7), (4, .int v8)]) dX3_accepts_64 rfl rfl (Nat.le_of_ble_eq_true rfl) rfl ?_
      refine am_goto (tgt := 23) dX3_accepts_67 rfl ?_
      refine am_sub (ls' := [(0, .ref (am_B Z + a0)), (1, .ref (am_B Z + a1)), (2, .long v7), (4, .int v8), (5, .long v21), (7, .int (v16 + (1 : Int32)))]) [2, 3, 4, 5, 1, 0] rfl ?_
      exact hih17 v21 (v16 + (1 : Int32))
    refine am_if_eq (tgt := 60) dX3_accepts_42 rfl (fun e22 => ?_) (fun e22 => ?_)
    · refine am_lconst (v := 0) dX3_accepts_60 (by decide) ?_
      refine am_sub (ls' := [(0, .ref (am_B Z + a0)), (1, .ref (am_B Z + a1)), (2, .long v7), (4, .int v8), (7, .int v16)]) [0, 1, 2, 3, 5] rfl ?_
      exact hj19 (0 : Int64)
    · refine am_aload_n dX3_accepts_45 rfl 0 rfl ?_
      refine am_iload dX3_accepts_46 5 rfl ?_
      refine am_aload_n dX3_accepts_48 rfl 1 rfl ?_
      refine am_iload dX3_accepts_49 3 rfl ?_
      refine am_callV [.int v8] (tX8_letterAt R I L a1 v8 h14) h14 clX8 gX3_accepts_X8_letterAt hX8_letterAt rfl ⟨Nat.le_of_ble_eq_true rfl, Nat.le_of_ble_eq_true rfl⟩ rfl rfl (Nat.le_of_ble_eq_true rfl) dX3_accepts_51 (fun r23 => ?_)
      show am_V Z X kX3_accepts (fun r : Int32 => (some (.int r), R, I, L)) 54 [(0, .ref (am_B Z + a0)), (1, .ref (am_B Z + a1)), (2, .long v7), (4, .int v8), (5, .long v15), (7, .int v16)] [.int r23, .int v16, .ref (am_B Z + a0), .long v15] R I L _
      refine am_callV [.int v16, .int r23] (tX3_targetsOf R I L a0 v16 r23 h13) h13 clX3 gX3_accepts_X3_targetsOf hX3_targetsOf rfl ⟨Nat.le_of_ble_eq_true rfl, Nat.le_of_ble_eq_true rfl⟩ rfl rfl (Nat.le_of_ble_eq_true rfl) dX3_accepts_54 (fun r24 => ?_)
      show am_V Z X kX3_accepts (fun r : Int32 => (some (.int r), R, I, L)) 57 [(0, .ref (am_B Z + a0)), (1, .ref (am_B Z + a1)), (2, .long v7), (4, .int v8), (5, .long v15), (7, .int v16)] [.long r24, .long v15] R I L _
      refine am_goto (tgt := 61) dX3_accepts_57 rfl ?_
      refine am_sub (ls' := [(0, .ref (am_B Z + a0)), (1, .ref (am_B Z + a1)), (2, .long v7), (4, .int v8), (7, .int v16)]) [0, 1, 2, 3, 5] rfl ?_
      exact hj19 r24
theorem uX3_accepts_23 {Z : am_Z} {X : am_X} (R : am_R) (I : am_I) (L : am_L) (a0 : Nat) (a1 : Nat) (v7 : Int64) (v8 : Int32) (h13 : am_G Z a0 = some (.inl 3)) (h14 : am_G Z a1 = some (.inl 8)) (j11 : Int64 → Option (Int32)) (hj11 : ∀ (v12 : Int64), am_V Z X kX3_accepts (fun r : Int32 => (some (.int r), R, I, L)) 70 [(0, .ref (am_B Z + a0)), (1, .ref (am_B Z + a1)), (4, .int v8), (5, .long v12)] [] R I L (j11 v12)) : ∀ (n : Nat) (v15 : Int64) (v16 : Int32), am_V Z X kX3_accepts (fun r : Int32 => (some (.int r), R, I, L)) 23 [(0, .ref (am_B Z + a0)), (1, .ref (am_B Z + a1)), (2, .long v7), (4, .int v8), (5, .long v15), (7, .int v16)] [] R I L (lX3_accepts_23 R I L a0 a1 v7 v8 j11 n v15 v16) := by
  intro n
  induction n with
  | zero => intro _ _; exact am_none
  | succ n ih => exact fun v15 v16 => vX3_accepts_23 R I L a0 a1 v7 v8 h13 h14 j11 hj11 (lX3_accepts_23 R I L a0 a1 v7 v8 j11 n) ih v15 v16
set_option maxRecDepth 100000 in
set_option maxHeartbeats 4000000 in
theorem vX3_accepts_8 {Z : am_Z} {X : am_X} (R : am_R) (I : am_I) (L : am_L) (a0 : Nat) (a1 : Nat) (h5 : am_G Z a0 = some (.inl 3)) (h6 : am_G Z a1 = some (.inl 8)) (j2 : Int64 → Option (Int32)) (hj2 : ∀ (v3 : Int64), am_V Z X kX3_accepts (fun r : Int32 => (some (.int r), R, I, L)) 79 [(0, .ref (am_B Z + a0)), (2, .long v3)] [] R I L (j2 v3)) (ih9 : Int64 → Int32 → Option (Int32)) (hih9 : ∀ (v7 : Int64) (v8 : Int32), am_V Z X kX3_accepts (fun r : Int32 => (some (.int r), R, I, L)) 8 [(0, .ref (am_B Z + a0)), (1, .ref (am_B Z + a1)), (2, .long v7), (4, .int v8)] [] R I L (ih9 v7 v8)) (v7 : Int64) (v8 : Int32) : am_V Z X kX3_accepts (fun r : Int32 => (some (.int r), R, I, L)) 8 [(0, .ref (am_B Z + a0)), (1, .ref (am_B Z + a1)), (2, .long v7), (4, .int v8)] [] R I L (sX3_accepts_8 R I L a0 a1 j2 ih9 v7 v8) := by
  unfold sX3_accepts_8
  refine am_iload dX3_accepts_8 3 rfl ?_
  refine am_aload_n dX3_accepts_10 rfl 1 rfl ?_
  refine am_get 8 0 clX8 (Nat.le_of_ble_eq_true rfl) h6 iX3_accepts_8 fX3_accepts_81 rfl dX3_accepts_11 ?_
  refine am_icmp_ge (tgt := 79) dX3_accepts_14 rfl (fun e10 => ?_) (fun e10 => ?_)
  · refine am_sub (ls' := [(0, .ref (am_B Z + a0)), (2, .long v7)]) [0, 2] rfl ?_
    exact hj2 v7
  · refine am_lconst (v := 0) dX3_accepts_17 (by decide) ?_
    refine am_lstore (ls' := [(5, .long (0 : Int64)), (0, .ref (am_B Z + a0)), (1, .ref (am_B Z + a1)), (2, .long v7), (4, .int v8)]) dX3_accepts_18 (Nat.le_of_ble_eq_true rfl) rfl ?_
    refine am_iconst (v := 0) dX3_accepts_20 (by decide) ?_
    refine am_istore (ls' := [(7, .int (0 : Int32)), (5, .long (0 : Int64)), (0, .ref (am_B Z + a0)), (1, .ref (am_B Z + a1)), (2, .long v7), (4, .int v8)]) dX3_accepts_21 (Nat.le_of_ble_eq_true rfl) rfl ?_
    refine am_jnV (fun j11 ej11 => ?_)
    have hj11 : ∀ (v12 : Int64), am_V Z X kX3_accepts (fun r : Int32 => (some (.int r), R, I, L)) 70 [(0, .ref (am_B Z + a0)), (1, .ref (am_B Z + a1)), (4, .int v8), (5, .long v12)] [] R I L (j11 v12) := by
      subst ej11
      intro v12
      show am_V Z X kX3_accepts (fun r : Int32 => (some (.int r), R, I, L)) 70 [(0, .ref (am_B Z + a0)), (1, .ref (am_B Z + a1)), (4, .int v8), (5, .long v12)] [] R I L _
      refine am_lload dX3_accepts_70 3 rfl ?_
      refine am_lstore_n (ls' := [(2, .long v12), (0, .ref (am_B Z + a0)), (1, .ref (am_B Z + a1)), (4, .int v8), (5, .long v12)]) dX3_accepts_72 rfl (Nat.le_of_ble_eq_true rfl) rfl ?_
      refine am_iinc (j := 3) (ls' := [(4, .int (v8 + (1 : Int32))), (2, .long v12), (0, .ref (am_B Z + a0)), (1, .ref (am_B Z + a1)), (5, .long v12)]) dX3_accepts_73 rfl rfl (Nat.le_of_ble_eq_true rfl) rfl ?_
      refine am_goto (tgt := 8) dX3_accepts_76 rfl ?_
      refine am_sub (ls' := [(0, .ref (am_B Z + a0)), (1, .ref (am_B Z + a1)), (2, .long v12), (4, .int (v8 + (1 : Int32)))]) [2, 3, 1, 0] rfl ?_
      exact hih9 v12 (v8 + (1 : Int32))
    refine am_sub (ls' := [(0, .ref (am_B Z + a0)), (1, .ref (am_B Z + a1)), (2, .long v7), (4, .int v8), (5, .long (0 : Int64)), (7, .int (0 : Int32))]) [2, 3, 4, 5, 1, 0] rfl ?_
    exact uX3_accepts_23 R I L a0 a1 v7 v8 h5 h6 j11 hj11 am_fu (0 : Int64) (0 : Int32)
theorem uX3_accepts_8 {Z : am_Z} {X : am_X} (R : am_R) (I : am_I) (L : am_L) (a0 : Nat) (a1 : Nat) (h5 : am_G Z a0 = some (.inl 3)) (h6 : am_G Z a1 = some (.inl 8)) (j2 : Int64 → Option (Int32)) (hj2 : ∀ (v3 : Int64), am_V Z X kX3_accepts (fun r : Int32 => (some (.int r), R, I, L)) 79 [(0, .ref (am_B Z + a0)), (2, .long v3)] [] R I L (j2 v3)) : ∀ (n : Nat) (v7 : Int64) (v8 : Int32), am_V Z X kX3_accepts (fun r : Int32 => (some (.int r), R, I, L)) 8 [(0, .ref (am_B Z + a0)), (1, .ref (am_B Z + a1)), (2, .long v7), (4, .int v8)] [] R I L (lX3_accepts_8 R I L a0 a1 j2 n v7 v8) := by
  intro n
  induction n with
  | zero => intro _ _; exact am_none
  | succ n ih => exact fun v7 v8 => vX3_accepts_8 R I L a0 a1 h5 h6 j2 hj2 (lX3_accepts_8 R I L a0 a1 j2 n) ih v7 v8
set_option maxRecDepth 100000 in
set_option maxHeartbeats 4000000 in
theorem tX3_accepts {Z : am_Z} (R : am_R) (I : am_I) (L : am_L) (a0 : Nat) (a1 : Nat) (h_a0 : am_G Z a0 = some (.inl 3)) (h_a1 : am_G Z a1 = some (.inl 8)) : am_M Z yX3_accepts kX3_accepts [.ref (am_B Z + a0), .ref (am_B Z + a1)] R I L (pX3_accepts R I L a0 a1) (fun r : Int32 => (some (.int r), R, I, L)) := by
  refine am_entry (ls := [(0, .ref (am_B Z + a0)), (1, .ref (am_B Z + a1))]) (by decide) hX3_accepts rfl (Nat.le_of_ble_eq_true rfl) rfl (fun X => ?_)
  unfold pX3_accepts
  refine am_aload_n dX3_accepts_0 rfl 0 rfl ?_
  refine am_get 3 1 clX3 (Nat.le_of_ble_eq_true rfl) h_a0 iX3_accepts_3 fX3_accepts_26 rfl dX3_accepts_1 ?_
  refine am_letTl (fun v1 => ?_)
  refine am_lstore_n (ls' := [(2, .long v1), (0, .ref (am_B Z + a0)), (1, .ref (am_B Z + a1))]) dX3_accepts_4 rfl (Nat.le_of_ble_eq_true rfl) rfl ?_
  refine am_iconst (v := 0) dX3_accepts_5 (by decide) ?_
  refine am_istore (ls' := [(4, .int (0 : Int32)), (2, .long v1), (0, .ref (am_B Z + a0)), (1, .ref (am_B Z + a1))]) dX3_accepts_6 (Nat.le_of_ble_eq_true rfl) rfl ?_
  refine am_jnV (fun j2 ej2 => ?_)
  have hj2 : ∀ (v3 : Int64), am_V Z X kX3_accepts (fun r : Int32 => (some (.int r), R, I, L)) 79 [(0, .ref (am_B Z + a0)), (2, .long v3)] [] R I L (j2 v3) := by
    subst ej2
    intro v3
    show am_V Z X kX3_accepts (fun r : Int32 => (some (.int r), R, I, L)) 79 [(0, .ref (am_B Z + a0)), (2, .long v3)] [] R I L _
    refine am_lload_n dX3_accepts_79 rfl 1 rfl ?_
    refine am_aload_n dX3_accepts_80 rfl 0 rfl ?_
    refine am_get 3 2 clX3 (Nat.le_of_ble_eq_true rfl) h_a0 iX3_accepts_3 fX3_accepts_30 rfl dX3_accepts_81 ?_
    refine am_land dX3_accepts_84 ?_
    refine am_lconst (v := 0) dX3_accepts_85 (by decide) ?_
    refine am_lcmp dX3_accepts_86 ?_
    refine am_if_eq (tgt := 94) dX3_accepts_87 rfl (fun e4 => ?_) (fun e4 => ?_)
    · refine am_iconst (v := 0) dX3_accepts_94 (by decide) ?_
      exact am_zret (by decide) dX3_accepts_95 rfl rfl
    · refine am_iconst (v := 1) dX3_accepts_90 (by decide) ?_
      refine am_goto (tgt := 95) dX3_accepts_91 rfl ?_
      exact am_zret (by decide) dX3_accepts_95 rfl rfl
  refine am_sub (ls' := [(0, .ref (am_B Z + a0)), (1, .ref (am_B Z + a1)), (2, .long v1), (4, .int (0 : Int32))]) [2, 3, 1, 0] rfl ?_
  exact uX3_accepts_8 R I L a0 a1 h_a0 h_a1 j2 hj2 am_fu v1 (0 : Int32)
abbrev kX4_makeEmpty : am_K := (cX4_makeEmpty, 2, RX4, wsX4_makeEmpty, none, { frames := 0, cells := 0, slots := 0, locals := 0 })
theorem hX4_makeEmpty : am_cl yX4_makeEmpty kX4_makeEmpty 0 := ⟨⟨_, rfl⟩, rfl, rfl, by decide +kernel, by decide +kernel, by decide +kernel⟩
theorem iX4_makeEmpty_4 : ∀ w ∈ u_ws RX4 TX4 5, w ∈ wsX4_makeEmpty := by decide +kernel
theorem fX4_makeEmpty_46 : Cond.fieldLink RX4 46 "AmbiguityAnalyzer$RowStore" "count" "I" ∈ wsX4_makeEmpty := by decide +kernel
theorem fX4_makeEmpty_18 : Cond.fieldLink RX4 18 "AmbiguityAnalyzer$RowStore" "newest" "[I" ∈ wsX4_makeEmpty := by decide +kernel
set_option maxRecDepth 100000 in
set_option maxHeartbeats 4000000 in
theorem vX4_makeEmpty_7 {Z : am_Z} {X : am_X} (R : am_R) (L : am_L) (a0 : Nat) (h2 : am_G Z a0 = some (.inl 4)) (ih5 : Int32 → am_I → Option (am_I)) (hih5 : ∀ (v3 : Int32) (J4 : am_I), am_V Z X kX4_makeEmpty (fun r : am_I => (none, R, r, L)) 7 [(0, .ref (am_B Z + a0)), (1, .int v3)] [] R J4 L (ih5 v3 J4)) (v3 : Int32) (J4 : am_I) : am_V Z X kX4_makeEmpty (fun r : am_I => (none, R, r, L)) 7 [(0, .ref (am_B Z + a0)), (1, .int v3)] [] R J4 L (sX4_makeEmpty_7 R a0 ih5 v3 J4) := by
  unfold sX4_makeEmpty_7
  refine am_iload_n dX4_makeEmpty_7 rfl 1 rfl ?_
  refine am_sipush (v := 256) dX4_makeEmpty_8 (by decide) ?_
  refine am_icmp_ge (tgt := 27) dX4_makeEmpty_11 rfl (fun e6 => ?_) (fun e6 => ?_)
  · exact am_vret dX4_makeEmpty_27 rfl rfl
  · refine am_aload_n dX4_makeEmpty_14 rfl 0 rfl ?_
    refine am_getR 4 2 clX4 (Nat.le_of_ble_eq_true rfl) h2 iX4_makeEmpty_4 fX4_makeEmpty_18 rfl rfl dX4_makeEmpty_15 (fun h7 => ?_)
    refine am_iload_n dX4_makeEmpty_18 rfl 1 rfl ?_
    refine am_iconst (v := -1) dX4_makeEmpty_19 (by decide) ?_
    refine am_iast h7 dX4_makeEmpty_20 ?_
    refine am_letI (fun J8 => ?_)
    refine am_iinc (j := 1) (ls' := [(1, .int (v3 + (1 : Int32))), (0, .ref (am_B Z + a0))]) dX4_makeEmpty_21 rfl rfl (Nat.le_of_ble_eq_true rfl) rfl ?_
    refine am_goto (tgt := 7) dX4_makeEmpty_24 rfl ?_
    refine am_sub (ls' := [(0, .ref (am_B Z + a0)), (1, .int (v3 + (1 : Int32)))]) [1, 0] rfl ?_
    exact hih5 (v3 + (1 : Int32)) J8
theorem uX4_makeEmpty_7 {Z : am_Z} {X : am_X} (R : am_R) (L : am_L) (a0 : Nat) (h2 : am_G Z a0 = some (.inl 4)) : ∀ (n : Nat) (v3 : Int32) (J4 : am_I), am_V Z X kX4_makeEmpty (fun r : am_I => (none, R, r, L)) 7 [(0, .ref (am_B Z + a0)), (1, .int v3)] [] R J4 L (lX4_makeEmpty_7 R a0 n v3 J4) := by
  intro n
  induction n with
  | zero => intro _ _; exact am_none
  | succ n ih => exact fun v3 J4 => vX4_makeEmpty_7 R L a0 h2 (lX4_makeEmpty_7 R a0 n) ih v3 J4
set_option maxRecDepth 100000 in
set_option maxHeartbeats 4000000 in
theorem tX4_makeEmpty {Z : am_Z} (R : am_R) (I : am_I) (L : am_L) (a0 : Nat) (h_a0 : am_G Z a0 = some (.inl 4)) : am_M Z yX4_makeEmpty kX4_makeEmpty [.ref (am_B Z + a0)] R I L (pX4_makeEmpty R I a0) (fun r : am_I => (none, R, r, L)) := by
  refine am_entry (ls := [(0, .ref (am_B Z + a0))]) (by decide) hX4_makeEmpty rfl (Nat.le_of_ble_eq_true rfl) rfl (fun X => ?_)
  unfold pX4_makeEmpty
  refine am_aload_n dX4_makeEmpty_0 rfl 0 rfl ?_
  refine am_iconst (v := 0) dX4_makeEmpty_1 (by decide) ?_
  refine am_putI 4 4 clX4 (Nat.le_of_ble_eq_true rfl) h_a0 iX4_makeEmpty_4 fX4_makeEmpty_46 rfl rfl dX4_makeEmpty_2 ?_
  refine am_letI (fun J1 => ?_)
  refine am_iconst (v := 0) dX4_makeEmpty_5 (by decide) ?_
  refine am_istore_n (ls' := [(1, .int (0 : Int32)), (0, .ref (am_B Z + a0))]) dX4_makeEmpty_6 rfl (Nat.le_of_ble_eq_true rfl) rfl ?_
  refine am_sub (ls' := [(0, .ref (am_B Z + a0)), (1, .int (0 : Int32))]) [1, 0] rfl ?_
  exact uX4_makeEmpty_7 R L a0 h_a0 am_fu (0 : Int32) J1
abbrev kX4_bucketOfFresh : am_K := (cX4_bucketOfFresh, 4, RX4, wsX4_bucketOfFresh, some .int, { frames := 0, cells := 0, slots := 0, locals := 0 })
theorem hX4_bucketOfFresh : am_cl yX4_bucketOfFresh kX4_bucketOfFresh 0 := ⟨⟨_, rfl⟩, rfl, rfl, by decide +kernel, by decide +kernel, by decide +kernel⟩
theorem iX4_bucketOfFresh_4 : ∀ w ∈ u_ws RX4 TX4 5, w ∈ wsX4_bucketOfFresh := by decide +kernel
theorem fX4_bucketOfFresh_15 : Cond.fieldLink RX4 15 "AmbiguityAnalyzer$RowStore" "fresh" "[J" ∈ wsX4_bucketOfFresh := by decide +kernel
set_option maxRecDepth 100000 in
set_option maxHeartbeats 4000000 in
theorem vX4_bucketOfFresh_4 {Z : am_Z} {X : am_X} (R : am_R) (I : am_I) (L : am_L) (a0 : Nat) (h1 : am_G Z a0 = some (.inl 4)) (ih4 : Int64 → Int32 → Option (Int32)) (hih4 : ∀ (v2 : Int64) (v3 : Int32), am_V Z X kX4_bucketOfFresh (fun r : Int32 => (some (.int r), R, I, L)) 4 [(0, .ref (am_B Z + a0)), (1, .long v2), (3, .int v3)] [] R I L (ih4 v2 v3)) (v2 : Int64) (v3 : Int32) : am_V Z X kX4_bucketOfFresh (fun r : Int32 => (some (.int r), R, I, L)) 4 [(0, .ref (am_B Z + a0)), (1, .long v2), (3, .int v3)] [] R I L (sX4_bucketOfFresh_4 R L a0 ih4 v2 v3) := by
  unfold sX4_bucketOfFresh_4
  refine am_iload_n dX4_bucketOfFresh_4 rfl 2 rfl ?_
  refine am_bipush (v := 6) dX4_bucketOfFresh_5 (by decide) ?_
  refine am_icmp_ge (tgt := 29) dX4_bucketOfFresh_7 rfl (fun e5 => ?_) (fun e5 => ?_)
  · refine am_lload_n dX4_bucketOfFresh_29 rfl 1 rfl ?_
    refine am_lload_n dX4_bucketOfFresh_30 rfl 1 rfl ?_
    refine am_bipush (v := 8) dX4_bucketOfFresh_31 (by decide) ?_
    refine am_lshr dX4_bucketOfFresh_33 ?_
    refine am_lxor dX4_bucketOfFresh_34 ?_
    refine am_l2i dX4_bucketOfFresh_35 ?_
    refine am_sipush (v := 255) dX4_bucketOfFresh_36 (by decide) ?_
    refine am_iand dX4_bucketOfFresh_39 ?_
    exact am_iret dX4_bucketOfFresh_40 rfl rfl
  · refine am_lload_n dX4_bucketOfFresh_10 rfl 1 rfl ?_
    refine am_ldc2 (v := 31) dX4_bucketOfFresh_11 (by decide +kernel) ?_
    refine am_lmul dX4_bucketOfFresh_14 ?_
    refine am_aload_n dX4_bucketOfFresh_15 rfl 0 rfl ?_
    refine am_getR 4 1 clX4 (Nat.le_of_ble_eq_true rfl) h1 iX4_bucketOfFresh_4 fX4_bucketOfFresh_15 rfl rfl dX4_bucketOfFresh_16 (fun h6 => ?_)
    refine am_iload_n dX4_bucketOfFresh_19 rfl 2 rfl ?_
    refine am_lald h6 dX4_bucketOfFresh_20 ?_
    refine am_ladd dX4_bucketOfFresh_21 ?_
    refine am_letTl (fun v7 => ?_)
    refine am_lstore_n (ls' := [(1, .long v7), (0, .ref (am_B Z + a0)), (3, .int v3)]) dX4_bucketOfFresh_22 rfl (Nat.le_of_ble_eq_true rfl) rfl ?_
    refine am_iinc (j := 2) (ls' := [(3, .int (v3 + (1 : Int32))), (1, .long v7), (0, .ref (am_B Z + a0))]) dX4_bucketOfFresh_23 rfl rfl (Nat.le_of_ble_eq_true rfl) rfl ?_
    refine am_goto (tgt := 4) dX4_bucketOfFresh_26 rfl ?_
    refine am_sub (ls' := [(0, .ref (am_B Z + a0)), (1, .long v7), (3, .int (v3 + (1 : Int32)))]) [2, 1, 0] rfl ?_
    exact hih4 v7 (v3 + (1 : Int32))
theorem uX4_bucketOfFresh_4 {Z : am_Z} {X : am_X} (R : am_R) (I : am_I) (L : am_L) (a0 : Nat) (h1 : am_G Z a0 = some (.inl 4)) : ∀ (n : Nat) (v2 : Int64) (v3 : Int32), am_V Z X kX4_bucketOfFresh (fun r : Int32 => (some (.int r), R, I, L)) 4 [(0, .ref (am_B Z + a0)), (1, .long v2), (3, .int v3)] [] R I L (lX4_bucketOfFresh_4 R L a0 n v2 v3) := by
  intro n
  induction n with
  | zero => intro _ _; exact am_none
  | succ n ih => exact fun v2 v3 => vX4_bucketOfFresh_4 R I L a0 h1 (lX4_bucketOfFresh_4 R L a0 n) ih v2 v3
set_option maxRecDepth 100000 in
set_option maxHeartbeats 4000000 in
theorem tX4_bucketOfFresh {Z : am_Z} (R : am_R) (I : am_I) (L : am_L) (a0 : Nat) (h_a0 : am_G Z a0 = some (.inl 4)) : am_M Z yX4_bucketOfFresh kX4_bucketOfFresh [.ref (am_B Z + a0)] R I L (pX4_bucketOfFresh R L a0) (fun r : Int32 => (some (.int r), R, I, L)) := by
  refine am_entry (ls := [(0, .ref (am_B Z + a0))]) (by decide) hX4_bucketOfFresh rfl (Nat.le_of_ble_eq_true rfl) rfl (fun X => ?_)
  unfold pX4_bucketOfFresh
  refine am_lconst (v := 0) dX4_bucketOfFresh_0 (by decide) ?_
  refine am_lstore_n (ls' := [(1, .long (0 : Int64)), (0, .ref (am_B Z + a0))]) dX4_bucketOfFresh_1 rfl (Nat.le_of_ble_eq_true rfl) rfl ?_
  refine am_iconst (v := 0) dX4_bucketOfFresh_2 (by decide) ?_
  refine am_istore_n (ls' := [(3, .int (0 : Int32)), (1, .long (0 : Int64)), (0, .ref (am_B Z + a0))]) dX4_bucketOfFresh_3 rfl (Nat.le_of_ble_eq_true rfl) rfl ?_
  refine am_sub (ls' := [(0, .ref (am_B Z + a0)), (1, .long (0 : Int64)), (3, .int (0 : Int32))]) [2, 1, 0] rfl ?_
  exact uX4_bucketOfFresh_4 R I L a0 h_a0 am_fu (0 : Int64) (0 : Int32)
abbrev kX4_cell : am_K := (cX4_cell, 4, RX4, wsX4_cell, some .long, { frames := 0, cells := 0, slots := 0, locals := 0 })
theorem hX4_cell : am_cl yX4_cell kX4_cell 2 := ⟨⟨_, rfl⟩, rfl, rfl, by decide +kernel, by decide +kernel, by decide +kernel⟩
theorem iX4_cell_4 : ∀ w ∈ u_ws RX4 TX4 5, w ∈ wsX4_cell := by decide +kernel
theorem fX4_cell_9 : Cond.fieldLink RX4 9 "AmbiguityAnalyzer$RowStore" "cells" "[J" ∈ wsX4_cell := by decide +kernel
set_option maxRecDepth 100000 in
set_option maxHeartbeats 4000000 in
theorem tX4_cell {Z : am_Z} (R : am_R) (I : am_I) (L : am_L) (a0 : Nat) (x1 : Int32) (x2 : Int32) (h_a0 : am_G Z a0 = some (.inl 4)) : am_M Z yX4_cell kX4_cell [.ref (am_B Z + a0), .int x1, .int x2] R I L (pX4_cell R L a0 x1 x2) (fun r : Int64 => (some (.long r), R, I, L)) := by
  refine am_entry (ls := [(0, .ref (am_B Z + a0)), (1, .int x1), (2, .int x2)]) (by decide) hX4_cell rfl (Nat.le_of_ble_eq_true rfl) rfl (fun X => ?_)
  unfold pX4_cell
  refine am_iload_n dX4_cell_0 rfl 1 rfl ?_
  refine am_bipush (v := 6) dX4_cell_1 (by decide) ?_
  refine am_imul dX4_cell_3 ?_
  refine am_iload_n dX4_cell_4 rfl 2 rfl ?_
  refine am_iadd dX4_cell_5 ?_
  refine am_letTi (fun v1 => ?_)
  refine am_istore_n (ls' := [(3, .int v1), (0, .ref (am_B Z + a0)), (1, .int x1), (2, .int x2)]) dX4_cell_6 rfl (Nat.le_of_ble_eq_true rfl) rfl ?_
  refine am_iload_n dX4_cell_7 rfl 0 rfl ?_
  refine am_if_lt (tgt := 29) dX4_cell_8 rfl (fun e2 => ?_) (fun e2 => ?_)
  · refine am_lconst (v := 0) dX4_cell_29 (by decide) ?_
    exact am_lret dX4_cell_30 rfl rfl
  · refine am_iload_n dX4_cell_11 rfl 0 rfl ?_
    refine am_aload_n dX4_cell_12 rfl 1 rfl ?_
    refine am_getR 4 0 clX4 (Nat.le_of_ble_eq_true rfl) h_a0 iX4_cell_4 fX4_cell_9 rfl rfl dX4_cell_13 (fun h3 => ?_)
    refine am_alen (t := 1) (v := 6000) rfl h3 (by decide) dX4_cell_16 ?_
    refine am_icmp_ge (tgt := 29) dX4_cell_17 rfl (fun e4 => ?_) (fun e4 => ?_)
    · refine am_lconst (v := 0) dX4_cell_29 (by decide) ?_
      exact am_lret dX4_cell_30 rfl rfl
    · refine am_aload_n dX4_cell_20 rfl 1 rfl ?_
      refine am_getR 4 0 clX4 (Nat.le_of_ble_eq_true rfl) h_a0 iX4_cell_4 fX4_cell_9 rfl rfl dX4_cell_21 (fun h5 => ?_)
      refine am_iload_n dX4_cell_24 rfl 0 rfl ?_
      refine am_lald h5 dX4_cell_25 ?_
      refine am_goto (tgt := 30) dX4_cell_26 rfl ?_
      exact am_lret dX4_cell_30 rfl rfl
abbrev kX4_equalsFresh : am_K := (cX4_equalsFresh, 3, RX4, wsX4_equalsFresh, some .boolean, { frames := 1, cells := 0, slots := 0, locals := 23 })
theorem hX4_equalsFresh : am_cl yX4_equalsFresh kX4_equalsFresh 1 := ⟨⟨_, rfl⟩, rfl, rfl, by decide +kernel, by decide +kernel, by decide +kernel⟩
theorem iX4_equalsFresh_4 : ∀ w ∈ u_ws RX4 TX4 5, w ∈ wsX4_equalsFresh := by decide +kernel
theorem fX4_equalsFresh_15 : Cond.fieldLink RX4 15 "AmbiguityAnalyzer$RowStore" "fresh" "[J" ∈ wsX4_equalsFresh := by decide +kernel
set_option maxRecDepth 100000 in
set_option maxHeartbeats 4000000 in
theorem vX4_equalsFresh_2 {Z : am_Z} {X : am_X} (R : am_R) (I : am_I) (L : am_L) (a0 : Nat) (x1 : Int32) (h1 : am_G Z a0 = some (.inl 4)) (ih3 : Int32 → Option (Int32)) (hih3 : ∀ (v2 : Int32), am_V Z X kX4_equalsFresh (fun r : Int32 => (some (.int r), R, I, L)) 2 [(0, .ref (am_B Z + a0)), (1, .int x1), (2, .int v2)] [] R I L (ih3 v2)) (v2 : Int32) : am_V Z X kX4_equalsFresh (fun r : Int32 => (some (.int r), R, I, L)) 2 [(0, .ref (am_B Z + a0)), (1, .int x1), (2, .int v2)] [] R I L (sX4_equalsFresh_2 R L a0 x1 ih3 v2) := by
  unfold sX4_equalsFresh_2
  refine am_iload_n dX4_equalsFresh_2 rfl 2 rfl ?_
  refine am_bipush (v := 6) dX4_equalsFresh_3 (by decide) ?_
  refine am_icmp_ge (tgt := 32) dX4_equalsFresh_5 rfl (fun e4 => ?_) (fun e4 => ?_)
  · refine am_iconst (v := 1) dX4_equalsFresh_32 (by decide) ?_
    exact am_zret (by decide) dX4_equalsFresh_33 rfl rfl
  · refine am_aload_n dX4_equalsFresh_8 rfl 0 rfl ?_
    refine am_iload_n dX4_equalsFresh_9 rfl 1 rfl ?_
    refine am_iload_n dX4_equalsFresh_10 rfl 2 rfl ?_
    refine am_callV [.int x1, .int v2] (tX4_cell R I L a0 x1 v2 h1) h1 clX4 gX4_equalsFresh_X4_cell hX4_cell rfl ⟨Nat.le_of_ble_eq_true rfl, Nat.le_of_ble_eq_true rfl⟩ rfl rfl (Nat.le_of_ble_eq_true rfl) dX4_equalsFresh_11 (fun r5 => ?_)
    show am_V Z X kX4_equalsFresh (fun r : Int32 => (some (.int r), R, I, L)) 14 [(0, .ref (am_B Z + a0)), (1, .int x1), (2, .int v2)] [.long r5] R I L _
    refine am_aload_n dX4_equalsFresh_14 rfl 0 rfl ?_
    refine am_getR 4 1 clX4 (Nat.le_of_ble_eq_true rfl) h1 iX4_equalsFresh_4 fX4_equalsFresh_15 rfl rfl dX4_equalsFresh_15 (fun h6 => ?_)
    refine am_iload_n dX4_equalsFresh_18 rfl 2 rfl ?_
    refine am_lald h6 dX4_equalsFresh_19 ?_
    refine am_lcmp dX4_equalsFresh_20 ?_
    refine am_if_eq (tgt := 26) dX4_equalsFresh_21 rfl (fun e7 => ?_) (fun e7 => ?_)
    · refine am_iinc (j := 2) (ls' := [(2, .int (v2 + (1 : Int32))), (0, .ref (am_B Z + a0)), (1, .int x1)]) dX4_equalsFresh_26 rfl rfl (Nat.le_of_ble_eq_true rfl) rfl ?_
      refine am_goto (tgt := 2) dX4_equalsFresh_29 rfl ?_
      refine am_sub (ls' := [(0, .ref (am_B Z + a0)), (1, .int x1), (2, .int (v2 + (1 : Int32)))]) [1, 2, 0] rfl ?_
      exact hih3 (v2 + (1 : Int32))
    · refine am_iconst (v := 0) dX4_equalsFresh_24 (by decide) ?_
      exact am_zret (by decide) dX4_equalsFresh_25 rfl rfl
theorem uX4_equalsFresh_2 {Z : am_Z} {X : am_X} (R : am_R) (I : am_I) (L : am_L) (a0 : Nat) (x1 : Int32) (h1 : am_G Z a0 = some (.inl 4)) : ∀ (n : Nat) (v2 : Int32), am_V Z X kX4_equalsFresh (fun r : Int32 => (some (.int r), R, I, L)) 2 [(0, .ref (am_B Z + a0)), (1, .int x1), (2, .int v2)] [] R I L (lX4_equalsFresh_2 R L a0 x1 n v2) := by
  intro n
  induction n with
  | zero => intro _; exact am_none
  | succ n ih => exact fun v2 => vX4_equalsFresh_2 R I L a0 x1 h1 (lX4_equalsFresh_2 R L a0 x1 n) ih v2
set_option maxRecDepth 100000 in
set_option maxHeartbeats 4000000 in
theorem tX4_equalsFresh {Z : am_Z} (R : am_R) (I : am_I) (L : am_L) (a0 : Nat) (x1 : Int32) (h_a0 : am_G Z a0 = some (.inl 4)) : am_M Z yX4_equalsFresh kX4_equalsFresh [.ref (am_B Z + a0), .int x1] R I L (pX4_equalsFresh R L a0 x1) (fun r : Int32 => (some (.int r), R, I, L)) := by
  refine am_entry (ls := [(0, .ref (am_B Z + a0)), (1, .int x1)]) (by decide) hX4_equalsFresh rfl (Nat.le_of_ble_eq_true rfl) rfl (fun X => ?_)
  unfold pX4_equalsFresh
  refine am_iconst (v := 0) dX4_equalsFresh_0 (by decide) ?_
  refine am_istore_n (ls' := [(2, .int (0 : Int32)), (0, .ref (am_B Z + a0)), (1, .int x1)]) dX4_equalsFresh_1 rfl (Nat.le_of_ble_eq_true rfl) rfl ?_
  refine am_sub (ls' := [(0, .ref (am_B Z + a0)), (1, .int x1), (2, .int (0 : Int32))]) [1, 2, 0] rfl ?_
  exact uX4_equalsFresh_2 R I L a0 x1 h_a0 am_fu (0 : Int32)
abbrev kX4_isKept : am_K := (cX4_isKept, 4, RX4, wsX4_isKept, some .boolean, { frames := 2, cells := 0, slots := 0, locals := 45 })
theorem hX4_isKept : am_cl yX4_isKept kX4_isKept 1 := ⟨⟨_, rfl⟩, rfl, rfl, by decide +kernel, by decide +kernel, by decide +kernel⟩
theorem iX4_isKept_4 : ∀ w ∈ u_ws RX4 TX4 5, w ∈ wsX4_isKept := by decide +kernel
theorem fX4_isKept_22 : Cond.fieldLink RX4 22 "AmbiguityAnalyzer$RowStore" "older" "[I" ∈ wsX4_isKept := by decide +kernel
set_option maxRecDepth 100000 in
set_option maxHeartbeats 4000000 in
theorem vX4_isKept_4 {Z : am_Z} {X : am_X} (R : am_R) (I : am_I) (L : am_L) (a0 : Nat) (h1 : am_G Z a0 = some (.inl 4)) (ih4 : Int32 → Int32 → Option (Int32)) (hih4 : ∀ (v2 : Int32) (v3 : Int32), am_V Z X kX4_isKept (fun r : Int32 => (some (.int r), R, I, L)) 4 [(0, .ref (am_B Z + a0)), (2, .int v2), (3, .int v3)] [] R I L (ih4 v2 v3)) (v2 : Int32) (v3 : Int32) : am_V Z X kX4_isKept (fun r : Int32 => (some (.int r), R, I, L)) 4 [(0, .ref (am_B Z + a0)), (2, .int v2), (3, .int v3)] [] R I L (sX4_isKept_4 R I L a0 ih4 v2 v3) := by
  unfold sX4_isKept_4
  refine am_iload_n dX4_isKept_4 rfl 2 rfl ?_
  refine am_sipush (v := 1000) dX4_isKept_5 (by decide) ?_
  refine am_icmp_ge (tgt := 45) dX4_isKept_8 rfl (fun e5 => ?_) (fun e5 => ?_)
  · refine am_iconst (v := 0) dX4_isKept_45 (by decide) ?_
    exact am_zret (by decide) dX4_isKept_46 rfl rfl
  · refine am_iload_n dX4_isKept_11 rfl 1 rfl ?_
    refine am_if_lt (tgt := 45) dX4_isKept_12 rfl (fun e6 => ?_) (fun e6 => ?_)
    · refine am_iconst (v := 0) dX4_isKept_45 (by decide) ?_
      exact am_zret (by decide) dX4_isKept_46 rfl rfl
    · refine am_iload_n dX4_isKept_15 rfl 1 rfl ?_
      refine am_sipush (v := 1000) dX4_isKept_16 (by decide) ?_
      refine am_icmp_ge (tgt := 45) dX4_isKept_19 rfl (fun e7 => ?_) (fun e7 => ?_)
      · refine am_iconst (v := 0) dX4_isKept_45 (by decide) ?_
        exact am_zret (by decide) dX4_isKept_46 rfl rfl
      · refine am_aload_n dX4_isKept_22 rfl 0 rfl ?_
        refine am_iload_n dX4_isKept_23 rfl 1 rfl ?_
        refine am_callV [.int v2] (tX4_equalsFresh R I L a0 v2 h1) h1 clX4 gX4_isKept_X4_equalsFresh hX4_equalsFresh rfl ⟨Nat.le_of_ble_eq_true rfl, Nat.le_of_ble_eq_true rfl⟩ rfl rfl (Nat.le_of_ble_eq_true rfl) dX4_isKept_24 (fun r8 => ?_)
        show am_V Z X kX4_isKept (fun r : Int32 => (some (.int r), R, I, L)) 27 [(0, .ref (am_B Z + a0)), (2, .int v2), (3, .int v3)] [.int r8] R I L _
        refine am_if_eq (tgt := 32) dX4_isKept_27 rfl (fun e9 => ?_) (fun e9 => ?_)
        · refine am_aload_n dX4_isKept_32 rfl 0 rfl ?_
          refine am_getR 4 3 clX4 (Nat.le_of_ble_eq_true rfl) h1 iX4_isKept_4 fX4_isKept_22 rfl rfl dX4_isKept_33 (fun h10 => ?_)
          refine am_iload_n dX4_isKept_36 rfl 1 rfl ?_
          refine am_iald h10 dX4_isKept_37 ?_
          refine am_letTi (fun v11 => ?_)
          refine am_istore_n (ls' := [(2, .int v11), (0, .ref (am_B Z + a0)), (3, .int v3)]) dX4_isKept_38 rfl (Nat.le_of_ble_eq_true rfl) rfl ?_
          refine am_iinc (j := 2) (ls' := [(3, .int (v3 + (1 : Int32))), (2, .int v11), (0, .ref (am_B Z + a0))]) dX4_isKept_39 rfl rfl (Nat.le_of_ble_eq_true rfl) rfl ?_
          refine am_goto (tgt := 4) dX4_isKept_42 rfl ?_
          refine am_sub (ls' := [(0, .ref (am_B Z + a0)), (2, .int v11), (3, .int (v3 + (1 : Int32)))]) [2, 1, 0] rfl ?_
          exact hih4 v11 (v3 + (1 : Int32))
        · refine am_iconst (v := 1) dX4_isKept_30 (by decide) ?_
          exact am_zret (by decide) dX4_isKept_31 rfl rfl
theorem uX4_isKept_4 {Z : am_Z} {X : am_X} (R : am_R) (I : am_I) (L : am_L) (a0 : Nat) (h1 : am_G Z a0 = some (.inl 4)) : ∀ (n : Nat) (v2 : Int32) (v3 : Int32), am_V Z X kX4_isKept (fun r : Int32 => (some (.int r), R, I, L)) 4 [(0, .ref (am_B Z + a0)), (2, .int v2), (3, .int v3)] [] R I L (lX4_isKept_4 R I L a0 n v2 v3) := by
  intro n
  induction n with
  | zero => intro _ _; exact am_none
  | succ n ih => exact fun v2 v3 => vX4_isKept_4 R I L a0 h1 (lX4_isKept_4 R I L a0 n) ih v2 v3
set_option maxRecDepth 100000 in
set_option maxHeartbeats 4000000 in
theorem tX4_isKept {Z : am_Z} (R : am_R) (I : am_I) (L : am_L) (a0 : Nat) (x1 : Int32) (h_a0 : am_G Z a0 = some (.inl 4)) : am_M Z yX4_isKept kX4_isKept [.ref (am_B Z + a0), .int x1] R I L (pX4_isKept R I L a0 x1) (fun r : Int32 => (some (.int r), R, I, L)) := by
  refine am_entry (ls := [(0, .ref (am_B Z + a0)), (1, .int x1)]) (by decide) hX4_isKept rfl (Nat.le_of_ble_eq_true rfl) rfl (fun X => ?_)
  unfold pX4_isKept
  refine am_iload_n dX4_isKept_0 rfl 1 rfl ?_
  refine am_istore_n (ls' := [(2, .int x1), (0, .ref (am_B Z + a0)), (1, .int x1)]) dX4_isKept_1 rfl (Nat.le_of_ble_eq_true rfl) rfl ?_
  refine am_iconst (v := 0) dX4_isKept_2 (by decide) ?_
  refine am_istore_n (ls' := [(3, .int (0 : Int32)), (2, .int x1), (0, .ref (am_B Z + a0)), (1, .int x1)]) dX4_isKept_3 rfl (Nat.le_of_ble_eq_true rfl) rfl ?_
  refine am_sub (ls' := [(0, .ref (am_B Z + a0)), (2, .int x1), (3, .int (0 : Int32))]) [2, 1, 0] rfl ?_
  exact uX4_isKept_4 R I L a0 h_a0 am_fu x1 (0 : Int32)
abbrev kX4_keepFresh : am_K := (cX4_keepFresh, 3, RX4, wsX4_keepFresh, some .boolean, { frames := 3, cells := 0, slots := 0, locals := 68 })
theorem hX4_keepFresh : am_cl yX4_keepFresh kX4_keepFresh 0 := ⟨⟨_, rfl⟩, rfl, rfl, by decide +kernel, by decide +kernel, by decide +kernel⟩
theorem iX4_keepFresh_4 : ∀ w ∈ u_ws RX4 TX4 5, w ∈ wsX4_keepFresh := by decide +kernel
theorem fX4_keepFresh_18 : Cond.fieldLink RX4 18 "AmbiguityAnalyzer$RowStore" "newest" "[I" ∈ wsX4_keepFresh := by decide +kernel
theorem fX4_keepFresh_46 : Cond.fieldLink RX4 46 "AmbiguityAnalyzer$RowStore" "count" "I" ∈ wsX4_keepFresh := by decide +kernel
theorem fX4_keepFresh_9 : Cond.fieldLink RX4 9 "AmbiguityAnalyzer$RowStore" "cells" "[J" ∈ wsX4_keepFresh := by decide +kernel
theorem fX4_keepFresh_15 : Cond.fieldLink RX4 15 "AmbiguityAnalyzer$RowStore" "fresh" "[J" ∈ wsX4_keepFresh := by decide +kernel
theorem fX4_keepFresh_22 : Cond.fieldLink RX4 22 "AmbiguityAnalyzer$RowStore" "older" "[I" ∈ wsX4_keepFresh := by decide +kernel
set_option maxRecDepth 100000 in
set_option maxHeartbeats 4000000 in
theorem vX4_keepFresh_34 {Z : am_Z} {X : am_X} (R : am_R) (I : am_I) (a0 : Nat) (r1 : Int32) (h14 : am_G Z a0 = some (.inl 4)) (j6 : am_L → Option (Int32 × am_I × am_L)) (hj6 : ∀ (J7 : am_L), am_V Z X kX4_keepFresh (fun r : Int32 × am_I × am_L => (some (.int r.1), R, r.2.1, r.2.2)) 66 [(0, .ref (am_B Z + a0)), (1, .int r1)] [] R I J7 (j6 J7)) (ih17 : Int32 → am_L → Option (Int32 × am_I × am_L)) (hih17 : ∀ (v15 : Int32) (J16 : am_L), am_V Z X kX4_keepFresh (fun r : Int32 × am_I × am_L => (some (.int r.1), R, r.2.1, r.2.2)) 34 [(0, .ref (am_B Z + a0)), (1, .int r1), (2, .int v15)] [] R I J16 (ih17 v15 J16)) (v15 : Int32) (J16 : am_L) : am_V Z X kX4_keepFresh (fun r : Int32 × am_I × am_L => (some (.int r.1), R, r.2.1, r.2.2)) 34 [(0, .ref (am_B Z + a0)), (1, .int r1), (2, .int v15)] [] R I J16 (sX4_keepFresh_34 R I a0 r1 j6 ih17 v15 J16) := by
  unfold sX4_keepFresh_34
  refine am_iload_n dX4_keepFresh_34 rfl 2 rfl ?_
  refine am_bipush (v := 6) dX4_keepFresh_35 (by decide) ?_
  refine am_icmp_ge (tgt := 66) dX4_keepFresh_37 rfl (fun e18 => ?_) (fun e18 => ?_)
  · refine am_sub (ls' := [(0, .ref (am_B Z + a0)), (1, .int r1)]) [0, 1] rfl ?_
    exact hj6 J16
  · refine am_aload_n dX4_keepFresh_40 rfl 0 rfl ?_
    refine am_getR 4 0 clX4 (Nat.le_of_ble_eq_true rfl) h14 iX4_keepFresh_4 fX4_keepFresh_9 rfl rfl dX4_keepFresh_41 (fun h19 => ?_)
    refine am_aload_n dX4_keepFresh_44 rfl 0 rfl ?_
    refine am_get 4 4 clX4 (Nat.le_of_ble_eq_true rfl) h14 iX4_keepFresh_4 fX4_keepFresh_46 rfl dX4_keepFresh_45 ?_
    refine am_bipush (v := 6) dX4_keepFresh_48 (by decide) ?_
    refine am_imul dX4_keepFresh_50 ?_
    refine am_iload_n dX4_keepFresh_51 rfl 2 rfl ?_
    refine am_iadd dX4_keepFresh_52 ?_
    refine am_aload_n dX4_keepFresh_53 rfl 0 rfl ?_
    refine am_getR 4 1 clX4 (Nat.le_of_ble_eq_true rfl) h14 iX4_keepFresh_4 fX4_keepFresh_15 rfl rfl dX4_keepFresh_54 (fun h20 => ?_)
    refine am_iload_n dX4_keepFresh_57 rfl 2 rfl ?_
    refine am_lald h20 dX4_keepFresh_58 ?_
    refine am_last h19 dX4_keepFresh_59 ?_
    refine am_letL (fun J21 => ?_)
    refine am_iinc (j := 2) (ls' := [(2, .int (v15 + (1 : Int32))), (0, .ref (am_B Z + a0)), (1, .int r1)]) dX4_keepFresh_60 rfl rfl (Nat.le_of_ble_eq_true rfl) rfl ?_
    refine am_goto (tgt := 34) dX4_keepFresh_63 rfl ?_
    refine am_sub (ls' := [(0, .ref (am_B Z + a0)), (1, .int r1), (2, .int (v15 + (1 : Int32)))]) [1, 2, 0] rfl ?_
    exact hih17 (v15 + (1 : Int32)) J21
theorem uX4_keepFresh_34 {Z : am_Z} {X : am_X} (R : am_R) (I : am_I) (a0 : Nat) (r1 : Int32) (h14 : am_G Z a0 = some (.inl 4)) (j6 : am_L → Option (Int32 × am_I × am_L)) (hj6 : ∀ (J7 : am_L), am_V Z X kX4_keepFresh (fun r : Int32 × am_I × am_L => (some (.int r.1), R, r.2.1, r.2.2)) 66 [(0, .ref (am_B Z + a0)), (1, .int r1)] [] R I J7 (j6 J7)) : ∀ (n : Nat) (v15 : Int32) (J16 : am_L), am_V Z X kX4_keepFresh (fun r : Int32 × am_I × am_L => (some (.int r.1), R, r.2.1, r.2.2)) 34 [(0, .ref (am_B Z + a0)), (1, .int r1), (2, .int v15)] [] R I J16 (lX4_keepFresh_34 R I a0 r1 j6 n v15 J16) := by
  intro n
  induction n with
  | zero => intro _ _; exact am_none
  | succ n ih => exact fun v15 J16 => vX4_keepFresh_34 R I a0 r1 h14 j6 hj6 (lX4_keepFresh_34 R I a0 r1 j6 n) ih v15 J16
set_option maxRecDepth 100000 in
set_option maxHeartbeats 4000000 in
theorem tX4_keepFresh {Z : am_Z} (R : am_R) (I : am_I) (L : am_L) (a0 : Nat) (h_a0 : am_G Z a0 = some (.inl 4)) : am_M Z yX4_keepFresh kX4_keepFresh [.ref (am_B Z + a0)] R I L (pX4_keepFresh R I L a0) (fun r : Int32 × am_I × am_L => (some (.int r.1), R, r.2.1, r.2.2)) := by
  refine am_entry (ls := [(0, .ref (am_B Z + a0))]) (by decide) hX4_keepFresh rfl (Nat.le_of_ble_eq_true rfl) rfl (fun X => ?_)
  unfold pX4_keepFresh
  refine am_aload_n dX4_keepFresh_0 rfl 0 rfl ?_
  refine am_callV [] (tX4_bucketOfFresh R I L a0 h_a0) h_a0 clX4 gX4_keepFresh_X4_bucketOfFresh hX4_bucketOfFresh rfl ⟨Nat.le_of_ble_eq_true rfl, Nat.le_of_ble_eq_true rfl⟩ rfl rfl (Nat.le_of_ble_eq_true rfl) dX4_keepFresh_1 (fun r1 => ?_)
  show am_V Z X kX4_keepFresh (fun r : Int32 × am_I × am_L => (some (.int r.1), R, r.2.1, r.2.2)) 4 [(0, .ref (am_B Z + a0))] [.int r1] R I L _
  refine am_istore_n (ls' := [(1, .int r1), (0, .ref (am_B Z + a0))]) dX4_keepFresh_4 rfl (Nat.le_of_ble_eq_true rfl) rfl ?_
  refine am_aload_n dX4_keepFresh_5 rfl 1 rfl ?_
  refine am_aload_n dX4_keepFresh_6 rfl 1 rfl ?_
  refine am_getR 4 2 clX4 (Nat.le_of_ble_eq_true rfl) h_a0 iX4_keepFresh_4 fX4_keepFresh_18 rfl rfl dX4_keepFresh_7 (fun h2 => ?_)
  refine am_iload_n dX4_keepFresh_10 rfl 0 rfl ?_
  refine am_iald h2 dX4_keepFresh_11 ?_
  refine am_callV [.int (I (R a0 2) (Int32.toNatClampNeg r1))] (tX4_isKept R I L a0 (I (R a0 2) (Int32.toNatClampNeg r1)) h_a0) h_a0 clX4 gX4_keepFresh_X4_isKept hX4_isKept rfl ⟨Nat.le_of_ble_eq_true rfl, Nat.le_of_ble_eq_true rfl⟩ rfl rfl (Nat.le_of_ble_eq_true rfl) dX4_keepFresh_12 (fun r3 => ?_)
  show am_V Z X kX4_keepFresh (fun r : Int32 × am_I × am_L => (some (.int r.1), R, r.2.1, r.2.2)) 15 [(1, .int r1), (0, .ref (am_B Z + a0))] [.int r3] R I L _
  refine am_if_eq (tgt := 20) dX4_keepFresh_15 rfl (fun e4 => ?_) (fun e4 => ?_)
  · refine am_aload_n dX4_keepFresh_20 rfl 1 rfl ?_
    refine am_get 4 4 clX4 (Nat.le_of_ble_eq_true rfl) h_a0 iX4_keepFresh_4 fX4_keepFresh_46 rfl dX4_keepFresh_21 ?_
    refine am_sipush (v := 1000) dX4_keepFresh_24 (by decide) ?_
    refine am_icmp_lt (tgt := 32) dX4_keepFresh_27 rfl (fun e5 => ?_) (fun e5 => ?_)
    · refine am_iconst (v := 0) dX4_keepFresh_32 (by decide) ?_
      refine am_istore_n (ls' := [(2, .int (0 : Int32)), (1, .int r1), (0, .ref (am_B Z + a0))]) dX4_keepFresh_33 rfl (Nat.le_of_ble_eq_true rfl) rfl ?_
      refine am_jnV (fun j6 ej6 => ?_)
      have hj6 : ∀ (J7 : am_L), am_V Z X kX4_keepFresh (fun r : Int32 × am_I × am_L => (some (.int r.1), R, r.2.1, r.2.2)) 66 [(0, .ref (am_B Z + a0)), (1, .int r1)] [] R I J7 (j6 J7) := by
        subst ej6
        intro J7
        show am_V Z X kX4_keepFresh (fun r : Int32 × am_I × am_L => (some (.int r.1), R, r.2.1, r.2.2)) 66 [(0, .ref (am_B Z + a0)), (1, .int r1)] [] R I J7 _
        refine am_aload_n dX4_keepFresh_66 rfl 0 rfl ?_
        refine am_getR 4 3 clX4 (Nat.le_of_ble_eq_true rfl) h_a0 iX4_keepFresh_4 fX4_keepFresh_22 rfl rfl dX4_keepFresh_67 (fun h8 => ?_)
        refine am_aload_n dX4_keepFresh_70 rfl 0 rfl ?_
        refine am_get 4 4 clX4 (Nat.le_of_ble_eq_true rfl) h_a0 iX4_keepFresh_4 fX4_keepFresh_46 rfl dX4_keepFresh_71 ?_
        refine am_aload_n dX4_keepFresh_74 rfl 0 rfl ?_
        refine am_getR 4 2 clX4 (Nat.le_of_ble_eq_true rfl) h_a0 iX4_keepFresh_4 fX4_keepFresh_18 rfl rfl dX4_keepFresh_75 (fun h9 => ?_)
        refine am_iload_n dX4_keepFresh_78 rfl 1 rfl ?_
        refine am_iald h9 dX4_keepFresh_79 ?_
        refine am_iast h8 dX4_keepFresh_80 ?_
        refine am_letI (fun J10 => ?_)
        refine am_aload_n dX4_keepFresh_81 rfl 0 rfl ?_
        refine am_getR 4 2 clX4 (Nat.le_of_ble_eq_true rfl) h_a0 iX4_keepFresh_4 fX4_keepFresh_18 rfl rfl dX4_keepFresh_82 (fun h11 => ?_)
        refine am_iload_n dX4_keepFresh_85 rfl 1 rfl ?_
        refine am_aload_n dX4_keepFresh_86 rfl 0 rfl ?_
        refine am_get 4 4 clX4 (Nat.le_of_ble_eq_true rfl) h_a0 iX4_keepFresh_4 fX4_keepFresh_46 rfl dX4_keepFresh_87 ?_
        refine am_iast h11 dX4_keepFresh_90 ?_
        refine am_letI (fun J12 => ?_)
        refine am_aload_n dX4_keepFresh_91 rfl 0 rfl ?_
        refine am_dup dX4_keepFresh_92 rfl ?_
        refine am_get 4 4 clX4 (Nat.le_of_ble_eq_true rfl) h_a0 iX4_keepFresh_4 fX4_keepFresh_46 rfl dX4_keepFresh_93 ?_
        refine am_iconst (v := 1) dX4_keepFresh_96 (by decide) ?_
        refine am_iadd dX4_keepFresh_97 ?_
        refine am_putI 4 4 clX4 (Nat.le_of_ble_eq_true rfl) h_a0 iX4_keepFresh_4 fX4_keepFresh_46 rfl rfl dX4_keepFresh_98 ?_
        refine am_letI (fun J13 => ?_)
        refine am_iconst (v := 1) dX4_keepFresh_101 (by decide) ?_
        exact am_zret (by decide) dX4_keepFresh_102 rfl rfl
      refine am_sub (ls' := [(0, .ref (am_B Z + a0)), (1, .int r1), (2, .int (0 : Int32))]) [2, 1, 0] rfl ?_
      exact uX4_keepFresh_34 R I a0 r1 h_a0 j6 hj6 am_fu (0 : Int32) L
    · refine am_iconst (v := 0) dX4_keepFresh_30 (by decide) ?_
      exact am_zret (by decide) dX4_keepFresh_31 rfl rfl
  · refine am_iconst (v := 1) dX4_keepFresh_18 (by decide) ?_
    exact am_zret (by decide) dX4_keepFresh_19 rfl rfl
