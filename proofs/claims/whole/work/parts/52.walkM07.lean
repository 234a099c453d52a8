abbrev kX11_buildsSets : am_K := (cX11_buildsSets, 4, RX11, wsX11_buildsSets, some .boolean, { frames := 2, cells := 0, slots := 0, locals := 46 })
theorem hX11_buildsSets : am_cl yX11_buildsSets kX11_buildsSets 0 := ⟨⟨_, rfl⟩, rfl, rfl, by decide +kernel, by decide +kernel, by decide +kernel⟩
theorem iX11_buildsSets_11 : ∀ w ∈ u_ws RX11 TX11 50, w ∈ wsX11_buildsSets := by decide +kernel
theorem fX11_buildsSets_112 : Cond.fieldLink RX11 112 "AmbiguityAnalyzerModel" "initials" "I" ∈ wsX11_buildsSets := by decide +kernel
theorem fX11_buildsSets_335 : Cond.fieldLink RX11 335 "AmbiguityAnalyzerModel" "found" "I" ∈ wsX11_buildsSets := by decide +kernel
theorem fX11_buildsSets_85 : Cond.fieldLink RX11 85 "AmbiguityAnalyzerModel" "newLower" "[I" ∈ wsX11_buildsSets := by decide +kernel
theorem fX11_buildsSets_91 : Cond.fieldLink RX11 91 "AmbiguityAnalyzerModel" "newTargets" "[J" ∈ wsX11_buildsSets := by decide +kernel
set_option maxRecDepth 100000 in
set_option maxHeartbeats 4000000 in
theorem vX11_buildsSets_29 {Z : am_Z} {X : am_X} (R : am_R) (a0 : Nat) (v4 : Int32) (h12 : am_G Z a0 = some (.inl 11)) (j9 : am_I → am_L → Option (Int32 × am_I × am_L)) (hj9 : ∀ (J10 : am_I) (J11 : am_L), am_V Z X kX11_buildsSets (fun r : Int32 × am_I × am_L => (some (.int r.1), R, r.2.1, r.2.2)) 78 [(0, .ref (am_B Z + a0)), (1, .int v4)] [] R J10 J11 (j9 J10 J11)) (ih16 : Int32 → am_I → am_L → Option (Int32 × am_I × am_L)) (hih16 : ∀ (v13 : Int32) (J14 : am_I) (J15 : am_L), am_V Z X kX11_buildsSets (fun r : Int32 × am_I × am_L => (some (.int r.1), R, r.2.1, r.2.2)) 29 [(0, .ref (am_B Z + a0)), (1, .int v4), (2, .int v13)] [] R J14 J15 (ih16 v13 J14 J15)) (v13 : Int32) (J14 : am_I) (J15 : am_L) : am_V Z X kX11_buildsSets (fun r : Int32 × am_I × am_L => (some (.int r.1), R, r.2.1, r.2.2)) 29 [(0, .ref (am_B Z + a0)), (1, .int v4), (2, .int v13)] [] R J14 J15 (sX11_buildsSets_29 R a0 v4 j9 ih16 v13 J14 J15) := by
  unfold sX11_buildsSets_29
  refine am_iload_n dX11_buildsSets_29 rfl 2 rfl ?_
  refine am_iconst (v := 3) dX11_buildsSets_30 (by decide) ?_
  refine am_icmp_ge (tgt := 78) dX11_buildsSets_31 rfl (fun e17 => ?_) (fun e17 => ?_)
  · refine am_sub (ls' := [(0, .ref (am_B Z + a0)), (1, .int v4)]) [0, 1] rfl ?_
    exact hj9 J14 J15
  · refine am_aload_n dX11_buildsSets_34 rfl 0 rfl ?_
    refine am_aload_n dX11_buildsSets_35 rfl 0 rfl ?_
    refine am_getR 11 37 clX11 (Nat.le_of_ble_eq_true rfl) h12 iX11_buildsSets_11 fX11_buildsSets_85 rfl rfl dX11_buildsSets_36 (fun h18 => ?_)
    refine am_iload_n dX11_buildsSets_39 rfl 1 rfl ?_
    refine am_iald h18 dX11_buildsSets_40 ?_
    refine am_iload_n dX11_buildsSets_41 rfl 2 rfl ?_
    refine am_callV [.int (J14 (R a0 37) (Int32.toNatClampNeg v4)), .int v13] (tX11_step R J14 J15 a0 (J14 (R a0 37) (Int32.toNatClampNeg v4)) v13 h12) h12 clX11 gX11_buildsSets_X11_step hX11_step rfl ⟨Nat.le_of_ble_eq_true rfl, Nat.le_of_ble_eq_true rfl⟩ rfl rfl (Nat.le_of_ble_eq_true rfl) dX11_buildsSets_42 (fun r19 => ?_)
    show am_V Z X kX11_buildsSets (fun r : Int32 × am_I × am_L => (some (.int r.1), R, r.2.1, r.2.2)) 45 [(0, .ref (am_B Z + a0)), (1, .int v4), (2, .int v13)] [.int r19] R J14 J15 _
    refine am_istore_n (ls' := [(3, .int r19), (0, .ref (am_B Z + a0)), (1, .int v4), (2, .int v13)]) dX11_buildsSets_45 rfl (Nat.le_of_ble_eq_true rfl) rfl ?_
    refine am_aload_n dX11_buildsSets_46 rfl 1 rfl ?_
    refine am_getR 11 39 clX11 (Nat.le_of_ble_eq_true rfl) h12 iX11_buildsSets_11 fX11_buildsSets_91 rfl rfl dX11_buildsSets_47 (fun h20 => ?_)
    refine am_iconst (v := 3) dX11_buildsSets_50 (by decide) ?_
    refine am_iload_n dX11_buildsSets_51 rfl 2 rfl ?_
    refine am_imul dX11_buildsSets_52 ?_
    refine am_iload_n dX11_buildsSets_53 rfl 3 rfl ?_
    refine am_iadd dX11_buildsSets_54 ?_
    refine am_iload_n dX11_buildsSets_55 rfl 0 rfl ?_
    refine am_jnV (fun j21 ej21 => ?_)
    have hj21 : ∀ (v22 : Int64) (J23 : am_I), am_V Z X kX11_buildsSets (fun r : Int32 × am_I × am_L => (some (.int r.1), R, r.2.1, r.2.2)) 71 [(0, .ref (am_B Z + a0)), (1, .int v4), (2, .int v13)] [.long v22, .int (((3 : Int32) * v4) + v13), .ref (am_B Z + (R a0 39))] R J23 J15 (j21 v22 J23) := by
      subst ej21
      intro v22 J23
      show am_V Z X kX11_buildsSets (fun r : Int32 × am_I × am_L => (some (.int r.1), R, r.2.1, r.2.2)) 71 [(0, .ref (am_B Z + a0)), (1, .int v4), (2, .int v13)] [.long v22, .int (((3 : Int32) * v4) + v13), .ref (am_B Z + (R a0 39))] R J23 J15 _
      refine am_last h20 dX11_buildsSets_71 ?_
      refine am_letL (fun J24 => ?_)
      refine am_iinc (j := 2) (ls' := [(2, .int (v13 + (1 : Int32))), (0, .ref (am_B Z + a0)), (1, .int v4)]) dX11_buildsSets_72 rfl rfl (Nat.le_of_ble_eq_true rfl) rfl ?_
      refine am_goto (tgt := 29) dX11_buildsSets_75 rfl ?_
      refine am_sub (ls' := [(0, .ref (am_B Z + a0)), (1, .int v4), (2, .int (v13 + (1 : Int32)))]) [1, 2, 0] rfl ?_
      exact hih16 (v13 + (1 : Int32)) J23 J24
    refine am_if_ne (tgt := 63) dX11_buildsSets_56 rfl (fun e25 => ?_) (fun e25 => ?_)
    · refine am_lconst (v := 1) dX11_buildsSets_63 (by decide) ?_
      refine am_aload_n dX11_buildsSets_64 rfl 1 rfl ?_
      refine am_iconst (v := 0) dX11_buildsSets_65 (by decide) ?_
      refine am_iload_n dX11_buildsSets_66 rfl 0 rfl ?_
      refine am_callV [.int (0 : Int32), .int r19] (tX11_numberOfState R J14 J15 a0 (0 : Int32) r19 h12) h12 clX11 gX11_buildsSets_X11_numberOfState hX11_numberOfState rfl ⟨Nat.le_of_ble_eq_true rfl, Nat.le_of_ble_eq_true rfl⟩ rfl rfl (Nat.le_of_ble_eq_true rfl) dX11_buildsSets_67 (fun r26 => ?_)
      show am_V Z X kX11_buildsSets (fun r : Int32 × am_I × am_L => (some (.int r.1), R, r.2.1, r.2.2)) 70 [(3, .int r19), (0, .ref (am_B Z + a0)), (1, .int v4), (2, .int v13)] [.int r26.1, .long (1 : Int64), .int (((3 : Int32) * v4) + v13), .ref (am_B Z + (R a0 39))] R r26.2 J15 _
      refine am_lshl dX11_buildsSets_70 ?_
      refine am_sub (ls' := [(0, .ref (am_B Z + a0)), (1, .int v4), (2, .int v13)]) [1, 2, 3] rfl ?_
      exact hj21 ((1 : Int64) <<< (Int32.toInt64 r26.1 &&& 63)) r26.2
    · refine am_lconst (v := 0) dX11_buildsSets_59 (by decide) ?_
      refine am_goto (tgt := 71) dX11_buildsSets_60 rfl ?_
      refine am_sub (ls' := [(0, .ref (am_B Z + a0)), (1, .int v4), (2, .int v13)]) [1, 2, 3] rfl ?_
      exact hj21 (0 : Int64) J14
theorem uX11_buildsSets_29 {Z : am_Z} {X : am_X} (R : am_R) (a0 : Nat) (v4 : Int32) (h12 : am_G Z a0 = some (.inl 11)) (j9 : am_I → am_L → Option (Int32 × am_I × am_L)) (hj9 : ∀ (J10 : am_I) (J11 : am_L), am_V Z X kX11_buildsSets (fun r : Int32 × am_I × am_L => (some (.int r.1), R, r.2.1, r.2.2)) 78 [(0, .ref (am_B Z + a0)), (1, .int v4)] [] R J10 J11 (j9 J10 J11)) : ∀ (n : Nat) (v13 : Int32) (J14 : am_I) (J15 : am_L), am_V Z X kX11_buildsSets (fun r : Int32 × am_I × am_L => (some (.int r.1), R, r.2.1, r.2.2)) 29 [(0, .ref (am_B Z + a0)), (1, .int v4), (2, .int v13)] [] R J14 J15 (lX11_buildsSets_29 R a0 v4 j9 n v13 J14 J15) := by
  intro n
  induction n with
  | zero => intro _ _ _; exact am_none
  | succ n ih => exact fun v13 J14 J15 => vX11_buildsSets_29 R a0 v4 h12 j9 hj9 (lX11_buildsSets_29 R a0 v4 j9 n) ih v13 J14 J15
set_option maxRecDepth 100000 in
set_option maxHeartbeats 4000000 in
theorem vX11_buildsSets_19 {Z : am_Z} {X : am_X} (R : am_R) (a0 : Nat) (h3 : am_G Z a0 = some (.inl 11)) (ih7 : Int32 → am_I → am_L → Option (Int32 × am_I × am_L)) (hih7 : ∀ (v4 : Int32) (J5 : am_I) (J6 : am_L), am_V Z X kX11_buildsSets (fun r : Int32 × am_I × am_L => (some (.int r.1), R, r.2.1, r.2.2)) 19 [(0, .ref (am_B Z + a0)), (1, .int v4)] [] R J5 J6 (ih7 v4 J5 J6)) (v4 : Int32) (J5 : am_I) (J6 : am_L) : am_V Z X kX11_buildsSets (fun r : Int32 × am_I × am_L => (some (.int r.1), R, r.2.1, r.2.2)) 19 [(0, .ref (am_B Z + a0)), (1, .int v4)] [] R J5 J6 (sX11_buildsSets_19 R a0 ih7 v4 J5 J6) := by
  unfold sX11_buildsSets_19
  refine am_iload_n dX11_buildsSets_19 rfl 1 rfl ?_
  refine am_aload_n dX11_buildsSets_20 rfl 0 rfl ?_
  refine am_get 11 41 clX11 (Nat.le_of_ble_eq_true rfl) h3 iX11_buildsSets_11 fX11_buildsSets_335 rfl dX11_buildsSets_21 ?_
  refine am_icmp_ge (tgt := 84) dX11_buildsSets_24 rfl (fun e8 => ?_) (fun e8 => ?_)
  · refine am_iconst (v := 1) dX11_buildsSets_84 (by decide) ?_
    exact am_zret (by decide) dX11_buildsSets_85 rfl rfl
  · refine am_iconst (v := 0) dX11_buildsSets_27 (by decide) ?_
    refine am_istore_n (ls' := [(2, .int (0 : Int32)), (0, .ref (am_B Z + a0)), (1, .int v4)]) dX11_buildsSets_28 rfl (Nat.le_of_ble_eq_true rfl) rfl ?_
    refine am_jnV (fun j9 ej9 => ?_)
    have hj9 : ∀ (J10 : am_I) (J11 : am_L), am_V Z X kX11_buildsSets (fun r : Int32 × am_I × am_L => (some (.int r.1), R, r.2.1, r.2.2)) 78 [(0, .ref (am_B Z + a0)), (1, .int v4)] [] R J10 J11 (j9 J10 J11) := by
      subst ej9
      intro J10 J11
      show am_V Z X kX11_buildsSets (fun r : Int32 × am_I × am_L => (some (.int r.1), R, r.2.1, r.2.2)) 78 [(0, .ref (am_B Z + a0)), (1, .int v4)] [] R J10 J11 _
      refine am_iinc (j := 1) (ls' := [(1, .int (v4 + (1 : Int32))), (0, .ref (am_B Z + a0))]) dX11_buildsSets_78 rfl rfl (Nat.le_of_ble_eq_true rfl) rfl ?_
      refine am_goto (tgt := 19) dX11_buildsSets_81 rfl ?_
      refine am_sub (ls' := [(0, .ref (am_B Z + a0)), (1, .int (v4 + (1 : Int32)))]) [1, 0] rfl ?_
      exact hih7 (v4 + (1 : Int32)) J10 J11
    refine am_sub (ls' := [(0, .ref (am_B Z + a0)), (1, .int v4), (2, .int (0 : Int32))]) [1, 2, 0] rfl ?_
    exact uX11_buildsSets_29 R a0 v4 h3 j9 hj9 am_fu (0 : Int32) J5 J6
theorem uX11_buildsSets_19 {Z : am_Z} {X : am_X} (R : am_R) (a0 : Nat) (h3 : am_G Z a0 = some (.inl 11)) : ∀ (n : Nat) (v4 : Int32) (J5 : am_I) (J6 : am_L), am_V Z X kX11_buildsSets (fun r : Int32 × am_I × am_L => (some (.int r.1), R, r.2.1, r.2.2)) 19 [(0, .ref (am_B Z + a0)), (1, .int v4)] [] R J5 J6 (lX11_buildsSets_19 R a0 n v4 J5 J6) := by
  intro n
  induction n with
  | zero => intro _ _ _; exact am_none
  | succ n ih => exact fun v4 J5 J6 => vX11_buildsSets_19 R a0 h3 (lX11_buildsSets_19 R a0 n) ih v4 J5 J6
set_option maxRecDepth 100000 in
set_option maxHeartbeats 4000000 in
theorem tX11_buildsSets {Z : am_Z} (R : am_R) (I : am_I) (L : am_L) (a0 : Nat) (h_a0 : am_G Z a0 = some (.inl 11)) : am_M Z yX11_buildsSets kX11_buildsSets [.ref (am_B Z + a0)] R I L (pX11_buildsSets R I L a0) (fun r : Int32 × am_I × am_L => (some (.int r.1), R, r.2.1, r.2.2)) := by
  refine am_entry (ls := [(0, .ref (am_B Z + a0))]) (by decide) hX11_buildsSets rfl (Nat.le_of_ble_eq_true rfl) rfl (fun X => ?_)
  unfold pX11_buildsSets
  refine am_aload_n dX11_buildsSets_0 rfl 0 rfl ?_
  refine am_get 11 4 clX11 (Nat.le_of_ble_eq_true rfl) h_a0 iX11_buildsSets_11 fX11_buildsSets_112 rfl dX11_buildsSets_1 ?_
  refine am_jnV (fun j1 ej1 => ?_)
  have hj1 : ∀ (J2 : am_I), am_V Z X kX11_buildsSets (fun r : Int32 × am_I × am_L => (some (.int r.1), R, r.2.1, r.2.2)) 17 [(0, .ref (am_B Z + a0))] [] R J2 L (j1 J2) := by
    subst ej1
    intro J2
    show am_V Z X kX11_buildsSets (fun r : Int32 × am_I × am_L => (some (.int r.1), R, r.2.1, r.2.2)) 17 [(0, .ref (am_B Z + a0))] [] R J2 L _
    refine am_iconst (v := 0) dX11_buildsSets_17 (by decide) ?_
    refine am_istore_n (ls' := [(1, .int (0 : Int32)), (0, .ref (am_B Z + a0))]) dX11_buildsSets_18 rfl (Nat.le_of_ble_eq_true rfl) rfl ?_
    refine am_sub (ls' := [(0, .ref (am_B Z + a0)), (1, .int (0 : Int32))]) [1, 0] rfl ?_
    exact uX11_buildsSets_19 R a0 h_a0 am_fu (0 : Int32) J2 L
  refine am_if_eq (tgt := 17) dX11_buildsSets_4 rfl (fun e27 => ?_) (fun e27 => ?_)
  · exact hj1 I
  · refine am_aload_n dX11_buildsSets_7 rfl 0 rfl ?_
    refine am_iconst (v := 0) dX11_buildsSets_8 (by decide) ?_
    refine am_aload_n dX11_buildsSets_9 rfl 0 rfl ?_
    refine am_get 11 4 clX11 (Nat.le_of_ble_eq_true rfl) h_a0 iX11_buildsSets_11 fX11_buildsSets_112 rfl dX11_buildsSets_10 ?_
    refine am_callV [.int (0 : Int32), .int (I a0 4)] (tX11_numberOfState R I L a0 (0 : Int32) (I a0 4) h_a0) h_a0 clX11 gX11_buildsSets_X11_numberOfState hX11_numberOfState rfl ⟨Nat.le_of_ble_eq_true rfl, Nat.le_of_ble_eq_true rfl⟩ rfl rfl (Nat.le_of_ble_eq_true rfl) dX11_buildsSets_13 (fun r28 => ?_)
    show am_V Z X kX11_buildsSets (fun r : Int32 × am_I × am_L => (some (.int r.1), R, r.2.1, r.2.2)) 16 [(0, .ref (am_B Z + a0))] [.int r28.1] R r28.2 L _
    refine am_pop dX11_buildsSets_16 rfl ?_
    exact hj1 r28.2
abbrev kX11_buildsPairs : am_K := (cX11_buildsPairs, 8, RX11, wsX11_buildsPairs, some .boolean, { frames := 2, cells := 0, slots := 0, locals := 46 })
theorem hX11_buildsPairs : am_cl yX11_buildsPairs kX11_buildsPairs 0 := ⟨⟨_, rfl⟩, rfl, rfl, by decide +kernel, by decide +kernel, by decide +kernel⟩
theorem iX11_buildsPairs_11 : ∀ w ∈ u_ws RX11 TX11 50, w ∈ wsX11_buildsPairs := by decide +kernel
theorem fX11_buildsPairs_19 : Cond.fieldLink RX11 19 "AmbiguityAnalyzerModel" "states" "I" ∈ wsX11_buildsPairs := by decide +kernel
theorem fX11_buildsPairs_112 : Cond.fieldLink RX11 112 "AmbiguityAnalyzerModel" "initials" "I" ∈ wsX11_buildsPairs := by decide +kernel
theorem fX11_buildsPairs_335 : Cond.fieldLink RX11 335 "AmbiguityAnalyzerModel" "found" "I" ∈ wsX11_buildsPairs := by decide +kernel
theorem fX11_buildsPairs_7 : Cond.fieldLink RX11 7 "AmbiguityAnalyzerModel" "targets" "[I" ∈ wsX11_buildsPairs := by decide +kernel
theorem fX11_buildsPairs_82 : Cond.fieldLink RX11 82 "AmbiguityAnalyzerModel" "newOwn" "[I" ∈ wsX11_buildsPairs := by decide +kernel
theorem fX11_buildsPairs_85 : Cond.fieldLink RX11 85 "AmbiguityAnalyzerModel" "newLower" "[I" ∈ wsX11_buildsPairs := by decide +kernel
theorem fX11_buildsPairs_91 : Cond.fieldLink RX11 91 "AmbiguityAnalyzerModel" "newTargets" "[J" ∈ wsX11_buildsPairs := by decide +kernel
set_option maxRecDepth 100000 in
set_option maxHeartbeats 4000000 in
theorem vX11_buildsPairs_84 {Z : am_Z} {X : am_X} (R : am_R) (a0 : Nat) (v4 : Int32) (v13 : Int32) (v20 : Int32) (J15 : am_L) (h26 : am_G Z a0 = some (.inl 11)) (j21 : Int64 → am_I → Option (Int32 × am_I × am_L)) (hj21 : ∀ (v22 : Int64) (J23 : am_I), am_V Z X kX11_buildsPairs (fun r : Int32 × am_I × am_L => (some (.int r.1), R, r.2.1, r.2.2)) 156 [(0, .ref (am_B Z + a0)), (1, .int v4), (2, .int v13), (3, .long v22)] [] R J23 J15 (j21 v22 J23)) (ih30 : Int64 → Int32 → am_I → Option (Int32 × am_I × am_L)) (hih30 : ∀ (v27 : Int64) (v28 : Int32) (J29 : am_I), am_V Z X kX11_buildsPairs (fun r : Int32 × am_I × am_L => (some (.int r.1), R, r.2.1, r.2.2)) 84 [(0, .ref (am_B Z + a0)), (1, .int v4), (2, .int v13), (3, .long v27), (5, .int v20), (6, .int v28)] [] R J29 J15 (ih30 v27 v28 J29)) (v27 : Int64) (v28 : Int32) (J29 : am_I) : am_V Z X kX11_buildsPairs (fun r : Int32 × am_I × am_L => (some (.int r.1), R, r.2.1, r.2.2)) 84 [(0, .ref (am_B Z + a0)), (1, .int v4), (2, .int v13), (3, .long v27), (5, .int v20), (6, .int v28)] [] R J29 J15 (sX11_buildsPairs_84 R a0 v4 v13 v20 J15 j21 ih30 v27 v28 J29) := by
  unfold sX11_buildsPairs_84
  refine am_iload dX11_buildsPairs_84 5 rfl ?_
  refine am_aload_n dX11_buildsPairs_86 rfl 0 rfl ?_
  refine am_get 11 3 clX11 (Nat.le_of_ble_eq_true rfl) h26 iX11_buildsPairs_11 fX11_buildsPairs_19 rfl dX11_buildsPairs_87 ?_
  refine am_icmp_ge (tgt := 156) dX11_buildsPairs_90 rfl (fun e31 => ?_) (fun e31 => ?_)
  · refine am_sub (ls' := [(0, .ref (am_B Z + a0)), (1, .int v4), (2, .int v13), (3, .long v27)]) [0, 1, 2, 3] rfl ?_
    exact hj21 v27 J29
  · refine am_iload dX11_buildsPairs_93 4 rfl ?_
    refine am_i2l dX11_buildsPairs_95 ?_
    refine am_iload dX11_buildsPairs_96 5 rfl ?_
    refine am_callS [.long (Int32.toInt64 v20), .int v28] (tX11_has R J29 J15 (Int32.toInt64 v20) v28) gX11_buildsPairs_X11_has hX11_has ⟨Nat.le_of_ble_eq_true rfl, Nat.le_of_ble_eq_true rfl⟩ rfl rfl (Nat.le_of_ble_eq_true rfl) dX11_buildsPairs_98 (fun r32 => ?_)
    show am_V Z X kX11_buildsPairs (fun r : Int32 × am_I × am_L => (some (.int r.1), R, r.2.1, r.2.2)) 101 [(0, .ref (am_B Z + a0)), (1, .int v4), (2, .int v13), (3, .long v27), (5, .int v20), (6, .int v28)] [.int r32] R J29 J15 _
    refine am_jnV (fun j33 ej33 => ?_)
    have hj33 : ∀ (v34 : Int64) (J35 : am_I), am_V Z X kX11_buildsPairs (fun r : Int32 × am_I × am_L => (some (.int r.1), R, r.2.1, r.2.2)) 150 [(0, .ref (am_B Z + a0)), (1, .int v4), (2, .int v13), (3, .long v34), (5, .int v20), (6, .int v28)] [] R J35 J15 (j33 v34 J35) := by
      subst ej33
      intro v34 J35
      show am_V Z X kX11_buildsPairs (fun r : Int32 × am_I × am_L => (some (.int r.1), R, r.2.1, r.2.2)) 150 [(0, .ref (am_B Z + a0)), (1, .int v4), (2, .int v13), (3, .long v34), (5, .int v20), (6, .int v28)] [] R J35 J15 _
      refine am_iinc (j := 5) (ls' := [(6, .int (v28 + (1 : Int32))), (0, .ref (am_B Z + a0)), (1, .int v4), (2, .int v13), (3, .long v34), (5, .int v20)]) dX11_buildsPairs_150 rfl rfl (Nat.le_of_ble_eq_true rfl) rfl ?_
      refine am_goto (tgt := 84) dX11_buildsPairs_153 rfl ?_
      refine am_sub (ls' := [(0, .ref (am_B Z + a0)), (1, .int v4), (2, .int v13), (3, .long v34), (5, .int v20), (6, .int (v28 + (1 : Int32)))]) [1, 2, 3, 4, 5, 0] rfl ?_
      exact hih30 v34 (v28 + (1 : Int32)) J35
    refine am_if_ne (tgt := 107) dX11_buildsPairs_101 rfl (fun e36 => ?_) (fun e36 => ?_)
    · refine am_aload_n dX11_buildsPairs_107 rfl 0 rfl ?_
      refine am_iload dX11_buildsPairs_108 5 rfl ?_
      refine am_aload_n dX11_buildsPairs_110 rfl 0 rfl ?_
      refine am_aload_n dX11_buildsPairs_111 rfl 0 rfl ?_
      refine am_getR 11 37 clX11 (Nat.le_of_ble_eq_true rfl) h26 iX11_buildsPairs_11 fX11_buildsPairs_85 rfl rfl dX11_buildsPairs_112 (fun h37 => ?_)
      refine am_iload_n dX11_buildsPairs_115 rfl 1 rfl ?_
      refine am_iald h37 dX11_buildsPairs_116 ?_
      refine am_iload_n dX11_buildsPairs_117 rfl 2 rfl ?_
      refine am_callV [.int (J29 (R a0 37) (Int32.toNatClampNeg v4)), .int v13] (tX11_step R J29 J15 a0 (J29 (R a0 37) (Int32.toNatClampNeg v4)) v13 h26) h26 clX11 gX11_buildsPairs_X11_step hX11_step rfl ⟨Nat.le_of_ble_eq_true rfl, Nat.le_of_ble_eq_true rfl⟩ rfl rfl (Nat.le_of_ble_eq_true rfl) dX11_buildsPairs_118 (fun r38 => ?_)
      show am_V Z X kX11_buildsPairs (fun r : Int32 × am_I × am_L => (some (.int r.1), R, r.2.1, r.2.2)) 121 [(0, .ref (am_B Z + a0)), (1, .int v4), (2, .int v13), (3, .long v27), (5, .int v20), (6, .int v28)] [.int r38, .int v28, .ref (am_B Z + a0)] R J29 J15 _
      refine am_iload dX11_buildsPairs_121 4 rfl ?_
      refine am_iconst (v := 1) dX11_buildsPairs_123 (by decide) ?_
      refine am_iload dX11_buildsPairs_124 5 rfl ?_
      refine am_ishl dX11_buildsPairs_126 ?_
      refine am_iconst (v := 1) dX11_buildsPairs_127 (by decide) ?_
      refine am_isub dX11_buildsPairs_128 ?_
      refine am_iand dX11_buildsPairs_129 ?_
      refine am_ior dX11_buildsPairs_130 ?_
      refine am_callV [.int v28, .int (r38 ||| (v20 &&& (((1 : Int32) <<< (v28 &&& 31)) - (1 : Int32))))] (tX11_numberOfState R J29 J15 a0 v28 (r38 ||| (v20 &&& (((1 : Int32) <<< (v28 &&& 31)) - (1 : Int32)))) h26) h26 clX11 gX11_buildsPairs_X11_numberOfState hX11_numberOfState rfl ⟨Nat.le_of_ble_eq_true rfl, Nat.le_of_ble_eq_true rfl⟩ rfl rfl (Nat.le_of_ble_eq_true rfl) dX11_buildsPairs_131 (fun r39 => ?_)
      show am_V Z X kX11_buildsPairs (fun r : Int32 × am_I × am_L => (some (.int r.1), R, r.2.1, r.2.2)) 134 [(0, .ref (am_B Z + a0)), (1, .int v4), (2, .int v13), (3, .long v27), (5, .int v20), (6, .int v28)] [.int r39.1] R r39.2 J15 _
      refine am_istore (ls' := [(7, .int r39.1), (0, .ref (am_B Z + a0)), (1, .int v4), (2, .int v13), (3, .long v27), (5, .int v20), (6, .int v28)]) dX11_buildsPairs_134 (Nat.le_of_ble_eq_true rfl) rfl ?_
      refine am_iload dX11_buildsPairs_136 0 rfl ?_
      refine am_if_ge (tgt := 143) dX11_buildsPairs_138 rfl (fun e40 => ?_) (fun e40 => ?_)
      · refine am_lload_n dX11_buildsPairs_143 rfl 4 rfl ?_
        refine am_lconst (v := 1) dX11_buildsPairs_144 (by decide) ?_
        refine am_iload dX11_buildsPairs_145 0 rfl ?_
        refine am_lshl dX11_buildsPairs_147 ?_
        refine am_lor dX11_buildsPairs_148 ?_
        refine am_letTl (fun v41 => ?_)
        refine am_lstore_n (ls' := [(3, .long v41), (7, .int r39.1), (0, .ref (am_B Z + a0)), (1, .int v4), (2, .int v13), (5, .int v20), (6, .int v28)]) dX11_buildsPairs_149 rfl (Nat.le_of_ble_eq_true rfl) rfl ?_
        refine am_sub (ls' := [(0, .ref (am_B Z + a0)), (1, .int v4), (2, .int v13), (3, .long v41), (5, .int v20), (6, .int v28)]) [2, 3, 4, 0, 5, 6] rfl ?_
        exact hj33 v41 r39.2
      · refine am_iconst (v := 0) dX11_buildsPairs_141 (by decide) ?_
        exact am_zret (by decide) dX11_buildsPairs_142 rfl rfl
    · refine am_goto (tgt := 150) dX11_buildsPairs_104 rfl ?_
      exact hj33 v27 J29
theorem uX11_buildsPairs_84 {Z : am_Z} {X : am_X} (R : am_R) (a0 : Nat) (v4 : Int32) (v13 : Int32) (v20 : Int32) (J15 : am_L) (h26 : am_G Z a0 = some (.inl 11)) (j21 : Int64 → am_I → Option (Int32 × am_I × am_L)) (hj21 : ∀ (v22 : Int64) (J23 : am_I), am_V Z X kX11_buildsPairs (fun r : Int32 × am_I × am_L => (some (.int r.1), R, r.2.1, r.2.2)) 156 [(0, .ref (am_B Z + a0)), (1, .int v4), (2, .int v13), (3, .long v22)] [] R J23 J15 (j21 v22 J23)) : ∀ (n : Nat) (v27 : Int64) (v28 : Int32) (J29 : am_I), am_V Z X kX11_buildsPairs (fun r : Int32 × am_I × am_L => (some (.int r.1), R, r.2.1, r.2.2)) 84 [(0, .ref (am_B Z + a0)), (1, .int v4), (2, .int v13), (3, .long v27), (5, .int v20), (6, .int v28)] [] R J29 J15 (lX11_buildsPairs_84 R a0 v4 v13 v20 J15 j21 n v27 v28 J29) := by
  intro n
  induction n with
  | zero => intro _ _ _; exact am_none
  | succ n ih => exact fun v27 v28 J29 => vX11_buildsPairs_84 R a0 v4 v13 v20 J15 h26 j21 hj21 (lX11_buildsPairs_84 R a0 v4 v13 v20 J15 j21 n) ih v27 v28 J29
set_option maxRecDepth 100000 in
set_option maxHeartbeats 4000000 in
theorem vX11_buildsPairs_56 {Z : am_Z} {X : am_X} (R : am_R) (a0 : Nat) (v4 : Int32) (h12 : am_G Z a0 = some (.inl 11)) (j9 : am_I → am_L → Option (Int32 × am_I × am_L)) (hj9 : ∀ (J10 : am_I) (J11 : am_L), am_V Z X kX11_buildsPairs (fun r : Int32 × am_I × am_L => (some (.int r.1), R, r.2.1, r.2.2)) 173 [(0, .ref (am_B Z + a0)), (1, .int v4)] [] R J10 J11 (j9 J10 J11)) (ih16 : Int32 → am_I → am_L → Option (Int32 × am_I × am_L)) (hih16 : ∀ (v13 : Int32) (J14 : am_I) (J15 : am_L), am_V Z X kX11_buildsPairs (fun r : Int32 × am_I × am_L => (some (.int r.1), R, r.2.1, r.2.2)) 56 [(0, .ref (am_B Z + a0)), (1, .int v4), (2, .int v13)] [] R J14 J15 (ih16 v13 J14 J15)) (v13 : Int32) (J14 : am_I) (J15 : am_L) : am_V Z X kX11_buildsPairs (fun r : Int32 × am_I × am_L => (some (.int r.1), R, r.2.1, r.2.2)) 56 [(0, .ref (am_B Z + a0)), (1, .int v4), (2, .int v13)] [] R J14 J15 (sX11_buildsPairs_56 R a0 v4 j9 ih16 v13 J14 J15) := by
  unfold sX11_buildsPairs_56
  refine am_iload_n dX11_buildsPairs_56 rfl 2 rfl ?_
  refine am_iconst (v := 3) dX11_buildsPairs_57 (by decide) ?_
  refine am_icmp_ge (tgt := 173) dX11_buildsPairs_58 rfl (fun e17 => ?_) (fun e17 => ?_)
  · refine am_sub (ls' := [(0, .ref (am_B Z + a0)), (1, .int v4)]) [0, 1] rfl ?_
    exact hj9 J14 J15
  · refine am_lconst (v := 0) dX11_buildsPairs_61 (by decide) ?_
    refine am_lstore_n (ls' := [(3, .long (0 : Int64)), (0, .ref (am_B Z + a0)), (1, .int v4), (2, .int v13)]) dX11_buildsPairs_62 rfl (Nat.le_of_ble_eq_true rfl) rfl ?_
    refine am_aload_n dX11_buildsPairs_63 rfl 1 rfl ?_
    refine am_getR 11 0 clX11 (Nat.le_of_ble_eq_true rfl) h12 iX11_buildsPairs_11 fX11_buildsPairs_7 rfl rfl dX11_buildsPairs_64 (fun h18 => ?_)
    refine am_bipush (v := 6) dX11_buildsPairs_67 (by decide) ?_
    refine am_iload_n dX11_buildsPairs_69 rfl 3 rfl ?_
    refine am_imul dX11_buildsPairs_70 ?_
    refine am_aload_n dX11_buildsPairs_71 rfl 1 rfl ?_
    refine am_getR 11 36 clX11 (Nat.le_of_ble_eq_true rfl) h12 iX11_buildsPairs_11 fX11_buildsPairs_82 rfl rfl dX11_buildsPairs_72 (fun h19 => ?_)
    refine am_iload_n dX11_buildsPairs_75 rfl 2 rfl ?_
    refine am_iald h19 dX11_buildsPairs_76 ?_
    refine am_iadd dX11_buildsPairs_77 ?_
    refine am_iald h18 dX11_buildsPairs_78 ?_
    refine am_letTi (fun v20 => ?_)
    refine am_istore (ls' := [(5, .int v20), (3, .long (0 : Int64)), (0, .ref (am_B Z + a0)), (1, .int v4), (2, .int v13)]) dX11_buildsPairs_79 (Nat.le_of_ble_eq_true rfl) rfl ?_
    refine am_iconst (v := 0) dX11_buildsPairs_81 (by decide) ?_
    refine am_istore (ls' := [(6, .int (0 : Int32)), (5, .int v20), (3, .long (0 : Int64)), (0, .ref (am_B Z + a0)), (1, .int v4), (2, .int v13)]) dX11_buildsPairs_82 (Nat.le_of_ble_eq_true rfl) rfl ?_
    refine am_jnV (fun j21 ej21 => ?_)
    have hj21 : ∀ (v22 : Int64) (J23 : am_I), am_V Z X kX11_buildsPairs (fun r : Int32 × am_I × am_L => (some (.int r.1), R, r.2.1, r.2.2)) 156 [(0, .ref (am_B Z + a0)), (1, .int v4), (2, .int v13), (3, .long v22)] [] R J23 J15 (j21 v22 J23) := by
      subst ej21
      intro v22 J23
      show am_V Z X kX11_buildsPairs (fun r : Int32 × am_I × am_L => (some (.int r.1), R, r.2.1, r.2.2)) 156 [(0, .ref (am_B Z + a0)), (1, .int v4), (2, .int v13), (3, .long v22)] [] R J23 J15 _
      refine am_aload_n dX11_buildsPairs_156 rfl 0 rfl ?_
      refine am_getR 11 39 clX11 (Nat.le_of_ble_eq_true rfl) h12 iX11_buildsPairs_11 fX11_buildsPairs_91 rfl rfl dX11_buildsPairs_157 (fun h24 => ?_)
      refine am_iconst (v := 3) dX11_buildsPairs_160 (by decide) ?_
      refine am_iload_n dX11_buildsPairs_161 rfl 1 rfl ?_
      refine am_imul dX11_buildsPairs_162 ?_
      refine am_iload_n dX11_buildsPairs_163 rfl 2 rfl ?_
      refine am_iadd dX11_buildsPairs_164 ?_
      refine am_lload_n dX11_buildsPairs_165 rfl 3 rfl ?_
      refine am_last h24 dX11_buildsPairs_166 ?_
      refine am_letL (fun J25 => ?_)
      refine am_iinc (j := 2) (ls' := [(2, .int (v13 + (1 : Int32))), (0, .ref (am_B Z + a0)), (1, .int v4), (3, .long v22)]) dX11_buildsPairs_167 rfl rfl (Nat.le_of_ble_eq_true rfl) rfl ?_
      refine am_goto (tgt := 56) dX11_buildsPairs_170 rfl ?_
      refine am_sub (ls' := [(0, .ref (am_B Z + a0)), (1, .int v4), (2, .int (v13 + (1 : Int32)))]) [1, 2, 0] rfl ?_
      exact hih16 (v13 + (1 : Int32)) J23 J25
    refine am_sub (ls' := [(0, .ref (am_B Z + a0)), (1, .int v4), (2, .int v13), (3, .long (0 : Int64)), (5, .int v20), (6, .int (0 : Int32))]) [3, 4, 5, 2, 1, 0] rfl ?_
    exact uX11_buildsPairs_84 R a0 v4 v13 v20 J15 h12 j21 hj21 am_fu (0 : Int64) (0 : Int32) J14
theorem uX11_buildsPairs_56 {Z : am_Z} {X : am_X} (R : am_R) (a0 : Nat) (v4 : Int32) (h12 : am_G Z a0 = some (.inl 11)) (j9 : am_I → am_L → Option (Int32 × am_I × am_L)) (hj9 : ∀ (J10 : am_I) (J11 : am_L), am_V Z X kX11_buildsPairs (fun r : Int32 × am_I × am_L => (some (.int r.1), R, r.2.1, r.2.2)) 173 [(0, .ref (am_B Z + a0)), (1, .int v4)] [] R J10 J11 (j9 J10 J11)) : ∀ (n : Nat) (v13 : Int32) (J14 : am_I) (J15 : am_L), am_V Z X kX11_buildsPairs (fun r : Int32 × am_I × am_L => (some (.int r.1), R, r.2.1, r.2.2)) 56 [(0, .ref (am_B Z + a0)), (1, .int v4), (2, .int v13)] [] R J14 J15 (lX11_buildsPairs_56 R a0 v4 j9 n v13 J14 J15) := by
  intro n
  induction n with
  | zero => intro _ _ _; exact am_none
  | succ n ih => exact fun v13 J14 J15 => vX11_buildsPairs_56 R a0 v4 h12 j9 hj9 (lX11_buildsPairs_56 R a0 v4 j9 n) ih v13 J14 J15
set_option maxRecDepth 100000 in
set_option maxHeartbeats 4000000 in
theorem vX11_buildsPairs_46 {Z : am_Z} {X : am_X} (R : am_R) (a0 : Nat) (h3 : am_G Z a0 = some (.inl 11)) (ih7 : Int32 → am_I → am_L → Option (Int32 × am_I × am_L)) (hih7 : ∀ (v4 : Int32) (J5 : am_I) (J6 : am_L), am_V Z X kX11_buildsPairs (fun r : Int32 × am_I × am_L => (some (.int r.1), R, r.2.1, r.2.2)) 46 [(0, .ref (am_B Z + a0)), (1, .int v4)] [] R J5 J6 (ih7 v4 J5 J6)) (v4 : Int32) (J5 : am_I) (J6 : am_L) : am_V Z X kX11_buildsPairs (fun r : Int32 × am_I × am_L => (some (.int r.1), R, r.2.1, r.2.2)) 46 [(0, .ref (am_B Z + a0)), (1, .int v4)] [] R J5 J6 (sX11_buildsPairs_46 R a0 ih7 v4 J5 J6) := by
  unfold sX11_buildsPairs_46
  refine am_iload_n dX11_buildsPairs_46 rfl 1 rfl ?_
  refine am_aload_n dX11_buildsPairs_47 rfl 0 rfl ?_
  refine am_get 11 41 clX11 (Nat.le_of_ble_eq_true rfl) h3 iX11_buildsPairs_11 fX11_buildsPairs_335 rfl dX11_buildsPairs_48 ?_
  refine am_icmp_ge (tgt := 179) dX11_buildsPairs_51 rfl (fun e8 => ?_) (fun e8 => ?_)
  · refine am_iconst (v := 1) dX11_buildsPairs_179 (by decide) ?_
    exact am_zret (by decide) dX11_buildsPairs_180 rfl rfl
  · refine am_iconst (v := 0) dX11_buildsPairs_54 (by decide) ?_
    refine am_istore_n (ls' := [(2, .int (0 : Int32)), (0, .ref (am_B Z + a0)), (1, .int v4)]) dX11_buildsPairs_55 rfl (Nat.le_of_ble_eq_true rfl) rfl ?_
    refine am_jnV (fun j9 ej9 => ?_)
    have hj9 : ∀ (J10 : am_I) (J11 : am_L), am_V Z X kX11_buildsPairs (fun r : Int32 × am_I × am_L => (some (.int r.1), R, r.2.1, r.2.2)) 173 [(0, .ref (am_B Z + a0)), (1, .int v4)] [] R J10 J11 (j9 J10 J11) := by
      subst ej9
      intro J10 J11
      show am_V Z X kX11_buildsPairs (fun r : Int32 × am_I × am_L => (some (.int r.1), R, r.2.1, r.2.2)) 173 [(0, .ref (am_B Z + a0)), (1, .int v4)] [] R J10 J11 _
      refine am_iinc (j := 1) (ls' := [(1, .int (v4 + (1 : Int32))), (0, .ref (am_B Z + a0))]) dX11_buildsPairs_173 rfl rfl (Nat.le_of_ble_eq_true rfl) rfl ?_
      refine am_goto (tgt := 46) dX11_buildsPairs_176 rfl ?_
      refine am_sub (ls' := [(0, .ref (am_B Z + a0)), (1, .int (v4 + (1 : Int32)))]) [1, 0] rfl ?_
      exact hih7 (v4 + (1 : Int32)) J10 J11
    refine am_sub (ls' := [(0, .ref (am_B Z + a0)), (1, .int v4), (2, .int (0 : Int32))]) [1, 2, 0] rfl ?_
    exact uX11_buildsPairs_56 R a0 v4 h3 j9 hj9 am_fu (0 : Int32) J5 J6
theorem uX11_buildsPairs_46 {Z : am_Z} {X : am_X} (R : am_R) (a0 : Nat) (h3 : am_G Z a0 = some (.inl 11)) : ∀ (n : Nat) (v4 : Int32) (J5 : am_I) (J6 : am_L), am_V Z X kX11_buildsPairs (fun r : Int32 × am_I × am_L => (some (.int r.1), R, r.2.1, r.2.2)) 46 [(0, .ref (am_B Z + a0)), (1, .int v4)] [] R J5 J6 (lX11_buildsPairs_46 R a0 n v4 J5 J6) := by
  intro n
  induction n with
  | zero => intro _ _ _; exact am_none
  | succ n ih => exact fun v4 J5 J6 => vX11_buildsPairs_46 R a0 h3 (lX11_buildsPairs_46 R a0 n) ih v4 J5 J6
set_option maxRecDepth 100000 in
set_option maxHeartbeats 4000000 in
theorem vX11_buildsPairs_2 {Z : am_Z} {X : am_X} (R : am_R) (L : am_L) (a0 : Nat) (h42 : am_G Z a0 = some (.inl 11)) (j1 : am_I → Option (Int32 × am_I × am_L)) (hj1 : ∀ (J2 : am_I), am_V Z X kX11_buildsPairs (fun r : Int32 × am_I × am_L => (some (.int r.1), R, r.2.1, r.2.2)) 44 [(0, .ref (am_B Z + a0))] [] R J2 L (j1 J2)) (ih45 : Int32 → am_I → Option (Int32 × am_I × am_L)) (hih45 : ∀ (v43 : Int32) (J44 : am_I), am_V Z X kX11_buildsPairs (fun r : Int32 × am_I × am_L => (some (.int r.1), R, r.2.1, r.2.2)) 2 [(0, .ref (am_B Z + a0)), (1, .int v43)] [] R J44 L (ih45 v43 J44)) (v43 : Int32) (J44 : am_I) : am_V Z X kX11_buildsPairs (fun r : Int32 × am_I × am_L => (some (.int r.1), R, r.2.1, r.2.2)) 2 [(0, .ref (am_B Z + a0)), (1, .int v43)] [] R J44 L (sX11_buildsPairs_2 R L a0 j1 ih45 v43 J44) := by
  unfold sX11_buildsPairs_2
  refine am_iload_n dX11_buildsPairs_2 rfl 1 rfl ?_
  refine am_aload_n dX11_buildsPairs_3 rfl 0 rfl ?_
  refine am_get 11 3 clX11 (Nat.le_of_ble_eq_true rfl) h42 iX11_buildsPairs_11 fX11_buildsPairs_19 rfl dX11_buildsPairs_4 ?_
  refine am_icmp_ge (tgt := 44) dX11_buildsPairs_7 rfl (fun e46 => ?_) (fun e46 => ?_)
  · refine am_sub (ls' := [(0, .ref (am_B Z + a0))]) [0] rfl ?_
    exact hj1 J44
  · refine am_aload_n dX11_buildsPairs_10 rfl 0 rfl ?_
    refine am_get 11 4 clX11 (Nat.le_of_ble_eq_true rfl) h42 iX11_buildsPairs_11 fX11_buildsPairs_112 rfl dX11_buildsPairs_11 ?_
    refine am_i2l dX11_buildsPairs_14 ?_
    refine am_iload_n dX11_buildsPairs_15 rfl 1 rfl ?_
    refine am_callS [.long (Int32.toInt64 (J44 a0 4)), .int v43] (tX11_has R J44 L (Int32.toInt64 (J44 a0 4)) v43) gX11_buildsPairs_X11_has hX11_has ⟨Nat.le_of_ble_eq_true rfl, Nat.le_of_ble_eq_true rfl⟩ rfl rfl (Nat.le_of_ble_eq_true rfl) dX11_buildsPairs_16 (fun r47 => ?_)
    show am_V Z X kX11_buildsPairs (fun r : Int32 × am_I × am_L => (some (.int r.1), R, r.2.1, r.2.2)) 19 [(0, .ref (am_B Z + a0)), (1, .int v43)] [.int r47] R J44 L _
    refine am_jnV (fun j48 ej48 => ?_)
    have hj48 : ∀ (J49 : am_I), am_V Z X kX11_buildsPairs (fun r : Int32 × am_I × am_L => (some (.int r.1), R, r.2.1, r.2.2)) 38 [(0, .ref (am_B Z + a0)), (1, .int v43)] [] R J49 L (j48 J49) := by
      subst ej48
      intro J49
      show am_V Z X kX11_buildsPairs (fun r : Int32 × am_I × am_L => (some (.int r.1), R, r.2.1, r.2.2)) 38 [(0, .ref (am_B Z + a0)), (1, .int v43)] [] R J49 L _
      refine am_iinc (j := 1) (ls' := [(1, .int (v43 + (1 : Int32))), (0, .ref (am_B Z + a0))]) dX11_buildsPairs_38 rfl rfl (Nat.le_of_ble_eq_true rfl) rfl ?_
      refine am_goto (tgt := 2) dX11_buildsPairs_41 rfl ?_
      refine am_sub (ls' := [(0, .ref (am_B Z + a0)), (1, .int (v43 + (1 : Int32)))]) [1, 0] rfl ?_
      exact hih45 (v43 + (1 : Int32)) J49
    refine am_if_eq (tgt := 38) dX11_buildsPairs_19 rfl (fun e50 => ?_) (fun e50 => ?_)
    · exact hj48 J44
    · refine am_aload_n dX11_buildsPairs_22 rfl 0 rfl ?_
      refine am_iload_n dX11_buildsPairs_23 rfl 1 rfl ?_
      refine am_aload_n dX11_buildsPairs_24 rfl 0 rfl ?_
      refine am_get 11 4 clX11 (Nat.le_of_ble_eq_true rfl) h42 iX11_buildsPairs_11 fX11_buildsPairs_112 rfl dX11_buildsPairs_25 ?_
      refine am_iconst (v := 1) dX11_buildsPairs_28 (by decide) ?_
      refine am_iload_n dX11_buildsPairs_29 rfl 1 rfl ?_
      refine am_ishl dX11_buildsPairs_30 ?_
      refine am_iconst (v := 1) dX11_buildsPairs_31 (by decide) ?_
      refine am_isub dX11_buildsPairs_32 ?_
      refine am_iand dX11_buildsPairs_33 ?_
      refine am_callV [.int v43, .int ((J44 a0 4) &&& (((1 : Int32) <<< (v43 &&& 31)) - (1 : Int32)))] (tX11_numberOfState R J44 L a0 v43 ((J44 a0 4) &&& (((1 : Int32) <<< (v43 &&& 31)) - (1 : Int32))) h42) h42 clX11 gX11_buildsPairs_X11_numberOfState hX11_numberOfState rfl ⟨Nat.le_of_ble_eq_true rfl, Nat.le_of_ble_eq_true rfl⟩ rfl rfl (Nat.le_of_ble_eq_true rfl) dX11_buildsPairs_34 (fun r51 => ?_)
      show am_V Z X kX11_buildsPairs (fun r : Int32 × am_I × am_L => (some (.int r.1), R, r.2.1, r.2.2)) 37 [(0, .ref (am_B Z + a0)), (1, .int v43)] [.int r51.1] R r51.2 L _
      refine am_pop dX11_buildsPairs_37 rfl ?_
      exact hj48 r51.2
theorem uX11_buildsPairs_2 {Z : am_Z} {X : am_X} (R : am_R) (L : am_L) (a0 : Nat) (h42 : am_G Z a0 = some (.inl 11)) (j1 : am_I → Option (Int32 × am_I × am_L)) (hj1 : ∀ (J2 : am_I), am_V Z X kX11_buildsPairs (fun r : Int32 × am_I × am_L => (some (.int r.1), R, r.2.1, r.2.2)) 44 [(0, .ref (am_B Z + a0))] [] R J2 L (j1 J2)) : ∀ (n : Nat) (v43 : Int32) (J44 : am_I), am_V Z X kX11_buildsPairs (fun r : Int32 × am_I × am_L => (some (.int r.1), R, r.2.1, r.2.2)) 2 [(0, .ref (am_B Z + a0)), (1, .int v43)] [] R J44 L (lX11_buildsPairs_2 R L a0 j1 n v43 J44) := by
  intro n
  induction n with
  | zero => intro _ _; exact am_none
  | succ n ih => exact fun v43 J44 => vX11_buildsPairs_2 R L a0 h42 j1 hj1 (lX11_buildsPairs_2 R L a0 j1 n) ih v43 J44
set_option maxRecDepth 100000 in
set_option maxHeartbeats 4000000 in
theorem tX11_buildsPairs {Z : am_Z} (R : am_R) (I : am_I) (L : am_L) (a0 : Nat) (h_a0 : am_G Z a0 = some (.inl 11)) : am_M Z yX11_buildsPairs kX11_buildsPairs [.ref (am_B Z + a0)] R I L (pX11_buildsPairs R I L a0) (fun r : Int32 × am_I × am_L => (some (.int r.1), R, r.2.1, r.2.2)) := by
  refine am_entry (ls := [(0, .ref (am_B Z + a0))]) (by decide) hX11_buildsPairs rfl (Nat.le_of_ble_eq_true rfl) rfl (fun X => ?_)
  unfold pX11_buildsPairs
  refine am_iconst (v := 0) dX11_buildsPairs_0 (by decide) ?_
  refine am_istore_n (ls' := [(1, .int (0 : Int32)), (0, .ref (am_B Z + a0))]) dX11_buildsPairs_1 rfl (Nat.le_of_ble_eq_true rfl) rfl ?_
  refine am_jnV (fun j1 ej1 => ?_)
  have hj1 : ∀ (J2 : am_I), am_V Z X kX11_buildsPairs (fun r : Int32 × am_I × am_L => (some (.int r.1), R, r.2.1, r.2.2)) 44 [(0, .ref (am_B Z + a0))] [] R J2 L (j1 J2) := by
    subst ej1
    intro J2
    show am_V Z X kX11_buildsPairs (fun r : Int32 × am_I × am_L => (some (.int r.1), R, r.2.1, r.2.2)) 44 [(0, .ref (am_B Z + a0))] [] R J2 L _
    refine am_iconst (v := 0) dX11_buildsPairs_44 (by decide) ?_
    refine am_istore_n (ls' := [(1, .int (0 : Int32)), (0, .ref (am_B Z + a0))]) dX11_buildsPairs_45 rfl (Nat.le_of_ble_eq_true rfl) rfl ?_
    refine am_sub (ls' := [(0, .ref (am_B Z + a0)), (1, .int (0 : Int32))]) [1, 0] rfl ?_
    exact uX11_buildsPairs_46 R a0 h_a0 am_fu (0 : Int32) J2 L
  refine am_sub (ls' := [(0, .ref (am_B Z + a0)), (1, .int (0 : Int32))]) [1, 0] rfl ?_
  exact uX11_buildsPairs_2 R L a0 h_a0 j1 hj1 am_fu (0 : Int32) I
abbrev kX11_build : am_K := (cX11_build, 4, RX11, wsX11_build, some .int, { frames := 3, cells := 0, slots := 0, locals := 73 })
theorem hX11_build : am_cl yX11_build kX11_build 1 := ⟨⟨_, rfl⟩, rfl, rfl, by decide +kernel, by decide +kernel, by decide +kernel⟩
theorem iX11_build_11 : ∀ w ∈ u_ws RX11 TX11 50, w ∈ wsX11_build := by decide +kernel
theorem fX11_build_335 : Cond.fieldLink RX11 335 "AmbiguityAnalyzerModel" "found" "I" ∈ wsX11_build := by decide +kernel
theorem fX11_build_94 : Cond.fieldLink RX11 94 "AmbiguityAnalyzerModel" "resultStates" "I" ∈ wsX11_build := by decide +kernel
theorem fX11_build_347 : Cond.fieldLink RX11 347 "AmbiguityAnalyzerModel" "resultInitials" "J" ∈ wsX11_build := by decide +kernel
theorem fX11_build_351 : Cond.fieldLink RX11 351 "AmbiguityAnalyzerModel" "resultFinals" "J" ∈ wsX11_build := by decide +kernel
theorem fX11_build_76 : Cond.fieldLink RX11 76 "AmbiguityAnalyzerModel" "own" "[I" ∈ wsX11_build := by decide +kernel
theorem fX11_build_82 : Cond.fieldLink RX11 82 "AmbiguityAnalyzerModel" "newOwn" "[I" ∈ wsX11_build := by decide +kernel
theorem fX11_build_79 : Cond.fieldLink RX11 79 "AmbiguityAnalyzerModel" "lower" "[I" ∈ wsX11_build := by decide +kernel
theorem fX11_build_85 : Cond.fieldLink RX11 85 "AmbiguityAnalyzerModel" "newLower" "[I" ∈ wsX11_build := by decide +kernel
theorem fX11_build_88 : Cond.fieldLink RX11 88 "AmbiguityAnalyzerModel" "resultTargets" "[J" ∈ wsX11_build := by decide +kernel
theorem fX11_build_91 : Cond.fieldLink RX11 91 "AmbiguityAnalyzerModel" "newTargets" "[J" ∈ wsX11_build := by decide +kernel
theorem fX11_build_115 : Cond.fieldLink RX11 115 "AmbiguityAnalyzerModel" "finals" "I" ∈ wsX11_build := by decide +kernel
theorem fX11_build_19 : Cond.fieldLink RX11 19 "AmbiguityAnalyzerModel" "states" "I" ∈ wsX11_build := by decide +kernel
theorem fX11_build_112 : Cond.fieldLink RX11 112 "AmbiguityAnalyzerModel" "initials" "I" ∈ wsX11_build := by decide +kernel
set_option maxRecDepth 100000 in
set_option maxHeartbeats 4000000 in
theorem vX11_build_257 {Z : am_Z} {X : am_X} (R : am_R) (a0 : Nat) (v16 : Int32) (J11 : am_I) (h17 : am_G Z a0 = some (.inl 11)) (ih20 : Int32 → am_L → Option (Int32 × am_I × am_L)) (hih20 : ∀ (v18 : Int32) (J19 : am_L), am_V Z X kX11_build (fun r : Int32 × am_I × am_L => (some (.int r.1), R, r.2.1, r.2.2)) 257 [(0, .ref (am_B Z + a0)), (2, .int v16), (3, .int v18)] [] R J11 J19 (ih20 v18 J19)) (v18 : Int32) (J19 : am_L) : am_V Z X kX11_build (fun r : Int32 × am_I × am_L => (some (.int r.1), R, r.2.1, r.2.2)) 257 [(0, .ref (am_B Z + a0)), (2, .int v16), (3, .int v18)] [] R J11 J19 (sX11_build_257 R a0 v16 J11 ih20 v18 J19) := by
  unfold sX11_build_257
  refine am_iload_n dX11_build_257 rfl 2 rfl ?_
  refine am_iload_n dX11_build_258 rfl 1 rfl ?_
  refine am_icmp_ge (tgt := 280) dX11_build_259 rfl (fun e21 => ?_) (fun e21 => ?_)
  · refine am_aload_n dX11_build_280 rfl 0 rfl ?_
    refine am_get 11 41 clX11 (Nat.le_of_ble_eq_true rfl) h17 iX11_build_11 fX11_build_335 rfl dX11_build_281 ?_
    exact am_iret dX11_build_284 rfl rfl
  · refine am_aload_n dX11_build_262 rfl 0 rfl ?_
    refine am_dup dX11_build_263 rfl ?_
    refine am_get 11 42 clX11 (Nat.le_of_ble_eq_true rfl) h17 iX11_build_11 fX11_build_347 rfl dX11_build_264 ?_
    refine am_lconst (v := 1) dX11_build_267 (by decide) ?_
    refine am_iload_n dX11_build_268 rfl 2 rfl ?_
    refine am_lshl dX11_build_269 ?_
    refine am_lor dX11_build_270 ?_
    refine am_putL 11 42 clX11 (Nat.le_of_ble_eq_true rfl) h17 iX11_build_11 fX11_build_347 rfl rfl dX11_build_271 ?_
    refine am_letL (fun J22 => ?_)
    refine am_iinc (j := 2) (ls' := [(3, .int (v18 + (1 : Int32))), (0, .ref (am_B Z + a0)), (2, .int v16)]) dX11_build_274 rfl rfl (Nat.le_of_ble_eq_true rfl) rfl ?_
    refine am_goto (tgt := 257) dX11_build_277 rfl ?_
    refine am_sub (ls' := [(0, .ref (am_B Z + a0)), (2, .int v16), (3, .int (v18 + (1 : Int32)))]) [1, 2, 0] rfl ?_
    exact hih20 (v18 + (1 : Int32)) J22
theorem uX11_build_257 {Z : am_Z} {X : am_X} (R : am_R) (a0 : Nat) (v16 : Int32) (J11 : am_I) (h17 : am_G Z a0 = some (.inl 11)) : ∀ (n : Nat) (v18 : Int32) (J19 : am_L), am_V Z X kX11_build (fun r : Int32 × am_I × am_L => (some (.int r.1), R, r.2.1, r.2.2)) 257 [(0, .ref (am_B Z + a0)), (2, .int v16), (3, .int v18)] [] R J11 J19 (lX11_build_257 R a0 v16 J11 n v18 J19) := by
  intro n
  induction n with
  | zero => intro _ _; exact am_none
  | succ n ih => exact fun v18 J19 => vX11_build_257 R a0 v16 J11 h17 (lX11_build_257 R a0 v16 J11 n) ih v18 J19
set_option maxRecDepth 100000 in
set_option maxHeartbeats 4000000 in
theorem vX11_build_219 {Z : am_Z} {X : am_X} (R : am_R) (a0 : Nat) (x1 : Int32) (J11 : am_I) (J12 : am_L) (h25 : am_G Z a0 = some (.inl 11)) (j13 : Int32 → Option (Int32 × am_I × am_L)) (hj13 : ∀ (v14 : Int32), am_V Z X kX11_build (fun r : Int32 × am_I × am_L => (some (.int r.1), R, r.2.1, r.2.2)) 244 [(0, .ref (am_B Z + a0)), (1, .int x1), (2, .int v14)] [] R J11 J12 (j13 v14)) (ih28 : Int32 → Int32 → Option (Int32 × am_I × am_L)) (hih28 : ∀ (v26 : Int32) (v27 : Int32), am_V Z X kX11_build (fun r : Int32 × am_I × am_L => (some (.int r.1), R, r.2.1, r.2.2)) 219 [(0, .ref (am_B Z + a0)), (1, .int x1), (2, .int v26), (3, .int v27)] [] R J11 J12 (ih28 v26 v27)) (v26 : Int32) (v27 : Int32) : am_V Z X kX11_build (fun r : Int32 × am_I × am_L => (some (.int r.1), R, r.2.1, r.2.2)) 219 [(0, .ref (am_B Z + a0)), (1, .int x1), (2, .int v26), (3, .int v27)] [] R J11 J12 (sX11_build_219 R a0 x1 J11 J12 j13 ih28 v26 v27) := by
  unfold sX11_build_219
  refine am_iload_n dX11_build_219 rfl 3 rfl ?_
  refine am_aload_n dX11_build_220 rfl 0 rfl ?_
  refine am_get 11 3 clX11 (Nat.le_of_ble_eq_true rfl) h25 iX11_build_11 fX11_build_19 rfl dX11_build_221 ?_
  refine am_icmp_ge (tgt := 244) dX11_build_224 rfl (fun e29 => ?_) (fun e29 => ?_)
  · refine am_sub (ls' := [(0, .ref (am_B Z + a0)), (1, .int x1), (2, .int v26)]) [0, 1, 2] rfl ?_
    exact hj13 v26
  · refine am_iload_n dX11_build_227 rfl 2 rfl ?_
    refine am_aload_n dX11_build_228 rfl 0 rfl ?_
    refine am_get 11 4 clX11 (Nat.le_of_ble_eq_true rfl) h25 iX11_build_11 fX11_build_112 rfl dX11_build_229 ?_
    refine am_iload_n dX11_build_232 rfl 3 rfl ?_
    refine am_ishr dX11_build_233 ?_
    refine am_iconst (v := 1) dX11_build_234 (by decide) ?_
    refine am_iand dX11_build_235 ?_
    refine am_iadd dX11_build_236 ?_
    refine am_letTi (fun v30 => ?_)
    refine am_istore_n (ls' := [(2, .int v30), (0, .ref (am_B Z + a0)), (1, .int x1), (3, .int v27)]) dX11_build_237 rfl (Nat.le_of_ble_eq_true rfl) rfl ?_
    refine am_iinc (j := 3) (ls' := [(3, .int (v27 + (1 : Int32))), (2, .int v30), (0, .ref (am_B Z + a0)), (1, .int x1)]) dX11_build_238 rfl rfl (Nat.le_of_ble_eq_true rfl) rfl ?_
    refine am_goto (tgt := 219) dX11_build_241 rfl ?_
    refine am_sub (ls' := [(0, .ref (am_B Z + a0)), (1, .int x1), (2, .int v30), (3, .int (v27 + (1 : Int32)))]) [2, 3, 1, 0] rfl ?_
    exact hih28 v30 (v27 + (1 : Int32))
theorem uX11_build_219 {Z : am_Z} {X : am_X} (R : am_R) (a0 : Nat) (x1 : Int32) (J11 : am_I) (J12 : am_L) (h25 : am_G Z a0 = some (.inl 11)) (j13 : Int32 → Option (Int32 × am_I × am_L)) (hj13 : ∀ (v14 : Int32), am_V Z X kX11_build (fun r : Int32 × am_I × am_L => (some (.int r.1), R, r.2.1, r.2.2)) 244 [(0, .ref (am_B Z + a0)), (1, .int x1), (2, .int v14)] [] R J11 J12 (j13 v14)) : ∀ (n : Nat) (v26 : Int32) (v27 : Int32), am_V Z X kX11_build (fun r : Int32 × am_I × am_L => (some (.int r.1), R, r.2.1, r.2.2)) 219 [(0, .ref (am_B Z + a0)), (1, .int x1), (2, .int v26), (3, .int v27)] [] R J11 J12 (lX11_build_219 R a0 x1 J11 J12 j13 n v26 v27) := by
  intro n
  induction n with
  | zero => intro _ _; exact am_none
  | succ n ih => exact fun v26 v27 => vX11_build_219 R a0 x1 J11 J12 h25 j13 hj13 (lX11_build_219 R a0 x1 J11 J12 j13 n) ih v26 v27
set_option maxRecDepth 100000 in
set_option maxHeartbeats 4000000 in
theorem vX11_build_95 {Z : am_Z} {X : am_X} (R : am_R) (a0 : Nat) (x1 : Int32) (v32 : Int32) (J42 : am_I) (h60 : am_G Z a0 = some (.inl 11)) (j43 : am_L → Option (Int32 × am_I × am_L)) (hj43 : ∀ (J44 : am_L), am_V Z X kX11_build (fun r : Int32 × am_I × am_L => (some (.int r.1), R, r.2.1, r.2.2)) 126 [(0, .ref (am_B Z + a0)), (1, .int x1), (2, .int v32)] [] R J42 J44 (j43 J44)) (ih63 : Int32 → am_L → Option (Int32 × am_I × am_L)) (hih63 : ∀ (v61 : Int32) (J62 : am_L), am_V Z X kX11_build (fun r : Int32 × am_I × am_L => (some (.int r.1), R, r.2.1, r.2.2)) 95 [(0, .ref (am_B Z + a0)), (1, .int x1), (2, .int v32), (3, .int v61)] [] R J42 J62 (ih63 v61 J62)) (v61 : Int32) (J62 : am_L) : am_V Z X kX11_build (fun r : Int32 × am_I × am_L => (some (.int r.1), R, r.2.1, r.2.2)) 95 [(0, .ref (am_B Z + a0)), (1, .int x1), (2, .int v32), (3, .int v61)] [] R J42 J62 (sX11_build_95 R a0 x1 v32 J42 j43 ih63 v61 J62) := by
  unfold sX11_build_95
  refine am_iload_n dX11_build_95 rfl 3 rfl ?_
  refine am_iconst (v := 3) dX11_build_96 (by decide) ?_
  refine am_icmp_ge (tgt := 126) dX11_build_97 rfl (fun e64 => ?_) (fun e64 => ?_)
  · refine am_sub (ls' := [(0, .ref (am_B Z + a0)), (1, .int x1), (2, .int v32)]) [0, 1, 2] rfl ?_
    exact hj43 J62
  · refine am_aload_n dX11_build_100 rfl 0 rfl ?_
    refine am_getR 11 38 clX11 (Nat.le_of_ble_eq_true rfl) h60 iX11_build_11 fX11_build_88 rfl rfl dX11_build_101 (fun h65 => ?_)
    refine am_iconst (v := 3) dX11_build_104 (by decide) ?_
    refine am_iload_n dX11_build_105 rfl 2 rfl ?_
    refine am_imul dX11_build_106 ?_
    refine am_iload_n dX11_build_107 rfl 3 rfl ?_
    refine am_iadd dX11_build_108 ?_
    refine am_aload_n dX11_build_109 rfl 0 rfl ?_
    refine am_getR 11 39 clX11 (Nat.le_of_ble_eq_true rfl) h60 iX11_build_11 fX11_build_91 rfl rfl dX11_build_110 (fun h66 => ?_)
    refine am_iconst (v := 3) dX11_build_113 (by decide) ?_
    refine am_iload_n dX11_build_114 rfl 2 rfl ?_
    refine am_imul dX11_build_115 ?_
    refine am_iload_n dX11_build_116 rfl 3 rfl ?_
    refine am_iadd dX11_build_117 ?_
    refine am_lald h66 dX11_build_118 ?_
    refine am_last h65 dX11_build_119 ?_
    refine am_letL (fun J67 => ?_)
    refine am_iinc (j := 3) (ls' := [(3, .int (v61 + (1 : Int32))), (0, .ref (am_B Z + a0)), (1, .int x1), (2, .int v32)]) dX11_build_120 rfl rfl (Nat.le_of_ble_eq_true rfl) rfl ?_
    refine am_goto (tgt := 95) dX11_build_123 rfl ?_
    refine am_sub (ls' := [(0, .ref (am_B Z + a0)), (1, .int x1), (2, .int v32), (3, .int (v61 + (1 : Int32)))]) [1, 2, 3, 0] rfl ?_
    exact hih63 (v61 + (1 : Int32)) J67
theorem uX11_build_95 {Z : am_Z} {X : am_X} (R : am_R) (a0 : Nat) (x1 : Int32) (v32 : Int32) (J42 : am_I) (h60 : am_G Z a0 = some (.inl 11)) (j43 : am_L → Option (Int32 × am_I × am_L)) (hj43 : ∀ (J44 : am_L), am_V Z X kX11_build (fun r : Int32 × am_I × am_L => (some (.int r.1), R, r.2.1, r.2.2)) 126 [(0, .ref (am_B Z + a0)), (1, .int x1), (2, .int v32)] [] R J42 J44 (j43 J44)) : ∀ (n : Nat) (v61 : Int32) (J62 : am_L), am_V Z X kX11_build (fun r : Int32 × am_I × am_L => (some (.int r.1), R, r.2.1, r.2.2)) 95 [(0, .ref (am_B Z + a0)), (1, .int x1), (2, .int v32), (3, .int v61)] [] R J42 J62 (lX11_build_95 R a0 x1 v32 J42 j43 n v61 J62) := by
  intro n
  induction n with
  | zero => intro _ _; exact am_none
  | succ n ih => exact fun v61 J62 => vX11_build_95 R a0 x1 v32 J42 h60 j43 hj43 (lX11_build_95 R a0 x1 v32 J42 j43 n) ih v61 J62
set_option maxRecDepth 100000 in
set_option maxHeartbeats 4000000 in
theorem vX11_build_61 {Z : am_Z} {X : am_X} (R : am_R) (a0 : Nat) (x1 : Int32) (h31 : am_G Z a0 = some (.inl 11)) (j10 : am_I → am_L → Option (Int32 × am_I × am_L)) (hj10 : ∀ (J11 : am_I) (J12 : am_L), am_V Z X kX11_build (fun r : Int32 × am_I × am_L => (some (.int r.1), R, r.2.1, r.2.2)) 215 [(0, .ref (am_B Z + a0)), (1, .int x1)] [] R J11 J12 (j10 J11 J12)) (ih35 : Int32 → am_I → am_L → Option (Int32 × am_I × am_L)) (hih35 : ∀ (v32 : Int32) (J33 : am_I) (J34 : am_L), am_V Z X kX11_build (fun r : Int32 × am_I × am_L => (some (.int r.1), R, r.2.1, r.2.2)) 61 [(0, .ref (am_B Z + a0)), (1, .int x1), (2, .int v32)] [] R J33 J34 (ih35 v32 J33 J34)) (v32 : Int32) (J33 : am_I) (J34 : am_L) : am_V Z X kX11_build (fun r : Int32 × am_I × am_L => (some (.int r.1), R, r.2.1, r.2.2)) 61 [(0, .ref (am_B Z + a0)), (1, .int x1), (2, .int v32)] [] R J33 J34 (sX11_build_61 R a0 x1 j10 ih35 v32 J33 J34) := by
  unfold sX11_build_61
  refine am_iload_n dX11_build_61 rfl 2 rfl ?_
  refine am_aload_n dX11_build_62 rfl 0 rfl ?_
  refine am_get 11 41 clX11 (Nat.le_of_ble_eq_true rfl) h31 iX11_build_11 fX11_build_335 rfl dX11_build_63 ?_
  refine am_icmp_ge (tgt := 215) dX11_build_66 rfl (fun e36 => ?_) (fun e36 => ?_)
  · refine am_sub (ls' := [(0, .ref (am_B Z + a0)), (1, .int x1)]) [0, 1] rfl ?_
    exact hj10 J33 J34
  · refine am_aload_n dX11_build_69 rfl 0 rfl ?_
    refine am_getR 11 34 clX11 (Nat.le_of_ble_eq_true rfl) h31 iX11_build_11 fX11_build_76 rfl rfl dX11_build_70 (fun h37 => ?_)
    refine am_iload_n dX11_build_73 rfl 2 rfl ?_
    refine am_aload_n dX11_build_74 rfl 0 rfl ?_
    refine am_getR 11 36 clX11 (Nat.le_of_ble_eq_true rfl) h31 iX11_build_11 fX11_build_82 rfl rfl dX11_build_75 (fun h38 => ?_)
    refine am_iload_n dX11_build_78 rfl 2 rfl ?_
    refine am_iald h38 dX11_build_79 ?_
    refine am_iast h37 dX11_build_80 ?_
    refine am_letI (fun J39 => ?_)
    refine am_aload_n dX11_build_81 rfl 0 rfl ?_
    refine am_getR 11 35 clX11 (Nat.le_of_ble_eq_true rfl) h31 iX11_build_11 fX11_build_79 rfl rfl dX11_build_82 (fun h40 => ?_)
    refine am_iload_n dX11_build_85 rfl 2 rfl ?_
    refine am_aload_n dX11_build_86 rfl 0 rfl ?_
    refine am_getR 11 37 clX11 (Nat.le_of_ble_eq_true rfl) h31 iX11_build_11 fX11_build_85 rfl rfl dX11_build_87 (fun h41 => ?_)
    refine am_iload_n dX11_build_90 rfl 2 rfl ?_
    refine am_iald h41 dX11_build_91 ?_
    refine am_iast h40 dX11_build_92 ?_
    refine am_letI (fun J42 => ?_)
    refine am_iconst (v := 0) dX11_build_93 (by decide) ?_
    refine am_istore_n (ls' := [(3, .int (0 : Int32)), (0, .ref (am_B Z + a0)), (1, .int x1), (2, .int v32)]) dX11_build_94 rfl (Nat.le_of_ble_eq_true rfl) rfl ?_
    refine am_jnV (fun j43 ej43 => ?_)
    have hj43 : ∀ (J44 : am_L), am_V Z X kX11_build (fun r : Int32 × am_I × am_L => (some (.int r.1), R, r.2.1, r.2.2)) 126 [(0, .ref (am_B Z + a0)), (1, .int x1), (2, .int v32)] [] R J42 J44 (j43 J44) := by
      subst ej43
      intro J44
      show am_V Z X kX11_build (fun r : Int32 × am_I × am_L => (some (.int r.1), R, r.2.1, r.2.2)) 126 [(0, .ref (am_B Z + a0)), (1, .int x1), (2, .int v32)] [] R J42 J44 _
      refine am_iload_n dX11_build_126 rfl 1 rfl ?_
      refine am_jnV (fun j45 ej45 => ?_)
      have hj45 : ∀ (v46 : Int32), am_V Z X kX11_build (fun r : Int32 × am_I × am_L => (some (.int r.1), R, r.2.1, r.2.2)) 188 [(0, .ref (am_B Z + a0)), (1, .int x1), (2, .int v32)] [.int v46] R J42 J44 (j45 v46) := by
        subst ej45
        intro v46
        show am_V Z X kX11_build (fun r : Int32 × am_I × am_L => (some (.int r.1), R, r.2.1, r.2.2)) 188 [(0, .ref (am_B Z + a0)), (1, .int x1), (2, .int v32)] [.int v46] R J42 J44 _
        refine am_istore_n (ls' := [(3, .int v46), (0, .ref (am_B Z + a0)), (1, .int x1), (2, .int v32)]) dX11_build_188 rfl (Nat.le_of_ble_eq_true rfl) rfl ?_
        refine am_aload_n dX11_build_189 rfl 1 rfl ?_
        refine am_dup dX11_build_190 rfl ?_
        refine am_get 11 43 clX11 (Nat.le_of_ble_eq_true rfl) h31 iX11_build_11 fX11_build_351 rfl dX11_build_191 ?_
        refine am_iload_n dX11_build_194 rfl 0 rfl ?_
        refine am_letJ (fun k48 ek48 => ?_)
        have hk48 : ∀ v47 : Int64, am_V Z X kX11_build (fun r : Int32 × am_I × am_L => (some (.int r.1), R, r.2.1, r.2.2)) 205 [(0, .ref (am_B Z + a0)), (1, .int x1), (2, .int v32)] [.long v47, .long (J44 a0 43), .ref (am_B Z + a0)] R J42 J44 (k48 v47) := by
          subst ek48
          intro v47
          show am_V Z X kX11_build (fun r : Int32 × am_I × am_L => (some (.int r.1), R, r.2.1, r.2.2)) 205 [(0, .ref (am_B Z + a0)), (1, .int x1), (2, .int v32)] [.long v47, .long (J44 a0 43), .ref (am_B Z + a0)] R J42 J44 _
          refine am_lor dX11_build_205 ?_
          refine am_putL 11 43 clX11 (Nat.le_of_ble_eq_true rfl) h31 iX11_build_11 fX11_build_351 rfl rfl dX11_build_206 ?_
          refine am_letL (fun J49 => ?_)
          refine am_iinc (j := 2) (ls' := [(2, .int (v32 + (1 : Int32))), (0, .ref (am_B Z + a0)), (1, .int x1)]) dX11_build_209 rfl rfl (Nat.le_of_ble_eq_true rfl) rfl ?_
          refine am_goto (tgt := 61) dX11_build_212 rfl ?_
          refine am_sub (ls' := [(0, .ref (am_B Z + a0)), (1, .int x1), (2, .int (v32 + (1 : Int32)))]) [1, 2, 0] rfl ?_
          exact hih35 (v32 + (1 : Int32)) J42 J49
        refine am_if_eqL (tgt := 204) dX11_build_195 rfl (fun e50 => ?_) (fun e50 => ?_)
        · refine am_lconst (v := 0) dX11_build_204 (by decide) ?_
          refine am_sub (ls' := [(0, .ref (am_B Z + a0)), (1, .int x1), (2, .int v32)]) [1, 2, 3] rfl ?_
          exact hk48 _
        · refine am_lconst (v := 1) dX11_build_198 (by decide) ?_
          refine am_iload_n dX11_build_199 rfl 3 rfl ?_
          refine am_lshl dX11_build_200 ?_
          refine am_goto (tgt := 205) dX11_build_201 rfl ?_
          refine am_sub (ls' := [(0, .ref (am_B Z + a0)), (1, .int x1), (2, .int v32)]) [1, 2, 3] rfl ?_
          exact hk48 _
      refine am_if_ne (tgt := 152) dX11_build_127 rfl (fun e51 => ?_) (fun e51 => ?_)
      · refine am_aload_n dX11_build_152 rfl 0 rfl ?_
        refine am_get 11 5 clX11 (Nat.le_of_ble_eq_true rfl) h31 iX11_build_11 fX11_build_115 rfl dX11_build_153 ?_
        refine am_i2l dX11_build_156 ?_
        refine am_aload_n dX11_build_157 rfl 0 rfl ?_
        refine am_getR 11 34 clX11 (Nat.le_of_ble_eq_true rfl) h31 iX11_build_11 fX11_build_76 rfl rfl dX11_build_158 (fun h52 => ?_)
        refine am_iload_n dX11_build_161 rfl 2 rfl ?_
        refine am_iald h52 dX11_build_162 ?_
        refine am_callS [.long (Int32.toInt64 (J42 a0 5)), .int (J42 (R a0 34) (Int32.toNatClampNeg v32))] (tX11_has R J42 J44 (Int32.toInt64 (J42 a0 5)) (J42 (R a0 34) (Int32.toNatClampNeg v32))) gX11_build_X11_has hX11_has ⟨Nat.le_of_ble_eq_true rfl, Nat.le_of_ble_eq_true rfl⟩ rfl rfl (Nat.le_of_ble_eq_true rfl) dX11_build_163 (fun r53 => ?_)
        show am_V Z X kX11_build (fun r : Int32 × am_I × am_L => (some (.int r.1), R, r.2.1, r.2.2)) 166 [(0, .ref (am_B Z + a0)), (1, .int x1), (2, .int v32)] [.int r53] R J42 J44 _
        refine am_jnV (fun j54 ej54 => ?_)
        have hj54 : am_V Z X kX11_build (fun r : Int32 × am_I × am_L => (some (.int r.1), R, r.2.1, r.2.2)) 187 [(0, .ref (am_B Z + a0)), (1, .int x1), (2, .int v32)] [] R J42 J44 j54 := by
          subst ej54
          show am_V Z X kX11_build (fun r : Int32 × am_I × am_L => (some (.int r.1), R, r.2.1, r.2.2)) 187 [(0, .ref (am_B Z + a0)), (1, .int x1), (2, .int v32)] [] R J42 J44 _
          refine am_iconst (v := 0) dX11_build_187 (by decide) ?_
          exact hj45 (0 : Int32)
        refine am_if_eq (tgt := 187) dX11_build_166 rfl (fun e55 => ?_) (fun e55 => ?_)
        · exact hj54
        · refine am_aload_n dX11_build_169 rfl 0 rfl ?_
          refine am_getR 11 35 clX11 (Nat.le_of_ble_eq_true rfl) h31 iX11_build_11 fX11_build_79 rfl rfl dX11_build_170 (fun h56 => ?_)
          refine am_iload_n dX11_build_173 rfl 2 rfl ?_
          refine am_iald h56 dX11_build_174 ?_
          refine am_aload_n dX11_build_175 rfl 0 rfl ?_
          refine am_get 11 5 clX11 (Nat.le_of_ble_eq_true rfl) h31 iX11_build_11 fX11_build_115 rfl dX11_build_176 ?_
          refine am_iand dX11_build_179 ?_
          refine am_if_ne (tgt := 187) dX11_build_180 rfl (fun e57 => ?_) (fun e57 => ?_)
          · exact hj54
          · refine am_iconst (v := 1) dX11_build_183 (by decide) ?_
            refine am_goto (tgt := 188) dX11_build_184 rfl ?_
            exact hj45 (1 : Int32)
      · refine am_aload_n dX11_build_130 rfl 0 rfl ?_
        refine am_getR 11 35 clX11 (Nat.le_of_ble_eq_true rfl) h31 iX11_build_11 fX11_build_79 rfl rfl dX11_build_131 (fun h58 => ?_)
        refine am_iload_n dX11_build_134 rfl 2 rfl ?_
        refine am_iald h58 dX11_build_135 ?_
        refine am_aload_n dX11_build_136 rfl 0 rfl ?_
        refine am_get 11 5 clX11 (Nat.le_of_ble_eq_true rfl) h31 iX11_build_11 fX11_build_115 rfl dX11_build_137 ?_
        refine am_iand dX11_build_140 ?_
        refine am_if_eq (tgt := 148) dX11_build_141 rfl (fun e59 => ?_) (fun e59 => ?_)
        · refine am_iconst (v := 0) dX11_build_148 (by decide) ?_
          refine am_goto (tgt := 188) dX11_build_149 rfl ?_
          exact hj45 (0 : Int32)
        · refine am_iconst (v := 1) dX11_build_144 (by decide) ?_
          refine am_goto (tgt := 188) dX11_build_145 rfl ?_
          exact hj45 (1 : Int32)
    refine am_sub (ls' := [(0, .ref (am_B Z + a0)), (1, .int x1), (2, .int v32), (3, .int (0 : Int32))]) [1, 2, 3, 0] rfl ?_
    exact uX11_build_95 R a0 x1 v32 J42 h31 j43 hj43 am_fu (0 : Int32) J34
theorem uX11_build_61 {Z : am_Z} {X : am_X} (R : am_R) (a0 : Nat) (x1 : Int32) (h31 : am_G Z a0 = some (.inl 11)) (j10 : am_I → am_L → Option (Int32 × am_I × am_L)) (hj10 : ∀ (J11 : am_I) (J12 : am_L), am_V Z X kX11_build (fun r : Int32 × am_I × am_L => (some (.int r.1), R, r.2.1, r.2.2)) 215 [(0, .ref (am_B Z + a0)), (1, .int x1)] [] R J11 J12 (j10 J11 J12)) : ∀ (n : Nat) (v32 : Int32) (J33 : am_I) (J34 : am_L), am_V Z X kX11_build (fun r : Int32 × am_I × am_L => (some (.int r.1), R, r.2.1, r.2.2)) 61 [(0, .ref (am_B Z + a0)), (1, .int x1), (2, .int v32)] [] R J33 J34 (lX11_build_61 R a0 x1 j10 n v32 J33 J34) := by
  intro n
  induction n with
  | zero => intro _ _ _; exact am_none
  | succ n ih => exact fun v32 J33 J34 => vX11_build_61 R a0 x1 h31 j10 hj10 (lX11_build_61 R a0 x1 j10 n) ih v32 J33 J34
set_option maxRecDepth 100000 in
set_option maxHeartbeats 4000000 in
theorem tX11_build {Z : am_Z} (R : am_R) (I : am_I) (L : am_L) (a0 : Nat) (x1 : Int32) (h_a0 : am_G Z a0 = some (.inl 11)) : am_M Z yX11_build kX11_build [.ref (am_B Z + a0), .int x1] R I L (pX11_build R I L a0 x1) (fun r : Int32 × am_I × am_L => (some (.int r.1), R, r.2.1, r.2.2)) := by
  refine am_entry (ls := [(0, .ref (am_B Z + a0)), (1, .int x1)]) (by decide) hX11_build rfl (Nat.le_of_ble_eq_true rfl) rfl (fun X => ?_)
  unfold pX11_build
  refine am_iload_n dX11_build_0 rfl 1 rfl ?_
  refine am_i2l dX11_build_1 ?_
  refine am_lconst (v := 0) dX11_build_2 (by decide) ?_
  refine am_lconst (v := 1) dX11_build_3 (by decide) ?_
  refine am_callS [.long (Int32.toInt64 x1), .long (0 : Int64), .long (1 : Int64)] (tX11_isBetween R I L (Int32.toInt64 x1) (0 : Int64) (1 : Int64)) gX11_build_X11_isBetween hX11_isBetween ⟨Nat.le_of_ble_eq_true rfl, Nat.le_of_ble_eq_true rfl⟩ rfl rfl (Nat.le_of_ble_eq_true rfl) dX11_build_4 (fun r1 => ?_)
  show am_V Z X kX11_build (fun r : Int32 × am_I × am_L => (some (.int r.1), R, r.2.1, r.2.2)) 7 [(0, .ref (am_B Z + a0)), (1, .int x1)] [.int r1] R I L _
  refine am_if_ne (tgt := 12) dX11_build_7 rfl (fun e2 => ?_) (fun e2 => ?_)
  · refine am_aload_n dX11_build_12 rfl 0 rfl ?_
    refine am_iconst (v := 0) dX11_build_13 (by decide) ?_
    refine am_putI 11 41 clX11 (Nat.le_of_ble_eq_true rfl) h_a0 iX11_build_11 fX11_build_335 rfl rfl dX11_build_14 ?_
    refine am_letI (fun J3 => ?_)
    refine am_iload_n dX11_build_17 rfl 1 rfl ?_
    refine am_jnV (fun j4 ej4 => ?_)
    have hj4 : ∀ (J5 : am_I) (J6 : am_L), am_V Z X kX11_build (fun r : Int32 × am_I × am_L => (some (.int r.1), R, r.2.1, r.2.2)) 41 [(0, .ref (am_B Z + a0)), (1, .int x1)] [] R J5 J6 (j4 J5 J6) := by
      subst ej4
      intro J5 J6
      show am_V Z X kX11_build (fun r : Int32 × am_I × am_L => (some (.int r.1), R, r.2.1, r.2.2)) 41 [(0, .ref (am_B Z + a0)), (1, .int x1)] [] R J5 J6 _
      refine am_aload_n dX11_build_41 rfl 0 rfl ?_
      refine am_aload_n dX11_build_42 rfl 0 rfl ?_
      refine am_get 11 41 clX11 (Nat.le_of_ble_eq_true rfl) h_a0 iX11_build_11 fX11_build_335 rfl dX11_build_43 ?_
      refine am_putI 11 40 clX11 (Nat.le_of_ble_eq_true rfl) h_a0 iX11_build_11 fX11_build_94 rfl rfl dX11_build_46 ?_
      refine am_letI (fun J7 => ?_)
      refine am_aload_n dX11_build_49 rfl 0 rfl ?_
      refine am_lconst (v := 0) dX11_build_50 (by decide) ?_
      refine am_putL 11 42 clX11 (Nat.le_of_ble_eq_true rfl) h_a0 iX11_build_11 fX11_build_347 rfl rfl dX11_build_51 ?_
      refine am_letL (fun J8 => ?_)
      refine am_aload_n dX11_build_54 rfl 0 rfl ?_
      refine am_lconst (v := 0) dX11_build_55 (by decide) ?_
      refine am_putL 11 43 clX11 (Nat.le_of_ble_eq_true rfl) h_a0 iX11_build_11 fX11_build_351 rfl rfl dX11_build_56 ?_
      refine am_letL (fun J9 => ?_)
      refine am_iconst (v := 0) dX11_build_59 (by decide) ?_
      refine am_istore_n (ls' := [(2, .int (0 : Int32)), (0, .ref (am_B Z + a0)), (1, .int x1)]) dX11_build_60 rfl (Nat.le_of_ble_eq_true rfl) rfl ?_
      refine am_jnV (fun j10 ej10 => ?_)
      have hj10 : ∀ (J11 : am_I) (J12 : am_L), am_V Z X kX11_build (fun r : Int32 × am_I × am_L => (some (.int r.1), R, r.2.1, r.2.2)) 215 [(0, .ref (am_B Z + a0)), (1, .int x1)] [] R J11 J12 (j10 J11 J12) := by
        subst ej10
        intro J11 J12
        show am_V Z X kX11_build (fun r : Int32 × am_I × am_L => (some (.int r.1), R, r.2.1, r.2.2)) 215 [(0, .ref (am_B Z + a0)), (1, .int x1)] [] R J11 J12 _
        refine am_iconst (v := 0) dX11_build_215 (by decide) ?_
        refine am_istore_n (ls' := [(2, .int (0 : Int32)), (0, .ref (am_B Z + a0)), (1, .int x1)]) dX11_build_216 rfl (Nat.le_of_ble_eq_true rfl) rfl ?_
        refine am_iconst (v := 0) dX11_build_217 (by decide) ?_
        refine am_istore_n (ls' := [(3, .int (0 : Int32)), (2, .int (0 : Int32)), (0, .ref (am_B Z + a0)), (1, .int x1)]) dX11_build_218 rfl (Nat.le_of_ble_eq_true rfl) rfl ?_
        refine am_jnV (fun j13 ej13 => ?_)
        have hj13 : ∀ (v14 : Int32), am_V Z X kX11_build (fun r : Int32 × am_I × am_L => (some (.int r.1), R, r.2.1, r.2.2)) 244 [(0, .ref (am_B Z + a0)), (1, .int x1), (2, .int v14)] [] R J11 J12 (j13 v14) := by
          subst ej13
          intro v14
          show am_V Z X kX11_build (fun r : Int32 × am_I × am_L => (some (.int r.1), R, r.2.1, r.2.2)) 244 [(0, .ref (am_B Z + a0)), (1, .int x1), (2, .int v14)] [] R J11 J12 _
          refine am_iload_n dX11_build_244 rfl 1 rfl ?_
          refine am_jnV (fun j15 ej15 => ?_)
          have hj15 : ∀ (v16 : Int32), am_V Z X kX11_build (fun r : Int32 × am_I × am_L => (some (.int r.1), R, r.2.1, r.2.2)) 255 [(0, .ref (am_B Z + a0)), (2, .int v16)] [] R J11 J12 (j15 v16) := by
            subst ej15
            intro v16
            show am_V Z X kX11_build (fun r : Int32 × am_I × am_L => (some (.int r.1), R, r.2.1, r.2.2)) 255 [(0, .ref (am_B Z + a0)), (2, .int v16)] [] R J11 J12 _
            refine am_iconst (v := 0) dX11_build_255 (by decide) ?_
            refine am_istore_n (ls' := [(3, .int (0 : Int32)), (0, .ref (am_B Z + a0)), (2, .int v16)]) dX11_build_256 rfl (Nat.le_of_ble_eq_true rfl) rfl ?_
            refine am_sub (ls' := [(0, .ref (am_B Z + a0)), (2, .int v16), (3, .int (0 : Int32))]) [1, 2, 0] rfl ?_
            exact uX11_build_257 R a0 v16 J11 h_a0 am_fu (0 : Int32) J12
          refine am_if_ne (tgt := 255) dX11_build_245 rfl (fun e23 => ?_) (fun e23 => ?_)
          · refine am_sub (ls' := [(0, .ref (am_B Z + a0)), (2, .int v14)]) [0, 2] rfl ?_
            exact hj15 v14
          · refine am_iload_n dX11_build_248 rfl 2 rfl ?_
            refine am_iconst (v := 1) dX11_build_249 (by decide) ?_
            refine am_icmp_le (tgt := 255) dX11_build_250 rfl (fun e24 => ?_) (fun e24 => ?_)
            · refine am_sub (ls' := [(0, .ref (am_B Z + a0)), (2, .int v14)]) [0, 2] rfl ?_
              exact hj15 v14
            · refine am_iconst (v := 1) dX11_build_253 (by decide) ?_
              refine am_istore_n (ls' := [(2, .int (1 : Int32)), (0, .ref (am_B Z + a0)), (1, .int x1)]) dX11_build_254 rfl (Nat.le_of_ble_eq_true rfl) rfl ?_
              refine am_sub (ls' := [(0, .ref (am_B Z + a0)), (2, .int (1 : Int32))]) [1, 0] rfl ?_
              exact hj15 (1 : Int32)
        refine am_sub (ls' := [(0, .ref (am_B Z + a0)), (1, .int x1), (2, .int (0 : Int32)), (3, .int (0 : Int32))]) [2, 3, 1, 0] rfl ?_
        exact uX11_build_219 R a0 x1 J11 J12 h_a0 j13 hj13 am_fu (0 : Int32) (0 : Int32)
      refine am_sub (ls' := [(0, .ref (am_B Z + a0)), (1, .int x1), (2, .int (0 : Int32))]) [1, 2, 0] rfl ?_
      exact uX11_build_61 R a0 x1 h_a0 j10 hj10 am_fu (0 : Int32) J7 J9
    refine am_if_ne (tgt := 31) dX11_build_18 rfl (fun e68 => ?_) (fun e68 => ?_)
    · refine am_aload_n dX11_build_31 rfl 0 rfl ?_
      refine am_callV [] (tX11_buildsPairs R J3 L a0 h_a0) h_a0 clX11 gX11_build_X11_buildsPairs hX11_buildsPairs rfl ⟨Nat.le_of_ble_eq_true rfl, Nat.le_of_ble_eq_true rfl⟩ rfl rfl (Nat.le_of_ble_eq_true rfl) dX11_build_32 (fun r69 => ?_)
      show am_V Z X kX11_build (fun r : Int32 × am_I × am_L => (some (.int r.1), R, r.2.1, r.2.2)) 35 [(0, .ref (am_B Z + a0)), (1, .int x1)] [.int r69.1] R r69.2.1 r69.2.2 _
      refine am_if_ne (tgt := 41) dX11_build_35 rfl (fun e70 => ?_) (fun e70 => ?_)
      · exact hj4 r69.2.1 r69.2.2
      · refine am_bipush (v := -5) dX11_build_38 (by decide) ?_
        exact am_iret dX11_build_40 rfl rfl
    · refine am_aload_n dX11_build_21 rfl 0 rfl ?_
      refine am_callV [] (tX11_buildsSets R J3 L a0 h_a0) h_a0 clX11 gX11_build_X11_buildsSets hX11_buildsSets rfl ⟨Nat.le_of_ble_eq_true rfl, Nat.le_of_ble_eq_true rfl⟩ rfl rfl (Nat.le_of_ble_eq_true rfl) dX11_build_22 (fun r71 => ?_)
      show am_V Z X kX11_build (fun r : Int32 × am_I × am_L => (some (.int r.1), R, r.2.1, r.2.2)) 25 [(0, .ref (am_B Z + a0)), (1, .int x1)] [.int r71.1] R r71.2.1 r71.2.2 _
      refine am_if_eq (tgt := 38) dX11_build_25 rfl (fun e72 => ?_) (fun e72 => ?_)
      · refine am_bipush (v := -5) dX11_build_38 (by decide) ?_
        exact am_iret dX11_build_40 rfl rfl
      · refine am_goto (tgt := 41) dX11_build_28 rfl ?_
        exact hj4 r71.2.1 r71.2.2
  · refine am_iconst (v := -1) dX11_build_10 (by decide) ?_
    exact am_iret dX11_build_11 rfl rfl
abbrev kX11_resultStateCount : am_K := (cX11_resultStateCount, 1, RX11, wsX11_resultStateCount, some .int, { frames := 0, cells := 0, slots := 0, locals := 0 })
theorem hX11_resultStateCount : am_cl yX11_resultStateCount kX11_resultStateCount 0 := ⟨⟨_, rfl⟩, rfl, rfl, by decide +kernel, by decide +kernel, by decide +kernel⟩
theorem iX11_resultStateCount_11 : ∀ w ∈ u_ws RX11 TX11 50, w ∈ wsX11_resultStateCount := by decide +kernel
theorem fX11_resultStateCount_94 : Cond.fieldLink RX11 94 "AmbiguityAnalyzerModel" "resultStates" "I" ∈ wsX11_resultStateCount := by decide +kernel
set_option maxRecDepth 100000 in
set_option maxHeartbeats 4000000 in
theorem tX11_resultStateCount {Z : am_Z} (R : am_R) (I : am_I) (L : am_L) (a0 : Nat) (h_a0 : am_G Z a0 = some (.inl 11)) : am_M Z yX11_resultStateCount kX11_resultStateCount [.ref (am_B Z + a0)] R I L (pX11_resultStateCount I a0) (fun r : Int32 => (some (.int r), R, I, L)) := by
  refine am_entry (ls := [(0, .ref (am_B Z + a0))]) (by decide) hX11_resultStateCount rfl (Nat.le_of_ble_eq_true rfl) rfl (fun X => ?_)
  unfold pX11_resultStateCount
  refine am_aload_n dX11_resultStateCount_0 rfl 0 rfl ?_
  refine am_get 11 40 clX11 (Nat.le_of_ble_eq_true rfl) h_a0 iX11_resultStateCount_11 fX11_resultStateCount_94 rfl dX11_resultStateCount_1 ?_
  exact am_iret dX11_resultStateCount_4 rfl rfl
abbrev kX11_resultInitials : am_K := (cX11_resultInitials, 1, RX11, wsX11_resultInitials, some .long, { frames := 0, cells := 0, slots := 0, locals := 0 })
theorem hX11_resultInitials : am_cl yX11_resultInitials kX11_resultInitials 0 := ⟨⟨_, rfl⟩, rfl, rfl, by decide +kernel, by decide +kernel, by decide +kernel⟩
theorem iX11_resultInitials_11 : ∀ w ∈ u_ws RX11 TX11 50, w ∈ wsX11_resultInitials := by decide +kernel
theorem fX11_resultInitials_347 : Cond.fieldLink RX11 347 "AmbiguityAnalyzerModel" "resultInitials" "J" ∈ wsX11_resultInitials := by decide +kernel
set_option maxRecDepth 100000 in
set_option maxHeartbeats 4000000 in
theorem tX11_resultInitials {Z : am_Z} (R : am_R) (I : am_I) (L : am_L) (a0 : Nat) (h_a0 : am_G Z a0 = some (.inl 11)) : am_M Z yX11_resultInitials kX11_resultInitials [.ref (am_B Z + a0)] R I L (pX11_resultInitials L a0) (fun r : Int64 => (some (.long r), R, I, L)) := by
  refine am_entry (ls := [(0, .ref (am_B Z + a0))]) (by decide) hX11_resultInitials rfl (Nat.le_of_ble_eq_true rfl) rfl (fun X => ?_)
  unfold pX11_resultInitials
  refine am_aload_n dX11_resultInitials_0 rfl 0 rfl ?_
  refine am_get 11 42 clX11 (Nat.le_of_ble_eq_true rfl) h_a0 iX11_resultInitials_11 fX11_resultInitials_347 rfl dX11_resultInitials_1 ?_
  exact am_lret dX11_resultInitials_4 rfl rfl
abbrev kX11_resultFinals : am_K := (cX11_resultFinals, 1, RX11, wsX11_resultFinals, some .long, { frames := 0, cells := 0, slots := 0, locals := 0 })
theorem hX11_resultFinals : am_cl yX11_resultFinals kX11_resultFinals 0 := ⟨⟨_, rfl⟩, rfl, rfl, by decide +kernel, by decide +kernel, by decide +kernel⟩
theorem iX11_resultFinals_11 : ∀ w ∈ u_ws RX11 TX11 50, w ∈ wsX11_resultFinals := by decide +kernel
theorem fX11_resultFinals_351 : Cond.fieldLink RX11 351 "AmbiguityAnalyzerModel" "resultFinals" "J" ∈ wsX11_resultFinals := by decide +kernel
set_option maxRecDepth 100000 in
set_option maxHeartbeats 4000000 in
theorem tX11_resultFinals {Z : am_Z} (R : am_R) (I : am_I) (L : am_L) (a0 : Nat) (h_a0 : am_G Z a0 = some (.inl 11)) : am_M Z yX11_resultFinals kX11_resultFinals [.ref (am_B Z + a0)] R I L (pX11_resultFinals L a0) (fun r : Int64 => (some (.long r), R, I, L)) := by
  refine am_entry (ls := [(0, .ref (am_B Z + a0))]) (by decide) hX11_resultFinals rfl (Nat.le_of_ble_eq_true rfl) rfl (fun X => ?_)
  unfold pX11_resultFinals
  refine am_aload_n dX11_resultFinals_0 rfl 0 rfl ?_
  refine am_get 11 43 clX11 (Nat.le_of_ble_eq_true rfl) h_a0 iX11_resultFinals_11 fX11_resultFinals_351 rfl dX11_resultFinals_1 ?_
  exact am_lret dX11_resultFinals_4 rfl rfl
abbrev kX11_resultSuccessors : am_K := (cX11_resultSuccessors, 3, RX11, wsX11_resultSuccessors, some .long, { frames := 1, cells := 0, slots := 0, locals := 25 })
theorem hX11_resultSuccessors : am_cl yX11_resultSuccessors kX11_resultSuccessors 2 := ⟨⟨_, rfl⟩, rfl, rfl, by decide +kernel, by decide +kernel, by decide +kernel⟩
theorem iX11_resultSuccessors_11 : ∀ w ∈ u_ws RX11 TX11 50, w ∈ wsX11_resultSuccessors := by decide +kernel
theorem fX11_resultSuccessors_94 : Cond.fieldLink RX11 94 "AmbiguityAnalyzerModel" "resultStates" "I" ∈ wsX11_resultSuccessors := by decide +kernel
theorem fX11_resultSuccessors_88 : Cond.fieldLink RX11 88 "AmbiguityAnalyzerModel" "resultTargets" "[J" ∈ wsX11_resultSuccessors := by decide +kernel
set_option maxRecDepth 100000 in
set_option maxHeartbeats 4000000 in
theorem tX11_resultSuccessors {Z : am_Z} (R : am_R) (I : am_I) (L : am_L) (a0 : Nat) (x1 : Int32) (x2 : Int32) (h_a0 : am_G Z a0 = some (.inl 11)) : am_M Z yX11_resultSuccessors kX11_resultSuccessors [.ref (am_B Z + a0), .int x1, .int x2] R I L (pX11_resultSuccessors R I L a0 x1 x2) (fun r : Int64 => (some (.long r), R, I, L)) := by
  refine am_entry (ls := [(0, .ref (am_B Z + a0)), (1, .int x1), (2, .int x2)]) (by decide) hX11_resultSuccessors rfl (Nat.le_of_ble_eq_true rfl) rfl (fun X => ?_)
  unfold pX11_resultSuccessors
  refine am_iload_n dX11_resultSuccessors_0 rfl 2 rfl ?_
  refine am_callS [.int x2] (tX11_isLetter R I L x2) gX11_resultSuccessors_X11_isLetter hX11_isLetter ⟨Nat.le_of_ble_eq_true rfl, Nat.le_of_ble_eq_true rfl⟩ rfl rfl (Nat.le_of_ble_eq_true rfl) dX11_resultSuccessors_1 (fun r1 => ?_)
  show am_V Z X kX11_resultSuccessors (fun r : Int64 => (some (.long r), R, I, L)) 4 [(0, .ref (am_B Z + a0)), (1, .int x1), (2, .int x2)] [.int r1] R I L _
  refine am_if_eq (tgt := 36) dX11_resultSuccessors_4 rfl (fun e2 => ?_) (fun e2 => ?_)
  · refine am_lconst (v := 0) dX11_resultSuccessors_36 (by decide) ?_
    exact am_lret dX11_resultSuccessors_37 rfl rfl
  · refine am_iload_n dX11_resultSuccessors_7 rfl 1 rfl ?_
    refine am_i2l dX11_resultSuccessors_8 ?_
    refine am_lconst (v := 0) dX11_resultSuccessors_9 (by decide) ?_
    refine am_aload_n dX11_resultSuccessors_10 rfl 0 rfl ?_
    refine am_get 11 40 clX11 (Nat.le_of_ble_eq_true rfl) h_a0 iX11_resultSuccessors_11 fX11_resultSuccessors_94 rfl dX11_resultSuccessors_11 ?_
    refine am_iconst (v := 1) dX11_resultSuccessors_14 (by decide) ?_
    refine am_isub dX11_resultSuccessors_15 ?_
    refine am_i2l dX11_resultSuccessors_16 ?_
    refine am_callS [.long (Int32.toInt64 x1), .long (0 : Int64), .long (Int32.toInt64 ((I a0 40) - (1 : Int32)))] (tX11_isBetween R I L (Int32.toInt64 x1) (0 : Int64) (Int32.toInt64 ((I a0 40) - (1 : Int32)))) gX11_resultSuccessors_X11_isBetween hX11_isBetween ⟨Nat.le_of_ble_eq_true rfl, Nat.le_of_ble_eq_true rfl⟩ rfl rfl (Nat.le_of_ble_eq_true rfl) dX11_resultSuccessors_17 (fun r3 => ?_)
    show am_V Z X kX11_resultSuccessors (fun r : Int64 => (some (.long r), R, I, L)) 20 [(0, .ref (am_B Z + a0)), (1, .int x1), (2, .int x2)] [.int r3] R I L _
    refine am_if_eq (tgt := 36) dX11_resultSuccessors_20 rfl (fun e4 => ?_) (fun e4 => ?_)
    · refine am_lconst (v := 0) dX11_resultSuccessors_36 (by decide) ?_
      exact am_lret dX11_resultSuccessors_37 rfl rfl
    · refine am_aload_n dX11_resultSuccessors_23 rfl 0 rfl ?_
      refine am_getR 11 38 clX11 (Nat.le_of_ble_eq_true rfl) h_a0 iX11_resultSuccessors_11 fX11_resultSuccessors_88 rfl rfl dX11_resultSuccessors_24 (fun h5 => ?_)
      refine am_iconst (v := 3) dX11_resultSuccessors_27 (by decide) ?_
      refine am_iload_n dX11_resultSuccessors_28 rfl 1 rfl ?_
      refine am_imul dX11_resultSuccessors_29 ?_
      refine am_iload_n dX11_resultSuccessors_30 rfl 2 rfl ?_
      refine am_iadd dX11_resultSuccessors_31 ?_
      refine am_lald h5 dX11_resultSuccessors_32 ?_
      refine am_goto (tgt := 37) dX11_resultSuccessors_33 rfl ?_
      exact am_lret dX11_resultSuccessors_37 rfl rfl
