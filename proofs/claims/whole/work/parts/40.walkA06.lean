abbrev kX9_splitPairs : am_K := (cX9_splitPairs, 5, RX9, wsX9_splitPairs, some .long, { frames := 5, cells := 0, slots := 0, locals := 114 })
theorem hX9_splitPairs : am_cl yX9_splitPairs kX9_splitPairs 0 := ⟨⟨_, rfl⟩, rfl, rfl, by decide +kernel, by decide +kernel, by decide +kernel⟩
theorem iX9_splitPairs_9 : ∀ w ∈ u_ws RX9 TX9 13, w ∈ wsX9_splitPairs := by decide +kernel
theorem fX9_splitPairs_42 : Cond.fieldLink RX9 42 "AmbiguityAnalyzer$WordSearch" "states" "I" ∈ wsX9_splitPairs := by decide +kernel
set_option maxRecDepth 100000 in
set_option maxHeartbeats 4000000 in
theorem vX9_splitPairs_15 {Z : am_Z} {X : am_X} (R : am_R) (a0 : Nat) (v3 : Int32) (h12 : am_G Z a0 = some (.inl 9)) (j8 : Int64 → am_I → am_L → Option (Int64 × am_I × am_L)) (hj8 : ∀ (v9 : Int64) (J10 : am_I) (J11 : am_L), am_V Z X kX9_splitPairs (fun r : Int64 × am_I × am_L => (some (.long r.1), R, r.2.1, r.2.2)) 56 [(0, .ref (am_B Z + a0)), (1, .long v9), (3, .int v3)] [] R J10 J11 (j8 v9 J10 J11)) (ih17 : Int64 → Int32 → am_I → am_L → Option (Int64 × am_I × am_L)) (hih17 : ∀ (v13 : Int64) (v14 : Int32) (J15 : am_I) (J16 : am_L), am_V Z X kX9_splitPairs (fun r : Int64 × am_I × am_L => (some (.long r.1), R, r.2.1, r.2.2)) 15 [(0, .ref (am_B Z + a0)), (1, .long v13), (3, .int v3), (4, .int v14)] [] R J15 J16 (ih17 v13 v14 J15 J16)) (v13 : Int64) (v14 : Int32) (J15 : am_I) (J16 : am_L) : am_V Z X kX9_splitPairs (fun r : Int64 × am_I × am_L => (some (.long r.1), R, r.2.1, r.2.2)) 15 [(0, .ref (am_B Z + a0)), (1, .long v13), (3, .int v3), (4, .int v14)] [] R J15 J16 (sX9_splitPairs_15 R a0 v3 j8 ih17 v13 v14 J15 J16) := by
  unfold sX9_splitPairs_15
  refine am_iload dX9_splitPairs_15 3 rfl ?_
  refine am_aload_n dX9_splitPairs_17 rfl 0 rfl ?_
  refine am_get 9 1 clX9 (Nat.le_of_ble_eq_true rfl) h12 iX9_splitPairs_9 fX9_splitPairs_42 rfl dX9_splitPairs_18 ?_
  refine am_icmp_ge (tgt := 56) dX9_splitPairs_21 rfl (fun e18 => ?_) (fun e18 => ?_)
  · refine am_sub (ls' := [(0, .ref (am_B Z + a0)), (1, .long v13), (3, .int v3)]) [0, 1, 2] rfl ?_
    exact hj8 v13 J15 J16
  · refine am_lload_n dX9_splitPairs_24 rfl 1 rfl ?_
    refine am_aload_n dX9_splitPairs_25 rfl 0 rfl ?_
    refine am_iload_n dX9_splitPairs_26 rfl 2 rfl ?_
    refine am_iload dX9_splitPairs_27 3 rfl ?_
    refine am_callV [.int v3, .int v14] (tX9_findSplitWord R J15 J16 a0 v3 v14 h12) h12 clX9 gX9_splitPairs_X9_findSplitWord hX9_findSplitWord rfl ⟨Nat.le_of_ble_eq_true rfl, Nat.le_of_ble_eq_true rfl⟩ rfl rfl (Nat.le_of_ble_eq_true rfl) dX9_splitPairs_29 (fun r19 => ?_)
    show am_V Z X kX9_splitPairs (fun r : Int64 × am_I × am_L => (some (.long r.1), R, r.2.1, r.2.2)) 32 [(0, .ref (am_B Z + a0)), (1, .long v13), (3, .int v3), (4, .int v14)] [.int r19.1, .long v13] R r19.2.1 r19.2.2 _
    refine am_letJ (fun k21 ek21 => ?_)
    have hk21 : ∀ v20 : Int64, am_V Z X kX9_splitPairs (fun r : Int64 × am_I × am_L => (some (.long r.1), R, r.2.1, r.2.2)) 48 [(0, .ref (am_B Z + a0)), (3, .int v3), (4, .int v14)] [.long v20, .long v13] R r19.2.1 r19.2.2 (k21 v20) := by
      subst ek21
      intro v20
      show am_V Z X kX9_splitPairs (fun r : Int64 × am_I × am_L => (some (.long r.1), R, r.2.1, r.2.2)) 48 [(0, .ref (am_B Z + a0)), (3, .int v3), (4, .int v14)] [.long v20, .long v13] R r19.2.1 r19.2.2 _
      refine am_lor dX9_splitPairs_48 ?_
      refine am_letTl (fun v22 => ?_)
      refine am_lstore_n (ls' := [(1, .long v22), (0, .ref (am_B Z + a0)), (3, .int v3), (4, .int v14)]) dX9_splitPairs_49 rfl (Nat.le_of_ble_eq_true rfl) rfl ?_
      refine am_iinc (j := 3) (ls' := [(4, .int (v14 + (1 : Int32))), (1, .long v22), (0, .ref (am_B Z + a0)), (3, .int v3)]) dX9_splitPairs_50 rfl rfl (Nat.le_of_ble_eq_true rfl) rfl ?_
      refine am_goto (tgt := 15) dX9_splitPairs_53 rfl ?_
      refine am_sub (ls' := [(0, .ref (am_B Z + a0)), (1, .long v22), (3, .int v3), (4, .int (v14 + (1 : Int32)))]) [2, 1, 3, 0] rfl ?_
      exact hih17 v22 (v14 + (1 : Int32)) r19.2.1 r19.2.2
    refine am_if_eqL (tgt := 47) dX9_splitPairs_32 rfl (fun e23 => ?_) (fun e23 => ?_)
    · refine am_lconst (v := 0) dX9_splitPairs_47 (by decide) ?_
      refine am_sub (ls' := [(0, .ref (am_B Z + a0)), (3, .int v3), (4, .int v14)]) [0, 2, 3] rfl ?_
      exact hk21 _
    · refine am_lconst (v := 1) dX9_splitPairs_35 (by decide) ?_
      refine am_iload_n dX9_splitPairs_36 rfl 2 rfl ?_
      refine am_bipush (v := 6) dX9_splitPairs_37 (by decide) ?_
      refine am_imul dX9_splitPairs_39 ?_
      refine am_iload dX9_splitPairs_40 3 rfl ?_
      refine am_iadd dX9_splitPairs_42 ?_
      refine am_lshl dX9_splitPairs_43 ?_
      refine am_goto (tgt := 48) dX9_splitPairs_44 rfl ?_
      refine am_sub (ls' := [(0, .ref (am_B Z + a0)), (3, .int v3), (4, .int v14)]) [0, 2, 3] rfl ?_
      exact hk21 _
theorem uX9_splitPairs_15 {Z : am_Z} {X : am_X} (R : am_R) (a0 : Nat) (v3 : Int32) (h12 : am_G Z a0 = some (.inl 9)) (j8 : Int64 → am_I → am_L → Option (Int64 × am_I × am_L)) (hj8 : ∀ (v9 : Int64) (J10 : am_I) (J11 : am_L), am_V Z X kX9_splitPairs (fun r : Int64 × am_I × am_L => (some (.long r.1), R, r.2.1, r.2.2)) 56 [(0, .ref (am_B Z + a0)), (1, .long v9), (3, .int v3)] [] R J10 J11 (j8 v9 J10 J11)) : ∀ (n : Nat) (v13 : Int64) (v14 : Int32) (J15 : am_I) (J16 : am_L), am_V Z X kX9_splitPairs (fun r : Int64 × am_I × am_L => (some (.long r.1), R, r.2.1, r.2.2)) 15 [(0, .ref (am_B Z + a0)), (1, .long v13), (3, .int v3), (4, .int v14)] [] R J15 J16 (lX9_splitPairs_15 R a0 v3 j8 n v13 v14 J15 J16) := by
  intro n
  induction n with
  | zero => intro _ _ _ _; exact am_none
  | succ n ih => exact fun v13 v14 J15 J16 => vX9_splitPairs_15 R a0 v3 h12 j8 hj8 (lX9_splitPairs_15 R a0 v3 j8 n) ih v13 v14 J15 J16
set_option maxRecDepth 100000 in
set_option maxHeartbeats 4000000 in
theorem vX9_splitPairs_4 {Z : am_Z} {X : am_X} (R : am_R) (a0 : Nat) (h1 : am_G Z a0 = some (.inl 9)) (ih6 : Int64 → Int32 → am_I → am_L → Option (Int64 × am_I × am_L)) (hih6 : ∀ (v2 : Int64) (v3 : Int32) (J4 : am_I) (J5 : am_L), am_V Z X kX9_splitPairs (fun r : Int64 × am_I × am_L => (some (.long r.1), R, r.2.1, r.2.2)) 4 [(0, .ref (am_B Z + a0)), (1, .long v2), (3, .int v3)] [] R J4 J5 (ih6 v2 v3 J4 J5)) (v2 : Int64) (v3 : Int32) (J4 : am_I) (J5 : am_L) : am_V Z X kX9_splitPairs (fun r : Int64 × am_I × am_L => (some (.long r.1), R, r.2.1, r.2.2)) 4 [(0, .ref (am_B Z + a0)), (1, .long v2), (3, .int v3)] [] R J4 J5 (sX9_splitPairs_4 R a0 ih6 v2 v3 J4 J5) := by
  unfold sX9_splitPairs_4
  refine am_iload_n dX9_splitPairs_4 rfl 2 rfl ?_
  refine am_aload_n dX9_splitPairs_5 rfl 0 rfl ?_
  refine am_get 9 1 clX9 (Nat.le_of_ble_eq_true rfl) h1 iX9_splitPairs_9 fX9_splitPairs_42 rfl dX9_splitPairs_6 ?_
  refine am_icmp_ge (tgt := 62) dX9_splitPairs_9 rfl (fun e7 => ?_) (fun e7 => ?_)
  · refine am_lload_n dX9_splitPairs_62 rfl 1 rfl ?_
    exact am_lret dX9_splitPairs_63 rfl rfl
  · refine am_iconst (v := 0) dX9_splitPairs_12 (by decide) ?_
    refine am_istore (ls' := [(4, .int (0 : Int32)), (0, .ref (am_B Z + a0)), (1, .long v2), (3, .int v3)]) dX9_splitPairs_13 (Nat.le_of_ble_eq_true rfl) rfl ?_
    refine am_jnV (fun j8 ej8 => ?_)
    have hj8 : ∀ (v9 : Int64) (J10 : am_I) (J11 : am_L), am_V Z X kX9_splitPairs (fun r : Int64 × am_I × am_L => (some (.long r.1), R, r.2.1, r.2.2)) 56 [(0, .ref (am_B Z + a0)), (1, .long v9), (3, .int v3)] [] R J10 J11 (j8 v9 J10 J11) := by
      subst ej8
      intro v9 J10 J11
      show am_V Z X kX9_splitPairs (fun r : Int64 × am_I × am_L => (some (.long r.1), R, r.2.1, r.2.2)) 56 [(0, .ref (am_B Z + a0)), (1, .long v9), (3, .int v3)] [] R J10 J11 _
      refine am_iinc (j := 2) (ls' := [(3, .int (v3 + (1 : Int32))), (0, .ref (am_B Z + a0)), (1, .long v9)]) dX9_splitPairs_56 rfl rfl (Nat.le_of_ble_eq_true rfl) rfl ?_
      refine am_goto (tgt := 4) dX9_splitPairs_59 rfl ?_
      refine am_sub (ls' := [(0, .ref (am_B Z + a0)), (1, .long v9), (3, .int (v3 + (1 : Int32)))]) [1, 2, 0] rfl ?_
      exact hih6 v9 (v3 + (1 : Int32)) J10 J11
    refine am_sub (ls' := [(0, .ref (am_B Z + a0)), (1, .long v2), (3, .int v3), (4, .int (0 : Int32))]) [1, 2, 3, 0] rfl ?_
    exact uX9_splitPairs_15 R a0 v3 h1 j8 hj8 am_fu v2 (0 : Int32) J4 J5
theorem uX9_splitPairs_4 {Z : am_Z} {X : am_X} (R : am_R) (a0 : Nat) (h1 : am_G Z a0 = some (.inl 9)) : ∀ (n : Nat) (v2 : Int64) (v3 : Int32) (J4 : am_I) (J5 : am_L), am_V Z X kX9_splitPairs (fun r : Int64 × am_I × am_L => (some (.long r.1), R, r.2.1, r.2.2)) 4 [(0, .ref (am_B Z + a0)), (1, .long v2), (3, .int v3)] [] R J4 J5 (lX9_splitPairs_4 R a0 n v2 v3 J4 J5) := by
  intro n
  induction n with
  | zero => intro _ _ _ _; exact am_none
  | succ n ih => exact fun v2 v3 J4 J5 => vX9_splitPairs_4 R a0 h1 (lX9_splitPairs_4 R a0 n) ih v2 v3 J4 J5
set_option maxRecDepth 100000 in
set_option maxHeartbeats 4000000 in
theorem tX9_splitPairs {Z : am_Z} (R : am_R) (I : am_I) (L : am_L) (a0 : Nat) (h_a0 : am_G Z a0 = some (.inl 9)) : am_M Z yX9_splitPairs kX9_splitPairs [.ref (am_B Z + a0)] R I L (pX9_splitPairs R I L a0) (fun r : Int64 × am_I × am_L => (some (.long r.1), R, r.2.1, r.2.2)) := by
  refine am_entry (ls := [(0, .ref (am_B Z + a0))]) (by decide) hX9_splitPairs rfl (Nat.le_of_ble_eq_true rfl) rfl (fun X => ?_)
  unfold pX9_splitPairs
  refine am_lconst (v := 0) dX9_splitPairs_0 (by decide) ?_
  refine am_lstore_n (ls' := [(1, .long (0 : Int64)), (0, .ref (am_B Z + a0))]) dX9_splitPairs_1 rfl (Nat.le_of_ble_eq_true rfl) rfl ?_
  refine am_iconst (v := 0) dX9_splitPairs_2 (by decide) ?_
  refine am_istore_n (ls' := [(3, .int (0 : Int32)), (1, .long (0 : Int64)), (0, .ref (am_B Z + a0))]) dX9_splitPairs_3 rfl (Nat.le_of_ble_eq_true rfl) rfl ?_
  refine am_sub (ls' := [(0, .ref (am_B Z + a0)), (1, .long (0 : Int64)), (3, .int (0 : Int32))]) [2, 1, 0] rfl ?_
  exact uX9_splitPairs_4 R a0 h_a0 am_fu (0 : Int64) (0 : Int32) I L
abbrev kX9_prolongChains : am_K := (cX9_prolongChains, 7, RX9, wsX9_prolongChains, none, { frames := 3, cells := 0, slots := 0, locals := 70 })
theorem hX9_prolongChains : am_cl yX9_prolongChains kX9_prolongChains 3 := ⟨⟨_, rfl⟩, rfl, rfl, by decide +kernel, by decide +kernel, by decide +kernel⟩
theorem iX9_prolongChains_9 : ∀ w ∈ u_ws RX9 TX9 13, w ∈ wsX9_prolongChains := by decide +kernel
theorem fX9_prolongChains_30 : Cond.fieldLink RX9 30 "AmbiguityAnalyzer$WordSearch" "chainsTo" "[I" ∈ wsX9_prolongChains := by decide +kernel
set_option maxRecDepth 100000 in
set_option maxHeartbeats 4000000 in
theorem vX9_prolongChains_33 {Z : am_Z} {X : am_X} (R : am_R) (L : am_L) (a0 : Nat) (v4 : Int32) (r5 : Int32) (h6 : am_G Z a0 = some (.inl 9)) (ih9 : Int32 → am_I → Option (am_I)) (hih9 : ∀ (v7 : Int32) (J8 : am_I), am_V Z X kX9_prolongChains (fun r : am_I => (none, R, r, L)) 33 [(0, .ref (am_B Z + a0)), (4, .int v4), (5, .int r5), (6, .int v7)] [] R J8 L (ih9 v7 J8)) (v7 : Int32) (J8 : am_I) : am_V Z X kX9_prolongChains (fun r : am_I => (none, R, r, L)) 33 [(0, .ref (am_B Z + a0)), (4, .int v4), (5, .int r5), (6, .int v7)] [] R J8 L (sX9_prolongChains_33 R a0 v4 r5 ih9 v7 J8) := by
  unfold sX9_prolongChains_33
  refine am_iload dX9_prolongChains_33 3 rfl ?_
  refine am_bipush (v := 6) dX9_prolongChains_35 (by decide) ?_
  refine am_icmp_ge (tgt := 75) dX9_prolongChains_37 rfl (fun e10 => ?_) (fun e10 => ?_)
  · exact am_vret dX9_prolongChains_75 rfl rfl
  · refine am_iload dX9_prolongChains_40 2 rfl ?_
    refine am_iload dX9_prolongChains_42 3 rfl ?_
    refine am_callN (host := RX10) [.int r5, .int v7] (tX10_contains R J8 L r5 v7) gX9_prolongChains_X10_contains_n78 (by decide +kernel) (by decide +kernel) (by decide +kernel) hX10_contains ⟨Nat.le_of_ble_eq_true rfl, Nat.le_of_ble_eq_true rfl⟩ rfl rfl (Nat.le_of_ble_eq_true rfl) dX9_prolongChains_44 (fun r11 => ?_)
    show am_V Z X kX9_prolongChains (fun r : am_I => (none, R, r, L)) 47 [(0, .ref (am_B Z + a0)), (4, .int v4), (5, .int r5), (6, .int v7)] [.int r11] R J8 L _
    refine am_jnV (fun j12 ej12 => ?_)
    have hj12 : ∀ (J13 : am_I), am_V Z X kX9_prolongChains (fun r : am_I => (none, R, r, L)) 69 [(0, .ref (am_B Z + a0)), (4, .int v4), (5, .int r5), (6, .int v7)] [] R J13 L (j12 J13) := by
      subst ej12
      intro J13
      show am_V Z X kX9_prolongChains (fun r : am_I => (none, R, r, L)) 69 [(0, .ref (am_B Z + a0)), (4, .int v4), (5, .int r5), (6, .int v7)] [] R J13 L _
      refine am_iinc (j := 3) (ls' := [(6, .int (v7 + (1 : Int32))), (0, .ref (am_B Z + a0)), (4, .int v4), (5, .int r5)]) dX9_prolongChains_69 rfl rfl (Nat.le_of_ble_eq_true rfl) rfl ?_
      refine am_goto (tgt := 33) dX9_prolongChains_72 rfl ?_
      refine am_sub (ls' := [(0, .ref (am_B Z + a0)), (4, .int v4), (5, .int r5), (6, .int (v7 + (1 : Int32)))]) [1, 2, 3, 0] rfl ?_
      exact hih9 (v7 + (1 : Int32)) J13
    refine am_if_eq (tgt := 69) dX9_prolongChains_47 rfl (fun e14 => ?_) (fun e14 => ?_)
    · exact hj12 J8
    · refine am_aload_n dX9_prolongChains_50 rfl 0 rfl ?_
      refine am_getR 9 12 clX9 (Nat.le_of_ble_eq_true rfl) h6 iX9_prolongChains_9 fX9_prolongChains_30 rfl rfl dX9_prolongChains_51 (fun h15 => ?_)
      refine am_iload dX9_prolongChains_54 3 rfl ?_
      refine am_aload_n dX9_prolongChains_56 rfl 0 rfl ?_
      refine am_getR 9 12 clX9 (Nat.le_of_ble_eq_true rfl) h6 iX9_prolongChains_9 fX9_prolongChains_30 rfl rfl dX9_prolongChains_57 (fun h16 => ?_)
      refine am_iload dX9_prolongChains_60 3 rfl ?_
      refine am_iald h16 dX9_prolongChains_62 ?_
      refine am_iload dX9_prolongChains_63 1 rfl ?_
      refine am_mmax (by decide +kernel) (by decide +kernel) (by decide +kernel) (by decide +kernel) (Nat.le_of_ble_eq_true rfl) (Nat.le_of_ble_eq_true rfl) dX9_prolongChains_65 ?_
      refine am_iast h15 dX9_prolongChains_68 ?_
      refine am_letI (fun J17 => ?_)
      exact hj12 J17
theorem uX9_prolongChains_33 {Z : am_Z} {X : am_X} (R : am_R) (L : am_L) (a0 : Nat) (v4 : Int32) (r5 : Int32) (h6 : am_G Z a0 = some (.inl 9)) : ∀ (n : Nat) (v7 : Int32) (J8 : am_I), am_V Z X kX9_prolongChains (fun r : am_I => (none, R, r, L)) 33 [(0, .ref (am_B Z + a0)), (4, .int v4), (5, .int r5), (6, .int v7)] [] R J8 L (lX9_prolongChains_33 R a0 v4 r5 n v7 J8) := by
  intro n
  induction n with
  | zero => intro _ _; exact am_none
  | succ n ih => exact fun v7 J8 => vX9_prolongChains_33 R L a0 v4 r5 h6 (lX9_prolongChains_33 R a0 v4 r5 n) ih v7 J8
set_option maxRecDepth 100000 in
set_option maxHeartbeats 4000000 in
theorem tX9_prolongChains {Z : am_Z} (R : am_R) (I : am_I) (L : am_L) (a0 : Nat) (a1 : Nat) (x2 : Int32) (x3 : Int32) (h_a0 : am_G Z a0 = some (.inl 9)) (h_a1 : am_G Z a1 = some (.inl 0)) : am_M Z yX9_prolongChains kX9_prolongChains [.ref (am_B Z + a0), .ref (am_B Z + a1), .int x2, .int x3] R I L (pX9_prolongChains R I a0 a1 x2 x3) (fun r : am_I => (none, R, r, L)) := by
  refine am_entry (ls := [(0, .ref (am_B Z + a0)), (1, .ref (am_B Z + a1)), (2, .int x2), (3, .int x3)]) (by decide) hX9_prolongChains rfl (Nat.le_of_ble_eq_true rfl) rfl (fun X => ?_)
  unfold pX9_prolongChains
  refine am_iload_n dX9_prolongChains_0 rfl 2 rfl ?_
  refine am_if_lt (tgt := 10) dX9_prolongChains_1 rfl (fun e1 => ?_) (fun e1 => ?_)
  · exact am_vret dX9_prolongChains_10 rfl rfl
  · refine am_iload_n dX9_prolongChains_4 rfl 2 rfl ?_
    refine am_bipush (v := 6) dX9_prolongChains_5 (by decide) ?_
    refine am_icmp_lt (tgt := 11) dX9_prolongChains_7 rfl (fun e2 => ?_) (fun e2 => ?_)
    · refine am_aload_n dX9_prolongChains_11 rfl 0 rfl ?_
      refine am_getR 9 12 clX9 (Nat.le_of_ble_eq_true rfl) h_a0 iX9_prolongChains_9 fX9_prolongChains_30 rfl rfl dX9_prolongChains_12 (fun h3 => ?_)
      refine am_iload_n dX9_prolongChains_15 rfl 2 rfl ?_
      refine am_iald h3 dX9_prolongChains_16 ?_
      refine am_iconst (v := 1) dX9_prolongChains_17 (by decide) ?_
      refine am_iadd dX9_prolongChains_18 ?_
      refine am_letTi (fun v4 => ?_)
      refine am_istore (ls' := [(4, .int v4), (0, .ref (am_B Z + a0)), (1, .ref (am_B Z + a1)), (2, .int x2), (3, .int x3)]) dX9_prolongChains_19 (Nat.le_of_ble_eq_true rfl) rfl ?_
      refine am_aload_n dX9_prolongChains_21 rfl 2 rfl ?_
      refine am_iconst (v := 1) dX9_prolongChains_22 (by decide) ?_
      refine am_iload_n dX9_prolongChains_23 rfl 4 rfl ?_
      refine am_ishl dX9_prolongChains_24 ?_
      refine am_callV [.int ((1 : Int32) <<< (x3 &&& 31))] (tX0_reachedFrom R I L a1 ((1 : Int32) <<< (x3 &&& 31)) h_a1) h_a1 clX0 gX9_prolongChains_X0_reachedFrom hX0_reachedFrom rfl ⟨Nat.le_of_ble_eq_true rfl, Nat.le_of_ble_eq_true rfl⟩ rfl rfl (Nat.le_of_ble_eq_true rfl) dX9_prolongChains_25 (fun r5 => ?_)
      show am_V Z X kX9_prolongChains (fun r : am_I => (none, R, r, L)) 28 [(4, .int v4), (0, .ref (am_B Z + a0)), (1, .ref (am_B Z + a1)), (2, .int x2), (3, .int x3)] [.int r5] R I L _
      refine am_istore (ls' := [(5, .int r5), (4, .int v4), (0, .ref (am_B Z + a0)), (1, .ref (am_B Z + a1)), (2, .int x2), (3, .int x3)]) dX9_prolongChains_28 (Nat.le_of_ble_eq_true rfl) rfl ?_
      refine am_iconst (v := 0) dX9_prolongChains_30 (by decide) ?_
      refine am_istore (ls' := [(6, .int (0 : Int32)), (5, .int r5), (4, .int v4), (0, .ref (am_B Z + a0)), (1, .ref (am_B Z + a1)), (2, .int x2), (3, .int x3)]) dX9_prolongChains_31 (Nat.le_of_ble_eq_true rfl) rfl ?_
      refine am_sub (ls' := [(0, .ref (am_B Z + a0)), (4, .int v4), (5, .int r5), (6, .int (0 : Int32))]) [3, 2, 1, 0] rfl ?_
      exact uX9_prolongChains_33 R L a0 v4 r5 h_a0 am_fu (0 : Int32) I
    · exact am_vret dX9_prolongChains_10 rfl rfl
abbrev kX9_longestChain : am_K := (cX9_longestChain, 6, RX9, wsX9_longestChain, some .int, { frames := 6, cells := 0, slots := 0, locals := 138 })
theorem hX9_longestChain : am_cl yX9_longestChain kX9_longestChain 1 := ⟨⟨_, rfl⟩, rfl, rfl, by decide +kernel, by decide +kernel, by decide +kernel⟩
theorem iX9_longestChain_9 : ∀ w ∈ u_ws RX9 TX9 13, w ∈ wsX9_longestChain := by decide +kernel
theorem fX9_longestChain_30 : Cond.fieldLink RX9 30 "AmbiguityAnalyzer$WordSearch" "chainsTo" "[I" ∈ wsX9_longestChain := by decide +kernel
theorem fX9_longestChain_42 : Cond.fieldLink RX9 42 "AmbiguityAnalyzer$WordSearch" "states" "I" ∈ wsX9_longestChain := by decide +kernel
set_option maxRecDepth 100000 in
set_option maxHeartbeats 4000000 in
theorem vX9_longestChain_95 {Z : am_Z} {X : am_X} (R : am_R) (a0 : Nat) (J5 : am_I) (J9 : am_L) (h6 : am_G Z a0 = some (.inl 9)) (ih10 : Int32 → Int32 → Option (Int32 × am_I × am_L)) (hih10 : ∀ (v7 : Int32) (v8 : Int32), am_V Z X kX9_longestChain (fun r : Int32 × am_I × am_L => (some (.int r.1), R, r.2.1, r.2.2)) 95 [(0, .ref (am_B Z + a0)), (4, .int v7), (5, .int v8)] [] R J5 J9 (ih10 v7 v8)) (v7 : Int32) (v8 : Int32) : am_V Z X kX9_longestChain (fun r : Int32 × am_I × am_L => (some (.int r.1), R, r.2.1, r.2.2)) 95 [(0, .ref (am_B Z + a0)), (4, .int v7), (5, .int v8)] [] R J5 J9 (sX9_longestChain_95 R a0 J5 J9 ih10 v7 v8) := by
  unfold sX9_longestChain_95
  refine am_iload dX9_longestChain_95 2 rfl ?_
  refine am_bipush (v := 6) dX9_longestChain_97 (by decide) ?_
  refine am_icmp_ge (tgt := 122) dX9_longestChain_99 rfl (fun e11 => ?_) (fun e11 => ?_)
  · refine am_iload dX9_longestChain_122 1 rfl ?_
    exact am_iret dX9_longestChain_124 rfl rfl
  · refine am_iload dX9_longestChain_102 1 rfl ?_
    refine am_aload_n dX9_longestChain_104 rfl 0 rfl ?_
    refine am_getR 9 12 clX9 (Nat.le_of_ble_eq_true rfl) h6 iX9_longestChain_9 fX9_longestChain_30 rfl rfl dX9_longestChain_105 (fun h12 => ?_)
    refine am_iload dX9_longestChain_108 2 rfl ?_
    refine am_iald h12 dX9_longestChain_110 ?_
    refine am_mmax (by decide +kernel) (by decide +kernel) (by decide +kernel) (by decide +kernel) (Nat.le_of_ble_eq_true rfl) (Nat.le_of_ble_eq_true rfl) dX9_longestChain_111 ?_
    refine am_letTi (fun v13 => ?_)
    refine am_istore (ls' := [(4, .int v13), (0, .ref (am_B Z + a0)), (5, .int v8)]) dX9_longestChain_114 (Nat.le_of_ble_eq_true rfl) rfl ?_
    refine am_iinc (j := 2) (ls' := [(5, .int (v8 + (1 : Int32))), (4, .int v13), (0, .ref (am_B Z + a0))]) dX9_longestChain_116 rfl rfl (Nat.le_of_ble_eq_true rfl) rfl ?_
    refine am_goto (tgt := 95) dX9_longestChain_119 rfl ?_
    refine am_sub (ls' := [(0, .ref (am_B Z + a0)), (4, .int v13), (5, .int (v8 + (1 : Int32)))]) [2, 1, 0] rfl ?_
    exact hih10 v13 (v8 + (1 : Int32))
theorem uX9_longestChain_95 {Z : am_Z} {X : am_X} (R : am_R) (a0 : Nat) (J5 : am_I) (J9 : am_L) (h6 : am_G Z a0 = some (.inl 9)) : ∀ (n : Nat) (v7 : Int32) (v8 : Int32), am_V Z X kX9_longestChain (fun r : Int32 × am_I × am_L => (some (.int r.1), R, r.2.1, r.2.2)) 95 [(0, .ref (am_B Z + a0)), (4, .int v7), (5, .int v8)] [] R J5 J9 (lX9_longestChain_95 R a0 J5 J9 n v7 v8) := by
  intro n
  induction n with
  | zero => intro _ _; exact am_none
  | succ n ih => exact fun v7 v8 => vX9_longestChain_95 R a0 J5 J9 h6 (lX9_longestChain_95 R a0 J5 J9 n) ih v7 v8
set_option maxRecDepth 100000 in
set_option maxHeartbeats 4000000 in
theorem vX9_longestChain_44 {Z : am_Z} {X : am_X} (R : am_R) (a0 : Nat) (a1 : Nat) (c16 : Int64) (v17 : Int32) (J19 : am_L) (h24 : am_G Z a0 = some (.inl 9)) (h25 : am_G Z a1 = some (.inl 0)) (j22 : am_I → Option (Int32 × am_I × am_L)) (hj22 : ∀ (J23 : am_I), am_V Z X kX9_longestChain (fun r : Int32 × am_I × am_L => (some (.int r.1), R, r.2.1, r.2.2)) 83 [(0, .ref (am_B Z + a0)), (1, .ref (am_B Z + a1)), (2, .long c16), (4, .int v17)] [] R J23 J19 (j22 J23)) (ih28 : Int32 → am_I → Option (Int32 × am_I × am_L)) (hih28 : ∀ (v26 : Int32) (J27 : am_I), am_V Z X kX9_longestChain (fun r : Int32 × am_I × am_L => (some (.int r.1), R, r.2.1, r.2.2)) 44 [(0, .ref (am_B Z + a0)), (1, .ref (am_B Z + a1)), (2, .long c16), (4, .int v17), (5, .int v26)] [] R J27 J19 (ih28 v26 J27)) (v26 : Int32) (J27 : am_I) : am_V Z X kX9_longestChain (fun r : Int32 × am_I × am_L => (some (.int r.1), R, r.2.1, r.2.2)) 44 [(0, .ref (am_B Z + a0)), (1, .ref (am_B Z + a1)), (2, .long c16), (4, .int v17), (5, .int v26)] [] R J27 J19 (sX9_longestChain_44 R a0 a1 c16 v17 J19 j22 ih28 v26 J27) := by
  unfold sX9_longestChain_44
  refine am_iload dX9_longestChain_44 4 rfl ?_
  refine am_bipush (v := 36) dX9_longestChain_46 (by decide) ?_
  refine am_icmp_ge (tgt := 83) dX9_longestChain_48 rfl (fun e29 => ?_) (fun e29 => ?_)
  · refine am_sub (ls' := [(0, .ref (am_B Z + a0)), (1, .ref (am_B Z + a1)), (2, .long c16), (4, .int v17)]) [0, 1, 2, 3] rfl ?_
    exact hj22 J27
  · refine am_lload_n dX9_longestChain_51 rfl 2 rfl ?_
    refine am_iload dX9_longestChain_52 4 rfl ?_
    refine am_lshr dX9_longestChain_54 ?_
    refine am_lconst (v := 1) dX9_longestChain_55 (by decide) ?_
    refine am_land dX9_longestChain_56 ?_
    refine am_lconst (v := 0) dX9_longestChain_57 (by decide) ?_
    refine am_lcmp dX9_longestChain_58 ?_
    refine am_jnV (fun j30 ej30 => ?_)
    have hj30 : ∀ (J31 : am_I), am_V Z X kX9_longestChain (fun r : Int32 × am_I × am_L => (some (.int r.1), R, r.2.1, r.2.2)) 77 [(0, .ref (am_B Z + a0)), (1, .ref (am_B Z + a1)), (2, .long c16), (4, .int v17), (5, .int v26)] [] R J31 J19 (j30 J31) := by
      subst ej30
      intro J31
      show am_V Z X kX9_longestChain (fun r : Int32 × am_I × am_L => (some (.int r.1), R, r.2.1, r.2.2)) 77 [(0, .ref (am_B Z + a0)), (1, .ref (am_B Z + a1)), (2, .long c16), (4, .int v17), (5, .int v26)] [] R J31 J19 _
      refine am_iinc (j := 4) (ls' := [(5, .int (v26 + (1 : Int32))), (0, .ref (am_B Z + a0)), (1, .ref (am_B Z + a1)), (2, .long c16), (4, .int v17)]) dX9_longestChain_77 rfl rfl (Nat.le_of_ble_eq_true rfl) rfl ?_
      refine am_goto (tgt := 44) dX9_longestChain_80 rfl ?_
      refine am_sub (ls' := [(0, .ref (am_B Z + a0)), (1, .ref (am_B Z + a1)), (2, .long c16), (4, .int v17), (5, .int (v26 + (1 : Int32)))]) [1, 2, 3, 4, 0] rfl ?_
      exact hih28 (v26 + (1 : Int32)) J31
    refine am_if_eq (tgt := 77) dX9_longestChain_59 rfl (fun e32 => ?_) (fun e32 => ?_)
    · exact hj30 J27
    · refine am_aload_n dX9_longestChain_62 rfl 0 rfl ?_
      refine am_aload_n dX9_longestChain_63 rfl 1 rfl ?_
      refine am_iload dX9_longestChain_64 4 rfl ?_
      refine am_bipush (v := 6) dX9_longestChain_66 (by decide) ?_
      refine am_idivC dX9_longestChain_68 (by decide) ?_
      refine am_iload dX9_longestChain_69 4 rfl ?_
      refine am_bipush (v := 6) dX9_longestChain_71 (by decide) ?_
      refine am_iremC dX9_longestChain_73 (by decide) ?_
      refine am_callV [.ref (am_B Z + a1), .int (v26 / (6 : Int32)), .int (v26 - v26 / (6 : Int32) * (6 : Int32))] (tX9_prolongChains R J27 J19 a0 a1 (v26 / (6 : Int32)) (v26 - v26 / (6 : Int32) * (6 : Int32)) h24 h25) h24 clX9 gX9_longestChain_X9_prolongChains hX9_prolongChains rfl ⟨Nat.le_of_ble_eq_true rfl, Nat.le_of_ble_eq_true rfl⟩ rfl rfl (Nat.le_of_ble_eq_true rfl) dX9_longestChain_74 (fun r33 => ?_)
      show am_V Z X kX9_longestChain (fun r : Int32 × am_I × am_L => (some (.int r.1), R, r.2.1, r.2.2)) 77 [(0, .ref (am_B Z + a0)), (1, .ref (am_B Z + a1)), (2, .long c16), (4, .int v17), (5, .int v26)] [] R r33 J19 _
      exact hj30 r33
theorem uX9_longestChain_44 {Z : am_Z} {X : am_X} (R : am_R) (a0 : Nat) (a1 : Nat) (c16 : Int64) (v17 : Int32) (J19 : am_L) (h24 : am_G Z a0 = some (.inl 9)) (h25 : am_G Z a1 = some (.inl 0)) (j22 : am_I → Option (Int32 × am_I × am_L)) (hj22 : ∀ (J23 : am_I), am_V Z X kX9_longestChain (fun r : Int32 × am_I × am_L => (some (.int r.1), R, r.2.1, r.2.2)) 83 [(0, .ref (am_B Z + a0)), (1, .ref (am_B Z + a1)), (2, .long c16), (4, .int v17)] [] R J23 J19 (j22 J23)) : ∀ (n : Nat) (v26 : Int32) (J27 : am_I), am_V Z X kX9_longestChain (fun r : Int32 × am_I × am_L => (some (.int r.1), R, r.2.1, r.2.2)) 44 [(0, .ref (am_B Z + a0)), (1, .ref (am_B Z + a1)), (2, .long c16), (4, .int v17), (5, .int v26)] [] R J27 J19 (lX9_longestChain_44 R a0 a1 c16 v17 J19 j22 n v26 J27) := by
  intro n
  induction n with
  | zero => intro _ _; exact am_none
  | succ n ih => exact fun v26 J27 => vX9_longestChain_44 R a0 a1 c16 v17 J19 h24 h25 j22 hj22 (lX9_longestChain_44 R a0 a1 c16 v17 J19 j22 n) ih v26 J27
set_option maxRecDepth 100000 in
set_option maxHeartbeats 4000000 in
theorem vX9_longestChain_32 {Z : am_Z} {X : am_X} (R : am_R) (a0 : Nat) (a1 : Nat) (c16 : Int64) (J19 : am_L) (h14 : am_G Z a0 = some (.inl 9)) (h15 : am_G Z a1 = some (.inl 0)) (j4 : am_I → Option (Int32 × am_I × am_L)) (hj4 : ∀ (J5 : am_I), am_V Z X kX9_longestChain (fun r : Int32 × am_I × am_L => (some (.int r.1), R, r.2.1, r.2.2)) 89 [(0, .ref (am_B Z + a0))] [] R J5 J19 (j4 J5)) (ih20 : Int32 → am_I → Option (Int32 × am_I × am_L)) (hih20 : ∀ (v17 : Int32) (J18 : am_I), am_V Z X kX9_longestChain (fun r : Int32 × am_I × am_L => (some (.int r.1), R, r.2.1, r.2.2)) 32 [(0, .ref (am_B Z + a0)), (1, .ref (am_B Z + a1)), (2, .long c16), (4, .int v17)] [] R J18 J19 (ih20 v17 J18)) (v17 : Int32) (J18 : am_I) : am_V Z X kX9_longestChain (fun r : Int32 × am_I × am_L => (some (.int r.1), R, r.2.1, r.2.2)) 32 [(0, .ref (am_B Z + a0)), (1, .ref (am_B Z + a1)), (2, .long c16), (4, .int v17)] [] R J18 J19 (sX9_longestChain_32 R a0 a1 c16 J19 j4 ih20 v17 J18) := by
  unfold sX9_longestChain_32
  refine am_iload dX9_longestChain_32 3 rfl ?_
  refine am_aload_n dX9_longestChain_34 rfl 0 rfl ?_
  refine am_get 9 1 clX9 (Nat.le_of_ble_eq_true rfl) h14 iX9_longestChain_9 fX9_longestChain_42 rfl dX9_longestChain_35 ?_
  refine am_icmp_ge (tgt := 89) dX9_longestChain_38 rfl (fun e21 => ?_) (fun e21 => ?_)
  · refine am_sub (ls' := [(0, .ref (am_B Z + a0))]) [0] rfl ?_
    exact hj4 J18
  · refine am_iconst (v := 0) dX9_longestChain_41 (by decide) ?_
    refine am_istore (ls' := [(5, .int (0 : Int32)), (0, .ref (am_B Z + a0)), (1, .ref (am_B Z + a1)), (2, .long c16), (4, .int v17)]) dX9_longestChain_42 (Nat.le_of_ble_eq_true rfl) rfl ?_
    refine am_jnV (fun j22 ej22 => ?_)
    have hj22 : ∀ (J23 : am_I), am_V Z X kX9_longestChain (fun r : Int32 × am_I × am_L => (some (.int r.1), R, r.2.1, r.2.2)) 83 [(0, .ref (am_B Z + a0)), (1, .ref (am_B Z + a1)), (2, .long c16), (4, .int v17)] [] R J23 J19 (j22 J23) := by
      subst ej22
      intro J23
      show am_V Z X kX9_longestChain (fun r : Int32 × am_I × am_L => (some (.int r.1), R, r.2.1, r.2.2)) 83 [(0, .ref (am_B Z + a0)), (1, .ref (am_B Z + a1)), (2, .long c16), (4, .int v17)] [] R J23 J19 _
      refine am_iinc (j := 3) (ls' := [(4, .int (v17 + (1 : Int32))), (0, .ref (am_B Z + a0)), (1, .ref (am_B Z + a1)), (2, .long c16)]) dX9_longestChain_83 rfl rfl (Nat.le_of_ble_eq_true rfl) rfl ?_
      refine am_goto (tgt := 32) dX9_longestChain_86 rfl ?_
      refine am_sub (ls' := [(0, .ref (am_B Z + a0)), (1, .ref (am_B Z + a1)), (2, .long c16), (4, .int (v17 + (1 : Int32)))]) [1, 2, 3, 0] rfl ?_
      exact hih20 (v17 + (1 : Int32)) J23
    refine am_sub (ls' := [(0, .ref (am_B Z + a0)), (1, .ref (am_B Z + a1)), (2, .long c16), (4, .int v17), (5, .int (0 : Int32))]) [1, 2, 3, 4, 0] rfl ?_
    exact uX9_longestChain_44 R a0 a1 c16 v17 J19 h14 h15 j22 hj22 am_fu (0 : Int32) J18
theorem uX9_longestChain_32 {Z : am_Z} {X : am_X} (R : am_R) (a0 : Nat) (a1 : Nat) (c16 : Int64) (J19 : am_L) (h14 : am_G Z a0 = some (.inl 9)) (h15 : am_G Z a1 = some (.inl 0)) (j4 : am_I → Option (Int32 × am_I × am_L)) (hj4 : ∀ (J5 : am_I), am_V Z X kX9_longestChain (fun r : Int32 × am_I × am_L => (some (.int r.1), R, r.2.1, r.2.2)) 89 [(0, .ref (am_B Z + a0))] [] R J5 J19 (j4 J5)) : ∀ (n : Nat) (v17 : Int32) (J18 : am_I), am_V Z X kX9_longestChain (fun r : Int32 × am_I × am_L => (some (.int r.1), R, r.2.1, r.2.2)) 32 [(0, .ref (am_B Z + a0)), (1, .ref (am_B Z + a1)), (2, .long c16), (4, .int v17)] [] R J18 J19 (lX9_longestChain_32 R a0 a1 c16 J19 j4 n v17 J18) := by
  intro n
  induction n with
  | zero => intro _ _; exact am_none
  | succ n ih => exact fun v17 J18 => vX9_longestChain_32 R a0 a1 c16 J19 h14 h15 j4 hj4 (lX9_longestChain_32 R a0 a1 c16 J19 j4 n) ih v17 J18
set_option maxRecDepth 100000 in
set_option maxHeartbeats 4000000 in
theorem vX9_longestChain_8 {Z : am_Z} {X : am_X} (R : am_R) (a0 : Nat) (a1 : Nat) (c36 : Int64) (J39 : am_L) (h34 : am_G Z a0 = some (.inl 9)) (h35 : am_G Z a1 = some (.inl 0)) (j2 : am_I → Option (Int32 × am_I × am_L)) (hj2 : ∀ (J3 : am_I), am_V Z X kX9_longestChain (fun r : Int32 × am_I × am_L => (some (.int r.1), R, r.2.1, r.2.2)) 29 [(0, .ref (am_B Z + a0)), (1, .ref (am_B Z + a1)), (2, .long c36)] [] R J3 J39 (j2 J3)) (ih40 : Int32 → am_I → Option (Int32 × am_I × am_L)) (hih40 : ∀ (v37 : Int32) (J38 : am_I), am_V Z X kX9_longestChain (fun r : Int32 × am_I × am_L => (some (.int r.1), R, r.2.1, r.2.2)) 8 [(0, .ref (am_B Z + a0)), (1, .ref (am_B Z + a1)), (2, .long c36), (4, .int v37)] [] R J38 J39 (ih40 v37 J38)) (v37 : Int32) (J38 : am_I) : am_V Z X kX9_longestChain (fun r : Int32 × am_I × am_L => (some (.int r.1), R, r.2.1, r.2.2)) 8 [(0, .ref (am_B Z + a0)), (1, .ref (am_B Z + a1)), (2, .long c36), (4, .int v37)] [] R J38 J39 (sX9_longestChain_8 R a0 a1 c36 J39 j2 ih40 v37 J38) := by
  unfold sX9_longestChain_8
  refine am_iload dX9_longestChain_8 3 rfl ?_
  refine am_bipush (v := 6) dX9_longestChain_10 (by decide) ?_
  refine am_icmp_ge (tgt := 29) dX9_longestChain_12 rfl (fun e41 => ?_) (fun e41 => ?_)
  · refine am_sub (ls' := [(0, .ref (am_B Z + a0)), (1, .ref (am_B Z + a1)), (2, .long c36)]) [0, 1, 2] rfl ?_
    exact hj2 J38
  · refine am_aload_n dX9_longestChain_15 rfl 0 rfl ?_
    refine am_getR 9 12 clX9 (Nat.le_of_ble_eq_true rfl) h34 iX9_longestChain_9 fX9_longestChain_30 rfl rfl dX9_longestChain_16 (fun h42 => ?_)
    refine am_iload dX9_longestChain_19 3 rfl ?_
    refine am_iconst (v := 0) dX9_longestChain_21 (by decide) ?_
    refine am_iast h42 dX9_longestChain_22 ?_
    refine am_letI (fun J43 => ?_)
    refine am_iinc (j := 3) (ls' := [(4, .int (v37 + (1 : Int32))), (0, .ref (am_B Z + a0)), (1, .ref (am_B Z + a1)), (2, .long c36)]) dX9_longestChain_23 rfl rfl (Nat.le_of_ble_eq_true rfl) rfl ?_
    refine am_goto (tgt := 8) dX9_longestChain_26 rfl ?_
    refine am_sub (ls' := [(0, .ref (am_B Z + a0)), (1, .ref (am_B Z + a1)), (2, .long c36), (4, .int (v37 + (1 : Int32)))]) [1, 2, 3, 0] rfl ?_
    exact hih40 (v37 + (1 : Int32)) J43
theorem uX9_longestChain_8 {Z : am_Z} {X : am_X} (R : am_R) (a0 : Nat) (a1 : Nat) (c36 : Int64) (J39 : am_L) (h34 : am_G Z a0 = some (.inl 9)) (h35 : am_G Z a1 = some (.inl 0)) (j2 : am_I → Option (Int32 × am_I × am_L)) (hj2 : ∀ (J3 : am_I), am_V Z X kX9_longestChain (fun r : Int32 × am_I × am_L => (some (.int r.1), R, r.2.1, r.2.2)) 29 [(0, .ref (am_B Z + a0)), (1, .ref (am_B Z + a1)), (2, .long c36)] [] R J3 J39 (j2 J3)) : ∀ (n : Nat) (v37 : Int32) (J38 : am_I), am_V Z X kX9_longestChain (fun r : Int32 × am_I × am_L => (some (.int r.1), R, r.2.1, r.2.2)) 8 [(0, .ref (am_B Z + a0)), (1, .ref (am_B Z + a1)), (2, .long c36), (4, .int v37)] [] R J38 J39 (lX9_longestChain_8 R a0 a1 c36 J39 j2 n v37 J38) := by
  intro n
  induction n with
  | zero => intro _ _; exact am_none
  | succ n ih => exact fun v37 J38 => vX9_longestChain_8 R a0 a1 c36 J39 h34 h35 j2 hj2 (lX9_longestChain_8 R a0 a1 c36 J39 j2 n) ih v37 J38
set_option maxRecDepth 100000 in
set_option maxHeartbeats 4000000 in
theorem tX9_longestChain {Z : am_Z} (R : am_R) (I : am_I) (L : am_L) (a0 : Nat) (a1 : Nat) (h_a0 : am_G Z a0 = some (.inl 9)) (h_a1 : am_G Z a1 = some (.inl 0)) : am_M Z yX9_longestChain kX9_longestChain [.ref (am_B Z + a0), .ref (am_B Z + a1)] R I L (pX9_longestChain R I L a0 a1) (fun r : Int32 × am_I × am_L => (some (.int r.1), R, r.2.1, r.2.2)) := by
  refine am_entry (ls := [(0, .ref (am_B Z + a0)), (1, .ref (am_B Z + a1))]) (by decide) hX9_longestChain rfl (Nat.le_of_ble_eq_true rfl) rfl (fun X => ?_)
  unfold pX9_longestChain
  refine am_aload_n dX9_longestChain_0 rfl 0 rfl ?_
  refine am_callV [] (tX9_splitPairs R I L a0 h_a0) h_a0 clX9 gX9_longestChain_X9_splitPairs hX9_splitPairs rfl ⟨Nat.le_of_ble_eq_true rfl, Nat.le_of_ble_eq_true rfl⟩ rfl rfl (Nat.le_of_ble_eq_true rfl) dX9_longestChain_1 (fun r1 => ?_)
  show am_V Z X kX9_longestChain (fun r : Int32 × am_I × am_L => (some (.int r.1), R, r.2.1, r.2.2)) 4 [(0, .ref (am_B Z + a0)), (1, .ref (am_B Z + a1))] [.long r1.1] R r1.2.1 r1.2.2 _
  refine am_lstore_n (ls' := [(2, .long r1.1), (0, .ref (am_B Z + a0)), (1, .ref (am_B Z + a1))]) dX9_longestChain_4 rfl (Nat.le_of_ble_eq_true rfl) rfl ?_
  refine am_iconst (v := 0) dX9_longestChain_5 (by decide) ?_
  refine am_istore (ls' := [(4, .int (0 : Int32)), (2, .long r1.1), (0, .ref (am_B Z + a0)), (1, .ref (am_B Z + a1))]) dX9_longestChain_6 (Nat.le_of_ble_eq_true rfl) rfl ?_
  refine am_jnV (fun j2 ej2 => ?_)
  have hj2 : ∀ (J3 : am_I), am_V Z X kX9_longestChain (fun r : Int32 × am_I × am_L => (some (.int r.1), R, r.2.1, r.2.2)) 29 [(0, .ref (am_B Z + a0)), (1, .ref (am_B Z + a1)), (2, .long r1.1)] [] R J3 r1.2.2 (j2 J3) := by
    subst ej2
    intro J3
    show am_V Z X kX9_longestChain (fun r : Int32 × am_I × am_L => (some (.int r.1), R, r.2.1, r.2.2)) 29 [(0, .ref (am_B Z + a0)), (1, .ref (am_B Z + a1)), (2, .long r1.1)] [] R J3 r1.2.2 _
    refine am_iconst (v := 1) dX9_longestChain_29 (by decide) ?_
    refine am_istore (ls' := [(4, .int (1 : Int32)), (0, .ref (am_B Z + a0)), (1, .ref (am_B Z + a1)), (2, .long r1.1)]) dX9_longestChain_30 (Nat.le_of_ble_eq_true rfl) rfl ?_
    refine am_jnV (fun j4 ej4 => ?_)
    have hj4 : ∀ (J5 : am_I), am_V Z X kX9_longestChain (fun r : Int32 × am_I × am_L => (some (.int r.1), R, r.2.1, r.2.2)) 89 [(0, .ref (am_B Z + a0))] [] R J5 r1.2.2 (j4 J5) := by
      subst ej4
      intro J5
      show am_V Z X kX9_longestChain (fun r : Int32 × am_I × am_L => (some (.int r.1), R, r.2.1, r.2.2)) 89 [(0, .ref (am_B Z + a0))] [] R J5 r1.2.2 _
      refine am_iconst (v := 0) dX9_longestChain_89 (by decide) ?_
      refine am_istore (ls' := [(4, .int (0 : Int32)), (0, .ref (am_B Z + a0))]) dX9_longestChain_90 (Nat.le_of_ble_eq_true rfl) rfl ?_
      refine am_iconst (v := 0) dX9_longestChain_92 (by decide) ?_
      refine am_istore (ls' := [(5, .int (0 : Int32)), (4, .int (0 : Int32)), (0, .ref (am_B Z + a0))]) dX9_longestChain_93 (Nat.le_of_ble_eq_true rfl) rfl ?_
      refine am_sub (ls' := [(0, .ref (am_B Z + a0)), (4, .int (0 : Int32)), (5, .int (0 : Int32))]) [2, 1, 0] rfl ?_
      exact uX9_longestChain_95 R a0 J5 r1.2.2 h_a0 am_fu (0 : Int32) (0 : Int32)
    refine am_sub (ls' := [(0, .ref (am_B Z + a0)), (1, .ref (am_B Z + a1)), (2, .long r1.1), (4, .int (1 : Int32))]) [1, 2, 3, 0] rfl ?_
    exact uX9_longestChain_32 R a0 a1 r1.1 r1.2.2 h_a0 h_a1 j4 hj4 am_fu (1 : Int32) J3
  refine am_sub (ls' := [(0, .ref (am_B Z + a0)), (1, .ref (am_B Z + a1)), (2, .long r1.1), (4, .int (0 : Int32))]) [2, 3, 1, 0] rfl ?_
  exact uX9_longestChain_8 R a0 a1 r1.1 r1.2.2 h_a0 h_a1 j2 hj2 am_fu (0 : Int32) r1.2.1
abbrev kX9_copyFoundWordTo : am_K := (cX9_copyFoundWordTo, 5, RX9, wsX9_copyFoundWordTo, none, { frames := 2, cells := 0, slots := 0, locals := 43 })
theorem hX9_copyFoundWordTo : am_cl yX9_copyFoundWordTo kX9_copyFoundWordTo 1 := ⟨⟨_, rfl⟩, rfl, rfl, by decide +kernel, by decide +kernel, by decide +kernel⟩
theorem iX9_copyFoundWordTo_9 : ∀ w ∈ u_ws RX9 TX9 13, w ∈ wsX9_copyFoundWordTo := by decide +kernel
theorem fX9_copyFoundWordTo_22 : Cond.fieldLink RX9 22 "AmbiguityAnalyzer$WordSearch" "foundNode" "I" ∈ wsX9_copyFoundWordTo := by decide +kernel
theorem iX9_copyFoundWordTo_8 : ∀ w ∈ u_ws RX8 TX8 2, w ∈ wsX9_copyFoundWordTo := by decide +kernel
theorem fX9_copyFoundWordTo_143 : Cond.fieldLink RX9 143 "AmbiguityAnalyzer$Word" "length" "I" ∈ wsX9_copyFoundWordTo := by decide +kernel
set_option maxRecDepth 100000 in
set_option maxHeartbeats 4000000 in
theorem vX9_copyFoundWordTo_48 {Z : am_Z} {X : am_X} (R : am_R) (L : am_L) (a0 : Nat) (a1 : Nat) (h7 : am_G Z a0 = some (.inl 9)) (h8 : am_G Z a1 = some (.inl 8)) (ih12 : Int32 → Int32 → am_I → Option (am_I)) (hih12 : ∀ (v9 : Int32) (v10 : Int32) (J11 : am_I), am_V Z X kX9_copyFoundWordTo (fun r : am_I => (none, R, r, L)) 48 [(0, .ref (am_B Z + a0)), (1, .ref (am_B Z + a1)), (3, .int v9), (4, .int v10)] [] R J11 L (ih12 v9 v10 J11)) (v9 : Int32) (v10 : Int32) (J11 : am_I) : am_V Z X kX9_copyFoundWordTo (fun r : am_I => (none, R, r, L)) 48 [(0, .ref (am_B Z + a0)), (1, .ref (am_B Z + a1)), (3, .int v9), (4, .int v10)] [] R J11 L (sX9_copyFoundWordTo_48 R a0 a1 ih12 v9 v10 J11) := by
  unfold sX9_copyFoundWordTo_48
  refine am_iload dX9_copyFoundWordTo_48 3 rfl ?_
  refine am_if_lt (tgt := 84) dX9_copyFoundWordTo_50 rfl (fun e13 => ?_) (fun e13 => ?_)
  · exact am_vret dX9_copyFoundWordTo_84 rfl rfl
  · refine am_aload_n dX9_copyFoundWordTo_53 rfl 1 rfl ?_
    refine am_iload dX9_copyFoundWordTo_54 3 rfl ?_
    refine am_aload_n dX9_copyFoundWordTo_56 rfl 0 rfl ?_
    refine am_iload_n dX9_copyFoundWordTo_57 rfl 2 rfl ?_
    refine am_callV [.int v9] (tX9_nodeAt R J11 L a0 v9 h7) h7 clX9 gX9_copyFoundWordTo_X9_nodeAt hX9_nodeAt rfl ⟨Nat.le_of_ble_eq_true rfl, Nat.le_of_ble_eq_true rfl⟩ rfl rfl (Nat.le_of_ble_eq_true rfl) dX9_copyFoundWordTo_58 (fun r14 => ?_)
    show am_V Z X kX9_copyFoundWordTo (fun r : am_I => (none, R, r, L)) 61 [(0, .ref (am_B Z + a0)), (1, .ref (am_B Z + a1)), (3, .int v9), (4, .int v10)] [.int r14, .int v10, .ref (am_B Z + a1)] R J11 L _
    refine am_bipush (v := 12) dX9_copyFoundWordTo_61 (by decide) ?_
    refine am_ishr dX9_copyFoundWordTo_63 ?_
    refine am_iconst (v := 3) dX9_copyFoundWordTo_64 (by decide) ?_
    refine am_iand dX9_copyFoundWordTo_65 ?_
    refine am_callV [.int v10, .int ((r14 >>> ((12 : Int32) &&& 31)) &&& (3 : Int32))] (tX8_setLetter R J11 L a1 v10 ((r14 >>> ((12 : Int32) &&& 31)) &&& (3 : Int32)) h8) h8 clX8 gX9_copyFoundWordTo_X8_setLetter hX8_setLetter rfl ⟨Nat.le_of_ble_eq_true rfl, Nat.le_of_ble_eq_true rfl⟩ rfl rfl (Nat.le_of_ble_eq_true rfl) dX9_copyFoundWordTo_66 (fun r15 => ?_)
    show am_V Z X kX9_copyFoundWordTo (fun r : am_I => (none, R, r, L)) 69 [(0, .ref (am_B Z + a0)), (1, .ref (am_B Z + a1)), (3, .int v9), (4, .int v10)] [] R r15 L _
    refine am_aload_n dX9_copyFoundWordTo_69 rfl 0 rfl ?_
    refine am_iload_n dX9_copyFoundWordTo_70 rfl 2 rfl ?_
    refine am_callV [.int v9] (tX9_nodeAt R r15 L a0 v9 h7) h7 clX9 gX9_copyFoundWordTo_X9_nodeAt hX9_nodeAt rfl ⟨Nat.le_of_ble_eq_true rfl, Nat.le_of_ble_eq_true rfl⟩ rfl rfl (Nat.le_of_ble_eq_true rfl) dX9_copyFoundWordTo_71 (fun r16 => ?_)
    show am_V Z X kX9_copyFoundWordTo (fun r : am_I => (none, R, r, L)) 74 [(0, .ref (am_B Z + a0)), (1, .ref (am_B Z + a1)), (3, .int v9), (4, .int v10)] [.int r16] R r15 L _
    refine am_bipush (v := 14) dX9_copyFoundWordTo_74 (by decide) ?_
    refine am_ishr dX9_copyFoundWordTo_76 ?_
    refine am_letTi (fun v17 => ?_)
    refine am_istore_n (ls' := [(3, .int v17), (0, .ref (am_B Z + a0)), (1, .ref (am_B Z + a1)), (4, .int v10)]) dX9_copyFoundWordTo_77 rfl (Nat.le_of_ble_eq_true rfl) rfl ?_
    refine am_iinc (j := 3) (ls' := [(4, .int (v10 + (-1 : Int32))), (3, .int v17), (0, .ref (am_B Z + a0)), (1, .ref (am_B Z + a1))]) dX9_copyFoundWordTo_78 rfl rfl (Nat.le_of_ble_eq_true rfl) rfl ?_
    refine am_goto (tgt := 48) dX9_copyFoundWordTo_81 rfl ?_
    refine am_sub (ls' := [(0, .ref (am_B Z + a0)), (1, .ref (am_B Z + a1)), (3, .int v17), (4, .int (v10 + (-1 : Int32)))]) [2, 3, 1, 0] rfl ?_
    exact hih12 v17 (v10 + (-1 : Int32)) r15
theorem uX9_copyFoundWordTo_48 {Z : am_Z} {X : am_X} (R : am_R) (L : am_L) (a0 : Nat) (a1 : Nat) (h7 : am_G Z a0 = some (.inl 9)) (h8 : am_G Z a1 = some (.inl 8)) : ∀ (n : Nat) (v9 : Int32) (v10 : Int32) (J11 : am_I), am_V Z X kX9_copyFoundWordTo (fun r : am_I => (none, R, r, L)) 48 [(0, .ref (am_B Z + a0)), (1, .ref (am_B Z + a1)), (3, .int v9), (4, .int v10)] [] R J11 L (lX9_copyFoundWordTo_48 R a0 a1 n v9 v10 J11) := by
  intro n
  induction n with
  | zero => intro _ _ _; exact am_none
  | succ n ih => exact fun v9 v10 J11 => vX9_copyFoundWordTo_48 R L a0 a1 h7 h8 (lX9_copyFoundWordTo_48 R a0 a1 n) ih v9 v10 J11
set_option maxRecDepth 100000 in
set_option maxHeartbeats 4000000 in
theorem vX9_copyFoundWordTo_7 {Z : am_Z} {X : am_X} (R : am_R) (I : am_I) (L : am_L) (a0 : Nat) (a1 : Nat) (h18 : am_G Z a0 = some (.inl 9)) (h19 : am_G Z a1 = some (.inl 8)) (j2 : Int32 → Option (am_I)) (hj2 : ∀ (v3 : Int32), am_V Z X kX9_copyFoundWordTo (fun r : am_I => (none, R, r, L)) 33 [(0, .ref (am_B Z + a0)), (1, .ref (am_B Z + a1)), (2, .int v3)] [] R I L (j2 v3)) (ih22 : Int32 → Int32 → Option (am_I)) (hih22 : ∀ (v20 : Int32) (v21 : Int32), am_V Z X kX9_copyFoundWordTo (fun r : am_I => (none, R, r, L)) 7 [(0, .ref (am_B Z + a0)), (1, .ref (am_B Z + a1)), (2, .int v20), (3, .int v21)] [] R I L (ih22 v20 v21)) (v20 : Int32) (v21 : Int32) : am_V Z X kX9_copyFoundWordTo (fun r : am_I => (none, R, r, L)) 7 [(0, .ref (am_B Z + a0)), (1, .ref (am_B Z + a1)), (2, .int v20), (3, .int v21)] [] R I L (sX9_copyFoundWordTo_7 R I a0 a1 j2 ih22 v20 v21) := by
  unfold sX9_copyFoundWordTo_7
  refine am_iload_n dX9_copyFoundWordTo_7 rfl 3 rfl ?_
  refine am_if_le (tgt := 33) dX9_copyFoundWordTo_8 rfl (fun e23 => ?_) (fun e23 => ?_)
  · refine am_sub (ls' := [(0, .ref (am_B Z + a0)), (1, .ref (am_B Z + a1)), (2, .int v20)]) [0, 1, 2] rfl ?_
    exact hj2 v20
  · refine am_iload_n dX9_copyFoundWordTo_11 rfl 2 rfl ?_
    refine am_sipush (v := 216) dX9_copyFoundWordTo_12 (by decide) ?_
    refine am_icmp_ge (tgt := 33) dX9_copyFoundWordTo_15 rfl (fun e24 => ?_) (fun e24 => ?_)
    · refine am_sub (ls' := [(0, .ref (am_B Z + a0)), (1, .ref (am_B Z + a1)), (2, .int v20)]) [0, 1, 2] rfl ?_
      exact hj2 v20
    · refine am_aload_n dX9_copyFoundWordTo_18 rfl 0 rfl ?_
      refine am_iload_n dX9_copyFoundWordTo_19 rfl 3 rfl ?_
      refine am_callV [.int v21] (tX9_nodeAt R I L a0 v21 h18) h18 clX9 gX9_copyFoundWordTo_X9_nodeAt hX9_nodeAt rfl ⟨Nat.le_of_ble_eq_true rfl, Nat.le_of_ble_eq_true rfl⟩ rfl rfl (Nat.le_of_ble_eq_true rfl) dX9_copyFoundWordTo_20 (fun r25 => ?_)
      show am_V Z X kX9_copyFoundWordTo (fun r : am_I => (none, R, r, L)) 23 [(0, .ref (am_B Z + a0)), (1, .ref (am_B Z + a1)), (2, .int v20), (3, .int v21)] [.int r25] R I L _
      refine am_bipush (v := 14) dX9_copyFoundWordTo_23 (by decide) ?_
      refine am_ishr dX9_copyFoundWordTo_25 ?_
      refine am_letTi (fun v26 => ?_)
      refine am_istore_n (ls' := [(3, .int v26), (0, .ref (am_B Z + a0)), (1, .ref (am_B Z + a1)), (2, .int v20)]) dX9_copyFoundWordTo_26 rfl (Nat.le_of_ble_eq_true rfl) rfl ?_
      refine am_iinc (j := 3) (ls' := [(2, .int (v20 + (1 : Int32))), (3, .int v26), (0, .ref (am_B Z + a0)), (1, .ref (am_B Z + a1))]) dX9_copyFoundWordTo_27 rfl rfl (Nat.le_of_ble_eq_true rfl) rfl ?_
      refine am_goto (tgt := 7) dX9_copyFoundWordTo_30 rfl ?_
      refine am_sub (ls' := [(0, .ref (am_B Z + a0)), (1, .ref (am_B Z + a1)), (2, .int (v20 + (1 : Int32))), (3, .int v26)]) [2, 3, 0, 1] rfl ?_
      exact hih22 (v20 + (1 : Int32)) v26
theorem uX9_copyFoundWordTo_7 {Z : am_Z} {X : am_X} (R : am_R) (I : am_I) (L : am_L) (a0 : Nat) (a1 : Nat) (h18 : am_G Z a0 = some (.inl 9)) (h19 : am_G Z a1 = some (.inl 8)) (j2 : Int32 → Option (am_I)) (hj2 : ∀ (v3 : Int32), am_V Z X kX9_copyFoundWordTo (fun r : am_I => (none, R, r, L)) 33 [(0, .ref (am_B Z + a0)), (1, .ref (am_B Z + a1)), (2, .int v3)] [] R I L (j2 v3)) : ∀ (n : Nat) (v20 : Int32) (v21 : Int32), am_V Z X kX9_copyFoundWordTo (fun r : am_I => (none, R, r, L)) 7 [(0, .ref (am_B Z + a0)), (1, .ref (am_B Z + a1)), (2, .int v20), (3, .int v21)] [] R I L (lX9_copyFoundWordTo_7 R I a0 a1 j2 n v20 v21) := by
  intro n
  induction n with
  | zero => intro _ _; exact am_none
  | succ n ih => exact fun v20 v21 => vX9_copyFoundWordTo_7 R I L a0 a1 h18 h19 j2 hj2 (lX9_copyFoundWordTo_7 R I a0 a1 j2 n) ih v20 v21
set_option maxRecDepth 100000 in
set_option maxHeartbeats 4000000 in
theorem tX9_copyFoundWordTo {Z : am_Z} (R : am_R) (I : am_I) (L : am_L) (a0 : Nat) (a1 : Nat) (h_a0 : am_G Z a0 = some (.inl 9)) (h_a1 : am_G Z a1 = some (.inl 8)) : am_M Z yX9_copyFoundWordTo kX9_copyFoundWordTo [.ref (am_B Z + a0), .ref (am_B Z + a1)] R I L (pX9_copyFoundWordTo R I a0 a1) (fun r : am_I => (none, R, r, L)) := by
  refine am_entry (ls := [(0, .ref (am_B Z + a0)), (1, .ref (am_B Z + a1))]) (by decide) hX9_copyFoundWordTo rfl (Nat.le_of_ble_eq_true rfl) rfl (fun X => ?_)
  unfold pX9_copyFoundWordTo
  refine am_iconst (v := 0) dX9_copyFoundWordTo_0 (by decide) ?_
  refine am_istore_n (ls' := [(2, .int (0 : Int32)), (0, .ref (am_B Z + a0)), (1, .ref (am_B Z + a1))]) dX9_copyFoundWordTo_1 rfl (Nat.le_of_ble_eq_true rfl) rfl ?_
  refine am_aload_n dX9_copyFoundWordTo_2 rfl 1 rfl ?_
  refine am_get 9 10 clX9 (Nat.le_of_ble_eq_true rfl) h_a0 iX9_copyFoundWordTo_9 fX9_copyFoundWordTo_22 rfl dX9_copyFoundWordTo_3 ?_
  refine am_letTi (fun v1 => ?_)
  refine am_istore_n (ls' := [(3, .int v1), (2, .int (0 : Int32)), (0, .ref (am_B Z + a0)), (1, .ref (am_B Z + a1))]) dX9_copyFoundWordTo_6 rfl (Nat.le_of_ble_eq_true rfl) rfl ?_
  refine am_jnV (fun j2 ej2 => ?_)
  have hj2 : ∀ (v3 : Int32), am_V Z X kX9_copyFoundWordTo (fun r : am_I => (none, R, r, L)) 33 [(0, .ref (am_B Z + a0)), (1, .ref (am_B Z + a1)), (2, .int v3)] [] R I L (j2 v3) := by
    subst ej2
    intro v3
    show am_V Z X kX9_copyFoundWordTo (fun r : am_I => (none, R, r, L)) 33 [(0, .ref (am_B Z + a0)), (1, .ref (am_B Z + a1)), (2, .int v3)] [] R I L _
    refine am_aload_n dX9_copyFoundWordTo_33 rfl 1 rfl ?_
    refine am_iload_n dX9_copyFoundWordTo_34 rfl 2 rfl ?_
    refine am_putI 8 0 clX8 (Nat.le_of_ble_eq_true rfl) h_a1 iX9_copyFoundWordTo_8 fX9_copyFoundWordTo_143 rfl rfl dX9_copyFoundWordTo_35 ?_
    refine am_letI (fun J4 => ?_)
    refine am_aload_n dX9_copyFoundWordTo_38 rfl 0 rfl ?_
    refine am_get 9 10 clX9 (Nat.le_of_ble_eq_true rfl) h_a0 iX9_copyFoundWordTo_9 fX9_copyFoundWordTo_22 rfl dX9_copyFoundWordTo_39 ?_
    refine am_letTi (fun v5 => ?_)
    refine am_istore_n (ls' := [(3, .int v5), (0, .ref (am_B Z + a0)), (1, .ref (am_B Z + a1)), (2, .int v3)]) dX9_copyFoundWordTo_42 rfl (Nat.le_of_ble_eq_true rfl) rfl ?_
    refine am_iload_n dX9_copyFoundWordTo_43 rfl 3 rfl ?_
    refine am_iconst (v := 1) dX9_copyFoundWordTo_44 (by decide) ?_
    refine am_isub dX9_copyFoundWordTo_45 ?_
    refine am_letTi (fun v6 => ?_)
    refine am_istore (ls' := [(4, .int v6), (3, .int v5), (0, .ref (am_B Z + a0)), (1, .ref (am_B Z + a1)), (2, .int v3)]) dX9_copyFoundWordTo_46 (Nat.le_of_ble_eq_true rfl) rfl ?_
    refine am_sub (ls' := [(0, .ref (am_B Z + a0)), (1, .ref (am_B Z + a1)), (3, .int v5), (4, .int v6)]) [2, 3, 1, 0] rfl ?_
    exact uX9_copyFoundWordTo_48 R L a0 a1 h_a0 h_a1 am_fu v5 v6 J4
  refine am_sub (ls' := [(0, .ref (am_B Z + a0)), (1, .ref (am_B Z + a1)), (2, .int (0 : Int32)), (3, .int v1)]) [2, 3, 1, 0] rfl ?_
  exact uX9_copyFoundWordTo_7 R I L a0 a1 h_a0 h_a1 j2 hj2 am_fu (0 : Int32) v1
abbrev kX10_reset : am_K := (cX10_reset, 3, RX10, wsX10_reset, some .int, { frames := 1, cells := 0, slots := 0, locals := 22 })
theorem hX10_reset : am_cl yX10_reset kX10_reset 1 := ⟨⟨_, rfl⟩, rfl, rfl, by decide +kernel, by decide +kernel, by decide +kernel⟩
theorem iX10_reset_10 : ∀ w ∈ u_ws RX10 TX10 18, w ∈ wsX10_reset := by decide +kernel
theorem fX10_reset_12 : Cond.fieldLink RX10 12 "AmbiguityAnalyzer" "automaton" "LAmbiguityAnalyzer$Automaton;" ∈ wsX10_reset := by decide +kernel
theorem iX10_reset_0 : ∀ w ∈ u_ws RX0 TX0 4, w ∈ wsX10_reset := by decide +kernel
theorem fX10_reset_92 : Cond.fieldLink RX10 92 "AmbiguityAnalyzer$Automaton" "states" "I" ∈ wsX10_reset := by decide +kernel
set_option maxRecDepth 100000 in
set_option maxHeartbeats 4000000 in
theorem tX10_reset {Z : am_Z} (R : am_R) (I : am_I) (L : am_L) (a0 : Nat) (x1 : Int32) (h_a0 : am_G Z a0 = some (.inl 10)) : am_M Z yX10_reset kX10_reset [.ref (am_B Z + a0), .int x1] R I L (pX10_reset R I a0 x1) (fun r : Int32 × am_I => (some (.int r.1), R, r.2, L)) := by
  refine am_entry (ls := [(0, .ref (am_B Z + a0)), (1, .int x1)]) (by decide) hX10_reset rfl (Nat.le_of_ble_eq_true rfl) rfl (fun X => ?_)
  unfold pX10_reset
  refine am_iload_n dX10_reset_0 rfl 1 rfl ?_
  refine am_iconst (v := 1) dX10_reset_1 (by decide) ?_
  refine am_icmp_lt (tgt := 11) dX10_reset_2 rfl (fun e1 => ?_) (fun e1 => ?_)
  · refine am_bipush (v := -2) dX10_reset_11 (by decide) ?_
    exact am_iret dX10_reset_13 rfl rfl
  · refine am_iload_n dX10_reset_5 rfl 1 rfl ?_
    refine am_bipush (v := 6) dX10_reset_6 (by decide) ?_
    refine am_icmp_le (tgt := 14) dX10_reset_8 rfl (fun e2 => ?_) (fun e2 => ?_)
    · refine am_aload_n dX10_reset_14 rfl 0 rfl ?_
      refine am_getR 10 0 clX10 (Nat.le_of_ble_eq_true rfl) h_a0 iX10_reset_10 fX10_reset_12 rfl rfl dX10_reset_15 (fun h3 => ?_)
      refine am_get 0 0 clX0 (Nat.le_of_ble_eq_true rfl) h3 iX10_reset_0 fX10_reset_92 rfl dX10_reset_18 ?_
      refine am_letTi (fun v4 => ?_)
      refine am_istore_n (ls' := [(2, .int v4), (0, .ref (am_B Z + a0)), (1, .int x1)]) dX10_reset_21 rfl (Nat.le_of_ble_eq_true rfl) rfl ?_
      refine am_aload_n dX10_reset_22 rfl 1 rfl ?_
      refine am_getR 10 0 clX10 (Nat.le_of_ble_eq_true rfl) h_a0 iX10_reset_10 fX10_reset_12 rfl rfl dX10_reset_23 (fun h5 => ?_)
      refine am_iload_n dX10_reset_26 rfl 2 rfl ?_
      refine am_callV [.int x1] (tX0_clear R I L (R a0 0) x1 h5) h5 clX0 gX10_reset_X0_clear hX0_clear rfl ⟨Nat.le_of_ble_eq_true rfl, Nat.le_of_ble_eq_true rfl⟩ rfl rfl (Nat.le_of_ble_eq_true rfl) dX10_reset_27 (fun r6 => ?_)
      show am_V Z X kX10_reset (fun r : Int32 × am_I => (some (.int r.1), R, r.2, L)) 30 [(2, .int v4), (0, .ref (am_B Z + a0)), (1, .int x1)] [] R r6 L _
      refine am_iload_n dX10_reset_30 rfl 0 rfl ?_
      exact am_iret dX10_reset_31 rfl rfl
    · refine am_bipush (v := -2) dX10_reset_11 (by decide) ?_
      exact am_iret dX10_reset_13 rfl rfl
abbrev kX10_stateCount : am_K := (cX10_stateCount, 1, RX10, wsX10_stateCount, some .int, { frames := 0, cells := 0, slots := 0, locals := 0 })
theorem hX10_stateCount : am_cl yX10_stateCount kX10_stateCount 0 := ⟨⟨_, rfl⟩, rfl, rfl, by decide +kernel, by decide +kernel, by decide +kernel⟩
theorem iX10_stateCount_10 : ∀ w ∈ u_ws RX10 TX10 18, w ∈ wsX10_stateCount := by decide +kernel
theorem fX10_stateCount_12 : Cond.fieldLink RX10 12 "AmbiguityAnalyzer" "automaton" "LAmbiguityAnalyzer$Automaton;" ∈ wsX10_stateCount := by decide +kernel
theorem iX10_stateCount_0 : ∀ w ∈ u_ws RX0 TX0 4, w ∈ wsX10_stateCount := by decide +kernel
theorem fX10_stateCount_92 : Cond.fieldLink RX10 92 "AmbiguityAnalyzer$Automaton" "states" "I" ∈ wsX10_stateCount := by decide +kernel
set_option maxRecDepth 100000 in
set_option maxHeartbeats 4000000 in
theorem tX10_stateCount {Z : am_Z} (R : am_R) (I : am_I) (L : am_L) (a0 : Nat) (h_a0 : am_G Z a0 = some (.inl 10)) : am_M Z yX10_stateCount kX10_stateCount [.ref (am_B Z + a0)] R I L (pX10_stateCount R I a0) (fun r : Int32 => (some (.int r), R, I, L)) := by
  refine am_entry (ls := [(0, .ref (am_B Z + a0))]) (by decide) hX10_stateCount rfl (Nat.le_of_ble_eq_true rfl) rfl (fun X => ?_)
  unfold pX10_stateCount
  refine am_aload_n dX10_stateCount_0 rfl 0 rfl ?_
  refine am_getR 10 0 clX10 (Nat.le_of_ble_eq_true rfl) h_a0 iX10_stateCount_10 fX10_stateCount_12 rfl rfl dX10_stateCount_1 (fun h1 => ?_)
  refine am_get 0 0 clX0 (Nat.le_of_ble_eq_true rfl) h1 iX10_stateCount_0 fX10_stateCount_92 rfl dX10_stateCount_4 ?_
  exact am_iret dX10_stateCount_7 rfl rfl
abbrev kX10_addTransition : am_K := (cX10_addTransition, 4, RX10, wsX10_addTransition, some .int, { frames := 3, cells := 0, slots := 0, locals := 67 })
theorem hX10_addTransition : am_cl yX10_addTransition kX10_addTransition 3 := ⟨⟨_, rfl⟩, rfl, rfl, by decide +kernel, by decide +kernel, by decide +kernel⟩
theorem iX10_addTransition_10 : ∀ w ∈ u_ws RX10 TX10 18, w ∈ wsX10_addTransition := by decide +kernel
theorem fX10_addTransition_12 : Cond.fieldLink RX10 12 "AmbiguityAnalyzer" "automaton" "LAmbiguityAnalyzer$Automaton;" ∈ wsX10_addTransition := by decide +kernel
set_option maxRecDepth 100000 in
set_option maxHeartbeats 4000000 in
theorem tX10_addTransition {Z : am_Z} (R : am_R) (I : am_I) (L : am_L) (a0 : Nat) (x1 : Int32) (x2 : Int32) (x3 : Int32) (h_a0 : am_G Z a0 = some (.inl 10)) : am_M Z yX10_addTransition kX10_addTransition [.ref (am_B Z + a0), .int x1, .int x2, .int x3] R I L (pX10_addTransition R I a0 x1 x2 x3) (fun r : Int32 × am_I => (some (.int r.1), R, r.2, L)) := by
  refine am_entry (ls := [(0, .ref (am_B Z + a0)), (1, .int x1), (2, .int x2), (3, .int x3)]) (by decide) hX10_addTransition rfl (Nat.le_of_ble_eq_true rfl) rfl (fun X => ?_)
  unfold pX10_addTransition
  refine am_aload_n dX10_addTransition_0 rfl 0 rfl ?_
  refine am_getR 10 0 clX10 (Nat.le_of_ble_eq_true rfl) h_a0 iX10_addTransition_10 fX10_addTransition_12 rfl rfl dX10_addTransition_1 (fun h1 => ?_)
  refine am_iload_n dX10_addTransition_4 rfl 1 rfl ?_
  refine am_iload_n dX10_addTransition_5 rfl 2 rfl ?_
  refine am_iload_n dX10_addTransition_6 rfl 3 rfl ?_
  refine am_callV [.int x1, .int x2, .int x3] (tX0_couldHave R I L (R a0 0) x1 x2 x3 h1) h1 clX0 gX10_addTransition_X0_couldHave hX0_couldHave rfl ⟨Nat.le_of_ble_eq_true rfl, Nat.le_of_ble_eq_true rfl⟩ rfl rfl (Nat.le_of_ble_eq_true rfl) dX10_addTransition_7 (fun r2 => ?_)
  show am_V Z X kX10_addTransition (fun r : Int32 × am_I => (some (.int r.1), R, r.2, L)) 10 [(0, .ref (am_B Z + a0)), (1, .int x1), (2, .int x2), (3, .int x3)] [.int r2] R I L _
  refine am_if_ne (tgt := 15) dX10_addTransition_10 rfl (fun e3 => ?_) (fun e3 => ?_)
  · refine am_aload_n dX10_addTransition_15 rfl 0 rfl ?_
    refine am_getR 10 0 clX10 (Nat.le_of_ble_eq_true rfl) h_a0 iX10_addTransition_10 fX10_addTransition_12 rfl rfl dX10_addTransition_16 (fun h4 => ?_)
    refine am_iload_n dX10_addTransition_19 rfl 1 rfl ?_
    refine am_iload_n dX10_addTransition_20 rfl 2 rfl ?_
    refine am_iload_n dX10_addTransition_21 rfl 3 rfl ?_
    refine am_callV [.int x1, .int x2, .int x3] (tX0_add R I L (R a0 0) x1 x2 x3 h4) h4 clX0 gX10_addTransition_X0_add hX0_add rfl ⟨Nat.le_of_ble_eq_true rfl, Nat.le_of_ble_eq_true rfl⟩ rfl rfl (Nat.le_of_ble_eq_true rfl) dX10_addTransition_22 (fun r5 => ?_)
    show am_V Z X kX10_addTransition (fun r : Int32 × am_I => (some (.int r.1), R, r.2, L)) 25 [(0, .ref (am_B Z + a0)), (1, .int x1), (2, .int x2), (3, .int x3)] [.int r5.1] R r5.2 L _
    refine am_if_eq (tgt := 32) dX10_addTransition_25 rfl (fun e6 => ?_) (fun e6 => ?_)
    · refine am_iconst (v := 0) dX10_addTransition_32 (by decide) ?_
      exact am_iret dX10_addTransition_33 rfl rfl
    · refine am_iconst (v := 1) dX10_addTransition_28 (by decide) ?_
      refine am_goto (tgt := 33) dX10_addTransition_29 rfl ?_
      exact am_iret dX10_addTransition_33 rfl rfl
  · refine am_iconst (v := -1) dX10_addTransition_13 (by decide) ?_
    exact am_iret dX10_addTransition_14 rfl rfl
abbrev kX10_removeTransition : am_K := (cX10_removeTransition, 4, RX10, wsX10_removeTransition, some .int, { frames := 3, cells := 0, slots := 0, locals := 67 })
theorem hX10_removeTransition : am_cl yX10_removeTransition kX10_removeTransition 3 := ⟨⟨_, rfl⟩, rfl, rfl, by decide +kernel, by decide +kernel, by decide +kernel⟩
theorem iX10_removeTransition_10 : ∀ w ∈ u_ws RX10 TX10 18, w ∈ wsX10_removeTransition := by decide +kernel
theorem fX10_removeTransition_12 : Cond.fieldLink RX10 12 "AmbiguityAnalyzer" "automaton" "LAmbiguityAnalyzer$Automaton;" ∈ wsX10_removeTransition := by decide +kernel
set_option maxRecDepth 100000 in
set_option maxHeartbeats 4000000 in
theorem tX10_removeTransition {Z : am_Z} (R : am_R) (I : am_I) (L : am_L) (a0 : Nat) (x1 : Int32) (x2 : Int32) (x3 : Int32) (h_a0 : am_G Z a0 = some (.inl 10)) : am_M Z yX10_removeTransition kX10_removeTransition [.ref (am_B Z + a0), .int x1, .int x2, .int x3] R I L (pX10_removeTransition R I a0 x1 x2 x3) (fun r : Int32 × am_I => (some (.int r.1), R, r.2, L)) := by
  refine am_entry (ls := [(0, .ref (am_B Z + a0)), (1, .int x1), (2, .int x2), (3, .int x3)]) (by decide) hX10_removeTransition rfl (Nat.le_of_ble_eq_true rfl) rfl (fun X => ?_)
  unfold pX10_removeTransition
  refine am_aload_n dX10_removeTransition_0 rfl 0 rfl ?_
  refine am_getR 10 0 clX10 (Nat.le_of_ble_eq_true rfl) h_a0 iX10_removeTransition_10 fX10_removeTransition_12 rfl rfl dX10_removeTransition_1 (fun h1 => ?_)
  refine am_iload_n dX10_removeTransition_4 rfl 1 rfl ?_
  refine am_iload_n dX10_removeTransition_5 rfl 2 rfl ?_
  refine am_iload_n dX10_removeTransition_6 rfl 3 rfl ?_
  refine am_callV [.int x1, .int x2, .int x3] (tX0_couldHave R I L (R a0 0) x1 x2 x3 h1) h1 clX0 gX10_removeTransition_X0_couldHave hX0_couldHave rfl ⟨Nat.le_of_ble_eq_true rfl, Nat.le_of_ble_eq_true rfl⟩ rfl rfl (Nat.le_of_ble_eq_true rfl) dX10_removeTransition_7 (fun r2 => ?_)
  show am_V Z X kX10_removeTransition (fun r : Int32 × am_I => (some (.int r.1), R, r.2, L)) 10 [(0, .ref (am_B Z + a0)), (1, .int x1), (2, .int x2), (3, .int x3)] [.int r2] R I L _
  refine am_if_ne (tgt := 15) dX10_removeTransition_10 rfl (fun e3 => ?_) (fun e3 => ?_)
  · refine am_aload_n dX10_removeTransition_15 rfl 0 rfl ?_
    refine am_getR 10 0 clX10 (Nat.le_of_ble_eq_true rfl) h_a0 iX10_removeTransition_10 fX10_removeTransition_12 rfl rfl dX10_removeTransition_16 (fun h4 => ?_)
    refine am_iload_n dX10_removeTransition_19 rfl 1 rfl ?_
    refine am_iload_n dX10_removeTransition_20 rfl 2 rfl ?_
    refine am_iload_n dX10_removeTransition_21 rfl 3 rfl ?_
    refine am_callV [.int x1, .int x2, .int x3] (tX0_remove R I L (R a0 0) x1 x2 x3 h4) h4 clX0 gX10_removeTransition_X0_remove hX0_remove rfl ⟨Nat.le_of_ble_eq_true rfl, Nat.le_of_ble_eq_true rfl⟩ rfl rfl (Nat.le_of_ble_eq_true rfl) dX10_removeTransition_22 (fun r5 => ?_)
    show am_V Z X kX10_removeTransition (fun r : Int32 × am_I => (some (.int r.1), R, r.2, L)) 25 [(0, .ref (am_B Z + a0)), (1, .int x1), (2, .int x2), (3, .int x3)] [.int r5.1] R r5.2 L _
    refine am_if_eq (tgt := 32) dX10_removeTransition_25 rfl (fun e6 => ?_) (fun e6 => ?_)
    · refine am_iconst (v := 0) dX10_removeTransition_32 (by decide) ?_
      exact am_iret dX10_removeTransition_33 rfl rfl
    · refine am_iconst (v := 1) dX10_removeTransition_28 (by decide) ?_
      refine am_goto (tgt := 33) dX10_removeTransition_29 rfl ?_
      exact am_iret dX10_removeTransition_33 rfl rfl
  · refine am_iconst (v := -1) dX10_removeTransition_13 (by decide) ?_
    exact am_iret dX10_removeTransition_14 rfl rfl
abbrev kX10_transitionCount : am_K := (cX10_transitionCount, 1, RX10, wsX10_transitionCount, some .int, { frames := 2, cells := 0, slots := 0, locals := 42 })
theorem hX10_transitionCount : am_cl yX10_transitionCount kX10_transitionCount 0 := ⟨⟨_, rfl⟩, rfl, rfl, by decide +kernel, by decide +kernel, by decide +kernel⟩
theorem iX10_transitionCount_10 : ∀ w ∈ u_ws RX10 TX10 18, w ∈ wsX10_transitionCount := by decide +kernel
theorem fX10_transitionCount_12 : Cond.fieldLink RX10 12 "AmbiguityAnalyzer" "automaton" "LAmbiguityAnalyzer$Automaton;" ∈ wsX10_transitionCount := by decide +kernel
set_option maxRecDepth 100000 in
set_option maxHeartbeats 4000000 in
theorem tX10_transitionCount {Z : am_Z} (R : am_R) (I : am_I) (L : am_L) (a0 : Nat) (h_a0 : am_G Z a0 = some (.inl 10)) : am_M Z yX10_transitionCount kX10_transitionCount [.ref (am_B Z + a0)] R I L (pX10_transitionCount R I a0) (fun r : Int32 => (some (.int r), R, I, L)) := by
  refine am_entry (ls := [(0, .ref (am_B Z + a0))]) (by decide) hX10_transitionCount rfl (Nat.le_of_ble_eq_true rfl) rfl (fun X => ?_)
  unfold pX10_transitionCount
  refine am_aload_n dX10_transitionCount_0 rfl 0 rfl ?_
  refine am_getR 10 0 clX10 (Nat.le_of_ble_eq_true rfl) h_a0 iX10_transitionCount_10 fX10_transitionCount_12 rfl rfl dX10_transitionCount_1 (fun h1 => ?_)
  refine am_callV [] (tX0_countTransitions R I L (R a0 0) h1) h1 clX0 gX10_transitionCount_X0_countTransitions hX0_countTransitions rfl ⟨Nat.le_of_ble_eq_true rfl, Nat.le_of_ble_eq_true rfl⟩ rfl rfl (Nat.le_of_ble_eq_true rfl) dX10_transitionCount_4 (fun r2 => ?_)
  show am_V Z X kX10_transitionCount (fun r : Int32 => (some (.int r), R, I, L)) 7 [(0, .ref (am_B Z + a0))] [.int r2] R I L _
  exact am_iret dX10_transitionCount_7 rfl rfl
abbrev kX10_withBit : am_K := (cX10_withBit, 3, RX10, wsX10_withBit, some .int, { frames := 0, cells := 0, slots := 0, locals := 0 })
theorem hX10_withBit : am_cl yX10_withBit kX10_withBit 3 := ⟨⟨_, rfl⟩, rfl, rfl, by decide +kernel, by decide +kernel, by decide +kernel⟩
set_option maxRecDepth 100000 in
set_option maxHeartbeats 4000000 in
theorem tX10_withBit {Z : am_Z} (R : am_R) (I : am_I) (L : am_L) (x0 : Int32) (x1 : Int32) (x2 : Int32)  : am_M Z yX10_withBit kX10_withBit [.int x0, .int x1, .int x2] R I L (pX10_withBit x0 x1 x2) (fun r : Int32 => (some (.int r), R, I, L)) := by
  refine am_entry (ls := [(0, .int x0), (1, .int x1), (2, .int x2)]) (by decide) hX10_withBit rfl (Nat.le_of_ble_eq_true rfl) rfl (fun X => ?_)
  unfold pX10_withBit
  refine am_iload_n dX10_withBit_0 rfl 2 rfl ?_
  refine am_if_eq (tgt := 12) dX10_withBit_1 rfl (fun e1 => ?_) (fun e1 => ?_)
  · refine am_iload_n dX10_withBit_12 rfl 0 rfl ?_
    refine am_iconst (v := 1) dX10_withBit_13 (by decide) ?_
    refine am_iload_n dX10_withBit_14 rfl 1 rfl ?_
    refine am_ishl dX10_withBit_15 ?_
    refine am_iconst (v := -1) dX10_withBit_16 (by decide) ?_
    refine am_ixor dX10_withBit_17 ?_
    refine am_iand dX10_withBit_18 ?_
    exact am_iret dX10_withBit_19 rfl rfl
  · refine am_iload_n dX10_withBit_4 rfl 0 rfl ?_
    refine am_iconst (v := 1) dX10_withBit_5 (by decide) ?_
    refine am_iload_n dX10_withBit_6 rfl 1 rfl ?_
    refine am_ishl dX10_withBit_7 ?_
    refine am_ior dX10_withBit_8 ?_
    refine am_goto (tgt := 19) dX10_withBit_9 rfl ?_
    exact am_iret dX10_withBit_19 rfl rfl
abbrev kX10_setInitial : am_K := (cX10_setInitial, 4, RX10, wsX10_setInitial, some .int, { frames := 1, cells := 0, slots := 0, locals := 22 })
theorem hX10_setInitial : am_cl yX10_setInitial kX10_setInitial 2 := ⟨⟨_, rfl⟩, rfl, rfl, by decide +kernel, by decide +kernel, by decide +kernel⟩
theorem iX10_setInitial_10 : ∀ w ∈ u_ws RX10 TX10 18, w ∈ wsX10_setInitial := by decide +kernel
theorem fX10_setInitial_12 : Cond.fieldLink RX10 12 "AmbiguityAnalyzer" "automaton" "LAmbiguityAnalyzer$Automaton;" ∈ wsX10_setInitial := by decide +kernel
theorem iX10_setInitial_0 : ∀ w ∈ u_ws RX0 TX0 4, w ∈ wsX10_setInitial := by decide +kernel
theorem fX10_setInitial_118 : Cond.fieldLink RX10 118 "AmbiguityAnalyzer$Automaton" "initials" "I" ∈ wsX10_setInitial := by decide +kernel
set_option maxRecDepth 100000 in
set_option maxHeartbeats 4000000 in
theorem tX10_setInitial {Z : am_Z} (R : am_R) (I : am_I) (L : am_L) (a0 : Nat) (x1 : Int32) (x2 : Int32) (h_a0 : am_G Z a0 = some (.inl 10)) : am_M Z yX10_setInitial kX10_setInitial [.ref (am_B Z + a0), .int x1, .int x2] R I L (pX10_setInitial R I a0 x1 x2) (fun r : Int32 × am_I => (some (.int r.1), R, r.2, L)) := by
  refine am_entry (ls := [(0, .ref (am_B Z + a0)), (1, .int x1), (2, .int x2)]) (by decide) hX10_setInitial rfl (Nat.le_of_ble_eq_true rfl) rfl (fun X => ?_)
  unfold pX10_setInitial
  refine am_aload_n dX10_setInitial_0 rfl 0 rfl ?_
  refine am_getR 10 0 clX10 (Nat.le_of_ble_eq_true rfl) h_a0 iX10_setInitial_10 fX10_setInitial_12 rfl rfl dX10_setInitial_1 (fun h1 => ?_)
  refine am_iload_n dX10_setInitial_4 rfl 1 rfl ?_
  refine am_callV [.int x1] (tX0_hasState R I L (R a0 0) x1 h1) h1 clX0 gX10_setInitial_X0_hasState hX0_hasState rfl ⟨Nat.le_of_ble_eq_true rfl, Nat.le_of_ble_eq_true rfl⟩ rfl rfl (Nat.le_of_ble_eq_true rfl) dX10_setInitial_5 (fun r2 => ?_)
  show am_V Z X kX10_setInitial (fun r : Int32 × am_I => (some (.int r.1), R, r.2, L)) 8 [(0, .ref (am_B Z + a0)), (1, .int x1), (2, .int x2)] [.int r2] R I L _
  refine am_if_ne (tgt := 13) dX10_setInitial_8 rfl (fun e3 => ?_) (fun e3 => ?_)
  · refine am_aload_n dX10_setInitial_13 rfl 0 rfl ?_
    refine am_getR 10 0 clX10 (Nat.le_of_ble_eq_true rfl) h_a0 iX10_setInitial_10 fX10_setInitial_12 rfl rfl dX10_setInitial_14 (fun h4 => ?_)
    refine am_get 0 1 clX0 (Nat.le_of_ble_eq_true rfl) h4 iX10_setInitial_0 fX10_setInitial_118 rfl dX10_setInitial_17 ?_
    refine am_iload_n dX10_setInitial_20 rfl 1 rfl ?_
    refine am_ishr dX10_setInitial_21 ?_
    refine am_iconst (v := 1) dX10_setInitial_22 (by decide) ?_
    refine am_iand dX10_setInitial_23 ?_
    refine am_letTi (fun v5 => ?_)
    refine am_istore_n (ls' := [(3, .int v5), (0, .ref (am_B Z + a0)), (1, .int x1), (2, .int x2)]) dX10_setInitial_24 rfl (Nat.le_of_ble_eq_true rfl) rfl ?_
    refine am_aload_n dX10_setInitial_25 rfl 1 rfl ?_
    refine am_getR 10 0 clX10 (Nat.le_of_ble_eq_true rfl) h_a0 iX10_setInitial_10 fX10_setInitial_12 rfl rfl dX10_setInitial_26 (fun h6 => ?_)
    refine am_aload_n dX10_setInitial_29 rfl 1 rfl ?_
    refine am_getR 10 0 clX10 (Nat.le_of_ble_eq_true rfl) h_a0 iX10_setInitial_10 fX10_setInitial_12 rfl rfl dX10_setInitial_30 (fun h7 => ?_)
    refine am_get 0 1 clX0 (Nat.le_of_ble_eq_true rfl) h7 iX10_setInitial_0 fX10_setInitial_118 rfl dX10_setInitial_33 ?_
    refine am_iload_n dX10_setInitial_36 rfl 2 rfl ?_
    refine am_iload_n dX10_setInitial_37 rfl 3 rfl ?_
    refine am_callS [.int (I (R a0 0) 1), .int x1, .int x2] (tX10_withBit R I L (I (R a0 0) 1) x1 x2) gX10_setInitial_X10_withBit hX10_withBit ⟨Nat.le_of_ble_eq_true rfl, Nat.le_of_ble_eq_true rfl⟩ rfl rfl (Nat.le_of_ble_eq_true rfl) dX10_setInitial_38 (fun r8 => ?_)
    show am_V Z X kX10_setInitial (fun r : Int32 × am_I => (some (.int r.1), R, r.2, L)) 41 [(3, .int v5), (0, .ref (am_B Z + a0)), (1, .int x1), (2, .int x2)] [.int r8, .ref (am_B Z + (R a0 0))] R I L _
    refine am_putI 0 1 clX0 (Nat.le_of_ble_eq_true rfl) h6 iX10_setInitial_0 fX10_setInitial_118 rfl rfl dX10_setInitial_41 ?_
    refine am_letI (fun J9 => ?_)
    refine am_iload_n dX10_setInitial_44 rfl 0 rfl ?_
    exact am_iret dX10_setInitial_45 rfl rfl
  · refine am_iconst (v := -1) dX10_setInitial_11 (by decide) ?_
    exact am_iret dX10_setInitial_12 rfl rfl
abbrev kX10_setFinal : am_K := (cX10_setFinal, 4, RX10, wsX10_setFinal, some .int, { frames := 1, cells := 0, slots := 0, locals := 22 })
theorem hX10_setFinal : am_cl yX10_setFinal kX10_setFinal 2 := ⟨⟨_, rfl⟩, rfl, rfl, by decide +kernel, by decide +kernel, by decide +kernel⟩
theorem iX10_setFinal_10 : ∀ w ∈ u_ws RX10 TX10 18, w ∈ wsX10_setFinal := by decide +kernel
theorem fX10_setFinal_12 : Cond.fieldLink RX10 12 "AmbiguityAnalyzer" "automaton" "LAmbiguityAnalyzer$Automaton;" ∈ wsX10_setFinal := by decide +kernel
theorem iX10_setFinal_0 : ∀ w ∈ u_ws RX0 TX0 4, w ∈ wsX10_setFinal := by decide +kernel
theorem fX10_setFinal_125 : Cond.fieldLink RX10 125 "AmbiguityAnalyzer$Automaton" "finals" "I" ∈ wsX10_setFinal := by decide +kernel
set_option maxRecDepth 100000 in
set_option maxHeartbeats 4000000 in
theorem tX10_setFinal {Z : am_Z} (R : am_R) (I : am_I) (L : am_L) (a0 : Nat) (x1 : Int32) (x2 : Int32) (h_a0 : am_G Z a0 = some (.inl 10)) : am_M Z yX10_setFinal kX10_setFinal [.ref (am_B Z + a0), .int x1, .int x2] R I L (pX10_setFinal R I a0 x1 x2) (fun r : Int32 × am_I => (some (.int r.1), R, r.2, L)) := by
  refine am_entry (ls := [(0, .ref (am_B Z + a0)), (1, .int x1), (2, .int x2)]) (by decide) hX10_setFinal rfl (Nat.le_of_ble_eq_true rfl) rfl (fun X => ?_)
  unfold pX10_setFinal
  refine am_aload_n dX10_setFinal_0 rfl 0 rfl ?_
  refine am_getR 10 0 clX10 (Nat.le_of_ble_eq_true rfl) h_a0 iX10_setFinal_10 fX10_setFinal_12 rfl rfl dX10_setFinal_1 (fun h1 => ?_)
  refine am_iload_n dX10_setFinal_4 rfl 1 rfl ?_
  refine am_callV [.int x1] (tX0_hasState R I L (R a0 0) x1 h1) h1 clX0 gX10_setFinal_X0_hasState hX0_hasState rfl ⟨Nat.le_of_ble_eq_true rfl, Nat.le_of_ble_eq_true rfl⟩ rfl rfl (Nat.le_of_ble_eq_true rfl) dX10_setFinal_5 (fun r2 => ?_)
  show am_V Z X kX10_setFinal (fun r : Int32 × am_I => (some (.int r.1), R, r.2, L)) 8 [(0, .ref (am_B Z + a0)), (1, .int x1), (2, .int x2)] [.int r2] R I L _
  refine am_if_ne (tgt := 13) dX10_setFinal_8 rfl (fun e3 => ?_) (fun e3 => ?_)
  · refine am_aload_n dX10_setFinal_13 rfl 0 rfl ?_
    refine am_getR 10 0 clX10 (Nat.le_of_ble_eq_true rfl) h_a0 iX10_setFinal_10 fX10_setFinal_12 rfl rfl dX10_setFinal_14 (fun h4 => ?_)
    refine am_get 0 2 clX0 (Nat.le_of_ble_eq_true rfl) h4 iX10_setFinal_0 fX10_setFinal_125 rfl dX10_setFinal_17 ?_
    refine am_iload_n dX10_setFinal_20 rfl 1 rfl ?_
    refine am_ishr dX10_setFinal_21 ?_
    refine am_iconst (v := 1) dX10_setFinal_22 (by decide) ?_
    refine am_iand dX10_setFinal_23 ?_
    refine am_letTi (fun v5 => ?_)
    refine am_istore_n (ls' := [(3, .int v5), (0, .ref (am_B Z + a0)), (1, .int x1), (2, .int x2)]) dX10_setFinal_24 rfl (Nat.le_of_ble_eq_true rfl) rfl ?_
    refine am_aload_n dX10_setFinal_25 rfl 1 rfl ?_
    refine am_getR 10 0 clX10 (Nat.le_of_ble_eq_true rfl) h_a0 iX10_setFinal_10 fX10_setFinal_12 rfl rfl dX10_setFinal_26 (fun h6 => ?_)
    refine am_aload_n dX10_setFinal_29 rfl 1 rfl ?_
    refine am_getR 10 0 clX10 (Nat.le_of_ble_eq_true rfl) h_a0 iX10_setFinal_10 fX10_setFinal_12 rfl rfl dX10_setFinal_30 (fun h7 => ?_)
    refine am_get 0 2 clX0 (Nat.le_of_ble_eq_true rfl) h7 iX10_setFinal_0 fX10_setFinal_125 rfl dX10_setFinal_33 ?_
    refine am_iload_n dX10_setFinal_36 rfl 2 rfl ?_
    refine am_iload_n dX10_setFinal_37 rfl 3 rfl ?_
    refine am_callS [.int (I (R a0 0) 2), .int x1, .int x2] (tX10_withBit R I L (I (R a0 0) 2) x1 x2) gX10_setFinal_X10_withBit hX10_withBit ⟨Nat.le_of_ble_eq_true rfl, Nat.le_of_ble_eq_true rfl⟩ rfl rfl (Nat.le_of_ble_eq_true rfl) dX10_setFinal_38 (fun r8 => ?_)
    show am_V Z X kX10_setFinal (fun r : Int32 × am_I => (some (.int r.1), R, r.2, L)) 41 [(3, .int v5), (0, .ref (am_B Z + a0)), (1, .int x1), (2, .int x2)] [.int r8, .ref (am_B Z + (R a0 0))] R I L _
    refine am_putI 0 2 clX0 (Nat.le_of_ble_eq_true rfl) h6 iX10_setFinal_0 fX10_setFinal_125 rfl rfl dX10_setFinal_41 ?_
    refine am_letI (fun J9 => ?_)
    refine am_iload_n dX10_setFinal_44 rfl 0 rfl ?_
    exact am_iret dX10_setFinal_45 rfl rfl
  · refine am_iconst (v := -1) dX10_setFinal_11 (by decide) ?_
    exact am_iret dX10_setFinal_12 rfl rfl
abbrev kX10_initialStates : am_K := (cX10_initialStates, 1, RX10, wsX10_initialStates, some .int, { frames := 0, cells := 0, slots := 0, locals := 0 })
theorem hX10_initialStates : am_cl yX10_initialStates kX10_initialStates 0 := ⟨⟨_, rfl⟩, rfl, rfl, by decide +kernel, by decide +kernel, by decide +kernel⟩
theorem iX10_initialStates_10 : ∀ w ∈ u_ws RX10 TX10 18, w ∈ wsX10_initialStates := by decide +kernel
theorem fX10_initialStates_12 : Cond.fieldLink RX10 12 "AmbiguityAnalyzer" "automaton" "LAmbiguityAnalyzer$Automaton;" ∈ wsX10_initialStates := by decide +kernel
theorem iX10_initialStates_0 : ∀ w ∈ u_ws RX0 TX0 4, w ∈ wsX10_initialStates := by decide +kernel
theorem fX10_initialStates_118 : Cond.fieldLink RX10 118 "AmbiguityAnalyzer$Automaton" "initials" "I" ∈ wsX10_initialStates := by decide +kernel
set_option maxRecDepth 100000 in
set_option maxHeartbeats 4000000 in
theorem tX10_initialStates {Z : am_Z} (R : am_R) (I : am_I) (L : am_L) (a0 : Nat) (h_a0 : am_G Z a0 = some (.inl 10)) : am_M Z yX10_initialStates kX10_initialStates [.ref (am_B Z + a0)] R I L (pX10_initialStates R I a0) (fun r : Int32 => (some (.int r), R, I, L)) := by
  refine am_entry (ls := [(0, .ref (am_B Z + a0))]) (by decide) hX10_initialStates rfl (Nat.le_of_ble_eq_true rfl) rfl (fun X => ?_)
  unfold pX10_initialStates
  refine am_aload_n dX10_initialStates_0 rfl 0 rfl ?_
  refine am_getR 10 0 clX10 (Nat.le_of_ble_eq_true rfl) h_a0 iX10_initialStates_10 fX10_initialStates_12 rfl rfl dX10_initialStates_1 (fun h1 => ?_)
  refine am_get 0 1 clX0 (Nat.le_of_ble_eq_true rfl) h1 iX10_initialStates_0 fX10_initialStates_118 rfl dX10_initialStates_4 ?_
  exact am_iret dX10_initialStates_7 rfl rfl
abbrev kX10_finalStates : am_K := (cX10_finalStates, 1, RX10, wsX10_finalStates, some .int, { frames := 0, cells := 0, slots := 0, locals := 0 })
theorem hX10_finalStates : am_cl yX10_finalStates kX10_finalStates 0 := ⟨⟨_, rfl⟩, rfl, rfl, by decide +kernel, by decide +kernel, by decide +kernel⟩
theorem iX10_finalStates_10 : ∀ w ∈ u_ws RX10 TX10 18, w ∈ wsX10_finalStates := by decide +kernel
theorem fX10_finalStates_12 : Cond.fieldLink RX10 12 "AmbiguityAnalyzer" "automaton" "LAmbiguityAnalyzer$Automaton;" ∈ wsX10_finalStates := by decide +kernel
theorem iX10_finalStates_0 : ∀ w ∈ u_ws RX0 TX0 4, w ∈ wsX10_finalStates := by decide +kernel
theorem fX10_finalStates_125 : Cond.fieldLink RX10 125 "AmbiguityAnalyzer$Automaton" "finals" "I" ∈ wsX10_finalStates := by decide +kernel
set_option maxRecDepth 100000 in
set_option maxHeartbeats 4000000 in
theorem tX10_finalStates {Z : am_Z} (R : am_R) (I : am_I) (L : am_L) (a0 : Nat) (h_a0 : am_G Z a0 = some (.inl 10)) : am_M Z yX10_finalStates kX10_finalStates [.ref (am_B Z + a0)] R I L (pX10_finalStates R I a0) (fun r : Int32 => (some (.int r), R, I, L)) := by
  refine am_entry (ls := [(0, .ref (am_B Z + a0))]) (by decide) hX10_finalStates rfl (Nat.le_of_ble_eq_true rfl) rfl (fun X => ?_)
  unfold pX10_finalStates
  refine am_aload_n dX10_finalStates_0 rfl 0 rfl ?_
  refine am_getR 10 0 clX10 (Nat.le_of_ble_eq_true rfl) h_a0 iX10_finalStates_10 fX10_finalStates_12 rfl rfl dX10_finalStates_1 (fun h1 => ?_)
  refine am_get 0 2 clX0 (Nat.le_of_ble_eq_true rfl) h1 iX10_finalStates_0 fX10_finalStates_125 rfl dX10_finalStates_4 ?_
  exact am_iret dX10_finalStates_7 rfl rfl
abbrev kX10_successors : am_K := (cX10_successors, 3, RX10, wsX10_successors, some .int, { frames := 1, cells := 0, slots := 0, locals := 23 })
theorem hX10_successors : am_cl yX10_successors kX10_successors 2 := ⟨⟨_, rfl⟩, rfl, rfl, by decide +kernel, by decide +kernel, by decide +kernel⟩
theorem iX10_successors_10 : ∀ w ∈ u_ws RX10 TX10 18, w ∈ wsX10_successors := by decide +kernel
theorem fX10_successors_12 : Cond.fieldLink RX10 12 "AmbiguityAnalyzer" "automaton" "LAmbiguityAnalyzer$Automaton;" ∈ wsX10_successors := by decide +kernel
set_option maxRecDepth 100000 in
set_option maxHeartbeats 4000000 in
theorem tX10_successors {Z : am_Z} (R : am_R) (I : am_I) (L : am_L) (a0 : Nat) (x1 : Int32) (x2 : Int32) (h_a0 : am_G Z a0 = some (.inl 10)) : am_M Z yX10_successors kX10_successors [.ref (am_B Z + a0), .int x1, .int x2] R I L (pX10_successors R I a0 x1 x2) (fun r : Int32 => (some (.int r), R, I, L)) := by
  refine am_entry (ls := [(0, .ref (am_B Z + a0)), (1, .int x1), (2, .int x2)]) (by decide) hX10_successors rfl (Nat.le_of_ble_eq_true rfl) rfl (fun X => ?_)
  unfold pX10_successors
  refine am_aload_n dX10_successors_0 rfl 0 rfl ?_
  refine am_getR 10 0 clX10 (Nat.le_of_ble_eq_true rfl) h_a0 iX10_successors_10 fX10_successors_12 rfl rfl dX10_successors_1 (fun h1 => ?_)
  refine am_iload_n dX10_successors_4 rfl 1 rfl ?_
  refine am_callV [.int x1] (tX0_hasState R I L (R a0 0) x1 h1) h1 clX0 gX10_successors_X0_hasState hX0_hasState rfl ⟨Nat.le_of_ble_eq_true rfl, Nat.le_of_ble_eq_true rfl⟩ rfl rfl (Nat.le_of_ble_eq_true rfl) dX10_successors_5 (fun r2 => ?_)
  show am_V Z X kX10_successors (fun r : Int32 => (some (.int r), R, I, L)) 8 [(0, .ref (am_B Z + a0)), (1, .int x1), (2, .int x2)] [.int r2] R I L _
  refine am_if_eq (tgt := 18) dX10_successors_8 rfl (fun e3 => ?_) (fun e3 => ?_)
  · refine am_iconst (v := -1) dX10_successors_18 (by decide) ?_
    exact am_iret dX10_successors_19 rfl rfl
  · refine am_iload_n dX10_successors_11 rfl 2 rfl ?_
    refine am_callS [.int x2] (tX10_isLetter R I L x2) gX10_successors_X10_isLetter hX10_isLetter ⟨Nat.le_of_ble_eq_true rfl, Nat.le_of_ble_eq_true rfl⟩ rfl rfl (Nat.le_of_ble_eq_true rfl) dX10_successors_12 (fun r4 => ?_)
    show am_V Z X kX10_successors (fun r : Int32 => (some (.int r), R, I, L)) 15 [(0, .ref (am_B Z + a0)), (1, .int x1), (2, .int x2)] [.int r4] R I L _
    refine am_if_ne (tgt := 20) dX10_successors_15 rfl (fun e5 => ?_) (fun e5 => ?_)
    · refine am_aload_n dX10_successors_20 rfl 0 rfl ?_
      refine am_getR 10 0 clX10 (Nat.le_of_ble_eq_true rfl) h_a0 iX10_successors_10 fX10_successors_12 rfl rfl dX10_successors_21 (fun h6 => ?_)
      refine am_iload_n dX10_successors_24 rfl 1 rfl ?_
      refine am_iload_n dX10_successors_25 rfl 2 rfl ?_
      refine am_callV [.int x1, .int x2] (tX0_targetsOf R I L (R a0 0) x1 x2 h6) h6 clX0 gX10_successors_X0_targetsOf hX0_targetsOf rfl ⟨Nat.le_of_ble_eq_true rfl, Nat.le_of_ble_eq_true rfl⟩ rfl rfl (Nat.le_of_ble_eq_true rfl) dX10_successors_26 (fun r7 => ?_)
      show am_V Z X kX10_successors (fun r : Int32 => (some (.int r), R, I, L)) 29 [(0, .ref (am_B Z + a0)), (1, .int x1), (2, .int x2)] [.int r7] R I L _
      exact am_iret dX10_successors_29 rfl rfl
    · refine am_iconst (v := -1) dX10_successors_18 (by decide) ?_
      exact am_iret dX10_successors_19 rfl rfl
abbrev kX10_usefulStates : am_K := (cX10_usefulStates, 1, RX10, wsX10_usefulStates, some .int, { frames := 4, cells := 0, slots := 0, locals := 90 })
theorem hX10_usefulStates : am_cl yX10_usefulStates kX10_usefulStates 0 := ⟨⟨_, rfl⟩, rfl, rfl, by decide +kernel, by decide +kernel, by decide +kernel⟩
theorem iX10_usefulStates_10 : ∀ w ∈ u_ws RX10 TX10 18, w ∈ wsX10_usefulStates := by decide +kernel
theorem fX10_usefulStates_12 : Cond.fieldLink RX10 12 "AmbiguityAnalyzer" "automaton" "LAmbiguityAnalyzer$Automaton;" ∈ wsX10_usefulStates := by decide +kernel
set_option maxRecDepth 100000 in
set_option maxHeartbeats 4000000 in
theorem tX10_usefulStates {Z : am_Z} (R : am_R) (I : am_I) (L : am_L) (a0 : Nat) (h_a0 : am_G Z a0 = some (.inl 10)) : am_M Z yX10_usefulStates kX10_usefulStates [.ref (am_B Z + a0)] R I L (pX10_usefulStates R I a0) (fun r : Int32 => (some (.int r), R, I, L)) := by
  refine am_entry (ls := [(0, .ref (am_B Z + a0))]) (by decide) hX10_usefulStates rfl (Nat.le_of_ble_eq_true rfl) rfl (fun X => ?_)
  unfold pX10_usefulStates
  refine am_aload_n dX10_usefulStates_0 rfl 0 rfl ?_
  refine am_getR 10 0 clX10 (Nat.le_of_ble_eq_true rfl) h_a0 iX10_usefulStates_10 fX10_usefulStates_12 rfl rfl dX10_usefulStates_1 (fun h1 => ?_)
  refine am_callV [] (tX0_usefulSet R I L (R a0 0) h1) h1 clX0 gX10_usefulStates_X0_usefulSet hX0_usefulSet rfl ⟨Nat.le_of_ble_eq_true rfl, Nat.le_of_ble_eq_true rfl⟩ rfl rfl (Nat.le_of_ble_eq_true rfl) dX10_usefulStates_4 (fun r2 => ?_)
  show am_V Z X kX10_usefulStates (fun r : Int32 => (some (.int r), R, I, L)) 7 [(0, .ref (am_B Z + a0))] [.int r2] R I L _
  exact am_iret dX10_usefulStates_7 rfl rfl
abbrev kX10_trim : am_K := (cX10_trim, 2, RX10, wsX10_trim, some .int, { frames := 4, cells := 0, slots := 0, locals := 92 })
theorem hX10_trim : am_cl yX10_trim kX10_trim 0 := ⟨⟨_, rfl⟩, rfl, rfl, by decide +kernel, by decide +kernel, by decide +kernel⟩
theorem iX10_trim_10 : ∀ w ∈ u_ws RX10 TX10 18, w ∈ wsX10_trim := by decide +kernel
theorem fX10_trim_12 : Cond.fieldLink RX10 12 "AmbiguityAnalyzer" "automaton" "LAmbiguityAnalyzer$Automaton;" ∈ wsX10_trim := by decide +kernel
theorem iX10_trim_0 : ∀ w ∈ u_ws RX0 TX0 4, w ∈ wsX10_trim := by decide +kernel
theorem fX10_trim_92 : Cond.fieldLink RX10 92 "AmbiguityAnalyzer$Automaton" "states" "I" ∈ wsX10_trim := by decide +kernel
set_option maxRecDepth 100000 in
set_option maxHeartbeats 4000000 in
theorem tX10_trim {Z : am_Z} (R : am_R) (I : am_I) (L : am_L) (a0 : Nat) (h_a0 : am_G Z a0 = some (.inl 10)) : am_M Z yX10_trim kX10_trim [.ref (am_B Z + a0)] R I L (pX10_trim R I a0) (fun r : Int32 × am_I => (some (.int r.1), R, r.2, L)) := by
  refine am_entry (ls := [(0, .ref (am_B Z + a0))]) (by decide) hX10_trim rfl (Nat.le_of_ble_eq_true rfl) rfl (fun X => ?_)
  unfold pX10_trim
  refine am_aload_n dX10_trim_0 rfl 0 rfl ?_
  refine am_getR 10 0 clX10 (Nat.le_of_ble_eq_true rfl) h_a0 iX10_trim_10 fX10_trim_12 rfl rfl dX10_trim_1 (fun h1 => ?_)
  refine am_callV [] (tX0_usefulSet R I L (R a0 0) h1) h1 clX0 gX10_trim_X0_usefulSet hX0_usefulSet rfl ⟨Nat.le_of_ble_eq_true rfl, Nat.le_of_ble_eq_true rfl⟩ rfl rfl (Nat.le_of_ble_eq_true rfl) dX10_trim_4 (fun r2 => ?_)
  show am_V Z X kX10_trim (fun r : Int32 × am_I => (some (.int r.1), R, r.2, L)) 7 [(0, .ref (am_B Z + a0))] [.int r2] R I L _
  refine am_istore_n (ls' := [(1, .int r2), (0, .ref (am_B Z + a0))]) dX10_trim_7 rfl (Nat.le_of_ble_eq_true rfl) rfl ?_
  refine am_iload_n dX10_trim_8 rfl 0 rfl ?_
  refine am_if_ne (tgt := 23) dX10_trim_9 rfl (fun e3 => ?_) (fun e3 => ?_)
  · refine am_aload_n dX10_trim_23 rfl 1 rfl ?_
    refine am_getR 10 0 clX10 (Nat.le_of_ble_eq_true rfl) h_a0 iX10_trim_10 fX10_trim_12 rfl rfl dX10_trim_24 (fun h4 => ?_)
    refine am_iload_n dX10_trim_27 rfl 0 rfl ?_
    refine am_callV [.int r2] (tX0_keepOnly R I L (R a0 0) r2 h4) h4 clX0 gX10_trim_X0_keepOnly hX0_keepOnly rfl ⟨Nat.le_of_ble_eq_true rfl, Nat.le_of_ble_eq_true rfl⟩ rfl rfl (Nat.le_of_ble_eq_true rfl) dX10_trim_28 (fun r5 => ?_)
    show am_V Z X kX10_trim (fun r : Int32 × am_I => (some (.int r.1), R, r.2, L)) 31 [(1, .int r2), (0, .ref (am_B Z + a0))] [] R r5 L _
    refine am_aload_n dX10_trim_31 rfl 1 rfl ?_
    refine am_getR 10 0 clX10 (Nat.le_of_ble_eq_true rfl) h_a0 iX10_trim_10 fX10_trim_12 rfl rfl dX10_trim_32 (fun h6 => ?_)
    refine am_get 0 0 clX0 (Nat.le_of_ble_eq_true rfl) h6 iX10_trim_0 fX10_trim_92 rfl dX10_trim_35 ?_
    exact am_iret dX10_trim_38 rfl rfl
  · refine am_aload_n dX10_trim_12 rfl 1 rfl ?_
    refine am_getR 10 0 clX10 (Nat.le_of_ble_eq_true rfl) h_a0 iX10_trim_10 fX10_trim_12 rfl rfl dX10_trim_13 (fun h7 => ?_)
    refine am_iconst (v := 1) dX10_trim_16 (by decide) ?_
    refine am_callV [.int (1 : Int32)] (tX0_clear R I L (R a0 0) (1 : Int32) h7) h7 clX0 gX10_trim_X0_clear hX0_clear rfl ⟨Nat.le_of_ble_eq_true rfl, Nat.le_of_ble_eq_true rfl⟩ rfl rfl (Nat.le_of_ble_eq_true rfl) dX10_trim_17 (fun r8 => ?_)
    show am_V Z X kX10_trim (fun r : Int32 × am_I => (some (.int r.1), R, r.2, L)) 20 [(1, .int r2), (0, .ref (am_B Z + a0))] [] R r8 L _
    refine am_goto (tgt := 31) dX10_trim_20 rfl ?_
    refine am_aload_n dX10_trim_31 rfl 1 rfl ?_
    refine am_getR 10 0 clX10 (Nat.le_of_ble_eq_true rfl) h_a0 iX10_trim_10 fX10_trim_12 rfl rfl dX10_trim_32 (fun h9 => ?_)
    refine am_get 0 0 clX0 (Nat.le_of_ble_eq_true rfl) h9 iX10_trim_0 fX10_trim_92 rfl dX10_trim_35 ?_
    exact am_iret dX10_trim_38 rfl rfl
abbrev kX10_randomize : am_K := (cX10_randomize, 3, RX10, wsX10_randomize, some .int, { frames := 4, cells := 0, slots := 0, locals := 94 })
theorem hX10_randomize : am_cl yX10_randomize kX10_randomize 2 := ⟨⟨_, rfl⟩, rfl, rfl, by decide +kernel, by decide +kernel, by decide +kernel⟩
theorem iX10_randomize_10 : ∀ w ∈ u_ws RX10 TX10 18, w ∈ wsX10_randomize := by decide +kernel
theorem fX10_randomize_12 : Cond.fieldLink RX10 12 "AmbiguityAnalyzer" "automaton" "LAmbiguityAnalyzer$Automaton;" ∈ wsX10_randomize := by decide +kernel
set_option maxRecDepth 100000 in
set_option maxHeartbeats 4000000 in
theorem tX10_randomize {Z : am_Z} (R : am_R) (I : am_I) (L : am_L) (a0 : Nat) (x1 : Int32) (x2 : Int32) (h_a0 : am_G Z a0 = some (.inl 10)) : am_M Z yX10_randomize kX10_randomize [.ref (am_B Z + a0), .int x1, .int x2] R I L (pX10_randomize R I a0 x1 x2) (fun r : Int32 × am_I => (some (.int r.1), R, r.2, L)) := by
  refine am_entry (ls := [(0, .ref (am_B Z + a0)), (1, .int x1), (2, .int x2)]) (by decide) hX10_randomize rfl (Nat.le_of_ble_eq_true rfl) rfl (fun X => ?_)
  unfold pX10_randomize
  refine am_iload_n dX10_randomize_0 rfl 2 rfl ?_
  refine am_if_lt (tgt := 10) dX10_randomize_1 rfl (fun e1 => ?_) (fun e1 => ?_)
  · refine am_bipush (v := -2) dX10_randomize_10 (by decide) ?_
    exact am_iret dX10_randomize_12 rfl rfl
  · refine am_iload_n dX10_randomize_4 rfl 2 rfl ?_
    refine am_bipush (v := 20) dX10_randomize_5 (by decide) ?_
    refine am_icmp_le (tgt := 13) dX10_randomize_7 rfl (fun e2 => ?_) (fun e2 => ?_)
    · refine am_aload_n dX10_randomize_13 rfl 0 rfl ?_
      refine am_getR 10 0 clX10 (Nat.le_of_ble_eq_true rfl) h_a0 iX10_randomize_10 fX10_randomize_12 rfl rfl dX10_randomize_14 (fun h3 => ?_)
      refine am_iload_n dX10_randomize_17 rfl 1 rfl ?_
      refine am_iload_n dX10_randomize_18 rfl 2 rfl ?_
      refine am_callV [.int x1, .int x2] (tX0_addRandom R I L (R a0 0) x1 x2 h3) h3 clX0 gX10_randomize_X0_addRandom hX0_addRandom rfl ⟨Nat.le_of_ble_eq_true rfl, Nat.le_of_ble_eq_true rfl⟩ rfl rfl (Nat.le_of_ble_eq_true rfl) dX10_randomize_19 (fun r4 => ?_)
      show am_V Z X kX10_randomize (fun r : Int32 × am_I => (some (.int r.1), R, r.2, L)) 22 [(0, .ref (am_B Z + a0)), (1, .int x1), (2, .int x2)] [] R r4 L _
      refine am_aload_n dX10_randomize_22 rfl 0 rfl ?_
      refine am_getR 10 0 clX10 (Nat.le_of_ble_eq_true rfl) h_a0 iX10_randomize_10 fX10_randomize_12 rfl rfl dX10_randomize_23 (fun h5 => ?_)
      refine am_callV [] (tX0_countTransitions R r4 L (R a0 0) h5) h5 clX0 gX10_randomize_X0_countTransitions hX0_countTransitions rfl ⟨Nat.le_of_ble_eq_true rfl, Nat.le_of_ble_eq_true rfl⟩ rfl rfl (Nat.le_of_ble_eq_true rfl) dX10_randomize_26 (fun r6 => ?_)
      show am_V Z X kX10_randomize (fun r : Int32 × am_I => (some (.int r.1), R, r.2, L)) 29 [(0, .ref (am_B Z + a0)), (1, .int x1), (2, .int x2)] [.int r6] R r4 L _
      exact am_iret dX10_randomize_29 rfl rfl
    · refine am_bipush (v := -2) dX10_randomize_10 (by decide) ?_
      exact am_iret dX10_randomize_12 rfl rfl
abbrev kX10_append : am_K := (cX10_append, 2, RX10, wsX10_append, some .int, { frames := 1, cells := 0, slots := 0, locals := 21 })
theorem hX10_append : am_cl yX10_append kX10_append 1 := ⟨⟨_, rfl⟩, rfl, rfl, by decide +kernel, by decide +kernel, by decide +kernel⟩
theorem iX10_append_10 : ∀ w ∈ u_ws RX10 TX10 18, w ∈ wsX10_append := by decide +kernel
theorem fX10_append_29 : Cond.fieldLink RX10 29 "AmbiguityAnalyzer" "text" "LAmbiguityAnalyzer$Text;" ∈ wsX10_append := by decide +kernel
theorem iX10_append_7 : ∀ w ∈ u_ws RX7 TX7 2, w ∈ wsX10_append := by decide +kernel
theorem fX10_append_147 : Cond.fieldLink RX10 147 "AmbiguityAnalyzer$Text" "length" "I" ∈ wsX10_append := by decide +kernel
set_option maxRecDepth 100000 in
set_option maxHeartbeats 4000000 in
theorem tX10_append {Z : am_Z} (R : am_R) (I : am_I) (L : am_L) (a0 : Nat) (x1 : Int32) (h_a0 : am_G Z a0 = some (.inl 10)) : am_M Z yX10_append kX10_append [.ref (am_B Z + a0), .int x1] R I L (pX10_append R I a0 x1) (fun r : Int32 × am_I => (some (.int r.1), R, r.2, L)) := by
  refine am_entry (ls := [(0, .ref (am_B Z + a0)), (1, .int x1)]) (by decide) hX10_append rfl (Nat.le_of_ble_eq_true rfl) rfl (fun X => ?_)
  unfold pX10_append
  refine am_iload_n dX10_append_0 rfl 1 rfl ?_
  refine am_bipush (v := 32) dX10_append_1 (by decide) ?_
  refine am_icmp_lt (tgt := 12) dX10_append_3 rfl (fun e1 => ?_) (fun e1 => ?_)
  · refine am_bipush (v := -2) dX10_append_12 (by decide) ?_
    exact am_iret dX10_append_14 rfl rfl
  · refine am_iload_n dX10_append_6 rfl 1 rfl ?_
    refine am_bipush (v := 126) dX10_append_7 (by decide) ?_
    refine am_icmp_le (tgt := 15) dX10_append_9 rfl (fun e2 => ?_) (fun e2 => ?_)
    · refine am_aload_n dX10_append_15 rfl 0 rfl ?_
      refine am_getR 10 5 clX10 (Nat.le_of_ble_eq_true rfl) h_a0 iX10_append_10 fX10_append_29 rfl rfl dX10_append_16 (fun h3 => ?_)
      refine am_iload_n dX10_append_19 rfl 1 rfl ?_
      refine am_callV [.int x1] (tX7_add R I L (R a0 5) x1 h3) h3 clX7 gX10_append_X7_add hX7_add rfl ⟨Nat.le_of_ble_eq_true rfl, Nat.le_of_ble_eq_true rfl⟩ rfl rfl (Nat.le_of_ble_eq_true rfl) dX10_append_20 (fun r4 => ?_)
      show am_V Z X kX10_append (fun r : Int32 × am_I => (some (.int r.1), R, r.2, L)) 23 [(0, .ref (am_B Z + a0)), (1, .int x1)] [.int r4.1] R r4.2 L _
      refine am_if_eq (tgt := 36) dX10_append_23 rfl (fun e5 => ?_) (fun e5 => ?_)
      · refine am_bipush (v := -3) dX10_append_36 (by decide) ?_
        exact am_iret dX10_append_38 rfl rfl
      · refine am_aload_n dX10_append_26 rfl 0 rfl ?_
        refine am_getR 10 5 clX10 (Nat.le_of_ble_eq_true rfl) h_a0 iX10_append_10 fX10_append_29 rfl rfl dX10_append_27 (fun h6 => ?_)
        refine am_get 7 0 clX7 (Nat.le_of_ble_eq_true rfl) h6 iX10_append_7 fX10_append_147 rfl dX10_append_30 ?_
        refine am_goto (tgt := 38) dX10_append_33 rfl ?_
        exact am_iret dX10_append_38 rfl rfl
    · refine am_bipush (v := -2) dX10_append_12 (by decide) ?_
      exact am_iret dX10_append_14 rfl rfl
abbrev kX10_parse : am_K := (cX10_parse, 3, RX10, wsX10_parse, some .int, { frames := 5, cells := 0, slots := 0, locals := 115 })
theorem hX10_parse : am_cl yX10_parse kX10_parse 0 := ⟨⟨_, rfl⟩, rfl, rfl, by decide +kernel, by decide +kernel, by decide +kernel⟩
theorem iX10_parse_10 : ∀ w ∈ u_ws RX10 TX10 18, w ∈ wsX10_parse := by decide +kernel
theorem fX10_parse_29 : Cond.fieldLink RX10 29 "AmbiguityAnalyzer" "text" "LAmbiguityAnalyzer$Text;" ∈ wsX10_parse := by decide +kernel
theorem fX10_parse_12 : Cond.fieldLink RX10 12 "AmbiguityAnalyzer" "automaton" "LAmbiguityAnalyzer$Automaton;" ∈ wsX10_parse := by decide +kernel
theorem iX10_parse_0 : ∀ w ∈ u_ws RX0 TX0 4, w ∈ wsX10_parse := by decide +kernel
theorem fX10_parse_92 : Cond.fieldLink RX10 92 "AmbiguityAnalyzer$Automaton" "states" "I" ∈ wsX10_parse := by decide +kernel
theorem iX10_parse_7 : ∀ w ∈ u_ws RX7 TX7 2, w ∈ wsX10_parse := by decide +kernel
theorem fX10_parse_147 : Cond.fieldLink RX10 147 "AmbiguityAnalyzer$Text" "length" "I" ∈ wsX10_parse := by decide +kernel
set_option maxRecDepth 100000 in
set_option maxHeartbeats 4000000 in
theorem tX10_parse {Z : am_Z} (R : am_R) (I : am_I) (L : am_L) (a0 : Nat) (h_a0 : am_G Z a0 = some (.inl 10)) : am_M Z yX10_parse kX10_parse [.ref (am_B Z + a0)] R I L (pX10_parse R I a0) (fun r : Int32 × am_I => (some (.int r.1), R, r.2, L)) := by
  refine am_entry (ls := [(0, .ref (am_B Z + a0))]) (by decide) hX10_parse rfl (Nat.le_of_ble_eq_true rfl) rfl (fun X => ?_)
  unfold pX10_parse
  refine am_aload_n dX10_parse_0 rfl 0 rfl ?_
  refine am_getR 10 5 clX10 (Nat.le_of_ble_eq_true rfl) h_a0 iX10_parse_10 fX10_parse_29 rfl rfl dX10_parse_1 (fun h1 => ?_)
  refine am_aload_n dX10_parse_4 rfl 0 rfl ?_
  refine am_getR 10 0 clX10 (Nat.le_of_ble_eq_true rfl) h_a0 iX10_parse_10 fX10_parse_12 rfl rfl dX10_parse_5 (fun h2 => ?_)
  refine am_get 0 0 clX0 (Nat.le_of_ble_eq_true rfl) h2 iX10_parse_0 fX10_parse_92 rfl dX10_parse_8 ?_
  refine am_callV [.int (I (R a0 0) 0)] (tX7_errorPosition R I L (R a0 5) (I (R a0 0) 0) h1) h1 clX7 gX10_parse_X7_errorPosition hX7_errorPosition rfl ⟨Nat.le_of_ble_eq_true rfl, Nat.le_of_ble_eq_true rfl⟩ rfl rfl (Nat.le_of_ble_eq_true rfl) dX10_parse_11 (fun r3 => ?_)
  show am_V Z X kX10_parse (fun r : Int32 × am_I => (some (.int r.1), R, r.2, L)) 14 [(0, .ref (am_B Z + a0))] [.int r3] R I L _
  refine am_istore_n (ls' := [(1, .int r3), (0, .ref (am_B Z + a0))]) dX10_parse_14 rfl (Nat.le_of_ble_eq_true rfl) rfl ?_
  refine am_iload_n dX10_parse_15 rfl 0 rfl ?_
  refine am_iconst (v := -1) dX10_parse_16 (by decide) ?_
  refine am_jnV (fun j4 ej4 => ?_)
  have hj4 : ∀ (v5 : Int32) (J6 : am_I), am_V Z X kX10_parse (fun r : Int32 × am_I => (some (.int r.1), R, r.2, L)) 38 [(0, .ref (am_B Z + a0))] [.int v5] R J6 L (j4 v5 J6) := by
    subst ej4
    intro v5 J6
    show am_V Z X kX10_parse (fun r : Int32 × am_I => (some (.int r.1), R, r.2, L)) 38 [(0, .ref (am_B Z + a0))] [.int v5] R J6 L _
    refine am_istore_n (ls' := [(2, .int v5), (0, .ref (am_B Z + a0))]) dX10_parse_38 rfl (Nat.le_of_ble_eq_true rfl) rfl ?_
    refine am_aload_n dX10_parse_39 rfl 1 rfl ?_
    refine am_getR 10 5 clX10 (Nat.le_of_ble_eq_true rfl) h_a0 iX10_parse_10 fX10_parse_29 rfl rfl dX10_parse_40 (fun h7 => ?_)
    refine am_iconst (v := 0) dX10_parse_43 (by decide) ?_
    refine am_putI 7 0 clX7 (Nat.le_of_ble_eq_true rfl) h7 iX10_parse_7 fX10_parse_147 rfl rfl dX10_parse_44 ?_
    refine am_letI (fun J8 => ?_)
    refine am_iload_n dX10_parse_47 rfl 0 rfl ?_
    exact am_iret dX10_parse_48 rfl rfl
  refine am_icmp_ne (tgt := 34) dX10_parse_17 rfl (fun e9 => ?_) (fun e9 => ?_)
  · refine am_bipush (v := -100) dX10_parse_34 (by decide) ?_
    refine am_iload_n dX10_parse_36 rfl 0 rfl ?_
    refine am_isub dX10_parse_37 ?_
    refine am_sub (ls' := [(0, .ref (am_B Z + a0))]) [1] rfl ?_
    exact hj4 ((-100 : Int32) - r3) I
  · refine am_aload_n dX10_parse_20 rfl 1 rfl ?_
    refine am_getR 10 5 clX10 (Nat.le_of_ble_eq_true rfl) h_a0 iX10_parse_10 fX10_parse_29 rfl rfl dX10_parse_21 (fun h10 => ?_)
    refine am_aload_n dX10_parse_24 rfl 1 rfl ?_
    refine am_getR 10 0 clX10 (Nat.le_of_ble_eq_true rfl) h_a0 iX10_parse_10 fX10_parse_12 rfl rfl dX10_parse_25 (fun h11 => ?_)
    refine am_callV [.ref (am_B Z + (R a0 0))] (tX7_addItemsTo R I L (R a0 5) (R a0 0) h10 h11) h10 clX7 gX10_parse_X7_addItemsTo hX7_addItemsTo rfl ⟨Nat.le_of_ble_eq_true rfl, Nat.le_of_ble_eq_true rfl⟩ rfl rfl (Nat.le_of_ble_eq_true rfl) dX10_parse_28 (fun r12 => ?_)
    show am_V Z X kX10_parse (fun r : Int32 × am_I => (some (.int r.1), R, r.2, L)) 31 [(1, .int r3), (0, .ref (am_B Z + a0))] [.int r12.1] R r12.2 L _
    refine am_goto (tgt := 38) dX10_parse_31 rfl ?_
    refine am_sub (ls' := [(0, .ref (am_B Z + a0))]) [1] rfl ?_
    exact hj4 r12.1 r12.2
abbrev kX10_appendLetter : am_K := (cX10_appendLetter, 2, RX10, wsX10_appendLetter, some .int, { frames := 3, cells := 0, slots := 0, locals := 64 })
theorem hX10_appendLetter : am_cl yX10_appendLetter kX10_appendLetter 1 := ⟨⟨_, rfl⟩, rfl, rfl, by decide +kernel, by decide +kernel, by decide +kernel⟩
theorem iX10_appendLetter_10 : ∀ w ∈ u_ws RX10 TX10 18, w ∈ wsX10_appendLetter := by decide +kernel
theorem fX10_appendLetter_36 : Cond.fieldLink RX10 36 "AmbiguityAnalyzer" "word" "LAmbiguityAnalyzer$Word;" ∈ wsX10_appendLetter := by decide +kernel
theorem iX10_appendLetter_8 : ∀ w ∈ u_ws RX8 TX8 2, w ∈ wsX10_appendLetter := by decide +kernel
theorem fX10_appendLetter_158 : Cond.fieldLink RX10 158 "AmbiguityAnalyzer$Word" "length" "I" ∈ wsX10_appendLetter := by decide +kernel
set_option maxRecDepth 100000 in
set_option maxHeartbeats 4000000 in
theorem tX10_appendLetter {Z : am_Z} (R : am_R) (I : am_I) (L : am_L) (a0 : Nat) (x1 : Int32) (h_a0 : am_G Z a0 = some (.inl 10)) : am_M Z yX10_appendLetter kX10_appendLetter [.ref (am_B Z + a0), .int x1] R I L (pX10_appendLetter R I a0 x1) (fun r : Int32 × am_I => (some (.int r.1), R, r.2, L)) := by
  refine am_entry (ls := [(0, .ref (am_B Z + a0)), (1, .int x1)]) (by decide) hX10_appendLetter rfl (Nat.le_of_ble_eq_true rfl) rfl (fun X => ?_)
  unfold pX10_appendLetter
  refine am_iload_n dX10_appendLetter_0 rfl 1 rfl ?_
  refine am_callS [.int x1] (tX10_isLetter R I L x1) gX10_appendLetter_X10_isLetter hX10_isLetter ⟨Nat.le_of_ble_eq_true rfl, Nat.le_of_ble_eq_true rfl⟩ rfl rfl (Nat.le_of_ble_eq_true rfl) dX10_appendLetter_1 (fun r1 => ?_)
  show am_V Z X kX10_appendLetter (fun r : Int32 × am_I => (some (.int r.1), R, r.2, L)) 4 [(0, .ref (am_B Z + a0)), (1, .int x1)] [.int r1] R I L _
  refine am_if_ne (tgt := 9) dX10_appendLetter_4 rfl (fun e2 => ?_) (fun e2 => ?_)
  · refine am_aload_n dX10_appendLetter_9 rfl 0 rfl ?_
    refine am_getR 10 6 clX10 (Nat.le_of_ble_eq_true rfl) h_a0 iX10_appendLetter_10 fX10_appendLetter_36 rfl rfl dX10_appendLetter_10 (fun h3 => ?_)
    refine am_get 8 0 clX8 (Nat.le_of_ble_eq_true rfl) h3 iX10_appendLetter_8 fX10_appendLetter_158 rfl dX10_appendLetter_13 ?_
    refine am_bipush (v := 20) dX10_appendLetter_16 (by decide) ?_
    refine am_icmp_lt (tgt := 24) dX10_appendLetter_18 rfl (fun e4 => ?_) (fun e4 => ?_)
    · refine am_aload_n dX10_appendLetter_24 rfl 0 rfl ?_
      refine am_getR 10 6 clX10 (Nat.le_of_ble_eq_true rfl) h_a0 iX10_appendLetter_10 fX10_appendLetter_36 rfl rfl dX10_appendLetter_25 (fun h5 => ?_)
      refine am_iload_n dX10_appendLetter_28 rfl 1 rfl ?_
      refine am_callV [.int x1] (tX8_add R I L (R a0 6) x1 h5) h5 clX8 gX10_appendLetter_X8_add hX8_add rfl ⟨Nat.le_of_ble_eq_true rfl, Nat.le_of_ble_eq_true rfl⟩ rfl rfl (Nat.le_of_ble_eq_true rfl) dX10_appendLetter_29 (fun r6 => ?_)
      show am_V Z X kX10_appendLetter (fun r : Int32 × am_I => (some (.int r.1), R, r.2, L)) 32 [(0, .ref (am_B Z + a0)), (1, .int x1)] [] R r6 L _
      refine am_aload_n dX10_appendLetter_32 rfl 0 rfl ?_
      refine am_getR 10 6 clX10 (Nat.le_of_ble_eq_true rfl) h_a0 iX10_appendLetter_10 fX10_appendLetter_36 rfl rfl dX10_appendLetter_33 (fun h7 => ?_)
      refine am_get 8 0 clX8 (Nat.le_of_ble_eq_true rfl) h7 iX10_appendLetter_8 fX10_appendLetter_158 rfl dX10_appendLetter_36 ?_
      exact am_iret dX10_appendLetter_39 rfl rfl
    · refine am_bipush (v := -3) dX10_appendLetter_21 (by decide) ?_
      exact am_iret dX10_appendLetter_23 rfl rfl
  · refine am_iconst (v := -1) dX10_appendLetter_7 (by decide) ?_
    exact am_iret dX10_appendLetter_8 rfl rfl
abbrev kX10_clearWord : am_K := (cX10_clearWord, 2, RX10, wsX10_clearWord, some .int, { frames := 0, cells := 0, slots := 0, locals := 0 })
theorem hX10_clearWord : am_cl yX10_clearWord kX10_clearWord 0 := ⟨⟨_, rfl⟩, rfl, rfl, by decide +kernel, by decide +kernel, by decide +kernel⟩
theorem iX10_clearWord_10 : ∀ w ∈ u_ws RX10 TX10 18, w ∈ wsX10_clearWord := by decide +kernel
theorem fX10_clearWord_36 : Cond.fieldLink RX10 36 "AmbiguityAnalyzer" "word" "LAmbiguityAnalyzer$Word;" ∈ wsX10_clearWord := by decide +kernel
theorem iX10_clearWord_8 : ∀ w ∈ u_ws RX8 TX8 2, w ∈ wsX10_clearWord := by decide +kernel
theorem fX10_clearWord_158 : Cond.fieldLink RX10 158 "AmbiguityAnalyzer$Word" "length" "I" ∈ wsX10_clearWord := by decide +kernel
set_option maxRecDepth 100000 in
set_option maxHeartbeats 4000000 in
theorem tX10_clearWord {Z : am_Z} (R : am_R) (I : am_I) (L : am_L) (a0 : Nat) (h_a0 : am_G Z a0 = some (.inl 10)) : am_M Z yX10_clearWord kX10_clearWord [.ref (am_B Z + a0)] R I L (pX10_clearWord R I a0) (fun r : Int32 × am_I => (some (.int r.1), R, r.2, L)) := by
  refine am_entry (ls := [(0, .ref (am_B Z + a0))]) (by decide) hX10_clearWord rfl (Nat.le_of_ble_eq_true rfl) rfl (fun X => ?_)
  unfold pX10_clearWord
  refine am_aload_n dX10_clearWord_0 rfl 0 rfl ?_
  refine am_getR 10 6 clX10 (Nat.le_of_ble_eq_true rfl) h_a0 iX10_clearWord_10 fX10_clearWord_36 rfl rfl dX10_clearWord_1 (fun h1 => ?_)
  refine am_get 8 0 clX8 (Nat.le_of_ble_eq_true rfl) h1 iX10_clearWord_8 fX10_clearWord_158 rfl dX10_clearWord_4 ?_
  refine am_letTi (fun v2 => ?_)
  refine am_istore_n (ls' := [(1, .int v2), (0, .ref (am_B Z + a0))]) dX10_clearWord_7 rfl (Nat.le_of_ble_eq_true rfl) rfl ?_
  refine am_aload_n dX10_clearWord_8 rfl 1 rfl ?_
  refine am_getR 10 6 clX10 (Nat.le_of_ble_eq_true rfl) h_a0 iX10_clearWord_10 fX10_clearWord_36 rfl rfl dX10_clearWord_9 (fun h3 => ?_)
  refine am_iconst (v := 0) dX10_clearWord_12 (by decide) ?_
  refine am_putI 8 0 clX8 (Nat.le_of_ble_eq_true rfl) h3 iX10_clearWord_8 fX10_clearWord_158 rfl rfl dX10_clearWord_13 ?_
  refine am_letI (fun J4 => ?_)
  refine am_iload_n dX10_clearWord_16 rfl 0 rfl ?_
  exact am_iret dX10_clearWord_17 rfl rfl
abbrev kX10_wordLength : am_K := (cX10_wordLength, 1, RX10, wsX10_wordLength, some .int, { frames := 0, cells := 0, slots := 0, locals := 0 })
theorem hX10_wordLength : am_cl yX10_wordLength kX10_wordLength 0 := ⟨⟨_, rfl⟩, rfl, rfl, by decide +kernel, by decide +kernel, by decide +kernel⟩
theorem iX10_wordLength_10 : ∀ w ∈ u_ws RX10 TX10 18, w ∈ wsX10_wordLength := by decide +kernel
theorem fX10_wordLength_36 : Cond.fieldLink RX10 36 "AmbiguityAnalyzer" "word" "LAmbiguityAnalyzer$Word;" ∈ wsX10_wordLength := by decide +kernel
theorem iX10_wordLength_8 : ∀ w ∈ u_ws RX8 TX8 2, w ∈ wsX10_wordLength := by decide +kernel
theorem fX10_wordLength_158 : Cond.fieldLink RX10 158 "AmbiguityAnalyzer$Word" "length" "I" ∈ wsX10_wordLength := by decide +kernel
set_option maxRecDepth 100000 in
set_option maxHeartbeats 4000000 in
theorem tX10_wordLength {Z : am_Z} (R : am_R) (I : am_I) (L : am_L) (a0 : Nat) (h_a0 : am_G Z a0 = some (.inl 10)) : am_M Z yX10_wordLength kX10_wordLength [.ref (am_B Z + a0)] R I L (pX10_wordLength R I a0) (fun r : Int32 => (some (.int r), R, I, L)) := by
  refine am_entry (ls := [(0, .ref (am_B Z + a0))]) (by decide) hX10_wordLength rfl (Nat.le_of_ble_eq_true rfl) rfl (fun X => ?_)
  unfold pX10_wordLength
  refine am_aload_n dX10_wordLength_0 rfl 0 rfl ?_
  refine am_getR 10 6 clX10 (Nat.le_of_ble_eq_true rfl) h_a0 iX10_wordLength_10 fX10_wordLength_36 rfl rfl dX10_wordLength_1 (fun h1 => ?_)
  refine am_get 8 0 clX8 (Nat.le_of_ble_eq_true rfl) h1 iX10_wordLength_8 fX10_wordLength_158 rfl dX10_wordLength_4 ?_
  exact am_iret dX10_wordLength_7 rfl rfl
abbrev kX10_wordLetter : am_K := (cX10_wordLetter, 2, RX10, wsX10_wordLetter, some .int, { frames := 2, cells := 0, slots := 0, locals := 42 })
theorem hX10_wordLetter : am_cl yX10_wordLetter kX10_wordLetter 1 := ⟨⟨_, rfl⟩, rfl, rfl, by decide +kernel, by decide +kernel, by decide +kernel⟩
theorem iX10_wordLetter_10 : ∀ w ∈ u_ws RX10 TX10 18, w ∈ wsX10_wordLetter := by decide +kernel
theorem fX10_wordLetter_36 : Cond.fieldLink RX10 36 "AmbiguityAnalyzer" "word" "LAmbiguityAnalyzer$Word;" ∈ wsX10_wordLetter := by decide +kernel
set_option maxRecDepth 100000 in
set_option maxHeartbeats 4000000 in
theorem tX10_wordLetter {Z : am_Z} (R : am_R) (I : am_I) (L : am_L) (a0 : Nat) (x1 : Int32) (h_a0 : am_G Z a0 = some (.inl 10)) : am_M Z yX10_wordLetter kX10_wordLetter [.ref (am_B Z + a0), .int x1] R I L (pX10_wordLetter R I a0 x1) (fun r : Int32 => (some (.int r), R, I, L)) := by
  refine am_entry (ls := [(0, .ref (am_B Z + a0)), (1, .int x1)]) (by decide) hX10_wordLetter rfl (Nat.le_of_ble_eq_true rfl) rfl (fun X => ?_)
  unfold pX10_wordLetter
  refine am_aload_n dX10_wordLetter_0 rfl 0 rfl ?_
  refine am_getR 10 6 clX10 (Nat.le_of_ble_eq_true rfl) h_a0 iX10_wordLetter_10 fX10_wordLetter_36 rfl rfl dX10_wordLetter_1 (fun h1 => ?_)
  refine am_iload_n dX10_wordLetter_4 rfl 1 rfl ?_
  refine am_callV [.int x1] (tX8_hasPosition R I L (R a0 6) x1 h1) h1 clX8 gX10_wordLetter_X8_hasPosition hX8_hasPosition rfl ⟨Nat.le_of_ble_eq_true rfl, Nat.le_of_ble_eq_true rfl⟩ rfl rfl (Nat.le_of_ble_eq_true rfl) dX10_wordLetter_5 (fun r2 => ?_)
  show am_V Z X kX10_wordLetter (fun r : Int32 => (some (.int r), R, I, L)) 8 [(0, .ref (am_B Z + a0)), (1, .int x1)] [.int r2] R I L _
  refine am_if_eq (tgt := 22) dX10_wordLetter_8 rfl (fun e3 => ?_) (fun e3 => ?_)
  · refine am_iconst (v := -1) dX10_wordLetter_22 (by decide) ?_
    exact am_iret dX10_wordLetter_23 rfl rfl
  · refine am_aload_n dX10_wordLetter_11 rfl 0 rfl ?_
    refine am_getR 10 6 clX10 (Nat.le_of_ble_eq_true rfl) h_a0 iX10_wordLetter_10 fX10_wordLetter_36 rfl rfl dX10_wordLetter_12 (fun h4 => ?_)
    refine am_iload_n dX10_wordLetter_15 rfl 1 rfl ?_
    refine am_callV [.int x1] (tX8_letterAt R I L (R a0 6) x1 h4) h4 clX8 gX10_wordLetter_X8_letterAt hX8_letterAt rfl ⟨Nat.le_of_ble_eq_true rfl, Nat.le_of_ble_eq_true rfl⟩ rfl rfl (Nat.le_of_ble_eq_true rfl) dX10_wordLetter_16 (fun r5 => ?_)
    show am_V Z X kX10_wordLetter (fun r : Int32 => (some (.int r), R, I, L)) 19 [(0, .ref (am_B Z + a0)), (1, .int x1)] [.int r5] R I L _
    refine am_goto (tgt := 23) dX10_wordLetter_19 rfl ?_
    exact am_iret dX10_wordLetter_23 rfl rfl
