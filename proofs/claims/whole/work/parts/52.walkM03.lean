abbrev kX11_findSources : am_K := (cX11_findSources, 3, RX11, wsX11_findSources, none, { frames := 1, cells := 0, slots := 0, locals := 22 })
theorem hX11_findSources : am_cl yX11_findSources kX11_findSources 0 := ⟨⟨_, rfl⟩, rfl, rfl, by decide +kernel, by decide +kernel, by decide +kernel⟩
theorem iX11_findSources_11 : ∀ w ∈ u_ws RX11 TX11 50, w ∈ wsX11_findSources := by decide +kernel
theorem fX11_findSources_13 : Cond.fieldLink RX11 13 "AmbiguityAnalyzerModel" "sources" "[I" ∈ wsX11_findSources := by decide +kernel
theorem fX11_findSources_19 : Cond.fieldLink RX11 19 "AmbiguityAnalyzerModel" "states" "I" ∈ wsX11_findSources := by decide +kernel
theorem fX11_findSources_7 : Cond.fieldLink RX11 7 "AmbiguityAnalyzerModel" "targets" "[I" ∈ wsX11_findSources := by decide +kernel
set_option maxRecDepth 100000 in
set_option maxHeartbeats 4000000 in
theorem vX11_findSources_31 {Z : am_Z} {X : am_X} (R : am_R) (L : am_L) (a0 : Nat) (v4 : Int32) (h10 : am_G Z a0 = some (.inl 11)) (j8 : am_I → Option (am_I)) (hj8 : ∀ (J9 : am_I), am_V Z X kX11_findSources (fun r : am_I => (none, R, r, L)) 86 [(0, .ref (am_B Z + a0)), (1, .int v4)] [] R J9 L (j8 J9)) (ih13 : Int32 → am_I → Option (am_I)) (hih13 : ∀ (v11 : Int32) (J12 : am_I), am_V Z X kX11_findSources (fun r : am_I => (none, R, r, L)) 31 [(0, .ref (am_B Z + a0)), (1, .int v4), (2, .int v11)] [] R J12 L (ih13 v11 J12)) (v11 : Int32) (J12 : am_I) : am_V Z X kX11_findSources (fun r : am_I => (none, R, r, L)) 31 [(0, .ref (am_B Z + a0)), (1, .int v4), (2, .int v11)] [] R J12 L (sX11_findSources_31 R a0 v4 j8 ih13 v11 J12) := by
  unfold sX11_findSources_31
  refine am_iload_n dX11_findSources_31 rfl 2 rfl ?_
  refine am_aload_n dX11_findSources_32 rfl 0 rfl ?_
  refine am_get 11 3 clX11 (Nat.le_of_ble_eq_true rfl) h10 iX11_findSources_11 fX11_findSources_19 rfl dX11_findSources_33 ?_
  refine am_icmp_ge (tgt := 86) dX11_findSources_36 rfl (fun e14 => ?_) (fun e14 => ?_)
  · refine am_sub (ls' := [(0, .ref (am_B Z + a0)), (1, .int v4)]) [0, 1] rfl ?_
    exact hj8 J12
  · refine am_aload_n dX11_findSources_39 rfl 0 rfl ?_
    refine am_getR 11 1 clX11 (Nat.le_of_ble_eq_true rfl) h10 iX11_findSources_11 fX11_findSources_13 rfl rfl dX11_findSources_40 (fun h15 => ?_)
    refine am_iload_n dX11_findSources_43 rfl 1 rfl ?_
    refine am_bipush (v := 6) dX11_findSources_44 (by decide) ?_
    refine am_idivC dX11_findSources_46 (by decide) ?_
    refine am_bipush (v := 6) dX11_findSources_47 (by decide) ?_
    refine am_imul dX11_findSources_49 ?_
    refine am_iload_n dX11_findSources_50 rfl 2 rfl ?_
    refine am_iadd dX11_findSources_51 ?_
    refine am_dup2 dX11_findSources_52 rfl rfl ?_
    refine am_iald h15 dX11_findSources_53 ?_
    refine am_aload_n dX11_findSources_54 rfl 0 rfl ?_
    refine am_getR 11 0 clX11 (Nat.le_of_ble_eq_true rfl) h10 iX11_findSources_11 fX11_findSources_7 rfl rfl dX11_findSources_55 (fun h16 => ?_)
    refine am_iload_n dX11_findSources_58 rfl 1 rfl ?_
    refine am_iald h16 dX11_findSources_59 ?_
    refine am_i2l dX11_findSources_60 ?_
    refine am_iload_n dX11_findSources_61 rfl 2 rfl ?_
    refine am_callS [.long (Int32.toInt64 (J12 (R a0 0) (Int32.toNatClampNeg v4))), .int v11] (tX11_has R J12 L (Int32.toInt64 (J12 (R a0 0) (Int32.toNatClampNeg v4))) v11) gX11_findSources_X11_has hX11_has ⟨Nat.le_of_ble_eq_true rfl, Nat.le_of_ble_eq_true rfl⟩ rfl rfl (Nat.le_of_ble_eq_true rfl) dX11_findSources_62 (fun r17 => ?_)
    show am_V Z X kX11_findSources (fun r : am_I => (none, R, r, L)) 65 [(0, .ref (am_B Z + a0)), (1, .int v4), (2, .int v11)] [.int r17, .int (J12 (R a0 1) (Int32.toNatClampNeg (((v4 / (6 : Int32)) * (6 : Int32)) + v11))), .int (((v4 / (6 : Int32)) * (6 : Int32)) + v11), .ref (am_B Z + (R a0 1))] R J12 L _
    refine am_letJ (fun k19 ek19 => ?_)
    have hk19 : ∀ v18 : Int32, am_V Z X kX11_findSources (fun r : am_I => (none, R, r, L)) 78 [(0, .ref (am_B Z + a0)), (1, .int v4), (2, .int v11)] [.int v18, .int (J12 (R a0 1) (Int32.toNatClampNeg (((v4 / (6 : Int32)) * (6 : Int32)) + v11))), .int (((v4 / (6 : Int32)) * (6 : Int32)) + v11), .ref (am_B Z + (R a0 1))] R J12 L (k19 v18) := by
      subst ek19
      intro v18
      show am_V Z X kX11_findSources (fun r : am_I => (none, R, r, L)) 78 [(0, .ref (am_B Z + a0)), (1, .int v4), (2, .int v11)] [.int v18, .int (J12 (R a0 1) (Int32.toNatClampNeg (((v4 / (6 : Int32)) * (6 : Int32)) + v11))), .int (((v4 / (6 : Int32)) * (6 : Int32)) + v11), .ref (am_B Z + (R a0 1))] R J12 L _
      refine am_ior dX11_findSources_78 ?_
      refine am_iast h15 dX11_findSources_79 ?_
      refine am_letI (fun J20 => ?_)
      refine am_iinc (j := 2) (ls' := [(2, .int (v11 + (1 : Int32))), (0, .ref (am_B Z + a0)), (1, .int v4)]) dX11_findSources_80 rfl rfl (Nat.le_of_ble_eq_true rfl) rfl ?_
      refine am_goto (tgt := 31) dX11_findSources_83 rfl ?_
      refine am_sub (ls' := [(0, .ref (am_B Z + a0)), (1, .int v4), (2, .int (v11 + (1 : Int32)))]) [1, 2, 0] rfl ?_
      exact hih13 (v11 + (1 : Int32)) J20
    refine am_if_eqL (tgt := 77) dX11_findSources_65 rfl (fun e21 => ?_) (fun e21 => ?_)
    · refine am_iconst (v := 0) dX11_findSources_77 (by decide) ?_
      exact hk19 _
    · refine am_iconst (v := 1) dX11_findSources_68 (by decide) ?_
      refine am_iload_n dX11_findSources_69 rfl 1 rfl ?_
      refine am_bipush (v := 6) dX11_findSources_70 (by decide) ?_
      refine am_iremC dX11_findSources_72 (by decide) ?_
      refine am_ishl dX11_findSources_73 ?_
      refine am_goto (tgt := 78) dX11_findSources_74 rfl ?_
      exact hk19 _
theorem uX11_findSources_31 {Z : am_Z} {X : am_X} (R : am_R) (L : am_L) (a0 : Nat) (v4 : Int32) (h10 : am_G Z a0 = some (.inl 11)) (j8 : am_I → Option (am_I)) (hj8 : ∀ (J9 : am_I), am_V Z X kX11_findSources (fun r : am_I => (none, R, r, L)) 86 [(0, .ref (am_B Z + a0)), (1, .int v4)] [] R J9 L (j8 J9)) : ∀ (n : Nat) (v11 : Int32) (J12 : am_I), am_V Z X kX11_findSources (fun r : am_I => (none, R, r, L)) 31 [(0, .ref (am_B Z + a0)), (1, .int v4), (2, .int v11)] [] R J12 L (lX11_findSources_31 R a0 v4 j8 n v11 J12) := by
  intro n
  induction n with
  | zero => intro _ _; exact am_none
  | succ n ih => exact fun v11 J12 => vX11_findSources_31 R L a0 v4 h10 j8 hj8 (lX11_findSources_31 R a0 v4 j8 n) ih v11 J12
set_option maxRecDepth 100000 in
set_option maxHeartbeats 4000000 in
theorem vX11_findSources_23 {Z : am_Z} {X : am_X} (R : am_R) (L : am_L) (a0 : Nat) (h3 : am_G Z a0 = some (.inl 11)) (ih6 : Int32 → am_I → Option (am_I)) (hih6 : ∀ (v4 : Int32) (J5 : am_I), am_V Z X kX11_findSources (fun r : am_I => (none, R, r, L)) 23 [(0, .ref (am_B Z + a0)), (1, .int v4)] [] R J5 L (ih6 v4 J5)) (v4 : Int32) (J5 : am_I) : am_V Z X kX11_findSources (fun r : am_I => (none, R, r, L)) 23 [(0, .ref (am_B Z + a0)), (1, .int v4)] [] R J5 L (sX11_findSources_23 R a0 ih6 v4 J5) := by
  unfold sX11_findSources_23
  refine am_iload_n dX11_findSources_23 rfl 1 rfl ?_
  refine am_bipush (v := 18) dX11_findSources_24 (by decide) ?_
  refine am_icmp_ge (tgt := 92) dX11_findSources_26 rfl (fun e7 => ?_) (fun e7 => ?_)
  · exact am_vret dX11_findSources_92 rfl rfl
  · refine am_iconst (v := 0) dX11_findSources_29 (by decide) ?_
    refine am_istore_n (ls' := [(2, .int (0 : Int32)), (0, .ref (am_B Z + a0)), (1, .int v4)]) dX11_findSources_30 rfl (Nat.le_of_ble_eq_true rfl) rfl ?_
    refine am_jnV (fun j8 ej8 => ?_)
    have hj8 : ∀ (J9 : am_I), am_V Z X kX11_findSources (fun r : am_I => (none, R, r, L)) 86 [(0, .ref (am_B Z + a0)), (1, .int v4)] [] R J9 L (j8 J9) := by
      subst ej8
      intro J9
      show am_V Z X kX11_findSources (fun r : am_I => (none, R, r, L)) 86 [(0, .ref (am_B Z + a0)), (1, .int v4)] [] R J9 L _
      refine am_iinc (j := 1) (ls' := [(1, .int (v4 + (1 : Int32))), (0, .ref (am_B Z + a0))]) dX11_findSources_86 rfl rfl (Nat.le_of_ble_eq_true rfl) rfl ?_
      refine am_goto (tgt := 23) dX11_findSources_89 rfl ?_
      refine am_sub (ls' := [(0, .ref (am_B Z + a0)), (1, .int (v4 + (1 : Int32)))]) [1, 0] rfl ?_
      exact hih6 (v4 + (1 : Int32)) J9
    refine am_sub (ls' := [(0, .ref (am_B Z + a0)), (1, .int v4), (2, .int (0 : Int32))]) [1, 2, 0] rfl ?_
    exact uX11_findSources_31 R L a0 v4 h3 j8 hj8 am_fu (0 : Int32) J5
theorem uX11_findSources_23 {Z : am_Z} {X : am_X} (R : am_R) (L : am_L) (a0 : Nat) (h3 : am_G Z a0 = some (.inl 11)) : ∀ (n : Nat) (v4 : Int32) (J5 : am_I), am_V Z X kX11_findSources (fun r : am_I => (none, R, r, L)) 23 [(0, .ref (am_B Z + a0)), (1, .int v4)] [] R J5 L (lX11_findSources_23 R a0 n v4 J5) := by
  intro n
  induction n with
  | zero => intro _ _; exact am_none
  | succ n ih => exact fun v4 J5 => vX11_findSources_23 R L a0 h3 (lX11_findSources_23 R a0 n) ih v4 J5
set_option maxRecDepth 100000 in
set_option maxHeartbeats 4000000 in
theorem vX11_findSources_2 {Z : am_Z} {X : am_X} (R : am_R) (L : am_L) (a0 : Nat) (h22 : am_G Z a0 = some (.inl 11)) (j1 : am_I → Option (am_I)) (hj1 : ∀ (J2 : am_I), am_V Z X kX11_findSources (fun r : am_I => (none, R, r, L)) 21 [(0, .ref (am_B Z + a0))] [] R J2 L (j1 J2)) (ih25 : Int32 → am_I → Option (am_I)) (hih25 : ∀ (v23 : Int32) (J24 : am_I), am_V Z X kX11_findSources (fun r : am_I => (none, R, r, L)) 2 [(0, .ref (am_B Z + a0)), (1, .int v23)] [] R J24 L (ih25 v23 J24)) (v23 : Int32) (J24 : am_I) : am_V Z X kX11_findSources (fun r : am_I => (none, R, r, L)) 2 [(0, .ref (am_B Z + a0)), (1, .int v23)] [] R J24 L (sX11_findSources_2 R a0 j1 ih25 v23 J24) := by
  unfold sX11_findSources_2
  refine am_iload_n dX11_findSources_2 rfl 1 rfl ?_
  refine am_bipush (v := 18) dX11_findSources_3 (by decide) ?_
  refine am_icmp_ge (tgt := 21) dX11_findSources_5 rfl (fun e26 => ?_) (fun e26 => ?_)
  · refine am_sub (ls' := [(0, .ref (am_B Z + a0))]) [0] rfl ?_
    exact hj1 J24
  · refine am_aload_n dX11_findSources_8 rfl 0 rfl ?_
    refine am_getR 11 1 clX11 (Nat.le_of_ble_eq_true rfl) h22 iX11_findSources_11 fX11_findSources_13 rfl rfl dX11_findSources_9 (fun h27 => ?_)
    refine am_iload_n dX11_findSources_12 rfl 1 rfl ?_
    refine am_iconst (v := 0) dX11_findSources_13 (by decide) ?_
    refine am_iast h27 dX11_findSources_14 ?_
    refine am_letI (fun J28 => ?_)
    refine am_iinc (j := 1) (ls' := [(1, .int (v23 + (1 : Int32))), (0, .ref (am_B Z + a0))]) dX11_findSources_15 rfl rfl (Nat.le_of_ble_eq_true rfl) rfl ?_
    refine am_goto (tgt := 2) dX11_findSources_18 rfl ?_
    refine am_sub (ls' := [(0, .ref (am_B Z + a0)), (1, .int (v23 + (1 : Int32)))]) [1, 0] rfl ?_
    exact hih25 (v23 + (1 : Int32)) J28
theorem uX11_findSources_2 {Z : am_Z} {X : am_X} (R : am_R) (L : am_L) (a0 : Nat) (h22 : am_G Z a0 = some (.inl 11)) (j1 : am_I → Option (am_I)) (hj1 : ∀ (J2 : am_I), am_V Z X kX11_findSources (fun r : am_I => (none, R, r, L)) 21 [(0, .ref (am_B Z + a0))] [] R J2 L (j1 J2)) : ∀ (n : Nat) (v23 : Int32) (J24 : am_I), am_V Z X kX11_findSources (fun r : am_I => (none, R, r, L)) 2 [(0, .ref (am_B Z + a0)), (1, .int v23)] [] R J24 L (lX11_findSources_2 R a0 j1 n v23 J24) := by
  intro n
  induction n with
  | zero => intro _ _; exact am_none
  | succ n ih => exact fun v23 J24 => vX11_findSources_2 R L a0 h22 j1 hj1 (lX11_findSources_2 R a0 j1 n) ih v23 J24
set_option maxRecDepth 100000 in
set_option maxHeartbeats 4000000 in
theorem tX11_findSources {Z : am_Z} (R : am_R) (I : am_I) (L : am_L) (a0 : Nat) (h_a0 : am_G Z a0 = some (.inl 11)) : am_M Z yX11_findSources kX11_findSources [.ref (am_B Z + a0)] R I L (pX11_findSources R I a0) (fun r : am_I => (none, R, r, L)) := by
  refine am_entry (ls := [(0, .ref (am_B Z + a0))]) (by decide) hX11_findSources rfl (Nat.le_of_ble_eq_true rfl) rfl (fun X => ?_)
  unfold pX11_findSources
  refine am_iconst (v := 0) dX11_findSources_0 (by decide) ?_
  refine am_istore_n (ls' := [(1, .int (0 : Int32)), (0, .ref (am_B Z + a0))]) dX11_findSources_1 rfl (Nat.le_of_ble_eq_true rfl) rfl ?_
  refine am_jnV (fun j1 ej1 => ?_)
  have hj1 : ∀ (J2 : am_I), am_V Z X kX11_findSources (fun r : am_I => (none, R, r, L)) 21 [(0, .ref (am_B Z + a0))] [] R J2 L (j1 J2) := by
    subst ej1
    intro J2
    show am_V Z X kX11_findSources (fun r : am_I => (none, R, r, L)) 21 [(0, .ref (am_B Z + a0))] [] R J2 L _
    refine am_iconst (v := 0) dX11_findSources_21 (by decide) ?_
    refine am_istore_n (ls' := [(1, .int (0 : Int32)), (0, .ref (am_B Z + a0))]) dX11_findSources_22 rfl (Nat.le_of_ble_eq_true rfl) rfl ?_
    refine am_sub (ls' := [(0, .ref (am_B Z + a0)), (1, .int (0 : Int32))]) [1, 0] rfl ?_
    exact uX11_findSources_23 R L a0 h_a0 am_fu (0 : Int32) J2
  refine am_sub (ls' := [(0, .ref (am_B Z + a0)), (1, .int (0 : Int32))]) [1, 0] rfl ?_
  exact uX11_findSources_2 R L a0 h_a0 j1 hj1 am_fu (0 : Int32) I
abbrev kX11_beginsSearch : am_K := (cX11_beginsSearch, 2, RX11, wsX11_beginsSearch, none, { frames := 2, cells := 0, slots := 0, locals := 44 })
theorem hX11_beginsSearch : am_cl yX11_beginsSearch kX11_beginsSearch 0 := ⟨⟨_, rfl⟩, rfl, rfl, by decide +kernel, by decide +kernel, by decide +kernel⟩
theorem iX11_beginsSearch_11 : ∀ w ∈ u_ws RX11 TX11 50, w ∈ wsX11_beginsSearch := by decide +kernel
theorem fX11_beginsSearch_234 : Cond.fieldLink RX11 234 "AmbiguityAnalyzerModel" "queued" "I" ∈ wsX11_beginsSearch := by decide +kernel
theorem fX11_beginsSearch_45 : Cond.fieldLink RX11 45 "AmbiguityAnalyzerModel" "distance" "[I" ∈ wsX11_beginsSearch := by decide +kernel
set_option maxRecDepth 100000 in
set_option maxHeartbeats 4000000 in
theorem vX11_beginsSearch_11 {Z : am_Z} {X : am_X} (R : am_R) (L : am_L) (a0 : Nat) (h3 : am_G Z a0 = some (.inl 11)) (ih6 : Int32 → am_I → Option (am_I)) (hih6 : ∀ (v4 : Int32) (J5 : am_I), am_V Z X kX11_beginsSearch (fun r : am_I => (none, R, r, L)) 11 [(0, .ref (am_B Z + a0)), (1, .int v4)] [] R J5 L (ih6 v4 J5)) (v4 : Int32) (J5 : am_I) : am_V Z X kX11_beginsSearch (fun r : am_I => (none, R, r, L)) 11 [(0, .ref (am_B Z + a0)), (1, .int v4)] [] R J5 L (sX11_beginsSearch_11 R a0 ih6 v4 J5) := by
  unfold sX11_beginsSearch_11
  refine am_iload_n dX11_beginsSearch_11 rfl 1 rfl ?_
  refine am_sipush (v := 216) dX11_beginsSearch_12 (by decide) ?_
  refine am_icmp_ge (tgt := 33) dX11_beginsSearch_15 rfl (fun e7 => ?_) (fun e7 => ?_)
  · exact am_vret dX11_beginsSearch_33 rfl rfl
  · refine am_aload_n dX11_beginsSearch_18 rfl 0 rfl ?_
    refine am_getR 11 19 clX11 (Nat.le_of_ble_eq_true rfl) h3 iX11_beginsSearch_11 fX11_beginsSearch_45 rfl rfl dX11_beginsSearch_19 (fun h8 => ?_)
    refine am_iload_n dX11_beginsSearch_22 rfl 1 rfl ?_
    refine am_sipush (v := 1000) dX11_beginsSearch_23 (by decide) ?_
    refine am_iast h8 dX11_beginsSearch_26 ?_
    refine am_letI (fun J9 => ?_)
    refine am_iinc (j := 1) (ls' := [(1, .int (v4 + (1 : Int32))), (0, .ref (am_B Z + a0))]) dX11_beginsSearch_27 rfl rfl (Nat.le_of_ble_eq_true rfl) rfl ?_
    refine am_goto (tgt := 11) dX11_beginsSearch_30 rfl ?_
    refine am_sub (ls' := [(0, .ref (am_B Z + a0)), (1, .int (v4 + (1 : Int32)))]) [1, 0] rfl ?_
    exact hih6 (v4 + (1 : Int32)) J9
theorem uX11_beginsSearch_11 {Z : am_Z} {X : am_X} (R : am_R) (L : am_L) (a0 : Nat) (h3 : am_G Z a0 = some (.inl 11)) : ∀ (n : Nat) (v4 : Int32) (J5 : am_I), am_V Z X kX11_beginsSearch (fun r : am_I => (none, R, r, L)) 11 [(0, .ref (am_B Z + a0)), (1, .int v4)] [] R J5 L (lX11_beginsSearch_11 R a0 n v4 J5) := by
  intro n
  induction n with
  | zero => intro _ _; exact am_none
  | succ n ih => exact fun v4 J5 => vX11_beginsSearch_11 R L a0 h3 (lX11_beginsSearch_11 R a0 n) ih v4 J5
set_option maxRecDepth 100000 in
set_option maxHeartbeats 4000000 in
theorem tX11_beginsSearch {Z : am_Z} (R : am_R) (I : am_I) (L : am_L) (a0 : Nat) (h_a0 : am_G Z a0 = some (.inl 11)) : am_M Z yX11_beginsSearch kX11_beginsSearch [.ref (am_B Z + a0)] R I L (pX11_beginsSearch R I a0) (fun r : am_I => (none, R, r, L)) := by
  refine am_entry (ls := [(0, .ref (am_B Z + a0))]) (by decide) hX11_beginsSearch rfl (Nat.le_of_ble_eq_true rfl) rfl (fun X => ?_)
  unfold pX11_beginsSearch
  refine am_aload_n dX11_beginsSearch_0 rfl 0 rfl ?_
  refine am_callV [] (tX11_findSources R I L a0 h_a0) h_a0 clX11 gX11_beginsSearch_X11_findSources hX11_findSources rfl ⟨Nat.le_of_ble_eq_true rfl, Nat.le_of_ble_eq_true rfl⟩ rfl rfl (Nat.le_of_ble_eq_true rfl) dX11_beginsSearch_1 (fun r1 => ?_)
  show am_V Z X kX11_beginsSearch (fun r : am_I => (none, R, r, L)) 4 [(0, .ref (am_B Z + a0))] [] R r1 L _
  refine am_aload_n dX11_beginsSearch_4 rfl 0 rfl ?_
  refine am_iconst (v := 0) dX11_beginsSearch_5 (by decide) ?_
  refine am_putI 11 21 clX11 (Nat.le_of_ble_eq_true rfl) h_a0 iX11_beginsSearch_11 fX11_beginsSearch_234 rfl rfl dX11_beginsSearch_6 ?_
  refine am_letI (fun J2 => ?_)
  refine am_iconst (v := 0) dX11_beginsSearch_9 (by decide) ?_
  refine am_istore_n (ls' := [(1, .int (0 : Int32)), (0, .ref (am_B Z + a0))]) dX11_beginsSearch_10 rfl (Nat.le_of_ble_eq_true rfl) rfl ?_
  refine am_sub (ls' := [(0, .ref (am_B Z + a0)), (1, .int (0 : Int32))]) [1, 0] rfl ?_
  exact uX11_beginsSearch_11 R L a0 h_a0 am_fu (0 : Int32) J2
abbrev kX11_reaches : am_K := (cX11_reaches, 3, RX11, wsX11_reaches, none, { frames := 0, cells := 0, slots := 0, locals := 0 })
theorem hX11_reaches : am_cl yX11_reaches kX11_reaches 2 := ⟨⟨_, rfl⟩, rfl, rfl, by decide +kernel, by decide +kernel, by decide +kernel⟩
theorem iX11_reaches_11 : ∀ w ∈ u_ws RX11 TX11 50, w ∈ wsX11_reaches := by decide +kernel
theorem fX11_reaches_45 : Cond.fieldLink RX11 45 "AmbiguityAnalyzerModel" "distance" "[I" ∈ wsX11_reaches := by decide +kernel
theorem fX11_reaches_48 : Cond.fieldLink RX11 48 "AmbiguityAnalyzerModel" "queue" "[I" ∈ wsX11_reaches := by decide +kernel
theorem fX11_reaches_234 : Cond.fieldLink RX11 234 "AmbiguityAnalyzerModel" "queued" "I" ∈ wsX11_reaches := by decide +kernel
set_option maxRecDepth 100000 in
set_option maxHeartbeats 4000000 in
theorem tX11_reaches {Z : am_Z} (R : am_R) (I : am_I) (L : am_L) (a0 : Nat) (x1 : Int32) (x2 : Int32) (h_a0 : am_G Z a0 = some (.inl 11)) : am_M Z yX11_reaches kX11_reaches [.ref (am_B Z + a0), .int x1, .int x2] R I L (pX11_reaches R I a0 x1 x2) (fun r : am_I => (none, R, r, L)) := by
  refine am_entry (ls := [(0, .ref (am_B Z + a0)), (1, .int x1), (2, .int x2)]) (by decide) hX11_reaches rfl (Nat.le_of_ble_eq_true rfl) rfl (fun X => ?_)
  unfold pX11_reaches
  refine am_aload_n dX11_reaches_0 rfl 0 rfl ?_
  refine am_getR 11 19 clX11 (Nat.le_of_ble_eq_true rfl) h_a0 iX11_reaches_11 fX11_reaches_45 rfl rfl dX11_reaches_1 (fun h1 => ?_)
  refine am_iload_n dX11_reaches_4 rfl 1 rfl ?_
  refine am_iald h1 dX11_reaches_5 ?_
  refine am_sipush (v := 1000) dX11_reaches_6 (by decide) ?_
  refine am_icmp_ge (tgt := 13) dX11_reaches_9 rfl (fun e2 => ?_) (fun e2 => ?_)
  · refine am_aload_n dX11_reaches_13 rfl 0 rfl ?_
    refine am_getR 11 19 clX11 (Nat.le_of_ble_eq_true rfl) h_a0 iX11_reaches_11 fX11_reaches_45 rfl rfl dX11_reaches_14 (fun h3 => ?_)
    refine am_iload_n dX11_reaches_17 rfl 1 rfl ?_
    refine am_iload_n dX11_reaches_18 rfl 2 rfl ?_
    refine am_iast h3 dX11_reaches_19 ?_
    refine am_letI (fun J4 => ?_)
    refine am_aload_n dX11_reaches_20 rfl 0 rfl ?_
    refine am_getR 11 20 clX11 (Nat.le_of_ble_eq_true rfl) h_a0 iX11_reaches_11 fX11_reaches_48 rfl rfl dX11_reaches_21 (fun h5 => ?_)
    refine am_aload_n dX11_reaches_24 rfl 0 rfl ?_
    refine am_get 11 21 clX11 (Nat.le_of_ble_eq_true rfl) h_a0 iX11_reaches_11 fX11_reaches_234 rfl dX11_reaches_25 ?_
    refine am_iload_n dX11_reaches_28 rfl 1 rfl ?_
    refine am_iast h5 dX11_reaches_29 ?_
    refine am_letI (fun J6 => ?_)
    refine am_aload_n dX11_reaches_30 rfl 0 rfl ?_
    refine am_dup dX11_reaches_31 rfl ?_
    refine am_get 11 21 clX11 (Nat.le_of_ble_eq_true rfl) h_a0 iX11_reaches_11 fX11_reaches_234 rfl dX11_reaches_32 ?_
    refine am_iconst (v := 1) dX11_reaches_35 (by decide) ?_
    refine am_iadd dX11_reaches_36 ?_
    refine am_putI 11 21 clX11 (Nat.le_of_ble_eq_true rfl) h_a0 iX11_reaches_11 fX11_reaches_234 rfl rfl dX11_reaches_37 ?_
    refine am_letI (fun J7 => ?_)
    exact am_vret dX11_reaches_40 rfl rfl
  · exact am_vret dX11_reaches_12 rfl rfl
abbrev kX11_pairNode : am_K := (cX11_pairNode, 3, RX11, wsX11_pairNode, some .int, { frames := 0, cells := 0, slots := 0, locals := 0 })
theorem hX11_pairNode : am_cl yX11_pairNode kX11_pairNode 3 := ⟨⟨_, rfl⟩, rfl, rfl, by decide +kernel, by decide +kernel, by decide +kernel⟩
set_option maxRecDepth 100000 in
set_option maxHeartbeats 4000000 in
theorem tX11_pairNode {Z : am_Z} (R : am_R) (I : am_I) (L : am_L) (x0 : Int32) (x1 : Int32) (x2 : Int32)  : am_M Z yX11_pairNode kX11_pairNode [.int x0, .int x1, .int x2] R I L (pX11_pairNode x0 x1 x2) (fun r : Int32 => (some (.int r), R, I, L)) := by
  refine am_entry (ls := [(0, .int x0), (1, .int x1), (2, .int x2)]) (by decide) hX11_pairNode rfl (Nat.le_of_ble_eq_true rfl) rfl (fun X => ?_)
  unfold pX11_pairNode
  refine am_iconst (v := 2) dX11_pairNode_0 (by decide) ?_
  refine am_bipush (v := 6) dX11_pairNode_1 (by decide) ?_
  refine am_iload_n dX11_pairNode_3 rfl 0 rfl ?_
  refine am_imul dX11_pairNode_4 ?_
  refine am_iload_n dX11_pairNode_5 rfl 1 rfl ?_
  refine am_iadd dX11_pairNode_6 ?_
  refine am_imul dX11_pairNode_7 ?_
  refine am_iload_n dX11_pairNode_8 rfl 2 rfl ?_
  refine am_if_eq (tgt := 16) dX11_pairNode_9 rfl (fun e1 => ?_) (fun e1 => ?_)
  · refine am_iconst (v := 0) dX11_pairNode_16 (by decide) ?_
    refine am_iadd dX11_pairNode_17 ?_
    exact am_iret dX11_pairNode_18 rfl rfl
  · refine am_iconst (v := 1) dX11_pairNode_12 (by decide) ?_
    refine am_goto (tgt := 17) dX11_pairNode_13 rfl ?_
    refine am_iadd dX11_pairNode_17 ?_
    exact am_iret dX11_pairNode_18 rfl rfl
abbrev kX11_spreadsPairs : am_K := (cX11_spreadsPairs, 11, RX11, wsX11_spreadsPairs, none, { frames := 1, cells := 0, slots := 0, locals := 22 })
theorem hX11_spreadsPairs : am_cl yX11_spreadsPairs kX11_spreadsPairs 0 := ⟨⟨_, rfl⟩, rfl, rfl, by decide +kernel, by decide +kernel, by decide +kernel⟩
theorem iX11_spreadsPairs_11 : ∀ w ∈ u_ws RX11 TX11 50, w ∈ wsX11_spreadsPairs := by decide +kernel
theorem fX11_spreadsPairs_234 : Cond.fieldLink RX11 234 "AmbiguityAnalyzerModel" "queued" "I" ∈ wsX11_spreadsPairs := by decide +kernel
theorem fX11_spreadsPairs_48 : Cond.fieldLink RX11 48 "AmbiguityAnalyzerModel" "queue" "[I" ∈ wsX11_spreadsPairs := by decide +kernel
theorem fX11_spreadsPairs_45 : Cond.fieldLink RX11 45 "AmbiguityAnalyzerModel" "distance" "[I" ∈ wsX11_spreadsPairs := by decide +kernel
theorem fX11_spreadsPairs_13 : Cond.fieldLink RX11 13 "AmbiguityAnalyzerModel" "sources" "[I" ∈ wsX11_spreadsPairs := by decide +kernel
theorem fX11_spreadsPairs_19 : Cond.fieldLink RX11 19 "AmbiguityAnalyzerModel" "states" "I" ∈ wsX11_spreadsPairs := by decide +kernel
set_option maxRecDepth 100000 in
set_option maxHeartbeats 4000000 in
theorem vX11_spreadsPairs_161 {Z : am_Z} {X : am_X} (R : am_R) (L : am_L) (a0 : Nat) (v2 : Int32) (v7 : Int32) (v9 : Int32) (v11 : Int32) (v15 : Int32) (v19 : Int32) (v24 : Int32) (v26 : Int32) (v30 : Int32) (h39 : am_G Z a0 = some (.inl 11)) (j37 : am_I → Option (am_I)) (hj37 : ∀ (J38 : am_I), am_V Z X kX11_spreadsPairs (fun r : am_I => (none, R, r, L)) 217 [(0, .ref (am_B Z + a0)), (1, .int v2), (2, .int v7), (3, .int v9), (4, .int v11), (5, .int v15), (6, .int v19), (7, .int v24), (8, .int v26), (9, .int v30)] [] R J38 L (j37 J38)) (ih42 : Int32 → am_I → Option (am_I)) (hih42 : ∀ (v40 : Int32) (J41 : am_I), am_V Z X kX11_spreadsPairs (fun r : am_I => (none, R, r, L)) 161 [(0, .ref (am_B Z + a0)), (1, .int v2), (2, .int v7), (3, .int v9), (4, .int v11), (5, .int v15), (6, .int v19), (7, .int v24), (8, .int v26), (9, .int v30), (10, .int v40)] [] R J41 L (ih42 v40 J41)) (v40 : Int32) (J41 : am_I) : am_V Z X kX11_spreadsPairs (fun r : am_I => (none, R, r, L)) 161 [(0, .ref (am_B Z + a0)), (1, .int v2), (2, .int v7), (3, .int v9), (4, .int v11), (5, .int v15), (6, .int v19), (7, .int v24), (8, .int v26), (9, .int v30), (10, .int v40)] [] R J41 L (sX11_spreadsPairs_161 R a0 v2 v7 v9 v11 v15 v19 v24 v26 v30 j37 ih42 v40 J41) := by
  unfold sX11_spreadsPairs_161
  refine am_iload dX11_spreadsPairs_161 10 rfl ?_
  refine am_aload_n dX11_spreadsPairs_163 rfl 0 rfl ?_
  refine am_get 11 3 clX11 (Nat.le_of_ble_eq_true rfl) h39 iX11_spreadsPairs_11 fX11_spreadsPairs_19 rfl dX11_spreadsPairs_164 ?_
  refine am_icmp_ge (tgt := 217) dX11_spreadsPairs_167 rfl (fun e43 => ?_) (fun e43 => ?_)
  · refine am_sub (ls' := [(0, .ref (am_B Z + a0)), (1, .int v2), (2, .int v7), (3, .int v9), (4, .int v11), (5, .int v15), (6, .int v19), (7, .int v24), (8, .int v26), (9, .int v30)]) [0, 1, 2, 3, 4, 5, 6, 7, 8, 9] rfl ?_
    exact hj37 J41
  · refine am_iload dX11_spreadsPairs_170 4 rfl ?_
    refine am_if_eq (tgt := 217) dX11_spreadsPairs_172 rfl (fun e44 => ?_) (fun e44 => ?_)
    · refine am_sub (ls' := [(0, .ref (am_B Z + a0)), (1, .int v2), (2, .int v7), (3, .int v9), (4, .int v11), (5, .int v15), (6, .int v19), (7, .int v24), (8, .int v26), (9, .int v30)]) [0, 1, 2, 3, 4, 5, 6, 7, 8, 9] rfl ?_
      exact hj37 J41
    · refine am_iload dX11_spreadsPairs_175 7 rfl ?_
      refine am_i2l dX11_spreadsPairs_177 ?_
      refine am_iload dX11_spreadsPairs_178 9 rfl ?_
      refine am_callS [.long (Int32.toInt64 v24), .int v30] (tX11_has R J41 L (Int32.toInt64 v24) v30) gX11_spreadsPairs_X11_has hX11_has ⟨Nat.le_of_ble_eq_true rfl, Nat.le_of_ble_eq_true rfl⟩ rfl rfl (Nat.le_of_ble_eq_true rfl) dX11_spreadsPairs_180 (fun r45 => ?_)
      show am_V Z X kX11_spreadsPairs (fun r : am_I => (none, R, r, L)) 183 [(0, .ref (am_B Z + a0)), (1, .int v2), (2, .int v7), (3, .int v9), (4, .int v11), (5, .int v15), (6, .int v19), (7, .int v24), (8, .int v26), (9, .int v30), (10, .int v40)] [.int r45] R J41 L _
      refine am_jnV (fun j46 ej46 => ?_)
      have hj46 : ∀ (J47 : am_I), am_V Z X kX11_spreadsPairs (fun r : am_I => (none, R, r, L)) 211 [(0, .ref (am_B Z + a0)), (1, .int v2), (2, .int v7), (3, .int v9), (4, .int v11), (5, .int v15), (6, .int v19), (7, .int v24), (8, .int v26), (9, .int v30), (10, .int v40)] [] R J47 L (j46 J47) := by
        subst ej46
        intro J47
        show am_V Z X kX11_spreadsPairs (fun r : am_I => (none, R, r, L)) 211 [(0, .ref (am_B Z + a0)), (1, .int v2), (2, .int v7), (3, .int v9), (4, .int v11), (5, .int v15), (6, .int v19), (7, .int v24), (8, .int v26), (9, .int v30), (10, .int v40)] [] R J47 L _
        refine am_iinc (j := 10) (ls' := [(10, .int (v40 + (1 : Int32))), (0, .ref (am_B Z + a0)), (1, .int v2), (2, .int v7), (3, .int v9), (4, .int v11), (5, .int v15), (6, .int v19), (7, .int v24), (8, .int v26), (9, .int v30)]) dX11_spreadsPairs_211 rfl rfl (Nat.le_of_ble_eq_true rfl) rfl ?_
        refine am_goto (tgt := 161) dX11_spreadsPairs_214 rfl ?_
        refine am_sub (ls' := [(0, .ref (am_B Z + a0)), (1, .int v2), (2, .int v7), (3, .int v9), (4, .int v11), (5, .int v15), (6, .int v19), (7, .int v24), (8, .int v26), (9, .int v30), (10, .int (v40 + (1 : Int32)))]) [1, 2, 3, 4, 5, 6, 7, 8, 9, 10, 0] rfl ?_
        exact hih42 (v40 + (1 : Int32)) J47
      refine am_if_eq (tgt := 211) dX11_spreadsPairs_183 rfl (fun e48 => ?_) (fun e48 => ?_)
      · exact hj46 J41
      · refine am_iload dX11_spreadsPairs_186 8 rfl ?_
        refine am_i2l dX11_spreadsPairs_188 ?_
        refine am_iload dX11_spreadsPairs_189 10 rfl ?_
        refine am_callS [.long (Int32.toInt64 v26), .int v40] (tX11_has R J41 L (Int32.toInt64 v26) v40) gX11_spreadsPairs_X11_has hX11_has ⟨Nat.le_of_ble_eq_true rfl, Nat.le_of_ble_eq_true rfl⟩ rfl rfl (Nat.le_of_ble_eq_true rfl) dX11_spreadsPairs_191 (fun r49 => ?_)
        show am_V Z X kX11_spreadsPairs (fun r : am_I => (none, R, r, L)) 194 [(0, .ref (am_B Z + a0)), (1, .int v2), (2, .int v7), (3, .int v9), (4, .int v11), (5, .int v15), (6, .int v19), (7, .int v24), (8, .int v26), (9, .int v30), (10, .int v40)] [.int r49] R J41 L _
        refine am_if_eq (tgt := 211) dX11_spreadsPairs_194 rfl (fun e50 => ?_) (fun e50 => ?_)
        · exact hj46 J41
        · refine am_aload_n dX11_spreadsPairs_197 rfl 0 rfl ?_
          refine am_iload dX11_spreadsPairs_198 9 rfl ?_
          refine am_iload dX11_spreadsPairs_200 10 rfl ?_
          refine am_iconst (v := 1) dX11_spreadsPairs_202 (by decide) ?_
          refine am_callS [.int v30, .int v40, .int (1 : Int32)] (tX11_pairNode R J41 L v30 v40 (1 : Int32)) gX11_spreadsPairs_X11_pairNode hX11_pairNode ⟨Nat.le_of_ble_eq_true rfl, Nat.le_of_ble_eq_true rfl⟩ rfl rfl (Nat.le_of_ble_eq_true rfl) dX11_spreadsPairs_203 (fun r51 => ?_)
          show am_V Z X kX11_spreadsPairs (fun r : am_I => (none, R, r, L)) 206 [(0, .ref (am_B Z + a0)), (1, .int v2), (2, .int v7), (3, .int v9), (4, .int v11), (5, .int v15), (6, .int v19), (7, .int v24), (8, .int v26), (9, .int v30), (10, .int v40)] [.int r51, .ref (am_B Z + a0)] R J41 L _
          refine am_iload dX11_spreadsPairs_206 5 rfl ?_
          refine am_callV [.int r51, .int v15] (tX11_reaches R J41 L a0 r51 v15 h39) h39 clX11 gX11_spreadsPairs_X11_reaches hX11_reaches rfl ⟨Nat.le_of_ble_eq_true rfl, Nat.le_of_ble_eq_true rfl⟩ rfl rfl (Nat.le_of_ble_eq_true rfl) dX11_spreadsPairs_208 (fun r52 => ?_)
          show am_V Z X kX11_spreadsPairs (fun r : am_I => (none, R, r, L)) 211 [(0, .ref (am_B Z + a0)), (1, .int v2), (2, .int v7), (3, .int v9), (4, .int v11), (5, .int v15), (6, .int v19), (7, .int v24), (8, .int v26), (9, .int v30), (10, .int v40)] [] R r52 L _
          exact hj46 r52
theorem uX11_spreadsPairs_161 {Z : am_Z} {X : am_X} (R : am_R) (L : am_L) (a0 : Nat) (v2 : Int32) (v7 : Int32) (v9 : Int32) (v11 : Int32) (v15 : Int32) (v19 : Int32) (v24 : Int32) (v26 : Int32) (v30 : Int32) (h39 : am_G Z a0 = some (.inl 11)) (j37 : am_I → Option (am_I)) (hj37 : ∀ (J38 : am_I), am_V Z X kX11_spreadsPairs (fun r : am_I => (none, R, r, L)) 217 [(0, .ref (am_B Z + a0)), (1, .int v2), (2, .int v7), (3, .int v9), (4, .int v11), (5, .int v15), (6, .int v19), (7, .int v24), (8, .int v26), (9, .int v30)] [] R J38 L (j37 J38)) : ∀ (n : Nat) (v40 : Int32) (J41 : am_I), am_V Z X kX11_spreadsPairs (fun r : am_I => (none, R, r, L)) 161 [(0, .ref (am_B Z + a0)), (1, .int v2), (2, .int v7), (3, .int v9), (4, .int v11), (5, .int v15), (6, .int v19), (7, .int v24), (8, .int v26), (9, .int v30), (10, .int v40)] [] R J41 L (lX11_spreadsPairs_161 R a0 v2 v7 v9 v11 v15 v19 v24 v26 v30 j37 n v40 J41) := by
  intro n
  induction n with
  | zero => intro _ _; exact am_none
  | succ n ih => exact fun v40 J41 => vX11_spreadsPairs_161 R L a0 v2 v7 v9 v11 v15 v19 v24 v26 v30 h39 j37 hj37 (lX11_spreadsPairs_161 R a0 v2 v7 v9 v11 v15 v19 v24 v26 v30 j37 n) ih v40 J41
set_option maxRecDepth 100000 in
set_option maxHeartbeats 4000000 in
theorem vX11_spreadsPairs_106 {Z : am_Z} {X : am_X} (R : am_R) (L : am_L) (a0 : Nat) (v2 : Int32) (v7 : Int32) (v9 : Int32) (v11 : Int32) (v15 : Int32) (v19 : Int32) (v24 : Int32) (v26 : Int32) (h29 : am_G Z a0 = some (.inl 11)) (j27 : am_I → Option (am_I)) (hj27 : ∀ (J28 : am_I), am_V Z X kX11_spreadsPairs (fun r : am_I => (none, R, r, L)) 223 [(0, .ref (am_B Z + a0)), (1, .int v2), (2, .int v7), (3, .int v9), (4, .int v11), (5, .int v15), (6, .int v19)] [] R J28 L (j27 J28)) (ih32 : Int32 → am_I → Option (am_I)) (hih32 : ∀ (v30 : Int32) (J31 : am_I), am_V Z X kX11_spreadsPairs (fun r : am_I => (none, R, r, L)) 106 [(0, .ref (am_B Z + a0)), (1, .int v2), (2, .int v7), (3, .int v9), (4, .int v11), (5, .int v15), (6, .int v19), (7, .int v24), (8, .int v26), (9, .int v30)] [] R J31 L (ih32 v30 J31)) (v30 : Int32) (J31 : am_I) : am_V Z X kX11_spreadsPairs (fun r : am_I => (none, R, r, L)) 106 [(0, .ref (am_B Z + a0)), (1, .int v2), (2, .int v7), (3, .int v9), (4, .int v11), (5, .int v15), (6, .int v19), (7, .int v24), (8, .int v26), (9, .int v30)] [] R J31 L (sX11_spreadsPairs_106 R a0 v2 v7 v9 v11 v15 v19 v24 v26 j27 ih32 v30 J31) := by
  unfold sX11_spreadsPairs_106
  refine am_iload dX11_spreadsPairs_106 9 rfl ?_
  refine am_aload_n dX11_spreadsPairs_108 rfl 0 rfl ?_
  refine am_get 11 3 clX11 (Nat.le_of_ble_eq_true rfl) h29 iX11_spreadsPairs_11 fX11_spreadsPairs_19 rfl dX11_spreadsPairs_109 ?_
  refine am_icmp_ge (tgt := 223) dX11_spreadsPairs_112 rfl (fun e33 => ?_) (fun e33 => ?_)
  · refine am_sub (ls' := [(0, .ref (am_B Z + a0)), (1, .int v2), (2, .int v7), (3, .int v9), (4, .int v11), (5, .int v15), (6, .int v19)]) [0, 1, 2, 3, 4, 5, 6] rfl ?_
    exact hj27 J31
  · refine am_iload dX11_spreadsPairs_115 7 rfl ?_
    refine am_iload dX11_spreadsPairs_117 8 rfl ?_
    refine am_iand dX11_spreadsPairs_119 ?_
    refine am_i2l dX11_spreadsPairs_120 ?_
    refine am_iload dX11_spreadsPairs_121 9 rfl ?_
    refine am_callS [.long (Int32.toInt64 (v24 &&& v26)), .int v30] (tX11_has R J31 L (Int32.toInt64 (v24 &&& v26)) v30) gX11_spreadsPairs_X11_has hX11_has ⟨Nat.le_of_ble_eq_true rfl, Nat.le_of_ble_eq_true rfl⟩ rfl rfl (Nat.le_of_ble_eq_true rfl) dX11_spreadsPairs_123 (fun r34 => ?_)
    show am_V Z X kX11_spreadsPairs (fun r : am_I => (none, R, r, L)) 126 [(0, .ref (am_B Z + a0)), (1, .int v2), (2, .int v7), (3, .int v9), (4, .int v11), (5, .int v15), (6, .int v19), (7, .int v24), (8, .int v26), (9, .int v30)] [.int r34] R J31 L _
    refine am_jnV (fun j35 ej35 => ?_)
    have hj35 : ∀ (J36 : am_I), am_V Z X kX11_spreadsPairs (fun r : am_I => (none, R, r, L)) 158 [(0, .ref (am_B Z + a0)), (1, .int v2), (2, .int v7), (3, .int v9), (4, .int v11), (5, .int v15), (6, .int v19), (7, .int v24), (8, .int v26), (9, .int v30)] [] R J36 L (j35 J36) := by
      subst ej35
      intro J36
      show am_V Z X kX11_spreadsPairs (fun r : am_I => (none, R, r, L)) 158 [(0, .ref (am_B Z + a0)), (1, .int v2), (2, .int v7), (3, .int v9), (4, .int v11), (5, .int v15), (6, .int v19), (7, .int v24), (8, .int v26), (9, .int v30)] [] R J36 L _
      refine am_iconst (v := 0) dX11_spreadsPairs_158 (by decide) ?_
      refine am_istore (ls' := [(10, .int (0 : Int32)), (0, .ref (am_B Z + a0)), (1, .int v2), (2, .int v7), (3, .int v9), (4, .int v11), (5, .int v15), (6, .int v19), (7, .int v24), (8, .int v26), (9, .int v30)]) dX11_spreadsPairs_159 (Nat.le_of_ble_eq_true rfl) rfl ?_
      refine am_jnV (fun j37 ej37 => ?_)
      have hj37 : ∀ (J38 : am_I), am_V Z X kX11_spreadsPairs (fun r : am_I => (none, R, r, L)) 217 [(0, .ref (am_B Z + a0)), (1, .int v2), (2, .int v7), (3, .int v9), (4, .int v11), (5, .int v15), (6, .int v19), (7, .int v24), (8, .int v26), (9, .int v30)] [] R J38 L (j37 J38) := by
        subst ej37
        intro J38
        show am_V Z X kX11_spreadsPairs (fun r : am_I => (none, R, r, L)) 217 [(0, .ref (am_B Z + a0)), (1, .int v2), (2, .int v7), (3, .int v9), (4, .int v11), (5, .int v15), (6, .int v19), (7, .int v24), (8, .int v26), (9, .int v30)] [] R J38 L _
        refine am_iinc (j := 9) (ls' := [(9, .int (v30 + (1 : Int32))), (0, .ref (am_B Z + a0)), (1, .int v2), (2, .int v7), (3, .int v9), (4, .int v11), (5, .int v15), (6, .int v19), (7, .int v24), (8, .int v26)]) dX11_spreadsPairs_217 rfl rfl (Nat.le_of_ble_eq_true rfl) rfl ?_
        refine am_goto (tgt := 106) dX11_spreadsPairs_220 rfl ?_
        refine am_sub (ls' := [(0, .ref (am_B Z + a0)), (1, .int v2), (2, .int v7), (3, .int v9), (4, .int v11), (5, .int v15), (6, .int v19), (7, .int v24), (8, .int v26), (9, .int (v30 + (1 : Int32)))]) [1, 2, 3, 4, 5, 6, 7, 8, 9, 0] rfl ?_
        exact hih32 (v30 + (1 : Int32)) J38
      refine am_sub (ls' := [(0, .ref (am_B Z + a0)), (1, .int v2), (2, .int v7), (3, .int v9), (4, .int v11), (5, .int v15), (6, .int v19), (7, .int v24), (8, .int v26), (9, .int v30), (10, .int (0 : Int32))]) [1, 2, 3, 4, 5, 6, 7, 8, 9, 10, 0] rfl ?_
      exact uX11_spreadsPairs_161 R L a0 v2 v7 v9 v11 v15 v19 v24 v26 v30 h29 j37 hj37 am_fu (0 : Int32) J36
    refine am_if_eq (tgt := 158) dX11_spreadsPairs_126 rfl (fun e53 => ?_) (fun e53 => ?_)
    · exact hj35 J31
    · refine am_iload dX11_spreadsPairs_129 4 rfl ?_
      refine am_iload_n dX11_spreadsPairs_131 rfl 2 rfl ?_
      refine am_iload_n dX11_spreadsPairs_132 rfl 3 rfl ?_
      refine am_letJ (fun k55 ek55 => ?_)
      have hk55 : ∀ v54 : Int32, am_V Z X kX11_spreadsPairs (fun r : am_I => (none, R, r, L)) 141 [(0, .ref (am_B Z + a0)), (1, .int v2), (2, .int v7), (3, .int v9), (4, .int v11), (5, .int v15), (6, .int v19), (7, .int v24), (8, .int v26), (9, .int v30)] [.int v54, .int v11] R J31 L (k55 v54) := by
        subst ek55
        intro v54
        show am_V Z X kX11_spreadsPairs (fun r : am_I => (none, R, r, L)) 141 [(0, .ref (am_B Z + a0)), (1, .int v2), (2, .int v7), (3, .int v9), (4, .int v11), (5, .int v15), (6, .int v19), (7, .int v24), (8, .int v26), (9, .int v30)] [.int v54, .int v11] R J31 L _
        refine am_icmp_ne (tgt := 158) dX11_spreadsPairs_141 rfl (fun e56 => ?_) (fun e56 => ?_)
        · exact hj35 J31
        · refine am_aload_n dX11_spreadsPairs_144 rfl 0 rfl ?_
          refine am_iload dX11_spreadsPairs_145 9 rfl ?_
          refine am_iload dX11_spreadsPairs_147 9 rfl ?_
          refine am_iconst (v := 0) dX11_spreadsPairs_149 (by decide) ?_
          refine am_callS [.int v30, .int v30, .int (0 : Int32)] (tX11_pairNode R J31 L v30 v30 (0 : Int32)) gX11_spreadsPairs_X11_pairNode hX11_pairNode ⟨Nat.le_of_ble_eq_true rfl, Nat.le_of_ble_eq_true rfl⟩ rfl rfl (Nat.le_of_ble_eq_true rfl) dX11_spreadsPairs_150 (fun r57 => ?_)
          show am_V Z X kX11_spreadsPairs (fun r : am_I => (none, R, r, L)) 153 [(0, .ref (am_B Z + a0)), (1, .int v2), (2, .int v7), (3, .int v9), (4, .int v11), (5, .int v15), (6, .int v19), (7, .int v24), (8, .int v26), (9, .int v30)] [.int r57, .ref (am_B Z + a0)] R J31 L _
          refine am_iload dX11_spreadsPairs_153 5 rfl ?_
          refine am_callV [.int r57, .int v15] (tX11_reaches R J31 L a0 r57 v15 h29) h29 clX11 gX11_spreadsPairs_X11_reaches hX11_reaches rfl ⟨Nat.le_of_ble_eq_true rfl, Nat.le_of_ble_eq_true rfl⟩ rfl rfl (Nat.le_of_ble_eq_true rfl) dX11_spreadsPairs_155 (fun r58 => ?_)
          show am_V Z X kX11_spreadsPairs (fun r : am_I => (none, R, r, L)) 158 [(0, .ref (am_B Z + a0)), (1, .int v2), (2, .int v7), (3, .int v9), (4, .int v11), (5, .int v15), (6, .int v19), (7, .int v24), (8, .int v26), (9, .int v30)] [] R r58 L _
          exact hj35 r58
      refine am_icmp_eqL (tgt := 140) dX11_spreadsPairs_133 rfl (fun e59 => ?_) (fun e59 => ?_)
      · refine am_iconst (v := 0) dX11_spreadsPairs_140 (by decide) ?_
        exact hk55 _
      · refine am_iconst (v := 1) dX11_spreadsPairs_136 (by decide) ?_
        refine am_goto (tgt := 141) dX11_spreadsPairs_137 rfl ?_
        exact hk55 _
theorem uX11_spreadsPairs_106 {Z : am_Z} {X : am_X} (R : am_R) (L : am_L) (a0 : Nat) (v2 : Int32) (v7 : Int32) (v9 : Int32) (v11 : Int32) (v15 : Int32) (v19 : Int32) (v24 : Int32) (v26 : Int32) (h29 : am_G Z a0 = some (.inl 11)) (j27 : am_I → Option (am_I)) (hj27 : ∀ (J28 : am_I), am_V Z X kX11_spreadsPairs (fun r : am_I => (none, R, r, L)) 223 [(0, .ref (am_B Z + a0)), (1, .int v2), (2, .int v7), (3, .int v9), (4, .int v11), (5, .int v15), (6, .int v19)] [] R J28 L (j27 J28)) : ∀ (n : Nat) (v30 : Int32) (J31 : am_I), am_V Z X kX11_spreadsPairs (fun r : am_I => (none, R, r, L)) 106 [(0, .ref (am_B Z + a0)), (1, .int v2), (2, .int v7), (3, .int v9), (4, .int v11), (5, .int v15), (6, .int v19), (7, .int v24), (8, .int v26), (9, .int v30)] [] R J31 L (lX11_spreadsPairs_106 R a0 v2 v7 v9 v11 v15 v19 v24 v26 j27 n v30 J31) := by
  intro n
  induction n with
  | zero => intro _ _; exact am_none
  | succ n ih => exact fun v30 J31 => vX11_spreadsPairs_106 R L a0 v2 v7 v9 v11 v15 v19 v24 v26 h29 j27 hj27 (lX11_spreadsPairs_106 R a0 v2 v7 v9 v11 v15 v19 v24 v26 j27 n) ih v30 J31
set_option maxRecDepth 100000 in
set_option maxHeartbeats 4000000 in
theorem vX11_spreadsPairs_69 {Z : am_Z} {X : am_X} (R : am_R) (L : am_L) (a0 : Nat) (v2 : Int32) (v7 : Int32) (v9 : Int32) (v11 : Int32) (v15 : Int32) (h18 : am_G Z a0 = some (.inl 11)) (j16 : am_I → Option (am_I)) (hj16 : ∀ (J17 : am_I), am_V Z X kX11_spreadsPairs (fun r : am_I => (none, R, r, L)) 229 [(0, .ref (am_B Z + a0)), (1, .int v2)] [] R J17 L (j16 J17)) (ih21 : Int32 → am_I → Option (am_I)) (hih21 : ∀ (v19 : Int32) (J20 : am_I), am_V Z X kX11_spreadsPairs (fun r : am_I => (none, R, r, L)) 69 [(0, .ref (am_B Z + a0)), (1, .int v2), (2, .int v7), (3, .int v9), (4, .int v11), (5, .int v15), (6, .int v19)] [] R J20 L (ih21 v19 J20)) (v19 : Int32) (J20 : am_I) : am_V Z X kX11_spreadsPairs (fun r : am_I => (none, R, r, L)) 69 [(0, .ref (am_B Z + a0)), (1, .int v2), (2, .int v7), (3, .int v9), (4, .int v11), (5, .int v15), (6, .int v19)] [] R J20 L (sX11_spreadsPairs_69 R a0 v2 v7 v9 v11 v15 j16 ih21 v19 J20) := by
  unfold sX11_spreadsPairs_69
  refine am_iload dX11_spreadsPairs_69 6 rfl ?_
  refine am_iconst (v := 3) dX11_spreadsPairs_71 (by decide) ?_
  refine am_icmp_ge (tgt := 229) dX11_spreadsPairs_72 rfl (fun e22 => ?_) (fun e22 => ?_)
  · refine am_sub (ls' := [(0, .ref (am_B Z + a0)), (1, .int v2)]) [0, 1] rfl ?_
    exact hj16 J20
  · refine am_aload_n dX11_spreadsPairs_75 rfl 0 rfl ?_
    refine am_getR 11 1 clX11 (Nat.le_of_ble_eq_true rfl) h18 iX11_spreadsPairs_11 fX11_spreadsPairs_13 rfl rfl dX11_spreadsPairs_76 (fun h23 => ?_)
    refine am_bipush (v := 6) dX11_spreadsPairs_79 (by decide) ?_
    refine am_iload dX11_spreadsPairs_81 6 rfl ?_
    refine am_imul dX11_spreadsPairs_83 ?_
    refine am_iload_n dX11_spreadsPairs_84 rfl 2 rfl ?_
    refine am_iadd dX11_spreadsPairs_85 ?_
    refine am_iald h23 dX11_spreadsPairs_86 ?_
    refine am_letTi (fun v24 => ?_)
    refine am_istore (ls' := [(7, .int v24), (0, .ref (am_B Z + a0)), (1, .int v2), (2, .int v7), (3, .int v9), (4, .int v11), (5, .int v15), (6, .int v19)]) dX11_spreadsPairs_87 (Nat.le_of_ble_eq_true rfl) rfl ?_
    refine am_aload_n dX11_spreadsPairs_89 rfl 1 rfl ?_
    refine am_getR 11 1 clX11 (Nat.le_of_ble_eq_true rfl) h18 iX11_spreadsPairs_11 fX11_spreadsPairs_13 rfl rfl dX11_spreadsPairs_90 (fun h25 => ?_)
    refine am_bipush (v := 6) dX11_spreadsPairs_93 (by decide) ?_
    refine am_iload dX11_spreadsPairs_95 7 rfl ?_
    refine am_imul dX11_spreadsPairs_97 ?_
    refine am_iload_n dX11_spreadsPairs_98 rfl 4 rfl ?_
    refine am_iadd dX11_spreadsPairs_99 ?_
    refine am_iald h25 dX11_spreadsPairs_100 ?_
    refine am_letTi (fun v26 => ?_)
    refine am_istore (ls' := [(8, .int v26), (7, .int v24), (0, .ref (am_B Z + a0)), (1, .int v2), (2, .int v7), (3, .int v9), (4, .int v11), (5, .int v15), (6, .int v19)]) dX11_spreadsPairs_101 (Nat.le_of_ble_eq_true rfl) rfl ?_
    refine am_iconst (v := 0) dX11_spreadsPairs_103 (by decide) ?_
    refine am_istore (ls' := [(9, .int (0 : Int32)), (8, .int v26), (7, .int v24), (0, .ref (am_B Z + a0)), (1, .int v2), (2, .int v7), (3, .int v9), (4, .int v11), (5, .int v15), (6, .int v19)]) dX11_spreadsPairs_104 (Nat.le_of_ble_eq_true rfl) rfl ?_
    refine am_jnV (fun j27 ej27 => ?_)
    have hj27 : ∀ (J28 : am_I), am_V Z X kX11_spreadsPairs (fun r : am_I => (none, R, r, L)) 223 [(0, .ref (am_B Z + a0)), (1, .int v2), (2, .int v7), (3, .int v9), (4, .int v11), (5, .int v15), (6, .int v19)] [] R J28 L (j27 J28) := by
      subst ej27
      intro J28
      show am_V Z X kX11_spreadsPairs (fun r : am_I => (none, R, r, L)) 223 [(0, .ref (am_B Z + a0)), (1, .int v2), (2, .int v7), (3, .int v9), (4, .int v11), (5, .int v15), (6, .int v19)] [] R J28 L _
      refine am_iinc (j := 6) (ls' := [(6, .int (v19 + (1 : Int32))), (0, .ref (am_B Z + a0)), (1, .int v2), (2, .int v7), (3, .int v9), (4, .int v11), (5, .int v15)]) dX11_spreadsPairs_223 rfl rfl (Nat.le_of_ble_eq_true rfl) rfl ?_
      refine am_goto (tgt := 69) dX11_spreadsPairs_226 rfl ?_
      refine am_sub (ls' := [(0, .ref (am_B Z + a0)), (1, .int v2), (2, .int v7), (3, .int v9), (4, .int v11), (5, .int v15), (6, .int (v19 + (1 : Int32)))]) [1, 2, 3, 4, 5, 6, 0] rfl ?_
      exact hih21 (v19 + (1 : Int32)) J28
    refine am_sub (ls' := [(0, .ref (am_B Z + a0)), (1, .int v2), (2, .int v7), (3, .int v9), (4, .int v11), (5, .int v15), (6, .int v19), (7, .int v24), (8, .int v26), (9, .int (0 : Int32))]) [3, 4, 5, 6, 7, 8, 9, 2, 1, 0] rfl ?_
    exact uX11_spreadsPairs_106 R L a0 v2 v7 v9 v11 v15 v19 v24 v26 h18 j27 hj27 am_fu (0 : Int32) J20
theorem uX11_spreadsPairs_69 {Z : am_Z} {X : am_X} (R : am_R) (L : am_L) (a0 : Nat) (v2 : Int32) (v7 : Int32) (v9 : Int32) (v11 : Int32) (v15 : Int32) (h18 : am_G Z a0 = some (.inl 11)) (j16 : am_I → Option (am_I)) (hj16 : ∀ (J17 : am_I), am_V Z X kX11_spreadsPairs (fun r : am_I => (none, R, r, L)) 229 [(0, .ref (am_B Z + a0)), (1, .int v2)] [] R J17 L (j16 J17)) : ∀ (n : Nat) (v19 : Int32) (J20 : am_I), am_V Z X kX11_spreadsPairs (fun r : am_I => (none, R, r, L)) 69 [(0, .ref (am_B Z + a0)), (1, .int v2), (2, .int v7), (3, .int v9), (4, .int v11), (5, .int v15), (6, .int v19)] [] R J20 L (lX11_spreadsPairs_69 R a0 v2 v7 v9 v11 v15 j16 n v19 J20) := by
  intro n
  induction n with
  | zero => intro _ _; exact am_none
  | succ n ih => exact fun v19 J20 => vX11_spreadsPairs_69 R L a0 v2 v7 v9 v11 v15 h18 j16 hj16 (lX11_spreadsPairs_69 R a0 v2 v7 v9 v11 v15 j16 n) ih v19 J20
set_option maxRecDepth 100000 in
set_option maxHeartbeats 4000000 in
theorem vX11_spreadsPairs_2 {Z : am_Z} {X : am_X} (R : am_R) (L : am_L) (a0 : Nat) (h1 : am_G Z a0 = some (.inl 11)) (ih4 : Int32 → am_I → Option (am_I)) (hih4 : ∀ (v2 : Int32) (J3 : am_I), am_V Z X kX11_spreadsPairs (fun r : am_I => (none, R, r, L)) 2 [(0, .ref (am_B Z + a0)), (1, .int v2)] [] R J3 L (ih4 v2 J3)) (v2 : Int32) (J3 : am_I) : am_V Z X kX11_spreadsPairs (fun r : am_I => (none, R, r, L)) 2 [(0, .ref (am_B Z + a0)), (1, .int v2)] [] R J3 L (sX11_spreadsPairs_2 R a0 ih4 v2 J3) := by
  unfold sX11_spreadsPairs_2
  refine am_iload_n dX11_spreadsPairs_2 rfl 1 rfl ?_
  refine am_aload_n dX11_spreadsPairs_3 rfl 0 rfl ?_
  refine am_get 11 21 clX11 (Nat.le_of_ble_eq_true rfl) h1 iX11_spreadsPairs_11 fX11_spreadsPairs_234 rfl dX11_spreadsPairs_4 ?_
  refine am_icmp_ge (tgt := 235) dX11_spreadsPairs_7 rfl (fun e5 => ?_) (fun e5 => ?_)
  · exact am_vret dX11_spreadsPairs_235 rfl rfl
  · refine am_aload_n dX11_spreadsPairs_10 rfl 0 rfl ?_
    refine am_getR 11 20 clX11 (Nat.le_of_ble_eq_true rfl) h1 iX11_spreadsPairs_11 fX11_spreadsPairs_48 rfl rfl dX11_spreadsPairs_11 (fun h6 => ?_)
    refine am_iload_n dX11_spreadsPairs_14 rfl 1 rfl ?_
    refine am_iald h6 dX11_spreadsPairs_15 ?_
    refine am_bipush (v := 12) dX11_spreadsPairs_16 (by decide) ?_
    refine am_idivC dX11_spreadsPairs_18 (by decide) ?_
    refine am_letTi (fun v7 => ?_)
    refine am_istore_n (ls' := [(2, .int v7), (0, .ref (am_B Z + a0)), (1, .int v2)]) dX11_spreadsPairs_19 rfl (Nat.le_of_ble_eq_true rfl) rfl ?_
    refine am_aload_n dX11_spreadsPairs_20 rfl 1 rfl ?_
    refine am_getR 11 20 clX11 (Nat.le_of_ble_eq_true rfl) h1 iX11_spreadsPairs_11 fX11_spreadsPairs_48 rfl rfl dX11_spreadsPairs_21 (fun h8 => ?_)
    refine am_iload_n dX11_spreadsPairs_24 rfl 2 rfl ?_
    refine am_iald h8 dX11_spreadsPairs_25 ?_
    refine am_iconst (v := 2) dX11_spreadsPairs_26 (by decide) ?_
    refine am_idivC dX11_spreadsPairs_27 (by decide) ?_
    refine am_bipush (v := 6) dX11_spreadsPairs_28 (by decide) ?_
    refine am_iremC dX11_spreadsPairs_30 (by decide) ?_
    refine am_letTi (fun v9 => ?_)
    refine am_istore_n (ls' := [(3, .int v9), (2, .int v7), (0, .ref (am_B Z + a0)), (1, .int v2)]) dX11_spreadsPairs_31 rfl (Nat.le_of_ble_eq_true rfl) rfl ?_
    refine am_aload_n dX11_spreadsPairs_32 rfl 2 rfl ?_
    refine am_getR 11 20 clX11 (Nat.le_of_ble_eq_true rfl) h1 iX11_spreadsPairs_11 fX11_spreadsPairs_48 rfl rfl dX11_spreadsPairs_33 (fun h10 => ?_)
    refine am_iload_n dX11_spreadsPairs_36 rfl 3 rfl ?_
    refine am_iald h10 dX11_spreadsPairs_37 ?_
    refine am_iconst (v := 2) dX11_spreadsPairs_38 (by decide) ?_
    refine am_iremC dX11_spreadsPairs_39 (by decide) ?_
    refine am_iconst (v := 1) dX11_spreadsPairs_40 (by decide) ?_
    refine am_letJ (fun k12 ek12 => ?_)
    have hk12 : ∀ v11 : Int32, am_V Z X kX11_spreadsPairs (fun r : am_I => (none, R, r, L)) 49 [(0, .ref (am_B Z + a0)), (1, .int v2), (2, .int v7), (3, .int v9)] [.int v11] R J3 L (k12 v11) := by
      subst ek12
      intro v11
      show am_V Z X kX11_spreadsPairs (fun r : am_I => (none, R, r, L)) 49 [(0, .ref (am_B Z + a0)), (1, .int v2), (2, .int v7), (3, .int v9)] [.int v11] R J3 L _
      refine am_istore (ls' := [(4, .int v11), (0, .ref (am_B Z + a0)), (1, .int v2), (2, .int v7), (3, .int v9)]) dX11_spreadsPairs_49 (Nat.le_of_ble_eq_true rfl) rfl ?_
      refine am_aload_n dX11_spreadsPairs_51 rfl 1 rfl ?_
      refine am_getR 11 19 clX11 (Nat.le_of_ble_eq_true rfl) h1 iX11_spreadsPairs_11 fX11_spreadsPairs_45 rfl rfl dX11_spreadsPairs_52 (fun h13 => ?_)
      refine am_aload_n dX11_spreadsPairs_55 rfl 1 rfl ?_
      refine am_getR 11 20 clX11 (Nat.le_of_ble_eq_true rfl) h1 iX11_spreadsPairs_11 fX11_spreadsPairs_48 rfl rfl dX11_spreadsPairs_56 (fun h14 => ?_)
      refine am_iload_n dX11_spreadsPairs_59 rfl 2 rfl ?_
      refine am_iald h14 dX11_spreadsPairs_60 ?_
      refine am_iald h13 dX11_spreadsPairs_61 ?_
      refine am_iconst (v := 1) dX11_spreadsPairs_62 (by decide) ?_
      refine am_iadd dX11_spreadsPairs_63 ?_
      refine am_letTi (fun v15 => ?_)
      refine am_istore (ls' := [(5, .int v15), (4, .int v11), (0, .ref (am_B Z + a0)), (1, .int v2), (2, .int v7), (3, .int v9)]) dX11_spreadsPairs_64 (Nat.le_of_ble_eq_true rfl) rfl ?_
      refine am_iconst (v := 0) dX11_spreadsPairs_66 (by decide) ?_
      refine am_istore (ls' := [(6, .int (0 : Int32)), (5, .int v15), (4, .int v11), (0, .ref (am_B Z + a0)), (1, .int v2), (2, .int v7), (3, .int v9)]) dX11_spreadsPairs_67 (Nat.le_of_ble_eq_true rfl) rfl ?_
      refine am_jnV (fun j16 ej16 => ?_)
      have hj16 : ∀ (J17 : am_I), am_V Z X kX11_spreadsPairs (fun r : am_I => (none, R, r, L)) 229 [(0, .ref (am_B Z + a0)), (1, .int v2)] [] R J17 L (j16 J17) := by
        subst ej16
        intro J17
        show am_V Z X kX11_spreadsPairs (fun r : am_I => (none, R, r, L)) 229 [(0, .ref (am_B Z + a0)), (1, .int v2)] [] R J17 L _
        refine am_iinc (j := 1) (ls' := [(1, .int (v2 + (1 : Int32))), (0, .ref (am_B Z + a0))]) dX11_spreadsPairs_229 rfl rfl (Nat.le_of_ble_eq_true rfl) rfl ?_
        refine am_goto (tgt := 2) dX11_spreadsPairs_232 rfl ?_
        refine am_sub (ls' := [(0, .ref (am_B Z + a0)), (1, .int (v2 + (1 : Int32)))]) [1, 0] rfl ?_
        exact hih4 (v2 + (1 : Int32)) J17
      refine am_sub (ls' := [(0, .ref (am_B Z + a0)), (1, .int v2), (2, .int v7), (3, .int v9), (4, .int v11), (5, .int v15), (6, .int (0 : Int32))]) [3, 4, 5, 6, 2, 1, 0] rfl ?_
      exact uX11_spreadsPairs_69 R L a0 v2 v7 v9 v11 v15 h1 j16 hj16 am_fu (0 : Int32) J3
    refine am_icmp_neL (tgt := 48) dX11_spreadsPairs_41 rfl (fun e60 => ?_) (fun e60 => ?_)
    · refine am_iconst (v := 0) dX11_spreadsPairs_48 (by decide) ?_
      refine am_sub (ls' := [(0, .ref (am_B Z + a0)), (1, .int v2), (2, .int v7), (3, .int v9)]) [2, 3, 1, 0] rfl ?_
      exact hk12 _
    · refine am_iconst (v := 1) dX11_spreadsPairs_44 (by decide) ?_
      refine am_goto (tgt := 49) dX11_spreadsPairs_45 rfl ?_
      refine am_sub (ls' := [(0, .ref (am_B Z + a0)), (1, .int v2), (2, .int v7), (3, .int v9)]) [2, 3, 1, 0] rfl ?_
      exact hk12 _
theorem uX11_spreadsPairs_2 {Z : am_Z} {X : am_X} (R : am_R) (L : am_L) (a0 : Nat) (h1 : am_G Z a0 = some (.inl 11)) : ∀ (n : Nat) (v2 : Int32) (J3 : am_I), am_V Z X kX11_spreadsPairs (fun r : am_I => (none, R, r, L)) 2 [(0, .ref (am_B Z + a0)), (1, .int v2)] [] R J3 L (lX11_spreadsPairs_2 R a0 n v2 J3) := by
  intro n
  induction n with
  | zero => intro _ _; exact am_none
  | succ n ih => exact fun v2 J3 => vX11_spreadsPairs_2 R L a0 h1 (lX11_spreadsPairs_2 R a0 n) ih v2 J3
set_option maxRecDepth 100000 in
set_option maxHeartbeats 4000000 in
theorem tX11_spreadsPairs {Z : am_Z} (R : am_R) (I : am_I) (L : am_L) (a0 : Nat) (h_a0 : am_G Z a0 = some (.inl 11)) : am_M Z yX11_spreadsPairs kX11_spreadsPairs [.ref (am_B Z + a0)] R I L (pX11_spreadsPairs R I a0) (fun r : am_I => (none, R, r, L)) := by
  refine am_entry (ls := [(0, .ref (am_B Z + a0))]) (by decide) hX11_spreadsPairs rfl (Nat.le_of_ble_eq_true rfl) rfl (fun X => ?_)
  unfold pX11_spreadsPairs
  refine am_iconst (v := 0) dX11_spreadsPairs_0 (by decide) ?_
  refine am_istore_n (ls' := [(1, .int (0 : Int32)), (0, .ref (am_B Z + a0))]) dX11_spreadsPairs_1 rfl (Nat.le_of_ble_eq_true rfl) rfl ?_
  refine am_sub (ls' := [(0, .ref (am_B Z + a0)), (1, .int (0 : Int32))]) [1, 0] rfl ?_
  exact uX11_spreadsPairs_2 R L a0 h_a0 am_fu (0 : Int32) I
abbrev kX11_leadsPair : am_K := (cX11_leadsPair, 9, RX11, wsX11_leadsPair, some .boolean, { frames := 1, cells := 0, slots := 0, locals := 22 })
theorem hX11_leadsPair : am_cl yX11_leadsPair kX11_leadsPair 3 := ⟨⟨_, rfl⟩, rfl, rfl, by decide +kernel, by decide +kernel, by decide +kernel⟩
theorem iX11_leadsPair_11 : ∀ w ∈ u_ws RX11 TX11 50, w ∈ wsX11_leadsPair := by decide +kernel
theorem fX11_leadsPair_7 : Cond.fieldLink RX11 7 "AmbiguityAnalyzerModel" "targets" "[I" ∈ wsX11_leadsPair := by decide +kernel
set_option maxRecDepth 100000 in
set_option maxHeartbeats 4000000 in
theorem tX11_leadsPair {Z : am_Z} (R : am_R) (I : am_I) (L : am_L) (a0 : Nat) (x1 : Int32) (x2 : Int32) (x3 : Int32) (h_a0 : am_G Z a0 = some (.inl 11)) : am_M Z yX11_leadsPair kX11_leadsPair [.ref (am_B Z + a0), .int x1, .int x2, .int x3] R I L (pX11_leadsPair R I a0 x1 x2 x3) (fun r : Int32 => (some (.int r), R, I, L)) := by
  refine am_entry (ls := [(0, .ref (am_B Z + a0)), (1, .int x1), (2, .int x2), (3, .int x3)]) (by decide) hX11_leadsPair rfl (Nat.le_of_ble_eq_true rfl) rfl (fun X => ?_)
  unfold pX11_leadsPair
  refine am_iload_n dX11_leadsPair_0 rfl 1 rfl ?_
  refine am_bipush (v := 12) dX11_leadsPair_1 (by decide) ?_
  refine am_idivC dX11_leadsPair_3 (by decide) ?_
  refine am_letTi (fun v1 => ?_)
  refine am_istore (ls' := [(4, .int v1), (0, .ref (am_B Z + a0)), (1, .int x1), (2, .int x2), (3, .int x3)]) dX11_leadsPair_4 (Nat.le_of_ble_eq_true rfl) rfl ?_
  refine am_iload_n dX11_leadsPair_6 rfl 2 rfl ?_
  refine am_iconst (v := 2) dX11_leadsPair_7 (by decide) ?_
  refine am_idivC dX11_leadsPair_8 (by decide) ?_
  refine am_bipush (v := 6) dX11_leadsPair_9 (by decide) ?_
  refine am_iremC dX11_leadsPair_11 (by decide) ?_
  refine am_letTi (fun v2 => ?_)
  refine am_istore (ls' := [(5, .int v2), (4, .int v1), (0, .ref (am_B Z + a0)), (1, .int x1), (2, .int x2), (3, .int x3)]) dX11_leadsPair_12 (Nat.le_of_ble_eq_true rfl) rfl ?_
  refine am_iload_n dX11_leadsPair_14 rfl 5 rfl ?_
  refine am_bipush (v := 12) dX11_leadsPair_15 (by decide) ?_
  refine am_idivC dX11_leadsPair_17 (by decide) ?_
  refine am_letTi (fun v3 => ?_)
  refine am_istore (ls' := [(6, .int v3), (5, .int v2), (4, .int v1), (0, .ref (am_B Z + a0)), (1, .int x1), (2, .int x2), (3, .int x3)]) dX11_leadsPair_18 (Nat.le_of_ble_eq_true rfl) rfl ?_
  refine am_iload_n dX11_leadsPair_20 rfl 6 rfl ?_
  refine am_iconst (v := 2) dX11_leadsPair_21 (by decide) ?_
  refine am_idivC dX11_leadsPair_22 (by decide) ?_
  refine am_bipush (v := 6) dX11_leadsPair_23 (by decide) ?_
  refine am_iremC dX11_leadsPair_25 (by decide) ?_
  refine am_letTi (fun v4 => ?_)
  refine am_istore (ls' := [(7, .int v4), (6, .int v3), (5, .int v2), (4, .int v1), (0, .ref (am_B Z + a0)), (1, .int x1), (2, .int x2), (3, .int x3)]) dX11_leadsPair_26 (Nat.le_of_ble_eq_true rfl) rfl ?_
  refine am_iload_n dX11_leadsPair_28 rfl 5 rfl ?_
  refine am_iconst (v := 2) dX11_leadsPair_29 (by decide) ?_
  refine am_iremC dX11_leadsPair_30 (by decide) ?_
  refine am_iconst (v := 1) dX11_leadsPair_31 (by decide) ?_
  refine am_letJ (fun k6 ek6 => ?_)
  have hk6 : ∀ v5 : Int32, am_V Z X kX11_leadsPair (fun r : Int32 => (some (.int r), R, I, L)) 47 [(0, .ref (am_B Z + a0)), (2, .int x2), (3, .int x3), (4, .int v1), (5, .int v2), (6, .int v3), (7, .int v4)] [.int v5] R I L (k6 v5) := by
    subst ek6
    intro v5
    show am_V Z X kX11_leadsPair (fun r : Int32 => (some (.int r), R, I, L)) 47 [(0, .ref (am_B Z + a0)), (2, .int x2), (3, .int x3), (4, .int v1), (5, .int v2), (6, .int v3), (7, .int v4)] [.int v5] R I L _
    refine am_istore (ls' := [(8, .int v5), (0, .ref (am_B Z + a0)), (2, .int x2), (3, .int x3), (4, .int v1), (5, .int v2), (6, .int v3), (7, .int v4)]) dX11_leadsPair_47 (Nat.le_of_ble_eq_true rfl) rfl ?_
    refine am_iload dX11_leadsPair_49 0 rfl ?_
    refine am_iload_n dX11_leadsPair_51 rfl 3 rfl ?_
    refine am_iconst (v := 2) dX11_leadsPair_52 (by decide) ?_
    refine am_iremC dX11_leadsPair_53 (by decide) ?_
    refine am_iconst (v := 1) dX11_leadsPair_54 (by decide) ?_
    refine am_letJ (fun k8 ek8 => ?_)
    have hk8 : ∀ v7 : Int32, am_V Z X kX11_leadsPair (fun r : Int32 => (some (.int r), R, I, L)) 63 [(0, .ref (am_B Z + a0)), (2, .int x2), (4, .int v1), (5, .int v2), (6, .int v3), (7, .int v4)] [.int v7, .int v5] R I L (k8 v7) := by
      subst ek8
      intro v7
      show am_V Z X kX11_leadsPair (fun r : Int32 => (some (.int r), R, I, L)) 63 [(0, .ref (am_B Z + a0)), (2, .int x2), (4, .int v1), (5, .int v2), (6, .int v3), (7, .int v4)] [.int v7, .int v5] R I L _
      refine am_icmp_ne (tgt := 112) dX11_leadsPair_63 rfl (fun e9 => ?_) (fun e9 => ?_)
      · refine am_iconst (v := 0) dX11_leadsPair_112 (by decide) ?_
        exact am_zret (by decide) dX11_leadsPair_113 rfl rfl
      · refine am_aload_n dX11_leadsPair_66 rfl 0 rfl ?_
        refine am_getR 11 0 clX11 (Nat.le_of_ble_eq_true rfl) h_a0 iX11_leadsPair_11 fX11_leadsPair_7 rfl rfl dX11_leadsPair_67 (fun h10 => ?_)
        refine am_bipush (v := 6) dX11_leadsPair_70 (by decide) ?_
        refine am_iload_n dX11_leadsPair_72 rfl 1 rfl ?_
        refine am_imul dX11_leadsPair_73 ?_
        refine am_iload dX11_leadsPair_74 2 rfl ?_
        refine am_iadd dX11_leadsPair_76 ?_
        refine am_iald h10 dX11_leadsPair_77 ?_
        refine am_i2l dX11_leadsPair_78 ?_
        refine am_iload dX11_leadsPair_79 4 rfl ?_
        refine am_callS [.long (Int32.toInt64 (I (R a0 0) (Int32.toNatClampNeg (((6 : Int32) * x2) + v1)))), .int v3] (tX11_has R I L (Int32.toInt64 (I (R a0 0) (Int32.toNatClampNeg (((6 : Int32) * x2) + v1)))) v3) gX11_leadsPair_X11_has hX11_has ⟨Nat.le_of_ble_eq_true rfl, Nat.le_of_ble_eq_true rfl⟩ rfl rfl (Nat.le_of_ble_eq_true rfl) dX11_leadsPair_81 (fun r11 => ?_)
        show am_V Z X kX11_leadsPair (fun r : Int32 => (some (.int r), R, I, L)) 84 [(0, .ref (am_B Z + a0)), (2, .int x2), (4, .int v1), (5, .int v2), (6, .int v3), (7, .int v4)] [.int r11] R I L _
        refine am_if_eq (tgt := 112) dX11_leadsPair_84 rfl (fun e12 => ?_) (fun e12 => ?_)
        · refine am_iconst (v := 0) dX11_leadsPair_112 (by decide) ?_
          exact am_zret (by decide) dX11_leadsPair_113 rfl rfl
        · refine am_aload_n dX11_leadsPair_87 rfl 0 rfl ?_
          refine am_getR 11 0 clX11 (Nat.le_of_ble_eq_true rfl) h_a0 iX11_leadsPair_11 fX11_leadsPair_7 rfl rfl dX11_leadsPair_88 (fun h13 => ?_)
          refine am_bipush (v := 6) dX11_leadsPair_91 (by decide) ?_
          refine am_iload_n dX11_leadsPair_93 rfl 1 rfl ?_
          refine am_imul dX11_leadsPair_94 ?_
          refine am_iload dX11_leadsPair_95 3 rfl ?_
          refine am_iadd dX11_leadsPair_97 ?_
          refine am_iald h13 dX11_leadsPair_98 ?_
          refine am_i2l dX11_leadsPair_99 ?_
          refine am_iload dX11_leadsPair_100 5 rfl ?_
          refine am_callS [.long (Int32.toInt64 (I (R a0 0) (Int32.toNatClampNeg (((6 : Int32) * x2) + v2)))), .int v4] (tX11_has R I L (Int32.toInt64 (I (R a0 0) (Int32.toNatClampNeg (((6 : Int32) * x2) + v2)))) v4) gX11_leadsPair_X11_has hX11_has ⟨Nat.le_of_ble_eq_true rfl, Nat.le_of_ble_eq_true rfl⟩ rfl rfl (Nat.le_of_ble_eq_true rfl) dX11_leadsPair_102 (fun r14 => ?_)
          show am_V Z X kX11_leadsPair (fun r : Int32 => (some (.int r), R, I, L)) 105 [(0, .ref (am_B Z + a0)), (2, .int x2), (4, .int v1), (5, .int v2), (6, .int v3), (7, .int v4)] [.int r14] R I L _
          refine am_if_eq (tgt := 112) dX11_leadsPair_105 rfl (fun e15 => ?_) (fun e15 => ?_)
          · refine am_iconst (v := 0) dX11_leadsPair_112 (by decide) ?_
            exact am_zret (by decide) dX11_leadsPair_113 rfl rfl
          · refine am_iconst (v := 1) dX11_leadsPair_108 (by decide) ?_
            refine am_goto (tgt := 113) dX11_leadsPair_109 rfl ?_
            exact am_zret (by decide) dX11_leadsPair_113 rfl rfl
    refine am_icmp_neL (tgt := 62) dX11_leadsPair_55 rfl (fun e16 => ?_) (fun e16 => ?_)
    · refine am_iconst (v := 0) dX11_leadsPair_62 (by decide) ?_
      refine am_sub (ls' := [(0, .ref (am_B Z + a0)), (2, .int x2), (4, .int v1), (5, .int v2), (6, .int v3), (7, .int v4)]) [1, 2, 4, 5, 6, 7] rfl ?_
      exact hk8 _
    · refine am_iconst (v := 1) dX11_leadsPair_58 (by decide) ?_
      refine am_goto (tgt := 63) dX11_leadsPair_59 rfl ?_
      refine am_sub (ls' := [(0, .ref (am_B Z + a0)), (2, .int x2), (4, .int v1), (5, .int v2), (6, .int v3), (7, .int v4)]) [1, 2, 4, 5, 6, 7] rfl ?_
      exact hk8 _
  refine am_icmp_eqL (tgt := 42) dX11_leadsPair_32 rfl (fun e17 => ?_) (fun e17 => ?_)
  · refine am_iconst (v := 1) dX11_leadsPair_42 (by decide) ?_
    refine am_goto (tgt := 47) dX11_leadsPair_43 rfl ?_
    refine am_sub (ls' := [(0, .ref (am_B Z + a0)), (2, .int x2), (3, .int x3), (4, .int v1), (5, .int v2), (6, .int v3), (7, .int v4)]) [4, 6, 7, 3, 2, 1, 0] rfl ?_
    exact hk6 _
  · refine am_iload dX11_leadsPair_35 1 rfl ?_
    refine am_iload dX11_leadsPair_37 0 rfl ?_
    refine am_icmp_eqL (tgt := 46) dX11_leadsPair_39 rfl (fun e18 => ?_) (fun e18 => ?_)
    · refine am_iconst (v := 0) dX11_leadsPair_46 (by decide) ?_
      refine am_sub (ls' := [(0, .ref (am_B Z + a0)), (2, .int x2), (3, .int x3), (4, .int v1), (5, .int v2), (6, .int v3), (7, .int v4)]) [4, 6, 7, 3, 2, 1, 0] rfl ?_
      exact hk6 _
    · refine am_iconst (v := 1) dX11_leadsPair_42 (by decide) ?_
      refine am_goto (tgt := 47) dX11_leadsPair_43 rfl ?_
      refine am_sub (ls' := [(0, .ref (am_B Z + a0)), (2, .int x2), (3, .int x3), (4, .int v1), (5, .int v2), (6, .int v3), (7, .int v4)]) [4, 6, 7, 3, 2, 1, 0] rfl ?_
      exact hk6 _
abbrev kX11_leadsTriple : am_K := (cX11_leadsTriple, 5, RX11, wsX11_leadsTriple, some .boolean, { frames := 1, cells := 0, slots := 0, locals := 22 })
theorem hX11_leadsTriple : am_cl yX11_leadsTriple kX11_leadsTriple 3 := ⟨⟨_, rfl⟩, rfl, rfl, by decide +kernel, by decide +kernel, by decide +kernel⟩
theorem iX11_leadsTriple_11 : ∀ w ∈ u_ws RX11 TX11 50, w ∈ wsX11_leadsTriple := by decide +kernel
theorem fX11_leadsTriple_7 : Cond.fieldLink RX11 7 "AmbiguityAnalyzerModel" "targets" "[I" ∈ wsX11_leadsTriple := by decide +kernel
set_option maxRecDepth 100000 in
set_option maxHeartbeats 4000000 in
theorem tX11_leadsTriple {Z : am_Z} (R : am_R) (I : am_I) (L : am_L) (a0 : Nat) (x1 : Int32) (x2 : Int32) (x3 : Int32) (h_a0 : am_G Z a0 = some (.inl 11)) : am_M Z yX11_leadsTriple kX11_leadsTriple [.ref (am_B Z + a0), .int x1, .int x2, .int x3] R I L (pX11_leadsTriple R I a0 x1 x2 x3) (fun r : Int32 => (some (.int r), R, I, L)) := by
  refine am_entry (ls := [(0, .ref (am_B Z + a0)), (1, .int x1), (2, .int x2), (3, .int x3)]) (by decide) hX11_leadsTriple rfl (Nat.le_of_ble_eq_true rfl) rfl (fun X => ?_)
  unfold pX11_leadsTriple
  refine am_bipush (v := 6) dX11_leadsTriple_0 (by decide) ?_
  refine am_iload_n dX11_leadsTriple_2 rfl 2 rfl ?_
  refine am_imul dX11_leadsTriple_3 ?_
  refine am_letTi (fun v1 => ?_)
  refine am_istore (ls' := [(4, .int v1), (0, .ref (am_B Z + a0)), (1, .int x1), (2, .int x2), (3, .int x3)]) dX11_leadsTriple_4 (Nat.le_of_ble_eq_true rfl) rfl ?_
  refine am_aload_n dX11_leadsTriple_6 rfl 1 rfl ?_
  refine am_getR 11 0 clX11 (Nat.le_of_ble_eq_true rfl) h_a0 iX11_leadsTriple_11 fX11_leadsTriple_7 rfl rfl dX11_leadsTriple_7 (fun h2 => ?_)
  refine am_iload dX11_leadsTriple_10 0 rfl ?_
  refine am_iload_n dX11_leadsTriple_12 rfl 2 rfl ?_
  refine am_bipush (v := 36) dX11_leadsTriple_13 (by decide) ?_
  refine am_idivC dX11_leadsTriple_15 (by decide) ?_
  refine am_iadd dX11_leadsTriple_16 ?_
  refine am_iald h2 dX11_leadsTriple_17 ?_
  refine am_i2l dX11_leadsTriple_18 ?_
  refine am_iload_n dX11_leadsTriple_19 rfl 4 rfl ?_
  refine am_bipush (v := 36) dX11_leadsTriple_20 (by decide) ?_
  refine am_idivC dX11_leadsTriple_22 (by decide) ?_
  refine am_callS [.long (Int32.toInt64 (I (R a0 0) (Int32.toNatClampNeg (v1 + (x1 / (36 : Int32)))))), .int (x3 / (36 : Int32))] (tX11_has R I L (Int32.toInt64 (I (R a0 0) (Int32.toNatClampNeg (v1 + (x1 / (36 : Int32)))))) (x3 / (36 : Int32))) gX11_leadsTriple_X11_has hX11_has ⟨Nat.le_of_ble_eq_true rfl, Nat.le_of_ble_eq_true rfl⟩ rfl rfl (Nat.le_of_ble_eq_true rfl) dX11_leadsTriple_23 (fun r3 => ?_)
  show am_V Z X kX11_leadsTriple (fun r : Int32 => (some (.int r), R, I, L)) 26 [(4, .int v1), (0, .ref (am_B Z + a0)), (1, .int x1), (2, .int x2), (3, .int x3)] [.int r3] R I L _
  refine am_if_eq (tgt := 85) dX11_leadsTriple_26 rfl (fun e4 => ?_) (fun e4 => ?_)
  · refine am_iconst (v := 0) dX11_leadsTriple_85 (by decide) ?_
    exact am_zret (by decide) dX11_leadsTriple_86 rfl rfl
  · refine am_aload_n dX11_leadsTriple_29 rfl 1 rfl ?_
    refine am_getR 11 0 clX11 (Nat.le_of_ble_eq_true rfl) h_a0 iX11_leadsTriple_11 fX11_leadsTriple_7 rfl rfl dX11_leadsTriple_30 (fun h5 => ?_)
    refine am_iload dX11_leadsTriple_33 0 rfl ?_
    refine am_iload_n dX11_leadsTriple_35 rfl 2 rfl ?_
    refine am_bipush (v := 6) dX11_leadsTriple_36 (by decide) ?_
    refine am_idivC dX11_leadsTriple_38 (by decide) ?_
    refine am_bipush (v := 6) dX11_leadsTriple_39 (by decide) ?_
    refine am_iremC dX11_leadsTriple_41 (by decide) ?_
    refine am_iadd dX11_leadsTriple_42 ?_
    refine am_iald h5 dX11_leadsTriple_43 ?_
    refine am_i2l dX11_leadsTriple_44 ?_
    refine am_iload_n dX11_leadsTriple_45 rfl 4 rfl ?_
    refine am_bipush (v := 6) dX11_leadsTriple_46 (by decide) ?_
    refine am_idivC dX11_leadsTriple_48 (by decide) ?_
    refine am_bipush (v := 6) dX11_leadsTriple_49 (by decide) ?_
    refine am_iremC dX11_leadsTriple_51 (by decide) ?_
    refine am_callS [.long (Int32.toInt64 (I (R a0 0) (Int32.toNatClampNeg (v1 + ((x1 / (6 : Int32)) - (x1 / (6 : Int32)) / (6 : Int32) * (6 : Int32)))))), .int ((x3 / (6 : Int32)) - (x3 / (6 : Int32)) / (6 : Int32) * (6 : Int32))] (tX11_has R I L (Int32.toInt64 (I (R a0 0) (Int32.toNatClampNeg (v1 + ((x1 / (6 : Int32)) - (x1 / (6 : Int32)) / (6 : Int32) * (6 : Int32)))))) ((x3 / (6 : Int32)) - (x3 / (6 : Int32)) / (6 : Int32) * (6 : Int32))) gX11_leadsTriple_X11_has hX11_has ⟨Nat.le_of_ble_eq_true rfl, Nat.le_of_ble_eq_true rfl⟩ rfl rfl (Nat.le_of_ble_eq_true rfl) dX11_leadsTriple_52 (fun r6 => ?_)
    show am_V Z X kX11_leadsTriple (fun r : Int32 => (some (.int r), R, I, L)) 55 [(4, .int v1), (0, .ref (am_B Z + a0)), (1, .int x1), (2, .int x2), (3, .int x3)] [.int r6] R I L _
    refine am_if_eq (tgt := 85) dX11_leadsTriple_55 rfl (fun e7 => ?_) (fun e7 => ?_)
    · refine am_iconst (v := 0) dX11_leadsTriple_85 (by decide) ?_
      exact am_zret (by decide) dX11_leadsTriple_86 rfl rfl
    · refine am_aload_n dX11_leadsTriple_58 rfl 1 rfl ?_
      refine am_getR 11 0 clX11 (Nat.le_of_ble_eq_true rfl) h_a0 iX11_leadsTriple_11 fX11_leadsTriple_7 rfl rfl dX11_leadsTriple_59 (fun h8 => ?_)
      refine am_iload dX11_leadsTriple_62 0 rfl ?_
      refine am_iload_n dX11_leadsTriple_64 rfl 2 rfl ?_
      refine am_bipush (v := 6) dX11_leadsTriple_65 (by decide) ?_
      refine am_iremC dX11_leadsTriple_67 (by decide) ?_
      refine am_iadd dX11_leadsTriple_68 ?_
      refine am_iald h8 dX11_leadsTriple_69 ?_
      refine am_i2l dX11_leadsTriple_70 ?_
      refine am_iload_n dX11_leadsTriple_71 rfl 4 rfl ?_
      refine am_bipush (v := 6) dX11_leadsTriple_72 (by decide) ?_
      refine am_iremC dX11_leadsTriple_74 (by decide) ?_
      refine am_callS [.long (Int32.toInt64 (I (R a0 0) (Int32.toNatClampNeg (v1 + (x1 - x1 / (6 : Int32) * (6 : Int32)))))), .int (x3 - x3 / (6 : Int32) * (6 : Int32))] (tX11_has R I L (Int32.toInt64 (I (R a0 0) (Int32.toNatClampNeg (v1 + (x1 - x1 / (6 : Int32) * (6 : Int32)))))) (x3 - x3 / (6 : Int32) * (6 : Int32))) gX11_leadsTriple_X11_has hX11_has ⟨Nat.le_of_ble_eq_true rfl, Nat.le_of_ble_eq_true rfl⟩ rfl rfl (Nat.le_of_ble_eq_true rfl) dX11_leadsTriple_75 (fun r9 => ?_)
      show am_V Z X kX11_leadsTriple (fun r : Int32 => (some (.int r), R, I, L)) 78 [(4, .int v1), (0, .ref (am_B Z + a0)), (1, .int x1), (2, .int x2), (3, .int x3)] [.int r9] R I L _
      refine am_if_eq (tgt := 85) dX11_leadsTriple_78 rfl (fun e10 => ?_) (fun e10 => ?_)
      · refine am_iconst (v := 0) dX11_leadsTriple_85 (by decide) ?_
        exact am_zret (by decide) dX11_leadsTriple_86 rfl rfl
      · refine am_iconst (v := 1) dX11_leadsTriple_81 (by decide) ?_
        refine am_goto (tgt := 86) dX11_leadsTriple_82 rfl ?_
        exact am_zret (by decide) dX11_leadsTriple_86 rfl rfl
abbrev kX11_goes : am_K := (cX11_goes, 8, RX11, wsX11_goes, some .boolean, { frames := 2, cells := 0, slots := 0, locals := 50 })
theorem hX11_goes : am_cl yX11_goes kX11_goes 3 := ⟨⟨_, rfl⟩, rfl, rfl, by decide +kernel, by decide +kernel, by decide +kernel⟩
theorem iX11_goes_11 : ∀ w ∈ u_ws RX11 TX11 50, w ∈ wsX11_goes := by decide +kernel
theorem fX11_goes_58 : Cond.fieldLink RX11 58 "AmbiguityAnalyzerModel" "isThere" "[Z" ∈ wsX11_goes := by decide +kernel
theorem fX11_goes_45 : Cond.fieldLink RX11 45 "AmbiguityAnalyzerModel" "distance" "[I" ∈ wsX11_goes := by decide +kernel
theorem fX11_goes_54 : Cond.fieldLink RX11 54 "AmbiguityAnalyzerModel" "isHere" "[Z" ∈ wsX11_goes := by decide +kernel
set_option maxRecDepth 100000 in
set_option maxHeartbeats 4000000 in
theorem vX11_goes_38 {Z : am_Z} {X : am_X} (R : am_R) (L : am_L) (a0 : Nat) (x1 : Int32) (x2 : Int32) (x3 : Int32) (v4 : Int32) (v1 : Int32) (v5 : Int32) (h20 : am_G Z a0 = some (.inl 11)) (j12 : am_I → Option (Int32 × am_I)) (hj12 : ∀ (J13 : am_I), am_V Z X kX11_goes (fun r : Int32 × am_I => (some (.int r.1), R, r.2, L)) 125 [(0, .ref (am_B Z + a0)), (1, .int x1), (2, .int x2), (3, .int x3), (4, .int v4), (5, .int v1), (6, .int v5)] [] R J13 L (j12 J13)) (ih23 : Int32 → am_I → Option (Int32 × am_I)) (hih23 : ∀ (v21 : Int32) (J22 : am_I), am_V Z X kX11_goes (fun r : Int32 × am_I => (some (.int r.1), R, r.2, L)) 38 [(0, .ref (am_B Z + a0)), (1, .int x1), (2, .int x2), (3, .int x3), (4, .int v4), (5, .int v1), (6, .int v5), (7, .int v21)] [] R J22 L (ih23 v21 J22)) (v21 : Int32) (J22 : am_I) : am_V Z X kX11_goes (fun r : Int32 × am_I => (some (.int r.1), R, r.2, L)) 38 [(0, .ref (am_B Z + a0)), (1, .int x1), (2, .int x2), (3, .int x3), (4, .int v4), (5, .int v1), (6, .int v5), (7, .int v21)] [] R J22 L (sX11_goes_38 R a0 x1 x2 x3 v4 v1 v5 j12 ih23 v21 J22) := by
  unfold sX11_goes_38
  refine am_iload dX11_goes_38 7 rfl ?_
  refine am_iload dX11_goes_40 5 rfl ?_
  refine am_icmp_ge (tgt := 125) dX11_goes_42 rfl (fun e24 => ?_) (fun e24 => ?_)
  · refine am_sub (ls' := [(0, .ref (am_B Z + a0)), (1, .int x1), (2, .int x2), (3, .int x3), (4, .int v4), (5, .int v1), (6, .int v5)]) [0, 1, 2, 3, 4, 5, 6] rfl ?_
    exact hj12 J22
  · refine am_aload_n dX11_goes_45 rfl 0 rfl ?_
    refine am_getR 11 19 clX11 (Nat.le_of_ble_eq_true rfl) h20 iX11_goes_11 fX11_goes_45 rfl rfl dX11_goes_46 (fun h25 => ?_)
    refine am_iload dX11_goes_49 6 rfl ?_
    refine am_iald h25 dX11_goes_51 ?_
    refine am_iload_n dX11_goes_52 rfl 2 rfl ?_
    refine am_icmp_ne (tgt := 125) dX11_goes_53 rfl (fun e26 => ?_) (fun e26 => ?_)
    · refine am_sub (ls' := [(0, .ref (am_B Z + a0)), (1, .int x1), (2, .int x2), (3, .int x3), (4, .int v4), (5, .int v1), (6, .int v5)]) [0, 1, 2, 3, 4, 5, 6] rfl ?_
      exact hj12 J22
    · refine am_aload_n dX11_goes_56 rfl 0 rfl ?_
      refine am_getR 11 24 clX11 (Nat.le_of_ble_eq_true rfl) h20 iX11_goes_11 fX11_goes_58 rfl rfl dX11_goes_57 (fun h27 => ?_)
      refine am_iload dX11_goes_60 6 rfl ?_
      refine am_zald h27 dX11_goes_62 ?_
      refine am_if_ne (tgt := 125) dX11_goes_63 rfl (fun e28 => ?_) (fun e28 => ?_)
      · refine am_sub (ls' := [(0, .ref (am_B Z + a0)), (1, .int x1), (2, .int x2), (3, .int x3), (4, .int v4), (5, .int v1), (6, .int v5)]) [0, 1, 2, 3, 4, 5, 6] rfl ?_
        exact hj12 J22
      · refine am_aload_n dX11_goes_66 rfl 0 rfl ?_
        refine am_getR 11 24 clX11 (Nat.le_of_ble_eq_true rfl) h20 iX11_goes_11 fX11_goes_58 rfl rfl dX11_goes_67 (fun h29 => ?_)
        refine am_iload dX11_goes_70 6 rfl ?_
        refine am_aload_n dX11_goes_72 rfl 0 rfl ?_
        refine am_getR 11 23 clX11 (Nat.le_of_ble_eq_true rfl) h20 iX11_goes_11 fX11_goes_54 rfl rfl dX11_goes_73 (fun h30 => ?_)
        refine am_iload dX11_goes_76 7 rfl ?_
        refine am_zald h30 dX11_goes_78 ?_
        refine am_jnV (fun j31 ej31 => ?_)
        have hj31 : ∀ (v32 : Int32), am_V Z X kX11_goes (fun r : Int32 × am_I => (some (.int r.1), R, r.2, L)) 118 [(0, .ref (am_B Z + a0)), (1, .int x1), (2, .int x2), (3, .int x3), (4, .int v4), (5, .int v1), (6, .int v5), (7, .int v21)] [.int v32, .int v5, .ref (am_B Z + (R a0 24))] R J22 L (j31 v32) := by
          subst ej31
          intro v32
          show am_V Z X kX11_goes (fun r : Int32 × am_I => (some (.int r.1), R, r.2, L)) 118 [(0, .ref (am_B Z + a0)), (1, .int x1), (2, .int x2), (3, .int x3), (4, .int v4), (5, .int v1), (6, .int v5), (7, .int v21)] [.int v32, .int v5, .ref (am_B Z + (R a0 24))] R J22 L _
          refine am_ckV (fun hb33 => ?_)
          refine am_zast h29 hb33 dX11_goes_118 ?_
          refine am_letI (fun J34 => ?_)
          refine am_iinc (j := 7) (ls' := [(7, .int (v21 + (1 : Int32))), (0, .ref (am_B Z + a0)), (1, .int x1), (2, .int x2), (3, .int x3), (4, .int v4), (5, .int v1), (6, .int v5)]) dX11_goes_119 rfl rfl (Nat.le_of_ble_eq_true rfl) rfl ?_
          refine am_goto (tgt := 38) dX11_goes_122 rfl ?_
          refine am_sub (ls' := [(0, .ref (am_B Z + a0)), (1, .int x1), (2, .int x2), (3, .int x3), (4, .int v4), (5, .int v1), (6, .int v5), (7, .int (v21 + (1 : Int32)))]) [1, 2, 3, 4, 5, 6, 7, 0] rfl ?_
          exact hih23 (v21 + (1 : Int32)) J34
        refine am_jnV (fun j35 ej35 => ?_)
        have hj35 : am_V Z X kX11_goes (fun r : Int32 × am_I => (some (.int r.1), R, r.2, L)) 117 [(0, .ref (am_B Z + a0)), (1, .int x1), (2, .int x2), (3, .int x3), (4, .int v4), (5, .int v1), (6, .int v5), (7, .int v21)] [.int v5, .ref (am_B Z + (R a0 24))] R J22 L j35 := by
          subst ej35
          show am_V Z X kX11_goes (fun r : Int32 × am_I => (some (.int r.1), R, r.2, L)) 117 [(0, .ref (am_B Z + a0)), (1, .int x1), (2, .int x2), (3, .int x3), (4, .int v4), (5, .int v1), (6, .int v5), (7, .int v21)] [.int v5, .ref (am_B Z + (R a0 24))] R J22 L _
          refine am_iconst (v := 0) dX11_goes_117 (by decide) ?_
          exact hj31 (0 : Int32)
        refine am_if_eq (tgt := 117) dX11_goes_79 rfl (fun e36 => ?_) (fun e36 => ?_)
        · exact hj35
        · refine am_iload_n dX11_goes_82 rfl 3 rfl ?_
          refine am_jnV (fun j37 ej37 => ?_)
          have hj37 : am_V Z X kX11_goes (fun r : Int32 × am_I => (some (.int r.1), R, r.2, L)) 113 [(0, .ref (am_B Z + a0)), (1, .int x1), (2, .int x2), (3, .int x3), (4, .int v4), (5, .int v1), (6, .int v5), (7, .int v21)] [.int v5, .ref (am_B Z + (R a0 24))] R J22 L j37 := by
            subst ej37
            show am_V Z X kX11_goes (fun r : Int32 × am_I => (some (.int r.1), R, r.2, L)) 113 [(0, .ref (am_B Z + a0)), (1, .int x1), (2, .int x2), (3, .int x3), (4, .int v4), (5, .int v1), (6, .int v5), (7, .int v21)] [.int v5, .ref (am_B Z + (R a0 24))] R J22 L _
            refine am_iconst (v := 1) dX11_goes_113 (by decide) ?_
            refine am_goto (tgt := 118) dX11_goes_114 rfl ?_
            exact hj31 (1 : Int32)
          refine am_if_eq (tgt := 101) dX11_goes_83 rfl (fun e38 => ?_) (fun e38 => ?_)
          · refine am_aload_n dX11_goes_101 rfl 0 rfl ?_
            refine am_iload dX11_goes_102 7 rfl ?_
            refine am_iload_n dX11_goes_104 rfl 1 rfl ?_
            refine am_iload dX11_goes_105 6 rfl ?_
            refine am_callV [.int v21, .int x1, .int v5] (tX11_leadsPair R J22 L a0 v21 x1 v5 h20) h20 clX11 gX11_goes_X11_leadsPair hX11_leadsPair rfl ⟨Nat.le_of_ble_eq_true rfl, Nat.le_of_ble_eq_true rfl⟩ rfl rfl (Nat.le_of_ble_eq_true rfl) dX11_goes_107 (fun r39 => ?_)
            show am_V Z X kX11_goes (fun r : Int32 × am_I => (some (.int r.1), R, r.2, L)) 110 [(0, .ref (am_B Z + a0)), (1, .int x1), (2, .int x2), (3, .int x3), (4, .int v4), (5, .int v1), (6, .int v5), (7, .int v21)] [.int r39, .int v5, .ref (am_B Z + (R a0 24))] R J22 L _
            refine am_if_eq (tgt := 117) dX11_goes_110 rfl (fun e40 => ?_) (fun e40 => ?_)
            · exact hj35
            · exact hj37
          · refine am_aload_n dX11_goes_86 rfl 0 rfl ?_
            refine am_iload dX11_goes_87 7 rfl ?_
            refine am_iload_n dX11_goes_89 rfl 1 rfl ?_
            refine am_iload dX11_goes_90 6 rfl ?_
            refine am_callV [.int v21, .int x1, .int v5] (tX11_leadsTriple R J22 L a0 v21 x1 v5 h20) h20 clX11 gX11_goes_X11_leadsTriple hX11_leadsTriple rfl ⟨Nat.le_of_ble_eq_true rfl, Nat.le_of_ble_eq_true rfl⟩ rfl rfl (Nat.le_of_ble_eq_true rfl) dX11_goes_92 (fun r41 => ?_)
            show am_V Z X kX11_goes (fun r : Int32 × am_I => (some (.int r.1), R, r.2, L)) 95 [(0, .ref (am_B Z + a0)), (1, .int x1), (2, .int x2), (3, .int x3), (4, .int v4), (5, .int v1), (6, .int v5), (7, .int v21)] [.int r41, .int v5, .ref (am_B Z + (R a0 24))] R J22 L _
            refine am_if_eq (tgt := 117) dX11_goes_95 rfl (fun e42 => ?_) (fun e42 => ?_)
            · exact hj35
            · refine am_goto (tgt := 113) dX11_goes_98 rfl ?_
              exact hj37
theorem uX11_goes_38 {Z : am_Z} {X : am_X} (R : am_R) (L : am_L) (a0 : Nat) (x1 : Int32) (x2 : Int32) (x3 : Int32) (v4 : Int32) (v1 : Int32) (v5 : Int32) (h20 : am_G Z a0 = some (.inl 11)) (j12 : am_I → Option (Int32 × am_I)) (hj12 : ∀ (J13 : am_I), am_V Z X kX11_goes (fun r : Int32 × am_I => (some (.int r.1), R, r.2, L)) 125 [(0, .ref (am_B Z + a0)), (1, .int x1), (2, .int x2), (3, .int x3), (4, .int v4), (5, .int v1), (6, .int v5)] [] R J13 L (j12 J13)) : ∀ (n : Nat) (v21 : Int32) (J22 : am_I), am_V Z X kX11_goes (fun r : Int32 × am_I => (some (.int r.1), R, r.2, L)) 38 [(0, .ref (am_B Z + a0)), (1, .int x1), (2, .int x2), (3, .int x3), (4, .int v4), (5, .int v1), (6, .int v5), (7, .int v21)] [] R J22 L (lX11_goes_38 R a0 x1 x2 x3 v4 v1 v5 j12 n v21 J22) := by
  intro n
  induction n with
  | zero => intro _ _; exact am_none
  | succ n ih => exact fun v21 J22 => vX11_goes_38 R L a0 x1 x2 x3 v4 v1 v5 h20 j12 hj12 (lX11_goes_38 R a0 x1 x2 x3 v4 v1 v5 j12 n) ih v21 J22
set_option maxRecDepth 100000 in
set_option maxHeartbeats 4000000 in
theorem vX11_goes_20 {Z : am_Z} {X : am_X} (R : am_R) (L : am_L) (a0 : Nat) (x1 : Int32) (x2 : Int32) (x3 : Int32) (v1 : Int32) (h3 : am_G Z a0 = some (.inl 11)) (ih7 : Int32 → Int32 → am_I → Option (Int32 × am_I)) (hih7 : ∀ (v4 : Int32) (v5 : Int32) (J6 : am_I), am_V Z X kX11_goes (fun r : Int32 × am_I => (some (.int r.1), R, r.2, L)) 20 [(0, .ref (am_B Z + a0)), (1, .int x1), (2, .int x2), (3, .int x3), (4, .int v4), (5, .int v1), (6, .int v5)] [] R J6 L (ih7 v4 v5 J6)) (v4 : Int32) (v5 : Int32) (J6 : am_I) : am_V Z X kX11_goes (fun r : Int32 × am_I => (some (.int r.1), R, r.2, L)) 20 [(0, .ref (am_B Z + a0)), (1, .int x1), (2, .int x2), (3, .int x3), (4, .int v4), (5, .int v1), (6, .int v5)] [] R J6 L (sX11_goes_20 R a0 x1 x2 x3 v1 ih7 v4 v5 J6) := by
  unfold sX11_goes_20
  refine am_iload dX11_goes_20 6 rfl ?_
  refine am_iload dX11_goes_22 5 rfl ?_
  refine am_icmp_ge (tgt := 153) dX11_goes_24 rfl (fun e8 => ?_) (fun e8 => ?_)
  · refine am_iload dX11_goes_153 4 rfl ?_
    refine am_ckV (fun hb9 => ?_)
    exact am_zret hb9 dX11_goes_155 rfl rfl
  · refine am_aload_n dX11_goes_27 rfl 0 rfl ?_
    refine am_getR 11 24 clX11 (Nat.le_of_ble_eq_true rfl) h3 iX11_goes_11 fX11_goes_58 rfl rfl dX11_goes_28 (fun h10 => ?_)
    refine am_iload dX11_goes_31 6 rfl ?_
    refine am_iconst (v := 0) dX11_goes_33 (by decide) ?_
    refine am_zast h10 (by decide) dX11_goes_34 ?_
    refine am_letI (fun J11 => ?_)
    refine am_iconst (v := 0) dX11_goes_35 (by decide) ?_
    refine am_istore (ls' := [(7, .int (0 : Int32)), (0, .ref (am_B Z + a0)), (1, .int x1), (2, .int x2), (3, .int x3), (4, .int v4), (5, .int v1), (6, .int v5)]) dX11_goes_36 (Nat.le_of_ble_eq_true rfl) rfl ?_
    refine am_jnV (fun j12 ej12 => ?_)
    have hj12 : ∀ (J13 : am_I), am_V Z X kX11_goes (fun r : Int32 × am_I => (some (.int r.1), R, r.2, L)) 125 [(0, .ref (am_B Z + a0)), (1, .int x1), (2, .int x2), (3, .int x3), (4, .int v4), (5, .int v1), (6, .int v5)] [] R J13 L (j12 J13) := by
      subst ej12
      intro J13
      show am_V Z X kX11_goes (fun r : Int32 × am_I => (some (.int r.1), R, r.2, L)) 125 [(0, .ref (am_B Z + a0)), (1, .int x1), (2, .int x2), (3, .int x3), (4, .int v4), (5, .int v1), (6, .int v5)] [] R J13 L _
      refine am_iload dX11_goes_125 4 rfl ?_
      refine am_jnV (fun j14 ej14 => ?_)
      have hj14 : ∀ (v15 : Int32), am_V Z X kX11_goes (fun r : Int32 × am_I => (some (.int r.1), R, r.2, L)) 145 [(0, .ref (am_B Z + a0)), (1, .int x1), (2, .int x2), (3, .int x3), (5, .int v1), (6, .int v5)] [.int v15] R J13 L (j14 v15) := by
        subst ej14
        intro v15
        show am_V Z X kX11_goes (fun r : Int32 × am_I => (some (.int r.1), R, r.2, L)) 145 [(0, .ref (am_B Z + a0)), (1, .int x1), (2, .int x2), (3, .int x3), (5, .int v1), (6, .int v5)] [.int v15] R J13 L _
        refine am_istore (ls' := [(4, .int v15), (0, .ref (am_B Z + a0)), (1, .int x1), (2, .int x2), (3, .int x3), (5, .int v1), (6, .int v5)]) dX11_goes_145 (Nat.le_of_ble_eq_true rfl) rfl ?_
        refine am_iinc (j := 6) (ls' := [(6, .int (v5 + (1 : Int32))), (4, .int v15), (0, .ref (am_B Z + a0)), (1, .int x1), (2, .int x2), (3, .int x3), (5, .int v1)]) dX11_goes_147 rfl rfl (Nat.le_of_ble_eq_true rfl) rfl ?_
        refine am_goto (tgt := 20) dX11_goes_150 rfl ?_
        refine am_sub (ls' := [(0, .ref (am_B Z + a0)), (1, .int x1), (2, .int x2), (3, .int x3), (4, .int v15), (5, .int v1), (6, .int (v5 + (1 : Int32)))]) [2, 3, 4, 5, 1, 6, 0] rfl ?_
        exact hih7 v15 (v5 + (1 : Int32)) J13
      refine am_jnV (fun j16 ej16 => ?_)
      have hj16 : am_V Z X kX11_goes (fun r : Int32 × am_I => (some (.int r.1), R, r.2, L)) 140 [(0, .ref (am_B Z + a0)), (1, .int x1), (2, .int x2), (3, .int x3), (5, .int v1), (6, .int v5)] [] R J13 L j16 := by
        subst ej16
        show am_V Z X kX11_goes (fun r : Int32 × am_I => (some (.int r.1), R, r.2, L)) 140 [(0, .ref (am_B Z + a0)), (1, .int x1), (2, .int x2), (3, .int x3), (5, .int v1), (6, .int v5)] [] R J13 L _
        refine am_iconst (v := 1) dX11_goes_140 (by decide) ?_
        refine am_goto (tgt := 145) dX11_goes_141 rfl ?_
        exact hj14 (1 : Int32)
      refine am_if_ne (tgt := 140) dX11_goes_127 rfl (fun e17 => ?_) (fun e17 => ?_)
      · refine am_sub (ls' := [(0, .ref (am_B Z + a0)), (1, .int x1), (2, .int x2), (3, .int x3), (5, .int v1), (6, .int v5)]) [0, 1, 2, 3, 5, 6] rfl ?_
        exact hj16
      · refine am_aload_n dX11_goes_130 rfl 0 rfl ?_
        refine am_getR 11 24 clX11 (Nat.le_of_ble_eq_true rfl) h3 iX11_goes_11 fX11_goes_58 rfl rfl dX11_goes_131 (fun h18 => ?_)
        refine am_iload dX11_goes_134 6 rfl ?_
        refine am_zald h18 dX11_goes_136 ?_
        refine am_if_eq (tgt := 144) dX11_goes_137 rfl (fun e19 => ?_) (fun e19 => ?_)
        · refine am_iconst (v := 0) dX11_goes_144 (by decide) ?_
          refine am_sub (ls' := [(0, .ref (am_B Z + a0)), (1, .int x1), (2, .int x2), (3, .int x3), (5, .int v1), (6, .int v5)]) [0, 1, 2, 3, 5, 6] rfl ?_
          exact hj14 (0 : Int32)
        · refine am_sub (ls' := [(0, .ref (am_B Z + a0)), (1, .int x1), (2, .int x2), (3, .int x3), (5, .int v1), (6, .int v5)]) [0, 1, 2, 3, 5, 6] rfl ?_
          exact hj16
    refine am_sub (ls' := [(0, .ref (am_B Z + a0)), (1, .int x1), (2, .int x2), (3, .int x3), (4, .int v4), (5, .int v1), (6, .int v5), (7, .int (0 : Int32))]) [1, 2, 3, 4, 5, 6, 7, 0] rfl ?_
    exact uX11_goes_38 R L a0 x1 x2 x3 v4 v1 v5 h3 j12 hj12 am_fu (0 : Int32) J11
theorem uX11_goes_20 {Z : am_Z} {X : am_X} (R : am_R) (L : am_L) (a0 : Nat) (x1 : Int32) (x2 : Int32) (x3 : Int32) (v1 : Int32) (h3 : am_G Z a0 = some (.inl 11)) : ∀ (n : Nat) (v4 : Int32) (v5 : Int32) (J6 : am_I), am_V Z X kX11_goes (fun r : Int32 × am_I => (some (.int r.1), R, r.2, L)) 20 [(0, .ref (am_B Z + a0)), (1, .int x1), (2, .int x2), (3, .int x3), (4, .int v4), (5, .int v1), (6, .int v5)] [] R J6 L (lX11_goes_20 R a0 x1 x2 x3 v1 n v4 v5 J6) := by
  intro n
  induction n with
  | zero => intro _ _ _; exact am_none
  | succ n ih => exact fun v4 v5 J6 => vX11_goes_20 R L a0 x1 x2 x3 v1 h3 (lX11_goes_20 R a0 x1 x2 x3 v1 n) ih v4 v5 J6
set_option maxRecDepth 100000 in
set_option maxHeartbeats 4000000 in
theorem tX11_goes {Z : am_Z} (R : am_R) (I : am_I) (L : am_L) (a0 : Nat) (x1 : Int32) (x2 : Int32) (x3 : Int32) (h_a0 : am_G Z a0 = some (.inl 11)) : am_M Z yX11_goes kX11_goes [.ref (am_B Z + a0), .int x1, .int x2, .int x3] R I L (pX11_goes R I a0 x1 x2 x3) (fun r : Int32 × am_I => (some (.int r.1), R, r.2, L)) := by
  refine am_entry (ls := [(0, .ref (am_B Z + a0)), (1, .int x1), (2, .int x2), (3, .int x3)]) (by decide) hX11_goes rfl (Nat.le_of_ble_eq_true rfl) rfl (fun X => ?_)
  unfold pX11_goes
  refine am_iconst (v := 0) dX11_goes_0 (by decide) ?_
  refine am_istore (ls' := [(4, .int (0 : Int32)), (0, .ref (am_B Z + a0)), (1, .int x1), (2, .int x2), (3, .int x3)]) dX11_goes_1 (Nat.le_of_ble_eq_true rfl) rfl ?_
  refine am_iload_n dX11_goes_3 rfl 4 rfl ?_
  refine am_letJ (fun k2 ek2 => ?_)
  have hk2 : ∀ v1 : Int32, am_V Z X kX11_goes (fun r : Int32 × am_I => (some (.int r.1), R, r.2, L)) 15 [(0, .ref (am_B Z + a0)), (1, .int x1), (2, .int x2), (3, .int x3), (4, .int (0 : Int32))] [.int v1] R I L (k2 v1) := by
    subst ek2
    intro v1
    show am_V Z X kX11_goes (fun r : Int32 × am_I => (some (.int r.1), R, r.2, L)) 15 [(0, .ref (am_B Z + a0)), (1, .int x1), (2, .int x2), (3, .int x3), (4, .int (0 : Int32))] [.int v1] R I L _
    refine am_istore (ls' := [(5, .int v1), (0, .ref (am_B Z + a0)), (1, .int x1), (2, .int x2), (3, .int x3), (4, .int (0 : Int32))]) dX11_goes_15 (Nat.le_of_ble_eq_true rfl) rfl ?_
    refine am_iconst (v := 0) dX11_goes_17 (by decide) ?_
    refine am_istore (ls' := [(6, .int (0 : Int32)), (5, .int v1), (0, .ref (am_B Z + a0)), (1, .int x1), (2, .int x2), (3, .int x3), (4, .int (0 : Int32))]) dX11_goes_18 (Nat.le_of_ble_eq_true rfl) rfl ?_
    refine am_sub (ls' := [(0, .ref (am_B Z + a0)), (1, .int x1), (2, .int x2), (3, .int x3), (4, .int (0 : Int32)), (5, .int v1), (6, .int (0 : Int32))]) [2, 3, 4, 5, 6, 1, 0] rfl ?_
    exact uX11_goes_20 R L a0 x1 x2 x3 v1 h_a0 am_fu (0 : Int32) (0 : Int32) I
  refine am_if_eqL (tgt := 13) dX11_goes_4 rfl (fun e43 => ?_) (fun e43 => ?_)
  · refine am_bipush (v := 72) dX11_goes_13 (by decide) ?_
    refine am_sub (ls' := [(0, .ref (am_B Z + a0)), (1, .int x1), (2, .int x2), (3, .int x3), (4, .int (0 : Int32))]) [1, 2, 3, 4, 0] rfl ?_
    exact hk2 _
  · refine am_sipush (v := 216) dX11_goes_7 (by decide) ?_
    refine am_goto (tgt := 15) dX11_goes_10 rfl ?_
    refine am_sub (ls' := [(0, .ref (am_B Z + a0)), (1, .int x1), (2, .int x2), (3, .int x3), (4, .int (0 : Int32))]) [1, 2, 3, 4, 0] rfl ?_
    exact hk2 _
abbrev kX11_spells : am_K := (cX11_spells, 6, RX11, wsX11_spells, none, { frames := 3, cells := 0, slots := 0, locals := 77 })
theorem hX11_spells : am_cl yX11_spells kX11_spells 2 := ⟨⟨_, rfl⟩, rfl, rfl, by decide +kernel, by decide +kernel, by decide +kernel⟩
theorem iX11_spells_11 : ∀ w ∈ u_ws RX11 TX11 50, w ∈ wsX11_spells := by decide +kernel
theorem fX11_spells_252 : Cond.fieldLink RX11 252 "AmbiguityAnalyzerModel" "witnessLength" "I" ∈ wsX11_spells := by decide +kernel
theorem fX11_spells_51 : Cond.fieldLink RX11 51 "AmbiguityAnalyzerModel" "witness" "[I" ∈ wsX11_spells := by decide +kernel
theorem fX11_spells_54 : Cond.fieldLink RX11 54 "AmbiguityAnalyzerModel" "isHere" "[Z" ∈ wsX11_spells := by decide +kernel
theorem fX11_spells_58 : Cond.fieldLink RX11 58 "AmbiguityAnalyzerModel" "isThere" "[Z" ∈ wsX11_spells := by decide +kernel
set_option maxRecDepth 100000 in
set_option maxHeartbeats 4000000 in
theorem vX11_spells_47 {Z : am_Z} {X : am_X} (R : am_R) (L : am_L) (a0 : Nat) (x1 : Int32) (x2 : Int32) (v3 : Int32) (h14 : am_G Z a0 = some (.inl 11)) (j12 : am_I → Option (am_I)) (hj12 : ∀ (J13 : am_I), am_V Z X kX11_spells (fun r : am_I => (none, R, r, L)) 75 [(0, .ref (am_B Z + a0)), (1, .int x1), (2, .int x2), (3, .int v3)] [] R J13 L (j12 J13)) (ih17 : Int32 → am_I → Option (am_I)) (hih17 : ∀ (v15 : Int32) (J16 : am_I), am_V Z X kX11_spells (fun r : am_I => (none, R, r, L)) 47 [(0, .ref (am_B Z + a0)), (1, .int x1), (2, .int x2), (3, .int v3), (5, .int v15)] [] R J16 L (ih17 v15 J16)) (v15 : Int32) (J16 : am_I) : am_V Z X kX11_spells (fun r : am_I => (none, R, r, L)) 47 [(0, .ref (am_B Z + a0)), (1, .int x1), (2, .int x2), (3, .int v3), (5, .int v15)] [] R J16 L (sX11_spells_47 R a0 x1 x2 v3 j12 ih17 v15 J16) := by
  unfold sX11_spells_47
  refine am_iload dX11_spells_47 4 rfl ?_
  refine am_sipush (v := 216) dX11_spells_49 (by decide) ?_
  refine am_icmp_ge (tgt := 75) dX11_spells_52 rfl (fun e18 => ?_) (fun e18 => ?_)
  · refine am_sub (ls' := [(0, .ref (am_B Z + a0)), (1, .int x1), (2, .int x2), (3, .int v3)]) [0, 1, 2, 3] rfl ?_
    exact hj12 J16
  · refine am_aload_n dX11_spells_55 rfl 0 rfl ?_
    refine am_getR 11 23 clX11 (Nat.le_of_ble_eq_true rfl) h14 iX11_spells_11 fX11_spells_54 rfl rfl dX11_spells_56 (fun h19 => ?_)
    refine am_iload dX11_spells_59 4 rfl ?_
    refine am_aload_n dX11_spells_61 rfl 0 rfl ?_
    refine am_getR 11 24 clX11 (Nat.le_of_ble_eq_true rfl) h14 iX11_spells_11 fX11_spells_58 rfl rfl dX11_spells_62 (fun h20 => ?_)
    refine am_iload dX11_spells_65 4 rfl ?_
    refine am_zald h20 dX11_spells_67 ?_
    refine am_ckV (fun hb21 => ?_)
    refine am_zast h19 hb21 dX11_spells_68 ?_
    refine am_letI (fun J22 => ?_)
    refine am_iinc (j := 4) (ls' := [(5, .int (v15 + (1 : Int32))), (0, .ref (am_B Z + a0)), (1, .int x1), (2, .int x2), (3, .int v3)]) dX11_spells_69 rfl rfl (Nat.le_of_ble_eq_true rfl) rfl ?_
    refine am_goto (tgt := 47) dX11_spells_72 rfl ?_
    refine am_sub (ls' := [(0, .ref (am_B Z + a0)), (1, .int x1), (2, .int x2), (3, .int v3), (5, .int (v15 + (1 : Int32)))]) [1, 2, 3, 4, 0] rfl ?_
    exact hih17 (v15 + (1 : Int32)) J22
theorem uX11_spells_47 {Z : am_Z} {X : am_X} (R : am_R) (L : am_L) (a0 : Nat) (x1 : Int32) (x2 : Int32) (v3 : Int32) (h14 : am_G Z a0 = some (.inl 11)) (j12 : am_I → Option (am_I)) (hj12 : ∀ (J13 : am_I), am_V Z X kX11_spells (fun r : am_I => (none, R, r, L)) 75 [(0, .ref (am_B Z + a0)), (1, .int x1), (2, .int x2), (3, .int v3)] [] R J13 L (j12 J13)) : ∀ (n : Nat) (v15 : Int32) (J16 : am_I), am_V Z X kX11_spells (fun r : am_I => (none, R, r, L)) 47 [(0, .ref (am_B Z + a0)), (1, .int x1), (2, .int x2), (3, .int v3), (5, .int v15)] [] R J16 L (lX11_spells_47 R a0 x1 x2 v3 j12 n v15 J16) := by
  intro n
  induction n with
  | zero => intro _ _; exact am_none
  | succ n ih => exact fun v15 J16 => vX11_spells_47 R L a0 x1 x2 v3 h14 j12 hj12 (lX11_spells_47 R a0 x1 x2 v3 j12 n) ih v15 J16
set_option maxRecDepth 100000 in
set_option maxHeartbeats 4000000 in
theorem vX11_spells_15 {Z : am_Z} {X : am_X} (R : am_R) (L : am_L) (a0 : Nat) (x1 : Int32) (x2 : Int32) (v3 : Int32) (h23 : am_G Z a0 = some (.inl 11)) (j7 : Int32 → am_I → Option (am_I)) (hj7 : ∀ (v8 : Int32) (J9 : am_I), am_V Z X kX11_spells (fun r : am_I => (none, R, r, L)) 36 [(0, .ref (am_B Z + a0)), (1, .int x1), (2, .int x2), (3, .int v3), (4, .int v8)] [] R J9 L (j7 v8 J9)) (ih26 : Int32 → am_I → Option (am_I)) (hih26 : ∀ (v24 : Int32) (J25 : am_I), am_V Z X kX11_spells (fun r : am_I => (none, R, r, L)) 15 [(0, .ref (am_B Z + a0)), (1, .int x1), (2, .int x2), (3, .int v3), (4, .int v24)] [] R J25 L (ih26 v24 J25)) (v24 : Int32) (J25 : am_I) : am_V Z X kX11_spells (fun r : am_I => (none, R, r, L)) 15 [(0, .ref (am_B Z + a0)), (1, .int x1), (2, .int x2), (3, .int v3), (4, .int v24)] [] R J25 L (sX11_spells_15 R a0 x1 x2 v3 j7 ih26 v24 J25) := by
  unfold sX11_spells_15
  refine am_aload_n dX11_spells_15 rfl 0 rfl ?_
  refine am_iload dX11_spells_16 4 rfl ?_
  refine am_iload_n dX11_spells_18 rfl 1 rfl ?_
  refine am_iconst (v := 1) dX11_spells_19 (by decide) ?_
  refine am_isub dX11_spells_20 ?_
  refine am_iload_n dX11_spells_21 rfl 3 rfl ?_
  refine am_isub dX11_spells_22 ?_
  refine am_iload_n dX11_spells_23 rfl 2 rfl ?_
  refine am_callV [.int v24, .int ((x1 - (1 : Int32)) - v3), .int x2] (tX11_goes R J25 L a0 v24 ((x1 - (1 : Int32)) - v3) x2 h23) h23 clX11 gX11_spells_X11_goes hX11_goes rfl ⟨Nat.le_of_ble_eq_true rfl, Nat.le_of_ble_eq_true rfl⟩ rfl rfl (Nat.le_of_ble_eq_true rfl) dX11_spells_24 (fun r27 => ?_)
  show am_V Z X kX11_spells (fun r : am_I => (none, R, r, L)) 27 [(0, .ref (am_B Z + a0)), (1, .int x1), (2, .int x2), (3, .int v3), (4, .int v24)] [.int r27.1] R r27.2 L _
  refine am_if_ne (tgt := 36) dX11_spells_27 rfl (fun e28 => ?_) (fun e28 => ?_)
  · exact hj7 v24 r27.2
  · refine am_iinc (j := 4) (ls' := [(4, .int (v24 + (1 : Int32))), (0, .ref (am_B Z + a0)), (1, .int x1), (2, .int x2), (3, .int v3)]) dX11_spells_30 rfl rfl (Nat.le_of_ble_eq_true rfl) rfl ?_
    refine am_goto (tgt := 15) dX11_spells_33 rfl ?_
    refine am_sub (ls' := [(0, .ref (am_B Z + a0)), (1, .int x1), (2, .int x2), (3, .int v3), (4, .int (v24 + (1 : Int32)))]) [1, 2, 3, 4, 0] rfl ?_
    exact hih26 (v24 + (1 : Int32)) r27.2
theorem uX11_spells_15 {Z : am_Z} {X : am_X} (R : am_R) (L : am_L) (a0 : Nat) (x1 : Int32) (x2 : Int32) (v3 : Int32) (h23 : am_G Z a0 = some (.inl 11)) (j7 : Int32 → am_I → Option (am_I)) (hj7 : ∀ (v8 : Int32) (J9 : am_I), am_V Z X kX11_spells (fun r : am_I => (none, R, r, L)) 36 [(0, .ref (am_B Z + a0)), (1, .int x1), (2, .int x2), (3, .int v3), (4, .int v8)] [] R J9 L (j7 v8 J9)) : ∀ (n : Nat) (v24 : Int32) (J25 : am_I), am_V Z X kX11_spells (fun r : am_I => (none, R, r, L)) 15 [(0, .ref (am_B Z + a0)), (1, .int x1), (2, .int x2), (3, .int v3), (4, .int v24)] [] R J25 L (lX11_spells_15 R a0 x1 x2 v3 j7 n v24 J25) := by
  intro n
  induction n with
  | zero => intro _ _; exact am_none
  | succ n ih => exact fun v24 J25 => vX11_spells_15 R L a0 x1 x2 v3 h23 j7 hj7 (lX11_spells_15 R a0 x1 x2 v3 j7 n) ih v24 J25
set_option maxRecDepth 100000 in
set_option maxHeartbeats 4000000 in
theorem vX11_spells_7 {Z : am_Z} {X : am_X} (R : am_R) (L : am_L) (a0 : Nat) (x1 : Int32) (x2 : Int32) (h2 : am_G Z a0 = some (.inl 11)) (ih5 : Int32 → am_I → Option (am_I)) (hih5 : ∀ (v3 : Int32) (J4 : am_I), am_V Z X kX11_spells (fun r : am_I => (none, R, r, L)) 7 [(0, .ref (am_B Z + a0)), (1, .int x1), (2, .int x2), (3, .int v3)] [] R J4 L (ih5 v3 J4)) (v3 : Int32) (J4 : am_I) : am_V Z X kX11_spells (fun r : am_I => (none, R, r, L)) 7 [(0, .ref (am_B Z + a0)), (1, .int x1), (2, .int x2), (3, .int v3)] [] R J4 L (sX11_spells_7 R a0 x1 x2 ih5 v3 J4) := by
  unfold sX11_spells_7
  refine am_iload_n dX11_spells_7 rfl 3 rfl ?_
  refine am_iload_n dX11_spells_8 rfl 1 rfl ?_
  refine am_icmp_ge (tgt := 81) dX11_spells_9 rfl (fun e6 => ?_) (fun e6 => ?_)
  · exact am_vret dX11_spells_81 rfl rfl
  · refine am_iconst (v := 0) dX11_spells_12 (by decide) ?_
    refine am_istore (ls' := [(4, .int (0 : Int32)), (0, .ref (am_B Z + a0)), (1, .int x1), (2, .int x2), (3, .int v3)]) dX11_spells_13 (Nat.le_of_ble_eq_true rfl) rfl ?_
    refine am_jnV (fun j7 ej7 => ?_)
    have hj7 : ∀ (v8 : Int32) (J9 : am_I), am_V Z X kX11_spells (fun r : am_I => (none, R, r, L)) 36 [(0, .ref (am_B Z + a0)), (1, .int x1), (2, .int x2), (3, .int v3), (4, .int v8)] [] R J9 L (j7 v8 J9) := by
      subst ej7
      intro v8 J9
      show am_V Z X kX11_spells (fun r : am_I => (none, R, r, L)) 36 [(0, .ref (am_B Z + a0)), (1, .int x1), (2, .int x2), (3, .int v3), (4, .int v8)] [] R J9 L _
      refine am_aload_n dX11_spells_36 rfl 0 rfl ?_
      refine am_getR 11 22 clX11 (Nat.le_of_ble_eq_true rfl) h2 iX11_spells_11 fX11_spells_51 rfl rfl dX11_spells_37 (fun h10 => ?_)
      refine am_iload_n dX11_spells_40 rfl 3 rfl ?_
      refine am_iload dX11_spells_41 4 rfl ?_
      refine am_iast h10 dX11_spells_43 ?_
      refine am_letI (fun J11 => ?_)
      refine am_iconst (v := 0) dX11_spells_44 (by decide) ?_
      refine am_istore (ls' := [(5, .int (0 : Int32)), (0, .ref (am_B Z + a0)), (1, .int x1), (2, .int x2), (3, .int v3), (4, .int v8)]) dX11_spells_45 (Nat.le_of_ble_eq_true rfl) rfl ?_
      refine am_jnV (fun j12 ej12 => ?_)
      have hj12 : ∀ (J13 : am_I), am_V Z X kX11_spells (fun r : am_I => (none, R, r, L)) 75 [(0, .ref (am_B Z + a0)), (1, .int x1), (2, .int x2), (3, .int v3)] [] R J13 L (j12 J13) := by
        subst ej12
        intro J13
        show am_V Z X kX11_spells (fun r : am_I => (none, R, r, L)) 75 [(0, .ref (am_B Z + a0)), (1, .int x1), (2, .int x2), (3, .int v3)] [] R J13 L _
        refine am_iinc (j := 3) (ls' := [(3, .int (v3 + (1 : Int32))), (0, .ref (am_B Z + a0)), (1, .int x1), (2, .int x2)]) dX11_spells_75 rfl rfl (Nat.le_of_ble_eq_true rfl) rfl ?_
        refine am_goto (tgt := 7) dX11_spells_78 rfl ?_
        refine am_sub (ls' := [(0, .ref (am_B Z + a0)), (1, .int x1), (2, .int x2), (3, .int (v3 + (1 : Int32)))]) [1, 2, 3, 0] rfl ?_
        exact hih5 (v3 + (1 : Int32)) J13
      refine am_sub (ls' := [(0, .ref (am_B Z + a0)), (1, .int x1), (2, .int x2), (3, .int v3), (5, .int (0 : Int32))]) [1, 2, 3, 4, 0] rfl ?_
      exact uX11_spells_47 R L a0 x1 x2 v3 h2 j12 hj12 am_fu (0 : Int32) J11
    refine am_sub (ls' := [(0, .ref (am_B Z + a0)), (1, .int x1), (2, .int x2), (3, .int v3), (4, .int (0 : Int32))]) [1, 2, 3, 4, 0] rfl ?_
    exact uX11_spells_15 R L a0 x1 x2 v3 h2 j7 hj7 am_fu (0 : Int32) J4
theorem uX11_spells_7 {Z : am_Z} {X : am_X} (R : am_R) (L : am_L) (a0 : Nat) (x1 : Int32) (x2 : Int32) (h2 : am_G Z a0 = some (.inl 11)) : ∀ (n : Nat) (v3 : Int32) (J4 : am_I), am_V Z X kX11_spells (fun r : am_I => (none, R, r, L)) 7 [(0, .ref (am_B Z + a0)), (1, .int x1), (2, .int x2), (3, .int v3)] [] R J4 L (lX11_spells_7 R a0 x1 x2 n v3 J4) := by
  intro n
  induction n with
  | zero => intro _ _; exact am_none
  | succ n ih => exact fun v3 J4 => vX11_spells_7 R L a0 x1 x2 h2 (lX11_spells_7 R a0 x1 x2 n) ih v3 J4
set_option maxRecDepth 100000 in
set_option maxHeartbeats 4000000 in
theorem tX11_spells {Z : am_Z} (R : am_R) (I : am_I) (L : am_L) (a0 : Nat) (x1 : Int32) (x2 : Int32) (h_a0 : am_G Z a0 = some (.inl 11)) : am_M Z yX11_spells kX11_spells [.ref (am_B Z + a0), .int x1, .int x2] R I L (pX11_spells R I a0 x1 x2) (fun r : am_I => (none, R, r, L)) := by
  refine am_entry (ls := [(0, .ref (am_B Z + a0)), (1, .int x1), (2, .int x2)]) (by decide) hX11_spells rfl (Nat.le_of_ble_eq_true rfl) rfl (fun X => ?_)
  unfold pX11_spells
  refine am_aload_n dX11_spells_0 rfl 0 rfl ?_
  refine am_iload_n dX11_spells_1 rfl 1 rfl ?_
  refine am_putI 11 25 clX11 (Nat.le_of_ble_eq_true rfl) h_a0 iX11_spells_11 fX11_spells_252 rfl rfl dX11_spells_2 ?_
  refine am_letI (fun J1 => ?_)
  refine am_iconst (v := 0) dX11_spells_5 (by decide) ?_
  refine am_istore_n (ls' := [(3, .int (0 : Int32)), (0, .ref (am_B Z + a0)), (1, .int x1), (2, .int x2)]) dX11_spells_6 rfl (Nat.le_of_ble_eq_true rfl) rfl ?_
  refine am_sub (ls' := [(0, .ref (am_B Z + a0)), (1, .int x1), (2, .int x2), (3, .int (0 : Int32))]) [1, 2, 3, 0] rfl ?_
  exact uX11_spells_7 R L a0 x1 x2 h_a0 am_fu (0 : Int32) J1
