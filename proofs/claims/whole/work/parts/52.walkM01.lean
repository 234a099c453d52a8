abbrev kX11_trim : am_K := (cX11_trim, 8, RX11, wsX11_trim, some .int, { frames := 4, cells := 0, slots := 0, locals := 92 })
theorem hX11_trim : am_cl yX11_trim kX11_trim 0 := ⟨⟨_, rfl⟩, rfl, rfl, by decide +kernel, by decide +kernel, by decide +kernel⟩
theorem iX11_trim_11 : ∀ w ∈ u_ws RX11 TX11 50, w ∈ wsX11_trim := by decide +kernel
theorem fX11_trim_19 : Cond.fieldLink RX11 19 "AmbiguityAnalyzerModel" "states" "I" ∈ wsX11_trim := by decide +kernel
theorem fX11_trim_23 : Cond.fieldLink RX11 23 "AmbiguityAnalyzerModel" "numberOf" "[I" ∈ wsX11_trim := by decide +kernel
theorem fX11_trim_112 : Cond.fieldLink RX11 112 "AmbiguityAnalyzerModel" "initials" "I" ∈ wsX11_trim := by decide +kernel
theorem fX11_trim_115 : Cond.fieldLink RX11 115 "AmbiguityAnalyzerModel" "finals" "I" ∈ wsX11_trim := by decide +kernel
theorem fX11_trim_26 : Cond.fieldLink RX11 26 "AmbiguityAnalyzerModel" "oldTargets" "[I" ∈ wsX11_trim := by decide +kernel
theorem fX11_trim_7 : Cond.fieldLink RX11 7 "AmbiguityAnalyzerModel" "targets" "[I" ∈ wsX11_trim := by decide +kernel
set_option maxRecDepth 100000 in
set_option maxHeartbeats 4000000 in
theorem vX11_trim_133 {Z : am_Z} {X : am_X} (R : am_R) (L : am_L) (a0 : Nat) (r1 : Int32) (v2 : Int32) (v16 : Int32) (h22 : am_G Z a0 = some (.inl 11)) (j20 : am_I → Option (Int32 × am_I)) (hj20 : ∀ (J21 : am_I), am_V Z X kX11_trim (fun r : Int32 × am_I => (some (.int r.1), R, r.2, L)) 191 [(0, .ref (am_B Z + a0)), (1, .int r1), (3, .int v2), (6, .int v16)] [] R J21 L (j20 J21)) (ih25 : Int32 → am_I → Option (Int32 × am_I)) (hih25 : ∀ (v23 : Int32) (J24 : am_I), am_V Z X kX11_trim (fun r : Int32 × am_I => (some (.int r.1), R, r.2, L)) 133 [(0, .ref (am_B Z + a0)), (1, .int r1), (3, .int v2), (6, .int v16), (7, .int v23)] [] R J24 L (ih25 v23 J24)) (v23 : Int32) (J24 : am_I) : am_V Z X kX11_trim (fun r : Int32 × am_I => (some (.int r.1), R, r.2, L)) 133 [(0, .ref (am_B Z + a0)), (1, .int r1), (3, .int v2), (6, .int v16), (7, .int v23)] [] R J24 L (sX11_trim_133 R a0 r1 v2 v16 j20 ih25 v23 J24) := by
  unfold sX11_trim_133
  refine am_iload dX11_trim_133 4 rfl ?_
  refine am_iload_n dX11_trim_135 rfl 2 rfl ?_
  refine am_icmp_ge (tgt := 191) dX11_trim_136 rfl (fun e26 => ?_) (fun e26 => ?_)
  · refine am_sub (ls' := [(0, .ref (am_B Z + a0)), (1, .int r1), (3, .int v2), (6, .int v16)]) [0, 1, 2, 3] rfl ?_
    exact hj20 J24
  · refine am_iload_n dX11_trim_139 rfl 1 rfl ?_
    refine am_i2l dX11_trim_140 ?_
    refine am_iload dX11_trim_141 4 rfl ?_
    refine am_callS [.long (Int32.toInt64 r1), .int v23] (tX11_has R J24 L (Int32.toInt64 r1) v23) gX11_trim_X11_has hX11_has ⟨Nat.le_of_ble_eq_true rfl, Nat.le_of_ble_eq_true rfl⟩ rfl rfl (Nat.le_of_ble_eq_true rfl) dX11_trim_143 (fun r27 => ?_)
    show am_V Z X kX11_trim (fun r : Int32 × am_I => (some (.int r.1), R, r.2, L)) 146 [(0, .ref (am_B Z + a0)), (1, .int r1), (3, .int v2), (6, .int v16), (7, .int v23)] [.int r27] R J24 L _
    refine am_jnV (fun j28 ej28 => ?_)
    have hj28 : ∀ (J29 : am_I), am_V Z X kX11_trim (fun r : Int32 × am_I => (some (.int r.1), R, r.2, L)) 185 [(0, .ref (am_B Z + a0)), (1, .int r1), (3, .int v2), (6, .int v16), (7, .int v23)] [] R J29 L (j28 J29) := by
      subst ej28
      intro J29
      show am_V Z X kX11_trim (fun r : Int32 × am_I => (some (.int r.1), R, r.2, L)) 185 [(0, .ref (am_B Z + a0)), (1, .int r1), (3, .int v2), (6, .int v16), (7, .int v23)] [] R J29 L _
      refine am_iinc (j := 4) (ls' := [(7, .int (v23 + (1 : Int32))), (0, .ref (am_B Z + a0)), (1, .int r1), (3, .int v2), (6, .int v16)]) dX11_trim_185 rfl rfl (Nat.le_of_ble_eq_true rfl) rfl ?_
      refine am_goto (tgt := 133) dX11_trim_188 rfl ?_
      refine am_sub (ls' := [(0, .ref (am_B Z + a0)), (1, .int r1), (3, .int v2), (6, .int v16), (7, .int (v23 + (1 : Int32)))]) [1, 2, 3, 4, 0] rfl ?_
      exact hih25 (v23 + (1 : Int32)) J29
    refine am_if_eq (tgt := 185) dX11_trim_146 rfl (fun e30 => ?_) (fun e30 => ?_)
    · exact hj28 J24
    · refine am_aload_n dX11_trim_149 rfl 0 rfl ?_
      refine am_getR 11 0 clX11 (Nat.le_of_ble_eq_true rfl) h22 iX11_trim_11 fX11_trim_7 rfl rfl dX11_trim_150 (fun h31 => ?_)
      refine am_bipush (v := 6) dX11_trim_153 (by decide) ?_
      refine am_iload dX11_trim_155 3 rfl ?_
      refine am_imul dX11_trim_157 ?_
      refine am_aload_n dX11_trim_158 rfl 0 rfl ?_
      refine am_getR 11 7 clX11 (Nat.le_of_ble_eq_true rfl) h22 iX11_trim_11 fX11_trim_23 rfl rfl dX11_trim_159 (fun h32 => ?_)
      refine am_iload dX11_trim_162 4 rfl ?_
      refine am_iald h32 dX11_trim_164 ?_
      refine am_iadd dX11_trim_165 ?_
      refine am_aload_n dX11_trim_166 rfl 0 rfl ?_
      refine am_aload_n dX11_trim_167 rfl 0 rfl ?_
      refine am_getR 11 8 clX11 (Nat.le_of_ble_eq_true rfl) h22 iX11_trim_11 fX11_trim_26 rfl rfl dX11_trim_168 (fun h33 => ?_)
      refine am_bipush (v := 6) dX11_trim_171 (by decide) ?_
      refine am_iload dX11_trim_173 3 rfl ?_
      refine am_imul dX11_trim_175 ?_
      refine am_iload dX11_trim_176 4 rfl ?_
      refine am_iadd dX11_trim_178 ?_
      refine am_iald h33 dX11_trim_179 ?_
      refine am_iload_n dX11_trim_180 rfl 1 rfl ?_
      refine am_callV [.int (J24 (R a0 8) (Int32.toNatClampNeg (((6 : Int32) * v16) + v23))), .int r1] (tX11_renumbered R J24 L a0 (J24 (R a0 8) (Int32.toNatClampNeg (((6 : Int32) * v16) + v23))) r1 h22) h22 clX11 gX11_trim_X11_renumbered hX11_renumbered rfl ⟨Nat.le_of_ble_eq_true rfl, Nat.le_of_ble_eq_true rfl⟩ rfl rfl (Nat.le_of_ble_eq_true rfl) dX11_trim_181 (fun r34 => ?_)
      show am_V Z X kX11_trim (fun r : Int32 × am_I => (some (.int r.1), R, r.2, L)) 184 [(0, .ref (am_B Z + a0)), (1, .int r1), (3, .int v2), (6, .int v16), (7, .int v23)] [.int r34, .int (((6 : Int32) * v16) + (J24 (R a0 7) (Int32.toNatClampNeg v23))), .ref (am_B Z + (R a0 0))] R J24 L _
      refine am_iast h31 dX11_trim_184 ?_
      refine am_letI (fun J35 => ?_)
      exact hj28 J35
theorem uX11_trim_133 {Z : am_Z} {X : am_X} (R : am_R) (L : am_L) (a0 : Nat) (r1 : Int32) (v2 : Int32) (v16 : Int32) (h22 : am_G Z a0 = some (.inl 11)) (j20 : am_I → Option (Int32 × am_I)) (hj20 : ∀ (J21 : am_I), am_V Z X kX11_trim (fun r : Int32 × am_I => (some (.int r.1), R, r.2, L)) 191 [(0, .ref (am_B Z + a0)), (1, .int r1), (3, .int v2), (6, .int v16)] [] R J21 L (j20 J21)) : ∀ (n : Nat) (v23 : Int32) (J24 : am_I), am_V Z X kX11_trim (fun r : Int32 × am_I => (some (.int r.1), R, r.2, L)) 133 [(0, .ref (am_B Z + a0)), (1, .int r1), (3, .int v2), (6, .int v16), (7, .int v23)] [] R J24 L (lX11_trim_133 R a0 r1 v2 v16 j20 n v23 J24) := by
  intro n
  induction n with
  | zero => intro _ _; exact am_none
  | succ n ih => exact fun v23 J24 => vX11_trim_133 R L a0 r1 v2 v16 h22 j20 hj20 (lX11_trim_133 R a0 r1 v2 v16 j20 n) ih v23 J24
set_option maxRecDepth 100000 in
set_option maxHeartbeats 4000000 in
theorem vX11_trim_124 {Z : am_Z} {X : am_X} (R : am_R) (L : am_L) (a0 : Nat) (r1 : Int32) (v2 : Int32) (h15 : am_G Z a0 = some (.inl 11)) (ih18 : Int32 → am_I → Option (Int32 × am_I)) (hih18 : ∀ (v16 : Int32) (J17 : am_I), am_V Z X kX11_trim (fun r : Int32 × am_I => (some (.int r.1), R, r.2, L)) 124 [(0, .ref (am_B Z + a0)), (1, .int r1), (3, .int v2), (6, .int v16)] [] R J17 L (ih18 v16 J17)) (v16 : Int32) (J17 : am_I) : am_V Z X kX11_trim (fun r : Int32 × am_I => (some (.int r.1), R, r.2, L)) 124 [(0, .ref (am_B Z + a0)), (1, .int r1), (3, .int v2), (6, .int v16)] [] R J17 L (sX11_trim_124 R a0 r1 v2 ih18 v16 J17) := by
  unfold sX11_trim_124
  refine am_iload dX11_trim_124 3 rfl ?_
  refine am_iconst (v := 3) dX11_trim_126 (by decide) ?_
  refine am_icmp_ge (tgt := 197) dX11_trim_127 rfl (fun e19 => ?_) (fun e19 => ?_)
  · refine am_aload_n dX11_trim_197 rfl 0 rfl ?_
    refine am_get 11 3 clX11 (Nat.le_of_ble_eq_true rfl) h15 iX11_trim_11 fX11_trim_19 rfl dX11_trim_198 ?_
    exact am_iret dX11_trim_201 rfl rfl
  · refine am_iconst (v := 0) dX11_trim_130 (by decide) ?_
    refine am_istore (ls' := [(7, .int (0 : Int32)), (0, .ref (am_B Z + a0)), (1, .int r1), (3, .int v2), (6, .int v16)]) dX11_trim_131 (Nat.le_of_ble_eq_true rfl) rfl ?_
    refine am_jnV (fun j20 ej20 => ?_)
    have hj20 : ∀ (J21 : am_I), am_V Z X kX11_trim (fun r : Int32 × am_I => (some (.int r.1), R, r.2, L)) 191 [(0, .ref (am_B Z + a0)), (1, .int r1), (3, .int v2), (6, .int v16)] [] R J21 L (j20 J21) := by
      subst ej20
      intro J21
      show am_V Z X kX11_trim (fun r : Int32 × am_I => (some (.int r.1), R, r.2, L)) 191 [(0, .ref (am_B Z + a0)), (1, .int r1), (3, .int v2), (6, .int v16)] [] R J21 L _
      refine am_iinc (j := 3) (ls' := [(6, .int (v16 + (1 : Int32))), (0, .ref (am_B Z + a0)), (1, .int r1), (3, .int v2)]) dX11_trim_191 rfl rfl (Nat.le_of_ble_eq_true rfl) rfl ?_
      refine am_goto (tgt := 124) dX11_trim_194 rfl ?_
      refine am_sub (ls' := [(0, .ref (am_B Z + a0)), (1, .int r1), (3, .int v2), (6, .int (v16 + (1 : Int32)))]) [1, 2, 3, 0] rfl ?_
      exact hih18 (v16 + (1 : Int32)) J21
    refine am_sub (ls' := [(0, .ref (am_B Z + a0)), (1, .int r1), (3, .int v2), (6, .int v16), (7, .int (0 : Int32))]) [1, 2, 3, 4, 0] rfl ?_
    exact uX11_trim_133 R L a0 r1 v2 v16 h15 j20 hj20 am_fu (0 : Int32) J17
theorem uX11_trim_124 {Z : am_Z} {X : am_X} (R : am_R) (L : am_L) (a0 : Nat) (r1 : Int32) (v2 : Int32) (h15 : am_G Z a0 = some (.inl 11)) : ∀ (n : Nat) (v16 : Int32) (J17 : am_I), am_V Z X kX11_trim (fun r : Int32 × am_I => (some (.int r.1), R, r.2, L)) 124 [(0, .ref (am_B Z + a0)), (1, .int r1), (3, .int v2), (6, .int v16)] [] R J17 L (lX11_trim_124 R a0 r1 v2 n v16 J17) := by
  intro n
  induction n with
  | zero => intro _ _; exact am_none
  | succ n ih => exact fun v16 J17 => vX11_trim_124 R L a0 r1 v2 h15 (lX11_trim_124 R a0 r1 v2 n) ih v16 J17
set_option maxRecDepth 100000 in
set_option maxHeartbeats 4000000 in
theorem vX11_trim_69 {Z : am_Z} {X : am_X} (R : am_R) (L : am_L) (a0 : Nat) (r1 : Int32) (v4 : Int32) (v2 : Int32) (r6 : Int32) (r7 : Int32) (h37 : am_G Z a0 = some (.inl 11)) (j8 : am_I → Option (Int32 × am_I)) (hj8 : ∀ (J9 : am_I), am_V Z X kX11_trim (fun r : Int32 × am_I => (some (.int r.1), R, r.2, L)) 96 [(0, .ref (am_B Z + a0)), (1, .int r1), (2, .int v4), (3, .int v2), (4, .int r6), (5, .int r7)] [] R J9 L (j8 J9)) (ih40 : Int32 → am_I → Option (Int32 × am_I)) (hih40 : ∀ (v38 : Int32) (J39 : am_I), am_V Z X kX11_trim (fun r : Int32 × am_I => (some (.int r.1), R, r.2, L)) 69 [(0, .ref (am_B Z + a0)), (1, .int r1), (2, .int v4), (3, .int v2), (4, .int r6), (5, .int r7), (6, .int v38)] [] R J39 L (ih40 v38 J39)) (v38 : Int32) (J39 : am_I) : am_V Z X kX11_trim (fun r : Int32 × am_I => (some (.int r.1), R, r.2, L)) 69 [(0, .ref (am_B Z + a0)), (1, .int r1), (2, .int v4), (3, .int v2), (4, .int r6), (5, .int r7), (6, .int v38)] [] R J39 L (sX11_trim_69 R a0 r1 v4 v2 r6 r7 j8 ih40 v38 J39) := by
  unfold sX11_trim_69
  refine am_iload dX11_trim_69 6 rfl ?_
  refine am_bipush (v := 18) dX11_trim_71 (by decide) ?_
  refine am_icmp_ge (tgt := 96) dX11_trim_73 rfl (fun e41 => ?_) (fun e41 => ?_)
  · refine am_sub (ls' := [(0, .ref (am_B Z + a0)), (1, .int r1), (2, .int v4), (3, .int v2), (4, .int r6), (5, .int r7)]) [0, 1, 2, 3, 4, 5] rfl ?_
    exact hj8 J39
  · refine am_aload_n dX11_trim_76 rfl 0 rfl ?_
    refine am_getR 11 8 clX11 (Nat.le_of_ble_eq_true rfl) h37 iX11_trim_11 fX11_trim_26 rfl rfl dX11_trim_77 (fun h42 => ?_)
    refine am_iload dX11_trim_80 6 rfl ?_
    refine am_aload_n dX11_trim_82 rfl 0 rfl ?_
    refine am_getR 11 0 clX11 (Nat.le_of_ble_eq_true rfl) h37 iX11_trim_11 fX11_trim_7 rfl rfl dX11_trim_83 (fun h43 => ?_)
    refine am_iload dX11_trim_86 6 rfl ?_
    refine am_iald h43 dX11_trim_88 ?_
    refine am_iast h42 dX11_trim_89 ?_
    refine am_letI (fun J44 => ?_)
    refine am_iinc (j := 6) (ls' := [(6, .int (v38 + (1 : Int32))), (0, .ref (am_B Z + a0)), (1, .int r1), (2, .int v4), (3, .int v2), (4, .int r6), (5, .int r7)]) dX11_trim_90 rfl rfl (Nat.le_of_ble_eq_true rfl) rfl ?_
    refine am_goto (tgt := 69) dX11_trim_93 rfl ?_
    refine am_sub (ls' := [(0, .ref (am_B Z + a0)), (1, .int r1), (2, .int v4), (3, .int v2), (4, .int r6), (5, .int r7), (6, .int (v38 + (1 : Int32)))]) [1, 2, 3, 4, 5, 6, 0] rfl ?_
    exact hih40 (v38 + (1 : Int32)) J44
theorem uX11_trim_69 {Z : am_Z} {X : am_X} (R : am_R) (L : am_L) (a0 : Nat) (r1 : Int32) (v4 : Int32) (v2 : Int32) (r6 : Int32) (r7 : Int32) (h37 : am_G Z a0 = some (.inl 11)) (j8 : am_I → Option (Int32 × am_I)) (hj8 : ∀ (J9 : am_I), am_V Z X kX11_trim (fun r : Int32 × am_I => (some (.int r.1), R, r.2, L)) 96 [(0, .ref (am_B Z + a0)), (1, .int r1), (2, .int v4), (3, .int v2), (4, .int r6), (5, .int r7)] [] R J9 L (j8 J9)) : ∀ (n : Nat) (v38 : Int32) (J39 : am_I), am_V Z X kX11_trim (fun r : Int32 × am_I => (some (.int r.1), R, r.2, L)) 69 [(0, .ref (am_B Z + a0)), (1, .int r1), (2, .int v4), (3, .int v2), (4, .int r6), (5, .int r7), (6, .int v38)] [] R J39 L (lX11_trim_69 R a0 r1 v4 v2 r6 r7 j8 n v38 J39) := by
  intro n
  induction n with
  | zero => intro _ _; exact am_none
  | succ n ih => exact fun v38 J39 => vX11_trim_69 R L a0 r1 v4 v2 r6 r7 h37 j8 hj8 (lX11_trim_69 R a0 r1 v4 v2 r6 r7 j8 n) ih v38 J39
set_option maxRecDepth 100000 in
set_option maxHeartbeats 4000000 in
theorem vX11_trim_15 {Z : am_Z} {X : am_X} (R : am_R) (L : am_L) (a0 : Nat) (r1 : Int32) (v2 : Int32) (h45 : am_G Z a0 = some (.inl 11)) (j3 : Int32 → am_I → Option (Int32 × am_I)) (hj3 : ∀ (v4 : Int32) (J5 : am_I), am_V Z X kX11_trim (fun r : Int32 × am_I => (some (.int r.1), R, r.2, L)) 44 [(0, .ref (am_B Z + a0)), (1, .int r1), (2, .int v4), (3, .int v2)] [] R J5 L (j3 v4 J5)) (ih49 : Int32 → Int32 → am_I → Option (Int32 × am_I)) (hih49 : ∀ (v46 : Int32) (v47 : Int32) (J48 : am_I), am_V Z X kX11_trim (fun r : Int32 × am_I => (some (.int r.1), R, r.2, L)) 15 [(0, .ref (am_B Z + a0)), (1, .int r1), (2, .int v46), (3, .int v2), (4, .int v47)] [] R J48 L (ih49 v46 v47 J48)) (v46 : Int32) (v47 : Int32) (J48 : am_I) : am_V Z X kX11_trim (fun r : Int32 × am_I => (some (.int r.1), R, r.2, L)) 15 [(0, .ref (am_B Z + a0)), (1, .int r1), (2, .int v46), (3, .int v2), (4, .int v47)] [] R J48 L (sX11_trim_15 R a0 r1 v2 j3 ih49 v46 v47 J48) := by
  unfold sX11_trim_15
  refine am_iload dX11_trim_15 4 rfl ?_
  refine am_iload_n dX11_trim_17 rfl 3 rfl ?_
  refine am_icmp_ge (tgt := 44) dX11_trim_18 rfl (fun e50 => ?_) (fun e50 => ?_)
  · refine am_sub (ls' := [(0, .ref (am_B Z + a0)), (1, .int r1), (2, .int v46), (3, .int v2)]) [0, 1, 2, 3] rfl ?_
    exact hj3 v46 J48
  · refine am_aload_n dX11_trim_21 rfl 0 rfl ?_
    refine am_getR 11 7 clX11 (Nat.le_of_ble_eq_true rfl) h45 iX11_trim_11 fX11_trim_23 rfl rfl dX11_trim_22 (fun h51 => ?_)
    refine am_iload dX11_trim_25 4 rfl ?_
    refine am_iload_n dX11_trim_27 rfl 2 rfl ?_
    refine am_iast h51 dX11_trim_28 ?_
    refine am_letI (fun J52 => ?_)
    refine am_iload_n dX11_trim_29 rfl 2 rfl ?_
    refine am_iload_n dX11_trim_30 rfl 1 rfl ?_
    refine am_iload dX11_trim_31 4 rfl ?_
    refine am_ishr dX11_trim_33 ?_
    refine am_iconst (v := 1) dX11_trim_34 (by decide) ?_
    refine am_iand dX11_trim_35 ?_
    refine am_iadd dX11_trim_36 ?_
    refine am_letTi (fun v53 => ?_)
    refine am_istore_n (ls' := [(2, .int v53), (0, .ref (am_B Z + a0)), (1, .int r1), (3, .int v2), (4, .int v47)]) dX11_trim_37 rfl (Nat.le_of_ble_eq_true rfl) rfl ?_
    refine am_iinc (j := 4) (ls' := [(4, .int (v47 + (1 : Int32))), (2, .int v53), (0, .ref (am_B Z + a0)), (1, .int r1), (3, .int v2)]) dX11_trim_38 rfl rfl (Nat.le_of_ble_eq_true rfl) rfl ?_
    refine am_goto (tgt := 15) dX11_trim_41 rfl ?_
    refine am_sub (ls' := [(0, .ref (am_B Z + a0)), (1, .int r1), (2, .int v53), (3, .int v2), (4, .int (v47 + (1 : Int32)))]) [2, 3, 1, 4, 0] rfl ?_
    exact hih49 v53 (v47 + (1 : Int32)) J52
theorem uX11_trim_15 {Z : am_Z} {X : am_X} (R : am_R) (L : am_L) (a0 : Nat) (r1 : Int32) (v2 : Int32) (h45 : am_G Z a0 = some (.inl 11)) (j3 : Int32 → am_I → Option (Int32 × am_I)) (hj3 : ∀ (v4 : Int32) (J5 : am_I), am_V Z X kX11_trim (fun r : Int32 × am_I => (some (.int r.1), R, r.2, L)) 44 [(0, .ref (am_B Z + a0)), (1, .int r1), (2, .int v4), (3, .int v2)] [] R J5 L (j3 v4 J5)) : ∀ (n : Nat) (v46 : Int32) (v47 : Int32) (J48 : am_I), am_V Z X kX11_trim (fun r : Int32 × am_I => (some (.int r.1), R, r.2, L)) 15 [(0, .ref (am_B Z + a0)), (1, .int r1), (2, .int v46), (3, .int v2), (4, .int v47)] [] R J48 L (lX11_trim_15 R a0 r1 v2 j3 n v46 v47 J48) := by
  intro n
  induction n with
  | zero => intro _ _ _; exact am_none
  | succ n ih => exact fun v46 v47 J48 => vX11_trim_15 R L a0 r1 v2 h45 j3 hj3 (lX11_trim_15 R a0 r1 v2 j3 n) ih v46 v47 J48
set_option maxRecDepth 100000 in
set_option maxHeartbeats 4000000 in
theorem tX11_trim {Z : am_Z} (R : am_R) (I : am_I) (L : am_L) (a0 : Nat) (h_a0 : am_G Z a0 = some (.inl 11)) : am_M Z yX11_trim kX11_trim [.ref (am_B Z + a0)] R I L (pX11_trim R I a0) (fun r : Int32 × am_I => (some (.int r.1), R, r.2, L)) := by
  refine am_entry (ls := [(0, .ref (am_B Z + a0))]) (by decide) hX11_trim rfl (Nat.le_of_ble_eq_true rfl) rfl (fun X => ?_)
  unfold pX11_trim
  refine am_aload_n dX11_trim_0 rfl 0 rfl ?_
  refine am_callV [] (tX11_useful R I L a0 h_a0) h_a0 clX11 gX11_trim_X11_useful hX11_useful rfl ⟨Nat.le_of_ble_eq_true rfl, Nat.le_of_ble_eq_true rfl⟩ rfl rfl (Nat.le_of_ble_eq_true rfl) dX11_trim_1 (fun r1 => ?_)
  show am_V Z X kX11_trim (fun r : Int32 × am_I => (some (.int r.1), R, r.2, L)) 4 [(0, .ref (am_B Z + a0))] [.int r1] R I L _
  refine am_istore_n (ls' := [(1, .int r1), (0, .ref (am_B Z + a0))]) dX11_trim_4 rfl (Nat.le_of_ble_eq_true rfl) rfl ?_
  refine am_iconst (v := 0) dX11_trim_5 (by decide) ?_
  refine am_istore_n (ls' := [(2, .int (0 : Int32)), (1, .int r1), (0, .ref (am_B Z + a0))]) dX11_trim_6 rfl (Nat.le_of_ble_eq_true rfl) rfl ?_
  refine am_aload_n dX11_trim_7 rfl 2 rfl ?_
  refine am_get 11 3 clX11 (Nat.le_of_ble_eq_true rfl) h_a0 iX11_trim_11 fX11_trim_19 rfl dX11_trim_8 ?_
  refine am_letTi (fun v2 => ?_)
  refine am_istore_n (ls' := [(3, .int v2), (2, .int (0 : Int32)), (1, .int r1), (0, .ref (am_B Z + a0))]) dX11_trim_11 rfl (Nat.le_of_ble_eq_true rfl) rfl ?_
  refine am_iconst (v := 0) dX11_trim_12 (by decide) ?_
  refine am_istore (ls' := [(4, .int (0 : Int32)), (3, .int v2), (2, .int (0 : Int32)), (1, .int r1), (0, .ref (am_B Z + a0))]) dX11_trim_13 (Nat.le_of_ble_eq_true rfl) rfl ?_
  refine am_jnV (fun j3 ej3 => ?_)
  have hj3 : ∀ (v4 : Int32) (J5 : am_I), am_V Z X kX11_trim (fun r : Int32 × am_I => (some (.int r.1), R, r.2, L)) 44 [(0, .ref (am_B Z + a0)), (1, .int r1), (2, .int v4), (3, .int v2)] [] R J5 L (j3 v4 J5) := by
    subst ej3
    intro v4 J5
    show am_V Z X kX11_trim (fun r : Int32 × am_I => (some (.int r.1), R, r.2, L)) 44 [(0, .ref (am_B Z + a0)), (1, .int r1), (2, .int v4), (3, .int v2)] [] R J5 L _
    refine am_aload_n dX11_trim_44 rfl 0 rfl ?_
    refine am_aload_n dX11_trim_45 rfl 0 rfl ?_
    refine am_get 11 4 clX11 (Nat.le_of_ble_eq_true rfl) h_a0 iX11_trim_11 fX11_trim_112 rfl dX11_trim_46 ?_
    refine am_iload_n dX11_trim_49 rfl 1 rfl ?_
    refine am_callV [.int (J5 a0 4), .int r1] (tX11_renumbered R J5 L a0 (J5 a0 4) r1 h_a0) h_a0 clX11 gX11_trim_X11_renumbered hX11_renumbered rfl ⟨Nat.le_of_ble_eq_true rfl, Nat.le_of_ble_eq_true rfl⟩ rfl rfl (Nat.le_of_ble_eq_true rfl) dX11_trim_50 (fun r6 => ?_)
    show am_V Z X kX11_trim (fun r : Int32 × am_I => (some (.int r.1), R, r.2, L)) 53 [(0, .ref (am_B Z + a0)), (1, .int r1), (2, .int v4), (3, .int v2)] [.int r6] R J5 L _
    refine am_istore (ls' := [(4, .int r6), (0, .ref (am_B Z + a0)), (1, .int r1), (2, .int v4), (3, .int v2)]) dX11_trim_53 (Nat.le_of_ble_eq_true rfl) rfl ?_
    refine am_aload_n dX11_trim_55 rfl 1 rfl ?_
    refine am_aload_n dX11_trim_56 rfl 1 rfl ?_
    refine am_get 11 5 clX11 (Nat.le_of_ble_eq_true rfl) h_a0 iX11_trim_11 fX11_trim_115 rfl dX11_trim_57 ?_
    refine am_iload_n dX11_trim_60 rfl 2 rfl ?_
    refine am_callV [.int (J5 a0 5), .int r1] (tX11_renumbered R J5 L a0 (J5 a0 5) r1 h_a0) h_a0 clX11 gX11_trim_X11_renumbered hX11_renumbered rfl ⟨Nat.le_of_ble_eq_true rfl, Nat.le_of_ble_eq_true rfl⟩ rfl rfl (Nat.le_of_ble_eq_true rfl) dX11_trim_61 (fun r7 => ?_)
    show am_V Z X kX11_trim (fun r : Int32 × am_I => (some (.int r.1), R, r.2, L)) 64 [(4, .int r6), (0, .ref (am_B Z + a0)), (1, .int r1), (2, .int v4), (3, .int v2)] [.int r7] R J5 L _
    refine am_istore (ls' := [(5, .int r7), (4, .int r6), (0, .ref (am_B Z + a0)), (1, .int r1), (2, .int v4), (3, .int v2)]) dX11_trim_64 (Nat.le_of_ble_eq_true rfl) rfl ?_
    refine am_iconst (v := 0) dX11_trim_66 (by decide) ?_
    refine am_istore (ls' := [(6, .int (0 : Int32)), (5, .int r7), (4, .int r6), (0, .ref (am_B Z + a0)), (1, .int r1), (2, .int v4), (3, .int v2)]) dX11_trim_67 (Nat.le_of_ble_eq_true rfl) rfl ?_
    refine am_jnV (fun j8 ej8 => ?_)
    have hj8 : ∀ (J9 : am_I), am_V Z X kX11_trim (fun r : Int32 × am_I => (some (.int r.1), R, r.2, L)) 96 [(0, .ref (am_B Z + a0)), (1, .int r1), (2, .int v4), (3, .int v2), (4, .int r6), (5, .int r7)] [] R J9 L (j8 J9) := by
      subst ej8
      intro J9
      show am_V Z X kX11_trim (fun r : Int32 × am_I => (some (.int r.1), R, r.2, L)) 96 [(0, .ref (am_B Z + a0)), (1, .int r1), (2, .int v4), (3, .int v2), (4, .int r6), (5, .int r7)] [] R J9 L _
      refine am_aload_n dX11_trim_96 rfl 0 rfl ?_
      refine am_iload_n dX11_trim_97 rfl 2 rfl ?_
      refine am_letJ (fun k11 ek11 => ?_)
      have hk11 : ∀ v10 : Int32, am_V Z X kX11_trim (fun r : Int32 × am_I => (some (.int r.1), R, r.2, L)) 106 [(0, .ref (am_B Z + a0)), (1, .int r1), (3, .int v2), (4, .int r6), (5, .int r7)] [.int v10, .ref (am_B Z + a0)] R J9 L (k11 v10) := by
        subst ek11
        intro v10
        show am_V Z X kX11_trim (fun r : Int32 × am_I => (some (.int r.1), R, r.2, L)) 106 [(0, .ref (am_B Z + a0)), (1, .int r1), (3, .int v2), (4, .int r6), (5, .int r7)] [.int v10, .ref (am_B Z + a0)] R J9 L _
        refine am_callV [.int v10] (tX11_clears R J9 L a0 v10 h_a0) h_a0 clX11 gX11_trim_X11_clears hX11_clears rfl ⟨Nat.le_of_ble_eq_true rfl, Nat.le_of_ble_eq_true rfl⟩ rfl rfl (Nat.le_of_ble_eq_true rfl) dX11_trim_106 (fun r12 => ?_)
        show am_V Z X kX11_trim (fun r : Int32 × am_I => (some (.int r.1), R, r.2, L)) 109 [(0, .ref (am_B Z + a0)), (1, .int r1), (3, .int v2), (4, .int r6), (5, .int r7)] [] R r12 L _
        refine am_aload_n dX11_trim_109 rfl 0 rfl ?_
        refine am_iload dX11_trim_110 3 rfl ?_
        refine am_putI 11 4 clX11 (Nat.le_of_ble_eq_true rfl) h_a0 iX11_trim_11 fX11_trim_112 rfl rfl dX11_trim_112 ?_
        refine am_letI (fun J13 => ?_)
        refine am_aload_n dX11_trim_115 rfl 0 rfl ?_
        refine am_iload dX11_trim_116 4 rfl ?_
        refine am_putI 11 5 clX11 (Nat.le_of_ble_eq_true rfl) h_a0 iX11_trim_11 fX11_trim_115 rfl rfl dX11_trim_118 ?_
        refine am_letI (fun J14 => ?_)
        refine am_iconst (v := 0) dX11_trim_121 (by decide) ?_
        refine am_istore (ls' := [(6, .int (0 : Int32)), (0, .ref (am_B Z + a0)), (1, .int r1), (3, .int v2), (4, .int r6), (5, .int r7)]) dX11_trim_122 (Nat.le_of_ble_eq_true rfl) rfl ?_
        refine am_sub (ls' := [(0, .ref (am_B Z + a0)), (1, .int r1), (3, .int v2), (6, .int (0 : Int32))]) [1, 2, 3, 0] rfl ?_
        exact uX11_trim_124 R L a0 r1 v2 h_a0 am_fu (0 : Int32) J14
      refine am_if_neL (tgt := 105) dX11_trim_98 rfl (fun e36 => ?_) (fun e36 => ?_)
      · refine am_iload_n dX11_trim_105 rfl 2 rfl ?_
        refine am_sub (ls' := [(0, .ref (am_B Z + a0)), (1, .int r1), (3, .int v2), (4, .int r6), (5, .int r7)]) [0, 1, 3, 4, 5] rfl ?_
        exact hk11 _
      · refine am_iconst (v := 1) dX11_trim_101 (by decide) ?_
        refine am_goto (tgt := 106) dX11_trim_102 rfl ?_
        refine am_sub (ls' := [(0, .ref (am_B Z + a0)), (1, .int r1), (3, .int v2), (4, .int r6), (5, .int r7)]) [0, 1, 3, 4, 5] rfl ?_
        exact hk11 _
    refine am_sub (ls' := [(0, .ref (am_B Z + a0)), (1, .int r1), (2, .int v4), (3, .int v2), (4, .int r6), (5, .int r7), (6, .int (0 : Int32))]) [3, 4, 5, 6, 2, 1, 0] rfl ?_
    exact uX11_trim_69 R L a0 r1 v4 v2 r6 r7 h_a0 j8 hj8 am_fu (0 : Int32) J5
  refine am_sub (ls' := [(0, .ref (am_B Z + a0)), (1, .int r1), (2, .int (0 : Int32)), (3, .int v2), (4, .int (0 : Int32))]) [4, 3, 2, 1, 0] rfl ?_
  exact uX11_trim_15 R L a0 r1 v2 h_a0 j3 hj3 am_fu (0 : Int32) (0 : Int32) I
abbrev kX11_draw : am_K := (cX11_draw, 2, RX11, wsX11_draw, some .int, { frames := 0, cells := 0, slots := 0, locals := 0 })
theorem hX11_draw : am_cl yX11_draw kX11_draw 1 := ⟨⟨_, rfl⟩, rfl, rfl, by decide +kernel, by decide +kernel, by decide +kernel⟩
theorem iX11_draw_11 : ∀ w ∈ u_ws RX11 TX11 50, w ∈ wsX11_draw := by decide +kernel
theorem fX11_draw_158 : Cond.fieldLink RX11 158 "AmbiguityAnalyzerModel" "seed" "I" ∈ wsX11_draw := by decide +kernel
set_option maxRecDepth 100000 in
set_option maxHeartbeats 4000000 in
theorem tX11_draw {Z : am_Z} (R : am_R) (I : am_I) (L : am_L) (a0 : Nat) (x1 : Int32) (h_a0 : am_G Z a0 = some (.inl 11)) : am_M Z yX11_draw kX11_draw [.ref (am_B Z + a0), .int x1] R I L (pX11_draw I a0 x1) (fun r : Int32 × am_I => (some (.int r.1), R, r.2, L)) := by
  refine am_entry (ls := [(0, .ref (am_B Z + a0)), (1, .int x1)]) (by decide) hX11_draw rfl (Nat.le_of_ble_eq_true rfl) rfl (fun X => ?_)
  unfold pX11_draw
  refine am_aload_n dX11_draw_0 rfl 0 rfl ?_
  refine am_aload_n dX11_draw_1 rfl 0 rfl ?_
  refine am_get 11 9 clX11 (Nat.le_of_ble_eq_true rfl) h_a0 iX11_draw_11 fX11_draw_158 rfl dX11_draw_2 ?_
  refine am_ldc (v := 1103515245) dX11_draw_5 (by decide +kernel) ?_
  refine am_imul dX11_draw_7 ?_
  refine am_sipush (v := 12345) dX11_draw_8 (by decide) ?_
  refine am_iadd dX11_draw_11 ?_
  refine am_putI 11 9 clX11 (Nat.le_of_ble_eq_true rfl) h_a0 iX11_draw_11 fX11_draw_158 rfl rfl dX11_draw_12 ?_
  refine am_letI (fun J1 => ?_)
  refine am_aload_n dX11_draw_15 rfl 0 rfl ?_
  refine am_get 11 9 clX11 (Nat.le_of_ble_eq_true rfl) h_a0 iX11_draw_11 fX11_draw_158 rfl dX11_draw_16 ?_
  refine am_bipush (v := 16) dX11_draw_19 (by decide) ?_
  refine am_iushr dX11_draw_21 ?_
  refine am_iload_n dX11_draw_22 rfl 1 rfl ?_
  refine am_irem dX11_draw_23 ?_
  exact am_iret dX11_draw_24 rfl rfl
abbrev kX11_randomize : am_K := (cX11_randomize, 6, RX11, wsX11_randomize, some .int, { frames := 1, cells := 0, slots := 0, locals := 25 })
theorem hX11_randomize : am_cl yX11_randomize kX11_randomize 2 := ⟨⟨_, rfl⟩, rfl, rfl, by decide +kernel, by decide +kernel, by decide +kernel⟩
theorem iX11_randomize_11 : ∀ w ∈ u_ws RX11 TX11 50, w ∈ wsX11_randomize := by decide +kernel
theorem fX11_randomize_158 : Cond.fieldLink RX11 158 "AmbiguityAnalyzerModel" "seed" "I" ∈ wsX11_randomize := by decide +kernel
theorem fX11_randomize_19 : Cond.fieldLink RX11 19 "AmbiguityAnalyzerModel" "states" "I" ∈ wsX11_randomize := by decide +kernel
theorem fX11_randomize_7 : Cond.fieldLink RX11 7 "AmbiguityAnalyzerModel" "targets" "[I" ∈ wsX11_randomize := by decide +kernel
theorem fX11_randomize_118 : Cond.fieldLink RX11 118 "AmbiguityAnalyzerModel" "isKnown" "Z" ∈ wsX11_randomize := by decide +kernel
set_option maxRecDepth 100000 in
set_option maxHeartbeats 4000000 in
theorem vX11_randomize_22 {Z : am_Z} {X : am_X} (R : am_R) (L : am_L) (a0 : Nat) (x2 : Int32) (h8 : am_G Z a0 = some (.inl 11)) (j4 : am_I → Option (Int32 × am_I)) (hj4 : ∀ (J5 : am_I), am_V Z X kX11_randomize (fun r : Int32 × am_I => (some (.int r.1), R, r.2, L)) 76 [(0, .ref (am_B Z + a0))] [] R J5 L (j4 J5)) (ih11 : Int32 → am_I → Option (Int32 × am_I)) (hih11 : ∀ (v9 : Int32) (J10 : am_I), am_V Z X kX11_randomize (fun r : Int32 × am_I => (some (.int r.1), R, r.2, L)) 22 [(0, .ref (am_B Z + a0)), (2, .int x2), (3, .int v9)] [] R J10 L (ih11 v9 J10)) (v9 : Int32) (J10 : am_I) : am_V Z X kX11_randomize (fun r : Int32 × am_I => (some (.int r.1), R, r.2, L)) 22 [(0, .ref (am_B Z + a0)), (2, .int x2), (3, .int v9)] [] R J10 L (sX11_randomize_22 R a0 x2 j4 ih11 v9 J10) := by
  unfold sX11_randomize_22
  refine am_iload_n dX11_randomize_22 rfl 2 rfl ?_
  refine am_iload_n dX11_randomize_23 rfl 1 rfl ?_
  refine am_icmp_ge (tgt := 76) dX11_randomize_24 rfl (fun e12 => ?_) (fun e12 => ?_)
  · refine am_sub (ls' := [(0, .ref (am_B Z + a0))]) [0] rfl ?_
    exact hj4 J10
  · refine am_aload_n dX11_randomize_27 rfl 0 rfl ?_
    refine am_aload_n dX11_randomize_28 rfl 0 rfl ?_
    refine am_get 11 3 clX11 (Nat.le_of_ble_eq_true rfl) h8 iX11_randomize_11 fX11_randomize_19 rfl dX11_randomize_29 ?_
    refine am_callV [.int (J10 a0 3)] (tX11_draw R J10 L a0 (J10 a0 3) h8) h8 clX11 gX11_randomize_X11_draw hX11_draw rfl ⟨Nat.le_of_ble_eq_true rfl, Nat.le_of_ble_eq_true rfl⟩ rfl rfl (Nat.le_of_ble_eq_true rfl) dX11_randomize_32 (fun r13 => ?_)
    show am_V Z X kX11_randomize (fun r : Int32 × am_I => (some (.int r.1), R, r.2, L)) 35 [(0, .ref (am_B Z + a0)), (2, .int x2), (3, .int v9)] [.int r13.1] R r13.2 L _
    refine am_istore (ls' := [(4, .int r13.1), (0, .ref (am_B Z + a0)), (2, .int x2), (3, .int v9)]) dX11_randomize_35 (Nat.le_of_ble_eq_true rfl) rfl ?_
    refine am_aload_n dX11_randomize_37 rfl 1 rfl ?_
    refine am_iconst (v := 3) dX11_randomize_38 (by decide) ?_
    refine am_callV [.int (3 : Int32)] (tX11_draw R r13.2 L a0 (3 : Int32) h8) h8 clX11 gX11_randomize_X11_draw hX11_draw rfl ⟨Nat.le_of_ble_eq_true rfl, Nat.le_of_ble_eq_true rfl⟩ rfl rfl (Nat.le_of_ble_eq_true rfl) dX11_randomize_39 (fun r14 => ?_)
    show am_V Z X kX11_randomize (fun r : Int32 × am_I => (some (.int r.1), R, r.2, L)) 42 [(4, .int r13.1), (0, .ref (am_B Z + a0)), (2, .int x2), (3, .int v9)] [.int r14.1] R r14.2 L _
    refine am_istore (ls' := [(5, .int r14.1), (4, .int r13.1), (0, .ref (am_B Z + a0)), (2, .int x2), (3, .int v9)]) dX11_randomize_42 (Nat.le_of_ble_eq_true rfl) rfl ?_
    refine am_aload_n dX11_randomize_44 rfl 2 rfl ?_
    refine am_getR 11 0 clX11 (Nat.le_of_ble_eq_true rfl) h8 iX11_randomize_11 fX11_randomize_7 rfl rfl dX11_randomize_45 (fun h15 => ?_)
    refine am_bipush (v := 6) dX11_randomize_48 (by decide) ?_
    refine am_iload dX11_randomize_50 0 rfl ?_
    refine am_imul dX11_randomize_52 ?_
    refine am_iload dX11_randomize_53 1 rfl ?_
    refine am_iadd dX11_randomize_55 ?_
    refine am_dup2 dX11_randomize_56 rfl rfl ?_
    refine am_iald h15 dX11_randomize_57 ?_
    refine am_iconst (v := 1) dX11_randomize_58 (by decide) ?_
    refine am_aload_n dX11_randomize_59 rfl 2 rfl ?_
    refine am_aload_n dX11_randomize_60 rfl 2 rfl ?_
    refine am_get 11 3 clX11 (Nat.le_of_ble_eq_true rfl) h8 iX11_randomize_11 fX11_randomize_19 rfl dX11_randomize_61 ?_
    refine am_callV [.int (r14.2 a0 3)] (tX11_draw R r14.2 L a0 (r14.2 a0 3) h8) h8 clX11 gX11_randomize_X11_draw hX11_draw rfl ⟨Nat.le_of_ble_eq_true rfl, Nat.le_of_ble_eq_true rfl⟩ rfl rfl (Nat.le_of_ble_eq_true rfl) dX11_randomize_64 (fun r16 => ?_)
    show am_V Z X kX11_randomize (fun r : Int32 × am_I => (some (.int r.1), R, r.2, L)) 67 [(5, .int r14.1), (4, .int r13.1), (0, .ref (am_B Z + a0)), (2, .int x2), (3, .int v9)] [.int r16.1, .int (1 : Int32), .int (r14.2 (R a0 0) (Int32.toNatClampNeg (((6 : Int32) * r14.1) + r13.1))), .int (((6 : Int32) * r14.1) + r13.1), .ref (am_B Z + (R a0 0))] R r16.2 L _
    refine am_ishl dX11_randomize_67 ?_
    refine am_ior dX11_randomize_68 ?_
    refine am_iast h15 dX11_randomize_69 ?_
    refine am_letI (fun J17 => ?_)
    refine am_iinc (j := 4) (ls' := [(3, .int (v9 + (1 : Int32))), (5, .int r14.1), (4, .int r13.1), (0, .ref (am_B Z + a0)), (2, .int x2)]) dX11_randomize_70 rfl rfl (Nat.le_of_ble_eq_true rfl) rfl ?_
    refine am_goto (tgt := 22) dX11_randomize_73 rfl ?_
    refine am_sub (ls' := [(0, .ref (am_B Z + a0)), (2, .int x2), (3, .int (v9 + (1 : Int32)))]) [3, 4, 0] rfl ?_
    exact hih11 (v9 + (1 : Int32)) J17
theorem uX11_randomize_22 {Z : am_Z} {X : am_X} (R : am_R) (L : am_L) (a0 : Nat) (x2 : Int32) (h8 : am_G Z a0 = some (.inl 11)) (j4 : am_I → Option (Int32 × am_I)) (hj4 : ∀ (J5 : am_I), am_V Z X kX11_randomize (fun r : Int32 × am_I => (some (.int r.1), R, r.2, L)) 76 [(0, .ref (am_B Z + a0))] [] R J5 L (j4 J5)) : ∀ (n : Nat) (v9 : Int32) (J10 : am_I), am_V Z X kX11_randomize (fun r : Int32 × am_I => (some (.int r.1), R, r.2, L)) 22 [(0, .ref (am_B Z + a0)), (2, .int x2), (3, .int v9)] [] R J10 L (lX11_randomize_22 R a0 x2 j4 n v9 J10) := by
  intro n
  induction n with
  | zero => intro _ _; exact am_none
  | succ n ih => exact fun v9 J10 => vX11_randomize_22 R L a0 x2 h8 j4 hj4 (lX11_randomize_22 R a0 x2 j4 n) ih v9 J10
set_option maxRecDepth 100000 in
set_option maxHeartbeats 4000000 in
theorem tX11_randomize {Z : am_Z} (R : am_R) (I : am_I) (L : am_L) (a0 : Nat) (x1 : Int32) (x2 : Int32) (h_a0 : am_G Z a0 = some (.inl 11)) : am_M Z yX11_randomize kX11_randomize [.ref (am_B Z + a0), .int x1, .int x2] R I L (pX11_randomize R I a0 x1 x2) (fun r : Int32 × am_I => (some (.int r.1), R, r.2, L)) := by
  refine am_entry (ls := [(0, .ref (am_B Z + a0)), (1, .int x1), (2, .int x2)]) (by decide) hX11_randomize rfl (Nat.le_of_ble_eq_true rfl) rfl (fun X => ?_)
  unfold pX11_randomize
  refine am_iload_n dX11_randomize_0 rfl 2 rfl ?_
  refine am_i2l dX11_randomize_1 ?_
  refine am_lconst (v := 0) dX11_randomize_2 (by decide) ?_
  refine am_ldc2 (v := 20) dX11_randomize_3 (by decide +kernel) ?_
  refine am_callS [.long (Int32.toInt64 x2), .long (0 : Int64), .long (20 : Int64)] (tX11_isBetween R I L (Int32.toInt64 x2) (0 : Int64) (20 : Int64)) gX11_randomize_X11_isBetween hX11_isBetween ⟨Nat.le_of_ble_eq_true rfl, Nat.le_of_ble_eq_true rfl⟩ rfl rfl (Nat.le_of_ble_eq_true rfl) dX11_randomize_6 (fun r1 => ?_)
  show am_V Z X kX11_randomize (fun r : Int32 × am_I => (some (.int r.1), R, r.2, L)) 9 [(0, .ref (am_B Z + a0)), (1, .int x1), (2, .int x2)] [.int r1] R I L _
  refine am_if_ne (tgt := 15) dX11_randomize_9 rfl (fun e2 => ?_) (fun e2 => ?_)
  · refine am_aload_n dX11_randomize_15 rfl 0 rfl ?_
    refine am_iload_n dX11_randomize_16 rfl 1 rfl ?_
    refine am_putI 11 9 clX11 (Nat.le_of_ble_eq_true rfl) h_a0 iX11_randomize_11 fX11_randomize_158 rfl rfl dX11_randomize_17 ?_
    refine am_letI (fun J3 => ?_)
    refine am_iconst (v := 0) dX11_randomize_20 (by decide) ?_
    refine am_istore_n (ls' := [(3, .int (0 : Int32)), (0, .ref (am_B Z + a0)), (1, .int x1), (2, .int x2)]) dX11_randomize_21 rfl (Nat.le_of_ble_eq_true rfl) rfl ?_
    refine am_jnV (fun j4 ej4 => ?_)
    have hj4 : ∀ (J5 : am_I), am_V Z X kX11_randomize (fun r : Int32 × am_I => (some (.int r.1), R, r.2, L)) 76 [(0, .ref (am_B Z + a0))] [] R J5 L (j4 J5) := by
      subst ej4
      intro J5
      show am_V Z X kX11_randomize (fun r : Int32 × am_I => (some (.int r.1), R, r.2, L)) 76 [(0, .ref (am_B Z + a0))] [] R J5 L _
      refine am_aload_n dX11_randomize_76 rfl 0 rfl ?_
      refine am_iconst (v := 0) dX11_randomize_77 (by decide) ?_
      refine am_putZ 11 6 clX11 (Nat.le_of_ble_eq_true rfl) h_a0 iX11_randomize_11 fX11_randomize_118 rfl rfl (by decide) dX11_randomize_78 ?_
      refine am_letI (fun J6 => ?_)
      refine am_aload_n dX11_randomize_81 rfl 0 rfl ?_
      refine am_callV [] (tX11_transitionCount R J6 L a0 h_a0) h_a0 clX11 gX11_randomize_X11_transitionCount hX11_transitionCount rfl ⟨Nat.le_of_ble_eq_true rfl, Nat.le_of_ble_eq_true rfl⟩ rfl rfl (Nat.le_of_ble_eq_true rfl) dX11_randomize_82 (fun r7 => ?_)
      show am_V Z X kX11_randomize (fun r : Int32 × am_I => (some (.int r.1), R, r.2, L)) 85 [(0, .ref (am_B Z + a0))] [.int r7] R J6 L _
      exact am_iret dX11_randomize_85 rfl rfl
    refine am_sub (ls' := [(0, .ref (am_B Z + a0)), (2, .int x2), (3, .int (0 : Int32))]) [1, 3, 0] rfl ?_
    exact uX11_randomize_22 R L a0 x2 h_a0 j4 hj4 am_fu (0 : Int32) J3
  · refine am_bipush (v := -2) dX11_randomize_12 (by decide) ?_
    exact am_iret dX11_randomize_14 rfl rfl
abbrev kX11_append : am_K := (cX11_append, 2, RX11, wsX11_append, some .int, { frames := 1, cells := 0, slots := 0, locals := 25 })
theorem hX11_append : am_cl yX11_append kX11_append 1 := ⟨⟨_, rfl⟩, rfl, rfl, by decide +kernel, by decide +kernel, by decide +kernel⟩
theorem iX11_append_11 : ∀ w ∈ u_ws RX11 TX11 50, w ∈ wsX11_append := by decide +kernel
theorem fX11_append_174 : Cond.fieldLink RX11 174 "AmbiguityAnalyzerModel" "textLength" "I" ∈ wsX11_append := by decide +kernel
theorem fX11_append_29 : Cond.fieldLink RX11 29 "AmbiguityAnalyzerModel" "text" "[I" ∈ wsX11_append := by decide +kernel
set_option maxRecDepth 100000 in
set_option maxHeartbeats 4000000 in
theorem tX11_append {Z : am_Z} (R : am_R) (I : am_I) (L : am_L) (a0 : Nat) (x1 : Int32) (h_a0 : am_G Z a0 = some (.inl 11)) : am_M Z yX11_append kX11_append [.ref (am_B Z + a0), .int x1] R I L (pX11_append R I a0 x1) (fun r : Int32 × am_I => (some (.int r.1), R, r.2, L)) := by
  refine am_entry (ls := [(0, .ref (am_B Z + a0)), (1, .int x1)]) (by decide) hX11_append rfl (Nat.le_of_ble_eq_true rfl) rfl (fun X => ?_)
  unfold pX11_append
  refine am_iload_n dX11_append_0 rfl 1 rfl ?_
  refine am_i2l dX11_append_1 ?_
  refine am_ldc2 (v := 32) dX11_append_2 (by decide +kernel) ?_
  refine am_ldc2 (v := 126) dX11_append_5 (by decide +kernel) ?_
  refine am_callS [.long (Int32.toInt64 x1), .long (32 : Int64), .long (126 : Int64)] (tX11_isBetween R I L (Int32.toInt64 x1) (32 : Int64) (126 : Int64)) gX11_append_X11_isBetween hX11_isBetween ⟨Nat.le_of_ble_eq_true rfl, Nat.le_of_ble_eq_true rfl⟩ rfl rfl (Nat.le_of_ble_eq_true rfl) dX11_append_8 (fun r1 => ?_)
  show am_V Z X kX11_append (fun r : Int32 × am_I => (some (.int r.1), R, r.2, L)) 11 [(0, .ref (am_B Z + a0)), (1, .int x1)] [.int r1] R I L _
  refine am_if_ne (tgt := 17) dX11_append_11 rfl (fun e2 => ?_) (fun e2 => ?_)
  · refine am_aload_n dX11_append_17 rfl 0 rfl ?_
    refine am_get 11 12 clX11 (Nat.le_of_ble_eq_true rfl) h_a0 iX11_append_11 fX11_append_174 rfl dX11_append_18 ?_
    refine am_bipush (v := 60) dX11_append_21 (by decide) ?_
    refine am_icmp_ne (tgt := 29) dX11_append_23 rfl (fun e3 => ?_) (fun e3 => ?_)
    · refine am_aload_n dX11_append_29 rfl 0 rfl ?_
      refine am_getR 11 10 clX11 (Nat.le_of_ble_eq_true rfl) h_a0 iX11_append_11 fX11_append_29 rfl rfl dX11_append_30 (fun h4 => ?_)
      refine am_aload_n dX11_append_33 rfl 0 rfl ?_
      refine am_get 11 12 clX11 (Nat.le_of_ble_eq_true rfl) h_a0 iX11_append_11 fX11_append_174 rfl dX11_append_34 ?_
      refine am_iload_n dX11_append_37 rfl 1 rfl ?_
      refine am_iast h4 dX11_append_38 ?_
      refine am_letI (fun J5 => ?_)
      refine am_aload_n dX11_append_39 rfl 0 rfl ?_
      refine am_dup dX11_append_40 rfl ?_
      refine am_get 11 12 clX11 (Nat.le_of_ble_eq_true rfl) h_a0 iX11_append_11 fX11_append_174 rfl dX11_append_41 ?_
      refine am_iconst (v := 1) dX11_append_44 (by decide) ?_
      refine am_iadd dX11_append_45 ?_
      refine am_putI 11 12 clX11 (Nat.le_of_ble_eq_true rfl) h_a0 iX11_append_11 fX11_append_174 rfl rfl dX11_append_46 ?_
      refine am_letI (fun J6 => ?_)
      refine am_aload_n dX11_append_49 rfl 0 rfl ?_
      refine am_get 11 12 clX11 (Nat.le_of_ble_eq_true rfl) h_a0 iX11_append_11 fX11_append_174 rfl dX11_append_50 ?_
      exact am_iret dX11_append_53 rfl rfl
    · refine am_bipush (v := -3) dX11_append_26 (by decide) ?_
      exact am_iret dX11_append_28 rfl rfl
  · refine am_bipush (v := -2) dX11_append_14 (by decide) ?_
    exact am_iret dX11_append_16 rfl rfl
abbrev kX11_isAt : am_K := (cX11_isAt, 3, RX11, wsX11_isAt, some .boolean, { frames := 1, cells := 0, slots := 0, locals := 25 })
theorem hX11_isAt : am_cl yX11_isAt kX11_isAt 2 := ⟨⟨_, rfl⟩, rfl, rfl, by decide +kernel, by decide +kernel, by decide +kernel⟩
theorem iX11_isAt_11 : ∀ w ∈ u_ws RX11 TX11 50, w ∈ wsX11_isAt := by decide +kernel
theorem fX11_isAt_177 : Cond.fieldLink RX11 177 "AmbiguityAnalyzerModel" "at" "I" ∈ wsX11_isAt := by decide +kernel
theorem fX11_isAt_174 : Cond.fieldLink RX11 174 "AmbiguityAnalyzerModel" "textLength" "I" ∈ wsX11_isAt := by decide +kernel
theorem fX11_isAt_29 : Cond.fieldLink RX11 29 "AmbiguityAnalyzerModel" "text" "[I" ∈ wsX11_isAt := by decide +kernel
set_option maxRecDepth 100000 in
set_option maxHeartbeats 4000000 in
theorem tX11_isAt {Z : am_Z} (R : am_R) (I : am_I) (L : am_L) (a0 : Nat) (x1 : Int32) (x2 : Int32) (h_a0 : am_G Z a0 = some (.inl 11)) : am_M Z yX11_isAt kX11_isAt [.ref (am_B Z + a0), .int x1, .int x2] R I L (pX11_isAt R I a0 x1 x2) (fun r : Int32 => (some (.int r), R, I, L)) := by
  refine am_entry (ls := [(0, .ref (am_B Z + a0)), (1, .int x1), (2, .int x2)]) (by decide) hX11_isAt rfl (Nat.le_of_ble_eq_true rfl) rfl (fun X => ?_)
  unfold pX11_isAt
  refine am_aload_n dX11_isAt_0 rfl 0 rfl ?_
  refine am_get 11 13 clX11 (Nat.le_of_ble_eq_true rfl) h_a0 iX11_isAt_11 fX11_isAt_177 rfl dX11_isAt_1 ?_
  refine am_aload_n dX11_isAt_4 rfl 0 rfl ?_
  refine am_get 11 12 clX11 (Nat.le_of_ble_eq_true rfl) h_a0 iX11_isAt_11 fX11_isAt_174 rfl dX11_isAt_5 ?_
  refine am_icmp_ge (tgt := 35) dX11_isAt_8 rfl (fun e1 => ?_) (fun e1 => ?_)
  · refine am_iconst (v := 0) dX11_isAt_35 (by decide) ?_
    exact am_zret (by decide) dX11_isAt_36 rfl rfl
  · refine am_aload_n dX11_isAt_11 rfl 0 rfl ?_
    refine am_getR 11 10 clX11 (Nat.le_of_ble_eq_true rfl) h_a0 iX11_isAt_11 fX11_isAt_29 rfl rfl dX11_isAt_12 (fun h2 => ?_)
    refine am_aload_n dX11_isAt_15 rfl 0 rfl ?_
    refine am_get 11 13 clX11 (Nat.le_of_ble_eq_true rfl) h_a0 iX11_isAt_11 fX11_isAt_177 rfl dX11_isAt_16 ?_
    refine am_iald h2 dX11_isAt_19 ?_
    refine am_i2l dX11_isAt_20 ?_
    refine am_iload_n dX11_isAt_21 rfl 1 rfl ?_
    refine am_i2l dX11_isAt_22 ?_
    refine am_iload_n dX11_isAt_23 rfl 2 rfl ?_
    refine am_i2l dX11_isAt_24 ?_
    refine am_callS [.long (Int32.toInt64 (I (R a0 10) (Int32.toNatClampNeg (I a0 13)))), .long (Int32.toInt64 x1), .long (Int32.toInt64 x2)] (tX11_isBetween R I L (Int32.toInt64 (I (R a0 10) (Int32.toNatClampNeg (I a0 13)))) (Int32.toInt64 x1) (Int32.toInt64 x2)) gX11_isAt_X11_isBetween hX11_isBetween ⟨Nat.le_of_ble_eq_true rfl, Nat.le_of_ble_eq_true rfl⟩ rfl rfl (Nat.le_of_ble_eq_true rfl) dX11_isAt_25 (fun r3 => ?_)
    show am_V Z X kX11_isAt (fun r : Int32 => (some (.int r), R, I, L)) 28 [(0, .ref (am_B Z + a0)), (1, .int x1), (2, .int x2)] [.int r3] R I L _
    refine am_if_eq (tgt := 35) dX11_isAt_28 rfl (fun e4 => ?_) (fun e4 => ?_)
    · refine am_iconst (v := 0) dX11_isAt_35 (by decide) ?_
      exact am_zret (by decide) dX11_isAt_36 rfl rfl
    · refine am_iconst (v := 1) dX11_isAt_31 (by decide) ?_
      refine am_goto (tgt := 36) dX11_isAt_32 rfl ?_
      exact am_zret (by decide) dX11_isAt_36 rfl rfl
abbrev kX11_takesState : am_K := (cX11_takesState, 2, RX11, wsX11_takesState, some .boolean, { frames := 2, cells := 0, slots := 0, locals := 47 })
theorem hX11_takesState : am_cl yX11_takesState kX11_takesState 1 := ⟨⟨_, rfl⟩, rfl, rfl, by decide +kernel, by decide +kernel, by decide +kernel⟩
theorem iX11_takesState_11 : ∀ w ∈ u_ws RX11 TX11 50, w ∈ wsX11_takesState := by decide +kernel
theorem fX11_takesState_19 : Cond.fieldLink RX11 19 "AmbiguityAnalyzerModel" "states" "I" ∈ wsX11_takesState := by decide +kernel
theorem fX11_takesState_32 : Cond.fieldLink RX11 32 "AmbiguityAnalyzerModel" "item" "[I" ∈ wsX11_takesState := by decide +kernel
theorem fX11_takesState_29 : Cond.fieldLink RX11 29 "AmbiguityAnalyzerModel" "text" "[I" ∈ wsX11_takesState := by decide +kernel
theorem fX11_takesState_177 : Cond.fieldLink RX11 177 "AmbiguityAnalyzerModel" "at" "I" ∈ wsX11_takesState := by decide +kernel
set_option maxRecDepth 100000 in
set_option maxHeartbeats 4000000 in
theorem tX11_takesState {Z : am_Z} (R : am_R) (I : am_I) (L : am_L) (a0 : Nat) (x1 : Int32) (h_a0 : am_G Z a0 = some (.inl 11)) : am_M Z yX11_takesState kX11_takesState [.ref (am_B Z + a0), .int x1] R I L (pX11_takesState R I a0 x1) (fun r : Int32 × am_I => (some (.int r.1), R, r.2, L)) := by
  refine am_entry (ls := [(0, .ref (am_B Z + a0)), (1, .int x1)]) (by decide) hX11_takesState rfl (Nat.le_of_ble_eq_true rfl) rfl (fun X => ?_)
  unfold pX11_takesState
  refine am_aload_n dX11_takesState_0 rfl 0 rfl ?_
  refine am_bipush (v := 48) dX11_takesState_1 (by decide) ?_
  refine am_bipush (v := 48) dX11_takesState_3 (by decide) ?_
  refine am_aload_n dX11_takesState_5 rfl 0 rfl ?_
  refine am_get 11 3 clX11 (Nat.le_of_ble_eq_true rfl) h_a0 iX11_takesState_11 fX11_takesState_19 rfl dX11_takesState_6 ?_
  refine am_iadd dX11_takesState_9 ?_
  refine am_iconst (v := 1) dX11_takesState_10 (by decide) ?_
  refine am_isub dX11_takesState_11 ?_
  refine am_callV [.int (48 : Int32), .int (((48 : Int32) + (I a0 3)) - (1 : Int32))] (tX11_isAt R I L a0 (48 : Int32) (((48 : Int32) + (I a0 3)) - (1 : Int32)) h_a0) h_a0 clX11 gX11_takesState_X11_isAt hX11_isAt rfl ⟨Nat.le_of_ble_eq_true rfl, Nat.le_of_ble_eq_true rfl⟩ rfl rfl (Nat.le_of_ble_eq_true rfl) dX11_takesState_12 (fun r1 => ?_)
  show am_V Z X kX11_takesState (fun r : Int32 × am_I => (some (.int r.1), R, r.2, L)) 15 [(0, .ref (am_B Z + a0)), (1, .int x1)] [.int r1] R I L _
  refine am_if_ne (tgt := 20) dX11_takesState_15 rfl (fun e2 => ?_) (fun e2 => ?_)
  · refine am_aload_n dX11_takesState_20 rfl 0 rfl ?_
    refine am_getR 11 11 clX11 (Nat.le_of_ble_eq_true rfl) h_a0 iX11_takesState_11 fX11_takesState_32 rfl rfl dX11_takesState_21 (fun h3 => ?_)
    refine am_iload_n dX11_takesState_24 rfl 1 rfl ?_
    refine am_aload_n dX11_takesState_25 rfl 0 rfl ?_
    refine am_getR 11 10 clX11 (Nat.le_of_ble_eq_true rfl) h_a0 iX11_takesState_11 fX11_takesState_29 rfl rfl dX11_takesState_26 (fun h4 => ?_)
    refine am_aload_n dX11_takesState_29 rfl 0 rfl ?_
    refine am_get 11 13 clX11 (Nat.le_of_ble_eq_true rfl) h_a0 iX11_takesState_11 fX11_takesState_177 rfl dX11_takesState_30 ?_
    refine am_iald h4 dX11_takesState_33 ?_
    refine am_bipush (v := 48) dX11_takesState_34 (by decide) ?_
    refine am_isub dX11_takesState_36 ?_
    refine am_iast h3 dX11_takesState_37 ?_
    refine am_letI (fun J5 => ?_)
    refine am_aload_n dX11_takesState_38 rfl 0 rfl ?_
    refine am_dup dX11_takesState_39 rfl ?_
    refine am_get 11 13 clX11 (Nat.le_of_ble_eq_true rfl) h_a0 iX11_takesState_11 fX11_takesState_177 rfl dX11_takesState_40 ?_
    refine am_iconst (v := 1) dX11_takesState_43 (by decide) ?_
    refine am_iadd dX11_takesState_44 ?_
    refine am_putI 11 13 clX11 (Nat.le_of_ble_eq_true rfl) h_a0 iX11_takesState_11 fX11_takesState_177 rfl rfl dX11_takesState_45 ?_
    refine am_letI (fun J6 => ?_)
    refine am_iconst (v := 1) dX11_takesState_48 (by decide) ?_
    exact am_zret (by decide) dX11_takesState_49 rfl rfl
  · refine am_iconst (v := 0) dX11_takesState_18 (by decide) ?_
    exact am_zret (by decide) dX11_takesState_19 rfl rfl
abbrev kX11_takesItem : am_K := (cX11_takesItem, 2, RX11, wsX11_takesItem, some .boolean, { frames := 3, cells := 0, slots := 0, locals := 68 })
theorem hX11_takesItem : am_cl yX11_takesItem kX11_takesItem 0 := ⟨⟨_, rfl⟩, rfl, rfl, by decide +kernel, by decide +kernel, by decide +kernel⟩
theorem iX11_takesItem_11 : ∀ w ∈ u_ws RX11 TX11 50, w ∈ wsX11_takesItem := by decide +kernel
theorem fX11_takesItem_184 : Cond.fieldLink RX11 184 "AmbiguityAnalyzerModel" "items" "I" ∈ wsX11_takesItem := by decide +kernel
theorem fX11_takesItem_32 : Cond.fieldLink RX11 32 "AmbiguityAnalyzerModel" "item" "[I" ∈ wsX11_takesItem := by decide +kernel
theorem fX11_takesItem_29 : Cond.fieldLink RX11 29 "AmbiguityAnalyzerModel" "text" "[I" ∈ wsX11_takesItem := by decide +kernel
theorem fX11_takesItem_177 : Cond.fieldLink RX11 177 "AmbiguityAnalyzerModel" "at" "I" ∈ wsX11_takesItem := by decide +kernel
set_option maxRecDepth 100000 in
set_option maxHeartbeats 4000000 in
theorem tX11_takesItem {Z : am_Z} (R : am_R) (I : am_I) (L : am_L) (a0 : Nat) (h_a0 : am_G Z a0 = some (.inl 11)) : am_M Z yX11_takesItem kX11_takesItem [.ref (am_B Z + a0)] R I L (pX11_takesItem R I a0) (fun r : Int32 × am_I => (some (.int r.1), R, r.2, L)) := by
  refine am_entry (ls := [(0, .ref (am_B Z + a0))]) (by decide) hX11_takesItem rfl (Nat.le_of_ble_eq_true rfl) rfl (fun X => ?_)
  unfold pX11_takesItem
  refine am_iconst (v := 3) dX11_takesItem_0 (by decide) ?_
  refine am_aload_n dX11_takesItem_1 rfl 0 rfl ?_
  refine am_get 11 14 clX11 (Nat.le_of_ble_eq_true rfl) h_a0 iX11_takesItem_11 fX11_takesItem_184 rfl dX11_takesItem_2 ?_
  refine am_imul dX11_takesItem_5 ?_
  refine am_letTi (fun v1 => ?_)
  refine am_istore_n (ls' := [(1, .int v1), (0, .ref (am_B Z + a0))]) dX11_takesItem_6 rfl (Nat.le_of_ble_eq_true rfl) rfl ?_
  refine am_aload_n dX11_takesItem_7 rfl 1 rfl ?_
  refine am_bipush (v := 62) dX11_takesItem_8 (by decide) ?_
  refine am_bipush (v := 62) dX11_takesItem_10 (by decide) ?_
  refine am_callV [.int (62 : Int32), .int (62 : Int32)] (tX11_isAt R I L a0 (62 : Int32) (62 : Int32) h_a0) h_a0 clX11 gX11_takesItem_X11_isAt hX11_isAt rfl ⟨Nat.le_of_ble_eq_true rfl, Nat.le_of_ble_eq_true rfl⟩ rfl rfl (Nat.le_of_ble_eq_true rfl) dX11_takesItem_12 (fun r2 => ?_)
  show am_V Z X kX11_takesItem (fun r : Int32 × am_I => (some (.int r.1), R, r.2, L)) 15 [(1, .int v1), (0, .ref (am_B Z + a0))] [.int r2] R I L _
  refine am_if_eq (tgt := 43) dX11_takesItem_15 rfl (fun e3 => ?_) (fun e3 => ?_)
  · refine am_aload_n dX11_takesItem_43 rfl 1 rfl ?_
    refine am_iload_n dX11_takesItem_44 rfl 0 rfl ?_
    refine am_callV [.int v1] (tX11_takesState R I L a0 v1 h_a0) h_a0 clX11 gX11_takesItem_X11_takesState hX11_takesState rfl ⟨Nat.le_of_ble_eq_true rfl, Nat.le_of_ble_eq_true rfl⟩ rfl rfl (Nat.le_of_ble_eq_true rfl) dX11_takesItem_45 (fun r4 => ?_)
    show am_V Z X kX11_takesItem (fun r : Int32 × am_I => (some (.int r.1), R, r.2, L)) 48 [(1, .int v1), (0, .ref (am_B Z + a0))] [.int r4.1] R r4.2 L _
    refine am_if_ne (tgt := 53) dX11_takesItem_48 rfl (fun e5 => ?_) (fun e5 => ?_)
    · refine am_aload_n dX11_takesItem_53 rfl 1 rfl ?_
      refine am_bipush (v := 33) dX11_takesItem_54 (by decide) ?_
      refine am_bipush (v := 33) dX11_takesItem_56 (by decide) ?_
      refine am_callV [.int (33 : Int32), .int (33 : Int32)] (tX11_isAt R r4.2 L a0 (33 : Int32) (33 : Int32) h_a0) h_a0 clX11 gX11_takesItem_X11_isAt hX11_isAt rfl ⟨Nat.le_of_ble_eq_true rfl, Nat.le_of_ble_eq_true rfl⟩ rfl rfl (Nat.le_of_ble_eq_true rfl) dX11_takesItem_58 (fun r6 => ?_)
      show am_V Z X kX11_takesItem (fun r : Int32 × am_I => (some (.int r.1), R, r.2, L)) 61 [(1, .int v1), (0, .ref (am_B Z + a0))] [.int r6] R r4.2 L _
      refine am_if_eq (tgt := 86) dX11_takesItem_61 rfl (fun e7 => ?_) (fun e7 => ?_)
      · refine am_aload_n dX11_takesItem_86 rfl 1 rfl ?_
        refine am_bipush (v := 97) dX11_takesItem_87 (by decide) ?_
        refine am_bipush (v := 99) dX11_takesItem_89 (by decide) ?_
        refine am_callV [.int (97 : Int32), .int (99 : Int32)] (tX11_isAt R r4.2 L a0 (97 : Int32) (99 : Int32) h_a0) h_a0 clX11 gX11_takesItem_X11_isAt hX11_isAt rfl ⟨Nat.le_of_ble_eq_true rfl, Nat.le_of_ble_eq_true rfl⟩ rfl rfl (Nat.le_of_ble_eq_true rfl) dX11_takesItem_91 (fun r8 => ?_)
        show am_V Z X kX11_takesItem (fun r : Int32 × am_I => (some (.int r.1), R, r.2, L)) 94 [(1, .int v1), (0, .ref (am_B Z + a0))] [.int r8] R r4.2 L _
        refine am_if_ne (tgt := 99) dX11_takesItem_94 rfl (fun e9 => ?_) (fun e9 => ?_)
        · refine am_aload_n dX11_takesItem_99 rfl 1 rfl ?_
          refine am_getR 11 11 clX11 (Nat.le_of_ble_eq_true rfl) h_a0 iX11_takesItem_11 fX11_takesItem_32 rfl rfl dX11_takesItem_100 (fun h10 => ?_)
          refine am_iload_n dX11_takesItem_103 rfl 0 rfl ?_
          refine am_iconst (v := 1) dX11_takesItem_104 (by decide) ?_
          refine am_iadd dX11_takesItem_105 ?_
          refine am_aload_n dX11_takesItem_106 rfl 1 rfl ?_
          refine am_getR 11 10 clX11 (Nat.le_of_ble_eq_true rfl) h_a0 iX11_takesItem_11 fX11_takesItem_29 rfl rfl dX11_takesItem_107 (fun h11 => ?_)
          refine am_aload_n dX11_takesItem_110 rfl 1 rfl ?_
          refine am_get 11 13 clX11 (Nat.le_of_ble_eq_true rfl) h_a0 iX11_takesItem_11 fX11_takesItem_177 rfl dX11_takesItem_111 ?_
          refine am_iald h11 dX11_takesItem_114 ?_
          refine am_bipush (v := 97) dX11_takesItem_115 (by decide) ?_
          refine am_isub dX11_takesItem_117 ?_
          refine am_iast h10 dX11_takesItem_118 ?_
          refine am_letI (fun J12 => ?_)
          refine am_aload_n dX11_takesItem_119 rfl 1 rfl ?_
          refine am_dup dX11_takesItem_120 rfl ?_
          refine am_get 11 13 clX11 (Nat.le_of_ble_eq_true rfl) h_a0 iX11_takesItem_11 fX11_takesItem_177 rfl dX11_takesItem_121 ?_
          refine am_iconst (v := 1) dX11_takesItem_124 (by decide) ?_
          refine am_iadd dX11_takesItem_125 ?_
          refine am_putI 11 13 clX11 (Nat.le_of_ble_eq_true rfl) h_a0 iX11_takesItem_11 fX11_takesItem_177 rfl rfl dX11_takesItem_126 ?_
          refine am_letI (fun J13 => ?_)
          refine am_aload_n dX11_takesItem_129 rfl 1 rfl ?_
          refine am_iload_n dX11_takesItem_130 rfl 0 rfl ?_
          refine am_iconst (v := 2) dX11_takesItem_131 (by decide) ?_
          refine am_iadd dX11_takesItem_132 ?_
          refine am_callV [.int (v1 + (2 : Int32))] (tX11_takesState R J13 L a0 (v1 + (2 : Int32)) h_a0) h_a0 clX11 gX11_takesItem_X11_takesState hX11_takesState rfl ⟨Nat.le_of_ble_eq_true rfl, Nat.le_of_ble_eq_true rfl⟩ rfl rfl (Nat.le_of_ble_eq_true rfl) dX11_takesItem_133 (fun r14 => ?_)
          show am_V Z X kX11_takesItem (fun r : Int32 × am_I => (some (.int r.1), R, r.2, L)) 136 [(1, .int v1), (0, .ref (am_B Z + a0))] [.int r14.1] R r14.2 L _
          refine am_ckV (fun hb15 => ?_)
          exact am_zret hb15 dX11_takesItem_136 rfl rfl
        · refine am_iconst (v := 0) dX11_takesItem_97 (by decide) ?_
          exact am_zret (by decide) dX11_takesItem_98 rfl rfl
      · refine am_aload_n dX11_takesItem_64 rfl 1 rfl ?_
        refine am_dup dX11_takesItem_65 rfl ?_
        refine am_get 11 13 clX11 (Nat.le_of_ble_eq_true rfl) h_a0 iX11_takesItem_11 fX11_takesItem_177 rfl dX11_takesItem_66 ?_
        refine am_iconst (v := 1) dX11_takesItem_69 (by decide) ?_
        refine am_iadd dX11_takesItem_70 ?_
        refine am_putI 11 13 clX11 (Nat.le_of_ble_eq_true rfl) h_a0 iX11_takesItem_11 fX11_takesItem_177 rfl rfl dX11_takesItem_71 ?_
        refine am_letI (fun J16 => ?_)
        refine am_aload_n dX11_takesItem_74 rfl 1 rfl ?_
        refine am_getR 11 11 clX11 (Nat.le_of_ble_eq_true rfl) h_a0 iX11_takesItem_11 fX11_takesItem_32 rfl rfl dX11_takesItem_75 (fun h17 => ?_)
        refine am_iload_n dX11_takesItem_78 rfl 0 rfl ?_
        refine am_iconst (v := 1) dX11_takesItem_79 (by decide) ?_
        refine am_iadd dX11_takesItem_80 ?_
        refine am_bipush (v := -2) dX11_takesItem_81 (by decide) ?_
        refine am_iast h17 dX11_takesItem_83 ?_
        refine am_letI (fun J18 => ?_)
        refine am_iconst (v := 1) dX11_takesItem_84 (by decide) ?_
        exact am_zret (by decide) dX11_takesItem_85 rfl rfl
    · refine am_iconst (v := 0) dX11_takesItem_51 (by decide) ?_
      exact am_zret (by decide) dX11_takesItem_52 rfl rfl
  · refine am_aload_n dX11_takesItem_18 rfl 1 rfl ?_
    refine am_dup dX11_takesItem_19 rfl ?_
    refine am_get 11 13 clX11 (Nat.le_of_ble_eq_true rfl) h_a0 iX11_takesItem_11 fX11_takesItem_177 rfl dX11_takesItem_20 ?_
    refine am_iconst (v := 1) dX11_takesItem_23 (by decide) ?_
    refine am_iadd dX11_takesItem_24 ?_
    refine am_putI 11 13 clX11 (Nat.le_of_ble_eq_true rfl) h_a0 iX11_takesItem_11 fX11_takesItem_177 rfl rfl dX11_takesItem_25 ?_
    refine am_letI (fun J19 => ?_)
    refine am_aload_n dX11_takesItem_28 rfl 1 rfl ?_
    refine am_getR 11 11 clX11 (Nat.le_of_ble_eq_true rfl) h_a0 iX11_takesItem_11 fX11_takesItem_32 rfl rfl dX11_takesItem_29 (fun h20 => ?_)
    refine am_iload_n dX11_takesItem_32 rfl 0 rfl ?_
    refine am_iconst (v := 1) dX11_takesItem_33 (by decide) ?_
    refine am_iadd dX11_takesItem_34 ?_
    refine am_iconst (v := -1) dX11_takesItem_35 (by decide) ?_
    refine am_iast h20 dX11_takesItem_36 ?_
    refine am_letI (fun J21 => ?_)
    refine am_aload_n dX11_takesItem_37 rfl 1 rfl ?_
    refine am_iload_n dX11_takesItem_38 rfl 0 rfl ?_
    refine am_callV [.int v1] (tX11_takesState R J21 L a0 v1 h_a0) h_a0 clX11 gX11_takesItem_X11_takesState hX11_takesState rfl ⟨Nat.le_of_ble_eq_true rfl, Nat.le_of_ble_eq_true rfl⟩ rfl rfl (Nat.le_of_ble_eq_true rfl) dX11_takesItem_39 (fun r22 => ?_)
    show am_V Z X kX11_takesItem (fun r : Int32 × am_I => (some (.int r.1), R, r.2, L)) 42 [(1, .int v1), (0, .ref (am_B Z + a0))] [.int r22.1] R r22.2 L _
    refine am_ckV (fun hb23 => ?_)
    exact am_zret hb23 dX11_takesItem_42 rfl rfl
abbrev kX11_takesAll : am_K := (cX11_takesAll, 2, RX11, wsX11_takesAll, some .boolean, { frames := 4, cells := 0, slots := 0, locals := 89 })
theorem hX11_takesAll : am_cl yX11_takesAll kX11_takesAll 0 := ⟨⟨_, rfl⟩, rfl, rfl, by decide +kernel, by decide +kernel, by decide +kernel⟩
theorem iX11_takesAll_11 : ∀ w ∈ u_ws RX11 TX11 50, w ∈ wsX11_takesAll := by decide +kernel
theorem fX11_takesAll_184 : Cond.fieldLink RX11 184 "AmbiguityAnalyzerModel" "items" "I" ∈ wsX11_takesAll := by decide +kernel
theorem fX11_takesAll_177 : Cond.fieldLink RX11 177 "AmbiguityAnalyzerModel" "at" "I" ∈ wsX11_takesAll := by decide +kernel
theorem fX11_takesAll_174 : Cond.fieldLink RX11 174 "AmbiguityAnalyzerModel" "textLength" "I" ∈ wsX11_takesAll := by decide +kernel
set_option maxRecDepth 100000 in
set_option maxHeartbeats 4000000 in
theorem vX11_takesAll_12 {Z : am_Z} {X : am_X} (R : am_R) (L : am_L) (a0 : Nat) (h6 : am_G Z a0 = some (.inl 11)) (j3 : am_I → Option (Int32 × am_I)) (hj3 : ∀ (J4 : am_I), am_V Z X kX11_takesAll (fun r : Int32 × am_I => (some (.int r.1), R, r.2, L)) 65 [(0, .ref (am_B Z + a0))] [] R J4 L (j3 J4)) (ih9 : Int32 → am_I → Option (Int32 × am_I)) (hih9 : ∀ (v7 : Int32) (J8 : am_I), am_V Z X kX11_takesAll (fun r : Int32 × am_I => (some (.int r.1), R, r.2, L)) 12 [(0, .ref (am_B Z + a0)), (1, .int v7)] [] R J8 L (ih9 v7 J8)) (v7 : Int32) (J8 : am_I) : am_V Z X kX11_takesAll (fun r : Int32 × am_I => (some (.int r.1), R, r.2, L)) 12 [(0, .ref (am_B Z + a0)), (1, .int v7)] [] R J8 L (sX11_takesAll_12 R a0 j3 ih9 v7 J8) := by
  unfold sX11_takesAll_12
  refine am_iload_n dX11_takesAll_12 rfl 1 rfl ?_
  refine am_if_eq (tgt := 65) dX11_takesAll_13 rfl (fun e10 => ?_) (fun e10 => ?_)
  · refine am_sub (ls' := [(0, .ref (am_B Z + a0))]) [0] rfl ?_
    exact hj3 J8
  · refine am_aload_n dX11_takesAll_16 rfl 0 rfl ?_
    refine am_callV [] (tX11_takesItem R J8 L a0 h6) h6 clX11 gX11_takesAll_X11_takesItem hX11_takesItem rfl ⟨Nat.le_of_ble_eq_true rfl, Nat.le_of_ble_eq_true rfl⟩ rfl rfl (Nat.le_of_ble_eq_true rfl) dX11_takesAll_17 (fun r11 => ?_)
    show am_V Z X kX11_takesAll (fun r : Int32 × am_I => (some (.int r.1), R, r.2, L)) 20 [(0, .ref (am_B Z + a0)), (1, .int v7)] [.int r11.1] R r11.2 L _
    refine am_if_ne (tgt := 25) dX11_takesAll_20 rfl (fun e12 => ?_) (fun e12 => ?_)
    · refine am_aload_n dX11_takesAll_25 rfl 0 rfl ?_
      refine am_dup dX11_takesAll_26 rfl ?_
      refine am_get 11 14 clX11 (Nat.le_of_ble_eq_true rfl) h6 iX11_takesAll_11 fX11_takesAll_184 rfl dX11_takesAll_27 ?_
      refine am_iconst (v := 1) dX11_takesAll_30 (by decide) ?_
      refine am_iadd dX11_takesAll_31 ?_
      refine am_putI 11 14 clX11 (Nat.le_of_ble_eq_true rfl) h6 iX11_takesAll_11 fX11_takesAll_184 rfl rfl dX11_takesAll_32 ?_
      refine am_letI (fun J13 => ?_)
      refine am_aload_n dX11_takesAll_35 rfl 0 rfl ?_
      refine am_bipush (v := 59) dX11_takesAll_36 (by decide) ?_
      refine am_bipush (v := 59) dX11_takesAll_38 (by decide) ?_
      refine am_callV [.int (59 : Int32), .int (59 : Int32)] (tX11_isAt R J13 L a0 (59 : Int32) (59 : Int32) h6) h6 clX11 gX11_takesAll_X11_isAt hX11_isAt rfl ⟨Nat.le_of_ble_eq_true rfl, Nat.le_of_ble_eq_true rfl⟩ rfl rfl (Nat.le_of_ble_eq_true rfl) dX11_takesAll_40 (fun r14 => ?_)
      show am_V Z X kX11_takesAll (fun r : Int32 × am_I => (some (.int r.1), R, r.2, L)) 43 [(0, .ref (am_B Z + a0)), (1, .int v7)] [.int r14] R J13 L _
      refine am_istore_n (ls' := [(1, .int r14), (0, .ref (am_B Z + a0))]) dX11_takesAll_43 rfl (Nat.le_of_ble_eq_true rfl) rfl ?_
      refine am_aload_n dX11_takesAll_44 rfl 1 rfl ?_
      refine am_dup dX11_takesAll_45 rfl ?_
      refine am_get 11 13 clX11 (Nat.le_of_ble_eq_true rfl) h6 iX11_takesAll_11 fX11_takesAll_177 rfl dX11_takesAll_46 ?_
      refine am_iload_n dX11_takesAll_49 rfl 0 rfl ?_
      refine am_letJ (fun k16 ek16 => ?_)
      have hk16 : ∀ v15 : Int32, am_V Z X kX11_takesAll (fun r : Int32 × am_I => (some (.int r.1), R, r.2, L)) 58 [(0, .ref (am_B Z + a0)), (1, .int r14)] [.int v15, .int (J13 a0 13), .ref (am_B Z + a0)] R J13 L (k16 v15) := by
        subst ek16
        intro v15
        show am_V Z X kX11_takesAll (fun r : Int32 × am_I => (some (.int r.1), R, r.2, L)) 58 [(0, .ref (am_B Z + a0)), (1, .int r14)] [.int v15, .int (J13 a0 13), .ref (am_B Z + a0)] R J13 L _
        refine am_iadd dX11_takesAll_58 ?_
        refine am_putI 11 13 clX11 (Nat.le_of_ble_eq_true rfl) h6 iX11_takesAll_11 fX11_takesAll_177 rfl rfl dX11_takesAll_59 ?_
        refine am_letI (fun J17 => ?_)
        refine am_goto (tgt := 12) dX11_takesAll_62 rfl ?_
        exact hih9 r14 J17
      refine am_if_eqL (tgt := 57) dX11_takesAll_50 rfl (fun e18 => ?_) (fun e18 => ?_)
      · refine am_iconst (v := 0) dX11_takesAll_57 (by decide) ?_
        refine am_sub (ls' := [(0, .ref (am_B Z + a0)), (1, .int r14)]) [1, 0] rfl ?_
        exact hk16 _
      · refine am_iconst (v := 1) dX11_takesAll_53 (by decide) ?_
        refine am_goto (tgt := 58) dX11_takesAll_54 rfl ?_
        refine am_sub (ls' := [(0, .ref (am_B Z + a0)), (1, .int r14)]) [1, 0] rfl ?_
        exact hk16 _
    · refine am_iconst (v := 0) dX11_takesAll_23 (by decide) ?_
      exact am_zret (by decide) dX11_takesAll_24 rfl rfl
theorem uX11_takesAll_12 {Z : am_Z} {X : am_X} (R : am_R) (L : am_L) (a0 : Nat) (h6 : am_G Z a0 = some (.inl 11)) (j3 : am_I → Option (Int32 × am_I)) (hj3 : ∀ (J4 : am_I), am_V Z X kX11_takesAll (fun r : Int32 × am_I => (some (.int r.1), R, r.2, L)) 65 [(0, .ref (am_B Z + a0))] [] R J4 L (j3 J4)) : ∀ (n : Nat) (v7 : Int32) (J8 : am_I), am_V Z X kX11_takesAll (fun r : Int32 × am_I => (some (.int r.1), R, r.2, L)) 12 [(0, .ref (am_B Z + a0)), (1, .int v7)] [] R J8 L (lX11_takesAll_12 R a0 j3 n v7 J8) := by
  intro n
  induction n with
  | zero => intro _ _; exact am_none
  | succ n ih => exact fun v7 J8 => vX11_takesAll_12 R L a0 h6 j3 hj3 (lX11_takesAll_12 R a0 j3 n) ih v7 J8
set_option maxRecDepth 100000 in
set_option maxHeartbeats 4000000 in
theorem tX11_takesAll {Z : am_Z} (R : am_R) (I : am_I) (L : am_L) (a0 : Nat) (h_a0 : am_G Z a0 = some (.inl 11)) : am_M Z yX11_takesAll kX11_takesAll [.ref (am_B Z + a0)] R I L (pX11_takesAll R I a0) (fun r : Int32 × am_I => (some (.int r.1), R, r.2, L)) := by
  refine am_entry (ls := [(0, .ref (am_B Z + a0))]) (by decide) hX11_takesAll rfl (Nat.le_of_ble_eq_true rfl) rfl (fun X => ?_)
  unfold pX11_takesAll
  refine am_aload_n dX11_takesAll_0 rfl 0 rfl ?_
  refine am_iconst (v := 0) dX11_takesAll_1 (by decide) ?_
  refine am_putI 11 14 clX11 (Nat.le_of_ble_eq_true rfl) h_a0 iX11_takesAll_11 fX11_takesAll_184 rfl rfl dX11_takesAll_2 ?_
  refine am_letI (fun J1 => ?_)
  refine am_aload_n dX11_takesAll_5 rfl 0 rfl ?_
  refine am_iconst (v := 0) dX11_takesAll_6 (by decide) ?_
  refine am_putI 11 13 clX11 (Nat.le_of_ble_eq_true rfl) h_a0 iX11_takesAll_11 fX11_takesAll_177 rfl rfl dX11_takesAll_7 ?_
  refine am_letI (fun J2 => ?_)
  refine am_iconst (v := 1) dX11_takesAll_10 (by decide) ?_
  refine am_istore_n (ls' := [(1, .int (1 : Int32)), (0, .ref (am_B Z + a0))]) dX11_takesAll_11 rfl (Nat.le_of_ble_eq_true rfl) rfl ?_
  refine am_jnV (fun j3 ej3 => ?_)
  have hj3 : ∀ (J4 : am_I), am_V Z X kX11_takesAll (fun r : Int32 × am_I => (some (.int r.1), R, r.2, L)) 65 [(0, .ref (am_B Z + a0))] [] R J4 L (j3 J4) := by
    subst ej3
    intro J4
    show am_V Z X kX11_takesAll (fun r : Int32 × am_I => (some (.int r.1), R, r.2, L)) 65 [(0, .ref (am_B Z + a0))] [] R J4 L _
    refine am_aload_n dX11_takesAll_65 rfl 0 rfl ?_
    refine am_get 11 13 clX11 (Nat.le_of_ble_eq_true rfl) h_a0 iX11_takesAll_11 fX11_takesAll_177 rfl dX11_takesAll_66 ?_
    refine am_aload_n dX11_takesAll_69 rfl 0 rfl ?_
    refine am_get 11 12 clX11 (Nat.le_of_ble_eq_true rfl) h_a0 iX11_takesAll_11 fX11_takesAll_174 rfl dX11_takesAll_70 ?_
    refine am_icmp_ne (tgt := 80) dX11_takesAll_73 rfl (fun e5 => ?_) (fun e5 => ?_)
    · refine am_iconst (v := 0) dX11_takesAll_80 (by decide) ?_
      exact am_zret (by decide) dX11_takesAll_81 rfl rfl
    · refine am_iconst (v := 1) dX11_takesAll_76 (by decide) ?_
      refine am_goto (tgt := 81) dX11_takesAll_77 rfl ?_
      exact am_zret (by decide) dX11_takesAll_81 rfl rfl
  refine am_sub (ls' := [(0, .ref (am_B Z + a0)), (1, .int (1 : Int32))]) [1, 0] rfl ?_
  exact uX11_takesAll_12 R L a0 h_a0 j3 hj3 am_fu (1 : Int32) J2
abbrev kX11_parse : am_K := (cX11_parse, 4, RX11, wsX11_parse, some .int, { frames := 5, cells := 0, slots := 0, locals := 110 })
theorem hX11_parse : am_cl yX11_parse kX11_parse 0 := ⟨⟨_, rfl⟩, rfl, rfl, by decide +kernel, by decide +kernel, by decide +kernel⟩
theorem iX11_parse_11 : ∀ w ∈ u_ws RX11 TX11 50, w ∈ wsX11_parse := by decide +kernel
theorem fX11_parse_174 : Cond.fieldLink RX11 174 "AmbiguityAnalyzerModel" "textLength" "I" ∈ wsX11_parse := by decide +kernel
theorem fX11_parse_177 : Cond.fieldLink RX11 177 "AmbiguityAnalyzerModel" "at" "I" ∈ wsX11_parse := by decide +kernel
theorem fX11_parse_184 : Cond.fieldLink RX11 184 "AmbiguityAnalyzerModel" "items" "I" ∈ wsX11_parse := by decide +kernel
theorem fX11_parse_32 : Cond.fieldLink RX11 32 "AmbiguityAnalyzerModel" "item" "[I" ∈ wsX11_parse := by decide +kernel
theorem fX11_parse_112 : Cond.fieldLink RX11 112 "AmbiguityAnalyzerModel" "initials" "I" ∈ wsX11_parse := by decide +kernel
theorem fX11_parse_115 : Cond.fieldLink RX11 115 "AmbiguityAnalyzerModel" "finals" "I" ∈ wsX11_parse := by decide +kernel
theorem fX11_parse_7 : Cond.fieldLink RX11 7 "AmbiguityAnalyzerModel" "targets" "[I" ∈ wsX11_parse := by decide +kernel
theorem fX11_parse_118 : Cond.fieldLink RX11 118 "AmbiguityAnalyzerModel" "isKnown" "Z" ∈ wsX11_parse := by decide +kernel
set_option maxRecDepth 100000 in
set_option maxHeartbeats 4000000 in
theorem vX11_parse_24 {Z : am_Z} {X : am_X} (R : am_R) (L : am_L) (a0 : Nat) (h4 : am_G Z a0 = some (.inl 11)) (ih7 : Int32 → am_I → Option (Int32 × am_I)) (hih7 : ∀ (v5 : Int32) (J6 : am_I), am_V Z X kX11_parse (fun r : Int32 × am_I => (some (.int r.1), R, r.2, L)) 24 [(0, .ref (am_B Z + a0)), (2, .int v5)] [] R J6 L (ih7 v5 J6)) (v5 : Int32) (J6 : am_I) : am_V Z X kX11_parse (fun r : Int32 × am_I => (some (.int r.1), R, r.2, L)) 24 [(0, .ref (am_B Z + a0)), (2, .int v5)] [] R J6 L (sX11_parse_24 R a0 ih7 v5 J6) := by
  unfold sX11_parse_24
  refine am_iload_n dX11_parse_24 rfl 1 rfl ?_
  refine am_aload_n dX11_parse_25 rfl 0 rfl ?_
  refine am_get 11 14 clX11 (Nat.le_of_ble_eq_true rfl) h4 iX11_parse_11 fX11_parse_184 rfl dX11_parse_26 ?_
  refine am_icmp_ge (tgt := 143) dX11_parse_29 rfl (fun e8 => ?_) (fun e8 => ?_)
  · refine am_aload_n dX11_parse_143 rfl 0 rfl ?_
    refine am_iconst (v := 0) dX11_parse_144 (by decide) ?_
    refine am_putZ 11 6 clX11 (Nat.le_of_ble_eq_true rfl) h4 iX11_parse_11 fX11_parse_118 rfl rfl (by decide) dX11_parse_145 ?_
    refine am_letI (fun J9 => ?_)
    refine am_aload_n dX11_parse_148 rfl 0 rfl ?_
    refine am_get 11 14 clX11 (Nat.le_of_ble_eq_true rfl) h4 iX11_parse_11 fX11_parse_184 rfl dX11_parse_149 ?_
    exact am_iret dX11_parse_152 rfl rfl
  · refine am_iconst (v := 3) dX11_parse_32 (by decide) ?_
    refine am_iload_n dX11_parse_33 rfl 1 rfl ?_
    refine am_imul dX11_parse_34 ?_
    refine am_letTi (fun v10 => ?_)
    refine am_istore_n (ls' := [(3, .int v10), (0, .ref (am_B Z + a0)), (2, .int v5)]) dX11_parse_35 rfl (Nat.le_of_ble_eq_true rfl) rfl ?_
    refine am_aload_n dX11_parse_36 rfl 1 rfl ?_
    refine am_getR 11 11 clX11 (Nat.le_of_ble_eq_true rfl) h4 iX11_parse_11 fX11_parse_32 rfl rfl dX11_parse_37 (fun h11 => ?_)
    refine am_iload_n dX11_parse_40 rfl 0 rfl ?_
    refine am_iconst (v := 1) dX11_parse_41 (by decide) ?_
    refine am_iadd dX11_parse_42 ?_
    refine am_iald h11 dX11_parse_43 ?_
    refine am_iconst (v := -1) dX11_parse_44 (by decide) ?_
    refine am_jnV (fun j12 ej12 => ?_)
    have hj12 : ∀ (J13 : am_I), am_V Z X kX11_parse (fun r : Int32 × am_I => (some (.int r.1), R, r.2, L)) 137 [(0, .ref (am_B Z + a0)), (2, .int v5)] [] R J13 L (j12 J13) := by
      subst ej12
      intro J13
      show am_V Z X kX11_parse (fun r : Int32 × am_I => (some (.int r.1), R, r.2, L)) 137 [(0, .ref (am_B Z + a0)), (2, .int v5)] [] R J13 L _
      refine am_iinc (j := 1) (ls' := [(2, .int (v5 + (1 : Int32))), (0, .ref (am_B Z + a0))]) dX11_parse_137 rfl rfl (Nat.le_of_ble_eq_true rfl) rfl ?_
      refine am_goto (tgt := 24) dX11_parse_140 rfl ?_
      refine am_sub (ls' := [(0, .ref (am_B Z + a0)), (2, .int (v5 + (1 : Int32)))]) [1, 0] rfl ?_
      exact hih7 (v5 + (1 : Int32)) J13
    refine am_icmp_ne (tgt := 68) dX11_parse_45 rfl (fun e14 => ?_) (fun e14 => ?_)
    · refine am_aload_n dX11_parse_68 rfl 1 rfl ?_
      refine am_getR 11 11 clX11 (Nat.le_of_ble_eq_true rfl) h4 iX11_parse_11 fX11_parse_32 rfl rfl dX11_parse_69 (fun h15 => ?_)
      refine am_iload_n dX11_parse_72 rfl 0 rfl ?_
      refine am_iconst (v := 1) dX11_parse_73 (by decide) ?_
      refine am_iadd dX11_parse_74 ?_
      refine am_iald h15 dX11_parse_75 ?_
      refine am_bipush (v := -2) dX11_parse_76 (by decide) ?_
      refine am_icmp_ne (tgt := 101) dX11_parse_78 rfl (fun e16 => ?_) (fun e16 => ?_)
      · refine am_aload_n dX11_parse_101 rfl 1 rfl ?_
        refine am_getR 11 0 clX11 (Nat.le_of_ble_eq_true rfl) h4 iX11_parse_11 fX11_parse_7 rfl rfl dX11_parse_102 (fun h17 => ?_)
        refine am_bipush (v := 6) dX11_parse_105 (by decide) ?_
        refine am_aload_n dX11_parse_107 rfl 1 rfl ?_
        refine am_getR 11 11 clX11 (Nat.le_of_ble_eq_true rfl) h4 iX11_parse_11 fX11_parse_32 rfl rfl dX11_parse_108 (fun h18 => ?_)
        refine am_iload_n dX11_parse_111 rfl 0 rfl ?_
        refine am_iconst (v := 1) dX11_parse_112 (by decide) ?_
        refine am_iadd dX11_parse_113 ?_
        refine am_iald h18 dX11_parse_114 ?_
        refine am_imul dX11_parse_115 ?_
        refine am_aload_n dX11_parse_116 rfl 1 rfl ?_
        refine am_getR 11 11 clX11 (Nat.le_of_ble_eq_true rfl) h4 iX11_parse_11 fX11_parse_32 rfl rfl dX11_parse_117 (fun h19 => ?_)
        refine am_iload_n dX11_parse_120 rfl 0 rfl ?_
        refine am_iald h19 dX11_parse_121 ?_
        refine am_iadd dX11_parse_122 ?_
        refine am_dup2 dX11_parse_123 rfl rfl ?_
        refine am_iald h17 dX11_parse_124 ?_
        refine am_iconst (v := 1) dX11_parse_125 (by decide) ?_
        refine am_aload_n dX11_parse_126 rfl 1 rfl ?_
        refine am_getR 11 11 clX11 (Nat.le_of_ble_eq_true rfl) h4 iX11_parse_11 fX11_parse_32 rfl rfl dX11_parse_127 (fun h20 => ?_)
        refine am_iload_n dX11_parse_130 rfl 0 rfl ?_
        refine am_iconst (v := 2) dX11_parse_131 (by decide) ?_
        refine am_iadd dX11_parse_132 ?_
        refine am_iald h20 dX11_parse_133 ?_
        refine am_ishl dX11_parse_134 ?_
        refine am_ior dX11_parse_135 ?_
        refine am_iast h17 dX11_parse_136 ?_
        refine am_letI (fun J21 => ?_)
        refine am_sub (ls' := [(0, .ref (am_B Z + a0)), (2, .int v5)]) [1, 2] rfl ?_
        exact hj12 J21
      · refine am_aload_n dX11_parse_81 rfl 1 rfl ?_
        refine am_dup dX11_parse_82 rfl ?_
        refine am_get 11 5 clX11 (Nat.le_of_ble_eq_true rfl) h4 iX11_parse_11 fX11_parse_115 rfl dX11_parse_83 ?_
        refine am_iconst (v := 1) dX11_parse_86 (by decide) ?_
        refine am_aload_n dX11_parse_87 rfl 1 rfl ?_
        refine am_getR 11 11 clX11 (Nat.le_of_ble_eq_true rfl) h4 iX11_parse_11 fX11_parse_32 rfl rfl dX11_parse_88 (fun h22 => ?_)
        refine am_iload_n dX11_parse_91 rfl 0 rfl ?_
        refine am_iald h22 dX11_parse_92 ?_
        refine am_ishl dX11_parse_93 ?_
        refine am_ior dX11_parse_94 ?_
        refine am_putI 11 5 clX11 (Nat.le_of_ble_eq_true rfl) h4 iX11_parse_11 fX11_parse_115 rfl rfl dX11_parse_95 ?_
        refine am_letI (fun J23 => ?_)
        refine am_goto (tgt := 137) dX11_parse_98 rfl ?_
        refine am_sub (ls' := [(0, .ref (am_B Z + a0)), (2, .int v5)]) [1, 2] rfl ?_
        exact hj12 J23
    · refine am_aload_n dX11_parse_48 rfl 1 rfl ?_
      refine am_dup dX11_parse_49 rfl ?_
      refine am_get 11 4 clX11 (Nat.le_of_ble_eq_true rfl) h4 iX11_parse_11 fX11_parse_112 rfl dX11_parse_50 ?_
      refine am_iconst (v := 1) dX11_parse_53 (by decide) ?_
      refine am_aload_n dX11_parse_54 rfl 1 rfl ?_
      refine am_getR 11 11 clX11 (Nat.le_of_ble_eq_true rfl) h4 iX11_parse_11 fX11_parse_32 rfl rfl dX11_parse_55 (fun h24 => ?_)
      refine am_iload_n dX11_parse_58 rfl 0 rfl ?_
      refine am_iald h24 dX11_parse_59 ?_
      refine am_ishl dX11_parse_60 ?_
      refine am_ior dX11_parse_61 ?_
      refine am_putI 11 4 clX11 (Nat.le_of_ble_eq_true rfl) h4 iX11_parse_11 fX11_parse_112 rfl rfl dX11_parse_62 ?_
      refine am_letI (fun J25 => ?_)
      refine am_goto (tgt := 137) dX11_parse_65 rfl ?_
      refine am_sub (ls' := [(0, .ref (am_B Z + a0)), (2, .int v5)]) [1, 2] rfl ?_
      exact hj12 J25
theorem uX11_parse_24 {Z : am_Z} {X : am_X} (R : am_R) (L : am_L) (a0 : Nat) (h4 : am_G Z a0 = some (.inl 11)) : ∀ (n : Nat) (v5 : Int32) (J6 : am_I), am_V Z X kX11_parse (fun r : Int32 × am_I => (some (.int r.1), R, r.2, L)) 24 [(0, .ref (am_B Z + a0)), (2, .int v5)] [] R J6 L (lX11_parse_24 R a0 n v5 J6) := by
  intro n
  induction n with
  | zero => intro _ _; exact am_none
  | succ n ih => exact fun v5 J6 => vX11_parse_24 R L a0 h4 (lX11_parse_24 R a0 n) ih v5 J6
set_option maxRecDepth 100000 in
set_option maxHeartbeats 4000000 in
theorem tX11_parse {Z : am_Z} (R : am_R) (I : am_I) (L : am_L) (a0 : Nat) (h_a0 : am_G Z a0 = some (.inl 11)) : am_M Z yX11_parse kX11_parse [.ref (am_B Z + a0)] R I L (pX11_parse R I a0) (fun r : Int32 × am_I => (some (.int r.1), R, r.2, L)) := by
  refine am_entry (ls := [(0, .ref (am_B Z + a0))]) (by decide) hX11_parse rfl (Nat.le_of_ble_eq_true rfl) rfl (fun X => ?_)
  unfold pX11_parse
  refine am_aload_n dX11_parse_0 rfl 0 rfl ?_
  refine am_callV [] (tX11_takesAll R I L a0 h_a0) h_a0 clX11 gX11_parse_X11_takesAll hX11_takesAll rfl ⟨Nat.le_of_ble_eq_true rfl, Nat.le_of_ble_eq_true rfl⟩ rfl rfl (Nat.le_of_ble_eq_true rfl) dX11_parse_1 (fun r1 => ?_)
  show am_V Z X kX11_parse (fun r : Int32 × am_I => (some (.int r.1), R, r.2, L)) 4 [(0, .ref (am_B Z + a0))] [.int r1.1] R r1.2 L _
  refine am_istore_n (ls' := [(1, .int r1.1), (0, .ref (am_B Z + a0))]) dX11_parse_4 rfl (Nat.le_of_ble_eq_true rfl) rfl ?_
  refine am_aload_n dX11_parse_5 rfl 1 rfl ?_
  refine am_iconst (v := 0) dX11_parse_6 (by decide) ?_
  refine am_putI 11 12 clX11 (Nat.le_of_ble_eq_true rfl) h_a0 iX11_parse_11 fX11_parse_174 rfl rfl dX11_parse_7 ?_
  refine am_letI (fun J2 => ?_)
  refine am_iload_n dX11_parse_10 rfl 0 rfl ?_
  refine am_if_ne (tgt := 22) dX11_parse_11 rfl (fun e3 => ?_) (fun e3 => ?_)
  · refine am_iconst (v := 0) dX11_parse_22 (by decide) ?_
    refine am_istore_n (ls' := [(2, .int (0 : Int32)), (1, .int r1.1), (0, .ref (am_B Z + a0))]) dX11_parse_23 rfl (Nat.le_of_ble_eq_true rfl) rfl ?_
    refine am_sub (ls' := [(0, .ref (am_B Z + a0)), (2, .int (0 : Int32))]) [2, 0] rfl ?_
    exact uX11_parse_24 R L a0 h_a0 am_fu (0 : Int32) J2
  · refine am_bipush (v := -100) dX11_parse_14 (by decide) ?_
    refine am_aload_n dX11_parse_16 rfl 1 rfl ?_
    refine am_get 11 13 clX11 (Nat.le_of_ble_eq_true rfl) h_a0 iX11_parse_11 fX11_parse_177 rfl dX11_parse_17 ?_
    refine am_isub dX11_parse_20 ?_
    exact am_iret dX11_parse_21 rfl rfl
abbrev kX11_appendLetter : am_K := (cX11_appendLetter, 2, RX11, wsX11_appendLetter, some .int, { frames := 1, cells := 0, slots := 0, locals := 20 })
theorem hX11_appendLetter : am_cl yX11_appendLetter kX11_appendLetter 1 := ⟨⟨_, rfl⟩, rfl, rfl, by decide +kernel, by decide +kernel, by decide +kernel⟩
theorem iX11_appendLetter_11 : ∀ w ∈ u_ws RX11 TX11 50, w ∈ wsX11_appendLetter := by decide +kernel
theorem fX11_appendLetter_197 : Cond.fieldLink RX11 197 "AmbiguityAnalyzerModel" "wordLength" "I" ∈ wsX11_appendLetter := by decide +kernel
theorem fX11_appendLetter_35 : Cond.fieldLink RX11 35 "AmbiguityAnalyzerModel" "word" "[I" ∈ wsX11_appendLetter := by decide +kernel
set_option maxRecDepth 100000 in
set_option maxHeartbeats 4000000 in
theorem tX11_appendLetter {Z : am_Z} (R : am_R) (I : am_I) (L : am_L) (a0 : Nat) (x1 : Int32) (h_a0 : am_G Z a0 = some (.inl 11)) : am_M Z yX11_appendLetter kX11_appendLetter [.ref (am_B Z + a0), .int x1] R I L (pX11_appendLetter R I a0 x1) (fun r : Int32 × am_I => (some (.int r.1), R, r.2, L)) := by
  refine am_entry (ls := [(0, .ref (am_B Z + a0)), (1, .int x1)]) (by decide) hX11_appendLetter rfl (Nat.le_of_ble_eq_true rfl) rfl (fun X => ?_)
  unfold pX11_appendLetter
  refine am_iload_n dX11_appendLetter_0 rfl 1 rfl ?_
  refine am_callS [.int x1] (tX11_isLetter R I L x1) gX11_appendLetter_X11_isLetter hX11_isLetter ⟨Nat.le_of_ble_eq_true rfl, Nat.le_of_ble_eq_true rfl⟩ rfl rfl (Nat.le_of_ble_eq_true rfl) dX11_appendLetter_1 (fun r1 => ?_)
  show am_V Z X kX11_appendLetter (fun r : Int32 × am_I => (some (.int r.1), R, r.2, L)) 4 [(0, .ref (am_B Z + a0)), (1, .int x1)] [.int r1] R I L _
  refine am_if_ne (tgt := 9) dX11_appendLetter_4 rfl (fun e2 => ?_) (fun e2 => ?_)
  · refine am_aload_n dX11_appendLetter_9 rfl 0 rfl ?_
    refine am_get 11 16 clX11 (Nat.le_of_ble_eq_true rfl) h_a0 iX11_appendLetter_11 fX11_appendLetter_197 rfl dX11_appendLetter_10 ?_
    refine am_bipush (v := 20) dX11_appendLetter_13 (by decide) ?_
    refine am_icmp_ne (tgt := 21) dX11_appendLetter_15 rfl (fun e3 => ?_) (fun e3 => ?_)
    · refine am_aload_n dX11_appendLetter_21 rfl 0 rfl ?_
      refine am_getR 11 15 clX11 (Nat.le_of_ble_eq_true rfl) h_a0 iX11_appendLetter_11 fX11_appendLetter_35 rfl rfl dX11_appendLetter_22 (fun h4 => ?_)
      refine am_aload_n dX11_appendLetter_25 rfl 0 rfl ?_
      refine am_get 11 16 clX11 (Nat.le_of_ble_eq_true rfl) h_a0 iX11_appendLetter_11 fX11_appendLetter_197 rfl dX11_appendLetter_26 ?_
      refine am_iload_n dX11_appendLetter_29 rfl 1 rfl ?_
      refine am_iast h4 dX11_appendLetter_30 ?_
      refine am_letI (fun J5 => ?_)
      refine am_aload_n dX11_appendLetter_31 rfl 0 rfl ?_
      refine am_dup dX11_appendLetter_32 rfl ?_
      refine am_get 11 16 clX11 (Nat.le_of_ble_eq_true rfl) h_a0 iX11_appendLetter_11 fX11_appendLetter_197 rfl dX11_appendLetter_33 ?_
      refine am_iconst (v := 1) dX11_appendLetter_36 (by decide) ?_
      refine am_iadd dX11_appendLetter_37 ?_
      refine am_putI 11 16 clX11 (Nat.le_of_ble_eq_true rfl) h_a0 iX11_appendLetter_11 fX11_appendLetter_197 rfl rfl dX11_appendLetter_38 ?_
      refine am_letI (fun J6 => ?_)
      refine am_aload_n dX11_appendLetter_41 rfl 0 rfl ?_
      refine am_get 11 16 clX11 (Nat.le_of_ble_eq_true rfl) h_a0 iX11_appendLetter_11 fX11_appendLetter_197 rfl dX11_appendLetter_42 ?_
      exact am_iret dX11_appendLetter_45 rfl rfl
    · refine am_bipush (v := -3) dX11_appendLetter_18 (by decide) ?_
      exact am_iret dX11_appendLetter_20 rfl rfl
  · refine am_iconst (v := -1) dX11_appendLetter_7 (by decide) ?_
    exact am_iret dX11_appendLetter_8 rfl rfl
abbrev kX11_clearWord : am_K := (cX11_clearWord, 2, RX11, wsX11_clearWord, some .int, { frames := 0, cells := 0, slots := 0, locals := 0 })
theorem hX11_clearWord : am_cl yX11_clearWord kX11_clearWord 0 := ⟨⟨_, rfl⟩, rfl, rfl, by decide +kernel, by decide +kernel, by decide +kernel⟩
theorem iX11_clearWord_11 : ∀ w ∈ u_ws RX11 TX11 50, w ∈ wsX11_clearWord := by decide +kernel
theorem fX11_clearWord_197 : Cond.fieldLink RX11 197 "AmbiguityAnalyzerModel" "wordLength" "I" ∈ wsX11_clearWord := by decide +kernel
set_option maxRecDepth 100000 in
set_option maxHeartbeats 4000000 in
theorem tX11_clearWord {Z : am_Z} (R : am_R) (I : am_I) (L : am_L) (a0 : Nat) (h_a0 : am_G Z a0 = some (.inl 11)) : am_M Z yX11_clearWord kX11_clearWord [.ref (am_B Z + a0)] R I L (pX11_clearWord I a0) (fun r : Int32 × am_I => (some (.int r.1), R, r.2, L)) := by
  refine am_entry (ls := [(0, .ref (am_B Z + a0))]) (by decide) hX11_clearWord rfl (Nat.le_of_ble_eq_true rfl) rfl (fun X => ?_)
  unfold pX11_clearWord
  refine am_aload_n dX11_clearWord_0 rfl 0 rfl ?_
  refine am_get 11 16 clX11 (Nat.le_of_ble_eq_true rfl) h_a0 iX11_clearWord_11 fX11_clearWord_197 rfl dX11_clearWord_1 ?_
  refine am_letTi (fun v1 => ?_)
  refine am_istore_n (ls' := [(1, .int v1), (0, .ref (am_B Z + a0))]) dX11_clearWord_4 rfl (Nat.le_of_ble_eq_true rfl) rfl ?_
  refine am_aload_n dX11_clearWord_5 rfl 1 rfl ?_
  refine am_iconst (v := 0) dX11_clearWord_6 (by decide) ?_
  refine am_putI 11 16 clX11 (Nat.le_of_ble_eq_true rfl) h_a0 iX11_clearWord_11 fX11_clearWord_197 rfl rfl dX11_clearWord_7 ?_
  refine am_letI (fun J2 => ?_)
  refine am_iload_n dX11_clearWord_10 rfl 0 rfl ?_
  exact am_iret dX11_clearWord_11 rfl rfl
abbrev kX11_wordLength : am_K := (cX11_wordLength, 1, RX11, wsX11_wordLength, some .int, { frames := 0, cells := 0, slots := 0, locals := 0 })
theorem hX11_wordLength : am_cl yX11_wordLength kX11_wordLength 0 := ⟨⟨_, rfl⟩, rfl, rfl, by decide +kernel, by decide +kernel, by decide +kernel⟩
theorem iX11_wordLength_11 : ∀ w ∈ u_ws RX11 TX11 50, w ∈ wsX11_wordLength := by decide +kernel
theorem fX11_wordLength_197 : Cond.fieldLink RX11 197 "AmbiguityAnalyzerModel" "wordLength" "I" ∈ wsX11_wordLength := by decide +kernel
set_option maxRecDepth 100000 in
set_option maxHeartbeats 4000000 in
theorem tX11_wordLength {Z : am_Z} (R : am_R) (I : am_I) (L : am_L) (a0 : Nat) (h_a0 : am_G Z a0 = some (.inl 11)) : am_M Z yX11_wordLength kX11_wordLength [.ref (am_B Z + a0)] R I L (pX11_wordLength I a0) (fun r : Int32 => (some (.int r), R, I, L)) := by
  refine am_entry (ls := [(0, .ref (am_B Z + a0))]) (by decide) hX11_wordLength rfl (Nat.le_of_ble_eq_true rfl) rfl (fun X => ?_)
  unfold pX11_wordLength
  refine am_aload_n dX11_wordLength_0 rfl 0 rfl ?_
  refine am_get 11 16 clX11 (Nat.le_of_ble_eq_true rfl) h_a0 iX11_wordLength_11 fX11_wordLength_197 rfl dX11_wordLength_1 ?_
  exact am_iret dX11_wordLength_4 rfl rfl
abbrev kX11_wordLetter : am_K := (cX11_wordLetter, 2, RX11, wsX11_wordLetter, some .int, { frames := 0, cells := 0, slots := 0, locals := 0 })
theorem hX11_wordLetter : am_cl yX11_wordLetter kX11_wordLetter 1 := ⟨⟨_, rfl⟩, rfl, rfl, by decide +kernel, by decide +kernel, by decide +kernel⟩
theorem iX11_wordLetter_11 : ∀ w ∈ u_ws RX11 TX11 50, w ∈ wsX11_wordLetter := by decide +kernel
theorem fX11_wordLetter_197 : Cond.fieldLink RX11 197 "AmbiguityAnalyzerModel" "wordLength" "I" ∈ wsX11_wordLetter := by decide +kernel
theorem fX11_wordLetter_35 : Cond.fieldLink RX11 35 "AmbiguityAnalyzerModel" "word" "[I" ∈ wsX11_wordLetter := by decide +kernel
set_option maxRecDepth 100000 in
set_option maxHeartbeats 4000000 in
theorem tX11_wordLetter {Z : am_Z} (R : am_R) (I : am_I) (L : am_L) (a0 : Nat) (x1 : Int32) (h_a0 : am_G Z a0 = some (.inl 11)) : am_M Z yX11_wordLetter kX11_wordLetter [.ref (am_B Z + a0), .int x1] R I L (pX11_wordLetter R I a0 x1) (fun r : Int32 => (some (.int r), R, I, L)) := by
  refine am_entry (ls := [(0, .ref (am_B Z + a0)), (1, .int x1)]) (by decide) hX11_wordLetter rfl (Nat.le_of_ble_eq_true rfl) rfl (fun X => ?_)
  unfold pX11_wordLetter
  refine am_iload_n dX11_wordLetter_0 rfl 1 rfl ?_
  refine am_if_lt (tgt := 21) dX11_wordLetter_1 rfl (fun e1 => ?_) (fun e1 => ?_)
  · refine am_iconst (v := -1) dX11_wordLetter_21 (by decide) ?_
    exact am_iret dX11_wordLetter_22 rfl rfl
  · refine am_iload_n dX11_wordLetter_4 rfl 1 rfl ?_
    refine am_aload_n dX11_wordLetter_5 rfl 0 rfl ?_
    refine am_get 11 16 clX11 (Nat.le_of_ble_eq_true rfl) h_a0 iX11_wordLetter_11 fX11_wordLetter_197 rfl dX11_wordLetter_6 ?_
    refine am_icmp_ge (tgt := 21) dX11_wordLetter_9 rfl (fun e2 => ?_) (fun e2 => ?_)
    · refine am_iconst (v := -1) dX11_wordLetter_21 (by decide) ?_
      exact am_iret dX11_wordLetter_22 rfl rfl
    · refine am_aload_n dX11_wordLetter_12 rfl 0 rfl ?_
      refine am_getR 11 15 clX11 (Nat.le_of_ble_eq_true rfl) h_a0 iX11_wordLetter_11 fX11_wordLetter_35 rfl rfl dX11_wordLetter_13 (fun h3 => ?_)
      refine am_iload_n dX11_wordLetter_16 rfl 1 rfl ?_
      refine am_iald h3 dX11_wordLetter_17 ?_
      refine am_goto (tgt := 22) dX11_wordLetter_18 rfl ?_
      exact am_iret dX11_wordLetter_22 rfl rfl
abbrev kX11_plus : am_K := (cX11_plus, 4, RX11, wsX11_plus, some .long, { frames := 0, cells := 0, slots := 0, locals := 0 })
theorem hX11_plus : am_cl yX11_plus kX11_plus 2 := ⟨⟨_, rfl⟩, rfl, rfl, by decide +kernel, by decide +kernel, by decide +kernel⟩
set_option maxRecDepth 100000 in
set_option maxHeartbeats 4000000 in
theorem tX11_plus {Z : am_Z} (R : am_R) (I : am_I) (L : am_L) (x0 : Int64) (x2 : Int64)  : am_M Z yX11_plus kX11_plus [.long x0, .long x2] R I L (pX11_plus x0 x2) (fun r : Int64 => (some (.long r), R, I, L)) := by
  refine am_entry (ls := [(0, .long x0), (2, .long x2)]) (by decide) hX11_plus rfl (Nat.le_of_ble_eq_true rfl) rfl (fun X => ?_)
  unfold pX11_plus
  refine am_lload_n dX11_plus_0 rfl 0 rfl ?_
  refine am_lconst (v := 0) dX11_plus_1 (by decide) ?_
  refine am_lcmp dX11_plus_2 ?_
  refine am_if_lt (tgt := 22) dX11_plus_3 rfl (fun e1 => ?_) (fun e1 => ?_)
  · refine am_ldc2 (v := -1) dX11_plus_22 (by decide +kernel) ?_
    refine am_goto (tgt := 31) dX11_plus_25 rfl ?_
    exact am_lret dX11_plus_31 rfl rfl
  · refine am_lload_n dX11_plus_6 rfl 1 rfl ?_
    refine am_lconst (v := 0) dX11_plus_7 (by decide) ?_
    refine am_lcmp dX11_plus_8 ?_
    refine am_if_lt (tgt := 22) dX11_plus_9 rfl (fun e2 => ?_) (fun e2 => ?_)
    · refine am_ldc2 (v := -1) dX11_plus_22 (by decide +kernel) ?_
      refine am_goto (tgt := 31) dX11_plus_25 rfl ?_
      exact am_lret dX11_plus_31 rfl rfl
    · refine am_lload_n dX11_plus_12 rfl 0 rfl ?_
      refine am_ldc2 (v := 9223372036854775807) dX11_plus_13 (by decide +kernel) ?_
      refine am_lload_n dX11_plus_16 rfl 1 rfl ?_
      refine am_lsub dX11_plus_17 ?_
      refine am_lcmp dX11_plus_18 ?_
      refine am_if_le (tgt := 28) dX11_plus_19 rfl (fun e3 => ?_) (fun e3 => ?_)
      · refine am_lload_n dX11_plus_28 rfl 0 rfl ?_
        refine am_lload_n dX11_plus_29 rfl 1 rfl ?_
        refine am_ladd dX11_plus_30 ?_
        exact am_lret dX11_plus_31 rfl rfl
      · refine am_ldc2 (v := -1) dX11_plus_22 (by decide +kernel) ?_
        refine am_goto (tgt := 31) dX11_plus_25 rfl ?_
        exact am_lret dX11_plus_31 rfl rfl
