abbrev kX11_findLightest : am_K := (cX11_findLightest, 6, RX11, wsX11_findLightest, some .int, { frames := 1, cells := 0, slots := 0, locals := 22 })
theorem hX11_findLightest : am_cl yX11_findLightest kX11_findLightest 0 := ⟨⟨_, rfl⟩, rfl, rfl, by decide +kernel, by decide +kernel, by decide +kernel⟩
theorem iX11_findLightest_11 : ∀ w ∈ u_ws RX11 TX11 50, w ∈ wsX11_findLightest := by decide +kernel
theorem fX11_findLightest_73 : Cond.fieldLink RX11 73 "AmbiguityAnalyzerModel" "lightest" "[I" ∈ wsX11_findLightest := by decide +kernel
theorem fX11_findLightest_115 : Cond.fieldLink RX11 115 "AmbiguityAnalyzerModel" "finals" "I" ∈ wsX11_findLightest := by decide +kernel
theorem fX11_findLightest_19 : Cond.fieldLink RX11 19 "AmbiguityAnalyzerModel" "states" "I" ∈ wsX11_findLightest := by decide +kernel
theorem fX11_findLightest_16 : Cond.fieldLink RX11 16 "AmbiguityAnalyzerModel" "weight" "[I" ∈ wsX11_findLightest := by decide +kernel
theorem fX11_findLightest_7 : Cond.fieldLink RX11 7 "AmbiguityAnalyzerModel" "targets" "[I" ∈ wsX11_findLightest := by decide +kernel
theorem fX11_findLightest_112 : Cond.fieldLink RX11 112 "AmbiguityAnalyzerModel" "initials" "I" ∈ wsX11_findLightest := by decide +kernel
set_option maxRecDepth 100000 in
set_option maxHeartbeats 4000000 in
theorem vX11_findLightest_166 {Z : am_Z} {X : am_X} (R : am_R) (L : am_L) (a0 : Nat) (J4 : am_I) (h5 : am_G Z a0 = some (.inl 11)) (ih8 : Int32 → Int32 → Option (Int32 × am_I)) (hih8 : ∀ (v6 : Int32) (v7 : Int32), am_V Z X kX11_findLightest (fun r : Int32 × am_I => (some (.int r.1), R, r.2, L)) 166 [(0, .ref (am_B Z + a0)), (1, .int v6), (2, .int v7)] [] R J4 L (ih8 v6 v7)) (v6 : Int32) (v7 : Int32) : am_V Z X kX11_findLightest (fun r : Int32 × am_I => (some (.int r.1), R, r.2, L)) 166 [(0, .ref (am_B Z + a0)), (1, .int v6), (2, .int v7)] [] R J4 L (sX11_findLightest_166 R a0 J4 ih8 v6 v7) := by
  unfold sX11_findLightest_166
  refine am_iload_n dX11_findLightest_166 rfl 2 rfl ?_
  refine am_aload_n dX11_findLightest_167 rfl 0 rfl ?_
  refine am_get 11 3 clX11 (Nat.le_of_ble_eq_true rfl) h5 iX11_findLightest_11 fX11_findLightest_19 rfl dX11_findLightest_168 ?_
  refine am_icmp_ge (tgt := 213) dX11_findLightest_171 rfl (fun e9 => ?_) (fun e9 => ?_)
  · refine am_iload_n dX11_findLightest_213 rfl 1 rfl ?_
    exact am_iret dX11_findLightest_214 rfl rfl
  · refine am_aload_n dX11_findLightest_174 rfl 0 rfl ?_
    refine am_get 11 4 clX11 (Nat.le_of_ble_eq_true rfl) h5 iX11_findLightest_11 fX11_findLightest_112 rfl dX11_findLightest_175 ?_
    refine am_i2l dX11_findLightest_178 ?_
    refine am_iload_n dX11_findLightest_179 rfl 2 rfl ?_
    refine am_callS [.long (Int32.toInt64 (J4 a0 4)), .int v7] (tX11_has R J4 L (Int32.toInt64 (J4 a0 4)) v7) gX11_findLightest_X11_has hX11_has ⟨Nat.le_of_ble_eq_true rfl, Nat.le_of_ble_eq_true rfl⟩ rfl rfl (Nat.le_of_ble_eq_true rfl) dX11_findLightest_180 (fun r10 => ?_)
    show am_V Z X kX11_findLightest (fun r : Int32 × am_I => (some (.int r.1), R, r.2, L)) 183 [(0, .ref (am_B Z + a0)), (1, .int v6), (2, .int v7)] [.int r10] R J4 L _
    refine am_jnV (fun j11 ej11 => ?_)
    have hj11 : ∀ (v12 : Int32), am_V Z X kX11_findLightest (fun r : Int32 × am_I => (some (.int r.1), R, r.2, L)) 206 [(0, .ref (am_B Z + a0)), (2, .int v7)] [.int v12] R J4 L (j11 v12) := by
      subst ej11
      intro v12
      show am_V Z X kX11_findLightest (fun r : Int32 × am_I => (some (.int r.1), R, r.2, L)) 206 [(0, .ref (am_B Z + a0)), (2, .int v7)] [.int v12] R J4 L _
      refine am_istore_n (ls' := [(1, .int v12), (0, .ref (am_B Z + a0)), (2, .int v7)]) dX11_findLightest_206 rfl (Nat.le_of_ble_eq_true rfl) rfl ?_
      refine am_iinc (j := 2) (ls' := [(2, .int (v7 + (1 : Int32))), (1, .int v12), (0, .ref (am_B Z + a0))]) dX11_findLightest_207 rfl rfl (Nat.le_of_ble_eq_true rfl) rfl ?_
      refine am_goto (tgt := 166) dX11_findLightest_210 rfl ?_
      refine am_sub (ls' := [(0, .ref (am_B Z + a0)), (1, .int v12), (2, .int (v7 + (1 : Int32)))]) [2, 1, 0] rfl ?_
      exact hih8 v12 (v7 + (1 : Int32))
    refine am_jnV (fun j13 ej13 => ?_)
    have hj13 : am_V Z X kX11_findLightest (fun r : Int32 × am_I => (some (.int r.1), R, r.2, L)) 205 [(0, .ref (am_B Z + a0)), (1, .int v6), (2, .int v7)] [] R J4 L j13 := by
      subst ej13
      show am_V Z X kX11_findLightest (fun r : Int32 × am_I => (some (.int r.1), R, r.2, L)) 205 [(0, .ref (am_B Z + a0)), (1, .int v6), (2, .int v7)] [] R J4 L _
      refine am_iload_n dX11_findLightest_205 rfl 1 rfl ?_
      refine am_sub (ls' := [(0, .ref (am_B Z + a0)), (2, .int v7)]) [0, 2] rfl ?_
      exact hj11 v6
    refine am_if_eq (tgt := 205) dX11_findLightest_183 rfl (fun e14 => ?_) (fun e14 => ?_)
    · exact hj13
    · refine am_aload_n dX11_findLightest_186 rfl 0 rfl ?_
      refine am_getR 11 33 clX11 (Nat.le_of_ble_eq_true rfl) h5 iX11_findLightest_11 fX11_findLightest_73 rfl rfl dX11_findLightest_187 (fun h15 => ?_)
      refine am_iload_n dX11_findLightest_190 rfl 2 rfl ?_
      refine am_iald h15 dX11_findLightest_191 ?_
      refine am_iload_n dX11_findLightest_192 rfl 1 rfl ?_
      refine am_icmp_ge (tgt := 205) dX11_findLightest_193 rfl (fun e16 => ?_) (fun e16 => ?_)
      · exact hj13
      · refine am_aload_n dX11_findLightest_196 rfl 0 rfl ?_
        refine am_getR 11 33 clX11 (Nat.le_of_ble_eq_true rfl) h5 iX11_findLightest_11 fX11_findLightest_73 rfl rfl dX11_findLightest_197 (fun h17 => ?_)
        refine am_iload_n dX11_findLightest_200 rfl 2 rfl ?_
        refine am_iald h17 dX11_findLightest_201 ?_
        refine am_goto (tgt := 206) dX11_findLightest_202 rfl ?_
        refine am_sub (ls' := [(0, .ref (am_B Z + a0)), (2, .int v7)]) [0, 2] rfl ?_
        exact hj11 (J4 (R a0 33) (Int32.toNatClampNeg v7))
theorem uX11_findLightest_166 {Z : am_Z} {X : am_X} (R : am_R) (L : am_L) (a0 : Nat) (J4 : am_I) (h5 : am_G Z a0 = some (.inl 11)) : ∀ (n : Nat) (v6 : Int32) (v7 : Int32), am_V Z X kX11_findLightest (fun r : Int32 × am_I => (some (.int r.1), R, r.2, L)) 166 [(0, .ref (am_B Z + a0)), (1, .int v6), (2, .int v7)] [] R J4 L (lX11_findLightest_166 R a0 J4 n v6 v7) := by
  intro n
  induction n with
  | zero => intro _ _; exact am_none
  | succ n ih => exact fun v6 v7 => vX11_findLightest_166 R L a0 J4 h5 (lX11_findLightest_166 R a0 J4 n) ih v6 v7
set_option maxRecDepth 100000 in
set_option maxHeartbeats 4000000 in
theorem vX11_findLightest_67 {Z : am_Z} {X : am_X} (R : am_R) (L : am_L) (a0 : Nat) (v19 : Int32) (v26 : Int32) (v33 : Int32) (h39 : am_G Z a0 = some (.inl 11)) (j37 : am_I → Option (Int32 × am_I)) (hj37 : ∀ (J38 : am_I), am_V Z X kX11_findLightest (fun r : Int32 × am_I => (some (.int r.1), R, r.2, L)) 142 [(0, .ref (am_B Z + a0)), (1, .int v19), (2, .int v26), (3, .int v33)] [] R J38 L (j37 J38)) (ih42 : Int32 → am_I → Option (Int32 × am_I)) (hih42 : ∀ (v40 : Int32) (J41 : am_I), am_V Z X kX11_findLightest (fun r : Int32 × am_I => (some (.int r.1), R, r.2, L)) 67 [(0, .ref (am_B Z + a0)), (1, .int v19), (2, .int v26), (3, .int v33), (4, .int v40)] [] R J41 L (ih42 v40 J41)) (v40 : Int32) (J41 : am_I) : am_V Z X kX11_findLightest (fun r : Int32 × am_I => (some (.int r.1), R, r.2, L)) 67 [(0, .ref (am_B Z + a0)), (1, .int v19), (2, .int v26), (3, .int v33), (4, .int v40)] [] R J41 L (sX11_findLightest_67 R a0 v19 v26 v33 j37 ih42 v40 J41) := by
  unfold sX11_findLightest_67
  refine am_iload dX11_findLightest_67 4 rfl ?_
  refine am_aload_n dX11_findLightest_69 rfl 0 rfl ?_
  refine am_get 11 3 clX11 (Nat.le_of_ble_eq_true rfl) h39 iX11_findLightest_11 fX11_findLightest_19 rfl dX11_findLightest_70 ?_
  refine am_icmp_ge (tgt := 142) dX11_findLightest_73 rfl (fun e43 => ?_) (fun e43 => ?_)
  · refine am_sub (ls' := [(0, .ref (am_B Z + a0)), (1, .int v19), (2, .int v26), (3, .int v33)]) [0, 1, 2, 3] rfl ?_
    exact hj37 J41
  · refine am_aload_n dX11_findLightest_76 rfl 0 rfl ?_
    refine am_getR 11 33 clX11 (Nat.le_of_ble_eq_true rfl) h39 iX11_findLightest_11 fX11_findLightest_73 rfl rfl dX11_findLightest_77 (fun h44 => ?_)
    refine am_iload dX11_findLightest_80 4 rfl ?_
    refine am_iald h44 dX11_findLightest_82 ?_
    refine am_bipush (v := 16) dX11_findLightest_83 (by decide) ?_
    refine am_aload_n dX11_findLightest_85 rfl 0 rfl ?_
    refine am_getR 11 2 clX11 (Nat.le_of_ble_eq_true rfl) h39 iX11_findLightest_11 fX11_findLightest_16 rfl rfl dX11_findLightest_86 (fun h45 => ?_)
    refine am_iload_n dX11_findLightest_89 rfl 3 rfl ?_
    refine am_iald h45 dX11_findLightest_90 ?_
    refine am_imul dX11_findLightest_91 ?_
    refine am_iadd dX11_findLightest_92 ?_
    refine am_iconst (v := 1) dX11_findLightest_93 (by decide) ?_
    refine am_iadd dX11_findLightest_94 ?_
    refine am_letTi (fun v46 => ?_)
    refine am_istore (ls' := [(5, .int v46), (0, .ref (am_B Z + a0)), (1, .int v19), (2, .int v26), (3, .int v33), (4, .int v40)]) dX11_findLightest_95 (Nat.le_of_ble_eq_true rfl) rfl ?_
    refine am_aload_n dX11_findLightest_97 rfl 1 rfl ?_
    refine am_getR 11 0 clX11 (Nat.le_of_ble_eq_true rfl) h39 iX11_findLightest_11 fX11_findLightest_7 rfl rfl dX11_findLightest_98 (fun h47 => ?_)
    refine am_bipush (v := 6) dX11_findLightest_101 (by decide) ?_
    refine am_iload_n dX11_findLightest_103 rfl 4 rfl ?_
    refine am_imul dX11_findLightest_104 ?_
    refine am_iload_n dX11_findLightest_105 rfl 3 rfl ?_
    refine am_iadd dX11_findLightest_106 ?_
    refine am_iald h47 dX11_findLightest_107 ?_
    refine am_i2l dX11_findLightest_108 ?_
    refine am_iload dX11_findLightest_109 5 rfl ?_
    refine am_callS [.long (Int32.toInt64 (J41 (R a0 0) (Int32.toNatClampNeg (((6 : Int32) * v33) + v26)))), .int v40] (tX11_has R J41 L (Int32.toInt64 (J41 (R a0 0) (Int32.toNatClampNeg (((6 : Int32) * v33) + v26)))) v40) gX11_findLightest_X11_has hX11_has ⟨Nat.le_of_ble_eq_true rfl, Nat.le_of_ble_eq_true rfl⟩ rfl rfl (Nat.le_of_ble_eq_true rfl) dX11_findLightest_111 (fun r48 => ?_)
    show am_V Z X kX11_findLightest (fun r : Int32 × am_I => (some (.int r.1), R, r.2, L)) 114 [(5, .int v46), (0, .ref (am_B Z + a0)), (1, .int v19), (2, .int v26), (3, .int v33), (4, .int v40)] [.int r48] R J41 L _
    refine am_jnV (fun j49 ej49 => ?_)
    have hj49 : ∀ (J50 : am_I), am_V Z X kX11_findLightest (fun r : Int32 × am_I => (some (.int r.1), R, r.2, L)) 136 [(0, .ref (am_B Z + a0)), (1, .int v19), (2, .int v26), (3, .int v33), (4, .int v40)] [] R J50 L (j49 J50) := by
      subst ej49
      intro J50
      show am_V Z X kX11_findLightest (fun r : Int32 × am_I => (some (.int r.1), R, r.2, L)) 136 [(0, .ref (am_B Z + a0)), (1, .int v19), (2, .int v26), (3, .int v33), (4, .int v40)] [] R J50 L _
      refine am_iinc (j := 4) (ls' := [(4, .int (v40 + (1 : Int32))), (0, .ref (am_B Z + a0)), (1, .int v19), (2, .int v26), (3, .int v33)]) dX11_findLightest_136 rfl rfl (Nat.le_of_ble_eq_true rfl) rfl ?_
      refine am_goto (tgt := 67) dX11_findLightest_139 rfl ?_
      refine am_sub (ls' := [(0, .ref (am_B Z + a0)), (1, .int v19), (2, .int v26), (3, .int v33), (4, .int (v40 + (1 : Int32)))]) [1, 2, 3, 4, 0] rfl ?_
      exact hih42 (v40 + (1 : Int32)) J50
    refine am_if_eq (tgt := 136) dX11_findLightest_114 rfl (fun e51 => ?_) (fun e51 => ?_)
    · refine am_sub (ls' := [(0, .ref (am_B Z + a0)), (1, .int v19), (2, .int v26), (3, .int v33), (4, .int v40)]) [1, 2, 3, 4, 5] rfl ?_
      exact hj49 J41
    · refine am_iload dX11_findLightest_117 0 rfl ?_
      refine am_aload_n dX11_findLightest_119 rfl 1 rfl ?_
      refine am_getR 11 33 clX11 (Nat.le_of_ble_eq_true rfl) h39 iX11_findLightest_11 fX11_findLightest_73 rfl rfl dX11_findLightest_120 (fun h52 => ?_)
      refine am_iload_n dX11_findLightest_123 rfl 3 rfl ?_
      refine am_iald h52 dX11_findLightest_124 ?_
      refine am_icmp_ge (tgt := 136) dX11_findLightest_125 rfl (fun e53 => ?_) (fun e53 => ?_)
      · refine am_sub (ls' := [(0, .ref (am_B Z + a0)), (1, .int v19), (2, .int v26), (3, .int v33), (4, .int v40)]) [1, 2, 3, 4, 5] rfl ?_
        exact hj49 J41
      · refine am_aload_n dX11_findLightest_128 rfl 1 rfl ?_
        refine am_getR 11 33 clX11 (Nat.le_of_ble_eq_true rfl) h39 iX11_findLightest_11 fX11_findLightest_73 rfl rfl dX11_findLightest_129 (fun h54 => ?_)
        refine am_iload_n dX11_findLightest_132 rfl 3 rfl ?_
        refine am_iload dX11_findLightest_133 0 rfl ?_
        refine am_iast h54 dX11_findLightest_135 ?_
        refine am_letI (fun J55 => ?_)
        refine am_sub (ls' := [(0, .ref (am_B Z + a0)), (1, .int v19), (2, .int v26), (3, .int v33), (4, .int v40)]) [1, 2, 3, 4, 5] rfl ?_
        exact hj49 J55
theorem uX11_findLightest_67 {Z : am_Z} {X : am_X} (R : am_R) (L : am_L) (a0 : Nat) (v19 : Int32) (v26 : Int32) (v33 : Int32) (h39 : am_G Z a0 = some (.inl 11)) (j37 : am_I → Option (Int32 × am_I)) (hj37 : ∀ (J38 : am_I), am_V Z X kX11_findLightest (fun r : Int32 × am_I => (some (.int r.1), R, r.2, L)) 142 [(0, .ref (am_B Z + a0)), (1, .int v19), (2, .int v26), (3, .int v33)] [] R J38 L (j37 J38)) : ∀ (n : Nat) (v40 : Int32) (J41 : am_I), am_V Z X kX11_findLightest (fun r : Int32 × am_I => (some (.int r.1), R, r.2, L)) 67 [(0, .ref (am_B Z + a0)), (1, .int v19), (2, .int v26), (3, .int v33), (4, .int v40)] [] R J41 L (lX11_findLightest_67 R a0 v19 v26 v33 j37 n v40 J41) := by
  intro n
  induction n with
  | zero => intro _ _; exact am_none
  | succ n ih => exact fun v40 J41 => vX11_findLightest_67 R L a0 v19 v26 v33 h39 j37 hj37 (lX11_findLightest_67 R a0 v19 v26 v33 j37 n) ih v40 J41
set_option maxRecDepth 100000 in
set_option maxHeartbeats 4000000 in
theorem vX11_findLightest_59 {Z : am_Z} {X : am_X} (R : am_R) (L : am_L) (a0 : Nat) (v19 : Int32) (v26 : Int32) (h32 : am_G Z a0 = some (.inl 11)) (j30 : am_I → Option (Int32 × am_I)) (hj30 : ∀ (J31 : am_I), am_V Z X kX11_findLightest (fun r : Int32 × am_I => (some (.int r.1), R, r.2, L)) 148 [(0, .ref (am_B Z + a0)), (1, .int v19), (2, .int v26)] [] R J31 L (j30 J31)) (ih35 : Int32 → am_I → Option (Int32 × am_I)) (hih35 : ∀ (v33 : Int32) (J34 : am_I), am_V Z X kX11_findLightest (fun r : Int32 × am_I => (some (.int r.1), R, r.2, L)) 59 [(0, .ref (am_B Z + a0)), (1, .int v19), (2, .int v26), (3, .int v33)] [] R J34 L (ih35 v33 J34)) (v33 : Int32) (J34 : am_I) : am_V Z X kX11_findLightest (fun r : Int32 × am_I => (some (.int r.1), R, r.2, L)) 59 [(0, .ref (am_B Z + a0)), (1, .int v19), (2, .int v26), (3, .int v33)] [] R J34 L (sX11_findLightest_59 R a0 v19 v26 j30 ih35 v33 J34) := by
  unfold sX11_findLightest_59
  refine am_iload_n dX11_findLightest_59 rfl 3 rfl ?_
  refine am_iconst (v := 3) dX11_findLightest_60 (by decide) ?_
  refine am_icmp_ge (tgt := 148) dX11_findLightest_61 rfl (fun e36 => ?_) (fun e36 => ?_)
  · refine am_sub (ls' := [(0, .ref (am_B Z + a0)), (1, .int v19), (2, .int v26)]) [0, 1, 2] rfl ?_
    exact hj30 J34
  · refine am_iconst (v := 0) dX11_findLightest_64 (by decide) ?_
    refine am_istore (ls' := [(4, .int (0 : Int32)), (0, .ref (am_B Z + a0)), (1, .int v19), (2, .int v26), (3, .int v33)]) dX11_findLightest_65 (Nat.le_of_ble_eq_true rfl) rfl ?_
    refine am_jnV (fun j37 ej37 => ?_)
    have hj37 : ∀ (J38 : am_I), am_V Z X kX11_findLightest (fun r : Int32 × am_I => (some (.int r.1), R, r.2, L)) 142 [(0, .ref (am_B Z + a0)), (1, .int v19), (2, .int v26), (3, .int v33)] [] R J38 L (j37 J38) := by
      subst ej37
      intro J38
      show am_V Z X kX11_findLightest (fun r : Int32 × am_I => (some (.int r.1), R, r.2, L)) 142 [(0, .ref (am_B Z + a0)), (1, .int v19), (2, .int v26), (3, .int v33)] [] R J38 L _
      refine am_iinc (j := 3) (ls' := [(3, .int (v33 + (1 : Int32))), (0, .ref (am_B Z + a0)), (1, .int v19), (2, .int v26)]) dX11_findLightest_142 rfl rfl (Nat.le_of_ble_eq_true rfl) rfl ?_
      refine am_goto (tgt := 59) dX11_findLightest_145 rfl ?_
      refine am_sub (ls' := [(0, .ref (am_B Z + a0)), (1, .int v19), (2, .int v26), (3, .int (v33 + (1 : Int32)))]) [1, 2, 3, 0] rfl ?_
      exact hih35 (v33 + (1 : Int32)) J38
    refine am_sub (ls' := [(0, .ref (am_B Z + a0)), (1, .int v19), (2, .int v26), (3, .int v33), (4, .int (0 : Int32))]) [1, 2, 3, 4, 0] rfl ?_
    exact uX11_findLightest_67 R L a0 v19 v26 v33 h32 j37 hj37 am_fu (0 : Int32) J34
theorem uX11_findLightest_59 {Z : am_Z} {X : am_X} (R : am_R) (L : am_L) (a0 : Nat) (v19 : Int32) (v26 : Int32) (h32 : am_G Z a0 = some (.inl 11)) (j30 : am_I → Option (Int32 × am_I)) (hj30 : ∀ (J31 : am_I), am_V Z X kX11_findLightest (fun r : Int32 × am_I => (some (.int r.1), R, r.2, L)) 148 [(0, .ref (am_B Z + a0)), (1, .int v19), (2, .int v26)] [] R J31 L (j30 J31)) : ∀ (n : Nat) (v33 : Int32) (J34 : am_I), am_V Z X kX11_findLightest (fun r : Int32 × am_I => (some (.int r.1), R, r.2, L)) 59 [(0, .ref (am_B Z + a0)), (1, .int v19), (2, .int v26), (3, .int v33)] [] R J34 L (lX11_findLightest_59 R a0 v19 v26 j30 n v33 J34) := by
  intro n
  induction n with
  | zero => intro _ _; exact am_none
  | succ n ih => exact fun v33 J34 => vX11_findLightest_59 R L a0 v19 v26 h32 j30 hj30 (lX11_findLightest_59 R a0 v19 v26 j30 n) ih v33 J34
set_option maxRecDepth 100000 in
set_option maxHeartbeats 4000000 in
theorem vX11_findLightest_49 {Z : am_Z} {X : am_X} (R : am_R) (L : am_L) (a0 : Nat) (v19 : Int32) (h25 : am_G Z a0 = some (.inl 11)) (j23 : am_I → Option (Int32 × am_I)) (hj23 : ∀ (J24 : am_I), am_V Z X kX11_findLightest (fun r : Int32 × am_I => (some (.int r.1), R, r.2, L)) 154 [(0, .ref (am_B Z + a0)), (1, .int v19)] [] R J24 L (j23 J24)) (ih28 : Int32 → am_I → Option (Int32 × am_I)) (hih28 : ∀ (v26 : Int32) (J27 : am_I), am_V Z X kX11_findLightest (fun r : Int32 × am_I => (some (.int r.1), R, r.2, L)) 49 [(0, .ref (am_B Z + a0)), (1, .int v19), (2, .int v26)] [] R J27 L (ih28 v26 J27)) (v26 : Int32) (J27 : am_I) : am_V Z X kX11_findLightest (fun r : Int32 × am_I => (some (.int r.1), R, r.2, L)) 49 [(0, .ref (am_B Z + a0)), (1, .int v19), (2, .int v26)] [] R J27 L (sX11_findLightest_49 R a0 v19 j23 ih28 v26 J27) := by
  unfold sX11_findLightest_49
  refine am_iload_n dX11_findLightest_49 rfl 2 rfl ?_
  refine am_aload_n dX11_findLightest_50 rfl 0 rfl ?_
  refine am_get 11 3 clX11 (Nat.le_of_ble_eq_true rfl) h25 iX11_findLightest_11 fX11_findLightest_19 rfl dX11_findLightest_51 ?_
  refine am_icmp_ge (tgt := 154) dX11_findLightest_54 rfl (fun e29 => ?_) (fun e29 => ?_)
  · refine am_sub (ls' := [(0, .ref (am_B Z + a0)), (1, .int v19)]) [0, 1] rfl ?_
    exact hj23 J27
  · refine am_iconst (v := 0) dX11_findLightest_57 (by decide) ?_
    refine am_istore_n (ls' := [(3, .int (0 : Int32)), (0, .ref (am_B Z + a0)), (1, .int v19), (2, .int v26)]) dX11_findLightest_58 rfl (Nat.le_of_ble_eq_true rfl) rfl ?_
    refine am_jnV (fun j30 ej30 => ?_)
    have hj30 : ∀ (J31 : am_I), am_V Z X kX11_findLightest (fun r : Int32 × am_I => (some (.int r.1), R, r.2, L)) 148 [(0, .ref (am_B Z + a0)), (1, .int v19), (2, .int v26)] [] R J31 L (j30 J31) := by
      subst ej30
      intro J31
      show am_V Z X kX11_findLightest (fun r : Int32 × am_I => (some (.int r.1), R, r.2, L)) 148 [(0, .ref (am_B Z + a0)), (1, .int v19), (2, .int v26)] [] R J31 L _
      refine am_iinc (j := 2) (ls' := [(2, .int (v26 + (1 : Int32))), (0, .ref (am_B Z + a0)), (1, .int v19)]) dX11_findLightest_148 rfl rfl (Nat.le_of_ble_eq_true rfl) rfl ?_
      refine am_goto (tgt := 49) dX11_findLightest_151 rfl ?_
      refine am_sub (ls' := [(0, .ref (am_B Z + a0)), (1, .int v19), (2, .int (v26 + (1 : Int32)))]) [1, 2, 0] rfl ?_
      exact hih28 (v26 + (1 : Int32)) J31
    refine am_sub (ls' := [(0, .ref (am_B Z + a0)), (1, .int v19), (2, .int v26), (3, .int (0 : Int32))]) [1, 2, 3, 0] rfl ?_
    exact uX11_findLightest_59 R L a0 v19 v26 h25 j30 hj30 am_fu (0 : Int32) J27
theorem uX11_findLightest_49 {Z : am_Z} {X : am_X} (R : am_R) (L : am_L) (a0 : Nat) (v19 : Int32) (h25 : am_G Z a0 = some (.inl 11)) (j23 : am_I → Option (Int32 × am_I)) (hj23 : ∀ (J24 : am_I), am_V Z X kX11_findLightest (fun r : Int32 × am_I => (some (.int r.1), R, r.2, L)) 154 [(0, .ref (am_B Z + a0)), (1, .int v19)] [] R J24 L (j23 J24)) : ∀ (n : Nat) (v26 : Int32) (J27 : am_I), am_V Z X kX11_findLightest (fun r : Int32 × am_I => (some (.int r.1), R, r.2, L)) 49 [(0, .ref (am_B Z + a0)), (1, .int v19), (2, .int v26)] [] R J27 L (lX11_findLightest_49 R a0 v19 j23 n v26 J27) := by
  intro n
  induction n with
  | zero => intro _ _; exact am_none
  | succ n ih => exact fun v26 J27 => vX11_findLightest_49 R L a0 v19 h25 j23 hj23 (lX11_findLightest_49 R a0 v19 j23 n) ih v26 J27
set_option maxRecDepth 100000 in
set_option maxHeartbeats 4000000 in
theorem vX11_findLightest_41 {Z : am_Z} {X : am_X} (R : am_R) (L : am_L) (a0 : Nat) (h18 : am_G Z a0 = some (.inl 11)) (j3 : am_I → Option (Int32 × am_I)) (hj3 : ∀ (J4 : am_I), am_V Z X kX11_findLightest (fun r : Int32 × am_I => (some (.int r.1), R, r.2, L)) 160 [(0, .ref (am_B Z + a0))] [] R J4 L (j3 J4)) (ih21 : Int32 → am_I → Option (Int32 × am_I)) (hih21 : ∀ (v19 : Int32) (J20 : am_I), am_V Z X kX11_findLightest (fun r : Int32 × am_I => (some (.int r.1), R, r.2, L)) 41 [(0, .ref (am_B Z + a0)), (1, .int v19)] [] R J20 L (ih21 v19 J20)) (v19 : Int32) (J20 : am_I) : am_V Z X kX11_findLightest (fun r : Int32 × am_I => (some (.int r.1), R, r.2, L)) 41 [(0, .ref (am_B Z + a0)), (1, .int v19)] [] R J20 L (sX11_findLightest_41 R a0 j3 ih21 v19 J20) := by
  unfold sX11_findLightest_41
  refine am_iload_n dX11_findLightest_41 rfl 1 rfl ?_
  refine am_bipush (v := 12) dX11_findLightest_42 (by decide) ?_
  refine am_icmp_ge (tgt := 160) dX11_findLightest_44 rfl (fun e22 => ?_) (fun e22 => ?_)
  · refine am_sub (ls' := [(0, .ref (am_B Z + a0))]) [0] rfl ?_
    exact hj3 J20
  · refine am_iconst (v := 0) dX11_findLightest_47 (by decide) ?_
    refine am_istore_n (ls' := [(2, .int (0 : Int32)), (0, .ref (am_B Z + a0)), (1, .int v19)]) dX11_findLightest_48 rfl (Nat.le_of_ble_eq_true rfl) rfl ?_
    refine am_jnV (fun j23 ej23 => ?_)
    have hj23 : ∀ (J24 : am_I), am_V Z X kX11_findLightest (fun r : Int32 × am_I => (some (.int r.1), R, r.2, L)) 154 [(0, .ref (am_B Z + a0)), (1, .int v19)] [] R J24 L (j23 J24) := by
      subst ej23
      intro J24
      show am_V Z X kX11_findLightest (fun r : Int32 × am_I => (some (.int r.1), R, r.2, L)) 154 [(0, .ref (am_B Z + a0)), (1, .int v19)] [] R J24 L _
      refine am_iinc (j := 1) (ls' := [(1, .int (v19 + (1 : Int32))), (0, .ref (am_B Z + a0))]) dX11_findLightest_154 rfl rfl (Nat.le_of_ble_eq_true rfl) rfl ?_
      refine am_goto (tgt := 41) dX11_findLightest_157 rfl ?_
      refine am_sub (ls' := [(0, .ref (am_B Z + a0)), (1, .int (v19 + (1 : Int32)))]) [1, 0] rfl ?_
      exact hih21 (v19 + (1 : Int32)) J24
    refine am_sub (ls' := [(0, .ref (am_B Z + a0)), (1, .int v19), (2, .int (0 : Int32))]) [1, 2, 0] rfl ?_
    exact uX11_findLightest_49 R L a0 v19 h18 j23 hj23 am_fu (0 : Int32) J20
theorem uX11_findLightest_41 {Z : am_Z} {X : am_X} (R : am_R) (L : am_L) (a0 : Nat) (h18 : am_G Z a0 = some (.inl 11)) (j3 : am_I → Option (Int32 × am_I)) (hj3 : ∀ (J4 : am_I), am_V Z X kX11_findLightest (fun r : Int32 × am_I => (some (.int r.1), R, r.2, L)) 160 [(0, .ref (am_B Z + a0))] [] R J4 L (j3 J4)) : ∀ (n : Nat) (v19 : Int32) (J20 : am_I), am_V Z X kX11_findLightest (fun r : Int32 × am_I => (some (.int r.1), R, r.2, L)) 41 [(0, .ref (am_B Z + a0)), (1, .int v19)] [] R J20 L (lX11_findLightest_41 R a0 j3 n v19 J20) := by
  intro n
  induction n with
  | zero => intro _ _; exact am_none
  | succ n ih => exact fun v19 J20 => vX11_findLightest_41 R L a0 h18 j3 hj3 (lX11_findLightest_41 R a0 j3 n) ih v19 J20
set_option maxRecDepth 100000 in
set_option maxHeartbeats 4000000 in
theorem vX11_findLightest_2 {Z : am_Z} {X : am_X} (R : am_R) (L : am_L) (a0 : Nat) (h56 : am_G Z a0 = some (.inl 11)) (j1 : am_I → Option (Int32 × am_I)) (hj1 : ∀ (J2 : am_I), am_V Z X kX11_findLightest (fun r : Int32 × am_I => (some (.int r.1), R, r.2, L)) 39 [(0, .ref (am_B Z + a0))] [] R J2 L (j1 J2)) (ih59 : Int32 → am_I → Option (Int32 × am_I)) (hih59 : ∀ (v57 : Int32) (J58 : am_I), am_V Z X kX11_findLightest (fun r : Int32 × am_I => (some (.int r.1), R, r.2, L)) 2 [(0, .ref (am_B Z + a0)), (1, .int v57)] [] R J58 L (ih59 v57 J58)) (v57 : Int32) (J58 : am_I) : am_V Z X kX11_findLightest (fun r : Int32 × am_I => (some (.int r.1), R, r.2, L)) 2 [(0, .ref (am_B Z + a0)), (1, .int v57)] [] R J58 L (sX11_findLightest_2 R a0 j1 ih59 v57 J58) := by
  unfold sX11_findLightest_2
  refine am_iload_n dX11_findLightest_2 rfl 1 rfl ?_
  refine am_bipush (v := 6) dX11_findLightest_3 (by decide) ?_
  refine am_icmp_ge (tgt := 39) dX11_findLightest_5 rfl (fun e60 => ?_) (fun e60 => ?_)
  · refine am_sub (ls' := [(0, .ref (am_B Z + a0))]) [0] rfl ?_
    exact hj1 J58
  · refine am_aload_n dX11_findLightest_8 rfl 0 rfl ?_
    refine am_getR 11 33 clX11 (Nat.le_of_ble_eq_true rfl) h56 iX11_findLightest_11 fX11_findLightest_73 rfl rfl dX11_findLightest_9 (fun h61 => ?_)
    refine am_iload_n dX11_findLightest_12 rfl 1 rfl ?_
    refine am_aload_n dX11_findLightest_13 rfl 0 rfl ?_
    refine am_get 11 5 clX11 (Nat.le_of_ble_eq_true rfl) h56 iX11_findLightest_11 fX11_findLightest_115 rfl dX11_findLightest_14 ?_
    refine am_i2l dX11_findLightest_17 ?_
    refine am_iload_n dX11_findLightest_18 rfl 1 rfl ?_
    refine am_callS [.long (Int32.toInt64 (J58 a0 5)), .int v57] (tX11_has R J58 L (Int32.toInt64 (J58 a0 5)) v57) gX11_findLightest_X11_has hX11_has ⟨Nat.le_of_ble_eq_true rfl, Nat.le_of_ble_eq_true rfl⟩ rfl rfl (Nat.le_of_ble_eq_true rfl) dX11_findLightest_19 (fun r62 => ?_)
    show am_V Z X kX11_findLightest (fun r : Int32 × am_I => (some (.int r.1), R, r.2, L)) 22 [(0, .ref (am_B Z + a0)), (1, .int v57)] [.int r62, .int v57, .ref (am_B Z + (R a0 33))] R J58 L _
    refine am_letJ (fun k64 ek64 => ?_)
    have hk64 : ∀ v63 : Int32, am_V Z X kX11_findLightest (fun r : Int32 × am_I => (some (.int r.1), R, r.2, L)) 32 [(0, .ref (am_B Z + a0)), (1, .int v57)] [.int v63, .int v57, .ref (am_B Z + (R a0 33))] R J58 L (k64 v63) := by
      subst ek64
      intro v63
      show am_V Z X kX11_findLightest (fun r : Int32 × am_I => (some (.int r.1), R, r.2, L)) 32 [(0, .ref (am_B Z + a0)), (1, .int v57)] [.int v63, .int v57, .ref (am_B Z + (R a0 33))] R J58 L _
      refine am_iast h61 dX11_findLightest_32 ?_
      refine am_letI (fun J65 => ?_)
      refine am_iinc (j := 1) (ls' := [(1, .int (v57 + (1 : Int32))), (0, .ref (am_B Z + a0))]) dX11_findLightest_33 rfl rfl (Nat.le_of_ble_eq_true rfl) rfl ?_
      refine am_goto (tgt := 2) dX11_findLightest_36 rfl ?_
      refine am_sub (ls' := [(0, .ref (am_B Z + a0)), (1, .int (v57 + (1 : Int32)))]) [1, 0] rfl ?_
      exact hih59 (v57 + (1 : Int32)) J65
    refine am_if_eqL (tgt := 29) dX11_findLightest_22 rfl (fun e66 => ?_) (fun e66 => ?_)
    · refine am_ldcw (v := 1000000) dX11_findLightest_29 (by decide +kernel) ?_
      exact hk64 _
    · refine am_iconst (v := 0) dX11_findLightest_25 (by decide) ?_
      refine am_goto (tgt := 32) dX11_findLightest_26 rfl ?_
      exact hk64 _
theorem uX11_findLightest_2 {Z : am_Z} {X : am_X} (R : am_R) (L : am_L) (a0 : Nat) (h56 : am_G Z a0 = some (.inl 11)) (j1 : am_I → Option (Int32 × am_I)) (hj1 : ∀ (J2 : am_I), am_V Z X kX11_findLightest (fun r : Int32 × am_I => (some (.int r.1), R, r.2, L)) 39 [(0, .ref (am_B Z + a0))] [] R J2 L (j1 J2)) : ∀ (n : Nat) (v57 : Int32) (J58 : am_I), am_V Z X kX11_findLightest (fun r : Int32 × am_I => (some (.int r.1), R, r.2, L)) 2 [(0, .ref (am_B Z + a0)), (1, .int v57)] [] R J58 L (lX11_findLightest_2 R a0 j1 n v57 J58) := by
  intro n
  induction n with
  | zero => intro _ _; exact am_none
  | succ n ih => exact fun v57 J58 => vX11_findLightest_2 R L a0 h56 j1 hj1 (lX11_findLightest_2 R a0 j1 n) ih v57 J58
set_option maxRecDepth 100000 in
set_option maxHeartbeats 4000000 in
theorem tX11_findLightest {Z : am_Z} (R : am_R) (I : am_I) (L : am_L) (a0 : Nat) (h_a0 : am_G Z a0 = some (.inl 11)) : am_M Z yX11_findLightest kX11_findLightest [.ref (am_B Z + a0)] R I L (pX11_findLightest R I a0) (fun r : Int32 × am_I => (some (.int r.1), R, r.2, L)) := by
  refine am_entry (ls := [(0, .ref (am_B Z + a0))]) (by decide) hX11_findLightest rfl (Nat.le_of_ble_eq_true rfl) rfl (fun X => ?_)
  unfold pX11_findLightest
  refine am_iconst (v := 0) dX11_findLightest_0 (by decide) ?_
  refine am_istore_n (ls' := [(1, .int (0 : Int32)), (0, .ref (am_B Z + a0))]) dX11_findLightest_1 rfl (Nat.le_of_ble_eq_true rfl) rfl ?_
  refine am_jnV (fun j1 ej1 => ?_)
  have hj1 : ∀ (J2 : am_I), am_V Z X kX11_findLightest (fun r : Int32 × am_I => (some (.int r.1), R, r.2, L)) 39 [(0, .ref (am_B Z + a0))] [] R J2 L (j1 J2) := by
    subst ej1
    intro J2
    show am_V Z X kX11_findLightest (fun r : Int32 × am_I => (some (.int r.1), R, r.2, L)) 39 [(0, .ref (am_B Z + a0))] [] R J2 L _
    refine am_iconst (v := 0) dX11_findLightest_39 (by decide) ?_
    refine am_istore_n (ls' := [(1, .int (0 : Int32)), (0, .ref (am_B Z + a0))]) dX11_findLightest_40 rfl (Nat.le_of_ble_eq_true rfl) rfl ?_
    refine am_jnV (fun j3 ej3 => ?_)
    have hj3 : ∀ (J4 : am_I), am_V Z X kX11_findLightest (fun r : Int32 × am_I => (some (.int r.1), R, r.2, L)) 160 [(0, .ref (am_B Z + a0))] [] R J4 L (j3 J4) := by
      subst ej3
      intro J4
      show am_V Z X kX11_findLightest (fun r : Int32 × am_I => (some (.int r.1), R, r.2, L)) 160 [(0, .ref (am_B Z + a0))] [] R J4 L _
      refine am_ldcw (v := 1000000) dX11_findLightest_160 (by decide +kernel) ?_
      refine am_istore_n (ls' := [(1, .int (1000000 : Int32)), (0, .ref (am_B Z + a0))]) dX11_findLightest_163 rfl (Nat.le_of_ble_eq_true rfl) rfl ?_
      refine am_iconst (v := 0) dX11_findLightest_164 (by decide) ?_
      refine am_istore_n (ls' := [(2, .int (0 : Int32)), (1, .int (1000000 : Int32)), (0, .ref (am_B Z + a0))]) dX11_findLightest_165 rfl (Nat.le_of_ble_eq_true rfl) rfl ?_
      refine am_sub (ls' := [(0, .ref (am_B Z + a0)), (1, .int (1000000 : Int32)), (2, .int (0 : Int32))]) [2, 1, 0] rfl ?_
      exact uX11_findLightest_166 R L a0 J4 h_a0 am_fu (1000000 : Int32) (0 : Int32)
    refine am_sub (ls' := [(0, .ref (am_B Z + a0)), (1, .int (0 : Int32))]) [1, 0] rfl ?_
    exact uX11_findLightest_41 R L a0 h_a0 j3 hj3 am_fu (0 : Int32) J2
  refine am_sub (ls' := [(0, .ref (am_B Z + a0)), (1, .int (0 : Int32))]) [1, 0] rfl ?_
  exact uX11_findLightest_2 R L a0 h_a0 j1 hj1 am_fu (0 : Int32) I
abbrev kX11_goesLight : am_K := (cX11_goesLight, 7, RX11, wsX11_goesLight, some .int, { frames := 2, cells := 0, slots := 0, locals := 46 })
theorem hX11_goesLight : am_cl yX11_goesLight kX11_goesLight 3 := ⟨⟨_, rfl⟩, rfl, rfl, by decide +kernel, by decide +kernel, by decide +kernel⟩
theorem iX11_goesLight_11 : ∀ w ∈ u_ws RX11 TX11 50, w ∈ wsX11_goesLight := by decide +kernel
theorem fX11_goesLight_19 : Cond.fieldLink RX11 19 "AmbiguityAnalyzerModel" "states" "I" ∈ wsX11_goesLight := by decide +kernel
theorem fX11_goesLight_73 : Cond.fieldLink RX11 73 "AmbiguityAnalyzerModel" "lightest" "[I" ∈ wsX11_goesLight := by decide +kernel
theorem fX11_goesLight_16 : Cond.fieldLink RX11 16 "AmbiguityAnalyzerModel" "weight" "[I" ∈ wsX11_goesLight := by decide +kernel
set_option maxRecDepth 100000 in
set_option maxHeartbeats 4000000 in
theorem vX11_goesLight_14 {Z : am_Z} {X : am_X} (R : am_R) (I : am_I) (L : am_L) (a0 : Nat) (x2 : Int32) (x3 : Int32) (r1 : Int32) (h2 : am_G Z a0 = some (.inl 11)) (ih5 : Int32 → Int32 → Option (Int32)) (hih5 : ∀ (v3 : Int32) (v4 : Int32), am_V Z X kX11_goesLight (fun r : Int32 => (some (.int r), R, I, L)) 14 [(0, .ref (am_B Z + a0)), (2, .int x2), (3, .int x3), (4, .int v3), (5, .int r1), (6, .int v4)] [] R I L (ih5 v3 v4)) (v3 : Int32) (v4 : Int32) : am_V Z X kX11_goesLight (fun r : Int32 => (some (.int r), R, I, L)) 14 [(0, .ref (am_B Z + a0)), (2, .int x2), (3, .int x3), (4, .int v3), (5, .int r1), (6, .int v4)] [] R I L (sX11_goesLight_14 R I a0 x2 x3 r1 ih5 v3 v4) := by
  unfold sX11_goesLight_14
  refine am_iload dX11_goesLight_14 5 rfl ?_
  refine am_aload_n dX11_goesLight_16 rfl 0 rfl ?_
  refine am_get 11 3 clX11 (Nat.le_of_ble_eq_true rfl) h2 iX11_goesLight_11 fX11_goesLight_19 rfl dX11_goesLight_17 ?_
  refine am_icmp_ge (tgt := 76) dX11_goesLight_20 rfl (fun e6 => ?_) (fun e6 => ?_)
  · refine am_iload dX11_goesLight_76 3 rfl ?_
    exact am_iret dX11_goesLight_78 rfl rfl
  · refine am_iload dX11_goesLight_23 3 rfl ?_
    refine am_iload dX11_goesLight_25 4 rfl ?_
    refine am_i2l dX11_goesLight_27 ?_
    refine am_iload dX11_goesLight_28 5 rfl ?_
    refine am_callS [.long (Int32.toInt64 r1), .int v4] (tX11_has R I L (Int32.toInt64 r1) v4) gX11_goesLight_X11_has hX11_has ⟨Nat.le_of_ble_eq_true rfl, Nat.le_of_ble_eq_true rfl⟩ rfl rfl (Nat.le_of_ble_eq_true rfl) dX11_goesLight_30 (fun r7 => ?_)
    show am_V Z X kX11_goesLight (fun r : Int32 => (some (.int r), R, I, L)) 33 [(0, .ref (am_B Z + a0)), (2, .int x2), (3, .int x3), (4, .int v3), (5, .int r1), (6, .int v4)] [.int r7, .int v3] R I L _
    refine am_jnV (fun j8 ej8 => ?_)
    have hj8 : ∀ (v9 : Int32), am_V Z X kX11_goesLight (fun r : Int32 => (some (.int r), R, I, L)) 67 [(0, .ref (am_B Z + a0)), (2, .int x2), (3, .int x3), (5, .int r1), (6, .int v4)] [.int v9, .int v3] R I L (j8 v9) := by
      subst ej8
      intro v9
      show am_V Z X kX11_goesLight (fun r : Int32 => (some (.int r), R, I, L)) 67 [(0, .ref (am_B Z + a0)), (2, .int x2), (3, .int x3), (5, .int r1), (6, .int v4)] [.int v9, .int v3] R I L _
      refine am_ior dX11_goesLight_67 ?_
      refine am_letTi (fun v10 => ?_)
      refine am_istore (ls' := [(4, .int v10), (0, .ref (am_B Z + a0)), (2, .int x2), (3, .int x3), (5, .int r1), (6, .int v4)]) dX11_goesLight_68 (Nat.le_of_ble_eq_true rfl) rfl ?_
      refine am_iinc (j := 5) (ls' := [(6, .int (v4 + (1 : Int32))), (4, .int v10), (0, .ref (am_B Z + a0)), (2, .int x2), (3, .int x3), (5, .int r1)]) dX11_goesLight_70 rfl rfl (Nat.le_of_ble_eq_true rfl) rfl ?_
      refine am_goto (tgt := 14) dX11_goesLight_73 rfl ?_
      refine am_sub (ls' := [(0, .ref (am_B Z + a0)), (2, .int x2), (3, .int x3), (4, .int v10), (5, .int r1), (6, .int (v4 + (1 : Int32)))]) [2, 3, 4, 1, 5, 0] rfl ?_
      exact hih5 v10 (v4 + (1 : Int32))
    refine am_jnV (fun j11 ej11 => ?_)
    have hj11 : am_V Z X kX11_goesLight (fun r : Int32 => (some (.int r), R, I, L)) 66 [(0, .ref (am_B Z + a0)), (2, .int x2), (3, .int x3), (5, .int r1), (6, .int v4)] [.int v3] R I L j11 := by
      subst ej11
      show am_V Z X kX11_goesLight (fun r : Int32 => (some (.int r), R, I, L)) 66 [(0, .ref (am_B Z + a0)), (2, .int x2), (3, .int x3), (5, .int r1), (6, .int v4)] [.int v3] R I L _
      refine am_iconst (v := 0) dX11_goesLight_66 (by decide) ?_
      exact hj8 (0 : Int32)
    refine am_if_eq (tgt := 66) dX11_goesLight_33 rfl (fun e12 => ?_) (fun e12 => ?_)
    · refine am_sub (ls' := [(0, .ref (am_B Z + a0)), (2, .int x2), (3, .int x3), (5, .int r1), (6, .int v4)]) [0, 1, 2, 4, 5] rfl ?_
      exact hj11
    · refine am_aload_n dX11_goesLight_36 rfl 0 rfl ?_
      refine am_getR 11 33 clX11 (Nat.le_of_ble_eq_true rfl) h2 iX11_goesLight_11 fX11_goesLight_73 rfl rfl dX11_goesLight_37 (fun h13 => ?_)
      refine am_iload dX11_goesLight_40 5 rfl ?_
      refine am_iald h13 dX11_goesLight_42 ?_
      refine am_iload_n dX11_goesLight_43 rfl 2 rfl ?_
      refine am_bipush (v := 16) dX11_goesLight_44 (by decide) ?_
      refine am_aload_n dX11_goesLight_46 rfl 0 rfl ?_
      refine am_getR 11 2 clX11 (Nat.le_of_ble_eq_true rfl) h2 iX11_goesLight_11 fX11_goesLight_16 rfl rfl dX11_goesLight_47 (fun h14 => ?_)
      refine am_iload_n dX11_goesLight_50 rfl 1 rfl ?_
      refine am_iald h14 dX11_goesLight_51 ?_
      refine am_imul dX11_goesLight_52 ?_
      refine am_isub dX11_goesLight_53 ?_
      refine am_iconst (v := 1) dX11_goesLight_54 (by decide) ?_
      refine am_isub dX11_goesLight_55 ?_
      refine am_icmp_ne (tgt := 66) dX11_goesLight_56 rfl (fun e15 => ?_) (fun e15 => ?_)
      · refine am_sub (ls' := [(0, .ref (am_B Z + a0)), (2, .int x2), (3, .int x3), (5, .int r1), (6, .int v4)]) [0, 1, 2, 4, 5] rfl ?_
        exact hj11
      · refine am_iconst (v := 1) dX11_goesLight_59 (by decide) ?_
        refine am_iload dX11_goesLight_60 5 rfl ?_
        refine am_ishl dX11_goesLight_62 ?_
        refine am_goto (tgt := 67) dX11_goesLight_63 rfl ?_
        refine am_sub (ls' := [(0, .ref (am_B Z + a0)), (2, .int x2), (3, .int x3), (5, .int r1), (6, .int v4)]) [0, 1, 2, 4, 5] rfl ?_
        exact hj8 ((1 : Int32) <<< (v4 &&& 31))
theorem uX11_goesLight_14 {Z : am_Z} {X : am_X} (R : am_R) (I : am_I) (L : am_L) (a0 : Nat) (x2 : Int32) (x3 : Int32) (r1 : Int32) (h2 : am_G Z a0 = some (.inl 11)) : ∀ (n : Nat) (v3 : Int32) (v4 : Int32), am_V Z X kX11_goesLight (fun r : Int32 => (some (.int r), R, I, L)) 14 [(0, .ref (am_B Z + a0)), (2, .int x2), (3, .int x3), (4, .int v3), (5, .int r1), (6, .int v4)] [] R I L (lX11_goesLight_14 R I a0 x2 x3 r1 n v3 v4) := by
  intro n
  induction n with
  | zero => intro _ _; exact am_none
  | succ n ih => exact fun v3 v4 => vX11_goesLight_14 R I L a0 x2 x3 r1 h2 (lX11_goesLight_14 R I a0 x2 x3 r1 n) ih v3 v4
set_option maxRecDepth 100000 in
set_option maxHeartbeats 4000000 in
theorem tX11_goesLight {Z : am_Z} (R : am_R) (I : am_I) (L : am_L) (a0 : Nat) (x1 : Int32) (x2 : Int32) (x3 : Int32) (h_a0 : am_G Z a0 = some (.inl 11)) : am_M Z yX11_goesLight kX11_goesLight [.ref (am_B Z + a0), .int x1, .int x2, .int x3] R I L (pX11_goesLight R I a0 x1 x2 x3) (fun r : Int32 => (some (.int r), R, I, L)) := by
  refine am_entry (ls := [(0, .ref (am_B Z + a0)), (1, .int x1), (2, .int x2), (3, .int x3)]) (by decide) hX11_goesLight rfl (Nat.le_of_ble_eq_true rfl) rfl (fun X => ?_)
  unfold pX11_goesLight
  refine am_iconst (v := 0) dX11_goesLight_0 (by decide) ?_
  refine am_istore (ls' := [(4, .int (0 : Int32)), (0, .ref (am_B Z + a0)), (1, .int x1), (2, .int x2), (3, .int x3)]) dX11_goesLight_1 (Nat.le_of_ble_eq_true rfl) rfl ?_
  refine am_aload_n dX11_goesLight_3 rfl 1 rfl ?_
  refine am_iload_n dX11_goesLight_4 rfl 2 rfl ?_
  refine am_iload_n dX11_goesLight_5 rfl 3 rfl ?_
  refine am_callV [.int x1, .int x2] (tX11_step R I L a0 x1 x2 h_a0) h_a0 clX11 gX11_goesLight_X11_step hX11_step rfl ⟨Nat.le_of_ble_eq_true rfl, Nat.le_of_ble_eq_true rfl⟩ rfl rfl (Nat.le_of_ble_eq_true rfl) dX11_goesLight_6 (fun r1 => ?_)
  show am_V Z X kX11_goesLight (fun r : Int32 => (some (.int r), R, I, L)) 9 [(4, .int (0 : Int32)), (0, .ref (am_B Z + a0)), (1, .int x1), (2, .int x2), (3, .int x3)] [.int r1] R I L _
  refine am_istore (ls' := [(5, .int r1), (4, .int (0 : Int32)), (0, .ref (am_B Z + a0)), (1, .int x1), (2, .int x2), (3, .int x3)]) dX11_goesLight_9 (Nat.le_of_ble_eq_true rfl) rfl ?_
  refine am_iconst (v := 0) dX11_goesLight_11 (by decide) ?_
  refine am_istore (ls' := [(6, .int (0 : Int32)), (5, .int r1), (4, .int (0 : Int32)), (0, .ref (am_B Z + a0)), (1, .int x1), (2, .int x2), (3, .int x3)]) dX11_goesLight_12 (Nat.le_of_ble_eq_true rfl) rfl ?_
  refine am_sub (ls' := [(0, .ref (am_B Z + a0)), (2, .int x2), (3, .int x3), (4, .int (0 : Int32)), (5, .int r1), (6, .int (0 : Int32))]) [3, 5, 6, 2, 1, 0] rfl ?_
  exact uX11_goesLight_14 R I L a0 x2 x3 r1 h_a0 am_fu (0 : Int32) (0 : Int32)
abbrev kX11_spellLightest : am_K := (cX11_spellLightest, 6, RX11, wsX11_spellLightest, some .int, { frames := 3, cells := 0, slots := 0, locals := 72 })
theorem hX11_spellLightest : am_cl yX11_spellLightest kX11_spellLightest 0 := ⟨⟨_, rfl⟩, rfl, rfl, by decide +kernel, by decide +kernel, by decide +kernel⟩
theorem iX11_spellLightest_11 : ∀ w ∈ u_ws RX11 TX11 50, w ∈ wsX11_spellLightest := by decide +kernel
theorem fX11_spellLightest_19 : Cond.fieldLink RX11 19 "AmbiguityAnalyzerModel" "states" "I" ∈ wsX11_spellLightest := by decide +kernel
theorem fX11_spellLightest_112 : Cond.fieldLink RX11 112 "AmbiguityAnalyzerModel" "initials" "I" ∈ wsX11_spellLightest := by decide +kernel
theorem fX11_spellLightest_73 : Cond.fieldLink RX11 73 "AmbiguityAnalyzerModel" "lightest" "[I" ∈ wsX11_spellLightest := by decide +kernel
theorem fX11_spellLightest_252 : Cond.fieldLink RX11 252 "AmbiguityAnalyzerModel" "witnessLength" "I" ∈ wsX11_spellLightest := by decide +kernel
theorem fX11_spellLightest_51 : Cond.fieldLink RX11 51 "AmbiguityAnalyzerModel" "witness" "[I" ∈ wsX11_spellLightest := by decide +kernel
theorem fX11_spellLightest_16 : Cond.fieldLink RX11 16 "AmbiguityAnalyzerModel" "weight" "[I" ∈ wsX11_spellLightest := by decide +kernel
set_option maxRecDepth 100000 in
set_option maxHeartbeats 4000000 in
theorem vX11_spellLightest_96 {Z : am_Z} {X : am_X} (R : am_R) (L : am_L) (a0 : Nat) (v7 : Int32) (v8 : Int32) (v9 : Int32) (J10 : am_I) (h21 : am_G Z a0 = some (.inl 11)) (j14 : Int32 → Int32 → Option (Int32 × am_I)) (hj14 : ∀ (v15 : Int32) (v16 : Int32), am_V Z X kX11_spellLightest (fun r : Int32 × am_I => (some (.int r.1), R, r.2, L)) 117 [(0, .ref (am_B Z + a0)), (1, .int v7), (3, .int v9), (4, .int v15), (5, .int v16)] [] R J10 L (j14 v15 v16)) (ih24 : Int32 → Int32 → Option (Int32 × am_I)) (hih24 : ∀ (v22 : Int32) (v23 : Int32), am_V Z X kX11_spellLightest (fun r : Int32 × am_I => (some (.int r.1), R, r.2, L)) 96 [(0, .ref (am_B Z + a0)), (1, .int v7), (2, .int v8), (3, .int v9), (4, .int v22), (5, .int v23)] [] R J10 L (ih24 v22 v23)) (v22 : Int32) (v23 : Int32) : am_V Z X kX11_spellLightest (fun r : Int32 × am_I => (some (.int r.1), R, r.2, L)) 96 [(0, .ref (am_B Z + a0)), (1, .int v7), (2, .int v8), (3, .int v9), (4, .int v22), (5, .int v23)] [] R J10 L (sX11_spellLightest_96 R a0 v7 v8 v9 J10 j14 ih24 v22 v23) := by
  unfold sX11_spellLightest_96
  refine am_iload dX11_spellLightest_96 5 rfl ?_
  refine am_if_ne (tgt := 117) dX11_spellLightest_98 rfl (fun e25 => ?_) (fun e25 => ?_)
  · refine am_sub (ls' := [(0, .ref (am_B Z + a0)), (1, .int v7), (3, .int v9), (4, .int v22), (5, .int v23)]) [0, 1, 3, 4, 5] rfl ?_
    exact hj14 v22 v23
  · refine am_iinc (j := 4) (ls' := [(4, .int (v22 + (1 : Int32))), (0, .ref (am_B Z + a0)), (1, .int v7), (2, .int v8), (3, .int v9), (5, .int v23)]) dX11_spellLightest_101 rfl rfl (Nat.le_of_ble_eq_true rfl) rfl ?_
    refine am_aload_n dX11_spellLightest_104 rfl 1 rfl ?_
    refine am_iload_n dX11_spellLightest_105 rfl 3 rfl ?_
    refine am_iload dX11_spellLightest_106 0 rfl ?_
    refine am_iload_n dX11_spellLightest_108 rfl 2 rfl ?_
    refine am_callV [.int v8, .int (v22 + (1 : Int32)), .int v7] (tX11_goesLight R J10 L a0 v8 (v22 + (1 : Int32)) v7 h21) h21 clX11 gX11_spellLightest_X11_goesLight hX11_goesLight rfl ⟨Nat.le_of_ble_eq_true rfl, Nat.le_of_ble_eq_true rfl⟩ rfl rfl (Nat.le_of_ble_eq_true rfl) dX11_spellLightest_109 (fun r26 => ?_)
    show am_V Z X kX11_spellLightest (fun r : Int32 × am_I => (some (.int r.1), R, r.2, L)) 112 [(4, .int (v22 + (1 : Int32))), (0, .ref (am_B Z + a0)), (1, .int v7), (2, .int v8), (3, .int v9), (5, .int v23)] [.int r26] R J10 L _
    refine am_istore (ls' := [(5, .int r26), (4, .int (v22 + (1 : Int32))), (0, .ref (am_B Z + a0)), (1, .int v7), (2, .int v8), (3, .int v9)]) dX11_spellLightest_112 (Nat.le_of_ble_eq_true rfl) rfl ?_
    refine am_goto (tgt := 96) dX11_spellLightest_114 rfl ?_
    refine am_sub (ls' := [(0, .ref (am_B Z + a0)), (1, .int v7), (2, .int v8), (3, .int v9), (4, .int (v22 + (1 : Int32))), (5, .int r26)]) [2, 3, 4, 5, 1, 0] rfl ?_
    exact hih24 (v22 + (1 : Int32)) r26
theorem uX11_spellLightest_96 {Z : am_Z} {X : am_X} (R : am_R) (L : am_L) (a0 : Nat) (v7 : Int32) (v8 : Int32) (v9 : Int32) (J10 : am_I) (h21 : am_G Z a0 = some (.inl 11)) (j14 : Int32 → Int32 → Option (Int32 × am_I)) (hj14 : ∀ (v15 : Int32) (v16 : Int32), am_V Z X kX11_spellLightest (fun r : Int32 × am_I => (some (.int r.1), R, r.2, L)) 117 [(0, .ref (am_B Z + a0)), (1, .int v7), (3, .int v9), (4, .int v15), (5, .int v16)] [] R J10 L (j14 v15 v16)) : ∀ (n : Nat) (v22 : Int32) (v23 : Int32), am_V Z X kX11_spellLightest (fun r : Int32 × am_I => (some (.int r.1), R, r.2, L)) 96 [(0, .ref (am_B Z + a0)), (1, .int v7), (2, .int v8), (3, .int v9), (4, .int v22), (5, .int v23)] [] R J10 L (lX11_spellLightest_96 R a0 v7 v8 v9 J10 j14 n v22 v23) := by
  intro n
  induction n with
  | zero => intro _ _; exact am_none
  | succ n ih => exact fun v22 v23 => vX11_spellLightest_96 R L a0 v7 v8 v9 J10 h21 j14 hj14 (lX11_spellLightest_96 R a0 v7 v8 v9 J10 j14 n) ih v22 v23
set_option maxRecDepth 100000 in
set_option maxHeartbeats 4000000 in
theorem vX11_spellLightest_75 {Z : am_Z} {X : am_X} (R : am_R) (L : am_L) (a0 : Nat) (h6 : am_G Z a0 = some (.inl 11)) (ih11 : Int32 → Int32 → Int32 → am_I → Option (Int32 × am_I)) (hih11 : ∀ (v7 : Int32) (v8 : Int32) (v9 : Int32) (J10 : am_I), am_V Z X kX11_spellLightest (fun r : Int32 × am_I => (some (.int r.1), R, r.2, L)) 75 [(0, .ref (am_B Z + a0)), (1, .int v7), (2, .int v8), (3, .int v9)] [] R J10 L (ih11 v7 v8 v9 J10)) (v7 : Int32) (v8 : Int32) (v9 : Int32) (J10 : am_I) : am_V Z X kX11_spellLightest (fun r : Int32 × am_I => (some (.int r.1), R, r.2, L)) 75 [(0, .ref (am_B Z + a0)), (1, .int v7), (2, .int v8), (3, .int v9)] [] R J10 L (sX11_spellLightest_75 R a0 ih11 v7 v8 v9 J10) := by
  unfold sX11_spellLightest_75
  refine am_iload_n dX11_spellLightest_75 rfl 3 rfl ?_
  refine am_aload_n dX11_spellLightest_76 rfl 0 rfl ?_
  refine am_get 11 25 clX11 (Nat.le_of_ble_eq_true rfl) h6 iX11_spellLightest_11 fX11_spellLightest_252 rfl dX11_spellLightest_77 ?_
  refine am_icmp_ge (tgt := 149) dX11_spellLightest_80 rfl (fun e12 => ?_) (fun e12 => ?_)
  · refine am_aload_n dX11_spellLightest_149 rfl 0 rfl ?_
    refine am_get 11 25 clX11 (Nat.le_of_ble_eq_true rfl) h6 iX11_spellLightest_11 fX11_spellLightest_252 rfl dX11_spellLightest_150 ?_
    exact am_iret dX11_spellLightest_153 rfl rfl
  · refine am_iconst (v := 0) dX11_spellLightest_83 (by decide) ?_
    refine am_istore (ls' := [(4, .int (0 : Int32)), (0, .ref (am_B Z + a0)), (1, .int v7), (2, .int v8), (3, .int v9)]) dX11_spellLightest_84 (Nat.le_of_ble_eq_true rfl) rfl ?_
    refine am_aload_n dX11_spellLightest_86 rfl 1 rfl ?_
    refine am_iload_n dX11_spellLightest_87 rfl 3 rfl ?_
    refine am_iload dX11_spellLightest_88 0 rfl ?_
    refine am_iload_n dX11_spellLightest_90 rfl 2 rfl ?_
    refine am_callV [.int v8, .int (0 : Int32), .int v7] (tX11_goesLight R J10 L a0 v8 (0 : Int32) v7 h6) h6 clX11 gX11_spellLightest_X11_goesLight hX11_goesLight rfl ⟨Nat.le_of_ble_eq_true rfl, Nat.le_of_ble_eq_true rfl⟩ rfl rfl (Nat.le_of_ble_eq_true rfl) dX11_spellLightest_91 (fun r13 => ?_)
    show am_V Z X kX11_spellLightest (fun r : Int32 × am_I => (some (.int r.1), R, r.2, L)) 94 [(4, .int (0 : Int32)), (0, .ref (am_B Z + a0)), (1, .int v7), (2, .int v8), (3, .int v9)] [.int r13] R J10 L _
    refine am_istore (ls' := [(5, .int r13), (4, .int (0 : Int32)), (0, .ref (am_B Z + a0)), (1, .int v7), (2, .int v8), (3, .int v9)]) dX11_spellLightest_94 (Nat.le_of_ble_eq_true rfl) rfl ?_
    refine am_jnV (fun j14 ej14 => ?_)
    have hj14 : ∀ (v15 : Int32) (v16 : Int32), am_V Z X kX11_spellLightest (fun r : Int32 × am_I => (some (.int r.1), R, r.2, L)) 117 [(0, .ref (am_B Z + a0)), (1, .int v7), (3, .int v9), (4, .int v15), (5, .int v16)] [] R J10 L (j14 v15 v16) := by
      subst ej14
      intro v15 v16
      show am_V Z X kX11_spellLightest (fun r : Int32 × am_I => (some (.int r.1), R, r.2, L)) 117 [(0, .ref (am_B Z + a0)), (1, .int v7), (3, .int v9), (4, .int v15), (5, .int v16)] [] R J10 L _
      refine am_aload_n dX11_spellLightest_117 rfl 0 rfl ?_
      refine am_getR 11 22 clX11 (Nat.le_of_ble_eq_true rfl) h6 iX11_spellLightest_11 fX11_spellLightest_51 rfl rfl dX11_spellLightest_118 (fun h17 => ?_)
      refine am_iload_n dX11_spellLightest_121 rfl 2 rfl ?_
      refine am_iload dX11_spellLightest_122 3 rfl ?_
      refine am_iast h17 dX11_spellLightest_124 ?_
      refine am_letI (fun J18 => ?_)
      refine am_iload_n dX11_spellLightest_125 rfl 1 rfl ?_
      refine am_bipush (v := 16) dX11_spellLightest_126 (by decide) ?_
      refine am_aload_n dX11_spellLightest_128 rfl 0 rfl ?_
      refine am_getR 11 2 clX11 (Nat.le_of_ble_eq_true rfl) h6 iX11_spellLightest_11 fX11_spellLightest_16 rfl rfl dX11_spellLightest_129 (fun h19 => ?_)
      refine am_iload dX11_spellLightest_132 3 rfl ?_
      refine am_iald h19 dX11_spellLightest_134 ?_
      refine am_imul dX11_spellLightest_135 ?_
      refine am_iconst (v := 1) dX11_spellLightest_136 (by decide) ?_
      refine am_iadd dX11_spellLightest_137 ?_
      refine am_isub dX11_spellLightest_138 ?_
      refine am_letTi (fun v20 => ?_)
      refine am_istore_n (ls' := [(1, .int v20), (0, .ref (am_B Z + a0)), (3, .int v9), (4, .int v15), (5, .int v16)]) dX11_spellLightest_139 rfl (Nat.le_of_ble_eq_true rfl) rfl ?_
      refine am_iload dX11_spellLightest_140 4 rfl ?_
      refine am_istore_n (ls' := [(2, .int v16), (1, .int v20), (0, .ref (am_B Z + a0)), (3, .int v9), (4, .int v15), (5, .int v16)]) dX11_spellLightest_142 rfl (Nat.le_of_ble_eq_true rfl) rfl ?_
      refine am_iinc (j := 3) (ls' := [(3, .int (v9 + (1 : Int32))), (2, .int v16), (1, .int v20), (0, .ref (am_B Z + a0)), (4, .int v15), (5, .int v16)]) dX11_spellLightest_143 rfl rfl (Nat.le_of_ble_eq_true rfl) rfl ?_
      refine am_goto (tgt := 75) dX11_spellLightest_146 rfl ?_
      refine am_sub (ls' := [(0, .ref (am_B Z + a0)), (1, .int v20), (2, .int v16), (3, .int (v9 + (1 : Int32)))]) [3, 2, 1, 0] rfl ?_
      exact hih11 v20 v16 (v9 + (1 : Int32)) J18
    refine am_sub (ls' := [(0, .ref (am_B Z + a0)), (1, .int v7), (2, .int v8), (3, .int v9), (4, .int (0 : Int32)), (5, .int r13)]) [2, 3, 4, 5, 1, 0] rfl ?_
    exact uX11_spellLightest_96 R L a0 v7 v8 v9 J10 h6 j14 hj14 am_fu (0 : Int32) r13
theorem uX11_spellLightest_75 {Z : am_Z} {X : am_X} (R : am_R) (L : am_L) (a0 : Nat) (h6 : am_G Z a0 = some (.inl 11)) : ∀ (n : Nat) (v7 : Int32) (v8 : Int32) (v9 : Int32) (J10 : am_I), am_V Z X kX11_spellLightest (fun r : Int32 × am_I => (some (.int r.1), R, r.2, L)) 75 [(0, .ref (am_B Z + a0)), (1, .int v7), (2, .int v8), (3, .int v9)] [] R J10 L (lX11_spellLightest_75 R a0 n v7 v8 v9 J10) := by
  intro n
  induction n with
  | zero => intro _ _ _ _; exact am_none
  | succ n ih => exact fun v7 v8 v9 J10 => vX11_spellLightest_75 R L a0 h6 (lX11_spellLightest_75 R a0 n) ih v7 v8 v9 J10
set_option maxRecDepth 100000 in
set_option maxHeartbeats 4000000 in
theorem vX11_spellLightest_19 {Z : am_Z} {X : am_X} (R : am_R) (L : am_L) (a0 : Nat) (c28 : Int32) (J31 : am_I) (h27 : am_G Z a0 = some (.inl 11)) (j3 : Int32 → Option (Int32 × am_I)) (hj3 : ∀ (v4 : Int32), am_V Z X kX11_spellLightest (fun r : Int32 × am_I => (some (.int r.1), R, r.2, L)) 65 [(0, .ref (am_B Z + a0)), (1, .int c28), (2, .int v4)] [] R J31 L (j3 v4)) (ih32 : Int32 → Int32 → Option (Int32 × am_I)) (hih32 : ∀ (v29 : Int32) (v30 : Int32), am_V Z X kX11_spellLightest (fun r : Int32 × am_I => (some (.int r.1), R, r.2, L)) 19 [(0, .ref (am_B Z + a0)), (1, .int c28), (2, .int v29), (3, .int v30)] [] R J31 L (ih32 v29 v30)) (v29 : Int32) (v30 : Int32) : am_V Z X kX11_spellLightest (fun r : Int32 × am_I => (some (.int r.1), R, r.2, L)) 19 [(0, .ref (am_B Z + a0)), (1, .int c28), (2, .int v29), (3, .int v30)] [] R J31 L (sX11_spellLightest_19 R a0 c28 J31 j3 ih32 v29 v30) := by
  unfold sX11_spellLightest_19
  refine am_iload_n dX11_spellLightest_19 rfl 3 rfl ?_
  refine am_aload_n dX11_spellLightest_20 rfl 0 rfl ?_
  refine am_get 11 3 clX11 (Nat.le_of_ble_eq_true rfl) h27 iX11_spellLightest_11 fX11_spellLightest_19 rfl dX11_spellLightest_21 ?_
  refine am_icmp_ge (tgt := 65) dX11_spellLightest_24 rfl (fun e33 => ?_) (fun e33 => ?_)
  · refine am_sub (ls' := [(0, .ref (am_B Z + a0)), (1, .int c28), (2, .int v29)]) [0, 1, 2] rfl ?_
    exact hj3 v29
  · refine am_iload_n dX11_spellLightest_27 rfl 2 rfl ?_
    refine am_aload_n dX11_spellLightest_28 rfl 0 rfl ?_
    refine am_get 11 4 clX11 (Nat.le_of_ble_eq_true rfl) h27 iX11_spellLightest_11 fX11_spellLightest_112 rfl dX11_spellLightest_29 ?_
    refine am_i2l dX11_spellLightest_32 ?_
    refine am_iload_n dX11_spellLightest_33 rfl 3 rfl ?_
    refine am_callS [.long (Int32.toInt64 (J31 a0 4)), .int v30] (tX11_has R J31 L (Int32.toInt64 (J31 a0 4)) v30) gX11_spellLightest_X11_has hX11_has ⟨Nat.le_of_ble_eq_true rfl, Nat.le_of_ble_eq_true rfl⟩ rfl rfl (Nat.le_of_ble_eq_true rfl) dX11_spellLightest_34 (fun r34 => ?_)
    show am_V Z X kX11_spellLightest (fun r : Int32 × am_I => (some (.int r.1), R, r.2, L)) 37 [(0, .ref (am_B Z + a0)), (1, .int c28), (2, .int v29), (3, .int v30)] [.int r34, .int v29] R J31 L _
    refine am_jnV (fun j35 ej35 => ?_)
    have hj35 : ∀ (v36 : Int32), am_V Z X kX11_spellLightest (fun r : Int32 × am_I => (some (.int r.1), R, r.2, L)) 57 [(0, .ref (am_B Z + a0)), (1, .int c28), (3, .int v30)] [.int v36, .int v29] R J31 L (j35 v36) := by
      subst ej35
      intro v36
      show am_V Z X kX11_spellLightest (fun r : Int32 × am_I => (some (.int r.1), R, r.2, L)) 57 [(0, .ref (am_B Z + a0)), (1, .int c28), (3, .int v30)] [.int v36, .int v29] R J31 L _
      refine am_ior dX11_spellLightest_57 ?_
      refine am_letTi (fun v37 => ?_)
      refine am_istore_n (ls' := [(2, .int v37), (0, .ref (am_B Z + a0)), (1, .int c28), (3, .int v30)]) dX11_spellLightest_58 rfl (Nat.le_of_ble_eq_true rfl) rfl ?_
      refine am_iinc (j := 3) (ls' := [(3, .int (v30 + (1 : Int32))), (2, .int v37), (0, .ref (am_B Z + a0)), (1, .int c28)]) dX11_spellLightest_59 rfl rfl (Nat.le_of_ble_eq_true rfl) rfl ?_
      refine am_goto (tgt := 19) dX11_spellLightest_62 rfl ?_
      refine am_sub (ls' := [(0, .ref (am_B Z + a0)), (1, .int c28), (2, .int v37), (3, .int (v30 + (1 : Int32)))]) [2, 3, 1, 0] rfl ?_
      exact hih32 v37 (v30 + (1 : Int32))
    refine am_jnV (fun j38 ej38 => ?_)
    have hj38 : am_V Z X kX11_spellLightest (fun r : Int32 × am_I => (some (.int r.1), R, r.2, L)) 56 [(0, .ref (am_B Z + a0)), (1, .int c28), (3, .int v30)] [.int v29] R J31 L j38 := by
      subst ej38
      show am_V Z X kX11_spellLightest (fun r : Int32 × am_I => (some (.int r.1), R, r.2, L)) 56 [(0, .ref (am_B Z + a0)), (1, .int c28), (3, .int v30)] [.int v29] R J31 L _
      refine am_iconst (v := 0) dX11_spellLightest_56 (by decide) ?_
      exact hj35 (0 : Int32)
    refine am_if_eq (tgt := 56) dX11_spellLightest_37 rfl (fun e39 => ?_) (fun e39 => ?_)
    · refine am_sub (ls' := [(0, .ref (am_B Z + a0)), (1, .int c28), (3, .int v30)]) [0, 1, 3] rfl ?_
      exact hj38
    · refine am_aload_n dX11_spellLightest_40 rfl 0 rfl ?_
      refine am_getR 11 33 clX11 (Nat.le_of_ble_eq_true rfl) h27 iX11_spellLightest_11 fX11_spellLightest_73 rfl rfl dX11_spellLightest_41 (fun h40 => ?_)
      refine am_iload_n dX11_spellLightest_44 rfl 3 rfl ?_
      refine am_iald h40 dX11_spellLightest_45 ?_
      refine am_iload_n dX11_spellLightest_46 rfl 1 rfl ?_
      refine am_icmp_ne (tgt := 56) dX11_spellLightest_47 rfl (fun e41 => ?_) (fun e41 => ?_)
      · refine am_sub (ls' := [(0, .ref (am_B Z + a0)), (1, .int c28), (3, .int v30)]) [0, 1, 3] rfl ?_
        exact hj38
      · refine am_iconst (v := 1) dX11_spellLightest_50 (by decide) ?_
        refine am_iload_n dX11_spellLightest_51 rfl 3 rfl ?_
        refine am_ishl dX11_spellLightest_52 ?_
        refine am_goto (tgt := 57) dX11_spellLightest_53 rfl ?_
        refine am_sub (ls' := [(0, .ref (am_B Z + a0)), (1, .int c28), (3, .int v30)]) [0, 1, 3] rfl ?_
        exact hj35 ((1 : Int32) <<< (v30 &&& 31))
theorem uX11_spellLightest_19 {Z : am_Z} {X : am_X} (R : am_R) (L : am_L) (a0 : Nat) (c28 : Int32) (J31 : am_I) (h27 : am_G Z a0 = some (.inl 11)) (j3 : Int32 → Option (Int32 × am_I)) (hj3 : ∀ (v4 : Int32), am_V Z X kX11_spellLightest (fun r : Int32 × am_I => (some (.int r.1), R, r.2, L)) 65 [(0, .ref (am_B Z + a0)), (1, .int c28), (2, .int v4)] [] R J31 L (j3 v4)) : ∀ (n : Nat) (v29 : Int32) (v30 : Int32), am_V Z X kX11_spellLightest (fun r : Int32 × am_I => (some (.int r.1), R, r.2, L)) 19 [(0, .ref (am_B Z + a0)), (1, .int c28), (2, .int v29), (3, .int v30)] [] R J31 L (lX11_spellLightest_19 R a0 c28 J31 j3 n v29 v30) := by
  intro n
  induction n with
  | zero => intro _ _; exact am_none
  | succ n ih => exact fun v29 v30 => vX11_spellLightest_19 R L a0 c28 J31 h27 j3 hj3 (lX11_spellLightest_19 R a0 c28 J31 j3 n) ih v29 v30
set_option maxRecDepth 100000 in
set_option maxHeartbeats 4000000 in
theorem tX11_spellLightest {Z : am_Z} (R : am_R) (I : am_I) (L : am_L) (a0 : Nat) (h_a0 : am_G Z a0 = some (.inl 11)) : am_M Z yX11_spellLightest kX11_spellLightest [.ref (am_B Z + a0)] R I L (pX11_spellLightest R I a0) (fun r : Int32 × am_I => (some (.int r.1), R, r.2, L)) := by
  refine am_entry (ls := [(0, .ref (am_B Z + a0))]) (by decide) hX11_spellLightest rfl (Nat.le_of_ble_eq_true rfl) rfl (fun X => ?_)
  unfold pX11_spellLightest
  refine am_aload_n dX11_spellLightest_0 rfl 0 rfl ?_
  refine am_callV [] (tX11_findLightest R I L a0 h_a0) h_a0 clX11 gX11_spellLightest_X11_findLightest hX11_findLightest rfl ⟨Nat.le_of_ble_eq_true rfl, Nat.le_of_ble_eq_true rfl⟩ rfl rfl (Nat.le_of_ble_eq_true rfl) dX11_spellLightest_1 (fun r1 => ?_)
  show am_V Z X kX11_spellLightest (fun r : Int32 × am_I => (some (.int r.1), R, r.2, L)) 4 [(0, .ref (am_B Z + a0))] [.int r1.1] R r1.2 L _
  refine am_istore_n (ls' := [(1, .int r1.1), (0, .ref (am_B Z + a0))]) dX11_spellLightest_4 rfl (Nat.le_of_ble_eq_true rfl) rfl ?_
  refine am_iload_n dX11_spellLightest_5 rfl 0 rfl ?_
  refine am_ldcw (v := 1000000) dX11_spellLightest_6 (by decide +kernel) ?_
  refine am_icmp_ne (tgt := 15) dX11_spellLightest_9 rfl (fun e2 => ?_) (fun e2 => ?_)
  · refine am_iconst (v := 0) dX11_spellLightest_15 (by decide) ?_
    refine am_istore_n (ls' := [(2, .int (0 : Int32)), (1, .int r1.1), (0, .ref (am_B Z + a0))]) dX11_spellLightest_16 rfl (Nat.le_of_ble_eq_true rfl) rfl ?_
    refine am_iconst (v := 0) dX11_spellLightest_17 (by decide) ?_
    refine am_istore_n (ls' := [(3, .int (0 : Int32)), (2, .int (0 : Int32)), (1, .int r1.1), (0, .ref (am_B Z + a0))]) dX11_spellLightest_18 rfl (Nat.le_of_ble_eq_true rfl) rfl ?_
    refine am_jnV (fun j3 ej3 => ?_)
    have hj3 : ∀ (v4 : Int32), am_V Z X kX11_spellLightest (fun r : Int32 × am_I => (some (.int r.1), R, r.2, L)) 65 [(0, .ref (am_B Z + a0)), (1, .int r1.1), (2, .int v4)] [] R r1.2 L (j3 v4) := by
      subst ej3
      intro v4
      show am_V Z X kX11_spellLightest (fun r : Int32 × am_I => (some (.int r.1), R, r.2, L)) 65 [(0, .ref (am_B Z + a0)), (1, .int r1.1), (2, .int v4)] [] R r1.2 L _
      refine am_aload_n dX11_spellLightest_65 rfl 0 rfl ?_
      refine am_iload_n dX11_spellLightest_66 rfl 1 rfl ?_
      refine am_bipush (v := 16) dX11_spellLightest_67 (by decide) ?_
      refine am_iremC dX11_spellLightest_69 (by decide) ?_
      refine am_putI 11 25 clX11 (Nat.le_of_ble_eq_true rfl) h_a0 iX11_spellLightest_11 fX11_spellLightest_252 rfl rfl dX11_spellLightest_70 ?_
      refine am_letI (fun J5 => ?_)
      refine am_iconst (v := 0) dX11_spellLightest_73 (by decide) ?_
      refine am_istore_n (ls' := [(3, .int (0 : Int32)), (0, .ref (am_B Z + a0)), (1, .int r1.1), (2, .int v4)]) dX11_spellLightest_74 rfl (Nat.le_of_ble_eq_true rfl) rfl ?_
      refine am_sub (ls' := [(0, .ref (am_B Z + a0)), (1, .int r1.1), (2, .int v4), (3, .int (0 : Int32))]) [1, 2, 3, 0] rfl ?_
      exact uX11_spellLightest_75 R L a0 h_a0 am_fu r1.1 v4 (0 : Int32) J5
    refine am_sub (ls' := [(0, .ref (am_B Z + a0)), (1, .int r1.1), (2, .int (0 : Int32)), (3, .int (0 : Int32))]) [3, 2, 1, 0] rfl ?_
    exact uX11_spellLightest_19 R L a0 r1.1 r1.2 h_a0 j3 hj3 am_fu (0 : Int32) (0 : Int32)
  · refine am_bipush (v := -4) dX11_spellLightest_12 (by decide) ?_
    exact am_iret dX11_spellLightest_14 rfl rfl
abbrev kX11_spell : am_K := (cX11_spell, 5, RX11, wsX11_spell, some .int, { frames := 6, cells := 0, slots := 0, locals := 149 })
theorem hX11_spell : am_cl yX11_spell kX11_spell 1 := ⟨⟨_, rfl⟩, rfl, rfl, by decide +kernel, by decide +kernel, by decide +kernel⟩
theorem iX11_spell_11 : ∀ w ∈ u_ws RX11 TX11 50, w ∈ wsX11_spell := by decide +kernel
theorem fX11_spell_285 : Cond.fieldLink RX11 285 "AmbiguityAnalyzerModel" "splits" "I" ∈ wsX11_spell := by decide +kernel
theorem fX11_spell_282 : Cond.fieldLink RX11 282 "AmbiguityAnalyzerModel" "loops" "I" ∈ wsX11_spell := by decide +kernel
theorem fX11_spell_54 : Cond.fieldLink RX11 54 "AmbiguityAnalyzerModel" "isHere" "[Z" ∈ wsX11_spell := by decide +kernel
set_option maxRecDepth 100000 in
set_option maxHeartbeats 4000000 in
theorem tX11_spell {Z : am_Z} (R : am_R) (I : am_I) (L : am_L) (a0 : Nat) (x1 : Int32) (h_a0 : am_G Z a0 = some (.inl 11)) : am_M Z yX11_spell kX11_spell [.ref (am_B Z + a0), .int x1] R I L (pX11_spell R I a0 x1) (fun r : Int32 × am_I => (some (.int r.1), R, r.2, L)) := by
  refine am_entry (ls := [(0, .ref (am_B Z + a0)), (1, .int x1)]) (by decide) hX11_spell rfl (Nat.le_of_ble_eq_true rfl) rfl (fun X => ?_)
  unfold pX11_spell
  refine am_aload_n dX11_spell_0 rfl 0 rfl ?_
  refine am_callV [] (tX11_finds R I L a0 h_a0) h_a0 clX11 gX11_spell_X11_finds hX11_finds rfl ⟨Nat.le_of_ble_eq_true rfl, Nat.le_of_ble_eq_true rfl⟩ rfl rfl (Nat.le_of_ble_eq_true rfl) dX11_spell_1 (fun r1 => ?_)
  show am_V Z X kX11_spell (fun r : Int32 × am_I => (some (.int r.1), R, r.2, L)) 4 [(0, .ref (am_B Z + a0)), (1, .int x1)] [] R r1 L _
  refine am_iload_n dX11_spell_4 rfl 1 rfl ?_
  refine am_if_ne (tgt := 13) dX11_spell_5 rfl (fun e2 => ?_) (fun e2 => ?_)
  · refine am_iload_n dX11_spell_13 rfl 1 rfl ?_
    refine am_iconst (v := 3) dX11_spell_14 (by decide) ?_
    refine am_icmp_ne (tgt := 23) dX11_spell_15 rfl (fun e3 => ?_) (fun e3 => ?_)
    · refine am_iload_n dX11_spell_23 rfl 1 rfl ?_
      refine am_iconst (v := 1) dX11_spell_24 (by decide) ?_
      refine am_jnV (fun j4 ej4 => ?_)
      have hj4 : am_V Z X kX11_spell (fun r : Int32 × am_I => (some (.int r.1), R, r.2, L)) 48 [(0, .ref (am_B Z + a0)), (1, .int x1)] [] R r1 L j4 := by
        subst ej4
        show am_V Z X kX11_spell (fun r : Int32 × am_I => (some (.int r.1), R, r.2, L)) 48 [(0, .ref (am_B Z + a0)), (1, .int x1)] [] R r1 L _
        refine am_aload_n dX11_spell_48 rfl 0 rfl ?_
        refine am_callV [] (tX11_nobodyIsHere R r1 L a0 h_a0) h_a0 clX11 gX11_spell_X11_nobodyIsHere hX11_nobodyIsHere rfl ⟨Nat.le_of_ble_eq_true rfl, Nat.le_of_ble_eq_true rfl⟩ rfl rfl (Nat.le_of_ble_eq_true rfl) dX11_spell_49 (fun r5 => ?_)
        show am_V Z X kX11_spell (fun r : Int32 × am_I => (some (.int r.1), R, r.2, L)) 52 [(0, .ref (am_B Z + a0)), (1, .int x1)] [] R r5 L _
        refine am_iload_n dX11_spell_52 rfl 1 rfl ?_
        refine am_iconst (v := 1) dX11_spell_53 (by decide) ?_
        refine am_icmp_ne (tgt := 91) dX11_spell_54 rfl (fun e6 => ?_) (fun e6 => ?_)
        · refine am_aload_n dX11_spell_91 rfl 0 rfl ?_
          refine am_callV [] (tX11_firstSplit R r5 L a0 h_a0) h_a0 clX11 gX11_spell_X11_firstSplit hX11_firstSplit rfl ⟨Nat.le_of_ble_eq_true rfl, Nat.le_of_ble_eq_true rfl⟩ rfl rfl (Nat.le_of_ble_eq_true rfl) dX11_spell_92 (fun r7 => ?_)
          show am_V Z X kX11_spell (fun r : Int32 × am_I => (some (.int r.1), R, r.2, L)) 95 [(0, .ref (am_B Z + a0)), (1, .int x1)] [.int r7] R r5 L _
          refine am_bipush (v := 6) dX11_spell_95 (by decide) ?_
          refine am_idivC dX11_spell_97 (by decide) ?_
          refine am_letTi (fun v8 => ?_)
          refine am_istore_n (ls' := [(2, .int v8), (0, .ref (am_B Z + a0)), (1, .int x1)]) dX11_spell_98 rfl (Nat.le_of_ble_eq_true rfl) rfl ?_
          refine am_aload_n dX11_spell_99 rfl 1 rfl ?_
          refine am_callV [] (tX11_firstSplit R r5 L a0 h_a0) h_a0 clX11 gX11_spell_X11_firstSplit hX11_firstSplit rfl ⟨Nat.le_of_ble_eq_true rfl, Nat.le_of_ble_eq_true rfl⟩ rfl rfl (Nat.le_of_ble_eq_true rfl) dX11_spell_100 (fun r9 => ?_)
          show am_V Z X kX11_spell (fun r : Int32 × am_I => (some (.int r.1), R, r.2, L)) 103 [(2, .int v8), (0, .ref (am_B Z + a0)), (1, .int x1)] [.int r9] R r5 L _
          refine am_bipush (v := 6) dX11_spell_103 (by decide) ?_
          refine am_iremC dX11_spell_105 (by decide) ?_
          refine am_letTi (fun v10 => ?_)
          refine am_istore_n (ls' := [(3, .int v10), (2, .int v8), (0, .ref (am_B Z + a0)), (1, .int x1)]) dX11_spell_106 rfl (Nat.le_of_ble_eq_true rfl) rfl ?_
          refine am_aload_n dX11_spell_107 rfl 2 rfl ?_
          refine am_iload_n dX11_spell_108 rfl 1 rfl ?_
          refine am_iload_n dX11_spell_109 rfl 0 rfl ?_
          refine am_callV [.int v8, .int v10] (tX11_splitOf R r5 L a0 v8 v10 h_a0) h_a0 clX11 gX11_spell_X11_splitOf hX11_splitOf rfl ⟨Nat.le_of_ble_eq_true rfl, Nat.le_of_ble_eq_true rfl⟩ rfl rfl (Nat.le_of_ble_eq_true rfl) dX11_spell_110 (fun r11 => ?_)
          show am_V Z X kX11_spell (fun r : Int32 × am_I => (some (.int r.1), R, r.2, L)) 113 [(3, .int v10), (2, .int v8), (0, .ref (am_B Z + a0)), (1, .int x1)] [.int r11.1] R r11.2 L _
          refine am_istore (ls' := [(4, .int r11.1), (3, .int v10), (2, .int v8), (0, .ref (am_B Z + a0)), (1, .int x1)]) dX11_spell_113 (Nat.le_of_ble_eq_true rfl) rfl ?_
          refine am_aload_n dX11_spell_115 rfl 3 rfl ?_
          refine am_getR 11 23 clX11 (Nat.le_of_ble_eq_true rfl) h_a0 iX11_spell_11 fX11_spell_54 rfl rfl dX11_spell_116 (fun h12 => ?_)
          refine am_iload_n dX11_spell_119 rfl 2 rfl ?_
          refine am_iload_n dX11_spell_120 rfl 2 rfl ?_
          refine am_iload_n dX11_spell_121 rfl 1 rfl ?_
          refine am_callS [.int v8, .int v8, .int v10] (tX11_triple R r11.2 L v8 v8 v10) gX11_spell_X11_triple hX11_triple ⟨Nat.le_of_ble_eq_true rfl, Nat.le_of_ble_eq_true rfl⟩ rfl rfl (Nat.le_of_ble_eq_true rfl) dX11_spell_122 (fun r13 => ?_)
          show am_V Z X kX11_spell (fun r : Int32 × am_I => (some (.int r.1), R, r.2, L)) 125 [(4, .int r11.1), (3, .int v10), (2, .int v8), (0, .ref (am_B Z + a0)), (1, .int x1)] [.int r13, .ref (am_B Z + (R a0 23))] R r11.2 L _
          refine am_iconst (v := 1) dX11_spell_125 (by decide) ?_
          refine am_zast h12 (by decide) dX11_spell_126 ?_
          refine am_letI (fun J14 => ?_)
          refine am_aload_n dX11_spell_127 rfl 3 rfl ?_
          refine am_iload dX11_spell_128 0 rfl ?_
          refine am_iconst (v := 1) dX11_spell_130 (by decide) ?_
          refine am_callV [.int r11.1, .int (1 : Int32)] (tX11_spells R J14 L a0 r11.1 (1 : Int32) h_a0) h_a0 clX11 gX11_spell_X11_spells hX11_spells rfl ⟨Nat.le_of_ble_eq_true rfl, Nat.le_of_ble_eq_true rfl⟩ rfl rfl (Nat.le_of_ble_eq_true rfl) dX11_spell_131 (fun r15 => ?_)
          show am_V Z X kX11_spell (fun r : Int32 × am_I => (some (.int r.1), R, r.2, L)) 134 [(4, .int r11.1), (3, .int v10), (2, .int v8), (0, .ref (am_B Z + a0)), (1, .int x1)] [] R r15 L _
          refine am_iload dX11_spell_134 0 rfl ?_
          exact am_iret dX11_spell_136 rfl rfl
        · refine am_aload_n dX11_spell_57 rfl 0 rfl ?_
          refine am_get 11 27 clX11 (Nat.le_of_ble_eq_true rfl) h_a0 iX11_spell_11 fX11_spell_282 rfl dX11_spell_58 ?_
          refine am_callS [.int (r5 a0 27)] (tX11_lowest R r5 L (r5 a0 27)) gX11_spell_X11_lowest hX11_lowest ⟨Nat.le_of_ble_eq_true rfl, Nat.le_of_ble_eq_true rfl⟩ rfl rfl (Nat.le_of_ble_eq_true rfl) dX11_spell_61 (fun r16 => ?_)
          show am_V Z X kX11_spell (fun r : Int32 × am_I => (some (.int r.1), R, r.2, L)) 64 [(0, .ref (am_B Z + a0)), (1, .int x1)] [.int r16] R r5 L _
          refine am_istore_n (ls' := [(2, .int r16), (0, .ref (am_B Z + a0)), (1, .int x1)]) dX11_spell_64 rfl (Nat.le_of_ble_eq_true rfl) rfl ?_
          refine am_aload_n dX11_spell_65 rfl 1 rfl ?_
          refine am_iload_n dX11_spell_66 rfl 0 rfl ?_
          refine am_callV [.int r16] (tX11_loopOf R r5 L a0 r16 h_a0) h_a0 clX11 gX11_spell_X11_loopOf hX11_loopOf rfl ⟨Nat.le_of_ble_eq_true rfl, Nat.le_of_ble_eq_true rfl⟩ rfl rfl (Nat.le_of_ble_eq_true rfl) dX11_spell_67 (fun r17 => ?_)
          show am_V Z X kX11_spell (fun r : Int32 × am_I => (some (.int r.1), R, r.2, L)) 70 [(2, .int r16), (0, .ref (am_B Z + a0)), (1, .int x1)] [.int r17.1] R r17.2 L _
          refine am_istore_n (ls' := [(3, .int r17.1), (2, .int r16), (0, .ref (am_B Z + a0)), (1, .int x1)]) dX11_spell_70 rfl (Nat.le_of_ble_eq_true rfl) rfl ?_
          refine am_aload_n dX11_spell_71 rfl 2 rfl ?_
          refine am_getR 11 23 clX11 (Nat.le_of_ble_eq_true rfl) h_a0 iX11_spell_11 fX11_spell_54 rfl rfl dX11_spell_72 (fun h18 => ?_)
          refine am_iload_n dX11_spell_75 rfl 1 rfl ?_
          refine am_iload_n dX11_spell_76 rfl 1 rfl ?_
          refine am_iconst (v := 0) dX11_spell_77 (by decide) ?_
          refine am_callS [.int r16, .int r16, .int (0 : Int32)] (tX11_pairNode R r17.2 L r16 r16 (0 : Int32)) gX11_spell_X11_pairNode hX11_pairNode ⟨Nat.le_of_ble_eq_true rfl, Nat.le_of_ble_eq_true rfl⟩ rfl rfl (Nat.le_of_ble_eq_true rfl) dX11_spell_78 (fun r19 => ?_)
          show am_V Z X kX11_spell (fun r : Int32 × am_I => (some (.int r.1), R, r.2, L)) 81 [(3, .int r17.1), (2, .int r16), (0, .ref (am_B Z + a0)), (1, .int x1)] [.int r19, .ref (am_B Z + (R a0 23))] R r17.2 L _
          refine am_iconst (v := 1) dX11_spell_81 (by decide) ?_
          refine am_zast h18 (by decide) dX11_spell_82 ?_
          refine am_letI (fun J20 => ?_)
          refine am_aload_n dX11_spell_83 rfl 2 rfl ?_
          refine am_iload_n dX11_spell_84 rfl 0 rfl ?_
          refine am_iconst (v := 0) dX11_spell_85 (by decide) ?_
          refine am_callV [.int r17.1, .int (0 : Int32)] (tX11_spells R J20 L a0 r17.1 (0 : Int32) h_a0) h_a0 clX11 gX11_spell_X11_spells hX11_spells rfl ⟨Nat.le_of_ble_eq_true rfl, Nat.le_of_ble_eq_true rfl⟩ rfl rfl (Nat.le_of_ble_eq_true rfl) dX11_spell_86 (fun r21 => ?_)
          show am_V Z X kX11_spell (fun r : Int32 × am_I => (some (.int r.1), R, r.2, L)) 89 [(3, .int r17.1), (2, .int r16), (0, .ref (am_B Z + a0)), (1, .int x1)] [] R r21 L _
          refine am_iload_n dX11_spell_89 rfl 0 rfl ?_
          exact am_iret dX11_spell_90 rfl rfl
      refine am_icmp_ne (tgt := 38) dX11_spell_25 rfl (fun e22 => ?_) (fun e22 => ?_)
      · refine am_aload_n dX11_spell_38 rfl 0 rfl ?_
        refine am_get 11 28 clX11 (Nat.le_of_ble_eq_true rfl) h_a0 iX11_spell_11 fX11_spell_285 rfl dX11_spell_39 ?_
        refine am_if_ne (tgt := 48) dX11_spell_42 rfl (fun e23 => ?_) (fun e23 => ?_)
        · exact hj4
        · refine am_bipush (v := -4) dX11_spell_45 (by decide) ?_
          exact am_iret dX11_spell_47 rfl rfl
      · refine am_aload_n dX11_spell_28 rfl 0 rfl ?_
        refine am_get 11 27 clX11 (Nat.le_of_ble_eq_true rfl) h_a0 iX11_spell_11 fX11_spell_282 rfl dX11_spell_29 ?_
        refine am_if_ne (tgt := 48) dX11_spell_32 rfl (fun e24 => ?_) (fun e24 => ?_)
        · exact hj4
        · refine am_goto (tgt := 45) dX11_spell_35 rfl ?_
          refine am_bipush (v := -4) dX11_spell_45 (by decide) ?_
          exact am_iret dX11_spell_47 rfl rfl
    · refine am_aload_n dX11_spell_18 rfl 0 rfl ?_
      refine am_callV [] (tX11_spellLightest R r1 L a0 h_a0) h_a0 clX11 gX11_spell_X11_spellLightest hX11_spellLightest rfl ⟨Nat.le_of_ble_eq_true rfl, Nat.le_of_ble_eq_true rfl⟩ rfl rfl (Nat.le_of_ble_eq_true rfl) dX11_spell_19 (fun r25 => ?_)
      show am_V Z X kX11_spell (fun r : Int32 × am_I => (some (.int r.1), R, r.2, L)) 22 [(0, .ref (am_B Z + a0)), (1, .int x1)] [.int r25.1] R r25.2 L _
      exact am_iret dX11_spell_22 rfl rfl
  · refine am_aload_n dX11_spell_8 rfl 0 rfl ?_
    refine am_callV [] (tX11_spellAmbiguous R r1 L a0 h_a0) h_a0 clX11 gX11_spell_X11_spellAmbiguous hX11_spellAmbiguous rfl ⟨Nat.le_of_ble_eq_true rfl, Nat.le_of_ble_eq_true rfl⟩ rfl rfl (Nat.le_of_ble_eq_true rfl) dX11_spell_9 (fun r26 => ?_)
    show am_V Z X kX11_spell (fun r : Int32 × am_I => (some (.int r.1), R, r.2, L)) 12 [(0, .ref (am_B Z + a0)), (1, .int x1)] [.int r26.1] R r26.2 L _
    exact am_iret dX11_spell_12 rfl rfl
abbrev kX11_witnessLength : am_K := (cX11_witnessLength, 2, RX11, wsX11_witnessLength, some .int, { frames := 7, cells := 0, slots := 0, locals := 173 })
theorem hX11_witnessLength : am_cl yX11_witnessLength kX11_witnessLength 1 := ⟨⟨_, rfl⟩, rfl, rfl, by decide +kernel, by decide +kernel, by decide +kernel⟩
set_option maxRecDepth 100000 in
set_option maxHeartbeats 4000000 in
theorem tX11_witnessLength {Z : am_Z} (R : am_R) (I : am_I) (L : am_L) (a0 : Nat) (x1 : Int32) (h_a0 : am_G Z a0 = some (.inl 11)) : am_M Z yX11_witnessLength kX11_witnessLength [.ref (am_B Z + a0), .int x1] R I L (pX11_witnessLength R I a0 x1) (fun r : Int32 × am_I => (some (.int r.1), R, r.2, L)) := by
  refine am_entry (ls := [(0, .ref (am_B Z + a0)), (1, .int x1)]) (by decide) hX11_witnessLength rfl (Nat.le_of_ble_eq_true rfl) rfl (fun X => ?_)
  unfold pX11_witnessLength
  refine am_iload_n dX11_witnessLength_0 rfl 1 rfl ?_
  refine am_i2l dX11_witnessLength_1 ?_
  refine am_lconst (v := 0) dX11_witnessLength_2 (by decide) ?_
  refine am_ldc2 (v := 3) dX11_witnessLength_3 (by decide +kernel) ?_
  refine am_callS [.long (Int32.toInt64 x1), .long (0 : Int64), .long (3 : Int64)] (tX11_isBetween R I L (Int32.toInt64 x1) (0 : Int64) (3 : Int64)) gX11_witnessLength_X11_isBetween hX11_isBetween ⟨Nat.le_of_ble_eq_true rfl, Nat.le_of_ble_eq_true rfl⟩ rfl rfl (Nat.le_of_ble_eq_true rfl) dX11_witnessLength_6 (fun r1 => ?_)
  show am_V Z X kX11_witnessLength (fun r : Int32 × am_I => (some (.int r.1), R, r.2, L)) 9 [(0, .ref (am_B Z + a0)), (1, .int x1)] [.int r1] R I L _
  refine am_if_eq (tgt := 20) dX11_witnessLength_9 rfl (fun e2 => ?_) (fun e2 => ?_)
  · refine am_iconst (v := -1) dX11_witnessLength_20 (by decide) ?_
    exact am_iret dX11_witnessLength_21 rfl rfl
  · refine am_aload_n dX11_witnessLength_12 rfl 0 rfl ?_
    refine am_iload_n dX11_witnessLength_13 rfl 1 rfl ?_
    refine am_callV [.int x1] (tX11_spell R I L a0 x1 h_a0) h_a0 clX11 gX11_witnessLength_X11_spell hX11_spell rfl ⟨Nat.le_of_ble_eq_true rfl, Nat.le_of_ble_eq_true rfl⟩ rfl rfl (Nat.le_of_ble_eq_true rfl) dX11_witnessLength_14 (fun r3 => ?_)
    show am_V Z X kX11_witnessLength (fun r : Int32 × am_I => (some (.int r.1), R, r.2, L)) 17 [(0, .ref (am_B Z + a0)), (1, .int x1)] [.int r3.1] R r3.2 L _
    refine am_goto (tgt := 21) dX11_witnessLength_17 rfl ?_
    exact am_iret dX11_witnessLength_21 rfl rfl
abbrev kX11_witnessLetter : am_K := (cX11_witnessLetter, 4, RX11, wsX11_witnessLetter, some .int, { frames := 7, cells := 0, slots := 0, locals := 173 })
theorem hX11_witnessLetter : am_cl yX11_witnessLetter kX11_witnessLetter 2 := ⟨⟨_, rfl⟩, rfl, rfl, by decide +kernel, by decide +kernel, by decide +kernel⟩
theorem iX11_witnessLetter_11 : ∀ w ∈ u_ws RX11 TX11 50, w ∈ wsX11_witnessLetter := by decide +kernel
theorem fX11_witnessLetter_51 : Cond.fieldLink RX11 51 "AmbiguityAnalyzerModel" "witness" "[I" ∈ wsX11_witnessLetter := by decide +kernel
set_option maxRecDepth 100000 in
set_option maxHeartbeats 4000000 in
theorem tX11_witnessLetter {Z : am_Z} (R : am_R) (I : am_I) (L : am_L) (a0 : Nat) (x1 : Int32) (x2 : Int32) (h_a0 : am_G Z a0 = some (.inl 11)) : am_M Z yX11_witnessLetter kX11_witnessLetter [.ref (am_B Z + a0), .int x1, .int x2] R I L (pX11_witnessLetter R I a0 x1 x2) (fun r : Int32 × am_I => (some (.int r.1), R, r.2, L)) := by
  refine am_entry (ls := [(0, .ref (am_B Z + a0)), (1, .int x1), (2, .int x2)]) (by decide) hX11_witnessLetter rfl (Nat.le_of_ble_eq_true rfl) rfl (fun X => ?_)
  unfold pX11_witnessLetter
  refine am_iload_n dX11_witnessLetter_0 rfl 1 rfl ?_
  refine am_i2l dX11_witnessLetter_1 ?_
  refine am_lconst (v := 0) dX11_witnessLetter_2 (by decide) ?_
  refine am_ldc2 (v := 3) dX11_witnessLetter_3 (by decide +kernel) ?_
  refine am_callS [.long (Int32.toInt64 x1), .long (0 : Int64), .long (3 : Int64)] (tX11_isBetween R I L (Int32.toInt64 x1) (0 : Int64) (3 : Int64)) gX11_witnessLetter_X11_isBetween hX11_isBetween ⟨Nat.le_of_ble_eq_true rfl, Nat.le_of_ble_eq_true rfl⟩ rfl rfl (Nat.le_of_ble_eq_true rfl) dX11_witnessLetter_6 (fun r1 => ?_)
  show am_V Z X kX11_witnessLetter (fun r : Int32 × am_I => (some (.int r.1), R, r.2, L)) 9 [(0, .ref (am_B Z + a0)), (1, .int x1), (2, .int x2)] [.int r1] R I L _
  refine am_if_ne (tgt := 14) dX11_witnessLetter_9 rfl (fun e2 => ?_) (fun e2 => ?_)
  · refine am_aload_n dX11_witnessLetter_14 rfl 0 rfl ?_
    refine am_iload_n dX11_witnessLetter_15 rfl 1 rfl ?_
    refine am_callV [.int x1] (tX11_spell R I L a0 x1 h_a0) h_a0 clX11 gX11_witnessLetter_X11_spell hX11_spell rfl ⟨Nat.le_of_ble_eq_true rfl, Nat.le_of_ble_eq_true rfl⟩ rfl rfl (Nat.le_of_ble_eq_true rfl) dX11_witnessLetter_16 (fun r3 => ?_)
    show am_V Z X kX11_witnessLetter (fun r : Int32 × am_I => (some (.int r.1), R, r.2, L)) 19 [(0, .ref (am_B Z + a0)), (1, .int x1), (2, .int x2)] [.int r3.1] R r3.2 L _
    refine am_istore_n (ls' := [(3, .int r3.1), (0, .ref (am_B Z + a0)), (1, .int x1), (2, .int x2)]) dX11_witnessLetter_19 rfl (Nat.le_of_ble_eq_true rfl) rfl ?_
    refine am_iload_n dX11_witnessLetter_20 rfl 3 rfl ?_
    refine am_i2l dX11_witnessLetter_21 ?_
    refine am_lconst (v := 0) dX11_witnessLetter_22 (by decide) ?_
    refine am_iload_n dX11_witnessLetter_23 rfl 0 rfl ?_
    refine am_iconst (v := 1) dX11_witnessLetter_24 (by decide) ?_
    refine am_isub dX11_witnessLetter_25 ?_
    refine am_i2l dX11_witnessLetter_26 ?_
    refine am_callS [.long (Int32.toInt64 x2), .long (0 : Int64), .long (Int32.toInt64 (r3.1 - (1 : Int32)))] (tX11_isBetween R r3.2 L (Int32.toInt64 x2) (0 : Int64) (Int32.toInt64 (r3.1 - (1 : Int32)))) gX11_witnessLetter_X11_isBetween hX11_isBetween ⟨Nat.le_of_ble_eq_true rfl, Nat.le_of_ble_eq_true rfl⟩ rfl rfl (Nat.le_of_ble_eq_true rfl) dX11_witnessLetter_27 (fun r4 => ?_)
    show am_V Z X kX11_witnessLetter (fun r : Int32 × am_I => (some (.int r.1), R, r.2, L)) 30 [(3, .int r3.1), (0, .ref (am_B Z + a0)), (1, .int x1), (2, .int x2)] [.int r4] R r3.2 L _
    refine am_if_eq (tgt := 42) dX11_witnessLetter_30 rfl (fun e5 => ?_) (fun e5 => ?_)
    · refine am_bipush (v := -4) dX11_witnessLetter_42 (by decide) ?_
      exact am_iret dX11_witnessLetter_44 rfl rfl
    · refine am_aload_n dX11_witnessLetter_33 rfl 1 rfl ?_
      refine am_getR 11 22 clX11 (Nat.le_of_ble_eq_true rfl) h_a0 iX11_witnessLetter_11 fX11_witnessLetter_51 rfl rfl dX11_witnessLetter_34 (fun h6 => ?_)
      refine am_iload_n dX11_witnessLetter_37 rfl 3 rfl ?_
      refine am_iald h6 dX11_witnessLetter_38 ?_
      refine am_goto (tgt := 44) dX11_witnessLetter_39 rfl ?_
      exact am_iret dX11_witnessLetter_44 rfl rfl
  · refine am_iconst (v := -1) dX11_witnessLetter_12 (by decide) ?_
    exact am_iret dX11_witnessLetter_13 rfl rfl
abbrev kX11_takeWitness : am_K := (cX11_takeWitness, 4, RX11, wsX11_takeWitness, some .int, { frames := 7, cells := 0, slots := 0, locals := 173 })
theorem hX11_takeWitness : am_cl yX11_takeWitness kX11_takeWitness 1 := ⟨⟨_, rfl⟩, rfl, rfl, by decide +kernel, by decide +kernel, by decide +kernel⟩
theorem iX11_takeWitness_11 : ∀ w ∈ u_ws RX11 TX11 50, w ∈ wsX11_takeWitness := by decide +kernel
theorem fX11_takeWitness_197 : Cond.fieldLink RX11 197 "AmbiguityAnalyzerModel" "wordLength" "I" ∈ wsX11_takeWitness := by decide +kernel
theorem fX11_takeWitness_35 : Cond.fieldLink RX11 35 "AmbiguityAnalyzerModel" "word" "[I" ∈ wsX11_takeWitness := by decide +kernel
theorem fX11_takeWitness_51 : Cond.fieldLink RX11 51 "AmbiguityAnalyzerModel" "witness" "[I" ∈ wsX11_takeWitness := by decide +kernel
set_option maxRecDepth 100000 in
set_option maxHeartbeats 4000000 in
theorem vX11_takeWitness_43 {Z : am_Z} {X : am_X} (R : am_R) (L : am_L) (a0 : Nat) (c8 : Int32) (h7 : am_G Z a0 = some (.inl 11)) (ih11 : Int32 → am_I → Option (Int32 × am_I)) (hih11 : ∀ (v9 : Int32) (J10 : am_I), am_V Z X kX11_takeWitness (fun r : Int32 × am_I => (some (.int r.1), R, r.2, L)) 43 [(0, .ref (am_B Z + a0)), (2, .int c8), (3, .int v9)] [] R J10 L (ih11 v9 J10)) (v9 : Int32) (J10 : am_I) : am_V Z X kX11_takeWitness (fun r : Int32 × am_I => (some (.int r.1), R, r.2, L)) 43 [(0, .ref (am_B Z + a0)), (2, .int c8), (3, .int v9)] [] R J10 L (sX11_takeWitness_43 R a0 c8 ih11 v9 J10) := by
  unfold sX11_takeWitness_43
  refine am_iload_n dX11_takeWitness_43 rfl 2 rfl ?_
  refine am_iload_n dX11_takeWitness_44 rfl 1 rfl ?_
  refine am_icmp_ge (tgt := 66) dX11_takeWitness_45 rfl (fun e12 => ?_) (fun e12 => ?_)
  · refine am_iload_n dX11_takeWitness_66 rfl 1 rfl ?_
    exact am_iret dX11_takeWitness_67 rfl rfl
  · refine am_aload_n dX11_takeWitness_48 rfl 0 rfl ?_
    refine am_getR 11 15 clX11 (Nat.le_of_ble_eq_true rfl) h7 iX11_takeWitness_11 fX11_takeWitness_35 rfl rfl dX11_takeWitness_49 (fun h13 => ?_)
    refine am_iload_n dX11_takeWitness_52 rfl 2 rfl ?_
    refine am_aload_n dX11_takeWitness_53 rfl 0 rfl ?_
    refine am_getR 11 22 clX11 (Nat.le_of_ble_eq_true rfl) h7 iX11_takeWitness_11 fX11_takeWitness_51 rfl rfl dX11_takeWitness_54 (fun h14 => ?_)
    refine am_iload_n dX11_takeWitness_57 rfl 2 rfl ?_
    refine am_iald h14 dX11_takeWitness_58 ?_
    refine am_iast h13 dX11_takeWitness_59 ?_
    refine am_letI (fun J15 => ?_)
    refine am_iinc (j := 2) (ls' := [(3, .int (v9 + (1 : Int32))), (0, .ref (am_B Z + a0)), (2, .int c8)]) dX11_takeWitness_60 rfl rfl (Nat.le_of_ble_eq_true rfl) rfl ?_
    refine am_goto (tgt := 43) dX11_takeWitness_63 rfl ?_
    refine am_sub (ls' := [(0, .ref (am_B Z + a0)), (2, .int c8), (3, .int (v9 + (1 : Int32)))]) [1, 2, 0] rfl ?_
    exact hih11 (v9 + (1 : Int32)) J15
theorem uX11_takeWitness_43 {Z : am_Z} {X : am_X} (R : am_R) (L : am_L) (a0 : Nat) (c8 : Int32) (h7 : am_G Z a0 = some (.inl 11)) : ∀ (n : Nat) (v9 : Int32) (J10 : am_I), am_V Z X kX11_takeWitness (fun r : Int32 × am_I => (some (.int r.1), R, r.2, L)) 43 [(0, .ref (am_B Z + a0)), (2, .int c8), (3, .int v9)] [] R J10 L (lX11_takeWitness_43 R a0 c8 n v9 J10) := by
  intro n
  induction n with
  | zero => intro _ _; exact am_none
  | succ n ih => exact fun v9 J10 => vX11_takeWitness_43 R L a0 c8 h7 (lX11_takeWitness_43 R a0 c8 n) ih v9 J10
set_option maxRecDepth 100000 in
set_option maxHeartbeats 4000000 in
theorem tX11_takeWitness {Z : am_Z} (R : am_R) (I : am_I) (L : am_L) (a0 : Nat) (x1 : Int32) (h_a0 : am_G Z a0 = some (.inl 11)) : am_M Z yX11_takeWitness kX11_takeWitness [.ref (am_B Z + a0), .int x1] R I L (pX11_takeWitness R I a0 x1) (fun r : Int32 × am_I => (some (.int r.1), R, r.2, L)) := by
  refine am_entry (ls := [(0, .ref (am_B Z + a0)), (1, .int x1)]) (by decide) hX11_takeWitness rfl (Nat.le_of_ble_eq_true rfl) rfl (fun X => ?_)
  unfold pX11_takeWitness
  refine am_iload_n dX11_takeWitness_0 rfl 1 rfl ?_
  refine am_i2l dX11_takeWitness_1 ?_
  refine am_lconst (v := 0) dX11_takeWitness_2 (by decide) ?_
  refine am_ldc2 (v := 3) dX11_takeWitness_3 (by decide +kernel) ?_
  refine am_callS [.long (Int32.toInt64 x1), .long (0 : Int64), .long (3 : Int64)] (tX11_isBetween R I L (Int32.toInt64 x1) (0 : Int64) (3 : Int64)) gX11_takeWitness_X11_isBetween hX11_isBetween ⟨Nat.le_of_ble_eq_true rfl, Nat.le_of_ble_eq_true rfl⟩ rfl rfl (Nat.le_of_ble_eq_true rfl) dX11_takeWitness_6 (fun r1 => ?_)
  show am_V Z X kX11_takeWitness (fun r : Int32 × am_I => (some (.int r.1), R, r.2, L)) 9 [(0, .ref (am_B Z + a0)), (1, .int x1)] [.int r1] R I L _
  refine am_if_ne (tgt := 14) dX11_takeWitness_9 rfl (fun e2 => ?_) (fun e2 => ?_)
  · refine am_aload_n dX11_takeWitness_14 rfl 0 rfl ?_
    refine am_iload_n dX11_takeWitness_15 rfl 1 rfl ?_
    refine am_callV [.int x1] (tX11_spell R I L a0 x1 h_a0) h_a0 clX11 gX11_takeWitness_X11_spell hX11_spell rfl ⟨Nat.le_of_ble_eq_true rfl, Nat.le_of_ble_eq_true rfl⟩ rfl rfl (Nat.le_of_ble_eq_true rfl) dX11_takeWitness_16 (fun r3 => ?_)
    show am_V Z X kX11_takeWitness (fun r : Int32 × am_I => (some (.int r.1), R, r.2, L)) 19 [(0, .ref (am_B Z + a0)), (1, .int x1)] [.int r3.1] R r3.2 L _
    refine am_istore_n (ls' := [(2, .int r3.1), (0, .ref (am_B Z + a0)), (1, .int x1)]) dX11_takeWitness_19 rfl (Nat.le_of_ble_eq_true rfl) rfl ?_
    refine am_iload_n dX11_takeWitness_20 rfl 0 rfl ?_
    refine am_if_ge (tgt := 27) dX11_takeWitness_21 rfl (fun e4 => ?_) (fun e4 => ?_)
    · refine am_iload_n dX11_takeWitness_27 rfl 0 rfl ?_
      refine am_bipush (v := 20) dX11_takeWitness_28 (by decide) ?_
      refine am_icmp_le (tgt := 36) dX11_takeWitness_30 rfl (fun e5 => ?_) (fun e5 => ?_)
      · refine am_aload_n dX11_takeWitness_36 rfl 1 rfl ?_
        refine am_iload_n dX11_takeWitness_37 rfl 0 rfl ?_
        refine am_putI 11 16 clX11 (Nat.le_of_ble_eq_true rfl) h_a0 iX11_takeWitness_11 fX11_takeWitness_197 rfl rfl dX11_takeWitness_38 ?_
        refine am_letI (fun J6 => ?_)
        refine am_iconst (v := 0) dX11_takeWitness_41 (by decide) ?_
        refine am_istore_n (ls' := [(3, .int (0 : Int32)), (2, .int r3.1), (0, .ref (am_B Z + a0)), (1, .int x1)]) dX11_takeWitness_42 rfl (Nat.le_of_ble_eq_true rfl) rfl ?_
        refine am_sub (ls' := [(0, .ref (am_B Z + a0)), (2, .int r3.1), (3, .int (0 : Int32))]) [2, 1, 0] rfl ?_
        exact uX11_takeWitness_43 R L a0 r3.1 h_a0 am_fu (0 : Int32) J6
      · refine am_bipush (v := -3) dX11_takeWitness_33 (by decide) ?_
        exact am_iret dX11_takeWitness_35 rfl rfl
    · refine am_bipush (v := -4) dX11_takeWitness_24 (by decide) ?_
      exact am_iret dX11_takeWitness_26 rfl rfl
  · refine am_iconst (v := -1) dX11_takeWitness_12 (by decide) ?_
    exact am_iret dX11_takeWitness_13 rfl rfl
abbrev kX11_setWeight : am_K := (cX11_setWeight, 4, RX11, wsX11_setWeight, some .int, { frames := 1, cells := 0, slots := 0, locals := 25 })
theorem hX11_setWeight : am_cl yX11_setWeight kX11_setWeight 2 := ⟨⟨_, rfl⟩, rfl, rfl, by decide +kernel, by decide +kernel, by decide +kernel⟩
theorem iX11_setWeight_11 : ∀ w ∈ u_ws RX11 TX11 50, w ∈ wsX11_setWeight := by decide +kernel
theorem fX11_setWeight_16 : Cond.fieldLink RX11 16 "AmbiguityAnalyzerModel" "weight" "[I" ∈ wsX11_setWeight := by decide +kernel
set_option maxRecDepth 100000 in
set_option maxHeartbeats 4000000 in
theorem tX11_setWeight {Z : am_Z} (R : am_R) (I : am_I) (L : am_L) (a0 : Nat) (x1 : Int32) (x2 : Int32) (h_a0 : am_G Z a0 = some (.inl 11)) : am_M Z yX11_setWeight kX11_setWeight [.ref (am_B Z + a0), .int x1, .int x2] R I L (pX11_setWeight R I a0 x1 x2) (fun r : Int32 × am_I => (some (.int r.1), R, r.2, L)) := by
  refine am_entry (ls := [(0, .ref (am_B Z + a0)), (1, .int x1), (2, .int x2)]) (by decide) hX11_setWeight rfl (Nat.le_of_ble_eq_true rfl) rfl (fun X => ?_)
  unfold pX11_setWeight
  refine am_iload_n dX11_setWeight_0 rfl 1 rfl ?_
  refine am_callS [.int x1] (tX11_isLetter R I L x1) gX11_setWeight_X11_isLetter hX11_isLetter ⟨Nat.le_of_ble_eq_true rfl, Nat.le_of_ble_eq_true rfl⟩ rfl rfl (Nat.le_of_ble_eq_true rfl) dX11_setWeight_1 (fun r1 => ?_)
  show am_V Z X kX11_setWeight (fun r : Int32 × am_I => (some (.int r.1), R, r.2, L)) 4 [(0, .ref (am_B Z + a0)), (1, .int x1), (2, .int x2)] [.int r1] R I L _
  refine am_if_ne (tgt := 9) dX11_setWeight_4 rfl (fun e2 => ?_) (fun e2 => ?_)
  · refine am_iload_n dX11_setWeight_9 rfl 2 rfl ?_
    refine am_i2l dX11_setWeight_10 ?_
    refine am_lconst (v := 0) dX11_setWeight_11 (by decide) ?_
    refine am_ldc2 (v := 100) dX11_setWeight_12 (by decide +kernel) ?_
    refine am_callS [.long (Int32.toInt64 x2), .long (0 : Int64), .long (100 : Int64)] (tX11_isBetween R I L (Int32.toInt64 x2) (0 : Int64) (100 : Int64)) gX11_setWeight_X11_isBetween hX11_isBetween ⟨Nat.le_of_ble_eq_true rfl, Nat.le_of_ble_eq_true rfl⟩ rfl rfl (Nat.le_of_ble_eq_true rfl) dX11_setWeight_15 (fun r3 => ?_)
    show am_V Z X kX11_setWeight (fun r : Int32 × am_I => (some (.int r.1), R, r.2, L)) 18 [(0, .ref (am_B Z + a0)), (1, .int x1), (2, .int x2)] [.int r3] R I L _
    refine am_if_ne (tgt := 24) dX11_setWeight_18 rfl (fun e4 => ?_) (fun e4 => ?_)
    · refine am_aload_n dX11_setWeight_24 rfl 0 rfl ?_
      refine am_getR 11 2 clX11 (Nat.le_of_ble_eq_true rfl) h_a0 iX11_setWeight_11 fX11_setWeight_16 rfl rfl dX11_setWeight_25 (fun h5 => ?_)
      refine am_iload_n dX11_setWeight_28 rfl 1 rfl ?_
      refine am_iald h5 dX11_setWeight_29 ?_
      refine am_letTi (fun v6 => ?_)
      refine am_istore_n (ls' := [(3, .int v6), (0, .ref (am_B Z + a0)), (1, .int x1), (2, .int x2)]) dX11_setWeight_30 rfl (Nat.le_of_ble_eq_true rfl) rfl ?_
      refine am_aload_n dX11_setWeight_31 rfl 1 rfl ?_
      refine am_getR 11 2 clX11 (Nat.le_of_ble_eq_true rfl) h_a0 iX11_setWeight_11 fX11_setWeight_16 rfl rfl dX11_setWeight_32 (fun h7 => ?_)
      refine am_iload_n dX11_setWeight_35 rfl 2 rfl ?_
      refine am_iload_n dX11_setWeight_36 rfl 3 rfl ?_
      refine am_iast h7 dX11_setWeight_37 ?_
      refine am_letI (fun J8 => ?_)
      refine am_iload_n dX11_setWeight_38 rfl 0 rfl ?_
      exact am_iret dX11_setWeight_39 rfl rfl
    · refine am_bipush (v := -2) dX11_setWeight_21 (by decide) ?_
      exact am_iret dX11_setWeight_23 rfl rfl
  · refine am_iconst (v := -1) dX11_setWeight_7 (by decide) ?_
    exact am_iret dX11_setWeight_8 rfl rfl
abbrev kX11_lightestWeight : am_K := (cX11_lightestWeight, 2, RX11, wsX11_lightestWeight, some .int, { frames := 2, cells := 0, slots := 0, locals := 47 })
theorem hX11_lightestWeight : am_cl yX11_lightestWeight kX11_lightestWeight 0 := ⟨⟨_, rfl⟩, rfl, rfl, by decide +kernel, by decide +kernel, by decide +kernel⟩
set_option maxRecDepth 100000 in
set_option maxHeartbeats 4000000 in
theorem tX11_lightestWeight {Z : am_Z} (R : am_R) (I : am_I) (L : am_L) (a0 : Nat) (h_a0 : am_G Z a0 = some (.inl 11)) : am_M Z yX11_lightestWeight kX11_lightestWeight [.ref (am_B Z + a0)] R I L (pX11_lightestWeight R I a0) (fun r : Int32 × am_I => (some (.int r.1), R, r.2, L)) := by
  refine am_entry (ls := [(0, .ref (am_B Z + a0))]) (by decide) hX11_lightestWeight rfl (Nat.le_of_ble_eq_true rfl) rfl (fun X => ?_)
  unfold pX11_lightestWeight
  refine am_aload_n dX11_lightestWeight_0 rfl 0 rfl ?_
  refine am_callV [] (tX11_findLightest R I L a0 h_a0) h_a0 clX11 gX11_lightestWeight_X11_findLightest hX11_findLightest rfl ⟨Nat.le_of_ble_eq_true rfl, Nat.le_of_ble_eq_true rfl⟩ rfl rfl (Nat.le_of_ble_eq_true rfl) dX11_lightestWeight_1 (fun r1 => ?_)
  show am_V Z X kX11_lightestWeight (fun r : Int32 × am_I => (some (.int r.1), R, r.2, L)) 4 [(0, .ref (am_B Z + a0))] [.int r1.1] R r1.2 L _
  refine am_istore_n (ls' := [(1, .int r1.1), (0, .ref (am_B Z + a0))]) dX11_lightestWeight_4 rfl (Nat.le_of_ble_eq_true rfl) rfl ?_
  refine am_iload_n dX11_lightestWeight_5 rfl 0 rfl ?_
  refine am_ldcw (v := 1000000) dX11_lightestWeight_6 (by decide +kernel) ?_
  refine am_icmp_ne (tgt := 17) dX11_lightestWeight_9 rfl (fun e2 => ?_) (fun e2 => ?_)
  · refine am_iload_n dX11_lightestWeight_17 rfl 0 rfl ?_
    refine am_bipush (v := 16) dX11_lightestWeight_18 (by decide) ?_
    refine am_idivC dX11_lightestWeight_20 (by decide) ?_
    exact am_iret dX11_lightestWeight_21 rfl rfl
  · refine am_bipush (v := -4) dX11_lightestWeight_12 (by decide) ?_
    refine am_goto (tgt := 21) dX11_lightestWeight_14 rfl ?_
    exact am_iret dX11_lightestWeight_21 rfl rfl
abbrev kX11_numberOfState : am_K := (cX11_numberOfState, 4, RX11, wsX11_numberOfState, some .int, { frames := 0, cells := 0, slots := 0, locals := 0 })
theorem hX11_numberOfState : am_cl yX11_numberOfState kX11_numberOfState 2 := ⟨⟨_, rfl⟩, rfl, rfl, by decide +kernel, by decide +kernel, by decide +kernel⟩
theorem iX11_numberOfState_11 : ∀ w ∈ u_ws RX11 TX11 50, w ∈ wsX11_numberOfState := by decide +kernel
theorem fX11_numberOfState_335 : Cond.fieldLink RX11 335 "AmbiguityAnalyzerModel" "found" "I" ∈ wsX11_numberOfState := by decide +kernel
theorem fX11_numberOfState_82 : Cond.fieldLink RX11 82 "AmbiguityAnalyzerModel" "newOwn" "[I" ∈ wsX11_numberOfState := by decide +kernel
theorem fX11_numberOfState_85 : Cond.fieldLink RX11 85 "AmbiguityAnalyzerModel" "newLower" "[I" ∈ wsX11_numberOfState := by decide +kernel
set_option maxRecDepth 100000 in
set_option maxHeartbeats 4000000 in
theorem vX11_numberOfState_2 {Z : am_Z} {X : am_X} (R : am_R) (I : am_I) (L : am_L) (a0 : Nat) (x1 : Int32) (x2 : Int32) (h8 : am_G Z a0 = some (.inl 11)) (j1 : Option (Int32 × am_I)) (hj1 : am_V Z X kX11_numberOfState (fun r : Int32 × am_I => (some (.int r.1), R, r.2, L)) 38 [(0, .ref (am_B Z + a0)), (1, .int x1), (2, .int x2)] [] R I L j1) (ih10 : Int32 → Option (Int32 × am_I)) (hih10 : ∀ (v9 : Int32), am_V Z X kX11_numberOfState (fun r : Int32 × am_I => (some (.int r.1), R, r.2, L)) 2 [(0, .ref (am_B Z + a0)), (1, .int x1), (2, .int x2), (3, .int v9)] [] R I L (ih10 v9)) (v9 : Int32) : am_V Z X kX11_numberOfState (fun r : Int32 × am_I => (some (.int r.1), R, r.2, L)) 2 [(0, .ref (am_B Z + a0)), (1, .int x1), (2, .int x2), (3, .int v9)] [] R I L (sX11_numberOfState_2 R I a0 x1 x2 j1 ih10 v9) := by
  unfold sX11_numberOfState_2
  refine am_iload_n dX11_numberOfState_2 rfl 3 rfl ?_
  refine am_aload_n dX11_numberOfState_3 rfl 0 rfl ?_
  refine am_get 11 41 clX11 (Nat.le_of_ble_eq_true rfl) h8 iX11_numberOfState_11 fX11_numberOfState_335 rfl dX11_numberOfState_4 ?_
  refine am_icmp_ge (tgt := 38) dX11_numberOfState_7 rfl (fun e11 => ?_) (fun e11 => ?_)
  · refine am_sub (ls' := [(0, .ref (am_B Z + a0)), (1, .int x1), (2, .int x2)]) [0, 1, 2] rfl ?_
    exact hj1
  · refine am_aload_n dX11_numberOfState_10 rfl 0 rfl ?_
    refine am_getR 11 36 clX11 (Nat.le_of_ble_eq_true rfl) h8 iX11_numberOfState_11 fX11_numberOfState_82 rfl rfl dX11_numberOfState_11 (fun h12 => ?_)
    refine am_iload_n dX11_numberOfState_14 rfl 3 rfl ?_
    refine am_iald h12 dX11_numberOfState_15 ?_
    refine am_iload_n dX11_numberOfState_16 rfl 1 rfl ?_
    refine am_jnV (fun j13 ej13 => ?_)
    have hj13 : am_V Z X kX11_numberOfState (fun r : Int32 × am_I => (some (.int r.1), R, r.2, L)) 32 [(0, .ref (am_B Z + a0)), (1, .int x1), (2, .int x2), (3, .int v9)] [] R I L j13 := by
      subst ej13
      show am_V Z X kX11_numberOfState (fun r : Int32 × am_I => (some (.int r.1), R, r.2, L)) 32 [(0, .ref (am_B Z + a0)), (1, .int x1), (2, .int x2), (3, .int v9)] [] R I L _
      refine am_iinc (j := 3) (ls' := [(3, .int (v9 + (1 : Int32))), (0, .ref (am_B Z + a0)), (1, .int x1), (2, .int x2)]) dX11_numberOfState_32 rfl rfl (Nat.le_of_ble_eq_true rfl) rfl ?_
      refine am_goto (tgt := 2) dX11_numberOfState_35 rfl ?_
      refine am_sub (ls' := [(0, .ref (am_B Z + a0)), (1, .int x1), (2, .int x2), (3, .int (v9 + (1 : Int32)))]) [1, 2, 3, 0] rfl ?_
      exact hih10 (v9 + (1 : Int32))
    refine am_icmp_ne (tgt := 32) dX11_numberOfState_17 rfl (fun e14 => ?_) (fun e14 => ?_)
    · exact hj13
    · refine am_aload_n dX11_numberOfState_20 rfl 0 rfl ?_
      refine am_getR 11 37 clX11 (Nat.le_of_ble_eq_true rfl) h8 iX11_numberOfState_11 fX11_numberOfState_85 rfl rfl dX11_numberOfState_21 (fun h15 => ?_)
      refine am_iload_n dX11_numberOfState_24 rfl 3 rfl ?_
      refine am_iald h15 dX11_numberOfState_25 ?_
      refine am_iload_n dX11_numberOfState_26 rfl 2 rfl ?_
      refine am_icmp_ne (tgt := 32) dX11_numberOfState_27 rfl (fun e16 => ?_) (fun e16 => ?_)
      · exact hj13
      · refine am_iload_n dX11_numberOfState_30 rfl 3 rfl ?_
        exact am_iret dX11_numberOfState_31 rfl rfl
theorem uX11_numberOfState_2 {Z : am_Z} {X : am_X} (R : am_R) (I : am_I) (L : am_L) (a0 : Nat) (x1 : Int32) (x2 : Int32) (h8 : am_G Z a0 = some (.inl 11)) (j1 : Option (Int32 × am_I)) (hj1 : am_V Z X kX11_numberOfState (fun r : Int32 × am_I => (some (.int r.1), R, r.2, L)) 38 [(0, .ref (am_B Z + a0)), (1, .int x1), (2, .int x2)] [] R I L j1) : ∀ (n : Nat) (v9 : Int32), am_V Z X kX11_numberOfState (fun r : Int32 × am_I => (some (.int r.1), R, r.2, L)) 2 [(0, .ref (am_B Z + a0)), (1, .int x1), (2, .int x2), (3, .int v9)] [] R I L (lX11_numberOfState_2 R I a0 x1 x2 j1 n v9) := by
  intro n
  induction n with
  | zero => intro _; exact am_none
  | succ n ih => exact fun v9 => vX11_numberOfState_2 R I L a0 x1 x2 h8 j1 hj1 (lX11_numberOfState_2 R I a0 x1 x2 j1 n) ih v9
set_option maxRecDepth 100000 in
set_option maxHeartbeats 4000000 in
theorem tX11_numberOfState {Z : am_Z} (R : am_R) (I : am_I) (L : am_L) (a0 : Nat) (x1 : Int32) (x2 : Int32) (h_a0 : am_G Z a0 = some (.inl 11)) : am_M Z yX11_numberOfState kX11_numberOfState [.ref (am_B Z + a0), .int x1, .int x2] R I L (pX11_numberOfState R I a0 x1 x2) (fun r : Int32 × am_I => (some (.int r.1), R, r.2, L)) := by
  refine am_entry (ls := [(0, .ref (am_B Z + a0)), (1, .int x1), (2, .int x2)]) (by decide) hX11_numberOfState rfl (Nat.le_of_ble_eq_true rfl) rfl (fun X => ?_)
  unfold pX11_numberOfState
  refine am_iconst (v := 0) dX11_numberOfState_0 (by decide) ?_
  refine am_istore_n (ls' := [(3, .int (0 : Int32)), (0, .ref (am_B Z + a0)), (1, .int x1), (2, .int x2)]) dX11_numberOfState_1 rfl (Nat.le_of_ble_eq_true rfl) rfl ?_
  refine am_jnV (fun j1 ej1 => ?_)
  have hj1 : am_V Z X kX11_numberOfState (fun r : Int32 × am_I => (some (.int r.1), R, r.2, L)) 38 [(0, .ref (am_B Z + a0)), (1, .int x1), (2, .int x2)] [] R I L j1 := by
    subst ej1
    show am_V Z X kX11_numberOfState (fun r : Int32 × am_I => (some (.int r.1), R, r.2, L)) 38 [(0, .ref (am_B Z + a0)), (1, .int x1), (2, .int x2)] [] R I L _
    refine am_aload_n dX11_numberOfState_38 rfl 0 rfl ?_
    refine am_get 11 41 clX11 (Nat.le_of_ble_eq_true rfl) h_a0 iX11_numberOfState_11 fX11_numberOfState_335 rfl dX11_numberOfState_39 ?_
    refine am_bipush (v := 64) dX11_numberOfState_42 (by decide) ?_
    refine am_icmp_ne (tgt := 49) dX11_numberOfState_44 rfl (fun e2 => ?_) (fun e2 => ?_)
    · refine am_aload_n dX11_numberOfState_49 rfl 0 rfl ?_
      refine am_getR 11 36 clX11 (Nat.le_of_ble_eq_true rfl) h_a0 iX11_numberOfState_11 fX11_numberOfState_82 rfl rfl dX11_numberOfState_50 (fun h3 => ?_)
      refine am_aload_n dX11_numberOfState_53 rfl 0 rfl ?_
      refine am_get 11 41 clX11 (Nat.le_of_ble_eq_true rfl) h_a0 iX11_numberOfState_11 fX11_numberOfState_335 rfl dX11_numberOfState_54 ?_
      refine am_iload_n dX11_numberOfState_57 rfl 1 rfl ?_
      refine am_iast h3 dX11_numberOfState_58 ?_
      refine am_letI (fun J4 => ?_)
      refine am_aload_n dX11_numberOfState_59 rfl 0 rfl ?_
      refine am_getR 11 37 clX11 (Nat.le_of_ble_eq_true rfl) h_a0 iX11_numberOfState_11 fX11_numberOfState_85 rfl rfl dX11_numberOfState_60 (fun h5 => ?_)
      refine am_aload_n dX11_numberOfState_63 rfl 0 rfl ?_
      refine am_get 11 41 clX11 (Nat.le_of_ble_eq_true rfl) h_a0 iX11_numberOfState_11 fX11_numberOfState_335 rfl dX11_numberOfState_64 ?_
      refine am_iload_n dX11_numberOfState_67 rfl 2 rfl ?_
      refine am_iast h5 dX11_numberOfState_68 ?_
      refine am_letI (fun J6 => ?_)
      refine am_aload_n dX11_numberOfState_69 rfl 0 rfl ?_
      refine am_dup dX11_numberOfState_70 rfl ?_
      refine am_get 11 41 clX11 (Nat.le_of_ble_eq_true rfl) h_a0 iX11_numberOfState_11 fX11_numberOfState_335 rfl dX11_numberOfState_71 ?_
      refine am_iconst (v := 1) dX11_numberOfState_74 (by decide) ?_
      refine am_iadd dX11_numberOfState_75 ?_
      refine am_putI 11 41 clX11 (Nat.le_of_ble_eq_true rfl) h_a0 iX11_numberOfState_11 fX11_numberOfState_335 rfl rfl dX11_numberOfState_76 ?_
      refine am_letI (fun J7 => ?_)
      refine am_aload_n dX11_numberOfState_79 rfl 0 rfl ?_
      refine am_get 11 41 clX11 (Nat.le_of_ble_eq_true rfl) h_a0 iX11_numberOfState_11 fX11_numberOfState_335 rfl dX11_numberOfState_80 ?_
      refine am_iconst (v := 1) dX11_numberOfState_83 (by decide) ?_
      refine am_isub dX11_numberOfState_84 ?_
      exact am_iret dX11_numberOfState_85 rfl rfl
    · refine am_iconst (v := -1) dX11_numberOfState_47 (by decide) ?_
      exact am_iret dX11_numberOfState_48 rfl rfl
  refine am_sub (ls' := [(0, .ref (am_B Z + a0)), (1, .int x1), (2, .int x2), (3, .int (0 : Int32))]) [1, 2, 3, 0] rfl ?_
  exact uX11_numberOfState_2 R I L a0 x1 x2 h_a0 j1 hj1 am_fu (0 : Int32)
