abbrev kX11_resultAmbiguity : am_K := (cX11_resultAmbiguity, 4, RX11, wsX11_resultAmbiguity, some .long, { frames := 1, cells := 0, slots := 0, locals := 22 })
theorem hX11_resultAmbiguity : am_cl yX11_resultAmbiguity kX11_resultAmbiguity 0 := ⟨⟨_, rfl⟩, rfl, rfl, by decide +kernel, by decide +kernel, by decide +kernel⟩
theorem iX11_resultAmbiguity_11 : ∀ w ∈ u_ws RX11 TX11 50, w ∈ wsX11_resultAmbiguity := by decide +kernel
theorem fX11_resultAmbiguity_94 : Cond.fieldLink RX11 94 "AmbiguityAnalyzerModel" "resultStates" "I" ∈ wsX11_resultAmbiguity := by decide +kernel
theorem fX11_resultAmbiguity_38 : Cond.fieldLink RX11 38 "AmbiguityAnalyzerModel" "ways" "[J" ∈ wsX11_resultAmbiguity := by decide +kernel
theorem fX11_resultAmbiguity_347 : Cond.fieldLink RX11 347 "AmbiguityAnalyzerModel" "resultInitials" "J" ∈ wsX11_resultAmbiguity := by decide +kernel
theorem fX11_resultAmbiguity_197 : Cond.fieldLink RX11 197 "AmbiguityAnalyzerModel" "wordLength" "I" ∈ wsX11_resultAmbiguity := by decide +kernel
theorem fX11_resultAmbiguity_42 : Cond.fieldLink RX11 42 "AmbiguityAnalyzerModel" "newWays" "[J" ∈ wsX11_resultAmbiguity := by decide +kernel
theorem fX11_resultAmbiguity_88 : Cond.fieldLink RX11 88 "AmbiguityAnalyzerModel" "resultTargets" "[J" ∈ wsX11_resultAmbiguity := by decide +kernel
theorem fX11_resultAmbiguity_35 : Cond.fieldLink RX11 35 "AmbiguityAnalyzerModel" "word" "[I" ∈ wsX11_resultAmbiguity := by decide +kernel
theorem fX11_resultAmbiguity_351 : Cond.fieldLink RX11 351 "AmbiguityAnalyzerModel" "resultFinals" "J" ∈ wsX11_resultAmbiguity := by decide +kernel
set_option maxRecDepth 100000 in
set_option maxHeartbeats 4000000 in
theorem vX11_resultAmbiguity_177 {Z : am_Z} {X : am_X} (R : am_R) (I : am_I) (a0 : Nat) (J5 : am_L) (h6 : am_G Z a0 = some (.inl 11)) (ih9 : Int64 → Int32 → Option (Int64 × am_L)) (hih9 : ∀ (v7 : Int64) (v8 : Int32), am_V Z X kX11_resultAmbiguity (fun r : Int64 × am_L => (some (.long r.1), R, I, r.2)) 177 [(0, .ref (am_B Z + a0)), (1, .long v7), (3, .int v8)] [] R I J5 (ih9 v7 v8)) (v7 : Int64) (v8 : Int32) : am_V Z X kX11_resultAmbiguity (fun r : Int64 × am_L => (some (.long r.1), R, I, r.2)) 177 [(0, .ref (am_B Z + a0)), (1, .long v7), (3, .int v8)] [] R I J5 (sX11_resultAmbiguity_177 R I a0 J5 ih9 v7 v8) := by
  unfold sX11_resultAmbiguity_177
  refine am_iload_n dX11_resultAmbiguity_177 rfl 2 rfl ?_
  refine am_aload_n dX11_resultAmbiguity_178 rfl 0 rfl ?_
  refine am_get 11 40 clX11 (Nat.le_of_ble_eq_true rfl) h6 iX11_resultAmbiguity_11 fX11_resultAmbiguity_94 rfl dX11_resultAmbiguity_179 ?_
  refine am_icmp_ge (tgt := 215) dX11_resultAmbiguity_182 rfl (fun e10 => ?_) (fun e10 => ?_)
  · refine am_lload_n dX11_resultAmbiguity_215 rfl 1 rfl ?_
    exact am_lret dX11_resultAmbiguity_216 rfl rfl
  · refine am_lload_n dX11_resultAmbiguity_185 rfl 1 rfl ?_
    refine am_aload_n dX11_resultAmbiguity_186 rfl 0 rfl ?_
    refine am_get 11 43 clX11 (Nat.le_of_ble_eq_true rfl) h6 iX11_resultAmbiguity_11 fX11_resultAmbiguity_351 rfl dX11_resultAmbiguity_187 ?_
    refine am_iload_n dX11_resultAmbiguity_190 rfl 2 rfl ?_
    refine am_callS [.long (J5 a0 43), .int v8] (tX11_has R I J5 (J5 a0 43) v8) gX11_resultAmbiguity_X11_has hX11_has ⟨Nat.le_of_ble_eq_true rfl, Nat.le_of_ble_eq_true rfl⟩ rfl rfl (Nat.le_of_ble_eq_true rfl) dX11_resultAmbiguity_191 (fun r11 => ?_)
    show am_V Z X kX11_resultAmbiguity (fun r : Int64 × am_L => (some (.long r.1), R, I, r.2)) 194 [(0, .ref (am_B Z + a0)), (1, .long v7), (3, .int v8)] [.int r11, .long v7] R I J5 _
    refine am_jnV (fun j12 ej12 => ?_)
    have hj12 : ∀ (v13 : Int64), am_V Z X kX11_resultAmbiguity (fun r : Int64 × am_L => (some (.long r.1), R, I, r.2)) 207 [(0, .ref (am_B Z + a0)), (3, .int v8)] [.long v13, .long v7] R I J5 (j12 v13) := by
      subst ej12
      intro v13
      show am_V Z X kX11_resultAmbiguity (fun r : Int64 × am_L => (some (.long r.1), R, I, r.2)) 207 [(0, .ref (am_B Z + a0)), (3, .int v8)] [.long v13, .long v7] R I J5 _
      refine am_ladd dX11_resultAmbiguity_207 ?_
      refine am_letTl (fun v14 => ?_)
      refine am_lstore_n (ls' := [(1, .long v14), (0, .ref (am_B Z + a0)), (3, .int v8)]) dX11_resultAmbiguity_208 rfl (Nat.le_of_ble_eq_true rfl) rfl ?_
      refine am_iinc (j := 2) (ls' := [(3, .int (v8 + (1 : Int32))), (1, .long v14), (0, .ref (am_B Z + a0))]) dX11_resultAmbiguity_209 rfl rfl (Nat.le_of_ble_eq_true rfl) rfl ?_
      refine am_goto (tgt := 177) dX11_resultAmbiguity_212 rfl ?_
      refine am_sub (ls' := [(0, .ref (am_B Z + a0)), (1, .long v14), (3, .int (v8 + (1 : Int32)))]) [2, 1, 0] rfl ?_
      exact hih9 v14 (v8 + (1 : Int32))
    refine am_if_eq (tgt := 206) dX11_resultAmbiguity_194 rfl (fun e15 => ?_) (fun e15 => ?_)
    · refine am_lconst (v := 0) dX11_resultAmbiguity_206 (by decide) ?_
      refine am_sub (ls' := [(0, .ref (am_B Z + a0)), (3, .int v8)]) [0, 2] rfl ?_
      exact hj12 (0 : Int64)
    · refine am_aload_n dX11_resultAmbiguity_197 rfl 0 rfl ?_
      refine am_getR 11 17 clX11 (Nat.le_of_ble_eq_true rfl) h6 iX11_resultAmbiguity_11 fX11_resultAmbiguity_38 rfl rfl dX11_resultAmbiguity_198 (fun h16 => ?_)
      refine am_iload_n dX11_resultAmbiguity_201 rfl 2 rfl ?_
      refine am_lald h16 dX11_resultAmbiguity_202 ?_
      refine am_goto (tgt := 207) dX11_resultAmbiguity_203 rfl ?_
      refine am_sub (ls' := [(0, .ref (am_B Z + a0)), (3, .int v8)]) [0, 2] rfl ?_
      exact hj12 (J5 (R a0 17) (Int32.toNatClampNeg v8))
theorem uX11_resultAmbiguity_177 {Z : am_Z} {X : am_X} (R : am_R) (I : am_I) (a0 : Nat) (J5 : am_L) (h6 : am_G Z a0 = some (.inl 11)) : ∀ (n : Nat) (v7 : Int64) (v8 : Int32), am_V Z X kX11_resultAmbiguity (fun r : Int64 × am_L => (some (.long r.1), R, I, r.2)) 177 [(0, .ref (am_B Z + a0)), (1, .long v7), (3, .int v8)] [] R I J5 (lX11_resultAmbiguity_177 R I a0 J5 n v7 v8) := by
  intro n
  induction n with
  | zero => intro _ _; exact am_none
  | succ n ih => exact fun v7 v8 => vX11_resultAmbiguity_177 R I a0 J5 h6 (lX11_resultAmbiguity_177 R I a0 J5 n) ih v7 v8
set_option maxRecDepth 100000 in
set_option maxHeartbeats 4000000 in
theorem vX11_resultAmbiguity_141 {Z : am_Z} {X : am_X} (R : am_R) (I : am_I) (a0 : Nat) (v18 : Int32) (h26 : am_G Z a0 = some (.inl 11)) (j24 : am_L → Option (Int64 × am_L)) (hj24 : ∀ (J25 : am_L), am_V Z X kX11_resultAmbiguity (fun r : Int64 × am_L => (some (.long r.1), R, I, r.2)) 167 [(0, .ref (am_B Z + a0)), (1, .int v18)] [] R I J25 (j24 J25)) (ih29 : Int32 → am_L → Option (Int64 × am_L)) (hih29 : ∀ (v27 : Int32) (J28 : am_L), am_V Z X kX11_resultAmbiguity (fun r : Int64 × am_L => (some (.long r.1), R, I, r.2)) 141 [(0, .ref (am_B Z + a0)), (1, .int v18), (2, .int v27)] [] R I J28 (ih29 v27 J28)) (v27 : Int32) (J28 : am_L) : am_V Z X kX11_resultAmbiguity (fun r : Int64 × am_L => (some (.long r.1), R, I, r.2)) 141 [(0, .ref (am_B Z + a0)), (1, .int v18), (2, .int v27)] [] R I J28 (sX11_resultAmbiguity_141 R I a0 v18 j24 ih29 v27 J28) := by
  unfold sX11_resultAmbiguity_141
  refine am_iload_n dX11_resultAmbiguity_141 rfl 2 rfl ?_
  refine am_aload_n dX11_resultAmbiguity_142 rfl 0 rfl ?_
  refine am_get 11 40 clX11 (Nat.le_of_ble_eq_true rfl) h26 iX11_resultAmbiguity_11 fX11_resultAmbiguity_94 rfl dX11_resultAmbiguity_143 ?_
  refine am_icmp_ge (tgt := 167) dX11_resultAmbiguity_146 rfl (fun e30 => ?_) (fun e30 => ?_)
  · refine am_sub (ls' := [(0, .ref (am_B Z + a0)), (1, .int v18)]) [0, 1] rfl ?_
    exact hj24 J28
  · refine am_aload_n dX11_resultAmbiguity_149 rfl 0 rfl ?_
    refine am_getR 11 17 clX11 (Nat.le_of_ble_eq_true rfl) h26 iX11_resultAmbiguity_11 fX11_resultAmbiguity_38 rfl rfl dX11_resultAmbiguity_150 (fun h31 => ?_)
    refine am_iload_n dX11_resultAmbiguity_153 rfl 2 rfl ?_
    refine am_aload_n dX11_resultAmbiguity_154 rfl 0 rfl ?_
    refine am_getR 11 18 clX11 (Nat.le_of_ble_eq_true rfl) h26 iX11_resultAmbiguity_11 fX11_resultAmbiguity_42 rfl rfl dX11_resultAmbiguity_155 (fun h32 => ?_)
    refine am_iload_n dX11_resultAmbiguity_158 rfl 2 rfl ?_
    refine am_lald h32 dX11_resultAmbiguity_159 ?_
    refine am_last h31 dX11_resultAmbiguity_160 ?_
    refine am_letL (fun J33 => ?_)
    refine am_iinc (j := 2) (ls' := [(2, .int (v27 + (1 : Int32))), (0, .ref (am_B Z + a0)), (1, .int v18)]) dX11_resultAmbiguity_161 rfl rfl (Nat.le_of_ble_eq_true rfl) rfl ?_
    refine am_goto (tgt := 141) dX11_resultAmbiguity_164 rfl ?_
    refine am_sub (ls' := [(0, .ref (am_B Z + a0)), (1, .int v18), (2, .int (v27 + (1 : Int32)))]) [1, 2, 0] rfl ?_
    exact hih29 (v27 + (1 : Int32)) J33
theorem uX11_resultAmbiguity_141 {Z : am_Z} {X : am_X} (R : am_R) (I : am_I) (a0 : Nat) (v18 : Int32) (h26 : am_G Z a0 = some (.inl 11)) (j24 : am_L → Option (Int64 × am_L)) (hj24 : ∀ (J25 : am_L), am_V Z X kX11_resultAmbiguity (fun r : Int64 × am_L => (some (.long r.1), R, I, r.2)) 167 [(0, .ref (am_B Z + a0)), (1, .int v18)] [] R I J25 (j24 J25)) : ∀ (n : Nat) (v27 : Int32) (J28 : am_L), am_V Z X kX11_resultAmbiguity (fun r : Int64 × am_L => (some (.long r.1), R, I, r.2)) 141 [(0, .ref (am_B Z + a0)), (1, .int v18), (2, .int v27)] [] R I J28 (lX11_resultAmbiguity_141 R I a0 v18 j24 n v27 J28) := by
  intro n
  induction n with
  | zero => intro _ _; exact am_none
  | succ n ih => exact fun v27 J28 => vX11_resultAmbiguity_141 R I a0 v18 h26 j24 hj24 (lX11_resultAmbiguity_141 R I a0 v18 j24 n) ih v27 J28
set_option maxRecDepth 100000 in
set_option maxHeartbeats 4000000 in
theorem vX11_resultAmbiguity_78 {Z : am_Z} {X : am_X} (R : am_R) (I : am_I) (a0 : Nat) (v18 : Int32) (v35 : Int32) (h43 : am_G Z a0 = some (.inl 11)) (j41 : am_L → Option (Int64 × am_L)) (hj41 : ∀ (J42 : am_L), am_V Z X kX11_resultAmbiguity (fun r : Int64 × am_L => (some (.long r.1), R, I, r.2)) 133 [(0, .ref (am_B Z + a0)), (1, .int v18), (2, .int v35)] [] R I J42 (j41 J42)) (ih46 : Int32 → am_L → Option (Int64 × am_L)) (hih46 : ∀ (v44 : Int32) (J45 : am_L), am_V Z X kX11_resultAmbiguity (fun r : Int64 × am_L => (some (.long r.1), R, I, r.2)) 78 [(0, .ref (am_B Z + a0)), (1, .int v18), (2, .int v35), (3, .int v44)] [] R I J45 (ih46 v44 J45)) (v44 : Int32) (J45 : am_L) : am_V Z X kX11_resultAmbiguity (fun r : Int64 × am_L => (some (.long r.1), R, I, r.2)) 78 [(0, .ref (am_B Z + a0)), (1, .int v18), (2, .int v35), (3, .int v44)] [] R I J45 (sX11_resultAmbiguity_78 R I a0 v18 v35 j41 ih46 v44 J45) := by
  unfold sX11_resultAmbiguity_78
  refine am_iload_n dX11_resultAmbiguity_78 rfl 3 rfl ?_
  refine am_aload_n dX11_resultAmbiguity_79 rfl 0 rfl ?_
  refine am_get 11 40 clX11 (Nat.le_of_ble_eq_true rfl) h43 iX11_resultAmbiguity_11 fX11_resultAmbiguity_94 rfl dX11_resultAmbiguity_80 ?_
  refine am_icmp_ge (tgt := 133) dX11_resultAmbiguity_83 rfl (fun e47 => ?_) (fun e47 => ?_)
  · refine am_sub (ls' := [(0, .ref (am_B Z + a0)), (1, .int v18), (2, .int v35)]) [0, 1, 2] rfl ?_
    exact hj41 J45
  · refine am_aload_n dX11_resultAmbiguity_86 rfl 0 rfl ?_
    refine am_getR 11 18 clX11 (Nat.le_of_ble_eq_true rfl) h43 iX11_resultAmbiguity_11 fX11_resultAmbiguity_42 rfl rfl dX11_resultAmbiguity_87 (fun h48 => ?_)
    refine am_iload_n dX11_resultAmbiguity_90 rfl 2 rfl ?_
    refine am_dup2 dX11_resultAmbiguity_91 rfl rfl ?_
    refine am_lald h48 dX11_resultAmbiguity_92 ?_
    refine am_aload_n dX11_resultAmbiguity_93 rfl 0 rfl ?_
    refine am_getR 11 38 clX11 (Nat.le_of_ble_eq_true rfl) h43 iX11_resultAmbiguity_11 fX11_resultAmbiguity_88 rfl rfl dX11_resultAmbiguity_94 (fun h49 => ?_)
    refine am_iconst (v := 3) dX11_resultAmbiguity_97 (by decide) ?_
    refine am_iload_n dX11_resultAmbiguity_98 rfl 3 rfl ?_
    refine am_imul dX11_resultAmbiguity_99 ?_
    refine am_aload_n dX11_resultAmbiguity_100 rfl 0 rfl ?_
    refine am_getR 11 15 clX11 (Nat.le_of_ble_eq_true rfl) h43 iX11_resultAmbiguity_11 fX11_resultAmbiguity_35 rfl rfl dX11_resultAmbiguity_101 (fun h50 => ?_)
    refine am_iload_n dX11_resultAmbiguity_104 rfl 1 rfl ?_
    refine am_iald h50 dX11_resultAmbiguity_105 ?_
    refine am_iadd dX11_resultAmbiguity_106 ?_
    refine am_lald h49 dX11_resultAmbiguity_107 ?_
    refine am_iload_n dX11_resultAmbiguity_108 rfl 2 rfl ?_
    refine am_callS [.long (J45 (R a0 38) (Int32.toNatClampNeg (((3 : Int32) * v44) + (I (R a0 15) (Int32.toNatClampNeg v18))))), .int v35] (tX11_has R I J45 (J45 (R a0 38) (Int32.toNatClampNeg (((3 : Int32) * v44) + (I (R a0 15) (Int32.toNatClampNeg v18))))) v35) gX11_resultAmbiguity_X11_has hX11_has ⟨Nat.le_of_ble_eq_true rfl, Nat.le_of_ble_eq_true rfl⟩ rfl rfl (Nat.le_of_ble_eq_true rfl) dX11_resultAmbiguity_109 (fun r51 => ?_)
    show am_V Z X kX11_resultAmbiguity (fun r : Int64 × am_L => (some (.long r.1), R, I, r.2)) 112 [(0, .ref (am_B Z + a0)), (1, .int v18), (2, .int v35), (3, .int v44)] [.int r51, .long (J45 (R a0 18) (Int32.toNatClampNeg v35)), .int v35, .ref (am_B Z + (R a0 18))] R I J45 _
    refine am_jnV (fun j52 ej52 => ?_)
    have hj52 : ∀ (v53 : Int64), am_V Z X kX11_resultAmbiguity (fun r : Int64 × am_L => (some (.long r.1), R, I, r.2)) 125 [(0, .ref (am_B Z + a0)), (1, .int v18), (2, .int v35), (3, .int v44)] [.long v53, .long (J45 (R a0 18) (Int32.toNatClampNeg v35)), .int v35, .ref (am_B Z + (R a0 18))] R I J45 (j52 v53) := by
      subst ej52
      intro v53
      show am_V Z X kX11_resultAmbiguity (fun r : Int64 × am_L => (some (.long r.1), R, I, r.2)) 125 [(0, .ref (am_B Z + a0)), (1, .int v18), (2, .int v35), (3, .int v44)] [.long v53, .long (J45 (R a0 18) (Int32.toNatClampNeg v35)), .int v35, .ref (am_B Z + (R a0 18))] R I J45 _
      refine am_ladd dX11_resultAmbiguity_125 ?_
      refine am_last h48 dX11_resultAmbiguity_126 ?_
      refine am_letL (fun J54 => ?_)
      refine am_iinc (j := 3) (ls' := [(3, .int (v44 + (1 : Int32))), (0, .ref (am_B Z + a0)), (1, .int v18), (2, .int v35)]) dX11_resultAmbiguity_127 rfl rfl (Nat.le_of_ble_eq_true rfl) rfl ?_
      refine am_goto (tgt := 78) dX11_resultAmbiguity_130 rfl ?_
      refine am_sub (ls' := [(0, .ref (am_B Z + a0)), (1, .int v18), (2, .int v35), (3, .int (v44 + (1 : Int32)))]) [1, 2, 3, 0] rfl ?_
      exact hih46 (v44 + (1 : Int32)) J54
    refine am_if_eq (tgt := 124) dX11_resultAmbiguity_112 rfl (fun e55 => ?_) (fun e55 => ?_)
    · refine am_lconst (v := 0) dX11_resultAmbiguity_124 (by decide) ?_
      exact hj52 (0 : Int64)
    · refine am_aload_n dX11_resultAmbiguity_115 rfl 0 rfl ?_
      refine am_getR 11 17 clX11 (Nat.le_of_ble_eq_true rfl) h43 iX11_resultAmbiguity_11 fX11_resultAmbiguity_38 rfl rfl dX11_resultAmbiguity_116 (fun h56 => ?_)
      refine am_iload_n dX11_resultAmbiguity_119 rfl 3 rfl ?_
      refine am_lald h56 dX11_resultAmbiguity_120 ?_
      refine am_goto (tgt := 125) dX11_resultAmbiguity_121 rfl ?_
      exact hj52 (J45 (R a0 17) (Int32.toNatClampNeg v44))
theorem uX11_resultAmbiguity_78 {Z : am_Z} {X : am_X} (R : am_R) (I : am_I) (a0 : Nat) (v18 : Int32) (v35 : Int32) (h43 : am_G Z a0 = some (.inl 11)) (j41 : am_L → Option (Int64 × am_L)) (hj41 : ∀ (J42 : am_L), am_V Z X kX11_resultAmbiguity (fun r : Int64 × am_L => (some (.long r.1), R, I, r.2)) 133 [(0, .ref (am_B Z + a0)), (1, .int v18), (2, .int v35)] [] R I J42 (j41 J42)) : ∀ (n : Nat) (v44 : Int32) (J45 : am_L), am_V Z X kX11_resultAmbiguity (fun r : Int64 × am_L => (some (.long r.1), R, I, r.2)) 78 [(0, .ref (am_B Z + a0)), (1, .int v18), (2, .int v35), (3, .int v44)] [] R I J45 (lX11_resultAmbiguity_78 R I a0 v18 v35 j41 n v44 J45) := by
  intro n
  induction n with
  | zero => intro _ _; exact am_none
  | succ n ih => exact fun v44 J45 => vX11_resultAmbiguity_78 R I a0 v18 v35 h43 j41 hj41 (lX11_resultAmbiguity_78 R I a0 v18 v35 j41 n) ih v44 J45
set_option maxRecDepth 100000 in
set_option maxHeartbeats 4000000 in
theorem vX11_resultAmbiguity_61 {Z : am_Z} {X : am_X} (R : am_R) (I : am_I) (a0 : Nat) (v18 : Int32) (h34 : am_G Z a0 = some (.inl 11)) (j22 : am_L → Option (Int64 × am_L)) (hj22 : ∀ (J23 : am_L), am_V Z X kX11_resultAmbiguity (fun r : Int64 × am_L => (some (.long r.1), R, I, r.2)) 139 [(0, .ref (am_B Z + a0)), (1, .int v18)] [] R I J23 (j22 J23)) (ih37 : Int32 → am_L → Option (Int64 × am_L)) (hih37 : ∀ (v35 : Int32) (J36 : am_L), am_V Z X kX11_resultAmbiguity (fun r : Int64 × am_L => (some (.long r.1), R, I, r.2)) 61 [(0, .ref (am_B Z + a0)), (1, .int v18), (2, .int v35)] [] R I J36 (ih37 v35 J36)) (v35 : Int32) (J36 : am_L) : am_V Z X kX11_resultAmbiguity (fun r : Int64 × am_L => (some (.long r.1), R, I, r.2)) 61 [(0, .ref (am_B Z + a0)), (1, .int v18), (2, .int v35)] [] R I J36 (sX11_resultAmbiguity_61 R I a0 v18 j22 ih37 v35 J36) := by
  unfold sX11_resultAmbiguity_61
  refine am_iload_n dX11_resultAmbiguity_61 rfl 2 rfl ?_
  refine am_aload_n dX11_resultAmbiguity_62 rfl 0 rfl ?_
  refine am_get 11 40 clX11 (Nat.le_of_ble_eq_true rfl) h34 iX11_resultAmbiguity_11 fX11_resultAmbiguity_94 rfl dX11_resultAmbiguity_63 ?_
  refine am_icmp_ge (tgt := 139) dX11_resultAmbiguity_66 rfl (fun e38 => ?_) (fun e38 => ?_)
  · refine am_sub (ls' := [(0, .ref (am_B Z + a0)), (1, .int v18)]) [0, 1] rfl ?_
    exact hj22 J36
  · refine am_aload_n dX11_resultAmbiguity_69 rfl 0 rfl ?_
    refine am_getR 11 18 clX11 (Nat.le_of_ble_eq_true rfl) h34 iX11_resultAmbiguity_11 fX11_resultAmbiguity_42 rfl rfl dX11_resultAmbiguity_70 (fun h39 => ?_)
    refine am_iload_n dX11_resultAmbiguity_73 rfl 2 rfl ?_
    refine am_lconst (v := 0) dX11_resultAmbiguity_74 (by decide) ?_
    refine am_last h39 dX11_resultAmbiguity_75 ?_
    refine am_letL (fun J40 => ?_)
    refine am_iconst (v := 0) dX11_resultAmbiguity_76 (by decide) ?_
    refine am_istore_n (ls' := [(3, .int (0 : Int32)), (0, .ref (am_B Z + a0)), (1, .int v18), (2, .int v35)]) dX11_resultAmbiguity_77 rfl (Nat.le_of_ble_eq_true rfl) rfl ?_
    refine am_jnV (fun j41 ej41 => ?_)
    have hj41 : ∀ (J42 : am_L), am_V Z X kX11_resultAmbiguity (fun r : Int64 × am_L => (some (.long r.1), R, I, r.2)) 133 [(0, .ref (am_B Z + a0)), (1, .int v18), (2, .int v35)] [] R I J42 (j41 J42) := by
      subst ej41
      intro J42
      show am_V Z X kX11_resultAmbiguity (fun r : Int64 × am_L => (some (.long r.1), R, I, r.2)) 133 [(0, .ref (am_B Z + a0)), (1, .int v18), (2, .int v35)] [] R I J42 _
      refine am_iinc (j := 2) (ls' := [(2, .int (v35 + (1 : Int32))), (0, .ref (am_B Z + a0)), (1, .int v18)]) dX11_resultAmbiguity_133 rfl rfl (Nat.le_of_ble_eq_true rfl) rfl ?_
      refine am_goto (tgt := 61) dX11_resultAmbiguity_136 rfl ?_
      refine am_sub (ls' := [(0, .ref (am_B Z + a0)), (1, .int v18), (2, .int (v35 + (1 : Int32)))]) [1, 2, 0] rfl ?_
      exact hih37 (v35 + (1 : Int32)) J42
    refine am_sub (ls' := [(0, .ref (am_B Z + a0)), (1, .int v18), (2, .int v35), (3, .int (0 : Int32))]) [1, 2, 3, 0] rfl ?_
    exact uX11_resultAmbiguity_78 R I a0 v18 v35 h34 j41 hj41 am_fu (0 : Int32) J40
theorem uX11_resultAmbiguity_61 {Z : am_Z} {X : am_X} (R : am_R) (I : am_I) (a0 : Nat) (v18 : Int32) (h34 : am_G Z a0 = some (.inl 11)) (j22 : am_L → Option (Int64 × am_L)) (hj22 : ∀ (J23 : am_L), am_V Z X kX11_resultAmbiguity (fun r : Int64 × am_L => (some (.long r.1), R, I, r.2)) 139 [(0, .ref (am_B Z + a0)), (1, .int v18)] [] R I J23 (j22 J23)) : ∀ (n : Nat) (v35 : Int32) (J36 : am_L), am_V Z X kX11_resultAmbiguity (fun r : Int64 × am_L => (some (.long r.1), R, I, r.2)) 61 [(0, .ref (am_B Z + a0)), (1, .int v18), (2, .int v35)] [] R I J36 (lX11_resultAmbiguity_61 R I a0 v18 j22 n v35 J36) := by
  intro n
  induction n with
  | zero => intro _ _; exact am_none
  | succ n ih => exact fun v35 J36 => vX11_resultAmbiguity_61 R I a0 v18 h34 j22 hj22 (lX11_resultAmbiguity_61 R I a0 v18 j22 n) ih v35 J36
set_option maxRecDepth 100000 in
set_option maxHeartbeats 4000000 in
theorem vX11_resultAmbiguity_51 {Z : am_Z} {X : am_X} (R : am_R) (I : am_I) (a0 : Nat) (h17 : am_G Z a0 = some (.inl 11)) (j4 : am_L → Option (Int64 × am_L)) (hj4 : ∀ (J5 : am_L), am_V Z X kX11_resultAmbiguity (fun r : Int64 × am_L => (some (.long r.1), R, I, r.2)) 173 [(0, .ref (am_B Z + a0))] [] R I J5 (j4 J5)) (ih20 : Int32 → am_L → Option (Int64 × am_L)) (hih20 : ∀ (v18 : Int32) (J19 : am_L), am_V Z X kX11_resultAmbiguity (fun r : Int64 × am_L => (some (.long r.1), R, I, r.2)) 51 [(0, .ref (am_B Z + a0)), (1, .int v18)] [] R I J19 (ih20 v18 J19)) (v18 : Int32) (J19 : am_L) : am_V Z X kX11_resultAmbiguity (fun r : Int64 × am_L => (some (.long r.1), R, I, r.2)) 51 [(0, .ref (am_B Z + a0)), (1, .int v18)] [] R I J19 (sX11_resultAmbiguity_51 R I a0 j4 ih20 v18 J19) := by
  unfold sX11_resultAmbiguity_51
  refine am_iload_n dX11_resultAmbiguity_51 rfl 1 rfl ?_
  refine am_aload_n dX11_resultAmbiguity_52 rfl 0 rfl ?_
  refine am_get 11 16 clX11 (Nat.le_of_ble_eq_true rfl) h17 iX11_resultAmbiguity_11 fX11_resultAmbiguity_197 rfl dX11_resultAmbiguity_53 ?_
  refine am_icmp_ge (tgt := 173) dX11_resultAmbiguity_56 rfl (fun e21 => ?_) (fun e21 => ?_)
  · refine am_sub (ls' := [(0, .ref (am_B Z + a0))]) [0] rfl ?_
    exact hj4 J19
  · refine am_iconst (v := 0) dX11_resultAmbiguity_59 (by decide) ?_
    refine am_istore_n (ls' := [(2, .int (0 : Int32)), (0, .ref (am_B Z + a0)), (1, .int v18)]) dX11_resultAmbiguity_60 rfl (Nat.le_of_ble_eq_true rfl) rfl ?_
    refine am_jnV (fun j22 ej22 => ?_)
    have hj22 : ∀ (J23 : am_L), am_V Z X kX11_resultAmbiguity (fun r : Int64 × am_L => (some (.long r.1), R, I, r.2)) 139 [(0, .ref (am_B Z + a0)), (1, .int v18)] [] R I J23 (j22 J23) := by
      subst ej22
      intro J23
      show am_V Z X kX11_resultAmbiguity (fun r : Int64 × am_L => (some (.long r.1), R, I, r.2)) 139 [(0, .ref (am_B Z + a0)), (1, .int v18)] [] R I J23 _
      refine am_iconst (v := 0) dX11_resultAmbiguity_139 (by decide) ?_
      refine am_istore_n (ls' := [(2, .int (0 : Int32)), (0, .ref (am_B Z + a0)), (1, .int v18)]) dX11_resultAmbiguity_140 rfl (Nat.le_of_ble_eq_true rfl) rfl ?_
      refine am_jnV (fun j24 ej24 => ?_)
      have hj24 : ∀ (J25 : am_L), am_V Z X kX11_resultAmbiguity (fun r : Int64 × am_L => (some (.long r.1), R, I, r.2)) 167 [(0, .ref (am_B Z + a0)), (1, .int v18)] [] R I J25 (j24 J25) := by
        subst ej24
        intro J25
        show am_V Z X kX11_resultAmbiguity (fun r : Int64 × am_L => (some (.long r.1), R, I, r.2)) 167 [(0, .ref (am_B Z + a0)), (1, .int v18)] [] R I J25 _
        refine am_iinc (j := 1) (ls' := [(1, .int (v18 + (1 : Int32))), (0, .ref (am_B Z + a0))]) dX11_resultAmbiguity_167 rfl rfl (Nat.le_of_ble_eq_true rfl) rfl ?_
        refine am_goto (tgt := 51) dX11_resultAmbiguity_170 rfl ?_
        refine am_sub (ls' := [(0, .ref (am_B Z + a0)), (1, .int (v18 + (1 : Int32)))]) [1, 0] rfl ?_
        exact hih20 (v18 + (1 : Int32)) J25
      refine am_sub (ls' := [(0, .ref (am_B Z + a0)), (1, .int v18), (2, .int (0 : Int32))]) [1, 2, 0] rfl ?_
      exact uX11_resultAmbiguity_141 R I a0 v18 h17 j24 hj24 am_fu (0 : Int32) J23
    refine am_sub (ls' := [(0, .ref (am_B Z + a0)), (1, .int v18), (2, .int (0 : Int32))]) [1, 2, 0] rfl ?_
    exact uX11_resultAmbiguity_61 R I a0 v18 h17 j22 hj22 am_fu (0 : Int32) J19
theorem uX11_resultAmbiguity_51 {Z : am_Z} {X : am_X} (R : am_R) (I : am_I) (a0 : Nat) (h17 : am_G Z a0 = some (.inl 11)) (j4 : am_L → Option (Int64 × am_L)) (hj4 : ∀ (J5 : am_L), am_V Z X kX11_resultAmbiguity (fun r : Int64 × am_L => (some (.long r.1), R, I, r.2)) 173 [(0, .ref (am_B Z + a0))] [] R I J5 (j4 J5)) : ∀ (n : Nat) (v18 : Int32) (J19 : am_L), am_V Z X kX11_resultAmbiguity (fun r : Int64 × am_L => (some (.long r.1), R, I, r.2)) 51 [(0, .ref (am_B Z + a0)), (1, .int v18)] [] R I J19 (lX11_resultAmbiguity_51 R I a0 j4 n v18 J19) := by
  intro n
  induction n with
  | zero => intro _ _; exact am_none
  | succ n ih => exact fun v18 J19 => vX11_resultAmbiguity_51 R I a0 h17 j4 hj4 (lX11_resultAmbiguity_51 R I a0 j4 n) ih v18 J19
set_option maxRecDepth 100000 in
set_option maxHeartbeats 4000000 in
theorem vX11_resultAmbiguity_13 {Z : am_Z} {X : am_X} (R : am_R) (I : am_I) (a0 : Nat) (h57 : am_G Z a0 = some (.inl 11)) (j2 : am_L → Option (Int64 × am_L)) (hj2 : ∀ (J3 : am_L), am_V Z X kX11_resultAmbiguity (fun r : Int64 × am_L => (some (.long r.1), R, I, r.2)) 49 [(0, .ref (am_B Z + a0))] [] R I J3 (j2 J3)) (ih60 : Int32 → am_L → Option (Int64 × am_L)) (hih60 : ∀ (v58 : Int32) (J59 : am_L), am_V Z X kX11_resultAmbiguity (fun r : Int64 × am_L => (some (.long r.1), R, I, r.2)) 13 [(0, .ref (am_B Z + a0)), (1, .int v58)] [] R I J59 (ih60 v58 J59)) (v58 : Int32) (J59 : am_L) : am_V Z X kX11_resultAmbiguity (fun r : Int64 × am_L => (some (.long r.1), R, I, r.2)) 13 [(0, .ref (am_B Z + a0)), (1, .int v58)] [] R I J59 (sX11_resultAmbiguity_13 R I a0 j2 ih60 v58 J59) := by
  unfold sX11_resultAmbiguity_13
  refine am_iload_n dX11_resultAmbiguity_13 rfl 1 rfl ?_
  refine am_aload_n dX11_resultAmbiguity_14 rfl 0 rfl ?_
  refine am_get 11 40 clX11 (Nat.le_of_ble_eq_true rfl) h57 iX11_resultAmbiguity_11 fX11_resultAmbiguity_94 rfl dX11_resultAmbiguity_15 ?_
  refine am_icmp_ge (tgt := 49) dX11_resultAmbiguity_18 rfl (fun e61 => ?_) (fun e61 => ?_)
  · refine am_sub (ls' := [(0, .ref (am_B Z + a0))]) [0] rfl ?_
    exact hj2 J59
  · refine am_aload_n dX11_resultAmbiguity_21 rfl 0 rfl ?_
    refine am_getR 11 17 clX11 (Nat.le_of_ble_eq_true rfl) h57 iX11_resultAmbiguity_11 fX11_resultAmbiguity_38 rfl rfl dX11_resultAmbiguity_22 (fun h62 => ?_)
    refine am_iload_n dX11_resultAmbiguity_25 rfl 1 rfl ?_
    refine am_aload_n dX11_resultAmbiguity_26 rfl 0 rfl ?_
    refine am_get 11 42 clX11 (Nat.le_of_ble_eq_true rfl) h57 iX11_resultAmbiguity_11 fX11_resultAmbiguity_347 rfl dX11_resultAmbiguity_27 ?_
    refine am_iload_n dX11_resultAmbiguity_30 rfl 1 rfl ?_
    refine am_callS [.long (J59 a0 42), .int v58] (tX11_has R I J59 (J59 a0 42) v58) gX11_resultAmbiguity_X11_has hX11_has ⟨Nat.le_of_ble_eq_true rfl, Nat.le_of_ble_eq_true rfl⟩ rfl rfl (Nat.le_of_ble_eq_true rfl) dX11_resultAmbiguity_31 (fun r63 => ?_)
    show am_V Z X kX11_resultAmbiguity (fun r : Int64 × am_L => (some (.long r.1), R, I, r.2)) 34 [(0, .ref (am_B Z + a0)), (1, .int v58)] [.int r63, .int v58, .ref (am_B Z + (R a0 17))] R I J59 _
    refine am_letJ (fun k65 ek65 => ?_)
    have hk65 : ∀ v64 : Int64, am_V Z X kX11_resultAmbiguity (fun r : Int64 × am_L => (some (.long r.1), R, I, r.2)) 42 [(0, .ref (am_B Z + a0)), (1, .int v58)] [.long v64, .int v58, .ref (am_B Z + (R a0 17))] R I J59 (k65 v64) := by
      subst ek65
      intro v64
      show am_V Z X kX11_resultAmbiguity (fun r : Int64 × am_L => (some (.long r.1), R, I, r.2)) 42 [(0, .ref (am_B Z + a0)), (1, .int v58)] [.long v64, .int v58, .ref (am_B Z + (R a0 17))] R I J59 _
      refine am_last h62 dX11_resultAmbiguity_42 ?_
      refine am_letL (fun J66 => ?_)
      refine am_iinc (j := 1) (ls' := [(1, .int (v58 + (1 : Int32))), (0, .ref (am_B Z + a0))]) dX11_resultAmbiguity_43 rfl rfl (Nat.le_of_ble_eq_true rfl) rfl ?_
      refine am_goto (tgt := 13) dX11_resultAmbiguity_46 rfl ?_
      refine am_sub (ls' := [(0, .ref (am_B Z + a0)), (1, .int (v58 + (1 : Int32)))]) [1, 0] rfl ?_
      exact hih60 (v58 + (1 : Int32)) J66
    refine am_if_eqL (tgt := 41) dX11_resultAmbiguity_34 rfl (fun e67 => ?_) (fun e67 => ?_)
    · refine am_lconst (v := 0) dX11_resultAmbiguity_41 (by decide) ?_
      exact hk65 _
    · refine am_lconst (v := 1) dX11_resultAmbiguity_37 (by decide) ?_
      refine am_goto (tgt := 42) dX11_resultAmbiguity_38 rfl ?_
      exact hk65 _
theorem uX11_resultAmbiguity_13 {Z : am_Z} {X : am_X} (R : am_R) (I : am_I) (a0 : Nat) (h57 : am_G Z a0 = some (.inl 11)) (j2 : am_L → Option (Int64 × am_L)) (hj2 : ∀ (J3 : am_L), am_V Z X kX11_resultAmbiguity (fun r : Int64 × am_L => (some (.long r.1), R, I, r.2)) 49 [(0, .ref (am_B Z + a0))] [] R I J3 (j2 J3)) : ∀ (n : Nat) (v58 : Int32) (J59 : am_L), am_V Z X kX11_resultAmbiguity (fun r : Int64 × am_L => (some (.long r.1), R, I, r.2)) 13 [(0, .ref (am_B Z + a0)), (1, .int v58)] [] R I J59 (lX11_resultAmbiguity_13 R I a0 j2 n v58 J59) := by
  intro n
  induction n with
  | zero => intro _ _; exact am_none
  | succ n ih => exact fun v58 J59 => vX11_resultAmbiguity_13 R I a0 h57 j2 hj2 (lX11_resultAmbiguity_13 R I a0 j2 n) ih v58 J59
set_option maxRecDepth 100000 in
set_option maxHeartbeats 4000000 in
theorem tX11_resultAmbiguity {Z : am_Z} (R : am_R) (I : am_I) (L : am_L) (a0 : Nat) (h_a0 : am_G Z a0 = some (.inl 11)) : am_M Z yX11_resultAmbiguity kX11_resultAmbiguity [.ref (am_B Z + a0)] R I L (pX11_resultAmbiguity R I L a0) (fun r : Int64 × am_L => (some (.long r.1), R, I, r.2)) := by
  refine am_entry (ls := [(0, .ref (am_B Z + a0))]) (by decide) hX11_resultAmbiguity rfl (Nat.le_of_ble_eq_true rfl) rfl (fun X => ?_)
  unfold pX11_resultAmbiguity
  refine am_aload_n dX11_resultAmbiguity_0 rfl 0 rfl ?_
  refine am_get 11 40 clX11 (Nat.le_of_ble_eq_true rfl) h_a0 iX11_resultAmbiguity_11 fX11_resultAmbiguity_94 rfl dX11_resultAmbiguity_1 ?_
  refine am_if_ge (tgt := 11) dX11_resultAmbiguity_4 rfl (fun e1 => ?_) (fun e1 => ?_)
  · refine am_iconst (v := 0) dX11_resultAmbiguity_11 (by decide) ?_
    refine am_istore_n (ls' := [(1, .int (0 : Int32)), (0, .ref (am_B Z + a0))]) dX11_resultAmbiguity_12 rfl (Nat.le_of_ble_eq_true rfl) rfl ?_
    refine am_jnV (fun j2 ej2 => ?_)
    have hj2 : ∀ (J3 : am_L), am_V Z X kX11_resultAmbiguity (fun r : Int64 × am_L => (some (.long r.1), R, I, r.2)) 49 [(0, .ref (am_B Z + a0))] [] R I J3 (j2 J3) := by
      subst ej2
      intro J3
      show am_V Z X kX11_resultAmbiguity (fun r : Int64 × am_L => (some (.long r.1), R, I, r.2)) 49 [(0, .ref (am_B Z + a0))] [] R I J3 _
      refine am_iconst (v := 0) dX11_resultAmbiguity_49 (by decide) ?_
      refine am_istore_n (ls' := [(1, .int (0 : Int32)), (0, .ref (am_B Z + a0))]) dX11_resultAmbiguity_50 rfl (Nat.le_of_ble_eq_true rfl) rfl ?_
      refine am_jnV (fun j4 ej4 => ?_)
      have hj4 : ∀ (J5 : am_L), am_V Z X kX11_resultAmbiguity (fun r : Int64 × am_L => (some (.long r.1), R, I, r.2)) 173 [(0, .ref (am_B Z + a0))] [] R I J5 (j4 J5) := by
        subst ej4
        intro J5
        show am_V Z X kX11_resultAmbiguity (fun r : Int64 × am_L => (some (.long r.1), R, I, r.2)) 173 [(0, .ref (am_B Z + a0))] [] R I J5 _
        refine am_lconst (v := 0) dX11_resultAmbiguity_173 (by decide) ?_
        refine am_lstore_n (ls' := [(1, .long (0 : Int64)), (0, .ref (am_B Z + a0))]) dX11_resultAmbiguity_174 rfl (Nat.le_of_ble_eq_true rfl) rfl ?_
        refine am_iconst (v := 0) dX11_resultAmbiguity_175 (by decide) ?_
        refine am_istore_n (ls' := [(3, .int (0 : Int32)), (1, .long (0 : Int64)), (0, .ref (am_B Z + a0))]) dX11_resultAmbiguity_176 rfl (Nat.le_of_ble_eq_true rfl) rfl ?_
        refine am_sub (ls' := [(0, .ref (am_B Z + a0)), (1, .long (0 : Int64)), (3, .int (0 : Int32))]) [2, 1, 0] rfl ?_
        exact uX11_resultAmbiguity_177 R I a0 J5 h_a0 am_fu (0 : Int64) (0 : Int32)
      refine am_sub (ls' := [(0, .ref (am_B Z + a0)), (1, .int (0 : Int32))]) [1, 0] rfl ?_
      exact uX11_resultAmbiguity_51 R I a0 h_a0 j4 hj4 am_fu (0 : Int32) J3
    refine am_sub (ls' := [(0, .ref (am_B Z + a0)), (1, .int (0 : Int32))]) [1, 0] rfl ?_
    exact uX11_resultAmbiguity_13 R I a0 h_a0 j2 hj2 am_fu (0 : Int32) L
  · refine am_ldc2 (v := -4) dX11_resultAmbiguity_7 (by decide +kernel) ?_
    exact am_lret dX11_resultAmbiguity_10 rfl rfl
abbrev kX11_isShelf : am_K := (cX11_isShelf, 1, RX11, wsX11_isShelf, some .boolean, { frames := 0, cells := 0, slots := 0, locals := 0 })
theorem hX11_isShelf : am_cl yX11_isShelf kX11_isShelf 1 := ⟨⟨_, rfl⟩, rfl, rfl, by decide +kernel, by decide +kernel, by decide +kernel⟩
set_option maxRecDepth 100000 in
set_option maxHeartbeats 4000000 in
theorem tX11_isShelf {Z : am_Z} (R : am_R) (I : am_I) (L : am_L) (x0 : Int32)  : am_M Z yX11_isShelf kX11_isShelf [.int x0] R I L (pX11_isShelf x0) (fun r : Int32 => (some (.int r), R, I, L)) := by
  refine am_entry (ls := [(0, .int x0)]) (by decide) hX11_isShelf rfl (Nat.le_of_ble_eq_true rfl) rfl (fun X => ?_)
  unfold pX11_isShelf
  refine am_iload_n dX11_isShelf_0 rfl 0 rfl ?_
  refine am_if_lt (tgt := 13) dX11_isShelf_1 rfl (fun e1 => ?_) (fun e1 => ?_)
  · refine am_iconst (v := 0) dX11_isShelf_13 (by decide) ?_
    exact am_zret (by decide) dX11_isShelf_14 rfl rfl
  · refine am_iload_n dX11_isShelf_4 rfl 0 rfl ?_
    refine am_iconst (v := 4) dX11_isShelf_5 (by decide) ?_
    refine am_icmp_ge (tgt := 13) dX11_isShelf_6 rfl (fun e2 => ?_) (fun e2 => ?_)
    · refine am_iconst (v := 0) dX11_isShelf_13 (by decide) ?_
      exact am_zret (by decide) dX11_isShelf_14 rfl rfl
    · refine am_iconst (v := 1) dX11_isShelf_9 (by decide) ?_
      refine am_goto (tgt := 14) dX11_isShelf_10 rfl ?_
      exact am_zret (by decide) dX11_isShelf_14 rfl rfl
abbrev kX11_keepWord : am_K := (cX11_keepWord, 3, RX11, wsX11_keepWord, some .int, { frames := 1, cells := 0, slots := 0, locals := 20 })
theorem hX11_keepWord : am_cl yX11_keepWord kX11_keepWord 1 := ⟨⟨_, rfl⟩, rfl, rfl, by decide +kernel, by decide +kernel, by decide +kernel⟩
theorem iX11_keepWord_11 : ∀ w ∈ u_ws RX11 TX11 50, w ∈ wsX11_keepWord := by decide +kernel
theorem fX11_keepWord_97 : Cond.fieldLink RX11 97 "AmbiguityAnalyzerModel" "shelfKind" "[I" ∈ wsX11_keepWord := by decide +kernel
theorem fX11_keepWord_100 : Cond.fieldLink RX11 100 "AmbiguityAnalyzerModel" "shelfLength" "[I" ∈ wsX11_keepWord := by decide +kernel
theorem fX11_keepWord_197 : Cond.fieldLink RX11 197 "AmbiguityAnalyzerModel" "wordLength" "I" ∈ wsX11_keepWord := by decide +kernel
theorem fX11_keepWord_103 : Cond.fieldLink RX11 103 "AmbiguityAnalyzerModel" "shelved" "[J" ∈ wsX11_keepWord := by decide +kernel
theorem fX11_keepWord_35 : Cond.fieldLink RX11 35 "AmbiguityAnalyzerModel" "word" "[I" ∈ wsX11_keepWord := by decide +kernel
set_option maxRecDepth 100000 in
set_option maxHeartbeats 4000000 in
theorem vX11_keepWord_28 {Z : am_Z} {X : am_X} (R : am_R) (a0 : Nat) (x1 : Int32) (J6 : am_I) (h7 : am_G Z a0 = some (.inl 11)) (ih10 : Int32 → am_L → Option (Int32 × am_I × am_L)) (hih10 : ∀ (v8 : Int32) (J9 : am_L), am_V Z X kX11_keepWord (fun r : Int32 × am_I × am_L => (some (.int r.1), R, r.2.1, r.2.2)) 28 [(0, .ref (am_B Z + a0)), (1, .int x1), (2, .int v8)] [] R J6 J9 (ih10 v8 J9)) (v8 : Int32) (J9 : am_L) : am_V Z X kX11_keepWord (fun r : Int32 × am_I × am_L => (some (.int r.1), R, r.2.1, r.2.2)) 28 [(0, .ref (am_B Z + a0)), (1, .int x1), (2, .int v8)] [] R J6 J9 (sX11_keepWord_28 R a0 x1 J6 ih10 v8 J9) := by
  unfold sX11_keepWord_28
  refine am_iload_n dX11_keepWord_28 rfl 2 rfl ?_
  refine am_aload_n dX11_keepWord_29 rfl 0 rfl ?_
  refine am_get 11 16 clX11 (Nat.le_of_ble_eq_true rfl) h7 iX11_keepWord_11 fX11_keepWord_197 rfl dX11_keepWord_30 ?_
  refine am_icmp_ge (tgt := 60) dX11_keepWord_33 rfl (fun e11 => ?_) (fun e11 => ?_)
  · refine am_aload_n dX11_keepWord_60 rfl 0 rfl ?_
    refine am_get 11 16 clX11 (Nat.le_of_ble_eq_true rfl) h7 iX11_keepWord_11 fX11_keepWord_197 rfl dX11_keepWord_61 ?_
    exact am_iret dX11_keepWord_64 rfl rfl
  · refine am_aload_n dX11_keepWord_36 rfl 0 rfl ?_
    refine am_getR 11 46 clX11 (Nat.le_of_ble_eq_true rfl) h7 iX11_keepWord_11 fX11_keepWord_103 rfl rfl dX11_keepWord_37 (fun h12 => ?_)
    refine am_bipush (v := 31) dX11_keepWord_40 (by decide) ?_
    refine am_iload_n dX11_keepWord_42 rfl 1 rfl ?_
    refine am_imul dX11_keepWord_43 ?_
    refine am_iload_n dX11_keepWord_44 rfl 2 rfl ?_
    refine am_iadd dX11_keepWord_45 ?_
    refine am_aload_n dX11_keepWord_46 rfl 0 rfl ?_
    refine am_getR 11 15 clX11 (Nat.le_of_ble_eq_true rfl) h7 iX11_keepWord_11 fX11_keepWord_35 rfl rfl dX11_keepWord_47 (fun h13 => ?_)
    refine am_iload_n dX11_keepWord_50 rfl 2 rfl ?_
    refine am_iald h13 dX11_keepWord_51 ?_
    refine am_i2l dX11_keepWord_52 ?_
    refine am_last h12 dX11_keepWord_53 ?_
    refine am_letL (fun J14 => ?_)
    refine am_iinc (j := 2) (ls' := [(2, .int (v8 + (1 : Int32))), (0, .ref (am_B Z + a0)), (1, .int x1)]) dX11_keepWord_54 rfl rfl (Nat.le_of_ble_eq_true rfl) rfl ?_
    refine am_goto (tgt := 28) dX11_keepWord_57 rfl ?_
    refine am_sub (ls' := [(0, .ref (am_B Z + a0)), (1, .int x1), (2, .int (v8 + (1 : Int32)))]) [1, 2, 0] rfl ?_
    exact hih10 (v8 + (1 : Int32)) J14
theorem uX11_keepWord_28 {Z : am_Z} {X : am_X} (R : am_R) (a0 : Nat) (x1 : Int32) (J6 : am_I) (h7 : am_G Z a0 = some (.inl 11)) : ∀ (n : Nat) (v8 : Int32) (J9 : am_L), am_V Z X kX11_keepWord (fun r : Int32 × am_I × am_L => (some (.int r.1), R, r.2.1, r.2.2)) 28 [(0, .ref (am_B Z + a0)), (1, .int x1), (2, .int v8)] [] R J6 J9 (lX11_keepWord_28 R a0 x1 J6 n v8 J9) := by
  intro n
  induction n with
  | zero => intro _ _; exact am_none
  | succ n ih => exact fun v8 J9 => vX11_keepWord_28 R a0 x1 J6 h7 (lX11_keepWord_28 R a0 x1 J6 n) ih v8 J9
set_option maxRecDepth 100000 in
set_option maxHeartbeats 4000000 in
theorem tX11_keepWord {Z : am_Z} (R : am_R) (I : am_I) (L : am_L) (a0 : Nat) (x1 : Int32) (h_a0 : am_G Z a0 = some (.inl 11)) : am_M Z yX11_keepWord kX11_keepWord [.ref (am_B Z + a0), .int x1] R I L (pX11_keepWord R I L a0 x1) (fun r : Int32 × am_I × am_L => (some (.int r.1), R, r.2.1, r.2.2)) := by
  refine am_entry (ls := [(0, .ref (am_B Z + a0)), (1, .int x1)]) (by decide) hX11_keepWord rfl (Nat.le_of_ble_eq_true rfl) rfl (fun X => ?_)
  unfold pX11_keepWord
  refine am_iload_n dX11_keepWord_0 rfl 1 rfl ?_
  refine am_callS [.int x1] (tX11_isShelf R I L x1) gX11_keepWord_X11_isShelf hX11_isShelf ⟨Nat.le_of_ble_eq_true rfl, Nat.le_of_ble_eq_true rfl⟩ rfl rfl (Nat.le_of_ble_eq_true rfl) dX11_keepWord_1 (fun r1 => ?_)
  show am_V Z X kX11_keepWord (fun r : Int32 × am_I × am_L => (some (.int r.1), R, r.2.1, r.2.2)) 4 [(0, .ref (am_B Z + a0)), (1, .int x1)] [.int r1] R I L _
  refine am_if_ne (tgt := 9) dX11_keepWord_4 rfl (fun e2 => ?_) (fun e2 => ?_)
  · refine am_aload_n dX11_keepWord_9 rfl 0 rfl ?_
    refine am_getR 11 44 clX11 (Nat.le_of_ble_eq_true rfl) h_a0 iX11_keepWord_11 fX11_keepWord_97 rfl rfl dX11_keepWord_10 (fun h3 => ?_)
    refine am_iload_n dX11_keepWord_13 rfl 1 rfl ?_
    refine am_iconst (v := 1) dX11_keepWord_14 (by decide) ?_
    refine am_iast h3 dX11_keepWord_15 ?_
    refine am_letI (fun J4 => ?_)
    refine am_aload_n dX11_keepWord_16 rfl 0 rfl ?_
    refine am_getR 11 45 clX11 (Nat.le_of_ble_eq_true rfl) h_a0 iX11_keepWord_11 fX11_keepWord_100 rfl rfl dX11_keepWord_17 (fun h5 => ?_)
    refine am_iload_n dX11_keepWord_20 rfl 1 rfl ?_
    refine am_aload_n dX11_keepWord_21 rfl 0 rfl ?_
    refine am_get 11 16 clX11 (Nat.le_of_ble_eq_true rfl) h_a0 iX11_keepWord_11 fX11_keepWord_197 rfl dX11_keepWord_22 ?_
    refine am_iast h5 dX11_keepWord_25 ?_
    refine am_letI (fun J6 => ?_)
    refine am_iconst (v := 0) dX11_keepWord_26 (by decide) ?_
    refine am_istore_n (ls' := [(2, .int (0 : Int32)), (0, .ref (am_B Z + a0)), (1, .int x1)]) dX11_keepWord_27 rfl (Nat.le_of_ble_eq_true rfl) rfl ?_
    refine am_sub (ls' := [(0, .ref (am_B Z + a0)), (1, .int x1), (2, .int (0 : Int32))]) [1, 2, 0] rfl ?_
    exact uX11_keepWord_28 R a0 x1 J6 h_a0 am_fu (0 : Int32) L
  · refine am_iconst (v := -1) dX11_keepWord_7 (by decide) ?_
    exact am_iret dX11_keepWord_8 rfl rfl
abbrev kX11_keepCounts : am_K := (cX11_keepCounts, 4, RX11, wsX11_keepCounts, some .int, { frames := 2, cells := 0, slots := 0, locals := 48 })
theorem hX11_keepCounts : am_cl yX11_keepCounts kX11_keepCounts 2 := ⟨⟨_, rfl⟩, rfl, rfl, by decide +kernel, by decide +kernel, by decide +kernel⟩
theorem iX11_keepCounts_11 : ∀ w ∈ u_ws RX11 TX11 50, w ∈ wsX11_keepCounts := by decide +kernel
theorem fX11_keepCounts_106 : Cond.fieldLink RX11 106 "AmbiguityAnalyzerModel" "counts" "[J" ∈ wsX11_keepCounts := by decide +kernel
theorem fX11_keepCounts_97 : Cond.fieldLink RX11 97 "AmbiguityAnalyzerModel" "shelfKind" "[I" ∈ wsX11_keepCounts := by decide +kernel
theorem fX11_keepCounts_100 : Cond.fieldLink RX11 100 "AmbiguityAnalyzerModel" "shelfLength" "[I" ∈ wsX11_keepCounts := by decide +kernel
theorem fX11_keepCounts_103 : Cond.fieldLink RX11 103 "AmbiguityAnalyzerModel" "shelved" "[J" ∈ wsX11_keepCounts := by decide +kernel
set_option maxRecDepth 100000 in
set_option maxHeartbeats 4000000 in
theorem vX11_keepCounts_80 {Z : am_Z} {X : am_X} (R : am_R) (a0 : Nat) (x1 : Int32) (x2 : Int32) (J10 : am_I) (h11 : am_G Z a0 = some (.inl 11)) (ih14 : Int32 → am_L → Option (Int32 × am_I × am_L)) (hih14 : ∀ (v12 : Int32) (J13 : am_L), am_V Z X kX11_keepCounts (fun r : Int32 × am_I × am_L => (some (.int r.1), R, r.2.1, r.2.2)) 80 [(0, .ref (am_B Z + a0)), (1, .int x1), (2, .int x2), (3, .int v12)] [] R J10 J13 (ih14 v12 J13)) (v12 : Int32) (J13 : am_L) : am_V Z X kX11_keepCounts (fun r : Int32 × am_I × am_L => (some (.int r.1), R, r.2.1, r.2.2)) 80 [(0, .ref (am_B Z + a0)), (1, .int x1), (2, .int x2), (3, .int v12)] [] R J10 J13 (sX11_keepCounts_80 R a0 x1 x2 J10 ih14 v12 J13) := by
  unfold sX11_keepCounts_80
  refine am_iload_n dX11_keepCounts_80 rfl 3 rfl ?_
  refine am_iload_n dX11_keepCounts_81 rfl 2 rfl ?_
  refine am_icmp_gt (tgt := 108) dX11_keepCounts_82 rfl (fun e15 => ?_) (fun e15 => ?_)
  · refine am_iload_n dX11_keepCounts_108 rfl 2 rfl ?_
    refine am_iconst (v := 1) dX11_keepCounts_109 (by decide) ?_
    refine am_iadd dX11_keepCounts_110 ?_
    exact am_iret dX11_keepCounts_111 rfl rfl
  · refine am_aload_n dX11_keepCounts_85 rfl 0 rfl ?_
    refine am_getR 11 46 clX11 (Nat.le_of_ble_eq_true rfl) h11 iX11_keepCounts_11 fX11_keepCounts_103 rfl rfl dX11_keepCounts_86 (fun h16 => ?_)
    refine am_bipush (v := 31) dX11_keepCounts_89 (by decide) ?_
    refine am_iload_n dX11_keepCounts_91 rfl 1 rfl ?_
    refine am_imul dX11_keepCounts_92 ?_
    refine am_iload_n dX11_keepCounts_93 rfl 3 rfl ?_
    refine am_iadd dX11_keepCounts_94 ?_
    refine am_aload_n dX11_keepCounts_95 rfl 0 rfl ?_
    refine am_getR 11 47 clX11 (Nat.le_of_ble_eq_true rfl) h11 iX11_keepCounts_11 fX11_keepCounts_106 rfl rfl dX11_keepCounts_96 (fun h17 => ?_)
    refine am_iload_n dX11_keepCounts_99 rfl 3 rfl ?_
    refine am_lald h17 dX11_keepCounts_100 ?_
    refine am_last h16 dX11_keepCounts_101 ?_
    refine am_letL (fun J18 => ?_)
    refine am_iinc (j := 3) (ls' := [(3, .int (v12 + (1 : Int32))), (0, .ref (am_B Z + a0)), (1, .int x1), (2, .int x2)]) dX11_keepCounts_102 rfl rfl (Nat.le_of_ble_eq_true rfl) rfl ?_
    refine am_goto (tgt := 80) dX11_keepCounts_105 rfl ?_
    refine am_sub (ls' := [(0, .ref (am_B Z + a0)), (1, .int x1), (2, .int x2), (3, .int (v12 + (1 : Int32)))]) [1, 2, 3, 0] rfl ?_
    exact hih14 (v12 + (1 : Int32)) J18
theorem uX11_keepCounts_80 {Z : am_Z} {X : am_X} (R : am_R) (a0 : Nat) (x1 : Int32) (x2 : Int32) (J10 : am_I) (h11 : am_G Z a0 = some (.inl 11)) : ∀ (n : Nat) (v12 : Int32) (J13 : am_L), am_V Z X kX11_keepCounts (fun r : Int32 × am_I × am_L => (some (.int r.1), R, r.2.1, r.2.2)) 80 [(0, .ref (am_B Z + a0)), (1, .int x1), (2, .int x2), (3, .int v12)] [] R J10 J13 (lX11_keepCounts_80 R a0 x1 x2 J10 n v12 J13) := by
  intro n
  induction n with
  | zero => intro _ _; exact am_none
  | succ n ih => exact fun v12 J13 => vX11_keepCounts_80 R a0 x1 x2 J10 h11 (lX11_keepCounts_80 R a0 x1 x2 J10 n) ih v12 J13
set_option maxRecDepth 100000 in
set_option maxHeartbeats 4000000 in
theorem vX11_keepCounts_26 {Z : am_Z} {X : am_X} (R : am_R) (I : am_I) (a0 : Nat) (x1 : Int32) (x2 : Int32) (h19 : am_G Z a0 = some (.inl 11)) (j5 : am_L → Option (Int32 × am_I × am_L)) (hj5 : ∀ (J6 : am_L), am_V Z X kX11_keepCounts (fun r : Int32 × am_I × am_L => (some (.int r.1), R, r.2.1, r.2.2)) 62 [(0, .ref (am_B Z + a0)), (1, .int x1), (2, .int x2)] [] R I J6 (j5 J6)) (ih22 : Int32 → am_L → Option (Int32 × am_I × am_L)) (hih22 : ∀ (v20 : Int32) (J21 : am_L), am_V Z X kX11_keepCounts (fun r : Int32 × am_I × am_L => (some (.int r.1), R, r.2.1, r.2.2)) 26 [(0, .ref (am_B Z + a0)), (1, .int x1), (2, .int x2), (3, .int v20)] [] R I J21 (ih22 v20 J21)) (v20 : Int32) (J21 : am_L) : am_V Z X kX11_keepCounts (fun r : Int32 × am_I × am_L => (some (.int r.1), R, r.2.1, r.2.2)) 26 [(0, .ref (am_B Z + a0)), (1, .int x1), (2, .int x2), (3, .int v20)] [] R I J21 (sX11_keepCounts_26 R I a0 x1 x2 j5 ih22 v20 J21) := by
  unfold sX11_keepCounts_26
  refine am_iload_n dX11_keepCounts_26 rfl 3 rfl ?_
  refine am_iload_n dX11_keepCounts_27 rfl 2 rfl ?_
  refine am_icmp_gt (tgt := 62) dX11_keepCounts_28 rfl (fun e23 => ?_) (fun e23 => ?_)
  · refine am_sub (ls' := [(0, .ref (am_B Z + a0)), (1, .int x1), (2, .int x2)]) [0, 1, 2] rfl ?_
    exact hj5 J21
  · refine am_aload_n dX11_keepCounts_31 rfl 0 rfl ?_
    refine am_getR 11 47 clX11 (Nat.le_of_ble_eq_true rfl) h19 iX11_keepCounts_11 fX11_keepCounts_106 rfl rfl dX11_keepCounts_32 (fun h24 => ?_)
    refine am_iload_n dX11_keepCounts_35 rfl 3 rfl ?_
    refine am_aload_n dX11_keepCounts_36 rfl 0 rfl ?_
    refine am_iload_n dX11_keepCounts_37 rfl 3 rfl ?_
    refine am_callV [.int v20] (tX11_pathsOf R I J21 a0 v20 h19) h19 clX11 gX11_keepCounts_X11_pathsOf hX11_pathsOf rfl ⟨Nat.le_of_ble_eq_true rfl, Nat.le_of_ble_eq_true rfl⟩ rfl rfl (Nat.le_of_ble_eq_true rfl) dX11_keepCounts_38 (fun r25 => ?_)
    show am_V Z X kX11_keepCounts (fun r : Int32 × am_I × am_L => (some (.int r.1), R, r.2.1, r.2.2)) 41 [(0, .ref (am_B Z + a0)), (1, .int x1), (2, .int x2), (3, .int v20)] [.long r25.1, .int v20, .ref (am_B Z + (R a0 47))] R I r25.2 _
    refine am_last h24 dX11_keepCounts_41 ?_
    refine am_letL (fun J26 => ?_)
    refine am_aload_n dX11_keepCounts_42 rfl 0 rfl ?_
    refine am_getR 11 47 clX11 (Nat.le_of_ble_eq_true rfl) h19 iX11_keepCounts_11 fX11_keepCounts_106 rfl rfl dX11_keepCounts_43 (fun h27 => ?_)
    refine am_iload_n dX11_keepCounts_46 rfl 3 rfl ?_
    refine am_lald h27 dX11_keepCounts_47 ?_
    refine am_lconst (v := 0) dX11_keepCounts_48 (by decide) ?_
    refine am_lcmp dX11_keepCounts_49 ?_
    refine am_if_ge (tgt := 56) dX11_keepCounts_50 rfl (fun e28 => ?_) (fun e28 => ?_)
    · refine am_iinc (j := 3) (ls' := [(3, .int (v20 + (1 : Int32))), (0, .ref (am_B Z + a0)), (1, .int x1), (2, .int x2)]) dX11_keepCounts_56 rfl rfl (Nat.le_of_ble_eq_true rfl) rfl ?_
      refine am_goto (tgt := 26) dX11_keepCounts_59 rfl ?_
      refine am_sub (ls' := [(0, .ref (am_B Z + a0)), (1, .int x1), (2, .int x2), (3, .int (v20 + (1 : Int32)))]) [1, 2, 3, 0] rfl ?_
      exact hih22 (v20 + (1 : Int32)) J26
    · refine am_bipush (v := -6) dX11_keepCounts_53 (by decide) ?_
      exact am_iret dX11_keepCounts_55 rfl rfl
theorem uX11_keepCounts_26 {Z : am_Z} {X : am_X} (R : am_R) (I : am_I) (a0 : Nat) (x1 : Int32) (x2 : Int32) (h19 : am_G Z a0 = some (.inl 11)) (j5 : am_L → Option (Int32 × am_I × am_L)) (hj5 : ∀ (J6 : am_L), am_V Z X kX11_keepCounts (fun r : Int32 × am_I × am_L => (some (.int r.1), R, r.2.1, r.2.2)) 62 [(0, .ref (am_B Z + a0)), (1, .int x1), (2, .int x2)] [] R I J6 (j5 J6)) : ∀ (n : Nat) (v20 : Int32) (J21 : am_L), am_V Z X kX11_keepCounts (fun r : Int32 × am_I × am_L => (some (.int r.1), R, r.2.1, r.2.2)) 26 [(0, .ref (am_B Z + a0)), (1, .int x1), (2, .int x2), (3, .int v20)] [] R I J21 (lX11_keepCounts_26 R I a0 x1 x2 j5 n v20 J21) := by
  intro n
  induction n with
  | zero => intro _ _; exact am_none
  | succ n ih => exact fun v20 J21 => vX11_keepCounts_26 R I a0 x1 x2 h19 j5 hj5 (lX11_keepCounts_26 R I a0 x1 x2 j5 n) ih v20 J21
set_option maxRecDepth 100000 in
set_option maxHeartbeats 4000000 in
theorem tX11_keepCounts {Z : am_Z} (R : am_R) (I : am_I) (L : am_L) (a0 : Nat) (x1 : Int32) (x2 : Int32) (h_a0 : am_G Z a0 = some (.inl 11)) : am_M Z yX11_keepCounts kX11_keepCounts [.ref (am_B Z + a0), .int x1, .int x2] R I L (pX11_keepCounts R I L a0 x1 x2) (fun r : Int32 × am_I × am_L => (some (.int r.1), R, r.2.1, r.2.2)) := by
  refine am_entry (ls := [(0, .ref (am_B Z + a0)), (1, .int x1), (2, .int x2)]) (by decide) hX11_keepCounts rfl (Nat.le_of_ble_eq_true rfl) rfl (fun X => ?_)
  unfold pX11_keepCounts
  refine am_iload_n dX11_keepCounts_0 rfl 1 rfl ?_
  refine am_callS [.int x1] (tX11_isShelf R I L x1) gX11_keepCounts_X11_isShelf hX11_isShelf ⟨Nat.le_of_ble_eq_true rfl, Nat.le_of_ble_eq_true rfl⟩ rfl rfl (Nat.le_of_ble_eq_true rfl) dX11_keepCounts_1 (fun r1 => ?_)
  show am_V Z X kX11_keepCounts (fun r : Int32 × am_I × am_L => (some (.int r.1), R, r.2.1, r.2.2)) 4 [(0, .ref (am_B Z + a0)), (1, .int x1), (2, .int x2)] [.int r1] R I L _
  refine am_if_ne (tgt := 9) dX11_keepCounts_4 rfl (fun e2 => ?_) (fun e2 => ?_)
  · refine am_iload_n dX11_keepCounts_9 rfl 2 rfl ?_
    refine am_i2l dX11_keepCounts_10 ?_
    refine am_lconst (v := 0) dX11_keepCounts_11 (by decide) ?_
    refine am_ldc2 (v := 30) dX11_keepCounts_12 (by decide +kernel) ?_
    refine am_callS [.long (Int32.toInt64 x2), .long (0 : Int64), .long (30 : Int64)] (tX11_isBetween R I L (Int32.toInt64 x2) (0 : Int64) (30 : Int64)) gX11_keepCounts_X11_isBetween hX11_isBetween ⟨Nat.le_of_ble_eq_true rfl, Nat.le_of_ble_eq_true rfl⟩ rfl rfl (Nat.le_of_ble_eq_true rfl) dX11_keepCounts_15 (fun r3 => ?_)
    show am_V Z X kX11_keepCounts (fun r : Int32 × am_I × am_L => (some (.int r.1), R, r.2.1, r.2.2)) 18 [(0, .ref (am_B Z + a0)), (1, .int x1), (2, .int x2)] [.int r3] R I L _
    refine am_if_ne (tgt := 24) dX11_keepCounts_18 rfl (fun e4 => ?_) (fun e4 => ?_)
    · refine am_iconst (v := 0) dX11_keepCounts_24 (by decide) ?_
      refine am_istore_n (ls' := [(3, .int (0 : Int32)), (0, .ref (am_B Z + a0)), (1, .int x1), (2, .int x2)]) dX11_keepCounts_25 rfl (Nat.le_of_ble_eq_true rfl) rfl ?_
      refine am_jnV (fun j5 ej5 => ?_)
      have hj5 : ∀ (J6 : am_L), am_V Z X kX11_keepCounts (fun r : Int32 × am_I × am_L => (some (.int r.1), R, r.2.1, r.2.2)) 62 [(0, .ref (am_B Z + a0)), (1, .int x1), (2, .int x2)] [] R I J6 (j5 J6) := by
        subst ej5
        intro J6
        show am_V Z X kX11_keepCounts (fun r : Int32 × am_I × am_L => (some (.int r.1), R, r.2.1, r.2.2)) 62 [(0, .ref (am_B Z + a0)), (1, .int x1), (2, .int x2)] [] R I J6 _
        refine am_aload_n dX11_keepCounts_62 rfl 0 rfl ?_
        refine am_getR 11 44 clX11 (Nat.le_of_ble_eq_true rfl) h_a0 iX11_keepCounts_11 fX11_keepCounts_97 rfl rfl dX11_keepCounts_63 (fun h7 => ?_)
        refine am_iload_n dX11_keepCounts_66 rfl 1 rfl ?_
        refine am_iconst (v := 2) dX11_keepCounts_67 (by decide) ?_
        refine am_iast h7 dX11_keepCounts_68 ?_
        refine am_letI (fun J8 => ?_)
        refine am_aload_n dX11_keepCounts_69 rfl 0 rfl ?_
        refine am_getR 11 45 clX11 (Nat.le_of_ble_eq_true rfl) h_a0 iX11_keepCounts_11 fX11_keepCounts_100 rfl rfl dX11_keepCounts_70 (fun h9 => ?_)
        refine am_iload_n dX11_keepCounts_73 rfl 1 rfl ?_
        refine am_iload_n dX11_keepCounts_74 rfl 2 rfl ?_
        refine am_iconst (v := 1) dX11_keepCounts_75 (by decide) ?_
        refine am_iadd dX11_keepCounts_76 ?_
        refine am_iast h9 dX11_keepCounts_77 ?_
        refine am_letI (fun J10 => ?_)
        refine am_iconst (v := 0) dX11_keepCounts_78 (by decide) ?_
        refine am_istore_n (ls' := [(3, .int (0 : Int32)), (0, .ref (am_B Z + a0)), (1, .int x1), (2, .int x2)]) dX11_keepCounts_79 rfl (Nat.le_of_ble_eq_true rfl) rfl ?_
        refine am_sub (ls' := [(0, .ref (am_B Z + a0)), (1, .int x1), (2, .int x2), (3, .int (0 : Int32))]) [1, 2, 3, 0] rfl ?_
        exact uX11_keepCounts_80 R a0 x1 x2 J10 h_a0 am_fu (0 : Int32) J6
      refine am_sub (ls' := [(0, .ref (am_B Z + a0)), (1, .int x1), (2, .int x2), (3, .int (0 : Int32))]) [1, 2, 3, 0] rfl ?_
      exact uX11_keepCounts_26 R I a0 x1 x2 h_a0 j5 hj5 am_fu (0 : Int32) L
    · refine am_bipush (v := -2) dX11_keepCounts_21 (by decide) ?_
      exact am_iret dX11_keepCounts_23 rfl rfl
  · refine am_iconst (v := -1) dX11_keepCounts_7 (by decide) ?_
    exact am_iret dX11_keepCounts_8 rfl rfl
abbrev kX11_useWord : am_K := (cX11_useWord, 3, RX11, wsX11_useWord, some .int, { frames := 1, cells := 0, slots := 0, locals := 20 })
theorem hX11_useWord : am_cl yX11_useWord kX11_useWord 1 := ⟨⟨_, rfl⟩, rfl, rfl, by decide +kernel, by decide +kernel, by decide +kernel⟩
theorem iX11_useWord_11 : ∀ w ∈ u_ws RX11 TX11 50, w ∈ wsX11_useWord := by decide +kernel
theorem fX11_useWord_97 : Cond.fieldLink RX11 97 "AmbiguityAnalyzerModel" "shelfKind" "[I" ∈ wsX11_useWord := by decide +kernel
theorem fX11_useWord_100 : Cond.fieldLink RX11 100 "AmbiguityAnalyzerModel" "shelfLength" "[I" ∈ wsX11_useWord := by decide +kernel
theorem fX11_useWord_197 : Cond.fieldLink RX11 197 "AmbiguityAnalyzerModel" "wordLength" "I" ∈ wsX11_useWord := by decide +kernel
theorem fX11_useWord_35 : Cond.fieldLink RX11 35 "AmbiguityAnalyzerModel" "word" "[I" ∈ wsX11_useWord := by decide +kernel
theorem fX11_useWord_103 : Cond.fieldLink RX11 103 "AmbiguityAnalyzerModel" "shelved" "[J" ∈ wsX11_useWord := by decide +kernel
set_option maxRecDepth 100000 in
set_option maxHeartbeats 4000000 in
theorem vX11_useWord_46 {Z : am_Z} {X : am_X} (R : am_R) (L : am_L) (a0 : Nat) (x1 : Int32) (h9 : am_G Z a0 = some (.inl 11)) (ih12 : Int32 → am_I → Option (Int32 × am_I)) (hih12 : ∀ (v10 : Int32) (J11 : am_I), am_V Z X kX11_useWord (fun r : Int32 × am_I => (some (.int r.1), R, r.2, L)) 46 [(0, .ref (am_B Z + a0)), (1, .int x1), (2, .int v10)] [] R J11 L (ih12 v10 J11)) (v10 : Int32) (J11 : am_I) : am_V Z X kX11_useWord (fun r : Int32 × am_I => (some (.int r.1), R, r.2, L)) 46 [(0, .ref (am_B Z + a0)), (1, .int x1), (2, .int v10)] [] R J11 L (sX11_useWord_46 R L a0 x1 ih12 v10 J11) := by
  unfold sX11_useWord_46
  refine am_iload_n dX11_useWord_46 rfl 2 rfl ?_
  refine am_aload_n dX11_useWord_47 rfl 0 rfl ?_
  refine am_get 11 16 clX11 (Nat.le_of_ble_eq_true rfl) h9 iX11_useWord_11 fX11_useWord_197 rfl dX11_useWord_48 ?_
  refine am_icmp_ge (tgt := 78) dX11_useWord_51 rfl (fun e13 => ?_) (fun e13 => ?_)
  · refine am_aload_n dX11_useWord_78 rfl 0 rfl ?_
    refine am_get 11 16 clX11 (Nat.le_of_ble_eq_true rfl) h9 iX11_useWord_11 fX11_useWord_197 rfl dX11_useWord_79 ?_
    exact am_iret dX11_useWord_82 rfl rfl
  · refine am_aload_n dX11_useWord_54 rfl 0 rfl ?_
    refine am_getR 11 15 clX11 (Nat.le_of_ble_eq_true rfl) h9 iX11_useWord_11 fX11_useWord_35 rfl rfl dX11_useWord_55 (fun h14 => ?_)
    refine am_iload_n dX11_useWord_58 rfl 2 rfl ?_
    refine am_aload_n dX11_useWord_59 rfl 0 rfl ?_
    refine am_getR 11 46 clX11 (Nat.le_of_ble_eq_true rfl) h9 iX11_useWord_11 fX11_useWord_103 rfl rfl dX11_useWord_60 (fun h15 => ?_)
    refine am_bipush (v := 31) dX11_useWord_63 (by decide) ?_
    refine am_iload_n dX11_useWord_65 rfl 1 rfl ?_
    refine am_imul dX11_useWord_66 ?_
    refine am_iload_n dX11_useWord_67 rfl 2 rfl ?_
    refine am_iadd dX11_useWord_68 ?_
    refine am_lald h15 dX11_useWord_69 ?_
    refine am_l2i dX11_useWord_70 ?_
    refine am_iast h14 dX11_useWord_71 ?_
    refine am_letI (fun J16 => ?_)
    refine am_iinc (j := 2) (ls' := [(2, .int (v10 + (1 : Int32))), (0, .ref (am_B Z + a0)), (1, .int x1)]) dX11_useWord_72 rfl rfl (Nat.le_of_ble_eq_true rfl) rfl ?_
    refine am_goto (tgt := 46) dX11_useWord_75 rfl ?_
    refine am_sub (ls' := [(0, .ref (am_B Z + a0)), (1, .int x1), (2, .int (v10 + (1 : Int32)))]) [1, 2, 0] rfl ?_
    exact hih12 (v10 + (1 : Int32)) J16
theorem uX11_useWord_46 {Z : am_Z} {X : am_X} (R : am_R) (L : am_L) (a0 : Nat) (x1 : Int32) (h9 : am_G Z a0 = some (.inl 11)) : ∀ (n : Nat) (v10 : Int32) (J11 : am_I), am_V Z X kX11_useWord (fun r : Int32 × am_I => (some (.int r.1), R, r.2, L)) 46 [(0, .ref (am_B Z + a0)), (1, .int x1), (2, .int v10)] [] R J11 L (lX11_useWord_46 R L a0 x1 n v10 J11) := by
  intro n
  induction n with
  | zero => intro _ _; exact am_none
  | succ n ih => exact fun v10 J11 => vX11_useWord_46 R L a0 x1 h9 (lX11_useWord_46 R L a0 x1 n) ih v10 J11
set_option maxRecDepth 100000 in
set_option maxHeartbeats 4000000 in
theorem tX11_useWord {Z : am_Z} (R : am_R) (I : am_I) (L : am_L) (a0 : Nat) (x1 : Int32) (h_a0 : am_G Z a0 = some (.inl 11)) : am_M Z yX11_useWord kX11_useWord [.ref (am_B Z + a0), .int x1] R I L (pX11_useWord R I L a0 x1) (fun r : Int32 × am_I => (some (.int r.1), R, r.2, L)) := by
  refine am_entry (ls := [(0, .ref (am_B Z + a0)), (1, .int x1)]) (by decide) hX11_useWord rfl (Nat.le_of_ble_eq_true rfl) rfl (fun X => ?_)
  unfold pX11_useWord
  refine am_iload_n dX11_useWord_0 rfl 1 rfl ?_
  refine am_callS [.int x1] (tX11_isShelf R I L x1) gX11_useWord_X11_isShelf hX11_isShelf ⟨Nat.le_of_ble_eq_true rfl, Nat.le_of_ble_eq_true rfl⟩ rfl rfl (Nat.le_of_ble_eq_true rfl) dX11_useWord_1 (fun r1 => ?_)
  show am_V Z X kX11_useWord (fun r : Int32 × am_I => (some (.int r.1), R, r.2, L)) 4 [(0, .ref (am_B Z + a0)), (1, .int x1)] [.int r1] R I L _
  refine am_if_ne (tgt := 9) dX11_useWord_4 rfl (fun e2 => ?_) (fun e2 => ?_)
  · refine am_aload_n dX11_useWord_9 rfl 0 rfl ?_
    refine am_getR 11 44 clX11 (Nat.le_of_ble_eq_true rfl) h_a0 iX11_useWord_11 fX11_useWord_97 rfl rfl dX11_useWord_10 (fun h3 => ?_)
    refine am_iload_n dX11_useWord_13 rfl 1 rfl ?_
    refine am_iald h3 dX11_useWord_14 ?_
    refine am_if_ne (tgt := 21) dX11_useWord_15 rfl (fun e4 => ?_) (fun e4 => ?_)
    · refine am_aload_n dX11_useWord_21 rfl 0 rfl ?_
      refine am_getR 11 44 clX11 (Nat.le_of_ble_eq_true rfl) h_a0 iX11_useWord_11 fX11_useWord_97 rfl rfl dX11_useWord_22 (fun h5 => ?_)
      refine am_iload_n dX11_useWord_25 rfl 1 rfl ?_
      refine am_iald h5 dX11_useWord_26 ?_
      refine am_iconst (v := 2) dX11_useWord_27 (by decide) ?_
      refine am_icmp_ne (tgt := 34) dX11_useWord_28 rfl (fun e6 => ?_) (fun e6 => ?_)
      · refine am_aload_n dX11_useWord_34 rfl 0 rfl ?_
        refine am_aload_n dX11_useWord_35 rfl 0 rfl ?_
        refine am_getR 11 45 clX11 (Nat.le_of_ble_eq_true rfl) h_a0 iX11_useWord_11 fX11_useWord_100 rfl rfl dX11_useWord_36 (fun h7 => ?_)
        refine am_iload_n dX11_useWord_39 rfl 1 rfl ?_
        refine am_iald h7 dX11_useWord_40 ?_
        refine am_putI 11 16 clX11 (Nat.le_of_ble_eq_true rfl) h_a0 iX11_useWord_11 fX11_useWord_197 rfl rfl dX11_useWord_41 ?_
        refine am_letI (fun J8 => ?_)
        refine am_iconst (v := 0) dX11_useWord_44 (by decide) ?_
        refine am_istore_n (ls' := [(2, .int (0 : Int32)), (0, .ref (am_B Z + a0)), (1, .int x1)]) dX11_useWord_45 rfl (Nat.le_of_ble_eq_true rfl) rfl ?_
        refine am_sub (ls' := [(0, .ref (am_B Z + a0)), (1, .int x1), (2, .int (0 : Int32))]) [1, 2, 0] rfl ?_
        exact uX11_useWord_46 R L a0 x1 h_a0 am_fu (0 : Int32) J8
      · refine am_bipush (v := -8) dX11_useWord_31 (by decide) ?_
        exact am_iret dX11_useWord_33 rfl rfl
    · refine am_bipush (v := -7) dX11_useWord_18 (by decide) ?_
      exact am_iret dX11_useWord_20 rfl rfl
  · refine am_iconst (v := -1) dX11_useWord_7 (by decide) ?_
    exact am_iret dX11_useWord_8 rfl rfl
abbrev kX11_shelfElement : am_K := (cX11_shelfElement, 3, RX11, wsX11_shelfElement, some .long, { frames := 1, cells := 0, slots := 0, locals := 25 })
theorem hX11_shelfElement : am_cl yX11_shelfElement kX11_shelfElement 2 := ⟨⟨_, rfl⟩, rfl, rfl, by decide +kernel, by decide +kernel, by decide +kernel⟩
theorem iX11_shelfElement_11 : ∀ w ∈ u_ws RX11 TX11 50, w ∈ wsX11_shelfElement := by decide +kernel
theorem fX11_shelfElement_97 : Cond.fieldLink RX11 97 "AmbiguityAnalyzerModel" "shelfKind" "[I" ∈ wsX11_shelfElement := by decide +kernel
theorem fX11_shelfElement_100 : Cond.fieldLink RX11 100 "AmbiguityAnalyzerModel" "shelfLength" "[I" ∈ wsX11_shelfElement := by decide +kernel
theorem fX11_shelfElement_103 : Cond.fieldLink RX11 103 "AmbiguityAnalyzerModel" "shelved" "[J" ∈ wsX11_shelfElement := by decide +kernel
set_option maxRecDepth 100000 in
set_option maxHeartbeats 4000000 in
theorem tX11_shelfElement {Z : am_Z} (R : am_R) (I : am_I) (L : am_L) (a0 : Nat) (x1 : Int32) (x2 : Int32) (h_a0 : am_G Z a0 = some (.inl 11)) : am_M Z yX11_shelfElement kX11_shelfElement [.ref (am_B Z + a0), .int x1, .int x2] R I L (pX11_shelfElement R I L a0 x1 x2) (fun r : Int64 => (some (.long r), R, I, L)) := by
  refine am_entry (ls := [(0, .ref (am_B Z + a0)), (1, .int x1), (2, .int x2)]) (by decide) hX11_shelfElement rfl (Nat.le_of_ble_eq_true rfl) rfl (fun X => ?_)
  unfold pX11_shelfElement
  refine am_iload_n dX11_shelfElement_0 rfl 1 rfl ?_
  refine am_callS [.int x1] (tX11_isShelf R I L x1) gX11_shelfElement_X11_isShelf hX11_isShelf ⟨Nat.le_of_ble_eq_true rfl, Nat.le_of_ble_eq_true rfl⟩ rfl rfl (Nat.le_of_ble_eq_true rfl) dX11_shelfElement_1 (fun r1 => ?_)
  show am_V Z X kX11_shelfElement (fun r : Int64 => (some (.long r), R, I, L)) 4 [(0, .ref (am_B Z + a0)), (1, .int x1), (2, .int x2)] [.int r1] R I L _
  refine am_if_ne (tgt := 11) dX11_shelfElement_4 rfl (fun e2 => ?_) (fun e2 => ?_)
  · refine am_aload_n dX11_shelfElement_11 rfl 0 rfl ?_
    refine am_getR 11 44 clX11 (Nat.le_of_ble_eq_true rfl) h_a0 iX11_shelfElement_11 fX11_shelfElement_97 rfl rfl dX11_shelfElement_12 (fun h3 => ?_)
    refine am_iload_n dX11_shelfElement_15 rfl 1 rfl ?_
    refine am_iald h3 dX11_shelfElement_16 ?_
    refine am_if_ne (tgt := 24) dX11_shelfElement_17 rfl (fun e4 => ?_) (fun e4 => ?_)
    · refine am_iload_n dX11_shelfElement_24 rfl 2 rfl ?_
      refine am_i2l dX11_shelfElement_25 ?_
      refine am_lconst (v := 0) dX11_shelfElement_26 (by decide) ?_
      refine am_aload_n dX11_shelfElement_27 rfl 0 rfl ?_
      refine am_getR 11 45 clX11 (Nat.le_of_ble_eq_true rfl) h_a0 iX11_shelfElement_11 fX11_shelfElement_100 rfl rfl dX11_shelfElement_28 (fun h5 => ?_)
      refine am_iload_n dX11_shelfElement_31 rfl 1 rfl ?_
      refine am_iald h5 dX11_shelfElement_32 ?_
      refine am_iconst (v := 1) dX11_shelfElement_33 (by decide) ?_
      refine am_isub dX11_shelfElement_34 ?_
      refine am_i2l dX11_shelfElement_35 ?_
      refine am_callS [.long (Int32.toInt64 x2), .long (0 : Int64), .long (Int32.toInt64 ((I (R a0 45) (Int32.toNatClampNeg x1)) - (1 : Int32)))] (tX11_isBetween R I L (Int32.toInt64 x2) (0 : Int64) (Int32.toInt64 ((I (R a0 45) (Int32.toNatClampNeg x1)) - (1 : Int32)))) gX11_shelfElement_X11_isBetween hX11_isBetween ⟨Nat.le_of_ble_eq_true rfl, Nat.le_of_ble_eq_true rfl⟩ rfl rfl (Nat.le_of_ble_eq_true rfl) dX11_shelfElement_36 (fun r6 => ?_)
      show am_V Z X kX11_shelfElement (fun r : Int64 => (some (.long r), R, I, L)) 39 [(0, .ref (am_B Z + a0)), (1, .int x1), (2, .int x2)] [.int r6] R I L _
      refine am_if_eq (tgt := 56) dX11_shelfElement_39 rfl (fun e7 => ?_) (fun e7 => ?_)
      · refine am_ldc2 (v := -1) dX11_shelfElement_56 (by decide +kernel) ?_
        exact am_lret dX11_shelfElement_59 rfl rfl
      · refine am_aload_n dX11_shelfElement_42 rfl 0 rfl ?_
        refine am_getR 11 46 clX11 (Nat.le_of_ble_eq_true rfl) h_a0 iX11_shelfElement_11 fX11_shelfElement_103 rfl rfl dX11_shelfElement_43 (fun h8 => ?_)
        refine am_bipush (v := 31) dX11_shelfElement_46 (by decide) ?_
        refine am_iload_n dX11_shelfElement_48 rfl 1 rfl ?_
        refine am_imul dX11_shelfElement_49 ?_
        refine am_iload_n dX11_shelfElement_50 rfl 2 rfl ?_
        refine am_iadd dX11_shelfElement_51 ?_
        refine am_lald h8 dX11_shelfElement_52 ?_
        refine am_goto (tgt := 59) dX11_shelfElement_53 rfl ?_
        exact am_lret dX11_shelfElement_59 rfl rfl
    · refine am_ldc2 (v := -7) dX11_shelfElement_20 (by decide +kernel) ?_
      exact am_lret dX11_shelfElement_23 rfl rfl
  · refine am_ldc2 (v := -1) dX11_shelfElement_7 (by decide +kernel) ?_
    exact am_lret dX11_shelfElement_10 rfl rfl
abbrev kX11_save : am_K := (cX11_save, 2, RX11, wsX11_save, some .int, { frames := 0, cells := 0, slots := 0, locals := 0 })
theorem hX11_save : am_cl yX11_save kX11_save 0 := ⟨⟨_, rfl⟩, rfl, rfl, by decide +kernel, by decide +kernel, by decide +kernel⟩
theorem iX11_save_11 : ∀ w ∈ u_ws RX11 TX11 50, w ∈ wsX11_save := by decide +kernel
theorem fX11_save_361 : Cond.fieldLink RX11 361 "AmbiguityAnalyzerModel" "hasSaved" "Z" ∈ wsX11_save := by decide +kernel
theorem fX11_save_109 : Cond.fieldLink RX11 109 "AmbiguityAnalyzerModel" "saved" "[I" ∈ wsX11_save := by decide +kernel
theorem fX11_save_7 : Cond.fieldLink RX11 7 "AmbiguityAnalyzerModel" "targets" "[I" ∈ wsX11_save := by decide +kernel
theorem fX11_save_16 : Cond.fieldLink RX11 16 "AmbiguityAnalyzerModel" "weight" "[I" ∈ wsX11_save := by decide +kernel
theorem fX11_save_19 : Cond.fieldLink RX11 19 "AmbiguityAnalyzerModel" "states" "I" ∈ wsX11_save := by decide +kernel
theorem fX11_save_112 : Cond.fieldLink RX11 112 "AmbiguityAnalyzerModel" "initials" "I" ∈ wsX11_save := by decide +kernel
theorem fX11_save_115 : Cond.fieldLink RX11 115 "AmbiguityAnalyzerModel" "finals" "I" ∈ wsX11_save := by decide +kernel
set_option maxRecDepth 100000 in
set_option maxHeartbeats 4000000 in
theorem vX11_save_33 {Z : am_Z} {X : am_X} (R : am_R) (L : am_L) (a0 : Nat) (h12 : am_G Z a0 = some (.inl 11)) (j4 : am_I → Option (Int32 × am_I)) (hj4 : ∀ (J5 : am_I), am_V Z X kX11_save (fun r : Int32 × am_I => (some (.int r.1), R, r.2, L)) 59 [(0, .ref (am_B Z + a0))] [] R J5 L (j4 J5)) (ih15 : Int32 → am_I → Option (Int32 × am_I)) (hih15 : ∀ (v13 : Int32) (J14 : am_I), am_V Z X kX11_save (fun r : Int32 × am_I => (some (.int r.1), R, r.2, L)) 33 [(0, .ref (am_B Z + a0)), (1, .int v13)] [] R J14 L (ih15 v13 J14)) (v13 : Int32) (J14 : am_I) : am_V Z X kX11_save (fun r : Int32 × am_I => (some (.int r.1), R, r.2, L)) 33 [(0, .ref (am_B Z + a0)), (1, .int v13)] [] R J14 L (sX11_save_33 R a0 j4 ih15 v13 J14) := by
  unfold sX11_save_33
  refine am_iload_n dX11_save_33 rfl 1 rfl ?_
  refine am_iconst (v := 3) dX11_save_34 (by decide) ?_
  refine am_icmp_ge (tgt := 59) dX11_save_35 rfl (fun e16 => ?_) (fun e16 => ?_)
  · refine am_sub (ls' := [(0, .ref (am_B Z + a0))]) [0] rfl ?_
    exact hj4 J14
  · refine am_aload_n dX11_save_38 rfl 0 rfl ?_
    refine am_getR 11 48 clX11 (Nat.le_of_ble_eq_true rfl) h12 iX11_save_11 fX11_save_109 rfl rfl dX11_save_39 (fun h17 => ?_)
    refine am_bipush (v := 18) dX11_save_42 (by decide) ?_
    refine am_iload_n dX11_save_44 rfl 1 rfl ?_
    refine am_iadd dX11_save_45 ?_
    refine am_aload_n dX11_save_46 rfl 0 rfl ?_
    refine am_getR 11 2 clX11 (Nat.le_of_ble_eq_true rfl) h12 iX11_save_11 fX11_save_16 rfl rfl dX11_save_47 (fun h18 => ?_)
    refine am_iload_n dX11_save_50 rfl 1 rfl ?_
    refine am_iald h18 dX11_save_51 ?_
    refine am_iast h17 dX11_save_52 ?_
    refine am_letI (fun J19 => ?_)
    refine am_iinc (j := 1) (ls' := [(1, .int (v13 + (1 : Int32))), (0, .ref (am_B Z + a0))]) dX11_save_53 rfl rfl (Nat.le_of_ble_eq_true rfl) rfl ?_
    refine am_goto (tgt := 33) dX11_save_56 rfl ?_
    refine am_sub (ls' := [(0, .ref (am_B Z + a0)), (1, .int (v13 + (1 : Int32)))]) [1, 0] rfl ?_
    exact hih15 (v13 + (1 : Int32)) J19
theorem uX11_save_33 {Z : am_Z} {X : am_X} (R : am_R) (L : am_L) (a0 : Nat) (h12 : am_G Z a0 = some (.inl 11)) (j4 : am_I → Option (Int32 × am_I)) (hj4 : ∀ (J5 : am_I), am_V Z X kX11_save (fun r : Int32 × am_I => (some (.int r.1), R, r.2, L)) 59 [(0, .ref (am_B Z + a0))] [] R J5 L (j4 J5)) : ∀ (n : Nat) (v13 : Int32) (J14 : am_I), am_V Z X kX11_save (fun r : Int32 × am_I => (some (.int r.1), R, r.2, L)) 33 [(0, .ref (am_B Z + a0)), (1, .int v13)] [] R J14 L (lX11_save_33 R a0 j4 n v13 J14) := by
  intro n
  induction n with
  | zero => intro _ _; exact am_none
  | succ n ih => exact fun v13 J14 => vX11_save_33 R L a0 h12 j4 hj4 (lX11_save_33 R a0 j4 n) ih v13 J14
set_option maxRecDepth 100000 in
set_option maxHeartbeats 4000000 in
theorem vX11_save_7 {Z : am_Z} {X : am_X} (R : am_R) (L : am_L) (a0 : Nat) (h20 : am_G Z a0 = some (.inl 11)) (j2 : am_I → Option (Int32 × am_I)) (hj2 : ∀ (J3 : am_I), am_V Z X kX11_save (fun r : Int32 × am_I => (some (.int r.1), R, r.2, L)) 31 [(0, .ref (am_B Z + a0))] [] R J3 L (j2 J3)) (ih23 : Int32 → am_I → Option (Int32 × am_I)) (hih23 : ∀ (v21 : Int32) (J22 : am_I), am_V Z X kX11_save (fun r : Int32 × am_I => (some (.int r.1), R, r.2, L)) 7 [(0, .ref (am_B Z + a0)), (1, .int v21)] [] R J22 L (ih23 v21 J22)) (v21 : Int32) (J22 : am_I) : am_V Z X kX11_save (fun r : Int32 × am_I => (some (.int r.1), R, r.2, L)) 7 [(0, .ref (am_B Z + a0)), (1, .int v21)] [] R J22 L (sX11_save_7 R a0 j2 ih23 v21 J22) := by
  unfold sX11_save_7
  refine am_iload_n dX11_save_7 rfl 1 rfl ?_
  refine am_bipush (v := 18) dX11_save_8 (by decide) ?_
  refine am_icmp_ge (tgt := 31) dX11_save_10 rfl (fun e24 => ?_) (fun e24 => ?_)
  · refine am_sub (ls' := [(0, .ref (am_B Z + a0))]) [0] rfl ?_
    exact hj2 J22
  · refine am_aload_n dX11_save_13 rfl 0 rfl ?_
    refine am_getR 11 48 clX11 (Nat.le_of_ble_eq_true rfl) h20 iX11_save_11 fX11_save_109 rfl rfl dX11_save_14 (fun h25 => ?_)
    refine am_iload_n dX11_save_17 rfl 1 rfl ?_
    refine am_aload_n dX11_save_18 rfl 0 rfl ?_
    refine am_getR 11 0 clX11 (Nat.le_of_ble_eq_true rfl) h20 iX11_save_11 fX11_save_7 rfl rfl dX11_save_19 (fun h26 => ?_)
    refine am_iload_n dX11_save_22 rfl 1 rfl ?_
    refine am_iald h26 dX11_save_23 ?_
    refine am_iast h25 dX11_save_24 ?_
    refine am_letI (fun J27 => ?_)
    refine am_iinc (j := 1) (ls' := [(1, .int (v21 + (1 : Int32))), (0, .ref (am_B Z + a0))]) dX11_save_25 rfl rfl (Nat.le_of_ble_eq_true rfl) rfl ?_
    refine am_goto (tgt := 7) dX11_save_28 rfl ?_
    refine am_sub (ls' := [(0, .ref (am_B Z + a0)), (1, .int (v21 + (1 : Int32)))]) [1, 0] rfl ?_
    exact hih23 (v21 + (1 : Int32)) J27
theorem uX11_save_7 {Z : am_Z} {X : am_X} (R : am_R) (L : am_L) (a0 : Nat) (h20 : am_G Z a0 = some (.inl 11)) (j2 : am_I → Option (Int32 × am_I)) (hj2 : ∀ (J3 : am_I), am_V Z X kX11_save (fun r : Int32 × am_I => (some (.int r.1), R, r.2, L)) 31 [(0, .ref (am_B Z + a0))] [] R J3 L (j2 J3)) : ∀ (n : Nat) (v21 : Int32) (J22 : am_I), am_V Z X kX11_save (fun r : Int32 × am_I => (some (.int r.1), R, r.2, L)) 7 [(0, .ref (am_B Z + a0)), (1, .int v21)] [] R J22 L (lX11_save_7 R a0 j2 n v21 J22) := by
  intro n
  induction n with
  | zero => intro _ _; exact am_none
  | succ n ih => exact fun v21 J22 => vX11_save_7 R L a0 h20 j2 hj2 (lX11_save_7 R a0 j2 n) ih v21 J22
set_option maxRecDepth 100000 in
set_option maxHeartbeats 4000000 in
theorem tX11_save {Z : am_Z} (R : am_R) (I : am_I) (L : am_L) (a0 : Nat) (h_a0 : am_G Z a0 = some (.inl 11)) : am_M Z yX11_save kX11_save [.ref (am_B Z + a0)] R I L (pX11_save R I a0) (fun r : Int32 × am_I => (some (.int r.1), R, r.2, L)) := by
  refine am_entry (ls := [(0, .ref (am_B Z + a0))]) (by decide) hX11_save rfl (Nat.le_of_ble_eq_true rfl) rfl (fun X => ?_)
  unfold pX11_save
  refine am_aload_n dX11_save_0 rfl 0 rfl ?_
  refine am_iconst (v := 1) dX11_save_1 (by decide) ?_
  refine am_putZ 11 49 clX11 (Nat.le_of_ble_eq_true rfl) h_a0 iX11_save_11 fX11_save_361 rfl rfl (by decide) dX11_save_2 ?_
  refine am_letI (fun J1 => ?_)
  refine am_iconst (v := 0) dX11_save_5 (by decide) ?_
  refine am_istore_n (ls' := [(1, .int (0 : Int32)), (0, .ref (am_B Z + a0))]) dX11_save_6 rfl (Nat.le_of_ble_eq_true rfl) rfl ?_
  refine am_jnV (fun j2 ej2 => ?_)
  have hj2 : ∀ (J3 : am_I), am_V Z X kX11_save (fun r : Int32 × am_I => (some (.int r.1), R, r.2, L)) 31 [(0, .ref (am_B Z + a0))] [] R J3 L (j2 J3) := by
    subst ej2
    intro J3
    show am_V Z X kX11_save (fun r : Int32 × am_I => (some (.int r.1), R, r.2, L)) 31 [(0, .ref (am_B Z + a0))] [] R J3 L _
    refine am_iconst (v := 0) dX11_save_31 (by decide) ?_
    refine am_istore_n (ls' := [(1, .int (0 : Int32)), (0, .ref (am_B Z + a0))]) dX11_save_32 rfl (Nat.le_of_ble_eq_true rfl) rfl ?_
    refine am_jnV (fun j4 ej4 => ?_)
    have hj4 : ∀ (J5 : am_I), am_V Z X kX11_save (fun r : Int32 × am_I => (some (.int r.1), R, r.2, L)) 59 [(0, .ref (am_B Z + a0))] [] R J5 L (j4 J5) := by
      subst ej4
      intro J5
      show am_V Z X kX11_save (fun r : Int32 × am_I => (some (.int r.1), R, r.2, L)) 59 [(0, .ref (am_B Z + a0))] [] R J5 L _
      refine am_aload_n dX11_save_59 rfl 0 rfl ?_
      refine am_getR 11 48 clX11 (Nat.le_of_ble_eq_true rfl) h_a0 iX11_save_11 fX11_save_109 rfl rfl dX11_save_60 (fun h6 => ?_)
      refine am_bipush (v := 21) dX11_save_63 (by decide) ?_
      refine am_aload_n dX11_save_65 rfl 0 rfl ?_
      refine am_get 11 3 clX11 (Nat.le_of_ble_eq_true rfl) h_a0 iX11_save_11 fX11_save_19 rfl dX11_save_66 ?_
      refine am_iast h6 dX11_save_69 ?_
      refine am_letI (fun J7 => ?_)
      refine am_aload_n dX11_save_70 rfl 0 rfl ?_
      refine am_getR 11 48 clX11 (Nat.le_of_ble_eq_true rfl) h_a0 iX11_save_11 fX11_save_109 rfl rfl dX11_save_71 (fun h8 => ?_)
      refine am_bipush (v := 22) dX11_save_74 (by decide) ?_
      refine am_aload_n dX11_save_76 rfl 0 rfl ?_
      refine am_get 11 4 clX11 (Nat.le_of_ble_eq_true rfl) h_a0 iX11_save_11 fX11_save_112 rfl dX11_save_77 ?_
      refine am_iast h8 dX11_save_80 ?_
      refine am_letI (fun J9 => ?_)
      refine am_aload_n dX11_save_81 rfl 0 rfl ?_
      refine am_getR 11 48 clX11 (Nat.le_of_ble_eq_true rfl) h_a0 iX11_save_11 fX11_save_109 rfl rfl dX11_save_82 (fun h10 => ?_)
      refine am_bipush (v := 23) dX11_save_85 (by decide) ?_
      refine am_aload_n dX11_save_87 rfl 0 rfl ?_
      refine am_get 11 5 clX11 (Nat.le_of_ble_eq_true rfl) h_a0 iX11_save_11 fX11_save_115 rfl dX11_save_88 ?_
      refine am_iast h10 dX11_save_91 ?_
      refine am_letI (fun J11 => ?_)
      refine am_aload_n dX11_save_92 rfl 0 rfl ?_
      refine am_get 11 3 clX11 (Nat.le_of_ble_eq_true rfl) h_a0 iX11_save_11 fX11_save_19 rfl dX11_save_93 ?_
      exact am_iret dX11_save_96 rfl rfl
    refine am_sub (ls' := [(0, .ref (am_B Z + a0)), (1, .int (0 : Int32))]) [1, 0] rfl ?_
    exact uX11_save_33 R L a0 h_a0 j4 hj4 am_fu (0 : Int32) J3
  refine am_sub (ls' := [(0, .ref (am_B Z + a0)), (1, .int (0 : Int32))]) [1, 0] rfl ?_
  exact uX11_save_7 R L a0 h_a0 j2 hj2 am_fu (0 : Int32) J1
abbrev kX11_restore : am_K := (cX11_restore, 2, RX11, wsX11_restore, some .int, { frames := 0, cells := 0, slots := 0, locals := 0 })
theorem hX11_restore : am_cl yX11_restore kX11_restore 0 := ⟨⟨_, rfl⟩, rfl, rfl, by decide +kernel, by decide +kernel, by decide +kernel⟩
theorem iX11_restore_11 : ∀ w ∈ u_ws RX11 TX11 50, w ∈ wsX11_restore := by decide +kernel
theorem fX11_restore_361 : Cond.fieldLink RX11 361 "AmbiguityAnalyzerModel" "hasSaved" "Z" ∈ wsX11_restore := by decide +kernel
theorem fX11_restore_7 : Cond.fieldLink RX11 7 "AmbiguityAnalyzerModel" "targets" "[I" ∈ wsX11_restore := by decide +kernel
theorem fX11_restore_109 : Cond.fieldLink RX11 109 "AmbiguityAnalyzerModel" "saved" "[I" ∈ wsX11_restore := by decide +kernel
theorem fX11_restore_16 : Cond.fieldLink RX11 16 "AmbiguityAnalyzerModel" "weight" "[I" ∈ wsX11_restore := by decide +kernel
theorem fX11_restore_19 : Cond.fieldLink RX11 19 "AmbiguityAnalyzerModel" "states" "I" ∈ wsX11_restore := by decide +kernel
theorem fX11_restore_112 : Cond.fieldLink RX11 112 "AmbiguityAnalyzerModel" "initials" "I" ∈ wsX11_restore := by decide +kernel
theorem fX11_restore_115 : Cond.fieldLink RX11 115 "AmbiguityAnalyzerModel" "finals" "I" ∈ wsX11_restore := by decide +kernel
theorem fX11_restore_118 : Cond.fieldLink RX11 118 "AmbiguityAnalyzerModel" "isKnown" "Z" ∈ wsX11_restore := by decide +kernel
set_option maxRecDepth 100000 in
set_option maxHeartbeats 4000000 in
theorem vX11_restore_38 {Z : am_Z} {X : am_X} (R : am_R) (L : am_L) (a0 : Nat) (h13 : am_G Z a0 = some (.inl 11)) (j4 : am_I → Option (Int32 × am_I)) (hj4 : ∀ (J5 : am_I), am_V Z X kX11_restore (fun r : Int32 × am_I => (some (.int r.1), R, r.2, L)) 64 [(0, .ref (am_B Z + a0))] [] R J5 L (j4 J5)) (ih16 : Int32 → am_I → Option (Int32 × am_I)) (hih16 : ∀ (v14 : Int32) (J15 : am_I), am_V Z X kX11_restore (fun r : Int32 × am_I => (some (.int r.1), R, r.2, L)) 38 [(0, .ref (am_B Z + a0)), (1, .int v14)] [] R J15 L (ih16 v14 J15)) (v14 : Int32) (J15 : am_I) : am_V Z X kX11_restore (fun r : Int32 × am_I => (some (.int r.1), R, r.2, L)) 38 [(0, .ref (am_B Z + a0)), (1, .int v14)] [] R J15 L (sX11_restore_38 R a0 j4 ih16 v14 J15) := by
  unfold sX11_restore_38
  refine am_iload_n dX11_restore_38 rfl 1 rfl ?_
  refine am_iconst (v := 3) dX11_restore_39 (by decide) ?_
  refine am_icmp_ge (tgt := 64) dX11_restore_40 rfl (fun e17 => ?_) (fun e17 => ?_)
  · refine am_sub (ls' := [(0, .ref (am_B Z + a0))]) [0] rfl ?_
    exact hj4 J15
  · refine am_aload_n dX11_restore_43 rfl 0 rfl ?_
    refine am_getR 11 2 clX11 (Nat.le_of_ble_eq_true rfl) h13 iX11_restore_11 fX11_restore_16 rfl rfl dX11_restore_44 (fun h18 => ?_)
    refine am_iload_n dX11_restore_47 rfl 1 rfl ?_
    refine am_aload_n dX11_restore_48 rfl 0 rfl ?_
    refine am_getR 11 48 clX11 (Nat.le_of_ble_eq_true rfl) h13 iX11_restore_11 fX11_restore_109 rfl rfl dX11_restore_49 (fun h19 => ?_)
    refine am_bipush (v := 18) dX11_restore_52 (by decide) ?_
    refine am_iload_n dX11_restore_54 rfl 1 rfl ?_
    refine am_iadd dX11_restore_55 ?_
    refine am_iald h19 dX11_restore_56 ?_
    refine am_iast h18 dX11_restore_57 ?_
    refine am_letI (fun J20 => ?_)
    refine am_iinc (j := 1) (ls' := [(1, .int (v14 + (1 : Int32))), (0, .ref (am_B Z + a0))]) dX11_restore_58 rfl rfl (Nat.le_of_ble_eq_true rfl) rfl ?_
    refine am_goto (tgt := 38) dX11_restore_61 rfl ?_
    refine am_sub (ls' := [(0, .ref (am_B Z + a0)), (1, .int (v14 + (1 : Int32)))]) [1, 0] rfl ?_
    exact hih16 (v14 + (1 : Int32)) J20
theorem uX11_restore_38 {Z : am_Z} {X : am_X} (R : am_R) (L : am_L) (a0 : Nat) (h13 : am_G Z a0 = some (.inl 11)) (j4 : am_I → Option (Int32 × am_I)) (hj4 : ∀ (J5 : am_I), am_V Z X kX11_restore (fun r : Int32 × am_I => (some (.int r.1), R, r.2, L)) 64 [(0, .ref (am_B Z + a0))] [] R J5 L (j4 J5)) : ∀ (n : Nat) (v14 : Int32) (J15 : am_I), am_V Z X kX11_restore (fun r : Int32 × am_I => (some (.int r.1), R, r.2, L)) 38 [(0, .ref (am_B Z + a0)), (1, .int v14)] [] R J15 L (lX11_restore_38 R a0 j4 n v14 J15) := by
  intro n
  induction n with
  | zero => intro _ _; exact am_none
  | succ n ih => exact fun v14 J15 => vX11_restore_38 R L a0 h13 j4 hj4 (lX11_restore_38 R a0 j4 n) ih v14 J15
set_option maxRecDepth 100000 in
set_option maxHeartbeats 4000000 in
theorem vX11_restore_12 {Z : am_Z} {X : am_X} (R : am_R) (L : am_L) (a0 : Nat) (h21 : am_G Z a0 = some (.inl 11)) (j2 : am_I → Option (Int32 × am_I)) (hj2 : ∀ (J3 : am_I), am_V Z X kX11_restore (fun r : Int32 × am_I => (some (.int r.1), R, r.2, L)) 36 [(0, .ref (am_B Z + a0))] [] R J3 L (j2 J3)) (ih24 : Int32 → am_I → Option (Int32 × am_I)) (hih24 : ∀ (v22 : Int32) (J23 : am_I), am_V Z X kX11_restore (fun r : Int32 × am_I => (some (.int r.1), R, r.2, L)) 12 [(0, .ref (am_B Z + a0)), (1, .int v22)] [] R J23 L (ih24 v22 J23)) (v22 : Int32) (J23 : am_I) : am_V Z X kX11_restore (fun r : Int32 × am_I => (some (.int r.1), R, r.2, L)) 12 [(0, .ref (am_B Z + a0)), (1, .int v22)] [] R J23 L (sX11_restore_12 R a0 j2 ih24 v22 J23) := by
  unfold sX11_restore_12
  refine am_iload_n dX11_restore_12 rfl 1 rfl ?_
  refine am_bipush (v := 18) dX11_restore_13 (by decide) ?_
  refine am_icmp_ge (tgt := 36) dX11_restore_15 rfl (fun e25 => ?_) (fun e25 => ?_)
  · refine am_sub (ls' := [(0, .ref (am_B Z + a0))]) [0] rfl ?_
    exact hj2 J23
  · refine am_aload_n dX11_restore_18 rfl 0 rfl ?_
    refine am_getR 11 0 clX11 (Nat.le_of_ble_eq_true rfl) h21 iX11_restore_11 fX11_restore_7 rfl rfl dX11_restore_19 (fun h26 => ?_)
    refine am_iload_n dX11_restore_22 rfl 1 rfl ?_
    refine am_aload_n dX11_restore_23 rfl 0 rfl ?_
    refine am_getR 11 48 clX11 (Nat.le_of_ble_eq_true rfl) h21 iX11_restore_11 fX11_restore_109 rfl rfl dX11_restore_24 (fun h27 => ?_)
    refine am_iload_n dX11_restore_27 rfl 1 rfl ?_
    refine am_iald h27 dX11_restore_28 ?_
    refine am_iast h26 dX11_restore_29 ?_
    refine am_letI (fun J28 => ?_)
    refine am_iinc (j := 1) (ls' := [(1, .int (v22 + (1 : Int32))), (0, .ref (am_B Z + a0))]) dX11_restore_30 rfl rfl (Nat.le_of_ble_eq_true rfl) rfl ?_
    refine am_goto (tgt := 12) dX11_restore_33 rfl ?_
    refine am_sub (ls' := [(0, .ref (am_B Z + a0)), (1, .int (v22 + (1 : Int32)))]) [1, 0] rfl ?_
    exact hih24 (v22 + (1 : Int32)) J28
theorem uX11_restore_12 {Z : am_Z} {X : am_X} (R : am_R) (L : am_L) (a0 : Nat) (h21 : am_G Z a0 = some (.inl 11)) (j2 : am_I → Option (Int32 × am_I)) (hj2 : ∀ (J3 : am_I), am_V Z X kX11_restore (fun r : Int32 × am_I => (some (.int r.1), R, r.2, L)) 36 [(0, .ref (am_B Z + a0))] [] R J3 L (j2 J3)) : ∀ (n : Nat) (v22 : Int32) (J23 : am_I), am_V Z X kX11_restore (fun r : Int32 × am_I => (some (.int r.1), R, r.2, L)) 12 [(0, .ref (am_B Z + a0)), (1, .int v22)] [] R J23 L (lX11_restore_12 R a0 j2 n v22 J23) := by
  intro n
  induction n with
  | zero => intro _ _; exact am_none
  | succ n ih => exact fun v22 J23 => vX11_restore_12 R L a0 h21 j2 hj2 (lX11_restore_12 R a0 j2 n) ih v22 J23
set_option maxRecDepth 100000 in
set_option maxHeartbeats 4000000 in
theorem tX11_restore {Z : am_Z} (R : am_R) (I : am_I) (L : am_L) (a0 : Nat) (h_a0 : am_G Z a0 = some (.inl 11)) : am_M Z yX11_restore kX11_restore [.ref (am_B Z + a0)] R I L (pX11_restore R I a0) (fun r : Int32 × am_I => (some (.int r.1), R, r.2, L)) := by
  refine am_entry (ls := [(0, .ref (am_B Z + a0))]) (by decide) hX11_restore rfl (Nat.le_of_ble_eq_true rfl) rfl (fun X => ?_)
  unfold pX11_restore
  refine am_aload_n dX11_restore_0 rfl 0 rfl ?_
  refine am_get 11 49 clX11 (Nat.le_of_ble_eq_true rfl) h_a0 iX11_restore_11 fX11_restore_361 rfl dX11_restore_1 ?_
  refine am_if_ne (tgt := 10) dX11_restore_4 rfl (fun e1 => ?_) (fun e1 => ?_)
  · refine am_iconst (v := 0) dX11_restore_10 (by decide) ?_
    refine am_istore_n (ls' := [(1, .int (0 : Int32)), (0, .ref (am_B Z + a0))]) dX11_restore_11 rfl (Nat.le_of_ble_eq_true rfl) rfl ?_
    refine am_jnV (fun j2 ej2 => ?_)
    have hj2 : ∀ (J3 : am_I), am_V Z X kX11_restore (fun r : Int32 × am_I => (some (.int r.1), R, r.2, L)) 36 [(0, .ref (am_B Z + a0))] [] R J3 L (j2 J3) := by
      subst ej2
      intro J3
      show am_V Z X kX11_restore (fun r : Int32 × am_I => (some (.int r.1), R, r.2, L)) 36 [(0, .ref (am_B Z + a0))] [] R J3 L _
      refine am_iconst (v := 0) dX11_restore_36 (by decide) ?_
      refine am_istore_n (ls' := [(1, .int (0 : Int32)), (0, .ref (am_B Z + a0))]) dX11_restore_37 rfl (Nat.le_of_ble_eq_true rfl) rfl ?_
      refine am_jnV (fun j4 ej4 => ?_)
      have hj4 : ∀ (J5 : am_I), am_V Z X kX11_restore (fun r : Int32 × am_I => (some (.int r.1), R, r.2, L)) 64 [(0, .ref (am_B Z + a0))] [] R J5 L (j4 J5) := by
        subst ej4
        intro J5
        show am_V Z X kX11_restore (fun r : Int32 × am_I => (some (.int r.1), R, r.2, L)) 64 [(0, .ref (am_B Z + a0))] [] R J5 L _
        refine am_aload_n dX11_restore_64 rfl 0 rfl ?_
        refine am_aload_n dX11_restore_65 rfl 0 rfl ?_
        refine am_getR 11 48 clX11 (Nat.le_of_ble_eq_true rfl) h_a0 iX11_restore_11 fX11_restore_109 rfl rfl dX11_restore_66 (fun h6 => ?_)
        refine am_bipush (v := 21) dX11_restore_69 (by decide) ?_
        refine am_iald h6 dX11_restore_71 ?_
        refine am_putI 11 3 clX11 (Nat.le_of_ble_eq_true rfl) h_a0 iX11_restore_11 fX11_restore_19 rfl rfl dX11_restore_72 ?_
        refine am_letI (fun J7 => ?_)
        refine am_aload_n dX11_restore_75 rfl 0 rfl ?_
        refine am_aload_n dX11_restore_76 rfl 0 rfl ?_
        refine am_getR 11 48 clX11 (Nat.le_of_ble_eq_true rfl) h_a0 iX11_restore_11 fX11_restore_109 rfl rfl dX11_restore_77 (fun h8 => ?_)
        refine am_bipush (v := 22) dX11_restore_80 (by decide) ?_
        refine am_iald h8 dX11_restore_82 ?_
        refine am_putI 11 4 clX11 (Nat.le_of_ble_eq_true rfl) h_a0 iX11_restore_11 fX11_restore_112 rfl rfl dX11_restore_83 ?_
        refine am_letI (fun J9 => ?_)
        refine am_aload_n dX11_restore_86 rfl 0 rfl ?_
        refine am_aload_n dX11_restore_87 rfl 0 rfl ?_
        refine am_getR 11 48 clX11 (Nat.le_of_ble_eq_true rfl) h_a0 iX11_restore_11 fX11_restore_109 rfl rfl dX11_restore_88 (fun h10 => ?_)
        refine am_bipush (v := 23) dX11_restore_91 (by decide) ?_
        refine am_iald h10 dX11_restore_93 ?_
        refine am_putI 11 5 clX11 (Nat.le_of_ble_eq_true rfl) h_a0 iX11_restore_11 fX11_restore_115 rfl rfl dX11_restore_94 ?_
        refine am_letI (fun J11 => ?_)
        refine am_aload_n dX11_restore_97 rfl 0 rfl ?_
        refine am_iconst (v := 0) dX11_restore_98 (by decide) ?_
        refine am_putZ 11 6 clX11 (Nat.le_of_ble_eq_true rfl) h_a0 iX11_restore_11 fX11_restore_118 rfl rfl (by decide) dX11_restore_99 ?_
        refine am_letI (fun J12 => ?_)
        refine am_aload_n dX11_restore_102 rfl 0 rfl ?_
        refine am_get 11 3 clX11 (Nat.le_of_ble_eq_true rfl) h_a0 iX11_restore_11 fX11_restore_19 rfl dX11_restore_103 ?_
        exact am_iret dX11_restore_106 rfl rfl
      refine am_sub (ls' := [(0, .ref (am_B Z + a0)), (1, .int (0 : Int32))]) [1, 0] rfl ?_
      exact uX11_restore_38 R L a0 h_a0 j4 hj4 am_fu (0 : Int32) J3
    refine am_sub (ls' := [(0, .ref (am_B Z + a0)), (1, .int (0 : Int32))]) [1, 0] rfl ?_
    exact uX11_restore_12 R L a0 h_a0 j2 hj2 am_fu (0 : Int32) I
  · refine am_bipush (v := -4) dX11_restore_7 (by decide) ?_
    exact am_iret dX11_restore_9 rfl rfl
