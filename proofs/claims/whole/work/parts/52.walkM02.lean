abbrev kX11_wordAmbiguity : am_K := (cX11_wordAmbiguity, 4, RX11, wsX11_wordAmbiguity, some .long, { frames := 1, cells := 0, slots := 0, locals := 22 })
theorem hX11_wordAmbiguity : am_cl yX11_wordAmbiguity kX11_wordAmbiguity 0 := ⟨⟨_, rfl⟩, rfl, rfl, by decide +kernel, by decide +kernel, by decide +kernel⟩
theorem iX11_wordAmbiguity_11 : ∀ w ∈ u_ws RX11 TX11 50, w ∈ wsX11_wordAmbiguity := by decide +kernel
theorem fX11_wordAmbiguity_38 : Cond.fieldLink RX11 38 "AmbiguityAnalyzerModel" "ways" "[J" ∈ wsX11_wordAmbiguity := by decide +kernel
theorem fX11_wordAmbiguity_112 : Cond.fieldLink RX11 112 "AmbiguityAnalyzerModel" "initials" "I" ∈ wsX11_wordAmbiguity := by decide +kernel
theorem fX11_wordAmbiguity_197 : Cond.fieldLink RX11 197 "AmbiguityAnalyzerModel" "wordLength" "I" ∈ wsX11_wordAmbiguity := by decide +kernel
theorem fX11_wordAmbiguity_42 : Cond.fieldLink RX11 42 "AmbiguityAnalyzerModel" "newWays" "[J" ∈ wsX11_wordAmbiguity := by decide +kernel
theorem fX11_wordAmbiguity_19 : Cond.fieldLink RX11 19 "AmbiguityAnalyzerModel" "states" "I" ∈ wsX11_wordAmbiguity := by decide +kernel
theorem fX11_wordAmbiguity_7 : Cond.fieldLink RX11 7 "AmbiguityAnalyzerModel" "targets" "[I" ∈ wsX11_wordAmbiguity := by decide +kernel
theorem fX11_wordAmbiguity_35 : Cond.fieldLink RX11 35 "AmbiguityAnalyzerModel" "word" "[I" ∈ wsX11_wordAmbiguity := by decide +kernel
theorem fX11_wordAmbiguity_115 : Cond.fieldLink RX11 115 "AmbiguityAnalyzerModel" "finals" "I" ∈ wsX11_wordAmbiguity := by decide +kernel
set_option maxRecDepth 100000 in
set_option maxHeartbeats 4000000 in
theorem vX11_wordAmbiguity_179 {Z : am_Z} {X : am_X} (R : am_R) (I : am_I) (a0 : Nat) (J4 : am_L) (h5 : am_G Z a0 = some (.inl 11)) (ih8 : Int64 → Int32 → Option (Int64 × am_L)) (hih8 : ∀ (v6 : Int64) (v7 : Int32), am_V Z X kX11_wordAmbiguity (fun r : Int64 × am_L => (some (.long r.1), R, I, r.2)) 179 [(0, .ref (am_B Z + a0)), (1, .long v6), (3, .int v7)] [] R I J4 (ih8 v6 v7)) (v6 : Int64) (v7 : Int32) : am_V Z X kX11_wordAmbiguity (fun r : Int64 × am_L => (some (.long r.1), R, I, r.2)) 179 [(0, .ref (am_B Z + a0)), (1, .long v6), (3, .int v7)] [] R I J4 (sX11_wordAmbiguity_179 R I a0 J4 ih8 v6 v7) := by
  unfold sX11_wordAmbiguity_179
  refine am_iload_n dX11_wordAmbiguity_179 rfl 2 rfl ?_
  refine am_aload_n dX11_wordAmbiguity_180 rfl 0 rfl ?_
  refine am_get 11 3 clX11 (Nat.le_of_ble_eq_true rfl) h5 iX11_wordAmbiguity_11 fX11_wordAmbiguity_19 rfl dX11_wordAmbiguity_181 ?_
  refine am_icmp_ge (tgt := 218) dX11_wordAmbiguity_184 rfl (fun e9 => ?_) (fun e9 => ?_)
  · refine am_lload_n dX11_wordAmbiguity_218 rfl 1 rfl ?_
    exact am_lret dX11_wordAmbiguity_219 rfl rfl
  · refine am_lload_n dX11_wordAmbiguity_187 rfl 1 rfl ?_
    refine am_aload_n dX11_wordAmbiguity_188 rfl 0 rfl ?_
    refine am_get 11 5 clX11 (Nat.le_of_ble_eq_true rfl) h5 iX11_wordAmbiguity_11 fX11_wordAmbiguity_115 rfl dX11_wordAmbiguity_189 ?_
    refine am_i2l dX11_wordAmbiguity_192 ?_
    refine am_iload_n dX11_wordAmbiguity_193 rfl 2 rfl ?_
    refine am_callS [.long (Int32.toInt64 (I a0 5)), .int v7] (tX11_has R I J4 (Int32.toInt64 (I a0 5)) v7) gX11_wordAmbiguity_X11_has hX11_has ⟨Nat.le_of_ble_eq_true rfl, Nat.le_of_ble_eq_true rfl⟩ rfl rfl (Nat.le_of_ble_eq_true rfl) dX11_wordAmbiguity_194 (fun r10 => ?_)
    show am_V Z X kX11_wordAmbiguity (fun r : Int64 × am_L => (some (.long r.1), R, I, r.2)) 197 [(0, .ref (am_B Z + a0)), (1, .long v6), (3, .int v7)] [.int r10, .long v6] R I J4 _
    refine am_jnV (fun j11 ej11 => ?_)
    have hj11 : ∀ (v12 : Int64), am_V Z X kX11_wordAmbiguity (fun r : Int64 × am_L => (some (.long r.1), R, I, r.2)) 210 [(0, .ref (am_B Z + a0)), (3, .int v7)] [.long v12, .long v6] R I J4 (j11 v12) := by
      subst ej11
      intro v12
      show am_V Z X kX11_wordAmbiguity (fun r : Int64 × am_L => (some (.long r.1), R, I, r.2)) 210 [(0, .ref (am_B Z + a0)), (3, .int v7)] [.long v12, .long v6] R I J4 _
      refine am_ladd dX11_wordAmbiguity_210 ?_
      refine am_letTl (fun v13 => ?_)
      refine am_lstore_n (ls' := [(1, .long v13), (0, .ref (am_B Z + a0)), (3, .int v7)]) dX11_wordAmbiguity_211 rfl (Nat.le_of_ble_eq_true rfl) rfl ?_
      refine am_iinc (j := 2) (ls' := [(3, .int (v7 + (1 : Int32))), (1, .long v13), (0, .ref (am_B Z + a0))]) dX11_wordAmbiguity_212 rfl rfl (Nat.le_of_ble_eq_true rfl) rfl ?_
      refine am_goto (tgt := 179) dX11_wordAmbiguity_215 rfl ?_
      refine am_sub (ls' := [(0, .ref (am_B Z + a0)), (1, .long v13), (3, .int (v7 + (1 : Int32)))]) [2, 1, 0] rfl ?_
      exact hih8 v13 (v7 + (1 : Int32))
    refine am_if_eq (tgt := 209) dX11_wordAmbiguity_197 rfl (fun e14 => ?_) (fun e14 => ?_)
    · refine am_lconst (v := 0) dX11_wordAmbiguity_209 (by decide) ?_
      refine am_sub (ls' := [(0, .ref (am_B Z + a0)), (3, .int v7)]) [0, 2] rfl ?_
      exact hj11 (0 : Int64)
    · refine am_aload_n dX11_wordAmbiguity_200 rfl 0 rfl ?_
      refine am_getR 11 17 clX11 (Nat.le_of_ble_eq_true rfl) h5 iX11_wordAmbiguity_11 fX11_wordAmbiguity_38 rfl rfl dX11_wordAmbiguity_201 (fun h15 => ?_)
      refine am_iload_n dX11_wordAmbiguity_204 rfl 2 rfl ?_
      refine am_lald h15 dX11_wordAmbiguity_205 ?_
      refine am_goto (tgt := 210) dX11_wordAmbiguity_206 rfl ?_
      refine am_sub (ls' := [(0, .ref (am_B Z + a0)), (3, .int v7)]) [0, 2] rfl ?_
      exact hj11 (J4 (R a0 17) (Int32.toNatClampNeg v7))
theorem uX11_wordAmbiguity_179 {Z : am_Z} {X : am_X} (R : am_R) (I : am_I) (a0 : Nat) (J4 : am_L) (h5 : am_G Z a0 = some (.inl 11)) : ∀ (n : Nat) (v6 : Int64) (v7 : Int32), am_V Z X kX11_wordAmbiguity (fun r : Int64 × am_L => (some (.long r.1), R, I, r.2)) 179 [(0, .ref (am_B Z + a0)), (1, .long v6), (3, .int v7)] [] R I J4 (lX11_wordAmbiguity_179 R I a0 J4 n v6 v7) := by
  intro n
  induction n with
  | zero => intro _ _; exact am_none
  | succ n ih => exact fun v6 v7 => vX11_wordAmbiguity_179 R I a0 J4 h5 (lX11_wordAmbiguity_179 R I a0 J4 n) ih v6 v7
set_option maxRecDepth 100000 in
set_option maxHeartbeats 4000000 in
theorem vX11_wordAmbiguity_145 {Z : am_Z} {X : am_X} (R : am_R) (I : am_I) (a0 : Nat) (v17 : Int32) (h27 : am_G Z a0 = some (.inl 11)) (j25 : am_L → Option (Int64 × am_L)) (hj25 : ∀ (J26 : am_L), am_V Z X kX11_wordAmbiguity (fun r : Int64 × am_L => (some (.long r.1), R, I, r.2)) 169 [(0, .ref (am_B Z + a0)), (1, .int v17)] [] R I J26 (j25 J26)) (ih30 : Int32 → am_L → Option (Int64 × am_L)) (hih30 : ∀ (v28 : Int32) (J29 : am_L), am_V Z X kX11_wordAmbiguity (fun r : Int64 × am_L => (some (.long r.1), R, I, r.2)) 145 [(0, .ref (am_B Z + a0)), (1, .int v17), (2, .int v28)] [] R I J29 (ih30 v28 J29)) (v28 : Int32) (J29 : am_L) : am_V Z X kX11_wordAmbiguity (fun r : Int64 × am_L => (some (.long r.1), R, I, r.2)) 145 [(0, .ref (am_B Z + a0)), (1, .int v17), (2, .int v28)] [] R I J29 (sX11_wordAmbiguity_145 R I a0 v17 j25 ih30 v28 J29) := by
  unfold sX11_wordAmbiguity_145
  refine am_iload_n dX11_wordAmbiguity_145 rfl 2 rfl ?_
  refine am_bipush (v := 6) dX11_wordAmbiguity_146 (by decide) ?_
  refine am_icmp_ge (tgt := 169) dX11_wordAmbiguity_148 rfl (fun e31 => ?_) (fun e31 => ?_)
  · refine am_sub (ls' := [(0, .ref (am_B Z + a0)), (1, .int v17)]) [0, 1] rfl ?_
    exact hj25 J29
  · refine am_aload_n dX11_wordAmbiguity_151 rfl 0 rfl ?_
    refine am_getR 11 17 clX11 (Nat.le_of_ble_eq_true rfl) h27 iX11_wordAmbiguity_11 fX11_wordAmbiguity_38 rfl rfl dX11_wordAmbiguity_152 (fun h32 => ?_)
    refine am_iload_n dX11_wordAmbiguity_155 rfl 2 rfl ?_
    refine am_aload_n dX11_wordAmbiguity_156 rfl 0 rfl ?_
    refine am_getR 11 18 clX11 (Nat.le_of_ble_eq_true rfl) h27 iX11_wordAmbiguity_11 fX11_wordAmbiguity_42 rfl rfl dX11_wordAmbiguity_157 (fun h33 => ?_)
    refine am_iload_n dX11_wordAmbiguity_160 rfl 2 rfl ?_
    refine am_lald h33 dX11_wordAmbiguity_161 ?_
    refine am_last h32 dX11_wordAmbiguity_162 ?_
    refine am_letL (fun J34 => ?_)
    refine am_iinc (j := 2) (ls' := [(2, .int (v28 + (1 : Int32))), (0, .ref (am_B Z + a0)), (1, .int v17)]) dX11_wordAmbiguity_163 rfl rfl (Nat.le_of_ble_eq_true rfl) rfl ?_
    refine am_goto (tgt := 145) dX11_wordAmbiguity_166 rfl ?_
    refine am_sub (ls' := [(0, .ref (am_B Z + a0)), (1, .int v17), (2, .int (v28 + (1 : Int32)))]) [1, 2, 0] rfl ?_
    exact hih30 (v28 + (1 : Int32)) J34
theorem uX11_wordAmbiguity_145 {Z : am_Z} {X : am_X} (R : am_R) (I : am_I) (a0 : Nat) (v17 : Int32) (h27 : am_G Z a0 = some (.inl 11)) (j25 : am_L → Option (Int64 × am_L)) (hj25 : ∀ (J26 : am_L), am_V Z X kX11_wordAmbiguity (fun r : Int64 × am_L => (some (.long r.1), R, I, r.2)) 169 [(0, .ref (am_B Z + a0)), (1, .int v17)] [] R I J26 (j25 J26)) : ∀ (n : Nat) (v28 : Int32) (J29 : am_L), am_V Z X kX11_wordAmbiguity (fun r : Int64 × am_L => (some (.long r.1), R, I, r.2)) 145 [(0, .ref (am_B Z + a0)), (1, .int v17), (2, .int v28)] [] R I J29 (lX11_wordAmbiguity_145 R I a0 v17 j25 n v28 J29) := by
  intro n
  induction n with
  | zero => intro _ _; exact am_none
  | succ n ih => exact fun v28 J29 => vX11_wordAmbiguity_145 R I a0 v17 h27 j25 hj25 (lX11_wordAmbiguity_145 R I a0 v17 j25 n) ih v28 J29
set_option maxRecDepth 100000 in
set_option maxHeartbeats 4000000 in
theorem vX11_wordAmbiguity_80 {Z : am_Z} {X : am_X} (R : am_R) (I : am_I) (a0 : Nat) (v17 : Int32) (v36 : Int32) (h42 : am_G Z a0 = some (.inl 11)) (j40 : am_L → Option (Int64 × am_L)) (hj40 : ∀ (J41 : am_L), am_V Z X kX11_wordAmbiguity (fun r : Int64 × am_L => (some (.long r.1), R, I, r.2)) 137 [(0, .ref (am_B Z + a0)), (1, .int v17), (2, .int v36)] [] R I J41 (j40 J41)) (ih45 : Int32 → am_L → Option (Int64 × am_L)) (hih45 : ∀ (v43 : Int32) (J44 : am_L), am_V Z X kX11_wordAmbiguity (fun r : Int64 × am_L => (some (.long r.1), R, I, r.2)) 80 [(0, .ref (am_B Z + a0)), (1, .int v17), (2, .int v36), (3, .int v43)] [] R I J44 (ih45 v43 J44)) (v43 : Int32) (J44 : am_L) : am_V Z X kX11_wordAmbiguity (fun r : Int64 × am_L => (some (.long r.1), R, I, r.2)) 80 [(0, .ref (am_B Z + a0)), (1, .int v17), (2, .int v36), (3, .int v43)] [] R I J44 (sX11_wordAmbiguity_80 R I a0 v17 v36 j40 ih45 v43 J44) := by
  unfold sX11_wordAmbiguity_80
  refine am_iload_n dX11_wordAmbiguity_80 rfl 3 rfl ?_
  refine am_aload_n dX11_wordAmbiguity_81 rfl 0 rfl ?_
  refine am_get 11 3 clX11 (Nat.le_of_ble_eq_true rfl) h42 iX11_wordAmbiguity_11 fX11_wordAmbiguity_19 rfl dX11_wordAmbiguity_82 ?_
  refine am_icmp_ge (tgt := 137) dX11_wordAmbiguity_85 rfl (fun e46 => ?_) (fun e46 => ?_)
  · refine am_sub (ls' := [(0, .ref (am_B Z + a0)), (1, .int v17), (2, .int v36)]) [0, 1, 2] rfl ?_
    exact hj40 J44
  · refine am_aload_n dX11_wordAmbiguity_88 rfl 0 rfl ?_
    refine am_getR 11 18 clX11 (Nat.le_of_ble_eq_true rfl) h42 iX11_wordAmbiguity_11 fX11_wordAmbiguity_42 rfl rfl dX11_wordAmbiguity_89 (fun h47 => ?_)
    refine am_iload_n dX11_wordAmbiguity_92 rfl 3 rfl ?_
    refine am_dup2 dX11_wordAmbiguity_93 rfl rfl ?_
    refine am_lald h47 dX11_wordAmbiguity_94 ?_
    refine am_aload_n dX11_wordAmbiguity_95 rfl 0 rfl ?_
    refine am_getR 11 0 clX11 (Nat.le_of_ble_eq_true rfl) h42 iX11_wordAmbiguity_11 fX11_wordAmbiguity_7 rfl rfl dX11_wordAmbiguity_96 (fun h48 => ?_)
    refine am_bipush (v := 6) dX11_wordAmbiguity_99 (by decide) ?_
    refine am_aload_n dX11_wordAmbiguity_101 rfl 0 rfl ?_
    refine am_getR 11 15 clX11 (Nat.le_of_ble_eq_true rfl) h42 iX11_wordAmbiguity_11 fX11_wordAmbiguity_35 rfl rfl dX11_wordAmbiguity_102 (fun h49 => ?_)
    refine am_iload_n dX11_wordAmbiguity_105 rfl 1 rfl ?_
    refine am_iald h49 dX11_wordAmbiguity_106 ?_
    refine am_imul dX11_wordAmbiguity_107 ?_
    refine am_iload_n dX11_wordAmbiguity_108 rfl 2 rfl ?_
    refine am_iadd dX11_wordAmbiguity_109 ?_
    refine am_iald h48 dX11_wordAmbiguity_110 ?_
    refine am_i2l dX11_wordAmbiguity_111 ?_
    refine am_iload_n dX11_wordAmbiguity_112 rfl 3 rfl ?_
    refine am_callS [.long (Int32.toInt64 (I (R a0 0) (Int32.toNatClampNeg (((6 : Int32) * (I (R a0 15) (Int32.toNatClampNeg v17))) + v36)))), .int v43] (tX11_has R I J44 (Int32.toInt64 (I (R a0 0) (Int32.toNatClampNeg (((6 : Int32) * (I (R a0 15) (Int32.toNatClampNeg v17))) + v36)))) v43) gX11_wordAmbiguity_X11_has hX11_has ⟨Nat.le_of_ble_eq_true rfl, Nat.le_of_ble_eq_true rfl⟩ rfl rfl (Nat.le_of_ble_eq_true rfl) dX11_wordAmbiguity_113 (fun r50 => ?_)
    show am_V Z X kX11_wordAmbiguity (fun r : Int64 × am_L => (some (.long r.1), R, I, r.2)) 116 [(0, .ref (am_B Z + a0)), (1, .int v17), (2, .int v36), (3, .int v43)] [.int r50, .long (J44 (R a0 18) (Int32.toNatClampNeg v43)), .int v43, .ref (am_B Z + (R a0 18))] R I J44 _
    refine am_jnV (fun j51 ej51 => ?_)
    have hj51 : ∀ (v52 : Int64), am_V Z X kX11_wordAmbiguity (fun r : Int64 × am_L => (some (.long r.1), R, I, r.2)) 129 [(0, .ref (am_B Z + a0)), (1, .int v17), (2, .int v36), (3, .int v43)] [.long v52, .long (J44 (R a0 18) (Int32.toNatClampNeg v43)), .int v43, .ref (am_B Z + (R a0 18))] R I J44 (j51 v52) := by
      subst ej51
      intro v52
      show am_V Z X kX11_wordAmbiguity (fun r : Int64 × am_L => (some (.long r.1), R, I, r.2)) 129 [(0, .ref (am_B Z + a0)), (1, .int v17), (2, .int v36), (3, .int v43)] [.long v52, .long (J44 (R a0 18) (Int32.toNatClampNeg v43)), .int v43, .ref (am_B Z + (R a0 18))] R I J44 _
      refine am_ladd dX11_wordAmbiguity_129 ?_
      refine am_last h47 dX11_wordAmbiguity_130 ?_
      refine am_letL (fun J53 => ?_)
      refine am_iinc (j := 3) (ls' := [(3, .int (v43 + (1 : Int32))), (0, .ref (am_B Z + a0)), (1, .int v17), (2, .int v36)]) dX11_wordAmbiguity_131 rfl rfl (Nat.le_of_ble_eq_true rfl) rfl ?_
      refine am_goto (tgt := 80) dX11_wordAmbiguity_134 rfl ?_
      refine am_sub (ls' := [(0, .ref (am_B Z + a0)), (1, .int v17), (2, .int v36), (3, .int (v43 + (1 : Int32)))]) [1, 2, 3, 0] rfl ?_
      exact hih45 (v43 + (1 : Int32)) J53
    refine am_if_eq (tgt := 128) dX11_wordAmbiguity_116 rfl (fun e54 => ?_) (fun e54 => ?_)
    · refine am_lconst (v := 0) dX11_wordAmbiguity_128 (by decide) ?_
      exact hj51 (0 : Int64)
    · refine am_aload_n dX11_wordAmbiguity_119 rfl 0 rfl ?_
      refine am_getR 11 17 clX11 (Nat.le_of_ble_eq_true rfl) h42 iX11_wordAmbiguity_11 fX11_wordAmbiguity_38 rfl rfl dX11_wordAmbiguity_120 (fun h55 => ?_)
      refine am_iload_n dX11_wordAmbiguity_123 rfl 2 rfl ?_
      refine am_lald h55 dX11_wordAmbiguity_124 ?_
      refine am_goto (tgt := 129) dX11_wordAmbiguity_125 rfl ?_
      exact hj51 (J44 (R a0 17) (Int32.toNatClampNeg v36))
theorem uX11_wordAmbiguity_80 {Z : am_Z} {X : am_X} (R : am_R) (I : am_I) (a0 : Nat) (v17 : Int32) (v36 : Int32) (h42 : am_G Z a0 = some (.inl 11)) (j40 : am_L → Option (Int64 × am_L)) (hj40 : ∀ (J41 : am_L), am_V Z X kX11_wordAmbiguity (fun r : Int64 × am_L => (some (.long r.1), R, I, r.2)) 137 [(0, .ref (am_B Z + a0)), (1, .int v17), (2, .int v36)] [] R I J41 (j40 J41)) : ∀ (n : Nat) (v43 : Int32) (J44 : am_L), am_V Z X kX11_wordAmbiguity (fun r : Int64 × am_L => (some (.long r.1), R, I, r.2)) 80 [(0, .ref (am_B Z + a0)), (1, .int v17), (2, .int v36), (3, .int v43)] [] R I J44 (lX11_wordAmbiguity_80 R I a0 v17 v36 j40 n v43 J44) := by
  intro n
  induction n with
  | zero => intro _ _; exact am_none
  | succ n ih => exact fun v43 J44 => vX11_wordAmbiguity_80 R I a0 v17 v36 h42 j40 hj40 (lX11_wordAmbiguity_80 R I a0 v17 v36 j40 n) ih v43 J44
set_option maxRecDepth 100000 in
set_option maxHeartbeats 4000000 in
theorem vX11_wordAmbiguity_70 {Z : am_Z} {X : am_X} (R : am_R) (I : am_I) (a0 : Nat) (v17 : Int32) (h35 : am_G Z a0 = some (.inl 11)) (j23 : am_L → Option (Int64 × am_L)) (hj23 : ∀ (J24 : am_L), am_V Z X kX11_wordAmbiguity (fun r : Int64 × am_L => (some (.long r.1), R, I, r.2)) 143 [(0, .ref (am_B Z + a0)), (1, .int v17)] [] R I J24 (j23 J24)) (ih38 : Int32 → am_L → Option (Int64 × am_L)) (hih38 : ∀ (v36 : Int32) (J37 : am_L), am_V Z X kX11_wordAmbiguity (fun r : Int64 × am_L => (some (.long r.1), R, I, r.2)) 70 [(0, .ref (am_B Z + a0)), (1, .int v17), (2, .int v36)] [] R I J37 (ih38 v36 J37)) (v36 : Int32) (J37 : am_L) : am_V Z X kX11_wordAmbiguity (fun r : Int64 × am_L => (some (.long r.1), R, I, r.2)) 70 [(0, .ref (am_B Z + a0)), (1, .int v17), (2, .int v36)] [] R I J37 (sX11_wordAmbiguity_70 R I a0 v17 j23 ih38 v36 J37) := by
  unfold sX11_wordAmbiguity_70
  refine am_iload_n dX11_wordAmbiguity_70 rfl 2 rfl ?_
  refine am_aload_n dX11_wordAmbiguity_71 rfl 0 rfl ?_
  refine am_get 11 3 clX11 (Nat.le_of_ble_eq_true rfl) h35 iX11_wordAmbiguity_11 fX11_wordAmbiguity_19 rfl dX11_wordAmbiguity_72 ?_
  refine am_icmp_ge (tgt := 143) dX11_wordAmbiguity_75 rfl (fun e39 => ?_) (fun e39 => ?_)
  · refine am_sub (ls' := [(0, .ref (am_B Z + a0)), (1, .int v17)]) [0, 1] rfl ?_
    exact hj23 J37
  · refine am_iconst (v := 0) dX11_wordAmbiguity_78 (by decide) ?_
    refine am_istore_n (ls' := [(3, .int (0 : Int32)), (0, .ref (am_B Z + a0)), (1, .int v17), (2, .int v36)]) dX11_wordAmbiguity_79 rfl (Nat.le_of_ble_eq_true rfl) rfl ?_
    refine am_jnV (fun j40 ej40 => ?_)
    have hj40 : ∀ (J41 : am_L), am_V Z X kX11_wordAmbiguity (fun r : Int64 × am_L => (some (.long r.1), R, I, r.2)) 137 [(0, .ref (am_B Z + a0)), (1, .int v17), (2, .int v36)] [] R I J41 (j40 J41) := by
      subst ej40
      intro J41
      show am_V Z X kX11_wordAmbiguity (fun r : Int64 × am_L => (some (.long r.1), R, I, r.2)) 137 [(0, .ref (am_B Z + a0)), (1, .int v17), (2, .int v36)] [] R I J41 _
      refine am_iinc (j := 2) (ls' := [(2, .int (v36 + (1 : Int32))), (0, .ref (am_B Z + a0)), (1, .int v17)]) dX11_wordAmbiguity_137 rfl rfl (Nat.le_of_ble_eq_true rfl) rfl ?_
      refine am_goto (tgt := 70) dX11_wordAmbiguity_140 rfl ?_
      refine am_sub (ls' := [(0, .ref (am_B Z + a0)), (1, .int v17), (2, .int (v36 + (1 : Int32)))]) [1, 2, 0] rfl ?_
      exact hih38 (v36 + (1 : Int32)) J41
    refine am_sub (ls' := [(0, .ref (am_B Z + a0)), (1, .int v17), (2, .int v36), (3, .int (0 : Int32))]) [1, 2, 3, 0] rfl ?_
    exact uX11_wordAmbiguity_80 R I a0 v17 v36 h35 j40 hj40 am_fu (0 : Int32) J37
theorem uX11_wordAmbiguity_70 {Z : am_Z} {X : am_X} (R : am_R) (I : am_I) (a0 : Nat) (v17 : Int32) (h35 : am_G Z a0 = some (.inl 11)) (j23 : am_L → Option (Int64 × am_L)) (hj23 : ∀ (J24 : am_L), am_V Z X kX11_wordAmbiguity (fun r : Int64 × am_L => (some (.long r.1), R, I, r.2)) 143 [(0, .ref (am_B Z + a0)), (1, .int v17)] [] R I J24 (j23 J24)) : ∀ (n : Nat) (v36 : Int32) (J37 : am_L), am_V Z X kX11_wordAmbiguity (fun r : Int64 × am_L => (some (.long r.1), R, I, r.2)) 70 [(0, .ref (am_B Z + a0)), (1, .int v17), (2, .int v36)] [] R I J37 (lX11_wordAmbiguity_70 R I a0 v17 j23 n v36 J37) := by
  intro n
  induction n with
  | zero => intro _ _; exact am_none
  | succ n ih => exact fun v36 J37 => vX11_wordAmbiguity_70 R I a0 v17 h35 j23 hj23 (lX11_wordAmbiguity_70 R I a0 v17 j23 n) ih v36 J37
set_option maxRecDepth 100000 in
set_option maxHeartbeats 4000000 in
theorem vX11_wordAmbiguity_49 {Z : am_Z} {X : am_X} (R : am_R) (I : am_I) (a0 : Nat) (v17 : Int32) (h56 : am_G Z a0 = some (.inl 11)) (j21 : am_L → Option (Int64 × am_L)) (hj21 : ∀ (J22 : am_L), am_V Z X kX11_wordAmbiguity (fun r : Int64 × am_L => (some (.long r.1), R, I, r.2)) 68 [(0, .ref (am_B Z + a0)), (1, .int v17)] [] R I J22 (j21 J22)) (ih59 : Int32 → am_L → Option (Int64 × am_L)) (hih59 : ∀ (v57 : Int32) (J58 : am_L), am_V Z X kX11_wordAmbiguity (fun r : Int64 × am_L => (some (.long r.1), R, I, r.2)) 49 [(0, .ref (am_B Z + a0)), (1, .int v17), (2, .int v57)] [] R I J58 (ih59 v57 J58)) (v57 : Int32) (J58 : am_L) : am_V Z X kX11_wordAmbiguity (fun r : Int64 × am_L => (some (.long r.1), R, I, r.2)) 49 [(0, .ref (am_B Z + a0)), (1, .int v17), (2, .int v57)] [] R I J58 (sX11_wordAmbiguity_49 R I a0 v17 j21 ih59 v57 J58) := by
  unfold sX11_wordAmbiguity_49
  refine am_iload_n dX11_wordAmbiguity_49 rfl 2 rfl ?_
  refine am_bipush (v := 6) dX11_wordAmbiguity_50 (by decide) ?_
  refine am_icmp_ge (tgt := 68) dX11_wordAmbiguity_52 rfl (fun e60 => ?_) (fun e60 => ?_)
  · refine am_sub (ls' := [(0, .ref (am_B Z + a0)), (1, .int v17)]) [0, 1] rfl ?_
    exact hj21 J58
  · refine am_aload_n dX11_wordAmbiguity_55 rfl 0 rfl ?_
    refine am_getR 11 18 clX11 (Nat.le_of_ble_eq_true rfl) h56 iX11_wordAmbiguity_11 fX11_wordAmbiguity_42 rfl rfl dX11_wordAmbiguity_56 (fun h61 => ?_)
    refine am_iload_n dX11_wordAmbiguity_59 rfl 2 rfl ?_
    refine am_lconst (v := 0) dX11_wordAmbiguity_60 (by decide) ?_
    refine am_last h61 dX11_wordAmbiguity_61 ?_
    refine am_letL (fun J62 => ?_)
    refine am_iinc (j := 2) (ls' := [(2, .int (v57 + (1 : Int32))), (0, .ref (am_B Z + a0)), (1, .int v17)]) dX11_wordAmbiguity_62 rfl rfl (Nat.le_of_ble_eq_true rfl) rfl ?_
    refine am_goto (tgt := 49) dX11_wordAmbiguity_65 rfl ?_
    refine am_sub (ls' := [(0, .ref (am_B Z + a0)), (1, .int v17), (2, .int (v57 + (1 : Int32)))]) [1, 2, 0] rfl ?_
    exact hih59 (v57 + (1 : Int32)) J62
theorem uX11_wordAmbiguity_49 {Z : am_Z} {X : am_X} (R : am_R) (I : am_I) (a0 : Nat) (v17 : Int32) (h56 : am_G Z a0 = some (.inl 11)) (j21 : am_L → Option (Int64 × am_L)) (hj21 : ∀ (J22 : am_L), am_V Z X kX11_wordAmbiguity (fun r : Int64 × am_L => (some (.long r.1), R, I, r.2)) 68 [(0, .ref (am_B Z + a0)), (1, .int v17)] [] R I J22 (j21 J22)) : ∀ (n : Nat) (v57 : Int32) (J58 : am_L), am_V Z X kX11_wordAmbiguity (fun r : Int64 × am_L => (some (.long r.1), R, I, r.2)) 49 [(0, .ref (am_B Z + a0)), (1, .int v17), (2, .int v57)] [] R I J58 (lX11_wordAmbiguity_49 R I a0 v17 j21 n v57 J58) := by
  intro n
  induction n with
  | zero => intro _ _; exact am_none
  | succ n ih => exact fun v57 J58 => vX11_wordAmbiguity_49 R I a0 v17 h56 j21 hj21 (lX11_wordAmbiguity_49 R I a0 v17 j21 n) ih v57 J58
set_option maxRecDepth 100000 in
set_option maxHeartbeats 4000000 in
theorem vX11_wordAmbiguity_39 {Z : am_Z} {X : am_X} (R : am_R) (I : am_I) (a0 : Nat) (h16 : am_G Z a0 = some (.inl 11)) (j3 : am_L → Option (Int64 × am_L)) (hj3 : ∀ (J4 : am_L), am_V Z X kX11_wordAmbiguity (fun r : Int64 × am_L => (some (.long r.1), R, I, r.2)) 175 [(0, .ref (am_B Z + a0))] [] R I J4 (j3 J4)) (ih19 : Int32 → am_L → Option (Int64 × am_L)) (hih19 : ∀ (v17 : Int32) (J18 : am_L), am_V Z X kX11_wordAmbiguity (fun r : Int64 × am_L => (some (.long r.1), R, I, r.2)) 39 [(0, .ref (am_B Z + a0)), (1, .int v17)] [] R I J18 (ih19 v17 J18)) (v17 : Int32) (J18 : am_L) : am_V Z X kX11_wordAmbiguity (fun r : Int64 × am_L => (some (.long r.1), R, I, r.2)) 39 [(0, .ref (am_B Z + a0)), (1, .int v17)] [] R I J18 (sX11_wordAmbiguity_39 R I a0 j3 ih19 v17 J18) := by
  unfold sX11_wordAmbiguity_39
  refine am_iload_n dX11_wordAmbiguity_39 rfl 1 rfl ?_
  refine am_aload_n dX11_wordAmbiguity_40 rfl 0 rfl ?_
  refine am_get 11 16 clX11 (Nat.le_of_ble_eq_true rfl) h16 iX11_wordAmbiguity_11 fX11_wordAmbiguity_197 rfl dX11_wordAmbiguity_41 ?_
  refine am_icmp_ge (tgt := 175) dX11_wordAmbiguity_44 rfl (fun e20 => ?_) (fun e20 => ?_)
  · refine am_sub (ls' := [(0, .ref (am_B Z + a0))]) [0] rfl ?_
    exact hj3 J18
  · refine am_iconst (v := 0) dX11_wordAmbiguity_47 (by decide) ?_
    refine am_istore_n (ls' := [(2, .int (0 : Int32)), (0, .ref (am_B Z + a0)), (1, .int v17)]) dX11_wordAmbiguity_48 rfl (Nat.le_of_ble_eq_true rfl) rfl ?_
    refine am_jnV (fun j21 ej21 => ?_)
    have hj21 : ∀ (J22 : am_L), am_V Z X kX11_wordAmbiguity (fun r : Int64 × am_L => (some (.long r.1), R, I, r.2)) 68 [(0, .ref (am_B Z + a0)), (1, .int v17)] [] R I J22 (j21 J22) := by
      subst ej21
      intro J22
      show am_V Z X kX11_wordAmbiguity (fun r : Int64 × am_L => (some (.long r.1), R, I, r.2)) 68 [(0, .ref (am_B Z + a0)), (1, .int v17)] [] R I J22 _
      refine am_iconst (v := 0) dX11_wordAmbiguity_68 (by decide) ?_
      refine am_istore_n (ls' := [(2, .int (0 : Int32)), (0, .ref (am_B Z + a0)), (1, .int v17)]) dX11_wordAmbiguity_69 rfl (Nat.le_of_ble_eq_true rfl) rfl ?_
      refine am_jnV (fun j23 ej23 => ?_)
      have hj23 : ∀ (J24 : am_L), am_V Z X kX11_wordAmbiguity (fun r : Int64 × am_L => (some (.long r.1), R, I, r.2)) 143 [(0, .ref (am_B Z + a0)), (1, .int v17)] [] R I J24 (j23 J24) := by
        subst ej23
        intro J24
        show am_V Z X kX11_wordAmbiguity (fun r : Int64 × am_L => (some (.long r.1), R, I, r.2)) 143 [(0, .ref (am_B Z + a0)), (1, .int v17)] [] R I J24 _
        refine am_iconst (v := 0) dX11_wordAmbiguity_143 (by decide) ?_
        refine am_istore_n (ls' := [(2, .int (0 : Int32)), (0, .ref (am_B Z + a0)), (1, .int v17)]) dX11_wordAmbiguity_144 rfl (Nat.le_of_ble_eq_true rfl) rfl ?_
        refine am_jnV (fun j25 ej25 => ?_)
        have hj25 : ∀ (J26 : am_L), am_V Z X kX11_wordAmbiguity (fun r : Int64 × am_L => (some (.long r.1), R, I, r.2)) 169 [(0, .ref (am_B Z + a0)), (1, .int v17)] [] R I J26 (j25 J26) := by
          subst ej25
          intro J26
          show am_V Z X kX11_wordAmbiguity (fun r : Int64 × am_L => (some (.long r.1), R, I, r.2)) 169 [(0, .ref (am_B Z + a0)), (1, .int v17)] [] R I J26 _
          refine am_iinc (j := 1) (ls' := [(1, .int (v17 + (1 : Int32))), (0, .ref (am_B Z + a0))]) dX11_wordAmbiguity_169 rfl rfl (Nat.le_of_ble_eq_true rfl) rfl ?_
          refine am_goto (tgt := 39) dX11_wordAmbiguity_172 rfl ?_
          refine am_sub (ls' := [(0, .ref (am_B Z + a0)), (1, .int (v17 + (1 : Int32)))]) [1, 0] rfl ?_
          exact hih19 (v17 + (1 : Int32)) J26
        refine am_sub (ls' := [(0, .ref (am_B Z + a0)), (1, .int v17), (2, .int (0 : Int32))]) [1, 2, 0] rfl ?_
        exact uX11_wordAmbiguity_145 R I a0 v17 h16 j25 hj25 am_fu (0 : Int32) J24
      refine am_sub (ls' := [(0, .ref (am_B Z + a0)), (1, .int v17), (2, .int (0 : Int32))]) [1, 2, 0] rfl ?_
      exact uX11_wordAmbiguity_70 R I a0 v17 h16 j23 hj23 am_fu (0 : Int32) J22
    refine am_sub (ls' := [(0, .ref (am_B Z + a0)), (1, .int v17), (2, .int (0 : Int32))]) [1, 2, 0] rfl ?_
    exact uX11_wordAmbiguity_49 R I a0 v17 h16 j21 hj21 am_fu (0 : Int32) J18
theorem uX11_wordAmbiguity_39 {Z : am_Z} {X : am_X} (R : am_R) (I : am_I) (a0 : Nat) (h16 : am_G Z a0 = some (.inl 11)) (j3 : am_L → Option (Int64 × am_L)) (hj3 : ∀ (J4 : am_L), am_V Z X kX11_wordAmbiguity (fun r : Int64 × am_L => (some (.long r.1), R, I, r.2)) 175 [(0, .ref (am_B Z + a0))] [] R I J4 (j3 J4)) : ∀ (n : Nat) (v17 : Int32) (J18 : am_L), am_V Z X kX11_wordAmbiguity (fun r : Int64 × am_L => (some (.long r.1), R, I, r.2)) 39 [(0, .ref (am_B Z + a0)), (1, .int v17)] [] R I J18 (lX11_wordAmbiguity_39 R I a0 j3 n v17 J18) := by
  intro n
  induction n with
  | zero => intro _ _; exact am_none
  | succ n ih => exact fun v17 J18 => vX11_wordAmbiguity_39 R I a0 h16 j3 hj3 (lX11_wordAmbiguity_39 R I a0 j3 n) ih v17 J18
set_option maxRecDepth 100000 in
set_option maxHeartbeats 4000000 in
theorem vX11_wordAmbiguity_2 {Z : am_Z} {X : am_X} (R : am_R) (I : am_I) (a0 : Nat) (h63 : am_G Z a0 = some (.inl 11)) (j1 : am_L → Option (Int64 × am_L)) (hj1 : ∀ (J2 : am_L), am_V Z X kX11_wordAmbiguity (fun r : Int64 × am_L => (some (.long r.1), R, I, r.2)) 37 [(0, .ref (am_B Z + a0))] [] R I J2 (j1 J2)) (ih66 : Int32 → am_L → Option (Int64 × am_L)) (hih66 : ∀ (v64 : Int32) (J65 : am_L), am_V Z X kX11_wordAmbiguity (fun r : Int64 × am_L => (some (.long r.1), R, I, r.2)) 2 [(0, .ref (am_B Z + a0)), (1, .int v64)] [] R I J65 (ih66 v64 J65)) (v64 : Int32) (J65 : am_L) : am_V Z X kX11_wordAmbiguity (fun r : Int64 × am_L => (some (.long r.1), R, I, r.2)) 2 [(0, .ref (am_B Z + a0)), (1, .int v64)] [] R I J65 (sX11_wordAmbiguity_2 R I a0 j1 ih66 v64 J65) := by
  unfold sX11_wordAmbiguity_2
  refine am_iload_n dX11_wordAmbiguity_2 rfl 1 rfl ?_
  refine am_bipush (v := 6) dX11_wordAmbiguity_3 (by decide) ?_
  refine am_icmp_ge (tgt := 37) dX11_wordAmbiguity_5 rfl (fun e67 => ?_) (fun e67 => ?_)
  · refine am_sub (ls' := [(0, .ref (am_B Z + a0))]) [0] rfl ?_
    exact hj1 J65
  · refine am_aload_n dX11_wordAmbiguity_8 rfl 0 rfl ?_
    refine am_getR 11 17 clX11 (Nat.le_of_ble_eq_true rfl) h63 iX11_wordAmbiguity_11 fX11_wordAmbiguity_38 rfl rfl dX11_wordAmbiguity_9 (fun h68 => ?_)
    refine am_iload_n dX11_wordAmbiguity_12 rfl 1 rfl ?_
    refine am_aload_n dX11_wordAmbiguity_13 rfl 0 rfl ?_
    refine am_get 11 4 clX11 (Nat.le_of_ble_eq_true rfl) h63 iX11_wordAmbiguity_11 fX11_wordAmbiguity_112 rfl dX11_wordAmbiguity_14 ?_
    refine am_i2l dX11_wordAmbiguity_17 ?_
    refine am_iload_n dX11_wordAmbiguity_18 rfl 1 rfl ?_
    refine am_callS [.long (Int32.toInt64 (I a0 4)), .int v64] (tX11_has R I J65 (Int32.toInt64 (I a0 4)) v64) gX11_wordAmbiguity_X11_has hX11_has ⟨Nat.le_of_ble_eq_true rfl, Nat.le_of_ble_eq_true rfl⟩ rfl rfl (Nat.le_of_ble_eq_true rfl) dX11_wordAmbiguity_19 (fun r69 => ?_)
    show am_V Z X kX11_wordAmbiguity (fun r : Int64 × am_L => (some (.long r.1), R, I, r.2)) 22 [(0, .ref (am_B Z + a0)), (1, .int v64)] [.int r69, .int v64, .ref (am_B Z + (R a0 17))] R I J65 _
    refine am_letJ (fun k71 ek71 => ?_)
    have hk71 : ∀ v70 : Int64, am_V Z X kX11_wordAmbiguity (fun r : Int64 × am_L => (some (.long r.1), R, I, r.2)) 30 [(0, .ref (am_B Z + a0)), (1, .int v64)] [.long v70, .int v64, .ref (am_B Z + (R a0 17))] R I J65 (k71 v70) := by
      subst ek71
      intro v70
      show am_V Z X kX11_wordAmbiguity (fun r : Int64 × am_L => (some (.long r.1), R, I, r.2)) 30 [(0, .ref (am_B Z + a0)), (1, .int v64)] [.long v70, .int v64, .ref (am_B Z + (R a0 17))] R I J65 _
      refine am_last h68 dX11_wordAmbiguity_30 ?_
      refine am_letL (fun J72 => ?_)
      refine am_iinc (j := 1) (ls' := [(1, .int (v64 + (1 : Int32))), (0, .ref (am_B Z + a0))]) dX11_wordAmbiguity_31 rfl rfl (Nat.le_of_ble_eq_true rfl) rfl ?_
      refine am_goto (tgt := 2) dX11_wordAmbiguity_34 rfl ?_
      refine am_sub (ls' := [(0, .ref (am_B Z + a0)), (1, .int (v64 + (1 : Int32)))]) [1, 0] rfl ?_
      exact hih66 (v64 + (1 : Int32)) J72
    refine am_if_eqL (tgt := 29) dX11_wordAmbiguity_22 rfl (fun e73 => ?_) (fun e73 => ?_)
    · refine am_lconst (v := 0) dX11_wordAmbiguity_29 (by decide) ?_
      exact hk71 _
    · refine am_lconst (v := 1) dX11_wordAmbiguity_25 (by decide) ?_
      refine am_goto (tgt := 30) dX11_wordAmbiguity_26 rfl ?_
      exact hk71 _
theorem uX11_wordAmbiguity_2 {Z : am_Z} {X : am_X} (R : am_R) (I : am_I) (a0 : Nat) (h63 : am_G Z a0 = some (.inl 11)) (j1 : am_L → Option (Int64 × am_L)) (hj1 : ∀ (J2 : am_L), am_V Z X kX11_wordAmbiguity (fun r : Int64 × am_L => (some (.long r.1), R, I, r.2)) 37 [(0, .ref (am_B Z + a0))] [] R I J2 (j1 J2)) : ∀ (n : Nat) (v64 : Int32) (J65 : am_L), am_V Z X kX11_wordAmbiguity (fun r : Int64 × am_L => (some (.long r.1), R, I, r.2)) 2 [(0, .ref (am_B Z + a0)), (1, .int v64)] [] R I J65 (lX11_wordAmbiguity_2 R I a0 j1 n v64 J65) := by
  intro n
  induction n with
  | zero => intro _ _; exact am_none
  | succ n ih => exact fun v64 J65 => vX11_wordAmbiguity_2 R I a0 h63 j1 hj1 (lX11_wordAmbiguity_2 R I a0 j1 n) ih v64 J65
set_option maxRecDepth 100000 in
set_option maxHeartbeats 4000000 in
theorem tX11_wordAmbiguity {Z : am_Z} (R : am_R) (I : am_I) (L : am_L) (a0 : Nat) (h_a0 : am_G Z a0 = some (.inl 11)) : am_M Z yX11_wordAmbiguity kX11_wordAmbiguity [.ref (am_B Z + a0)] R I L (pX11_wordAmbiguity R I L a0) (fun r : Int64 × am_L => (some (.long r.1), R, I, r.2)) := by
  refine am_entry (ls := [(0, .ref (am_B Z + a0))]) (by decide) hX11_wordAmbiguity rfl (Nat.le_of_ble_eq_true rfl) rfl (fun X => ?_)
  unfold pX11_wordAmbiguity
  refine am_iconst (v := 0) dX11_wordAmbiguity_0 (by decide) ?_
  refine am_istore_n (ls' := [(1, .int (0 : Int32)), (0, .ref (am_B Z + a0))]) dX11_wordAmbiguity_1 rfl (Nat.le_of_ble_eq_true rfl) rfl ?_
  refine am_jnV (fun j1 ej1 => ?_)
  have hj1 : ∀ (J2 : am_L), am_V Z X kX11_wordAmbiguity (fun r : Int64 × am_L => (some (.long r.1), R, I, r.2)) 37 [(0, .ref (am_B Z + a0))] [] R I J2 (j1 J2) := by
    subst ej1
    intro J2
    show am_V Z X kX11_wordAmbiguity (fun r : Int64 × am_L => (some (.long r.1), R, I, r.2)) 37 [(0, .ref (am_B Z + a0))] [] R I J2 _
    refine am_iconst (v := 0) dX11_wordAmbiguity_37 (by decide) ?_
    refine am_istore_n (ls' := [(1, .int (0 : Int32)), (0, .ref (am_B Z + a0))]) dX11_wordAmbiguity_38 rfl (Nat.le_of_ble_eq_true rfl) rfl ?_
    refine am_jnV (fun j3 ej3 => ?_)
    have hj3 : ∀ (J4 : am_L), am_V Z X kX11_wordAmbiguity (fun r : Int64 × am_L => (some (.long r.1), R, I, r.2)) 175 [(0, .ref (am_B Z + a0))] [] R I J4 (j3 J4) := by
      subst ej3
      intro J4
      show am_V Z X kX11_wordAmbiguity (fun r : Int64 × am_L => (some (.long r.1), R, I, r.2)) 175 [(0, .ref (am_B Z + a0))] [] R I J4 _
      refine am_lconst (v := 0) dX11_wordAmbiguity_175 (by decide) ?_
      refine am_lstore_n (ls' := [(1, .long (0 : Int64)), (0, .ref (am_B Z + a0))]) dX11_wordAmbiguity_176 rfl (Nat.le_of_ble_eq_true rfl) rfl ?_
      refine am_iconst (v := 0) dX11_wordAmbiguity_177 (by decide) ?_
      refine am_istore_n (ls' := [(3, .int (0 : Int32)), (1, .long (0 : Int64)), (0, .ref (am_B Z + a0))]) dX11_wordAmbiguity_178 rfl (Nat.le_of_ble_eq_true rfl) rfl ?_
      refine am_sub (ls' := [(0, .ref (am_B Z + a0)), (1, .long (0 : Int64)), (3, .int (0 : Int32))]) [2, 1, 0] rfl ?_
      exact uX11_wordAmbiguity_179 R I a0 J4 h_a0 am_fu (0 : Int64) (0 : Int32)
    refine am_sub (ls' := [(0, .ref (am_B Z + a0)), (1, .int (0 : Int32))]) [1, 0] rfl ?_
    exact uX11_wordAmbiguity_39 R I a0 h_a0 j3 hj3 am_fu (0 : Int32) J2
  refine am_sub (ls' := [(0, .ref (am_B Z + a0)), (1, .int (0 : Int32))]) [1, 0] rfl ?_
  exact uX11_wordAmbiguity_2 R I a0 h_a0 j1 hj1 am_fu (0 : Int32) L
abbrev kX11_pathsOf : am_K := (cX11_pathsOf, 6, RX11, wsX11_pathsOf, some .long, { frames := 1, cells := 0, slots := 0, locals := 23 })
theorem hX11_pathsOf : am_cl yX11_pathsOf kX11_pathsOf 1 := ⟨⟨_, rfl⟩, rfl, rfl, by decide +kernel, by decide +kernel, by decide +kernel⟩
theorem iX11_pathsOf_11 : ∀ w ∈ u_ws RX11 TX11 50, w ∈ wsX11_pathsOf := by decide +kernel
theorem fX11_pathsOf_38 : Cond.fieldLink RX11 38 "AmbiguityAnalyzerModel" "ways" "[J" ∈ wsX11_pathsOf := by decide +kernel
theorem fX11_pathsOf_115 : Cond.fieldLink RX11 115 "AmbiguityAnalyzerModel" "finals" "I" ∈ wsX11_pathsOf := by decide +kernel
theorem fX11_pathsOf_19 : Cond.fieldLink RX11 19 "AmbiguityAnalyzerModel" "states" "I" ∈ wsX11_pathsOf := by decide +kernel
theorem fX11_pathsOf_42 : Cond.fieldLink RX11 42 "AmbiguityAnalyzerModel" "newWays" "[J" ∈ wsX11_pathsOf := by decide +kernel
theorem fX11_pathsOf_7 : Cond.fieldLink RX11 7 "AmbiguityAnalyzerModel" "targets" "[I" ∈ wsX11_pathsOf := by decide +kernel
theorem fX11_pathsOf_112 : Cond.fieldLink RX11 112 "AmbiguityAnalyzerModel" "initials" "I" ∈ wsX11_pathsOf := by decide +kernel
set_option maxRecDepth 100000 in
set_option maxHeartbeats 4000000 in
theorem vX11_pathsOf_191 {Z : am_Z} {X : am_X} (R : am_R) (I : am_I) (a0 : Nat) (J4 : am_L) (h5 : am_G Z a0 = some (.inl 11)) (ih8 : Int64 → Int32 → Option (Int64 × am_L)) (hih8 : ∀ (v6 : Int64) (v7 : Int32), am_V Z X kX11_pathsOf (fun r : Int64 × am_L => (some (.long r.1), R, I, r.2)) 191 [(0, .ref (am_B Z + a0)), (2, .long v6), (4, .int v7)] [] R I J4 (ih8 v6 v7)) (v6 : Int64) (v7 : Int32) : am_V Z X kX11_pathsOf (fun r : Int64 × am_L => (some (.long r.1), R, I, r.2)) 191 [(0, .ref (am_B Z + a0)), (2, .long v6), (4, .int v7)] [] R I J4 (sX11_pathsOf_191 R I a0 J4 ih8 v6 v7) := by
  unfold sX11_pathsOf_191
  refine am_iload dX11_pathsOf_191 2 rfl ?_
  refine am_aload_n dX11_pathsOf_193 rfl 0 rfl ?_
  refine am_get 11 3 clX11 (Nat.le_of_ble_eq_true rfl) h5 iX11_pathsOf_11 fX11_pathsOf_19 rfl dX11_pathsOf_194 ?_
  refine am_icmp_ge (tgt := 235) dX11_pathsOf_197 rfl (fun e9 => ?_) (fun e9 => ?_)
  · refine am_lload_n dX11_pathsOf_235 rfl 1 rfl ?_
    exact am_lret dX11_pathsOf_236 rfl rfl
  · refine am_aload_n dX11_pathsOf_200 rfl 0 rfl ?_
    refine am_get 11 4 clX11 (Nat.le_of_ble_eq_true rfl) h5 iX11_pathsOf_11 fX11_pathsOf_112 rfl dX11_pathsOf_201 ?_
    refine am_i2l dX11_pathsOf_204 ?_
    refine am_iload dX11_pathsOf_205 2 rfl ?_
    refine am_callS [.long (Int32.toInt64 (I a0 4)), .int v7] (tX11_has R I J4 (Int32.toInt64 (I a0 4)) v7) gX11_pathsOf_X11_has hX11_has ⟨Nat.le_of_ble_eq_true rfl, Nat.le_of_ble_eq_true rfl⟩ rfl rfl (Nat.le_of_ble_eq_true rfl) dX11_pathsOf_207 (fun r10 => ?_)
    show am_V Z X kX11_pathsOf (fun r : Int64 × am_L => (some (.long r.1), R, I, r.2)) 210 [(0, .ref (am_B Z + a0)), (2, .long v6), (4, .int v7)] [.int r10] R I J4 _
    refine am_jnV (fun j11 ej11 => ?_)
    have hj11 : ∀ (v12 : Int64), am_V Z X kX11_pathsOf (fun r : Int64 × am_L => (some (.long r.1), R, I, r.2)) 228 [(0, .ref (am_B Z + a0)), (4, .int v7)] [.long v12] R I J4 (j11 v12) := by
      subst ej11
      intro v12
      show am_V Z X kX11_pathsOf (fun r : Int64 × am_L => (some (.long r.1), R, I, r.2)) 228 [(0, .ref (am_B Z + a0)), (4, .int v7)] [.long v12] R I J4 _
      refine am_lstore_n (ls' := [(2, .long v12), (0, .ref (am_B Z + a0)), (4, .int v7)]) dX11_pathsOf_228 rfl (Nat.le_of_ble_eq_true rfl) rfl ?_
      refine am_iinc (j := 2) (ls' := [(4, .int (v7 + (1 : Int32))), (2, .long v12), (0, .ref (am_B Z + a0))]) dX11_pathsOf_229 rfl rfl (Nat.le_of_ble_eq_true rfl) rfl ?_
      refine am_goto (tgt := 191) dX11_pathsOf_232 rfl ?_
      refine am_sub (ls' := [(0, .ref (am_B Z + a0)), (2, .long v12), (4, .int (v7 + (1 : Int32)))]) [2, 1, 0] rfl ?_
      exact hih8 v12 (v7 + (1 : Int32))
    refine am_if_eq (tgt := 227) dX11_pathsOf_210 rfl (fun e13 => ?_) (fun e13 => ?_)
    · refine am_lload_n dX11_pathsOf_227 rfl 1 rfl ?_
      refine am_sub (ls' := [(0, .ref (am_B Z + a0)), (4, .int v7)]) [0, 2] rfl ?_
      exact hj11 v6
    · refine am_lload_n dX11_pathsOf_213 rfl 1 rfl ?_
      refine am_aload_n dX11_pathsOf_214 rfl 0 rfl ?_
      refine am_getR 11 17 clX11 (Nat.le_of_ble_eq_true rfl) h5 iX11_pathsOf_11 fX11_pathsOf_38 rfl rfl dX11_pathsOf_215 (fun h14 => ?_)
      refine am_iload dX11_pathsOf_218 2 rfl ?_
      refine am_lald h14 dX11_pathsOf_220 ?_
      refine am_callS [.long v6, .long (J4 (R a0 17) (Int32.toNatClampNeg v7))] (tX11_plus R I J4 v6 (J4 (R a0 17) (Int32.toNatClampNeg v7))) gX11_pathsOf_X11_plus hX11_plus ⟨Nat.le_of_ble_eq_true rfl, Nat.le_of_ble_eq_true rfl⟩ rfl rfl (Nat.le_of_ble_eq_true rfl) dX11_pathsOf_221 (fun r15 => ?_)
      show am_V Z X kX11_pathsOf (fun r : Int64 × am_L => (some (.long r.1), R, I, r.2)) 224 [(0, .ref (am_B Z + a0)), (2, .long v6), (4, .int v7)] [.long r15] R I J4 _
      refine am_goto (tgt := 228) dX11_pathsOf_224 rfl ?_
      refine am_sub (ls' := [(0, .ref (am_B Z + a0)), (4, .int v7)]) [0, 2] rfl ?_
      exact hj11 r15
theorem uX11_pathsOf_191 {Z : am_Z} {X : am_X} (R : am_R) (I : am_I) (a0 : Nat) (J4 : am_L) (h5 : am_G Z a0 = some (.inl 11)) : ∀ (n : Nat) (v6 : Int64) (v7 : Int32), am_V Z X kX11_pathsOf (fun r : Int64 × am_L => (some (.long r.1), R, I, r.2)) 191 [(0, .ref (am_B Z + a0)), (2, .long v6), (4, .int v7)] [] R I J4 (lX11_pathsOf_191 R I a0 J4 n v6 v7) := by
  intro n
  induction n with
  | zero => intro _ _; exact am_none
  | succ n ih => exact fun v6 v7 => vX11_pathsOf_191 R I a0 J4 h5 (lX11_pathsOf_191 R I a0 J4 n) ih v6 v7
set_option maxRecDepth 100000 in
set_option maxHeartbeats 4000000 in
theorem vX11_pathsOf_154 {Z : am_Z} {X : am_X} (R : am_R) (I : am_I) (a0 : Nat) (x1 : Int32) (v17 : Int32) (h25 : am_G Z a0 = some (.inl 11)) (j23 : am_L → Option (Int64 × am_L)) (hj23 : ∀ (J24 : am_L), am_V Z X kX11_pathsOf (fun r : Int64 × am_L => (some (.long r.1), R, I, r.2)) 180 [(0, .ref (am_B Z + a0)), (1, .int x1), (2, .int v17)] [] R I J24 (j23 J24)) (ih28 : Int32 → am_L → Option (Int64 × am_L)) (hih28 : ∀ (v26 : Int32) (J27 : am_L), am_V Z X kX11_pathsOf (fun r : Int64 × am_L => (some (.long r.1), R, I, r.2)) 154 [(0, .ref (am_B Z + a0)), (1, .int x1), (2, .int v17), (3, .int v26)] [] R I J27 (ih28 v26 J27)) (v26 : Int32) (J27 : am_L) : am_V Z X kX11_pathsOf (fun r : Int64 × am_L => (some (.long r.1), R, I, r.2)) 154 [(0, .ref (am_B Z + a0)), (1, .int x1), (2, .int v17), (3, .int v26)] [] R I J27 (sX11_pathsOf_154 R I a0 x1 v17 j23 ih28 v26 J27) := by
  unfold sX11_pathsOf_154
  refine am_iload_n dX11_pathsOf_154 rfl 3 rfl ?_
  refine am_aload_n dX11_pathsOf_155 rfl 0 rfl ?_
  refine am_get 11 3 clX11 (Nat.le_of_ble_eq_true rfl) h25 iX11_pathsOf_11 fX11_pathsOf_19 rfl dX11_pathsOf_156 ?_
  refine am_icmp_ge (tgt := 180) dX11_pathsOf_159 rfl (fun e29 => ?_) (fun e29 => ?_)
  · refine am_sub (ls' := [(0, .ref (am_B Z + a0)), (1, .int x1), (2, .int v17)]) [0, 1, 2] rfl ?_
    exact hj23 J27
  · refine am_aload_n dX11_pathsOf_162 rfl 0 rfl ?_
    refine am_getR 11 17 clX11 (Nat.le_of_ble_eq_true rfl) h25 iX11_pathsOf_11 fX11_pathsOf_38 rfl rfl dX11_pathsOf_163 (fun h30 => ?_)
    refine am_iload_n dX11_pathsOf_166 rfl 3 rfl ?_
    refine am_aload_n dX11_pathsOf_167 rfl 0 rfl ?_
    refine am_getR 11 18 clX11 (Nat.le_of_ble_eq_true rfl) h25 iX11_pathsOf_11 fX11_pathsOf_42 rfl rfl dX11_pathsOf_168 (fun h31 => ?_)
    refine am_iload_n dX11_pathsOf_171 rfl 3 rfl ?_
    refine am_lald h31 dX11_pathsOf_172 ?_
    refine am_last h30 dX11_pathsOf_173 ?_
    refine am_letL (fun J32 => ?_)
    refine am_iinc (j := 3) (ls' := [(3, .int (v26 + (1 : Int32))), (0, .ref (am_B Z + a0)), (1, .int x1), (2, .int v17)]) dX11_pathsOf_174 rfl rfl (Nat.le_of_ble_eq_true rfl) rfl ?_
    refine am_goto (tgt := 154) dX11_pathsOf_177 rfl ?_
    refine am_sub (ls' := [(0, .ref (am_B Z + a0)), (1, .int x1), (2, .int v17), (3, .int (v26 + (1 : Int32)))]) [1, 2, 3, 0] rfl ?_
    exact hih28 (v26 + (1 : Int32)) J32
theorem uX11_pathsOf_154 {Z : am_Z} {X : am_X} (R : am_R) (I : am_I) (a0 : Nat) (x1 : Int32) (v17 : Int32) (h25 : am_G Z a0 = some (.inl 11)) (j23 : am_L → Option (Int64 × am_L)) (hj23 : ∀ (J24 : am_L), am_V Z X kX11_pathsOf (fun r : Int64 × am_L => (some (.long r.1), R, I, r.2)) 180 [(0, .ref (am_B Z + a0)), (1, .int x1), (2, .int v17)] [] R I J24 (j23 J24)) : ∀ (n : Nat) (v26 : Int32) (J27 : am_L), am_V Z X kX11_pathsOf (fun r : Int64 × am_L => (some (.long r.1), R, I, r.2)) 154 [(0, .ref (am_B Z + a0)), (1, .int x1), (2, .int v17), (3, .int v26)] [] R I J27 (lX11_pathsOf_154 R I a0 x1 v17 j23 n v26 J27) := by
  intro n
  induction n with
  | zero => intro _ _; exact am_none
  | succ n ih => exact fun v26 J27 => vX11_pathsOf_154 R I a0 x1 v17 h25 j23 hj23 (lX11_pathsOf_154 R I a0 x1 v17 j23 n) ih v26 J27
set_option maxRecDepth 100000 in
set_option maxHeartbeats 4000000 in
theorem vX11_pathsOf_73 {Z : am_Z} {X : am_X} (R : am_R) (I : am_I) (a0 : Nat) (x1 : Int32) (v17 : Int32) (v34 : Int32) (v43 : Int32) (h49 : am_G Z a0 = some (.inl 11)) (j47 : am_L → Option (Int64 × am_L)) (hj47 : ∀ (J48 : am_L), am_V Z X kX11_pathsOf (fun r : Int64 × am_L => (some (.long r.1), R, I, r.2)) 140 [(0, .ref (am_B Z + a0)), (1, .int x1), (2, .int v17), (3, .int v34), (4, .int v43)] [] R I J48 (j47 J48)) (ih52 : Int32 → am_L → Option (Int64 × am_L)) (hih52 : ∀ (v50 : Int32) (J51 : am_L), am_V Z X kX11_pathsOf (fun r : Int64 × am_L => (some (.long r.1), R, I, r.2)) 73 [(0, .ref (am_B Z + a0)), (1, .int x1), (2, .int v17), (3, .int v34), (4, .int v43), (5, .int v50)] [] R I J51 (ih52 v50 J51)) (v50 : Int32) (J51 : am_L) : am_V Z X kX11_pathsOf (fun r : Int64 × am_L => (some (.long r.1), R, I, r.2)) 73 [(0, .ref (am_B Z + a0)), (1, .int x1), (2, .int v17), (3, .int v34), (4, .int v43), (5, .int v50)] [] R I J51 (sX11_pathsOf_73 R I a0 x1 v17 v34 v43 j47 ih52 v50 J51) := by
  unfold sX11_pathsOf_73
  refine am_iload dX11_pathsOf_73 5 rfl ?_
  refine am_aload_n dX11_pathsOf_75 rfl 0 rfl ?_
  refine am_get 11 3 clX11 (Nat.le_of_ble_eq_true rfl) h49 iX11_pathsOf_11 fX11_pathsOf_19 rfl dX11_pathsOf_76 ?_
  refine am_icmp_ge (tgt := 140) dX11_pathsOf_79 rfl (fun e53 => ?_) (fun e53 => ?_)
  · refine am_sub (ls' := [(0, .ref (am_B Z + a0)), (1, .int x1), (2, .int v17), (3, .int v34), (4, .int v43)]) [0, 1, 2, 3, 4] rfl ?_
    exact hj47 J51
  · refine am_aload_n dX11_pathsOf_82 rfl 0 rfl ?_
    refine am_getR 11 18 clX11 (Nat.le_of_ble_eq_true rfl) h49 iX11_pathsOf_11 fX11_pathsOf_42 rfl rfl dX11_pathsOf_83 (fun h54 => ?_)
    refine am_iload_n dX11_pathsOf_86 rfl 3 rfl ?_
    refine am_aload_n dX11_pathsOf_87 rfl 0 rfl ?_
    refine am_getR 11 0 clX11 (Nat.le_of_ble_eq_true rfl) h49 iX11_pathsOf_11 fX11_pathsOf_7 rfl rfl dX11_pathsOf_88 (fun h55 => ?_)
    refine am_bipush (v := 6) dX11_pathsOf_91 (by decide) ?_
    refine am_iload dX11_pathsOf_93 4 rfl ?_
    refine am_imul dX11_pathsOf_95 ?_
    refine am_iload_n dX11_pathsOf_96 rfl 3 rfl ?_
    refine am_iadd dX11_pathsOf_97 ?_
    refine am_iald h55 dX11_pathsOf_98 ?_
    refine am_i2l dX11_pathsOf_99 ?_
    refine am_iload dX11_pathsOf_100 5 rfl ?_
    refine am_callS [.long (Int32.toInt64 (I (R a0 0) (Int32.toNatClampNeg (((6 : Int32) * v43) + v34)))), .int v50] (tX11_has R I J51 (Int32.toInt64 (I (R a0 0) (Int32.toNatClampNeg (((6 : Int32) * v43) + v34)))) v50) gX11_pathsOf_X11_has hX11_has ⟨Nat.le_of_ble_eq_true rfl, Nat.le_of_ble_eq_true rfl⟩ rfl rfl (Nat.le_of_ble_eq_true rfl) dX11_pathsOf_102 (fun r56 => ?_)
    show am_V Z X kX11_pathsOf (fun r : Int64 × am_L => (some (.long r.1), R, I, r.2)) 105 [(0, .ref (am_B Z + a0)), (1, .int x1), (2, .int v17), (3, .int v34), (4, .int v43), (5, .int v50)] [.int r56, .int v34, .ref (am_B Z + (R a0 18))] R I J51 _
    refine am_jnV (fun j57 ej57 => ?_)
    have hj57 : ∀ (v58 : Int64), am_V Z X kX11_pathsOf (fun r : Int64 × am_L => (some (.long r.1), R, I, r.2)) 133 [(0, .ref (am_B Z + a0)), (1, .int x1), (2, .int v17), (3, .int v34), (4, .int v43), (5, .int v50)] [.long v58, .int v34, .ref (am_B Z + (R a0 18))] R I J51 (j57 v58) := by
      subst ej57
      intro v58
      show am_V Z X kX11_pathsOf (fun r : Int64 × am_L => (some (.long r.1), R, I, r.2)) 133 [(0, .ref (am_B Z + a0)), (1, .int x1), (2, .int v17), (3, .int v34), (4, .int v43), (5, .int v50)] [.long v58, .int v34, .ref (am_B Z + (R a0 18))] R I J51 _
      refine am_last h54 dX11_pathsOf_133 ?_
      refine am_letL (fun J59 => ?_)
      refine am_iinc (j := 5) (ls' := [(5, .int (v50 + (1 : Int32))), (0, .ref (am_B Z + a0)), (1, .int x1), (2, .int v17), (3, .int v34), (4, .int v43)]) dX11_pathsOf_134 rfl rfl (Nat.le_of_ble_eq_true rfl) rfl ?_
      refine am_goto (tgt := 73) dX11_pathsOf_137 rfl ?_
      refine am_sub (ls' := [(0, .ref (am_B Z + a0)), (1, .int x1), (2, .int v17), (3, .int v34), (4, .int v43), (5, .int (v50 + (1 : Int32)))]) [1, 2, 3, 4, 5, 0] rfl ?_
      exact hih52 (v50 + (1 : Int32)) J59
    refine am_if_eq (tgt := 127) dX11_pathsOf_105 rfl (fun e60 => ?_) (fun e60 => ?_)
    · refine am_aload_n dX11_pathsOf_127 rfl 0 rfl ?_
      refine am_getR 11 18 clX11 (Nat.le_of_ble_eq_true rfl) h49 iX11_pathsOf_11 fX11_pathsOf_42 rfl rfl dX11_pathsOf_128 (fun h61 => ?_)
      refine am_iload_n dX11_pathsOf_131 rfl 3 rfl ?_
      refine am_lald h61 dX11_pathsOf_132 ?_
      exact hj57 (J51 (R a0 18) (Int32.toNatClampNeg v34))
    · refine am_aload_n dX11_pathsOf_108 rfl 0 rfl ?_
      refine am_getR 11 18 clX11 (Nat.le_of_ble_eq_true rfl) h49 iX11_pathsOf_11 fX11_pathsOf_42 rfl rfl dX11_pathsOf_109 (fun h62 => ?_)
      refine am_iload_n dX11_pathsOf_112 rfl 3 rfl ?_
      refine am_lald h62 dX11_pathsOf_113 ?_
      refine am_aload_n dX11_pathsOf_114 rfl 0 rfl ?_
      refine am_getR 11 17 clX11 (Nat.le_of_ble_eq_true rfl) h49 iX11_pathsOf_11 fX11_pathsOf_38 rfl rfl dX11_pathsOf_115 (fun h63 => ?_)
      refine am_iload dX11_pathsOf_118 5 rfl ?_
      refine am_lald h63 dX11_pathsOf_120 ?_
      refine am_callS [.long (J51 (R a0 18) (Int32.toNatClampNeg v34)), .long (J51 (R a0 17) (Int32.toNatClampNeg v50))] (tX11_plus R I J51 (J51 (R a0 18) (Int32.toNatClampNeg v34)) (J51 (R a0 17) (Int32.toNatClampNeg v50))) gX11_pathsOf_X11_plus hX11_plus ⟨Nat.le_of_ble_eq_true rfl, Nat.le_of_ble_eq_true rfl⟩ rfl rfl (Nat.le_of_ble_eq_true rfl) dX11_pathsOf_121 (fun r64 => ?_)
      show am_V Z X kX11_pathsOf (fun r : Int64 × am_L => (some (.long r.1), R, I, r.2)) 124 [(0, .ref (am_B Z + a0)), (1, .int x1), (2, .int v17), (3, .int v34), (4, .int v43), (5, .int v50)] [.long r64, .int v34, .ref (am_B Z + (R a0 18))] R I J51 _
      refine am_goto (tgt := 133) dX11_pathsOf_124 rfl ?_
      exact hj57 r64
theorem uX11_pathsOf_73 {Z : am_Z} {X : am_X} (R : am_R) (I : am_I) (a0 : Nat) (x1 : Int32) (v17 : Int32) (v34 : Int32) (v43 : Int32) (h49 : am_G Z a0 = some (.inl 11)) (j47 : am_L → Option (Int64 × am_L)) (hj47 : ∀ (J48 : am_L), am_V Z X kX11_pathsOf (fun r : Int64 × am_L => (some (.long r.1), R, I, r.2)) 140 [(0, .ref (am_B Z + a0)), (1, .int x1), (2, .int v17), (3, .int v34), (4, .int v43)] [] R I J48 (j47 J48)) : ∀ (n : Nat) (v50 : Int32) (J51 : am_L), am_V Z X kX11_pathsOf (fun r : Int64 × am_L => (some (.long r.1), R, I, r.2)) 73 [(0, .ref (am_B Z + a0)), (1, .int x1), (2, .int v17), (3, .int v34), (4, .int v43), (5, .int v50)] [] R I J51 (lX11_pathsOf_73 R I a0 x1 v17 v34 v43 j47 n v50 J51) := by
  intro n
  induction n with
  | zero => intro _ _; exact am_none
  | succ n ih => exact fun v50 J51 => vX11_pathsOf_73 R I a0 x1 v17 v34 v43 h49 j47 hj47 (lX11_pathsOf_73 R I a0 x1 v17 v34 v43 j47 n) ih v50 J51
set_option maxRecDepth 100000 in
set_option maxHeartbeats 4000000 in
theorem vX11_pathsOf_64 {Z : am_Z} {X : am_X} (R : am_R) (I : am_I) (a0 : Nat) (x1 : Int32) (v17 : Int32) (v34 : Int32) (h42 : am_G Z a0 = some (.inl 11)) (j40 : am_L → Option (Int64 × am_L)) (hj40 : ∀ (J41 : am_L), am_V Z X kX11_pathsOf (fun r : Int64 × am_L => (some (.long r.1), R, I, r.2)) 146 [(0, .ref (am_B Z + a0)), (1, .int x1), (2, .int v17), (3, .int v34)] [] R I J41 (j40 J41)) (ih45 : Int32 → am_L → Option (Int64 × am_L)) (hih45 : ∀ (v43 : Int32) (J44 : am_L), am_V Z X kX11_pathsOf (fun r : Int64 × am_L => (some (.long r.1), R, I, r.2)) 64 [(0, .ref (am_B Z + a0)), (1, .int x1), (2, .int v17), (3, .int v34), (4, .int v43)] [] R I J44 (ih45 v43 J44)) (v43 : Int32) (J44 : am_L) : am_V Z X kX11_pathsOf (fun r : Int64 × am_L => (some (.long r.1), R, I, r.2)) 64 [(0, .ref (am_B Z + a0)), (1, .int x1), (2, .int v17), (3, .int v34), (4, .int v43)] [] R I J44 (sX11_pathsOf_64 R I a0 x1 v17 v34 j40 ih45 v43 J44) := by
  unfold sX11_pathsOf_64
  refine am_iload dX11_pathsOf_64 4 rfl ?_
  refine am_iconst (v := 3) dX11_pathsOf_66 (by decide) ?_
  refine am_icmp_ge (tgt := 146) dX11_pathsOf_67 rfl (fun e46 => ?_) (fun e46 => ?_)
  · refine am_sub (ls' := [(0, .ref (am_B Z + a0)), (1, .int x1), (2, .int v17), (3, .int v34)]) [0, 1, 2, 3] rfl ?_
    exact hj40 J44
  · refine am_iconst (v := 0) dX11_pathsOf_70 (by decide) ?_
    refine am_istore (ls' := [(5, .int (0 : Int32)), (0, .ref (am_B Z + a0)), (1, .int x1), (2, .int v17), (3, .int v34), (4, .int v43)]) dX11_pathsOf_71 (Nat.le_of_ble_eq_true rfl) rfl ?_
    refine am_jnV (fun j47 ej47 => ?_)
    have hj47 : ∀ (J48 : am_L), am_V Z X kX11_pathsOf (fun r : Int64 × am_L => (some (.long r.1), R, I, r.2)) 140 [(0, .ref (am_B Z + a0)), (1, .int x1), (2, .int v17), (3, .int v34), (4, .int v43)] [] R I J48 (j47 J48) := by
      subst ej47
      intro J48
      show am_V Z X kX11_pathsOf (fun r : Int64 × am_L => (some (.long r.1), R, I, r.2)) 140 [(0, .ref (am_B Z + a0)), (1, .int x1), (2, .int v17), (3, .int v34), (4, .int v43)] [] R I J48 _
      refine am_iinc (j := 4) (ls' := [(4, .int (v43 + (1 : Int32))), (0, .ref (am_B Z + a0)), (1, .int x1), (2, .int v17), (3, .int v34)]) dX11_pathsOf_140 rfl rfl (Nat.le_of_ble_eq_true rfl) rfl ?_
      refine am_goto (tgt := 64) dX11_pathsOf_143 rfl ?_
      refine am_sub (ls' := [(0, .ref (am_B Z + a0)), (1, .int x1), (2, .int v17), (3, .int v34), (4, .int (v43 + (1 : Int32)))]) [1, 2, 3, 4, 0] rfl ?_
      exact hih45 (v43 + (1 : Int32)) J48
    refine am_sub (ls' := [(0, .ref (am_B Z + a0)), (1, .int x1), (2, .int v17), (3, .int v34), (4, .int v43), (5, .int (0 : Int32))]) [1, 2, 3, 4, 5, 0] rfl ?_
    exact uX11_pathsOf_73 R I a0 x1 v17 v34 v43 h42 j47 hj47 am_fu (0 : Int32) J44
theorem uX11_pathsOf_64 {Z : am_Z} {X : am_X} (R : am_R) (I : am_I) (a0 : Nat) (x1 : Int32) (v17 : Int32) (v34 : Int32) (h42 : am_G Z a0 = some (.inl 11)) (j40 : am_L → Option (Int64 × am_L)) (hj40 : ∀ (J41 : am_L), am_V Z X kX11_pathsOf (fun r : Int64 × am_L => (some (.long r.1), R, I, r.2)) 146 [(0, .ref (am_B Z + a0)), (1, .int x1), (2, .int v17), (3, .int v34)] [] R I J41 (j40 J41)) : ∀ (n : Nat) (v43 : Int32) (J44 : am_L), am_V Z X kX11_pathsOf (fun r : Int64 × am_L => (some (.long r.1), R, I, r.2)) 64 [(0, .ref (am_B Z + a0)), (1, .int x1), (2, .int v17), (3, .int v34), (4, .int v43)] [] R I J44 (lX11_pathsOf_64 R I a0 x1 v17 v34 j40 n v43 J44) := by
  intro n
  induction n with
  | zero => intro _ _; exact am_none
  | succ n ih => exact fun v43 J44 => vX11_pathsOf_64 R I a0 x1 v17 v34 h42 j40 hj40 (lX11_pathsOf_64 R I a0 x1 v17 v34 j40 n) ih v43 J44
set_option maxRecDepth 100000 in
set_option maxHeartbeats 4000000 in
theorem vX11_pathsOf_46 {Z : am_Z} {X : am_X} (R : am_R) (I : am_I) (a0 : Nat) (x1 : Int32) (v17 : Int32) (h33 : am_G Z a0 = some (.inl 11)) (j21 : am_L → Option (Int64 × am_L)) (hj21 : ∀ (J22 : am_L), am_V Z X kX11_pathsOf (fun r : Int64 × am_L => (some (.long r.1), R, I, r.2)) 152 [(0, .ref (am_B Z + a0)), (1, .int x1), (2, .int v17)] [] R I J22 (j21 J22)) (ih36 : Int32 → am_L → Option (Int64 × am_L)) (hih36 : ∀ (v34 : Int32) (J35 : am_L), am_V Z X kX11_pathsOf (fun r : Int64 × am_L => (some (.long r.1), R, I, r.2)) 46 [(0, .ref (am_B Z + a0)), (1, .int x1), (2, .int v17), (3, .int v34)] [] R I J35 (ih36 v34 J35)) (v34 : Int32) (J35 : am_L) : am_V Z X kX11_pathsOf (fun r : Int64 × am_L => (some (.long r.1), R, I, r.2)) 46 [(0, .ref (am_B Z + a0)), (1, .int x1), (2, .int v17), (3, .int v34)] [] R I J35 (sX11_pathsOf_46 R I a0 x1 v17 j21 ih36 v34 J35) := by
  unfold sX11_pathsOf_46
  refine am_iload_n dX11_pathsOf_46 rfl 3 rfl ?_
  refine am_aload_n dX11_pathsOf_47 rfl 0 rfl ?_
  refine am_get 11 3 clX11 (Nat.le_of_ble_eq_true rfl) h33 iX11_pathsOf_11 fX11_pathsOf_19 rfl dX11_pathsOf_48 ?_
  refine am_icmp_ge (tgt := 152) dX11_pathsOf_51 rfl (fun e37 => ?_) (fun e37 => ?_)
  · refine am_sub (ls' := [(0, .ref (am_B Z + a0)), (1, .int x1), (2, .int v17)]) [0, 1, 2] rfl ?_
    exact hj21 J35
  · refine am_aload_n dX11_pathsOf_54 rfl 0 rfl ?_
    refine am_getR 11 18 clX11 (Nat.le_of_ble_eq_true rfl) h33 iX11_pathsOf_11 fX11_pathsOf_42 rfl rfl dX11_pathsOf_55 (fun h38 => ?_)
    refine am_iload_n dX11_pathsOf_58 rfl 3 rfl ?_
    refine am_lconst (v := 0) dX11_pathsOf_59 (by decide) ?_
    refine am_last h38 dX11_pathsOf_60 ?_
    refine am_letL (fun J39 => ?_)
    refine am_iconst (v := 0) dX11_pathsOf_61 (by decide) ?_
    refine am_istore (ls' := [(4, .int (0 : Int32)), (0, .ref (am_B Z + a0)), (1, .int x1), (2, .int v17), (3, .int v34)]) dX11_pathsOf_62 (Nat.le_of_ble_eq_true rfl) rfl ?_
    refine am_jnV (fun j40 ej40 => ?_)
    have hj40 : ∀ (J41 : am_L), am_V Z X kX11_pathsOf (fun r : Int64 × am_L => (some (.long r.1), R, I, r.2)) 146 [(0, .ref (am_B Z + a0)), (1, .int x1), (2, .int v17), (3, .int v34)] [] R I J41 (j40 J41) := by
      subst ej40
      intro J41
      show am_V Z X kX11_pathsOf (fun r : Int64 × am_L => (some (.long r.1), R, I, r.2)) 146 [(0, .ref (am_B Z + a0)), (1, .int x1), (2, .int v17), (3, .int v34)] [] R I J41 _
      refine am_iinc (j := 3) (ls' := [(3, .int (v34 + (1 : Int32))), (0, .ref (am_B Z + a0)), (1, .int x1), (2, .int v17)]) dX11_pathsOf_146 rfl rfl (Nat.le_of_ble_eq_true rfl) rfl ?_
      refine am_goto (tgt := 46) dX11_pathsOf_149 rfl ?_
      refine am_sub (ls' := [(0, .ref (am_B Z + a0)), (1, .int x1), (2, .int v17), (3, .int (v34 + (1 : Int32)))]) [1, 2, 3, 0] rfl ?_
      exact hih36 (v34 + (1 : Int32)) J41
    refine am_sub (ls' := [(0, .ref (am_B Z + a0)), (1, .int x1), (2, .int v17), (3, .int v34), (4, .int (0 : Int32))]) [1, 2, 3, 4, 0] rfl ?_
    exact uX11_pathsOf_64 R I a0 x1 v17 v34 h33 j40 hj40 am_fu (0 : Int32) J39
theorem uX11_pathsOf_46 {Z : am_Z} {X : am_X} (R : am_R) (I : am_I) (a0 : Nat) (x1 : Int32) (v17 : Int32) (h33 : am_G Z a0 = some (.inl 11)) (j21 : am_L → Option (Int64 × am_L)) (hj21 : ∀ (J22 : am_L), am_V Z X kX11_pathsOf (fun r : Int64 × am_L => (some (.long r.1), R, I, r.2)) 152 [(0, .ref (am_B Z + a0)), (1, .int x1), (2, .int v17)] [] R I J22 (j21 J22)) : ∀ (n : Nat) (v34 : Int32) (J35 : am_L), am_V Z X kX11_pathsOf (fun r : Int64 × am_L => (some (.long r.1), R, I, r.2)) 46 [(0, .ref (am_B Z + a0)), (1, .int x1), (2, .int v17), (3, .int v34)] [] R I J35 (lX11_pathsOf_46 R I a0 x1 v17 j21 n v34 J35) := by
  intro n
  induction n with
  | zero => intro _ _; exact am_none
  | succ n ih => exact fun v34 J35 => vX11_pathsOf_46 R I a0 x1 v17 h33 j21 hj21 (lX11_pathsOf_46 R I a0 x1 v17 j21 n) ih v34 J35
set_option maxRecDepth 100000 in
set_option maxHeartbeats 4000000 in
theorem vX11_pathsOf_39 {Z : am_Z} {X : am_X} (R : am_R) (I : am_I) (a0 : Nat) (x1 : Int32) (h16 : am_G Z a0 = some (.inl 11)) (j3 : am_L → Option (Int64 × am_L)) (hj3 : ∀ (J4 : am_L), am_V Z X kX11_pathsOf (fun r : Int64 × am_L => (some (.long r.1), R, I, r.2)) 186 [(0, .ref (am_B Z + a0))] [] R I J4 (j3 J4)) (ih19 : Int32 → am_L → Option (Int64 × am_L)) (hih19 : ∀ (v17 : Int32) (J18 : am_L), am_V Z X kX11_pathsOf (fun r : Int64 × am_L => (some (.long r.1), R, I, r.2)) 39 [(0, .ref (am_B Z + a0)), (1, .int x1), (2, .int v17)] [] R I J18 (ih19 v17 J18)) (v17 : Int32) (J18 : am_L) : am_V Z X kX11_pathsOf (fun r : Int64 × am_L => (some (.long r.1), R, I, r.2)) 39 [(0, .ref (am_B Z + a0)), (1, .int x1), (2, .int v17)] [] R I J18 (sX11_pathsOf_39 R I a0 x1 j3 ih19 v17 J18) := by
  unfold sX11_pathsOf_39
  refine am_iload_n dX11_pathsOf_39 rfl 2 rfl ?_
  refine am_iload_n dX11_pathsOf_40 rfl 1 rfl ?_
  refine am_icmp_ge (tgt := 186) dX11_pathsOf_41 rfl (fun e20 => ?_) (fun e20 => ?_)
  · refine am_sub (ls' := [(0, .ref (am_B Z + a0))]) [0] rfl ?_
    exact hj3 J18
  · refine am_iconst (v := 0) dX11_pathsOf_44 (by decide) ?_
    refine am_istore_n (ls' := [(3, .int (0 : Int32)), (0, .ref (am_B Z + a0)), (1, .int x1), (2, .int v17)]) dX11_pathsOf_45 rfl (Nat.le_of_ble_eq_true rfl) rfl ?_
    refine am_jnV (fun j21 ej21 => ?_)
    have hj21 : ∀ (J22 : am_L), am_V Z X kX11_pathsOf (fun r : Int64 × am_L => (some (.long r.1), R, I, r.2)) 152 [(0, .ref (am_B Z + a0)), (1, .int x1), (2, .int v17)] [] R I J22 (j21 J22) := by
      subst ej21
      intro J22
      show am_V Z X kX11_pathsOf (fun r : Int64 × am_L => (some (.long r.1), R, I, r.2)) 152 [(0, .ref (am_B Z + a0)), (1, .int x1), (2, .int v17)] [] R I J22 _
      refine am_iconst (v := 0) dX11_pathsOf_152 (by decide) ?_
      refine am_istore_n (ls' := [(3, .int (0 : Int32)), (0, .ref (am_B Z + a0)), (1, .int x1), (2, .int v17)]) dX11_pathsOf_153 rfl (Nat.le_of_ble_eq_true rfl) rfl ?_
      refine am_jnV (fun j23 ej23 => ?_)
      have hj23 : ∀ (J24 : am_L), am_V Z X kX11_pathsOf (fun r : Int64 × am_L => (some (.long r.1), R, I, r.2)) 180 [(0, .ref (am_B Z + a0)), (1, .int x1), (2, .int v17)] [] R I J24 (j23 J24) := by
        subst ej23
        intro J24
        show am_V Z X kX11_pathsOf (fun r : Int64 × am_L => (some (.long r.1), R, I, r.2)) 180 [(0, .ref (am_B Z + a0)), (1, .int x1), (2, .int v17)] [] R I J24 _
        refine am_iinc (j := 2) (ls' := [(2, .int (v17 + (1 : Int32))), (0, .ref (am_B Z + a0)), (1, .int x1)]) dX11_pathsOf_180 rfl rfl (Nat.le_of_ble_eq_true rfl) rfl ?_
        refine am_goto (tgt := 39) dX11_pathsOf_183 rfl ?_
        refine am_sub (ls' := [(0, .ref (am_B Z + a0)), (1, .int x1), (2, .int (v17 + (1 : Int32)))]) [1, 2, 0] rfl ?_
        exact hih19 (v17 + (1 : Int32)) J24
      refine am_sub (ls' := [(0, .ref (am_B Z + a0)), (1, .int x1), (2, .int v17), (3, .int (0 : Int32))]) [1, 2, 3, 0] rfl ?_
      exact uX11_pathsOf_154 R I a0 x1 v17 h16 j23 hj23 am_fu (0 : Int32) J22
    refine am_sub (ls' := [(0, .ref (am_B Z + a0)), (1, .int x1), (2, .int v17), (3, .int (0 : Int32))]) [1, 2, 3, 0] rfl ?_
    exact uX11_pathsOf_46 R I a0 x1 v17 h16 j21 hj21 am_fu (0 : Int32) J18
theorem uX11_pathsOf_39 {Z : am_Z} {X : am_X} (R : am_R) (I : am_I) (a0 : Nat) (x1 : Int32) (h16 : am_G Z a0 = some (.inl 11)) (j3 : am_L → Option (Int64 × am_L)) (hj3 : ∀ (J4 : am_L), am_V Z X kX11_pathsOf (fun r : Int64 × am_L => (some (.long r.1), R, I, r.2)) 186 [(0, .ref (am_B Z + a0))] [] R I J4 (j3 J4)) : ∀ (n : Nat) (v17 : Int32) (J18 : am_L), am_V Z X kX11_pathsOf (fun r : Int64 × am_L => (some (.long r.1), R, I, r.2)) 39 [(0, .ref (am_B Z + a0)), (1, .int x1), (2, .int v17)] [] R I J18 (lX11_pathsOf_39 R I a0 x1 j3 n v17 J18) := by
  intro n
  induction n with
  | zero => intro _ _; exact am_none
  | succ n ih => exact fun v17 J18 => vX11_pathsOf_39 R I a0 x1 h16 j3 hj3 (lX11_pathsOf_39 R I a0 x1 j3 n) ih v17 J18
set_option maxRecDepth 100000 in
set_option maxHeartbeats 4000000 in
theorem vX11_pathsOf_2 {Z : am_Z} {X : am_X} (R : am_R) (I : am_I) (a0 : Nat) (x1 : Int32) (h65 : am_G Z a0 = some (.inl 11)) (j1 : am_L → Option (Int64 × am_L)) (hj1 : ∀ (J2 : am_L), am_V Z X kX11_pathsOf (fun r : Int64 × am_L => (some (.long r.1), R, I, r.2)) 37 [(0, .ref (am_B Z + a0)), (1, .int x1)] [] R I J2 (j1 J2)) (ih68 : Int32 → am_L → Option (Int64 × am_L)) (hih68 : ∀ (v66 : Int32) (J67 : am_L), am_V Z X kX11_pathsOf (fun r : Int64 × am_L => (some (.long r.1), R, I, r.2)) 2 [(0, .ref (am_B Z + a0)), (1, .int x1), (2, .int v66)] [] R I J67 (ih68 v66 J67)) (v66 : Int32) (J67 : am_L) : am_V Z X kX11_pathsOf (fun r : Int64 × am_L => (some (.long r.1), R, I, r.2)) 2 [(0, .ref (am_B Z + a0)), (1, .int x1), (2, .int v66)] [] R I J67 (sX11_pathsOf_2 R I a0 x1 j1 ih68 v66 J67) := by
  unfold sX11_pathsOf_2
  refine am_iload_n dX11_pathsOf_2 rfl 2 rfl ?_
  refine am_bipush (v := 6) dX11_pathsOf_3 (by decide) ?_
  refine am_icmp_ge (tgt := 37) dX11_pathsOf_5 rfl (fun e69 => ?_) (fun e69 => ?_)
  · refine am_sub (ls' := [(0, .ref (am_B Z + a0)), (1, .int x1)]) [0, 1] rfl ?_
    exact hj1 J67
  · refine am_aload_n dX11_pathsOf_8 rfl 0 rfl ?_
    refine am_getR 11 17 clX11 (Nat.le_of_ble_eq_true rfl) h65 iX11_pathsOf_11 fX11_pathsOf_38 rfl rfl dX11_pathsOf_9 (fun h70 => ?_)
    refine am_iload_n dX11_pathsOf_12 rfl 2 rfl ?_
    refine am_aload_n dX11_pathsOf_13 rfl 0 rfl ?_
    refine am_get 11 5 clX11 (Nat.le_of_ble_eq_true rfl) h65 iX11_pathsOf_11 fX11_pathsOf_115 rfl dX11_pathsOf_14 ?_
    refine am_i2l dX11_pathsOf_17 ?_
    refine am_iload_n dX11_pathsOf_18 rfl 2 rfl ?_
    refine am_callS [.long (Int32.toInt64 (I a0 5)), .int v66] (tX11_has R I J67 (Int32.toInt64 (I a0 5)) v66) gX11_pathsOf_X11_has hX11_has ⟨Nat.le_of_ble_eq_true rfl, Nat.le_of_ble_eq_true rfl⟩ rfl rfl (Nat.le_of_ble_eq_true rfl) dX11_pathsOf_19 (fun r71 => ?_)
    show am_V Z X kX11_pathsOf (fun r : Int64 × am_L => (some (.long r.1), R, I, r.2)) 22 [(0, .ref (am_B Z + a0)), (1, .int x1), (2, .int v66)] [.int r71, .int v66, .ref (am_B Z + (R a0 17))] R I J67 _
    refine am_letJ (fun k73 ek73 => ?_)
    have hk73 : ∀ v72 : Int64, am_V Z X kX11_pathsOf (fun r : Int64 × am_L => (some (.long r.1), R, I, r.2)) 30 [(0, .ref (am_B Z + a0)), (1, .int x1), (2, .int v66)] [.long v72, .int v66, .ref (am_B Z + (R a0 17))] R I J67 (k73 v72) := by
      subst ek73
      intro v72
      show am_V Z X kX11_pathsOf (fun r : Int64 × am_L => (some (.long r.1), R, I, r.2)) 30 [(0, .ref (am_B Z + a0)), (1, .int x1), (2, .int v66)] [.long v72, .int v66, .ref (am_B Z + (R a0 17))] R I J67 _
      refine am_last h70 dX11_pathsOf_30 ?_
      refine am_letL (fun J74 => ?_)
      refine am_iinc (j := 2) (ls' := [(2, .int (v66 + (1 : Int32))), (0, .ref (am_B Z + a0)), (1, .int x1)]) dX11_pathsOf_31 rfl rfl (Nat.le_of_ble_eq_true rfl) rfl ?_
      refine am_goto (tgt := 2) dX11_pathsOf_34 rfl ?_
      refine am_sub (ls' := [(0, .ref (am_B Z + a0)), (1, .int x1), (2, .int (v66 + (1 : Int32)))]) [1, 2, 0] rfl ?_
      exact hih68 (v66 + (1 : Int32)) J74
    refine am_if_eqL (tgt := 29) dX11_pathsOf_22 rfl (fun e75 => ?_) (fun e75 => ?_)
    · refine am_lconst (v := 0) dX11_pathsOf_29 (by decide) ?_
      exact hk73 _
    · refine am_lconst (v := 1) dX11_pathsOf_25 (by decide) ?_
      refine am_goto (tgt := 30) dX11_pathsOf_26 rfl ?_
      exact hk73 _
theorem uX11_pathsOf_2 {Z : am_Z} {X : am_X} (R : am_R) (I : am_I) (a0 : Nat) (x1 : Int32) (h65 : am_G Z a0 = some (.inl 11)) (j1 : am_L → Option (Int64 × am_L)) (hj1 : ∀ (J2 : am_L), am_V Z X kX11_pathsOf (fun r : Int64 × am_L => (some (.long r.1), R, I, r.2)) 37 [(0, .ref (am_B Z + a0)), (1, .int x1)] [] R I J2 (j1 J2)) : ∀ (n : Nat) (v66 : Int32) (J67 : am_L), am_V Z X kX11_pathsOf (fun r : Int64 × am_L => (some (.long r.1), R, I, r.2)) 2 [(0, .ref (am_B Z + a0)), (1, .int x1), (2, .int v66)] [] R I J67 (lX11_pathsOf_2 R I a0 x1 j1 n v66 J67) := by
  intro n
  induction n with
  | zero => intro _ _; exact am_none
  | succ n ih => exact fun v66 J67 => vX11_pathsOf_2 R I a0 x1 h65 j1 hj1 (lX11_pathsOf_2 R I a0 x1 j1 n) ih v66 J67
set_option maxRecDepth 100000 in
set_option maxHeartbeats 4000000 in
theorem tX11_pathsOf {Z : am_Z} (R : am_R) (I : am_I) (L : am_L) (a0 : Nat) (x1 : Int32) (h_a0 : am_G Z a0 = some (.inl 11)) : am_M Z yX11_pathsOf kX11_pathsOf [.ref (am_B Z + a0), .int x1] R I L (pX11_pathsOf R I L a0 x1) (fun r : Int64 × am_L => (some (.long r.1), R, I, r.2)) := by
  refine am_entry (ls := [(0, .ref (am_B Z + a0)), (1, .int x1)]) (by decide) hX11_pathsOf rfl (Nat.le_of_ble_eq_true rfl) rfl (fun X => ?_)
  unfold pX11_pathsOf
  refine am_iconst (v := 0) dX11_pathsOf_0 (by decide) ?_
  refine am_istore_n (ls' := [(2, .int (0 : Int32)), (0, .ref (am_B Z + a0)), (1, .int x1)]) dX11_pathsOf_1 rfl (Nat.le_of_ble_eq_true rfl) rfl ?_
  refine am_jnV (fun j1 ej1 => ?_)
  have hj1 : ∀ (J2 : am_L), am_V Z X kX11_pathsOf (fun r : Int64 × am_L => (some (.long r.1), R, I, r.2)) 37 [(0, .ref (am_B Z + a0)), (1, .int x1)] [] R I J2 (j1 J2) := by
    subst ej1
    intro J2
    show am_V Z X kX11_pathsOf (fun r : Int64 × am_L => (some (.long r.1), R, I, r.2)) 37 [(0, .ref (am_B Z + a0)), (1, .int x1)] [] R I J2 _
    refine am_iconst (v := 0) dX11_pathsOf_37 (by decide) ?_
    refine am_istore_n (ls' := [(2, .int (0 : Int32)), (0, .ref (am_B Z + a0)), (1, .int x1)]) dX11_pathsOf_38 rfl (Nat.le_of_ble_eq_true rfl) rfl ?_
    refine am_jnV (fun j3 ej3 => ?_)
    have hj3 : ∀ (J4 : am_L), am_V Z X kX11_pathsOf (fun r : Int64 × am_L => (some (.long r.1), R, I, r.2)) 186 [(0, .ref (am_B Z + a0))] [] R I J4 (j3 J4) := by
      subst ej3
      intro J4
      show am_V Z X kX11_pathsOf (fun r : Int64 × am_L => (some (.long r.1), R, I, r.2)) 186 [(0, .ref (am_B Z + a0))] [] R I J4 _
      refine am_lconst (v := 0) dX11_pathsOf_186 (by decide) ?_
      refine am_lstore_n (ls' := [(2, .long (0 : Int64)), (0, .ref (am_B Z + a0))]) dX11_pathsOf_187 rfl (Nat.le_of_ble_eq_true rfl) rfl ?_
      refine am_iconst (v := 0) dX11_pathsOf_188 (by decide) ?_
      refine am_istore (ls' := [(4, .int (0 : Int32)), (2, .long (0 : Int64)), (0, .ref (am_B Z + a0))]) dX11_pathsOf_189 (Nat.le_of_ble_eq_true rfl) rfl ?_
      refine am_sub (ls' := [(0, .ref (am_B Z + a0)), (2, .long (0 : Int64)), (4, .int (0 : Int32))]) [2, 1, 0] rfl ?_
      exact uX11_pathsOf_191 R I a0 J4 h_a0 am_fu (0 : Int64) (0 : Int32)
    refine am_sub (ls' := [(0, .ref (am_B Z + a0)), (1, .int x1), (2, .int (0 : Int32))]) [1, 2, 0] rfl ?_
    exact uX11_pathsOf_39 R I a0 x1 h_a0 j3 hj3 am_fu (0 : Int32) J2
  refine am_sub (ls' := [(0, .ref (am_B Z + a0)), (1, .int x1), (2, .int (0 : Int32))]) [1, 2, 0] rfl ?_
  exact uX11_pathsOf_2 R I a0 x1 h_a0 j1 hj1 am_fu (0 : Int32) L
abbrev kX11_wordsOf : am_K := (cX11_wordsOf, 4, RX11, wsX11_wordsOf, some .long, { frames := 2, cells := 0, slots := 0, locals := 46 })
theorem hX11_wordsOf : am_cl yX11_wordsOf kX11_wordsOf 1 := ⟨⟨_, rfl⟩, rfl, rfl, by decide +kernel, by decide +kernel, by decide +kernel⟩
theorem iX11_wordsOf_11 : ∀ w ∈ u_ws RX11 TX11 50, w ∈ wsX11_wordsOf := by decide +kernel
theorem fX11_wordsOf_38 : Cond.fieldLink RX11 38 "AmbiguityAnalyzerModel" "ways" "[J" ∈ wsX11_wordsOf := by decide +kernel
theorem fX11_wordsOf_115 : Cond.fieldLink RX11 115 "AmbiguityAnalyzerModel" "finals" "I" ∈ wsX11_wordsOf := by decide +kernel
theorem fX11_wordsOf_19 : Cond.fieldLink RX11 19 "AmbiguityAnalyzerModel" "states" "I" ∈ wsX11_wordsOf := by decide +kernel
theorem fX11_wordsOf_42 : Cond.fieldLink RX11 42 "AmbiguityAnalyzerModel" "newWays" "[J" ∈ wsX11_wordsOf := by decide +kernel
theorem fX11_wordsOf_112 : Cond.fieldLink RX11 112 "AmbiguityAnalyzerModel" "initials" "I" ∈ wsX11_wordsOf := by decide +kernel
set_option maxRecDepth 100000 in
set_option maxHeartbeats 4000000 in
theorem vX11_wordsOf_106 {Z : am_Z} {X : am_X} (R : am_R) (I : am_I) (a0 : Nat) (x1 : Int32) (v4 : Int32) (h13 : am_G Z a0 = some (.inl 11)) (j11 : am_L → Option (Int64 × am_L)) (hj11 : ∀ (J12 : am_L), am_V Z X kX11_wordsOf (fun r : Int64 × am_L => (some (.long r.1), R, I, r.2)) 134 [(0, .ref (am_B Z + a0)), (1, .int x1), (2, .int v4)] [] R I J12 (j11 J12)) (ih16 : Int32 → am_L → Option (Int64 × am_L)) (hih16 : ∀ (v14 : Int32) (J15 : am_L), am_V Z X kX11_wordsOf (fun r : Int64 × am_L => (some (.long r.1), R, I, r.2)) 106 [(0, .ref (am_B Z + a0)), (1, .int x1), (2, .int v4), (3, .int v14)] [] R I J15 (ih16 v14 J15)) (v14 : Int32) (J15 : am_L) : am_V Z X kX11_wordsOf (fun r : Int64 × am_L => (some (.long r.1), R, I, r.2)) 106 [(0, .ref (am_B Z + a0)), (1, .int x1), (2, .int v4), (3, .int v14)] [] R I J15 (sX11_wordsOf_106 R I a0 x1 v4 j11 ih16 v14 J15) := by
  unfold sX11_wordsOf_106
  refine am_iload_n dX11_wordsOf_106 rfl 3 rfl ?_
  refine am_iconst (v := 1) dX11_wordsOf_107 (by decide) ?_
  refine am_aload_n dX11_wordsOf_108 rfl 0 rfl ?_
  refine am_get 11 3 clX11 (Nat.le_of_ble_eq_true rfl) h13 iX11_wordsOf_11 fX11_wordsOf_19 rfl dX11_wordsOf_109 ?_
  refine am_ishl dX11_wordsOf_112 ?_
  refine am_icmp_ge (tgt := 134) dX11_wordsOf_113 rfl (fun e17 => ?_) (fun e17 => ?_)
  · refine am_sub (ls' := [(0, .ref (am_B Z + a0)), (1, .int x1), (2, .int v4)]) [0, 1, 2] rfl ?_
    exact hj11 J15
  · refine am_aload_n dX11_wordsOf_116 rfl 0 rfl ?_
    refine am_getR 11 17 clX11 (Nat.le_of_ble_eq_true rfl) h13 iX11_wordsOf_11 fX11_wordsOf_38 rfl rfl dX11_wordsOf_117 (fun h18 => ?_)
    refine am_iload_n dX11_wordsOf_120 rfl 3 rfl ?_
    refine am_aload_n dX11_wordsOf_121 rfl 0 rfl ?_
    refine am_getR 11 18 clX11 (Nat.le_of_ble_eq_true rfl) h13 iX11_wordsOf_11 fX11_wordsOf_42 rfl rfl dX11_wordsOf_122 (fun h19 => ?_)
    refine am_iload_n dX11_wordsOf_125 rfl 3 rfl ?_
    refine am_lald h19 dX11_wordsOf_126 ?_
    refine am_last h18 dX11_wordsOf_127 ?_
    refine am_letL (fun J20 => ?_)
    refine am_iinc (j := 3) (ls' := [(3, .int (v14 + (1 : Int32))), (0, .ref (am_B Z + a0)), (1, .int x1), (2, .int v4)]) dX11_wordsOf_128 rfl rfl (Nat.le_of_ble_eq_true rfl) rfl ?_
    refine am_goto (tgt := 106) dX11_wordsOf_131 rfl ?_
    refine am_sub (ls' := [(0, .ref (am_B Z + a0)), (1, .int x1), (2, .int v4), (3, .int (v14 + (1 : Int32)))]) [1, 2, 3, 0] rfl ?_
    exact hih16 (v14 + (1 : Int32)) J20
theorem uX11_wordsOf_106 {Z : am_Z} {X : am_X} (R : am_R) (I : am_I) (a0 : Nat) (x1 : Int32) (v4 : Int32) (h13 : am_G Z a0 = some (.inl 11)) (j11 : am_L → Option (Int64 × am_L)) (hj11 : ∀ (J12 : am_L), am_V Z X kX11_wordsOf (fun r : Int64 × am_L => (some (.long r.1), R, I, r.2)) 134 [(0, .ref (am_B Z + a0)), (1, .int x1), (2, .int v4)] [] R I J12 (j11 J12)) : ∀ (n : Nat) (v14 : Int32) (J15 : am_L), am_V Z X kX11_wordsOf (fun r : Int64 × am_L => (some (.long r.1), R, I, r.2)) 106 [(0, .ref (am_B Z + a0)), (1, .int x1), (2, .int v4), (3, .int v14)] [] R I J15 (lX11_wordsOf_106 R I a0 x1 v4 j11 n v14 J15) := by
  intro n
  induction n with
  | zero => intro _ _; exact am_none
  | succ n ih => exact fun v14 J15 => vX11_wordsOf_106 R I a0 x1 v4 h13 j11 hj11 (lX11_wordsOf_106 R I a0 x1 v4 j11 n) ih v14 J15
set_option maxRecDepth 100000 in
set_option maxHeartbeats 4000000 in
theorem vX11_wordsOf_43 {Z : am_Z} {X : am_X} (R : am_R) (I : am_I) (a0 : Nat) (x1 : Int32) (v4 : Int32) (h21 : am_G Z a0 = some (.inl 11)) (j9 : am_L → Option (Int64 × am_L)) (hj9 : ∀ (J10 : am_L), am_V Z X kX11_wordsOf (fun r : Int64 × am_L => (some (.long r.1), R, I, r.2)) 104 [(0, .ref (am_B Z + a0)), (1, .int x1), (2, .int v4)] [] R I J10 (j9 J10)) (ih24 : Int32 → am_L → Option (Int64 × am_L)) (hih24 : ∀ (v22 : Int32) (J23 : am_L), am_V Z X kX11_wordsOf (fun r : Int64 × am_L => (some (.long r.1), R, I, r.2)) 43 [(0, .ref (am_B Z + a0)), (1, .int x1), (2, .int v4), (3, .int v22)] [] R I J23 (ih24 v22 J23)) (v22 : Int32) (J23 : am_L) : am_V Z X kX11_wordsOf (fun r : Int64 × am_L => (some (.long r.1), R, I, r.2)) 43 [(0, .ref (am_B Z + a0)), (1, .int x1), (2, .int v4), (3, .int v22)] [] R I J23 (sX11_wordsOf_43 R I a0 x1 v4 j9 ih24 v22 J23) := by
  unfold sX11_wordsOf_43
  refine am_iload_n dX11_wordsOf_43 rfl 3 rfl ?_
  refine am_iconst (v := 1) dX11_wordsOf_44 (by decide) ?_
  refine am_aload_n dX11_wordsOf_45 rfl 0 rfl ?_
  refine am_get 11 3 clX11 (Nat.le_of_ble_eq_true rfl) h21 iX11_wordsOf_11 fX11_wordsOf_19 rfl dX11_wordsOf_46 ?_
  refine am_ishl dX11_wordsOf_49 ?_
  refine am_icmp_ge (tgt := 104) dX11_wordsOf_50 rfl (fun e25 => ?_) (fun e25 => ?_)
  · refine am_sub (ls' := [(0, .ref (am_B Z + a0)), (1, .int x1), (2, .int v4)]) [0, 1, 2] rfl ?_
    exact hj9 J23
  · refine am_aload_n dX11_wordsOf_53 rfl 0 rfl ?_
    refine am_getR 11 18 clX11 (Nat.le_of_ble_eq_true rfl) h21 iX11_wordsOf_11 fX11_wordsOf_42 rfl rfl dX11_wordsOf_54 (fun h26 => ?_)
    refine am_iload_n dX11_wordsOf_57 rfl 3 rfl ?_
    refine am_aload_n dX11_wordsOf_58 rfl 0 rfl ?_
    refine am_getR 11 17 clX11 (Nat.le_of_ble_eq_true rfl) h21 iX11_wordsOf_11 fX11_wordsOf_38 rfl rfl dX11_wordsOf_59 (fun h27 => ?_)
    refine am_aload_n dX11_wordsOf_62 rfl 0 rfl ?_
    refine am_iload_n dX11_wordsOf_63 rfl 3 rfl ?_
    refine am_iconst (v := 0) dX11_wordsOf_64 (by decide) ?_
    refine am_callV [.int v22, .int (0 : Int32)] (tX11_step R I J23 a0 v22 (0 : Int32) h21) h21 clX11 gX11_wordsOf_X11_step hX11_step rfl ⟨Nat.le_of_ble_eq_true rfl, Nat.le_of_ble_eq_true rfl⟩ rfl rfl (Nat.le_of_ble_eq_true rfl) dX11_wordsOf_65 (fun r28 => ?_)
    show am_V Z X kX11_wordsOf (fun r : Int64 × am_L => (some (.long r.1), R, I, r.2)) 68 [(0, .ref (am_B Z + a0)), (1, .int x1), (2, .int v4), (3, .int v22)] [.int r28, .ref (am_B Z + (R a0 17)), .int v22, .ref (am_B Z + (R a0 18))] R I J23 _
    refine am_lald h27 dX11_wordsOf_68 ?_
    refine am_aload_n dX11_wordsOf_69 rfl 0 rfl ?_
    refine am_getR 11 17 clX11 (Nat.le_of_ble_eq_true rfl) h21 iX11_wordsOf_11 fX11_wordsOf_38 rfl rfl dX11_wordsOf_70 (fun h29 => ?_)
    refine am_aload_n dX11_wordsOf_73 rfl 0 rfl ?_
    refine am_iload_n dX11_wordsOf_74 rfl 3 rfl ?_
    refine am_iconst (v := 1) dX11_wordsOf_75 (by decide) ?_
    refine am_callV [.int v22, .int (1 : Int32)] (tX11_step R I J23 a0 v22 (1 : Int32) h21) h21 clX11 gX11_wordsOf_X11_step hX11_step rfl ⟨Nat.le_of_ble_eq_true rfl, Nat.le_of_ble_eq_true rfl⟩ rfl rfl (Nat.le_of_ble_eq_true rfl) dX11_wordsOf_76 (fun r30 => ?_)
    show am_V Z X kX11_wordsOf (fun r : Int64 × am_L => (some (.long r.1), R, I, r.2)) 79 [(0, .ref (am_B Z + a0)), (1, .int x1), (2, .int v4), (3, .int v22)] [.int r30, .ref (am_B Z + (R a0 17)), .long (J23 (R a0 17) (Int32.toNatClampNeg r28)), .int v22, .ref (am_B Z + (R a0 18))] R I J23 _
    refine am_lald h29 dX11_wordsOf_79 ?_
    refine am_callS [.long (J23 (R a0 17) (Int32.toNatClampNeg r28)), .long (J23 (R a0 17) (Int32.toNatClampNeg r30))] (tX11_plus R I J23 (J23 (R a0 17) (Int32.toNatClampNeg r28)) (J23 (R a0 17) (Int32.toNatClampNeg r30))) gX11_wordsOf_X11_plus hX11_plus ⟨Nat.le_of_ble_eq_true rfl, Nat.le_of_ble_eq_true rfl⟩ rfl rfl (Nat.le_of_ble_eq_true rfl) dX11_wordsOf_80 (fun r31 => ?_)
    show am_V Z X kX11_wordsOf (fun r : Int64 × am_L => (some (.long r.1), R, I, r.2)) 83 [(0, .ref (am_B Z + a0)), (1, .int x1), (2, .int v4), (3, .int v22)] [.long r31, .int v22, .ref (am_B Z + (R a0 18))] R I J23 _
    refine am_aload_n dX11_wordsOf_83 rfl 0 rfl ?_
    refine am_getR 11 17 clX11 (Nat.le_of_ble_eq_true rfl) h21 iX11_wordsOf_11 fX11_wordsOf_38 rfl rfl dX11_wordsOf_84 (fun h32 => ?_)
    refine am_aload_n dX11_wordsOf_87 rfl 0 rfl ?_
    refine am_iload_n dX11_wordsOf_88 rfl 3 rfl ?_
    refine am_iconst (v := 2) dX11_wordsOf_89 (by decide) ?_
    refine am_callV [.int v22, .int (2 : Int32)] (tX11_step R I J23 a0 v22 (2 : Int32) h21) h21 clX11 gX11_wordsOf_X11_step hX11_step rfl ⟨Nat.le_of_ble_eq_true rfl, Nat.le_of_ble_eq_true rfl⟩ rfl rfl (Nat.le_of_ble_eq_true rfl) dX11_wordsOf_90 (fun r33 => ?_)
    show am_V Z X kX11_wordsOf (fun r : Int64 × am_L => (some (.long r.1), R, I, r.2)) 93 [(0, .ref (am_B Z + a0)), (1, .int x1), (2, .int v4), (3, .int v22)] [.int r33, .ref (am_B Z + (R a0 17)), .long r31, .int v22, .ref (am_B Z + (R a0 18))] R I J23 _
    refine am_lald h32 dX11_wordsOf_93 ?_
    refine am_callS [.long r31, .long (J23 (R a0 17) (Int32.toNatClampNeg r33))] (tX11_plus R I J23 r31 (J23 (R a0 17) (Int32.toNatClampNeg r33))) gX11_wordsOf_X11_plus hX11_plus ⟨Nat.le_of_ble_eq_true rfl, Nat.le_of_ble_eq_true rfl⟩ rfl rfl (Nat.le_of_ble_eq_true rfl) dX11_wordsOf_94 (fun r34 => ?_)
    show am_V Z X kX11_wordsOf (fun r : Int64 × am_L => (some (.long r.1), R, I, r.2)) 97 [(0, .ref (am_B Z + a0)), (1, .int x1), (2, .int v4), (3, .int v22)] [.long r34, .int v22, .ref (am_B Z + (R a0 18))] R I J23 _
    refine am_last h26 dX11_wordsOf_97 ?_
    refine am_letL (fun J35 => ?_)
    refine am_iinc (j := 3) (ls' := [(3, .int (v22 + (1 : Int32))), (0, .ref (am_B Z + a0)), (1, .int x1), (2, .int v4)]) dX11_wordsOf_98 rfl rfl (Nat.le_of_ble_eq_true rfl) rfl ?_
    refine am_goto (tgt := 43) dX11_wordsOf_101 rfl ?_
    refine am_sub (ls' := [(0, .ref (am_B Z + a0)), (1, .int x1), (2, .int v4), (3, .int (v22 + (1 : Int32)))]) [1, 2, 3, 0] rfl ?_
    exact hih24 (v22 + (1 : Int32)) J35
theorem uX11_wordsOf_43 {Z : am_Z} {X : am_X} (R : am_R) (I : am_I) (a0 : Nat) (x1 : Int32) (v4 : Int32) (h21 : am_G Z a0 = some (.inl 11)) (j9 : am_L → Option (Int64 × am_L)) (hj9 : ∀ (J10 : am_L), am_V Z X kX11_wordsOf (fun r : Int64 × am_L => (some (.long r.1), R, I, r.2)) 104 [(0, .ref (am_B Z + a0)), (1, .int x1), (2, .int v4)] [] R I J10 (j9 J10)) : ∀ (n : Nat) (v22 : Int32) (J23 : am_L), am_V Z X kX11_wordsOf (fun r : Int64 × am_L => (some (.long r.1), R, I, r.2)) 43 [(0, .ref (am_B Z + a0)), (1, .int x1), (2, .int v4), (3, .int v22)] [] R I J23 (lX11_wordsOf_43 R I a0 x1 v4 j9 n v22 J23) := by
  intro n
  induction n with
  | zero => intro _ _; exact am_none
  | succ n ih => exact fun v22 J23 => vX11_wordsOf_43 R I a0 x1 v4 h21 j9 hj9 (lX11_wordsOf_43 R I a0 x1 v4 j9 n) ih v22 J23
set_option maxRecDepth 100000 in
set_option maxHeartbeats 4000000 in
theorem vX11_wordsOf_36 {Z : am_Z} {X : am_X} (R : am_R) (I : am_I) (a0 : Nat) (x1 : Int32) (h3 : am_G Z a0 = some (.inl 11)) (ih6 : Int32 → am_L → Option (Int64 × am_L)) (hih6 : ∀ (v4 : Int32) (J5 : am_L), am_V Z X kX11_wordsOf (fun r : Int64 × am_L => (some (.long r.1), R, I, r.2)) 36 [(0, .ref (am_B Z + a0)), (1, .int x1), (2, .int v4)] [] R I J5 (ih6 v4 J5)) (v4 : Int32) (J5 : am_L) : am_V Z X kX11_wordsOf (fun r : Int64 × am_L => (some (.long r.1), R, I, r.2)) 36 [(0, .ref (am_B Z + a0)), (1, .int x1), (2, .int v4)] [] R I J5 (sX11_wordsOf_36 R I a0 x1 ih6 v4 J5) := by
  unfold sX11_wordsOf_36
  refine am_iload_n dX11_wordsOf_36 rfl 2 rfl ?_
  refine am_iload_n dX11_wordsOf_37 rfl 1 rfl ?_
  refine am_icmp_ge (tgt := 140) dX11_wordsOf_38 rfl (fun e7 => ?_) (fun e7 => ?_)
  · refine am_aload_n dX11_wordsOf_140 rfl 0 rfl ?_
    refine am_getR 11 17 clX11 (Nat.le_of_ble_eq_true rfl) h3 iX11_wordsOf_11 fX11_wordsOf_38 rfl rfl dX11_wordsOf_141 (fun h8 => ?_)
    refine am_aload_n dX11_wordsOf_144 rfl 0 rfl ?_
    refine am_get 11 4 clX11 (Nat.le_of_ble_eq_true rfl) h3 iX11_wordsOf_11 fX11_wordsOf_112 rfl dX11_wordsOf_145 ?_
    refine am_lald h8 dX11_wordsOf_148 ?_
    exact am_lret dX11_wordsOf_149 rfl rfl
  · refine am_iconst (v := 0) dX11_wordsOf_41 (by decide) ?_
    refine am_istore_n (ls' := [(3, .int (0 : Int32)), (0, .ref (am_B Z + a0)), (1, .int x1), (2, .int v4)]) dX11_wordsOf_42 rfl (Nat.le_of_ble_eq_true rfl) rfl ?_
    refine am_jnV (fun j9 ej9 => ?_)
    have hj9 : ∀ (J10 : am_L), am_V Z X kX11_wordsOf (fun r : Int64 × am_L => (some (.long r.1), R, I, r.2)) 104 [(0, .ref (am_B Z + a0)), (1, .int x1), (2, .int v4)] [] R I J10 (j9 J10) := by
      subst ej9
      intro J10
      show am_V Z X kX11_wordsOf (fun r : Int64 × am_L => (some (.long r.1), R, I, r.2)) 104 [(0, .ref (am_B Z + a0)), (1, .int x1), (2, .int v4)] [] R I J10 _
      refine am_iconst (v := 0) dX11_wordsOf_104 (by decide) ?_
      refine am_istore_n (ls' := [(3, .int (0 : Int32)), (0, .ref (am_B Z + a0)), (1, .int x1), (2, .int v4)]) dX11_wordsOf_105 rfl (Nat.le_of_ble_eq_true rfl) rfl ?_
      refine am_jnV (fun j11 ej11 => ?_)
      have hj11 : ∀ (J12 : am_L), am_V Z X kX11_wordsOf (fun r : Int64 × am_L => (some (.long r.1), R, I, r.2)) 134 [(0, .ref (am_B Z + a0)), (1, .int x1), (2, .int v4)] [] R I J12 (j11 J12) := by
        subst ej11
        intro J12
        show am_V Z X kX11_wordsOf (fun r : Int64 × am_L => (some (.long r.1), R, I, r.2)) 134 [(0, .ref (am_B Z + a0)), (1, .int x1), (2, .int v4)] [] R I J12 _
        refine am_iinc (j := 2) (ls' := [(2, .int (v4 + (1 : Int32))), (0, .ref (am_B Z + a0)), (1, .int x1)]) dX11_wordsOf_134 rfl rfl (Nat.le_of_ble_eq_true rfl) rfl ?_
        refine am_goto (tgt := 36) dX11_wordsOf_137 rfl ?_
        refine am_sub (ls' := [(0, .ref (am_B Z + a0)), (1, .int x1), (2, .int (v4 + (1 : Int32)))]) [1, 2, 0] rfl ?_
        exact hih6 (v4 + (1 : Int32)) J12
      refine am_sub (ls' := [(0, .ref (am_B Z + a0)), (1, .int x1), (2, .int v4), (3, .int (0 : Int32))]) [1, 2, 3, 0] rfl ?_
      exact uX11_wordsOf_106 R I a0 x1 v4 h3 j11 hj11 am_fu (0 : Int32) J10
    refine am_sub (ls' := [(0, .ref (am_B Z + a0)), (1, .int x1), (2, .int v4), (3, .int (0 : Int32))]) [1, 2, 3, 0] rfl ?_
    exact uX11_wordsOf_43 R I a0 x1 v4 h3 j9 hj9 am_fu (0 : Int32) J5
theorem uX11_wordsOf_36 {Z : am_Z} {X : am_X} (R : am_R) (I : am_I) (a0 : Nat) (x1 : Int32) (h3 : am_G Z a0 = some (.inl 11)) : ∀ (n : Nat) (v4 : Int32) (J5 : am_L), am_V Z X kX11_wordsOf (fun r : Int64 × am_L => (some (.long r.1), R, I, r.2)) 36 [(0, .ref (am_B Z + a0)), (1, .int x1), (2, .int v4)] [] R I J5 (lX11_wordsOf_36 R I a0 x1 n v4 J5) := by
  intro n
  induction n with
  | zero => intro _ _; exact am_none
  | succ n ih => exact fun v4 J5 => vX11_wordsOf_36 R I a0 x1 h3 (lX11_wordsOf_36 R I a0 x1 n) ih v4 J5
set_option maxRecDepth 100000 in
set_option maxHeartbeats 4000000 in
theorem vX11_wordsOf_2 {Z : am_Z} {X : am_X} (R : am_R) (I : am_I) (a0 : Nat) (x1 : Int32) (h36 : am_G Z a0 = some (.inl 11)) (j1 : am_L → Option (Int64 × am_L)) (hj1 : ∀ (J2 : am_L), am_V Z X kX11_wordsOf (fun r : Int64 × am_L => (some (.long r.1), R, I, r.2)) 34 [(0, .ref (am_B Z + a0)), (1, .int x1)] [] R I J2 (j1 J2)) (ih39 : Int32 → am_L → Option (Int64 × am_L)) (hih39 : ∀ (v37 : Int32) (J38 : am_L), am_V Z X kX11_wordsOf (fun r : Int64 × am_L => (some (.long r.1), R, I, r.2)) 2 [(0, .ref (am_B Z + a0)), (1, .int x1), (2, .int v37)] [] R I J38 (ih39 v37 J38)) (v37 : Int32) (J38 : am_L) : am_V Z X kX11_wordsOf (fun r : Int64 × am_L => (some (.long r.1), R, I, r.2)) 2 [(0, .ref (am_B Z + a0)), (1, .int x1), (2, .int v37)] [] R I J38 (sX11_wordsOf_2 R I a0 x1 j1 ih39 v37 J38) := by
  unfold sX11_wordsOf_2
  refine am_iload_n dX11_wordsOf_2 rfl 2 rfl ?_
  refine am_bipush (v := 64) dX11_wordsOf_3 (by decide) ?_
  refine am_icmp_ge (tgt := 34) dX11_wordsOf_5 rfl (fun e40 => ?_) (fun e40 => ?_)
  · refine am_sub (ls' := [(0, .ref (am_B Z + a0)), (1, .int x1)]) [0, 1] rfl ?_
    exact hj1 J38
  · refine am_aload_n dX11_wordsOf_8 rfl 0 rfl ?_
    refine am_getR 11 17 clX11 (Nat.le_of_ble_eq_true rfl) h36 iX11_wordsOf_11 fX11_wordsOf_38 rfl rfl dX11_wordsOf_9 (fun h41 => ?_)
    refine am_iload_n dX11_wordsOf_12 rfl 2 rfl ?_
    refine am_iload_n dX11_wordsOf_13 rfl 2 rfl ?_
    refine am_aload_n dX11_wordsOf_14 rfl 0 rfl ?_
    refine am_get 11 5 clX11 (Nat.le_of_ble_eq_true rfl) h36 iX11_wordsOf_11 fX11_wordsOf_115 rfl dX11_wordsOf_15 ?_
    refine am_iand dX11_wordsOf_18 ?_
    refine am_letJ (fun k43 ek43 => ?_)
    have hk43 : ∀ v42 : Int64, am_V Z X kX11_wordsOf (fun r : Int64 × am_L => (some (.long r.1), R, I, r.2)) 27 [(0, .ref (am_B Z + a0)), (1, .int x1), (2, .int v37)] [.long v42, .int v37, .ref (am_B Z + (R a0 17))] R I J38 (k43 v42) := by
      subst ek43
      intro v42
      show am_V Z X kX11_wordsOf (fun r : Int64 × am_L => (some (.long r.1), R, I, r.2)) 27 [(0, .ref (am_B Z + a0)), (1, .int x1), (2, .int v37)] [.long v42, .int v37, .ref (am_B Z + (R a0 17))] R I J38 _
      refine am_last h41 dX11_wordsOf_27 ?_
      refine am_letL (fun J44 => ?_)
      refine am_iinc (j := 2) (ls' := [(2, .int (v37 + (1 : Int32))), (0, .ref (am_B Z + a0)), (1, .int x1)]) dX11_wordsOf_28 rfl rfl (Nat.le_of_ble_eq_true rfl) rfl ?_
      refine am_goto (tgt := 2) dX11_wordsOf_31 rfl ?_
      refine am_sub (ls' := [(0, .ref (am_B Z + a0)), (1, .int x1), (2, .int (v37 + (1 : Int32)))]) [1, 2, 0] rfl ?_
      exact hih39 (v37 + (1 : Int32)) J44
    refine am_if_eqL (tgt := 26) dX11_wordsOf_19 rfl (fun e45 => ?_) (fun e45 => ?_)
    · refine am_lconst (v := 0) dX11_wordsOf_26 (by decide) ?_
      exact hk43 _
    · refine am_lconst (v := 1) dX11_wordsOf_22 (by decide) ?_
      refine am_goto (tgt := 27) dX11_wordsOf_23 rfl ?_
      exact hk43 _
theorem uX11_wordsOf_2 {Z : am_Z} {X : am_X} (R : am_R) (I : am_I) (a0 : Nat) (x1 : Int32) (h36 : am_G Z a0 = some (.inl 11)) (j1 : am_L → Option (Int64 × am_L)) (hj1 : ∀ (J2 : am_L), am_V Z X kX11_wordsOf (fun r : Int64 × am_L => (some (.long r.1), R, I, r.2)) 34 [(0, .ref (am_B Z + a0)), (1, .int x1)] [] R I J2 (j1 J2)) : ∀ (n : Nat) (v37 : Int32) (J38 : am_L), am_V Z X kX11_wordsOf (fun r : Int64 × am_L => (some (.long r.1), R, I, r.2)) 2 [(0, .ref (am_B Z + a0)), (1, .int x1), (2, .int v37)] [] R I J38 (lX11_wordsOf_2 R I a0 x1 j1 n v37 J38) := by
  intro n
  induction n with
  | zero => intro _ _; exact am_none
  | succ n ih => exact fun v37 J38 => vX11_wordsOf_2 R I a0 x1 h36 j1 hj1 (lX11_wordsOf_2 R I a0 x1 j1 n) ih v37 J38
set_option maxRecDepth 100000 in
set_option maxHeartbeats 4000000 in
theorem tX11_wordsOf {Z : am_Z} (R : am_R) (I : am_I) (L : am_L) (a0 : Nat) (x1 : Int32) (h_a0 : am_G Z a0 = some (.inl 11)) : am_M Z yX11_wordsOf kX11_wordsOf [.ref (am_B Z + a0), .int x1] R I L (pX11_wordsOf R I L a0 x1) (fun r : Int64 × am_L => (some (.long r.1), R, I, r.2)) := by
  refine am_entry (ls := [(0, .ref (am_B Z + a0)), (1, .int x1)]) (by decide) hX11_wordsOf rfl (Nat.le_of_ble_eq_true rfl) rfl (fun X => ?_)
  unfold pX11_wordsOf
  refine am_iconst (v := 0) dX11_wordsOf_0 (by decide) ?_
  refine am_istore_n (ls' := [(2, .int (0 : Int32)), (0, .ref (am_B Z + a0)), (1, .int x1)]) dX11_wordsOf_1 rfl (Nat.le_of_ble_eq_true rfl) rfl ?_
  refine am_jnV (fun j1 ej1 => ?_)
  have hj1 : ∀ (J2 : am_L), am_V Z X kX11_wordsOf (fun r : Int64 × am_L => (some (.long r.1), R, I, r.2)) 34 [(0, .ref (am_B Z + a0)), (1, .int x1)] [] R I J2 (j1 J2) := by
    subst ej1
    intro J2
    show am_V Z X kX11_wordsOf (fun r : Int64 × am_L => (some (.long r.1), R, I, r.2)) 34 [(0, .ref (am_B Z + a0)), (1, .int x1)] [] R I J2 _
    refine am_iconst (v := 0) dX11_wordsOf_34 (by decide) ?_
    refine am_istore_n (ls' := [(2, .int (0 : Int32)), (0, .ref (am_B Z + a0)), (1, .int x1)]) dX11_wordsOf_35 rfl (Nat.le_of_ble_eq_true rfl) rfl ?_
    refine am_sub (ls' := [(0, .ref (am_B Z + a0)), (1, .int x1), (2, .int (0 : Int32))]) [1, 2, 0] rfl ?_
    exact uX11_wordsOf_36 R I a0 x1 h_a0 am_fu (0 : Int32) J2
  refine am_sub (ls' := [(0, .ref (am_B Z + a0)), (1, .int x1), (2, .int (0 : Int32))]) [1, 2, 0] rfl ?_
  exact uX11_wordsOf_2 R I a0 x1 h_a0 j1 hj1 am_fu (0 : Int32) L
abbrev kX11_pathsOfLength : am_K := (cX11_pathsOfLength, 4, RX11, wsX11_pathsOfLength, some .long, { frames := 2, cells := 0, slots := 0, locals := 48 })
theorem hX11_pathsOfLength : am_cl yX11_pathsOfLength kX11_pathsOfLength 1 := ⟨⟨_, rfl⟩, rfl, rfl, by decide +kernel, by decide +kernel, by decide +kernel⟩
set_option maxRecDepth 100000 in
set_option maxHeartbeats 4000000 in
theorem tX11_pathsOfLength {Z : am_Z} (R : am_R) (I : am_I) (L : am_L) (a0 : Nat) (x1 : Int32) (h_a0 : am_G Z a0 = some (.inl 11)) : am_M Z yX11_pathsOfLength kX11_pathsOfLength [.ref (am_B Z + a0), .int x1] R I L (pX11_pathsOfLength R I L a0 x1) (fun r : Int64 × am_L => (some (.long r.1), R, I, r.2)) := by
  refine am_entry (ls := [(0, .ref (am_B Z + a0)), (1, .int x1)]) (by decide) hX11_pathsOfLength rfl (Nat.le_of_ble_eq_true rfl) rfl (fun X => ?_)
  unfold pX11_pathsOfLength
  refine am_iload_n dX11_pathsOfLength_0 rfl 1 rfl ?_
  refine am_i2l dX11_pathsOfLength_1 ?_
  refine am_lconst (v := 0) dX11_pathsOfLength_2 (by decide) ?_
  refine am_ldc2 (v := 60) dX11_pathsOfLength_3 (by decide +kernel) ?_
  refine am_callS [.long (Int32.toInt64 x1), .long (0 : Int64), .long (60 : Int64)] (tX11_isBetween R I L (Int32.toInt64 x1) (0 : Int64) (60 : Int64)) gX11_pathsOfLength_X11_isBetween hX11_isBetween ⟨Nat.le_of_ble_eq_true rfl, Nat.le_of_ble_eq_true rfl⟩ rfl rfl (Nat.le_of_ble_eq_true rfl) dX11_pathsOfLength_6 (fun r1 => ?_)
  show am_V Z X kX11_pathsOfLength (fun r : Int64 × am_L => (some (.long r.1), R, I, r.2)) 9 [(0, .ref (am_B Z + a0)), (1, .int x1)] [.int r1] R I L _
  refine am_if_ne (tgt := 16) dX11_pathsOfLength_9 rfl (fun e2 => ?_) (fun e2 => ?_)
  · refine am_aload_n dX11_pathsOfLength_16 rfl 0 rfl ?_
    refine am_iload_n dX11_pathsOfLength_17 rfl 1 rfl ?_
    refine am_callV [.int x1] (tX11_pathsOf R I L a0 x1 h_a0) h_a0 clX11 gX11_pathsOfLength_X11_pathsOf hX11_pathsOf rfl ⟨Nat.le_of_ble_eq_true rfl, Nat.le_of_ble_eq_true rfl⟩ rfl rfl (Nat.le_of_ble_eq_true rfl) dX11_pathsOfLength_18 (fun r3 => ?_)
    show am_V Z X kX11_pathsOfLength (fun r : Int64 × am_L => (some (.long r.1), R, I, r.2)) 21 [(0, .ref (am_B Z + a0)), (1, .int x1)] [.long r3.1] R I r3.2 _
    refine am_lstore_n (ls' := [(2, .long r3.1), (0, .ref (am_B Z + a0)), (1, .int x1)]) dX11_pathsOfLength_21 rfl (Nat.le_of_ble_eq_true rfl) rfl ?_
    refine am_lload_n dX11_pathsOfLength_22 rfl 0 rfl ?_
    refine am_lconst (v := 0) dX11_pathsOfLength_23 (by decide) ?_
    refine am_lcmp dX11_pathsOfLength_24 ?_
    refine am_if_ge (tgt := 34) dX11_pathsOfLength_25 rfl (fun e4 => ?_) (fun e4 => ?_)
    · refine am_lload_n dX11_pathsOfLength_34 rfl 0 rfl ?_
      exact am_lret dX11_pathsOfLength_35 rfl rfl
    · refine am_ldc2 (v := -6) dX11_pathsOfLength_28 (by decide +kernel) ?_
      refine am_goto (tgt := 35) dX11_pathsOfLength_31 rfl ?_
      exact am_lret dX11_pathsOfLength_35 rfl rfl
  · refine am_ldc2 (v := -2) dX11_pathsOfLength_12 (by decide +kernel) ?_
    exact am_lret dX11_pathsOfLength_15 rfl rfl
abbrev kX11_wordsOfLength : am_K := (cX11_wordsOfLength, 4, RX11, wsX11_wordsOfLength, some .long, { frames := 3, cells := 0, slots := 0, locals := 69 })
theorem hX11_wordsOfLength : am_cl yX11_wordsOfLength kX11_wordsOfLength 1 := ⟨⟨_, rfl⟩, rfl, rfl, by decide +kernel, by decide +kernel, by decide +kernel⟩
set_option maxRecDepth 100000 in
set_option maxHeartbeats 4000000 in
theorem tX11_wordsOfLength {Z : am_Z} (R : am_R) (I : am_I) (L : am_L) (a0 : Nat) (x1 : Int32) (h_a0 : am_G Z a0 = some (.inl 11)) : am_M Z yX11_wordsOfLength kX11_wordsOfLength [.ref (am_B Z + a0), .int x1] R I L (pX11_wordsOfLength R I L a0 x1) (fun r : Int64 × am_L => (some (.long r.1), R, I, r.2)) := by
  refine am_entry (ls := [(0, .ref (am_B Z + a0)), (1, .int x1)]) (by decide) hX11_wordsOfLength rfl (Nat.le_of_ble_eq_true rfl) rfl (fun X => ?_)
  unfold pX11_wordsOfLength
  refine am_iload_n dX11_wordsOfLength_0 rfl 1 rfl ?_
  refine am_i2l dX11_wordsOfLength_1 ?_
  refine am_lconst (v := 0) dX11_wordsOfLength_2 (by decide) ?_
  refine am_ldc2 (v := 60) dX11_wordsOfLength_3 (by decide +kernel) ?_
  refine am_callS [.long (Int32.toInt64 x1), .long (0 : Int64), .long (60 : Int64)] (tX11_isBetween R I L (Int32.toInt64 x1) (0 : Int64) (60 : Int64)) gX11_wordsOfLength_X11_isBetween hX11_isBetween ⟨Nat.le_of_ble_eq_true rfl, Nat.le_of_ble_eq_true rfl⟩ rfl rfl (Nat.le_of_ble_eq_true rfl) dX11_wordsOfLength_6 (fun r1 => ?_)
  show am_V Z X kX11_wordsOfLength (fun r : Int64 × am_L => (some (.long r.1), R, I, r.2)) 9 [(0, .ref (am_B Z + a0)), (1, .int x1)] [.int r1] R I L _
  refine am_if_ne (tgt := 16) dX11_wordsOfLength_9 rfl (fun e2 => ?_) (fun e2 => ?_)
  · refine am_aload_n dX11_wordsOfLength_16 rfl 0 rfl ?_
    refine am_iload_n dX11_wordsOfLength_17 rfl 1 rfl ?_
    refine am_callV [.int x1] (tX11_wordsOf R I L a0 x1 h_a0) h_a0 clX11 gX11_wordsOfLength_X11_wordsOf hX11_wordsOf rfl ⟨Nat.le_of_ble_eq_true rfl, Nat.le_of_ble_eq_true rfl⟩ rfl rfl (Nat.le_of_ble_eq_true rfl) dX11_wordsOfLength_18 (fun r3 => ?_)
    show am_V Z X kX11_wordsOfLength (fun r : Int64 × am_L => (some (.long r.1), R, I, r.2)) 21 [(0, .ref (am_B Z + a0)), (1, .int x1)] [.long r3.1] R I r3.2 _
    refine am_lstore_n (ls' := [(2, .long r3.1), (0, .ref (am_B Z + a0)), (1, .int x1)]) dX11_wordsOfLength_21 rfl (Nat.le_of_ble_eq_true rfl) rfl ?_
    refine am_lload_n dX11_wordsOfLength_22 rfl 0 rfl ?_
    refine am_lconst (v := 0) dX11_wordsOfLength_23 (by decide) ?_
    refine am_lcmp dX11_wordsOfLength_24 ?_
    refine am_if_ge (tgt := 34) dX11_wordsOfLength_25 rfl (fun e4 => ?_) (fun e4 => ?_)
    · refine am_lload_n dX11_wordsOfLength_34 rfl 0 rfl ?_
      exact am_lret dX11_wordsOfLength_35 rfl rfl
    · refine am_ldc2 (v := -6) dX11_wordsOfLength_28 (by decide +kernel) ?_
      refine am_goto (tgt := 35) dX11_wordsOfLength_31 rfl ?_
      exact am_lret dX11_wordsOfLength_35 rfl rfl
  · refine am_ldc2 (v := -2) dX11_wordsOfLength_12 (by decide +kernel) ?_
    exact am_lret dX11_wordsOfLength_15 rfl rfl
abbrev kX11_averageBits : am_K := (cX11_averageBits, 6, RX11, wsX11_averageBits, some .long, { frames := 3, cells := 0, slots := 0, locals := 69 })
theorem hX11_averageBits : am_cl yX11_averageBits kX11_averageBits 1 := ⟨⟨_, rfl⟩, rfl, rfl, by decide +kernel, by decide +kernel, by decide +kernel⟩
set_option maxRecDepth 100000 in
set_option maxHeartbeats 4000000 in
theorem tX11_averageBits {Z : am_Z} (R : am_R) (I : am_I) (L : am_L) (a0 : Nat) (x1 : Int32) (h_a0 : am_G Z a0 = some (.inl 11)) : am_M Z yX11_averageBits kX11_averageBits [.ref (am_B Z + a0), .int x1] R I L (pX11_averageBits R I L a0 x1) (fun r : Int64 × am_L => (some (.long r.1), R, I, r.2)) := by
  refine am_entry (ls := [(0, .ref (am_B Z + a0)), (1, .int x1)]) (by decide) hX11_averageBits rfl (Nat.le_of_ble_eq_true rfl) rfl (fun X => ?_)
  unfold pX11_averageBits
  refine am_iload_n dX11_averageBits_0 rfl 1 rfl ?_
  refine am_i2l dX11_averageBits_1 ?_
  refine am_lconst (v := 0) dX11_averageBits_2 (by decide) ?_
  refine am_ldc2 (v := 60) dX11_averageBits_3 (by decide +kernel) ?_
  refine am_callS [.long (Int32.toInt64 x1), .long (0 : Int64), .long (60 : Int64)] (tX11_isBetween R I L (Int32.toInt64 x1) (0 : Int64) (60 : Int64)) gX11_averageBits_X11_isBetween hX11_isBetween ⟨Nat.le_of_ble_eq_true rfl, Nat.le_of_ble_eq_true rfl⟩ rfl rfl (Nat.le_of_ble_eq_true rfl) dX11_averageBits_6 (fun r1 => ?_)
  show am_V Z X kX11_averageBits (fun r : Int64 × am_L => (some (.long r.1), R, I, r.2)) 9 [(0, .ref (am_B Z + a0)), (1, .int x1)] [.int r1] R I L _
  refine am_if_ne (tgt := 16) dX11_averageBits_9 rfl (fun e2 => ?_) (fun e2 => ?_)
  · refine am_aload_n dX11_averageBits_16 rfl 0 rfl ?_
    refine am_iload_n dX11_averageBits_17 rfl 1 rfl ?_
    refine am_callV [.int x1] (tX11_pathsOf R I L a0 x1 h_a0) h_a0 clX11 gX11_averageBits_X11_pathsOf hX11_pathsOf rfl ⟨Nat.le_of_ble_eq_true rfl, Nat.le_of_ble_eq_true rfl⟩ rfl rfl (Nat.le_of_ble_eq_true rfl) dX11_averageBits_18 (fun r3 => ?_)
    show am_V Z X kX11_averageBits (fun r : Int64 × am_L => (some (.long r.1), R, I, r.2)) 21 [(0, .ref (am_B Z + a0)), (1, .int x1)] [.long r3.1] R I r3.2 _
    refine am_lstore_n (ls' := [(2, .long r3.1), (0, .ref (am_B Z + a0)), (1, .int x1)]) dX11_averageBits_21 rfl (Nat.le_of_ble_eq_true rfl) rfl ?_
    refine am_aload_n dX11_averageBits_22 rfl 1 rfl ?_
    refine am_iload_n dX11_averageBits_23 rfl 2 rfl ?_
    refine am_callV [.int x1] (tX11_wordsOf R I r3.2 a0 x1 h_a0) h_a0 clX11 gX11_averageBits_X11_wordsOf hX11_wordsOf rfl ⟨Nat.le_of_ble_eq_true rfl, Nat.le_of_ble_eq_true rfl⟩ rfl rfl (Nat.le_of_ble_eq_true rfl) dX11_averageBits_24 (fun r4 => ?_)
    show am_V Z X kX11_averageBits (fun r : Int64 × am_L => (some (.long r.1), R, I, r.2)) 27 [(2, .long r3.1), (0, .ref (am_B Z + a0)), (1, .int x1)] [.long r4.1] R I r4.2 _
    refine am_lstore (ls' := [(4, .long r4.1), (2, .long r3.1), (0, .ref (am_B Z + a0)), (1, .int x1)]) dX11_averageBits_27 (Nat.le_of_ble_eq_true rfl) rfl ?_
    refine am_lload_n dX11_averageBits_29 rfl 1 rfl ?_
    refine am_lconst (v := 0) dX11_averageBits_30 (by decide) ?_
    refine am_lcmp dX11_averageBits_31 ?_
    refine am_if_lt (tgt := 42) dX11_averageBits_32 rfl (fun e5 => ?_) (fun e5 => ?_)
    · refine am_ldc2 (v := -6) dX11_averageBits_42 (by decide +kernel) ?_
      exact am_lret dX11_averageBits_45 rfl rfl
    · refine am_lload dX11_averageBits_35 0 rfl ?_
      refine am_lconst (v := 0) dX11_averageBits_37 (by decide) ?_
      refine am_lcmp dX11_averageBits_38 ?_
      refine am_if_ge (tgt := 46) dX11_averageBits_39 rfl (fun e6 => ?_) (fun e6 => ?_)
      · refine am_lload dX11_averageBits_46 0 rfl ?_
        refine am_lconst (v := 0) dX11_averageBits_48 (by decide) ?_
        refine am_lcmp dX11_averageBits_49 ?_
        refine am_jnV (fun j7 ej7 => ?_)
        have hj7 : ∀ (v8 : UInt64), am_V Z X kX11_averageBits (fun r : Int64 × am_L => (some (.long r.1), R, I, r.2)) 65 [] [.double v8] R I r4.2 (j7 v8) := by
          subst ej7
          intro v8
          show am_V Z X kX11_averageBits (fun r : Int64 × am_L => (some (.long r.1), R, I, r.2)) 65 [] [.double v8] R I r4.2 _
          refine am_callS [.double v8] (tJxe99ae_doubleToLongBits_ccdee R I r4.2 v8) gX11_averageBits_Jxe99ae_doubleToLongBits_ccdee hJxe99ae_doubleToLongBits_ccdee ⟨Nat.le_of_ble_eq_true rfl, Nat.le_of_ble_eq_true rfl⟩ rfl rfl (Nat.le_of_ble_eq_true rfl) dX11_averageBits_65 (fun r9 => ?_)
          show am_V Z X kX11_averageBits (fun r : Int64 × am_L => (some (.long r.1), R, I, r.2)) 68 [] [.long r9] R I r4.2 _
          exact am_lret dX11_averageBits_68 rfl rfl
        refine am_if_ne (tgt := 59) dX11_averageBits_50 rfl (fun e10 => ?_) (fun e10 => ?_)
        · refine am_lload_n dX11_averageBits_59 rfl 1 rfl ?_
          refine am_l2d dX11_averageBits_60 ?_
          refine am_lload dX11_averageBits_61 0 rfl ?_
          refine am_l2d dX11_averageBits_63 ?_
          refine am_ddiv dX11_averageBits_64 ?_
          refine am_sub (ls' := []) [] rfl ?_
          exact hj7 (FP.ddiv (FP.l2d r3.1) (FP.l2d r4.1))
        · refine am_ldc2d (v := 9221120237041090560) dX11_averageBits_53 (by decide +kernel) ?_
          refine am_goto (tgt := 65) dX11_averageBits_56 rfl ?_
          refine am_sub (ls' := []) [] rfl ?_
          exact hj7 (9221120237041090560 : UInt64)
      · refine am_ldc2 (v := -6) dX11_averageBits_42 (by decide +kernel) ?_
        exact am_lret dX11_averageBits_45 rfl rfl
  · refine am_ldc2 (v := -2) dX11_averageBits_12 (by decide +kernel) ?_
    exact am_lret dX11_averageBits_15 rfl rfl
