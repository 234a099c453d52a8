abbrev kX11_degree : am_K := (cX11_degree, 7, RX11, wsX11_degree, some .int, { frames := 7, cells := 0, slots := 0, locals := 169 })
theorem hX11_degree : am_cl yX11_degree kX11_degree 0 := ⟨⟨_, rfl⟩, rfl, rfl, by decide +kernel, by decide +kernel, by decide +kernel⟩
theorem iX11_degree_11 : ∀ w ∈ u_ws RX11 TX11 50, w ∈ wsX11_degree := by decide +kernel
theorem fX11_degree_64 : Cond.fieldLink RX11 64 "AmbiguityAnalyzerModel" "chain" "[I" ∈ wsX11_degree := by decide +kernel
theorem fX11_degree_61 : Cond.fieldLink RX11 61 "AmbiguityAnalyzerModel" "isSplit" "[Z" ∈ wsX11_degree := by decide +kernel
set_option maxRecDepth 100000 in
set_option maxHeartbeats 4000000 in
theorem vX11_degree_186 {Z : am_Z} {X : am_X} (R : am_R) (L : am_L) (a0 : Nat) (J7 : am_I) (h8 : am_G Z a0 = some (.inl 11)) (ih11 : Int32 → Int32 → Option (Int32 × am_I)) (hih11 : ∀ (v9 : Int32) (v10 : Int32), am_V Z X kX11_degree (fun r : Int32 × am_I => (some (.int r.1), R, r.2, L)) 186 [(0, .ref (am_B Z + a0)), (2, .int v9), (3, .int v10)] [] R J7 L (ih11 v9 v10)) (v9 : Int32) (v10 : Int32) : am_V Z X kX11_degree (fun r : Int32 × am_I => (some (.int r.1), R, r.2, L)) 186 [(0, .ref (am_B Z + a0)), (2, .int v9), (3, .int v10)] [] R J7 L (sX11_degree_186 R a0 J7 ih11 v9 v10) := by
  unfold sX11_degree_186
  refine am_iload_n dX11_degree_186 rfl 2 rfl ?_
  refine am_bipush (v := 36) dX11_degree_187 (by decide) ?_
  refine am_icmp_ge (tgt := 219) dX11_degree_189 rfl (fun e12 => ?_) (fun e12 => ?_)
  · refine am_iload_n dX11_degree_219 rfl 1 rfl ?_
    exact am_iret dX11_degree_220 rfl rfl
  · refine am_aload_n dX11_degree_192 rfl 0 rfl ?_
    refine am_getR 11 30 clX11 (Nat.le_of_ble_eq_true rfl) h8 iX11_degree_11 fX11_degree_64 rfl rfl dX11_degree_193 (fun h13 => ?_)
    refine am_iload_n dX11_degree_196 rfl 2 rfl ?_
    refine am_iald h13 dX11_degree_197 ?_
    refine am_iload_n dX11_degree_198 rfl 1 rfl ?_
    refine am_jnV (fun j14 ej14 => ?_)
    have hj14 : ∀ (v15 : Int32), am_V Z X kX11_degree (fun r : Int32 × am_I => (some (.int r.1), R, r.2, L)) 212 [(0, .ref (am_B Z + a0)), (3, .int v10)] [.int v15] R J7 L (j14 v15) := by
      subst ej14
      intro v15
      show am_V Z X kX11_degree (fun r : Int32 × am_I => (some (.int r.1), R, r.2, L)) 212 [(0, .ref (am_B Z + a0)), (3, .int v10)] [.int v15] R J7 L _
      refine am_istore_n (ls' := [(2, .int v15), (0, .ref (am_B Z + a0)), (3, .int v10)]) dX11_degree_212 rfl (Nat.le_of_ble_eq_true rfl) rfl ?_
      refine am_iinc (j := 2) (ls' := [(3, .int (v10 + (1 : Int32))), (2, .int v15), (0, .ref (am_B Z + a0))]) dX11_degree_213 rfl rfl (Nat.le_of_ble_eq_true rfl) rfl ?_
      refine am_goto (tgt := 186) dX11_degree_216 rfl ?_
      refine am_sub (ls' := [(0, .ref (am_B Z + a0)), (2, .int v15), (3, .int (v10 + (1 : Int32)))]) [2, 1, 0] rfl ?_
      exact hih11 v15 (v10 + (1 : Int32))
    refine am_icmp_le (tgt := 211) dX11_degree_199 rfl (fun e16 => ?_) (fun e16 => ?_)
    · refine am_iload_n dX11_degree_211 rfl 1 rfl ?_
      refine am_sub (ls' := [(0, .ref (am_B Z + a0)), (3, .int v10)]) [0, 2] rfl ?_
      exact hj14 v9
    · refine am_aload_n dX11_degree_202 rfl 0 rfl ?_
      refine am_getR 11 30 clX11 (Nat.le_of_ble_eq_true rfl) h8 iX11_degree_11 fX11_degree_64 rfl rfl dX11_degree_203 (fun h17 => ?_)
      refine am_iload_n dX11_degree_206 rfl 2 rfl ?_
      refine am_iald h17 dX11_degree_207 ?_
      refine am_goto (tgt := 212) dX11_degree_208 rfl ?_
      refine am_sub (ls' := [(0, .ref (am_B Z + a0)), (3, .int v10)]) [0, 2] rfl ?_
      exact hj14 (J7 (R a0 30) (Int32.toNatClampNeg v10))
theorem uX11_degree_186 {Z : am_Z} {X : am_X} (R : am_R) (L : am_L) (a0 : Nat) (J7 : am_I) (h8 : am_G Z a0 = some (.inl 11)) : ∀ (n : Nat) (v9 : Int32) (v10 : Int32), am_V Z X kX11_degree (fun r : Int32 × am_I => (some (.int r.1), R, r.2, L)) 186 [(0, .ref (am_B Z + a0)), (2, .int v9), (3, .int v10)] [] R J7 L (lX11_degree_186 R a0 J7 n v9 v10) := by
  intro n
  induction n with
  | zero => intro _ _; exact am_none
  | succ n ih => exact fun v9 v10 => vX11_degree_186 R L a0 J7 h8 (lX11_degree_186 R a0 J7 n) ih v9 v10
set_option maxRecDepth 100000 in
set_option maxHeartbeats 4000000 in
theorem vX11_degree_90 {Z : am_Z} {X : am_X} (R : am_R) (L : am_L) (a0 : Nat) (v19 : Int32) (v26 : Int32) (r30 : Int32) (h33 : am_G Z a0 = some (.inl 11)) (j31 : am_I → Option (Int32 × am_I)) (hj31 : ∀ (J32 : am_I), am_V Z X kX11_degree (fun r : Int32 × am_I => (some (.int r.1), R, r.2, L)) 172 [(0, .ref (am_B Z + a0)), (2, .int (0 : Int32)), (3, .int v19), (4, .int v26)] [] R J32 L (j31 J32)) (ih36 : Int32 → am_I → Option (Int32 × am_I)) (hih36 : ∀ (v34 : Int32) (J35 : am_I), am_V Z X kX11_degree (fun r : Int32 × am_I => (some (.int r.1), R, r.2, L)) 90 [(0, .ref (am_B Z + a0)), (2, .int (0 : Int32)), (3, .int v19), (4, .int v26), (5, .int r30), (6, .int v34)] [] R J35 L (ih36 v34 J35)) (v34 : Int32) (J35 : am_I) : am_V Z X kX11_degree (fun r : Int32 × am_I => (some (.int r.1), R, r.2, L)) 90 [(0, .ref (am_B Z + a0)), (2, .int (0 : Int32)), (3, .int v19), (4, .int v26), (5, .int r30), (6, .int v34)] [] R J35 L (sX11_degree_90 R a0 v19 v26 r30 j31 ih36 v34 J35) := by
  unfold sX11_degree_90
  refine am_iload dX11_degree_90 5 rfl ?_
  refine am_bipush (v := 36) dX11_degree_92 (by decide) ?_
  refine am_icmp_ge (tgt := 172) dX11_degree_94 rfl (fun e37 => ?_) (fun e37 => ?_)
  · refine am_sub (ls' := [(0, .ref (am_B Z + a0)), (2, .int (0 : Int32)), (3, .int v19), (4, .int v26)]) [0, 1, 2, 3] rfl ?_
    exact hj31 J35
  · refine am_aload_n dX11_degree_97 rfl 0 rfl ?_
    refine am_getR 11 26 clX11 (Nat.le_of_ble_eq_true rfl) h33 iX11_degree_11 fX11_degree_61 rfl rfl dX11_degree_98 (fun h38 => ?_)
    refine am_iload dX11_degree_101 3 rfl ?_
    refine am_zald h38 dX11_degree_103 ?_
    refine am_if_eq (tgt := 172) dX11_degree_104 rfl (fun e39 => ?_) (fun e39 => ?_)
    · refine am_sub (ls' := [(0, .ref (am_B Z + a0)), (2, .int (0 : Int32)), (3, .int v19), (4, .int v26)]) [0, 1, 2, 3] rfl ?_
      exact hj31 J35
    · refine am_aload_n dX11_degree_107 rfl 0 rfl ?_
      refine am_getR 11 26 clX11 (Nat.le_of_ble_eq_true rfl) h33 iX11_degree_11 fX11_degree_61 rfl rfl dX11_degree_108 (fun h40 => ?_)
      refine am_iload dX11_degree_111 5 rfl ?_
      refine am_zald h40 dX11_degree_113 ?_
      refine am_jnV (fun j41 ej41 => ?_)
      have hj41 : ∀ (J42 : am_I), am_V Z X kX11_degree (fun r : Int32 × am_I => (some (.int r.1), R, r.2, L)) 166 [(0, .ref (am_B Z + a0)), (2, .int (0 : Int32)), (3, .int v19), (4, .int v26), (5, .int r30), (6, .int v34)] [] R J42 L (j41 J42) := by
        subst ej41
        intro J42
        show am_V Z X kX11_degree (fun r : Int32 × am_I => (some (.int r.1), R, r.2, L)) 166 [(0, .ref (am_B Z + a0)), (2, .int (0 : Int32)), (3, .int v19), (4, .int v26), (5, .int r30), (6, .int v34)] [] R J42 L _
        refine am_iinc (j := 5) (ls' := [(6, .int (v34 + (1 : Int32))), (0, .ref (am_B Z + a0)), (2, .int (0 : Int32)), (3, .int v19), (4, .int v26), (5, .int r30)]) dX11_degree_166 rfl rfl (Nat.le_of_ble_eq_true rfl) rfl ?_
        refine am_goto (tgt := 90) dX11_degree_169 rfl ?_
        refine am_sub (ls' := [(0, .ref (am_B Z + a0)), (2, .int (0 : Int32)), (3, .int v19), (4, .int v26), (5, .int r30), (6, .int (v34 + (1 : Int32)))]) [1, 2, 3, 4, 5, 0] rfl ?_
        exact hih36 (v34 + (1 : Int32)) J42
      refine am_if_eq (tgt := 166) dX11_degree_114 rfl (fun e43 => ?_) (fun e43 => ?_)
      · exact hj41 J35
      · refine am_iload dX11_degree_117 4 rfl ?_
        refine am_i2l dX11_degree_119 ?_
        refine am_iload dX11_degree_120 5 rfl ?_
        refine am_bipush (v := 6) dX11_degree_122 (by decide) ?_
        refine am_idivC dX11_degree_124 (by decide) ?_
        refine am_callS [.long (Int32.toInt64 r30), .int (v34 / (6 : Int32))] (tX11_has R J35 L (Int32.toInt64 r30) (v34 / (6 : Int32))) gX11_degree_X11_has hX11_has ⟨Nat.le_of_ble_eq_true rfl, Nat.le_of_ble_eq_true rfl⟩ rfl rfl (Nat.le_of_ble_eq_true rfl) dX11_degree_125 (fun r44 => ?_)
        show am_V Z X kX11_degree (fun r : Int32 × am_I => (some (.int r.1), R, r.2, L)) 128 [(0, .ref (am_B Z + a0)), (2, .int (0 : Int32)), (3, .int v19), (4, .int v26), (5, .int r30), (6, .int v34)] [.int r44] R J35 L _
        refine am_if_eq (tgt := 166) dX11_degree_128 rfl (fun e45 => ?_) (fun e45 => ?_)
        · exact hj41 J35
        · refine am_aload_n dX11_degree_131 rfl 0 rfl ?_
          refine am_getR 11 30 clX11 (Nat.le_of_ble_eq_true rfl) h33 iX11_degree_11 fX11_degree_64 rfl rfl dX11_degree_132 (fun h46 => ?_)
          refine am_iload dX11_degree_135 3 rfl ?_
          refine am_iald h46 dX11_degree_137 ?_
          refine am_iconst (v := 1) dX11_degree_138 (by decide) ?_
          refine am_iadd dX11_degree_139 ?_
          refine am_aload_n dX11_degree_140 rfl 0 rfl ?_
          refine am_getR 11 30 clX11 (Nat.le_of_ble_eq_true rfl) h33 iX11_degree_11 fX11_degree_64 rfl rfl dX11_degree_141 (fun h47 => ?_)
          refine am_iload dX11_degree_144 5 rfl ?_
          refine am_iald h47 dX11_degree_146 ?_
          refine am_icmp_le (tgt := 166) dX11_degree_147 rfl (fun e48 => ?_) (fun e48 => ?_)
          · exact hj41 J35
          · refine am_aload_n dX11_degree_150 rfl 0 rfl ?_
            refine am_getR 11 30 clX11 (Nat.le_of_ble_eq_true rfl) h33 iX11_degree_11 fX11_degree_64 rfl rfl dX11_degree_151 (fun h49 => ?_)
            refine am_iload dX11_degree_154 5 rfl ?_
            refine am_aload_n dX11_degree_156 rfl 0 rfl ?_
            refine am_getR 11 30 clX11 (Nat.le_of_ble_eq_true rfl) h33 iX11_degree_11 fX11_degree_64 rfl rfl dX11_degree_157 (fun h50 => ?_)
            refine am_iload dX11_degree_160 3 rfl ?_
            refine am_iald h50 dX11_degree_162 ?_
            refine am_iconst (v := 1) dX11_degree_163 (by decide) ?_
            refine am_iadd dX11_degree_164 ?_
            refine am_iast h49 dX11_degree_165 ?_
            refine am_letI (fun J51 => ?_)
            exact hj41 J51
theorem uX11_degree_90 {Z : am_Z} {X : am_X} (R : am_R) (L : am_L) (a0 : Nat) (v19 : Int32) (v26 : Int32) (r30 : Int32) (h33 : am_G Z a0 = some (.inl 11)) (j31 : am_I → Option (Int32 × am_I)) (hj31 : ∀ (J32 : am_I), am_V Z X kX11_degree (fun r : Int32 × am_I => (some (.int r.1), R, r.2, L)) 172 [(0, .ref (am_B Z + a0)), (2, .int (0 : Int32)), (3, .int v19), (4, .int v26)] [] R J32 L (j31 J32)) : ∀ (n : Nat) (v34 : Int32) (J35 : am_I), am_V Z X kX11_degree (fun r : Int32 × am_I => (some (.int r.1), R, r.2, L)) 90 [(0, .ref (am_B Z + a0)), (2, .int (0 : Int32)), (3, .int v19), (4, .int v26), (5, .int r30), (6, .int v34)] [] R J35 L (lX11_degree_90 R a0 v19 v26 r30 j31 n v34 J35) := by
  intro n
  induction n with
  | zero => intro _ _; exact am_none
  | succ n ih => exact fun v34 J35 => vX11_degree_90 R L a0 v19 v26 r30 h33 j31 hj31 (lX11_degree_90 R a0 v19 v26 r30 j31 n) ih v34 J35
set_option maxRecDepth 100000 in
set_option maxHeartbeats 4000000 in
theorem vX11_degree_67 {Z : am_Z} {X : am_X} (R : am_R) (L : am_L) (a0 : Nat) (v19 : Int32) (h25 : am_G Z a0 = some (.inl 11)) (j23 : am_I → Option (Int32 × am_I)) (hj23 : ∀ (J24 : am_I), am_V Z X kX11_degree (fun r : Int32 × am_I => (some (.int r.1), R, r.2, L)) 178 [(0, .ref (am_B Z + a0)), (2, .int (0 : Int32)), (3, .int v19)] [] R J24 L (j23 J24)) (ih28 : Int32 → am_I → Option (Int32 × am_I)) (hih28 : ∀ (v26 : Int32) (J27 : am_I), am_V Z X kX11_degree (fun r : Int32 × am_I => (some (.int r.1), R, r.2, L)) 67 [(0, .ref (am_B Z + a0)), (2, .int (0 : Int32)), (3, .int v19), (4, .int v26)] [] R J27 L (ih28 v26 J27)) (v26 : Int32) (J27 : am_I) : am_V Z X kX11_degree (fun r : Int32 × am_I => (some (.int r.1), R, r.2, L)) 67 [(0, .ref (am_B Z + a0)), (2, .int (0 : Int32)), (3, .int v19), (4, .int v26)] [] R J27 L (sX11_degree_67 R a0 v19 j23 ih28 v26 J27) := by
  unfold sX11_degree_67
  refine am_iload dX11_degree_67 3 rfl ?_
  refine am_bipush (v := 36) dX11_degree_69 (by decide) ?_
  refine am_icmp_ge (tgt := 178) dX11_degree_71 rfl (fun e29 => ?_) (fun e29 => ?_)
  · refine am_sub (ls' := [(0, .ref (am_B Z + a0)), (2, .int (0 : Int32)), (3, .int v19)]) [0, 1, 2] rfl ?_
    exact hj23 J27
  · refine am_aload_n dX11_degree_74 rfl 0 rfl ?_
    refine am_iconst (v := 1) dX11_degree_75 (by decide) ?_
    refine am_iload dX11_degree_76 3 rfl ?_
    refine am_bipush (v := 6) dX11_degree_78 (by decide) ?_
    refine am_iremC dX11_degree_80 (by decide) ?_
    refine am_ishl dX11_degree_81 ?_
    refine am_callV [.int ((1 : Int32) <<< ((v26 - v26 / (6 : Int32) * (6 : Int32)) &&& 31))] (tX11_reachedFrom R J27 L a0 ((1 : Int32) <<< ((v26 - v26 / (6 : Int32) * (6 : Int32)) &&& 31)) h25) h25 clX11 gX11_degree_X11_reachedFrom hX11_reachedFrom rfl ⟨Nat.le_of_ble_eq_true rfl, Nat.le_of_ble_eq_true rfl⟩ rfl rfl (Nat.le_of_ble_eq_true rfl) dX11_degree_82 (fun r30 => ?_)
    show am_V Z X kX11_degree (fun r : Int32 × am_I => (some (.int r.1), R, r.2, L)) 85 [(0, .ref (am_B Z + a0)), (2, .int (0 : Int32)), (3, .int v19), (4, .int v26)] [.int r30] R J27 L _
    refine am_istore (ls' := [(5, .int r30), (0, .ref (am_B Z + a0)), (2, .int (0 : Int32)), (3, .int v19), (4, .int v26)]) dX11_degree_85 (Nat.le_of_ble_eq_true rfl) rfl ?_
    refine am_iconst (v := 0) dX11_degree_87 (by decide) ?_
    refine am_istore (ls' := [(6, .int (0 : Int32)), (5, .int r30), (0, .ref (am_B Z + a0)), (2, .int (0 : Int32)), (3, .int v19), (4, .int v26)]) dX11_degree_88 (Nat.le_of_ble_eq_true rfl) rfl ?_
    refine am_jnV (fun j31 ej31 => ?_)
    have hj31 : ∀ (J32 : am_I), am_V Z X kX11_degree (fun r : Int32 × am_I => (some (.int r.1), R, r.2, L)) 172 [(0, .ref (am_B Z + a0)), (2, .int (0 : Int32)), (3, .int v19), (4, .int v26)] [] R J32 L (j31 J32) := by
      subst ej31
      intro J32
      show am_V Z X kX11_degree (fun r : Int32 × am_I => (some (.int r.1), R, r.2, L)) 172 [(0, .ref (am_B Z + a0)), (2, .int (0 : Int32)), (3, .int v19), (4, .int v26)] [] R J32 L _
      refine am_iinc (j := 3) (ls' := [(4, .int (v26 + (1 : Int32))), (0, .ref (am_B Z + a0)), (2, .int (0 : Int32)), (3, .int v19)]) dX11_degree_172 rfl rfl (Nat.le_of_ble_eq_true rfl) rfl ?_
      refine am_goto (tgt := 67) dX11_degree_175 rfl ?_
      refine am_sub (ls' := [(0, .ref (am_B Z + a0)), (2, .int (0 : Int32)), (3, .int v19), (4, .int (v26 + (1 : Int32)))]) [1, 2, 3, 0] rfl ?_
      exact hih28 (v26 + (1 : Int32)) J32
    refine am_sub (ls' := [(0, .ref (am_B Z + a0)), (2, .int (0 : Int32)), (3, .int v19), (4, .int v26), (5, .int r30), (6, .int (0 : Int32))]) [2, 3, 4, 5, 1, 0] rfl ?_
    exact uX11_degree_90 R L a0 v19 v26 r30 h25 j31 hj31 am_fu (0 : Int32) J27
theorem uX11_degree_67 {Z : am_Z} {X : am_X} (R : am_R) (L : am_L) (a0 : Nat) (v19 : Int32) (h25 : am_G Z a0 = some (.inl 11)) (j23 : am_I → Option (Int32 × am_I)) (hj23 : ∀ (J24 : am_I), am_V Z X kX11_degree (fun r : Int32 × am_I => (some (.int r.1), R, r.2, L)) 178 [(0, .ref (am_B Z + a0)), (2, .int (0 : Int32)), (3, .int v19)] [] R J24 L (j23 J24)) : ∀ (n : Nat) (v26 : Int32) (J27 : am_I), am_V Z X kX11_degree (fun r : Int32 × am_I => (some (.int r.1), R, r.2, L)) 67 [(0, .ref (am_B Z + a0)), (2, .int (0 : Int32)), (3, .int v19), (4, .int v26)] [] R J27 L (lX11_degree_67 R a0 v19 j23 n v26 J27) := by
  intro n
  induction n with
  | zero => intro _ _; exact am_none
  | succ n ih => exact fun v26 J27 => vX11_degree_67 R L a0 v19 h25 j23 hj23 (lX11_degree_67 R a0 v19 j23 n) ih v26 J27
set_option maxRecDepth 100000 in
set_option maxHeartbeats 4000000 in
theorem vX11_degree_58 {Z : am_Z} {X : am_X} (R : am_R) (L : am_L) (a0 : Nat) (h18 : am_G Z a0 = some (.inl 11)) (j6 : am_I → Option (Int32 × am_I)) (hj6 : ∀ (J7 : am_I), am_V Z X kX11_degree (fun r : Int32 × am_I => (some (.int r.1), R, r.2, L)) 184 [(0, .ref (am_B Z + a0)), (2, .int (0 : Int32))] [] R J7 L (j6 J7)) (ih21 : Int32 → am_I → Option (Int32 × am_I)) (hih21 : ∀ (v19 : Int32) (J20 : am_I), am_V Z X kX11_degree (fun r : Int32 × am_I => (some (.int r.1), R, r.2, L)) 58 [(0, .ref (am_B Z + a0)), (2, .int (0 : Int32)), (3, .int v19)] [] R J20 L (ih21 v19 J20)) (v19 : Int32) (J20 : am_I) : am_V Z X kX11_degree (fun r : Int32 × am_I => (some (.int r.1), R, r.2, L)) 58 [(0, .ref (am_B Z + a0)), (2, .int (0 : Int32)), (3, .int v19)] [] R J20 L (sX11_degree_58 R a0 j6 ih21 v19 J20) := by
  unfold sX11_degree_58
  refine am_iload_n dX11_degree_58 rfl 2 rfl ?_
  refine am_bipush (v := 36) dX11_degree_59 (by decide) ?_
  refine am_icmp_ge (tgt := 184) dX11_degree_61 rfl (fun e22 => ?_) (fun e22 => ?_)
  · refine am_sub (ls' := [(0, .ref (am_B Z + a0)), (2, .int (0 : Int32))]) [0, 1] rfl ?_
    exact hj6 J20
  · refine am_iconst (v := 0) dX11_degree_64 (by decide) ?_
    refine am_istore (ls' := [(4, .int (0 : Int32)), (0, .ref (am_B Z + a0)), (2, .int (0 : Int32)), (3, .int v19)]) dX11_degree_65 (Nat.le_of_ble_eq_true rfl) rfl ?_
    refine am_jnV (fun j23 ej23 => ?_)
    have hj23 : ∀ (J24 : am_I), am_V Z X kX11_degree (fun r : Int32 × am_I => (some (.int r.1), R, r.2, L)) 178 [(0, .ref (am_B Z + a0)), (2, .int (0 : Int32)), (3, .int v19)] [] R J24 L (j23 J24) := by
      subst ej23
      intro J24
      show am_V Z X kX11_degree (fun r : Int32 × am_I => (some (.int r.1), R, r.2, L)) 178 [(0, .ref (am_B Z + a0)), (2, .int (0 : Int32)), (3, .int v19)] [] R J24 L _
      refine am_iinc (j := 2) (ls' := [(3, .int (v19 + (1 : Int32))), (0, .ref (am_B Z + a0)), (2, .int (0 : Int32))]) dX11_degree_178 rfl rfl (Nat.le_of_ble_eq_true rfl) rfl ?_
      refine am_goto (tgt := 58) dX11_degree_181 rfl ?_
      refine am_sub (ls' := [(0, .ref (am_B Z + a0)), (2, .int (0 : Int32)), (3, .int (v19 + (1 : Int32)))]) [1, 2, 0] rfl ?_
      exact hih21 (v19 + (1 : Int32)) J24
    refine am_sub (ls' := [(0, .ref (am_B Z + a0)), (2, .int (0 : Int32)), (3, .int v19), (4, .int (0 : Int32))]) [1, 2, 3, 0] rfl ?_
    exact uX11_degree_67 R L a0 v19 h18 j23 hj23 am_fu (0 : Int32) J20
theorem uX11_degree_58 {Z : am_Z} {X : am_X} (R : am_R) (L : am_L) (a0 : Nat) (h18 : am_G Z a0 = some (.inl 11)) (j6 : am_I → Option (Int32 × am_I)) (hj6 : ∀ (J7 : am_I), am_V Z X kX11_degree (fun r : Int32 × am_I => (some (.int r.1), R, r.2, L)) 184 [(0, .ref (am_B Z + a0)), (2, .int (0 : Int32))] [] R J7 L (j6 J7)) : ∀ (n : Nat) (v19 : Int32) (J20 : am_I), am_V Z X kX11_degree (fun r : Int32 × am_I => (some (.int r.1), R, r.2, L)) 58 [(0, .ref (am_B Z + a0)), (2, .int (0 : Int32)), (3, .int v19)] [] R J20 L (lX11_degree_58 R a0 j6 n v19 J20) := by
  intro n
  induction n with
  | zero => intro _ _; exact am_none
  | succ n ih => exact fun v19 J20 => vX11_degree_58 R L a0 h18 j6 hj6 (lX11_degree_58 R a0 j6 n) ih v19 J20
set_option maxRecDepth 100000 in
set_option maxHeartbeats 4000000 in
theorem vX11_degree_24 {Z : am_Z} {X : am_X} (R : am_R) (L : am_L) (a0 : Nat) (h52 : am_G Z a0 = some (.inl 11)) (j4 : am_I → Option (Int32 × am_I)) (hj4 : ∀ (J5 : am_I), am_V Z X kX11_degree (fun r : Int32 × am_I => (some (.int r.1), R, r.2, L)) 56 [(0, .ref (am_B Z + a0)), (2, .int (0 : Int32))] [] R J5 L (j4 J5)) (ih55 : Int32 → am_I → Option (Int32 × am_I)) (hih55 : ∀ (v53 : Int32) (J54 : am_I), am_V Z X kX11_degree (fun r : Int32 × am_I => (some (.int r.1), R, r.2, L)) 24 [(0, .ref (am_B Z + a0)), (2, .int (0 : Int32)), (3, .int v53)] [] R J54 L (ih55 v53 J54)) (v53 : Int32) (J54 : am_I) : am_V Z X kX11_degree (fun r : Int32 × am_I => (some (.int r.1), R, r.2, L)) 24 [(0, .ref (am_B Z + a0)), (2, .int (0 : Int32)), (3, .int v53)] [] R J54 L (sX11_degree_24 R a0 j4 ih55 v53 J54) := by
  unfold sX11_degree_24
  refine am_iload_n dX11_degree_24 rfl 2 rfl ?_
  refine am_bipush (v := 36) dX11_degree_25 (by decide) ?_
  refine am_icmp_ge (tgt := 56) dX11_degree_27 rfl (fun e56 => ?_) (fun e56 => ?_)
  · refine am_sub (ls' := [(0, .ref (am_B Z + a0)), (2, .int (0 : Int32))]) [0, 1] rfl ?_
    exact hj4 J54
  · refine am_aload_n dX11_degree_30 rfl 0 rfl ?_
    refine am_getR 11 30 clX11 (Nat.le_of_ble_eq_true rfl) h52 iX11_degree_11 fX11_degree_64 rfl rfl dX11_degree_31 (fun h57 => ?_)
    refine am_iload_n dX11_degree_34 rfl 2 rfl ?_
    refine am_aload_n dX11_degree_35 rfl 0 rfl ?_
    refine am_getR 11 26 clX11 (Nat.le_of_ble_eq_true rfl) h52 iX11_degree_11 fX11_degree_61 rfl rfl dX11_degree_36 (fun h58 => ?_)
    refine am_iload_n dX11_degree_39 rfl 2 rfl ?_
    refine am_zald h58 dX11_degree_40 ?_
    refine am_letJ (fun k60 ek60 => ?_)
    have hk60 : ∀ v59 : Int32, am_V Z X kX11_degree (fun r : Int32 × am_I => (some (.int r.1), R, r.2, L)) 49 [(0, .ref (am_B Z + a0)), (2, .int (0 : Int32)), (3, .int v53)] [.int v59, .int v53, .ref (am_B Z + (R a0 30))] R J54 L (k60 v59) := by
      subst ek60
      intro v59
      show am_V Z X kX11_degree (fun r : Int32 × am_I => (some (.int r.1), R, r.2, L)) 49 [(0, .ref (am_B Z + a0)), (2, .int (0 : Int32)), (3, .int v53)] [.int v59, .int v53, .ref (am_B Z + (R a0 30))] R J54 L _
      refine am_iast h57 dX11_degree_49 ?_
      refine am_letI (fun J61 => ?_)
      refine am_iinc (j := 2) (ls' := [(3, .int (v53 + (1 : Int32))), (0, .ref (am_B Z + a0)), (2, .int (0 : Int32))]) dX11_degree_50 rfl rfl (Nat.le_of_ble_eq_true rfl) rfl ?_
      refine am_goto (tgt := 24) dX11_degree_53 rfl ?_
      refine am_sub (ls' := [(0, .ref (am_B Z + a0)), (2, .int (0 : Int32)), (3, .int (v53 + (1 : Int32)))]) [1, 2, 0] rfl ?_
      exact hih55 (v53 + (1 : Int32)) J61
    refine am_if_eqL (tgt := 48) dX11_degree_41 rfl (fun e62 => ?_) (fun e62 => ?_)
    · refine am_iconst (v := 0) dX11_degree_48 (by decide) ?_
      exact hk60 _
    · refine am_iconst (v := 1) dX11_degree_44 (by decide) ?_
      refine am_goto (tgt := 49) dX11_degree_45 rfl ?_
      exact hk60 _
theorem uX11_degree_24 {Z : am_Z} {X : am_X} (R : am_R) (L : am_L) (a0 : Nat) (h52 : am_G Z a0 = some (.inl 11)) (j4 : am_I → Option (Int32 × am_I)) (hj4 : ∀ (J5 : am_I), am_V Z X kX11_degree (fun r : Int32 × am_I => (some (.int r.1), R, r.2, L)) 56 [(0, .ref (am_B Z + a0)), (2, .int (0 : Int32))] [] R J5 L (j4 J5)) : ∀ (n : Nat) (v53 : Int32) (J54 : am_I), am_V Z X kX11_degree (fun r : Int32 × am_I => (some (.int r.1), R, r.2, L)) 24 [(0, .ref (am_B Z + a0)), (2, .int (0 : Int32)), (3, .int v53)] [] R J54 L (lX11_degree_24 R a0 j4 n v53 J54) := by
  intro n
  induction n with
  | zero => intro _ _; exact am_none
  | succ n ih => exact fun v53 J54 => vX11_degree_24 R L a0 h52 j4 hj4 (lX11_degree_24 R a0 j4 n) ih v53 J54
set_option maxRecDepth 100000 in
set_option maxHeartbeats 4000000 in
theorem tX11_degree {Z : am_Z} (R : am_R) (I : am_I) (L : am_L) (a0 : Nat) (h_a0 : am_G Z a0 = some (.inl 11)) : am_M Z yX11_degree kX11_degree [.ref (am_B Z + a0)] R I L (pX11_degree R I a0) (fun r : Int32 × am_I => (some (.int r.1), R, r.2, L)) := by
  refine am_entry (ls := [(0, .ref (am_B Z + a0))]) (by decide) hX11_degree rfl (Nat.le_of_ble_eq_true rfl) rfl (fun X => ?_)
  unfold pX11_degree
  refine am_aload_n dX11_degree_0 rfl 0 rfl ?_
  refine am_callV [] (tX11_kindOf R I L a0 h_a0) h_a0 clX11 gX11_degree_X11_kindOf hX11_kindOf rfl ⟨Nat.le_of_ble_eq_true rfl, Nat.le_of_ble_eq_true rfl⟩ rfl rfl (Nat.le_of_ble_eq_true rfl) dX11_degree_1 (fun r1 => ?_)
  show am_V Z X kX11_degree (fun r : Int32 × am_I => (some (.int r.1), R, r.2, L)) 4 [(0, .ref (am_B Z + a0))] [.int r1.1] R r1.2 L _
  refine am_istore_n (ls' := [(1, .int r1.1), (0, .ref (am_B Z + a0))]) dX11_degree_4 rfl (Nat.le_of_ble_eq_true rfl) rfl ?_
  refine am_iload_n dX11_degree_5 rfl 0 rfl ?_
  refine am_iconst (v := 3) dX11_degree_6 (by decide) ?_
  refine am_icmp_ne (tgt := 13) dX11_degree_7 rfl (fun e2 => ?_) (fun e2 => ?_)
  · refine am_iload_n dX11_degree_13 rfl 0 rfl ?_
    refine am_iconst (v := 2) dX11_degree_14 (by decide) ?_
    refine am_icmp_ge (tgt := 20) dX11_degree_15 rfl (fun e3 => ?_) (fun e3 => ?_)
    · refine am_iconst (v := 0) dX11_degree_20 (by decide) ?_
      refine am_istore_n (ls' := [(2, .int (0 : Int32)), (1, .int r1.1), (0, .ref (am_B Z + a0))]) dX11_degree_21 rfl (Nat.le_of_ble_eq_true rfl) rfl ?_
      refine am_iconst (v := 0) dX11_degree_22 (by decide) ?_
      refine am_istore_n (ls' := [(3, .int (0 : Int32)), (2, .int (0 : Int32)), (1, .int r1.1), (0, .ref (am_B Z + a0))]) dX11_degree_23 rfl (Nat.le_of_ble_eq_true rfl) rfl ?_
      refine am_jnV (fun j4 ej4 => ?_)
      have hj4 : ∀ (J5 : am_I), am_V Z X kX11_degree (fun r : Int32 × am_I => (some (.int r.1), R, r.2, L)) 56 [(0, .ref (am_B Z + a0)), (2, .int (0 : Int32))] [] R J5 L (j4 J5) := by
        subst ej4
        intro J5
        show am_V Z X kX11_degree (fun r : Int32 × am_I => (some (.int r.1), R, r.2, L)) 56 [(0, .ref (am_B Z + a0)), (2, .int (0 : Int32))] [] R J5 L _
        refine am_iconst (v := 0) dX11_degree_56 (by decide) ?_
        refine am_istore_n (ls' := [(3, .int (0 : Int32)), (0, .ref (am_B Z + a0)), (2, .int (0 : Int32))]) dX11_degree_57 rfl (Nat.le_of_ble_eq_true rfl) rfl ?_
        refine am_jnV (fun j6 ej6 => ?_)
        have hj6 : ∀ (J7 : am_I), am_V Z X kX11_degree (fun r : Int32 × am_I => (some (.int r.1), R, r.2, L)) 184 [(0, .ref (am_B Z + a0)), (2, .int (0 : Int32))] [] R J7 L (j6 J7) := by
          subst ej6
          intro J7
          show am_V Z X kX11_degree (fun r : Int32 × am_I => (some (.int r.1), R, r.2, L)) 184 [(0, .ref (am_B Z + a0)), (2, .int (0 : Int32))] [] R J7 L _
          refine am_iconst (v := 0) dX11_degree_184 (by decide) ?_
          refine am_istore_n (ls' := [(3, .int (0 : Int32)), (0, .ref (am_B Z + a0)), (2, .int (0 : Int32))]) dX11_degree_185 rfl (Nat.le_of_ble_eq_true rfl) rfl ?_
          refine am_sub (ls' := [(0, .ref (am_B Z + a0)), (2, .int (0 : Int32)), (3, .int (0 : Int32))]) [1, 2, 0] rfl ?_
          exact uX11_degree_186 R L a0 J7 h_a0 am_fu (0 : Int32) (0 : Int32)
        refine am_sub (ls' := [(0, .ref (am_B Z + a0)), (2, .int (0 : Int32)), (3, .int (0 : Int32))]) [1, 2, 0] rfl ?_
        exact uX11_degree_58 R L a0 h_a0 j6 hj6 am_fu (0 : Int32) J5
      refine am_sub (ls' := [(0, .ref (am_B Z + a0)), (2, .int (0 : Int32)), (3, .int (0 : Int32))]) [3, 1, 0] rfl ?_
      exact uX11_degree_24 R L a0 h_a0 j4 hj4 am_fu (0 : Int32) r1.2
    · refine am_iconst (v := 0) dX11_degree_18 (by decide) ?_
      exact am_iret dX11_degree_19 rfl rfl
  · refine am_bipush (v := -4) dX11_degree_10 (by decide) ?_
    exact am_iret dX11_degree_12 rfl rfl
abbrev kX11_isNewRow : am_K := (cX11_isNewRow, 4, RX11, wsX11_isNewRow, some .boolean, { frames := 0, cells := 0, slots := 0, locals := 0 })
theorem hX11_isNewRow : am_cl yX11_isNewRow kX11_isNewRow 1 := ⟨⟨_, rfl⟩, rfl, rfl, by decide +kernel, by decide +kernel, by decide +kernel⟩
theorem iX11_isNewRow_11 : ∀ w ∈ u_ws RX11 TX11 50, w ∈ wsX11_isNewRow := by decide +kernel
theorem fX11_isNewRow_67 : Cond.fieldLink RX11 67 "AmbiguityAnalyzerModel" "rows" "[J" ∈ wsX11_isNewRow := by decide +kernel
theorem fX11_isNewRow_70 : Cond.fieldLink RX11 70 "AmbiguityAnalyzerModel" "row" "[J" ∈ wsX11_isNewRow := by decide +kernel
set_option maxRecDepth 100000 in
set_option maxHeartbeats 4000000 in
theorem vX11_isNewRow_9 {Z : am_Z} {X : am_X} (R : am_R) (I : am_I) (L : am_L) (a0 : Nat) (x1 : Int32) (v2 : Int32) (h8 : am_G Z a0 = some (.inl 11)) (j5 : Int32 → Option (Int32)) (hj5 : ∀ (v6 : Int32), am_V Z X kX11_isNewRow (fun r : Int32 => (some (.int r), R, I, L)) 42 [(0, .ref (am_B Z + a0)), (1, .int x1), (2, .int v2), (3, .int v6)] [] R I L (j5 v6)) (ih10 : Int32 → Option (Int32)) (hih10 : ∀ (v9 : Int32), am_V Z X kX11_isNewRow (fun r : Int32 => (some (.int r), R, I, L)) 9 [(0, .ref (am_B Z + a0)), (1, .int x1), (2, .int v2), (3, .int v9)] [] R I L (ih10 v9)) (v9 : Int32) : am_V Z X kX11_isNewRow (fun r : Int32 => (some (.int r), R, I, L)) 9 [(0, .ref (am_B Z + a0)), (1, .int x1), (2, .int v2), (3, .int v9)] [] R I L (sX11_isNewRow_9 R L a0 x1 v2 j5 ih10 v9) := by
  unfold sX11_isNewRow_9
  refine am_iload_n dX11_isNewRow_9 rfl 3 rfl ?_
  refine am_bipush (v := 6) dX11_isNewRow_10 (by decide) ?_
  refine am_icmp_ge (tgt := 42) dX11_isNewRow_12 rfl (fun e11 => ?_) (fun e11 => ?_)
  · exact hj5 v9
  · refine am_aload_n dX11_isNewRow_15 rfl 0 rfl ?_
    refine am_getR 11 31 clX11 (Nat.le_of_ble_eq_true rfl) h8 iX11_isNewRow_11 fX11_isNewRow_67 rfl rfl dX11_isNewRow_16 (fun h12 => ?_)
    refine am_bipush (v := 6) dX11_isNewRow_19 (by decide) ?_
    refine am_iload_n dX11_isNewRow_21 rfl 2 rfl ?_
    refine am_imul dX11_isNewRow_22 ?_
    refine am_iload_n dX11_isNewRow_23 rfl 3 rfl ?_
    refine am_iadd dX11_isNewRow_24 ?_
    refine am_lald h12 dX11_isNewRow_25 ?_
    refine am_aload_n dX11_isNewRow_26 rfl 0 rfl ?_
    refine am_getR 11 32 clX11 (Nat.le_of_ble_eq_true rfl) h8 iX11_isNewRow_11 fX11_isNewRow_70 rfl rfl dX11_isNewRow_27 (fun h13 => ?_)
    refine am_iload_n dX11_isNewRow_30 rfl 3 rfl ?_
    refine am_lald h13 dX11_isNewRow_31 ?_
    refine am_lcmp dX11_isNewRow_32 ?_
    refine am_if_ne (tgt := 42) dX11_isNewRow_33 rfl (fun e14 => ?_) (fun e14 => ?_)
    · exact hj5 v9
    · refine am_iinc (j := 3) (ls' := [(3, .int (v9 + (1 : Int32))), (0, .ref (am_B Z + a0)), (1, .int x1), (2, .int v2)]) dX11_isNewRow_36 rfl rfl (Nat.le_of_ble_eq_true rfl) rfl ?_
      refine am_goto (tgt := 9) dX11_isNewRow_39 rfl ?_
      refine am_sub (ls' := [(0, .ref (am_B Z + a0)), (1, .int x1), (2, .int v2), (3, .int (v9 + (1 : Int32)))]) [1, 2, 3, 0] rfl ?_
      exact hih10 (v9 + (1 : Int32))
theorem uX11_isNewRow_9 {Z : am_Z} {X : am_X} (R : am_R) (I : am_I) (L : am_L) (a0 : Nat) (x1 : Int32) (v2 : Int32) (h8 : am_G Z a0 = some (.inl 11)) (j5 : Int32 → Option (Int32)) (hj5 : ∀ (v6 : Int32), am_V Z X kX11_isNewRow (fun r : Int32 => (some (.int r), R, I, L)) 42 [(0, .ref (am_B Z + a0)), (1, .int x1), (2, .int v2), (3, .int v6)] [] R I L (j5 v6)) : ∀ (n : Nat) (v9 : Int32), am_V Z X kX11_isNewRow (fun r : Int32 => (some (.int r), R, I, L)) 9 [(0, .ref (am_B Z + a0)), (1, .int x1), (2, .int v2), (3, .int v9)] [] R I L (lX11_isNewRow_9 R L a0 x1 v2 j5 n v9) := by
  intro n
  induction n with
  | zero => intro _; exact am_none
  | succ n ih => exact fun v9 => vX11_isNewRow_9 R I L a0 x1 v2 h8 j5 hj5 (lX11_isNewRow_9 R L a0 x1 v2 j5 n) ih v9
set_option maxRecDepth 100000 in
set_option maxHeartbeats 4000000 in
theorem vX11_isNewRow_2 {Z : am_Z} {X : am_X} (R : am_R) (I : am_I) (L : am_L) (a0 : Nat) (x1 : Int32) (h1 : am_G Z a0 = some (.inl 11)) (ih3 : Int32 → Option (Int32)) (hih3 : ∀ (v2 : Int32), am_V Z X kX11_isNewRow (fun r : Int32 => (some (.int r), R, I, L)) 2 [(0, .ref (am_B Z + a0)), (1, .int x1), (2, .int v2)] [] R I L (ih3 v2)) (v2 : Int32) : am_V Z X kX11_isNewRow (fun r : Int32 => (some (.int r), R, I, L)) 2 [(0, .ref (am_B Z + a0)), (1, .int x1), (2, .int v2)] [] R I L (sX11_isNewRow_2 R L a0 x1 ih3 v2) := by
  unfold sX11_isNewRow_2
  refine am_iload_n dX11_isNewRow_2 rfl 2 rfl ?_
  refine am_iload_n dX11_isNewRow_3 rfl 1 rfl ?_
  refine am_icmp_ge (tgt := 56) dX11_isNewRow_4 rfl (fun e4 => ?_) (fun e4 => ?_)
  · refine am_iconst (v := 1) dX11_isNewRow_56 (by decide) ?_
    exact am_zret (by decide) dX11_isNewRow_57 rfl rfl
  · refine am_iconst (v := 0) dX11_isNewRow_7 (by decide) ?_
    refine am_istore_n (ls' := [(3, .int (0 : Int32)), (0, .ref (am_B Z + a0)), (1, .int x1), (2, .int v2)]) dX11_isNewRow_8 rfl (Nat.le_of_ble_eq_true rfl) rfl ?_
    refine am_jnV (fun j5 ej5 => ?_)
    have hj5 : ∀ (v6 : Int32), am_V Z X kX11_isNewRow (fun r : Int32 => (some (.int r), R, I, L)) 42 [(0, .ref (am_B Z + a0)), (1, .int x1), (2, .int v2), (3, .int v6)] [] R I L (j5 v6) := by
      subst ej5
      intro v6
      show am_V Z X kX11_isNewRow (fun r : Int32 => (some (.int r), R, I, L)) 42 [(0, .ref (am_B Z + a0)), (1, .int x1), (2, .int v2), (3, .int v6)] [] R I L _
      refine am_iload_n dX11_isNewRow_42 rfl 3 rfl ?_
      refine am_bipush (v := 6) dX11_isNewRow_43 (by decide) ?_
      refine am_icmp_ne (tgt := 50) dX11_isNewRow_45 rfl (fun e7 => ?_) (fun e7 => ?_)
      · refine am_iinc (j := 2) (ls' := [(2, .int (v2 + (1 : Int32))), (0, .ref (am_B Z + a0)), (1, .int x1), (3, .int v6)]) dX11_isNewRow_50 rfl rfl (Nat.le_of_ble_eq_true rfl) rfl ?_
        refine am_goto (tgt := 2) dX11_isNewRow_53 rfl ?_
        refine am_sub (ls' := [(0, .ref (am_B Z + a0)), (1, .int x1), (2, .int (v2 + (1 : Int32)))]) [1, 2, 0] rfl ?_
        exact hih3 (v2 + (1 : Int32))
      · refine am_iconst (v := 0) dX11_isNewRow_48 (by decide) ?_
        exact am_zret (by decide) dX11_isNewRow_49 rfl rfl
    refine am_sub (ls' := [(0, .ref (am_B Z + a0)), (1, .int x1), (2, .int v2), (3, .int (0 : Int32))]) [1, 2, 3, 0] rfl ?_
    exact uX11_isNewRow_9 R I L a0 x1 v2 h1 j5 hj5 am_fu (0 : Int32)
theorem uX11_isNewRow_2 {Z : am_Z} {X : am_X} (R : am_R) (I : am_I) (L : am_L) (a0 : Nat) (x1 : Int32) (h1 : am_G Z a0 = some (.inl 11)) : ∀ (n : Nat) (v2 : Int32), am_V Z X kX11_isNewRow (fun r : Int32 => (some (.int r), R, I, L)) 2 [(0, .ref (am_B Z + a0)), (1, .int x1), (2, .int v2)] [] R I L (lX11_isNewRow_2 R L a0 x1 n v2) := by
  intro n
  induction n with
  | zero => intro _; exact am_none
  | succ n ih => exact fun v2 => vX11_isNewRow_2 R I L a0 x1 h1 (lX11_isNewRow_2 R L a0 x1 n) ih v2
set_option maxRecDepth 100000 in
set_option maxHeartbeats 4000000 in
theorem tX11_isNewRow {Z : am_Z} (R : am_R) (I : am_I) (L : am_L) (a0 : Nat) (x1 : Int32) (h_a0 : am_G Z a0 = some (.inl 11)) : am_M Z yX11_isNewRow kX11_isNewRow [.ref (am_B Z + a0), .int x1] R I L (pX11_isNewRow R L a0 x1) (fun r : Int32 => (some (.int r), R, I, L)) := by
  refine am_entry (ls := [(0, .ref (am_B Z + a0)), (1, .int x1)]) (by decide) hX11_isNewRow rfl (Nat.le_of_ble_eq_true rfl) rfl (fun X => ?_)
  unfold pX11_isNewRow
  refine am_iconst (v := 0) dX11_isNewRow_0 (by decide) ?_
  refine am_istore_n (ls' := [(2, .int (0 : Int32)), (0, .ref (am_B Z + a0)), (1, .int x1)]) dX11_isNewRow_1 rfl (Nat.le_of_ble_eq_true rfl) rfl ?_
  refine am_sub (ls' := [(0, .ref (am_B Z + a0)), (1, .int x1), (2, .int (0 : Int32))]) [1, 2, 0] rfl ?_
  exact uX11_isNewRow_2 R I L a0 x1 h_a0 am_fu (0 : Int32)
abbrev kX11_addRow : am_K := (cX11_addRow, 3, RX11, wsX11_addRow, none, { frames := 0, cells := 0, slots := 0, locals := 0 })
theorem hX11_addRow : am_cl yX11_addRow kX11_addRow 1 := ⟨⟨_, rfl⟩, rfl, rfl, by decide +kernel, by decide +kernel, by decide +kernel⟩
theorem iX11_addRow_11 : ∀ w ∈ u_ws RX11 TX11 50, w ∈ wsX11_addRow := by decide +kernel
theorem fX11_addRow_67 : Cond.fieldLink RX11 67 "AmbiguityAnalyzerModel" "rows" "[J" ∈ wsX11_addRow := by decide +kernel
theorem fX11_addRow_70 : Cond.fieldLink RX11 70 "AmbiguityAnalyzerModel" "row" "[J" ∈ wsX11_addRow := by decide +kernel
set_option maxRecDepth 100000 in
set_option maxHeartbeats 4000000 in
theorem vX11_addRow_2 {Z : am_Z} {X : am_X} (R : am_R) (I : am_I) (a0 : Nat) (x1 : Int32) (h1 : am_G Z a0 = some (.inl 11)) (ih4 : Int32 → am_L → Option (am_L)) (hih4 : ∀ (v2 : Int32) (J3 : am_L), am_V Z X kX11_addRow (fun r : am_L => (none, R, I, r)) 2 [(0, .ref (am_B Z + a0)), (1, .int x1), (2, .int v2)] [] R I J3 (ih4 v2 J3)) (v2 : Int32) (J3 : am_L) : am_V Z X kX11_addRow (fun r : am_L => (none, R, I, r)) 2 [(0, .ref (am_B Z + a0)), (1, .int x1), (2, .int v2)] [] R I J3 (sX11_addRow_2 R a0 x1 ih4 v2 J3) := by
  unfold sX11_addRow_2
  refine am_iload_n dX11_addRow_2 rfl 2 rfl ?_
  refine am_bipush (v := 6) dX11_addRow_3 (by decide) ?_
  refine am_icmp_ge (tgt := 31) dX11_addRow_5 rfl (fun e5 => ?_) (fun e5 => ?_)
  · exact am_vret dX11_addRow_31 rfl rfl
  · refine am_aload_n dX11_addRow_8 rfl 0 rfl ?_
    refine am_getR 11 31 clX11 (Nat.le_of_ble_eq_true rfl) h1 iX11_addRow_11 fX11_addRow_67 rfl rfl dX11_addRow_9 (fun h6 => ?_)
    refine am_bipush (v := 6) dX11_addRow_12 (by decide) ?_
    refine am_iload_n dX11_addRow_14 rfl 1 rfl ?_
    refine am_imul dX11_addRow_15 ?_
    refine am_iload_n dX11_addRow_16 rfl 2 rfl ?_
    refine am_iadd dX11_addRow_17 ?_
    refine am_aload_n dX11_addRow_18 rfl 0 rfl ?_
    refine am_getR 11 32 clX11 (Nat.le_of_ble_eq_true rfl) h1 iX11_addRow_11 fX11_addRow_70 rfl rfl dX11_addRow_19 (fun h7 => ?_)
    refine am_iload_n dX11_addRow_22 rfl 2 rfl ?_
    refine am_lald h7 dX11_addRow_23 ?_
    refine am_last h6 dX11_addRow_24 ?_
    refine am_letL (fun J8 => ?_)
    refine am_iinc (j := 2) (ls' := [(2, .int (v2 + (1 : Int32))), (0, .ref (am_B Z + a0)), (1, .int x1)]) dX11_addRow_25 rfl rfl (Nat.le_of_ble_eq_true rfl) rfl ?_
    refine am_goto (tgt := 2) dX11_addRow_28 rfl ?_
    refine am_sub (ls' := [(0, .ref (am_B Z + a0)), (1, .int x1), (2, .int (v2 + (1 : Int32)))]) [1, 2, 0] rfl ?_
    exact hih4 (v2 + (1 : Int32)) J8
theorem uX11_addRow_2 {Z : am_Z} {X : am_X} (R : am_R) (I : am_I) (a0 : Nat) (x1 : Int32) (h1 : am_G Z a0 = some (.inl 11)) : ∀ (n : Nat) (v2 : Int32) (J3 : am_L), am_V Z X kX11_addRow (fun r : am_L => (none, R, I, r)) 2 [(0, .ref (am_B Z + a0)), (1, .int x1), (2, .int v2)] [] R I J3 (lX11_addRow_2 R a0 x1 n v2 J3) := by
  intro n
  induction n with
  | zero => intro _ _; exact am_none
  | succ n ih => exact fun v2 J3 => vX11_addRow_2 R I a0 x1 h1 (lX11_addRow_2 R a0 x1 n) ih v2 J3
set_option maxRecDepth 100000 in
set_option maxHeartbeats 4000000 in
theorem tX11_addRow {Z : am_Z} (R : am_R) (I : am_I) (L : am_L) (a0 : Nat) (x1 : Int32) (h_a0 : am_G Z a0 = some (.inl 11)) : am_M Z yX11_addRow kX11_addRow [.ref (am_B Z + a0), .int x1] R I L (pX11_addRow R L a0 x1) (fun r : am_L => (none, R, I, r)) := by
  refine am_entry (ls := [(0, .ref (am_B Z + a0)), (1, .int x1)]) (by decide) hX11_addRow rfl (Nat.le_of_ble_eq_true rfl) rfl (fun X => ?_)
  unfold pX11_addRow
  refine am_iconst (v := 0) dX11_addRow_0 (by decide) ?_
  refine am_istore_n (ls' := [(2, .int (0 : Int32)), (0, .ref (am_B Z + a0)), (1, .int x1)]) dX11_addRow_1 rfl (Nat.le_of_ble_eq_true rfl) rfl ?_
  refine am_sub (ls' := [(0, .ref (am_B Z + a0)), (1, .int x1), (2, .int (0 : Int32))]) [1, 2, 0] rfl ?_
  exact uX11_addRow_2 R I a0 x1 h_a0 am_fu (0 : Int32) L
abbrev kX11_maximumAmbiguity : am_K := (cX11_maximumAmbiguity, 11, RX11, wsX11_maximumAmbiguity, some .long, { frames := 7, cells := 0, slots := 0, locals := 169 })
theorem hX11_maximumAmbiguity : am_cl yX11_maximumAmbiguity kX11_maximumAmbiguity 0 := ⟨⟨_, rfl⟩, rfl, rfl, by decide +kernel, by decide +kernel, by decide +kernel⟩
theorem iX11_maximumAmbiguity_11 : ∀ w ∈ u_ws RX11 TX11 50, w ∈ wsX11_maximumAmbiguity := by decide +kernel
theorem fX11_maximumAmbiguity_70 : Cond.fieldLink RX11 70 "AmbiguityAnalyzerModel" "row" "[J" ∈ wsX11_maximumAmbiguity := by decide +kernel
theorem fX11_maximumAmbiguity_112 : Cond.fieldLink RX11 112 "AmbiguityAnalyzerModel" "initials" "I" ∈ wsX11_maximumAmbiguity := by decide +kernel
theorem fX11_maximumAmbiguity_115 : Cond.fieldLink RX11 115 "AmbiguityAnalyzerModel" "finals" "I" ∈ wsX11_maximumAmbiguity := by decide +kernel
theorem fX11_maximumAmbiguity_67 : Cond.fieldLink RX11 67 "AmbiguityAnalyzerModel" "rows" "[J" ∈ wsX11_maximumAmbiguity := by decide +kernel
theorem fX11_maximumAmbiguity_19 : Cond.fieldLink RX11 19 "AmbiguityAnalyzerModel" "states" "I" ∈ wsX11_maximumAmbiguity := by decide +kernel
theorem fX11_maximumAmbiguity_7 : Cond.fieldLink RX11 7 "AmbiguityAnalyzerModel" "targets" "[I" ∈ wsX11_maximumAmbiguity := by decide +kernel
set_option maxRecDepth 100000 in
set_option maxHeartbeats 4000000 in
theorem vX11_maximumAmbiguity_172 {Z : am_Z} {X : am_X} (R : am_R) (a0 : Nat) (r3 : Int32) (v23 : Int32) (v17 : Int64) (v10 : Int32) (v24 : Int32) (v38 : Int32) (J11 : am_I) (h46 : am_G Z a0 = some (.inl 11)) (j44 : am_L → Option (Int64 × am_I × am_L)) (hj44 : ∀ (J45 : am_L), am_V Z X kX11_maximumAmbiguity (fun r : Int64 × am_I × am_L => (some (.long r.1), R, r.2.1, r.2.2)) 246 [(0, .ref (am_B Z + a0)), (1, .int r3), (2, .int v23), (3, .long v17), (5, .int v10), (8, .int v24), (9, .int v38)] [] R J11 J45 (j44 J45)) (ih49 : Int32 → am_L → Option (Int64 × am_I × am_L)) (hih49 : ∀ (v47 : Int32) (J48 : am_L), am_V Z X kX11_maximumAmbiguity (fun r : Int64 × am_I × am_L => (some (.long r.1), R, r.2.1, r.2.2)) 172 [(0, .ref (am_B Z + a0)), (1, .int r3), (2, .int v23), (3, .long v17), (5, .int v10), (8, .int v24), (9, .int v38), (10, .int v47)] [] R J11 J48 (ih49 v47 J48)) (v47 : Int32) (J48 : am_L) : am_V Z X kX11_maximumAmbiguity (fun r : Int64 × am_I × am_L => (some (.long r.1), R, r.2.1, r.2.2)) 172 [(0, .ref (am_B Z + a0)), (1, .int r3), (2, .int v23), (3, .long v17), (5, .int v10), (8, .int v24), (9, .int v38), (10, .int v47)] [] R J11 J48 (sX11_maximumAmbiguity_172 R a0 r3 v23 v17 v10 v24 v38 J11 j44 ih49 v47 J48) := by
  unfold sX11_maximumAmbiguity_172
  refine am_iload dX11_maximumAmbiguity_172 7 rfl ?_
  refine am_aload_n dX11_maximumAmbiguity_174 rfl 0 rfl ?_
  refine am_get 11 3 clX11 (Nat.le_of_ble_eq_true rfl) h46 iX11_maximumAmbiguity_11 fX11_maximumAmbiguity_19 rfl dX11_maximumAmbiguity_175 ?_
  refine am_icmp_ge (tgt := 246) dX11_maximumAmbiguity_178 rfl (fun e50 => ?_) (fun e50 => ?_)
  · refine am_sub (ls' := [(0, .ref (am_B Z + a0)), (1, .int r3), (2, .int v23), (3, .long v17), (5, .int v10), (8, .int v24), (9, .int v38)]) [0, 1, 2, 3, 4, 5, 6] rfl ?_
    exact hj44 J48
  · refine am_iload_n dX11_maximumAmbiguity_181 rfl 1 rfl ?_
    refine am_i2l dX11_maximumAmbiguity_182 ?_
    refine am_iload dX11_maximumAmbiguity_183 6 rfl ?_
    refine am_callS [.long (Int32.toInt64 r3), .int v38] (tX11_has R J11 J48 (Int32.toInt64 r3) v38) gX11_maximumAmbiguity_X11_has hX11_has ⟨Nat.le_of_ble_eq_true rfl, Nat.le_of_ble_eq_true rfl⟩ rfl rfl (Nat.le_of_ble_eq_true rfl) dX11_maximumAmbiguity_185 (fun r51 => ?_)
    show am_V Z X kX11_maximumAmbiguity (fun r : Int64 × am_I × am_L => (some (.long r.1), R, r.2.1, r.2.2)) 188 [(0, .ref (am_B Z + a0)), (1, .int r3), (2, .int v23), (3, .long v17), (5, .int v10), (8, .int v24), (9, .int v38), (10, .int v47)] [.int r51] R J11 J48 _
    refine am_if_eq (tgt := 246) dX11_maximumAmbiguity_188 rfl (fun e52 => ?_) (fun e52 => ?_)
    · refine am_sub (ls' := [(0, .ref (am_B Z + a0)), (1, .int r3), (2, .int v23), (3, .long v17), (5, .int v10), (8, .int v24), (9, .int v38)]) [0, 1, 2, 3, 4, 5, 6] rfl ?_
      exact hj44 J48
    · refine am_aload_n dX11_maximumAmbiguity_191 rfl 0 rfl ?_
      refine am_getR 11 32 clX11 (Nat.le_of_ble_eq_true rfl) h46 iX11_maximumAmbiguity_11 fX11_maximumAmbiguity_70 rfl rfl dX11_maximumAmbiguity_192 (fun h53 => ?_)
      refine am_iload dX11_maximumAmbiguity_195 6 rfl ?_
      refine am_dup2 dX11_maximumAmbiguity_197 rfl rfl ?_
      refine am_lald h53 dX11_maximumAmbiguity_198 ?_
      refine am_aload_n dX11_maximumAmbiguity_199 rfl 0 rfl ?_
      refine am_getR 11 0 clX11 (Nat.le_of_ble_eq_true rfl) h46 iX11_maximumAmbiguity_11 fX11_maximumAmbiguity_7 rfl rfl dX11_maximumAmbiguity_200 (fun h54 => ?_)
      refine am_bipush (v := 6) dX11_maximumAmbiguity_203 (by decide) ?_
      refine am_iload dX11_maximumAmbiguity_205 5 rfl ?_
      refine am_imul dX11_maximumAmbiguity_207 ?_
      refine am_iload dX11_maximumAmbiguity_208 7 rfl ?_
      refine am_iadd dX11_maximumAmbiguity_210 ?_
      refine am_iald h54 dX11_maximumAmbiguity_211 ?_
      refine am_i2l dX11_maximumAmbiguity_212 ?_
      refine am_iload dX11_maximumAmbiguity_213 6 rfl ?_
      refine am_callS [.long (Int32.toInt64 (J11 (R a0 0) (Int32.toNatClampNeg (((6 : Int32) * v24) + v47)))), .int v38] (tX11_has R J11 J48 (Int32.toInt64 (J11 (R a0 0) (Int32.toNatClampNeg (((6 : Int32) * v24) + v47)))) v38) gX11_maximumAmbiguity_X11_has hX11_has ⟨Nat.le_of_ble_eq_true rfl, Nat.le_of_ble_eq_true rfl⟩ rfl rfl (Nat.le_of_ble_eq_true rfl) dX11_maximumAmbiguity_215 (fun r55 => ?_)
      show am_V Z X kX11_maximumAmbiguity (fun r : Int64 × am_I × am_L => (some (.long r.1), R, r.2.1, r.2.2)) 218 [(0, .ref (am_B Z + a0)), (1, .int r3), (2, .int v23), (3, .long v17), (5, .int v10), (8, .int v24), (9, .int v38), (10, .int v47)] [.int r55, .long (J48 (R a0 32) (Int32.toNatClampNeg v38)), .int v38, .ref (am_B Z + (R a0 32))] R J11 J48 _
      refine am_jnV (fun j56 ej56 => ?_)
      have hj56 : ∀ (v57 : Int64), am_V Z X kX11_maximumAmbiguity (fun r : Int64 × am_I × am_L => (some (.long r.1), R, r.2.1, r.2.2)) 238 [(0, .ref (am_B Z + a0)), (1, .int r3), (2, .int v23), (3, .long v17), (5, .int v10), (8, .int v24), (9, .int v38), (10, .int v47)] [.long v57, .long (J48 (R a0 32) (Int32.toNatClampNeg v38)), .int v38, .ref (am_B Z + (R a0 32))] R J11 J48 (j56 v57) := by
        subst ej56
        intro v57
        show am_V Z X kX11_maximumAmbiguity (fun r : Int64 × am_I × am_L => (some (.long r.1), R, r.2.1, r.2.2)) 238 [(0, .ref (am_B Z + a0)), (1, .int r3), (2, .int v23), (3, .long v17), (5, .int v10), (8, .int v24), (9, .int v38), (10, .int v47)] [.long v57, .long (J48 (R a0 32) (Int32.toNatClampNeg v38)), .int v38, .ref (am_B Z + (R a0 32))] R J11 J48 _
        refine am_ladd dX11_maximumAmbiguity_238 ?_
        refine am_last h53 dX11_maximumAmbiguity_239 ?_
        refine am_letL (fun J58 => ?_)
        refine am_iinc (j := 7) (ls' := [(10, .int (v47 + (1 : Int32))), (0, .ref (am_B Z + a0)), (1, .int r3), (2, .int v23), (3, .long v17), (5, .int v10), (8, .int v24), (9, .int v38)]) dX11_maximumAmbiguity_240 rfl rfl (Nat.le_of_ble_eq_true rfl) rfl ?_
        refine am_goto (tgt := 172) dX11_maximumAmbiguity_243 rfl ?_
        refine am_sub (ls' := [(0, .ref (am_B Z + a0)), (1, .int r3), (2, .int v23), (3, .long v17), (5, .int v10), (8, .int v24), (9, .int v38), (10, .int (v47 + (1 : Int32)))]) [1, 2, 3, 4, 5, 6, 7, 0] rfl ?_
        exact hih49 (v47 + (1 : Int32)) J58
      refine am_if_eq (tgt := 237) dX11_maximumAmbiguity_218 rfl (fun e59 => ?_) (fun e59 => ?_)
      · refine am_lconst (v := 0) dX11_maximumAmbiguity_237 (by decide) ?_
        exact hj56 (0 : Int64)
      · refine am_aload_n dX11_maximumAmbiguity_221 rfl 0 rfl ?_
        refine am_getR 11 31 clX11 (Nat.le_of_ble_eq_true rfl) h46 iX11_maximumAmbiguity_11 fX11_maximumAmbiguity_67 rfl rfl dX11_maximumAmbiguity_222 (fun h60 => ?_)
        refine am_bipush (v := 6) dX11_maximumAmbiguity_225 (by decide) ?_
        refine am_iload dX11_maximumAmbiguity_227 4 rfl ?_
        refine am_imul dX11_maximumAmbiguity_229 ?_
        refine am_iload dX11_maximumAmbiguity_230 7 rfl ?_
        refine am_iadd dX11_maximumAmbiguity_232 ?_
        refine am_lald h60 dX11_maximumAmbiguity_233 ?_
        refine am_goto (tgt := 238) dX11_maximumAmbiguity_234 rfl ?_
        exact hj56 (J48 (R a0 31) (Int32.toNatClampNeg (((6 : Int32) * v10) + v47)))
theorem uX11_maximumAmbiguity_172 {Z : am_Z} {X : am_X} (R : am_R) (a0 : Nat) (r3 : Int32) (v23 : Int32) (v17 : Int64) (v10 : Int32) (v24 : Int32) (v38 : Int32) (J11 : am_I) (h46 : am_G Z a0 = some (.inl 11)) (j44 : am_L → Option (Int64 × am_I × am_L)) (hj44 : ∀ (J45 : am_L), am_V Z X kX11_maximumAmbiguity (fun r : Int64 × am_I × am_L => (some (.long r.1), R, r.2.1, r.2.2)) 246 [(0, .ref (am_B Z + a0)), (1, .int r3), (2, .int v23), (3, .long v17), (5, .int v10), (8, .int v24), (9, .int v38)] [] R J11 J45 (j44 J45)) : ∀ (n : Nat) (v47 : Int32) (J48 : am_L), am_V Z X kX11_maximumAmbiguity (fun r : Int64 × am_I × am_L => (some (.long r.1), R, r.2.1, r.2.2)) 172 [(0, .ref (am_B Z + a0)), (1, .int r3), (2, .int v23), (3, .long v17), (5, .int v10), (8, .int v24), (9, .int v38), (10, .int v47)] [] R J11 J48 (lX11_maximumAmbiguity_172 R a0 r3 v23 v17 v10 v24 v38 J11 j44 n v47 J48) := by
  intro n
  induction n with
  | zero => intro _ _; exact am_none
  | succ n ih => exact fun v47 J48 => vX11_maximumAmbiguity_172 R a0 r3 v23 v17 v10 v24 v38 J11 h46 j44 hj44 (lX11_maximumAmbiguity_172 R a0 r3 v23 v17 v10 v24 v38 J11 j44 n) ih v47 J48
set_option maxRecDepth 100000 in
set_option maxHeartbeats 4000000 in
theorem vX11_maximumAmbiguity_154 {Z : am_Z} {X : am_X} (R : am_R) (a0 : Nat) (r3 : Int32) (v23 : Int32) (v17 : Int64) (v10 : Int32) (v24 : Int32) (J11 : am_I) (h37 : am_G Z a0 = some (.inl 11)) (j28 : am_L → Option (Int64 × am_I × am_L)) (hj28 : ∀ (J29 : am_L), am_V Z X kX11_maximumAmbiguity (fun r : Int64 × am_I × am_L => (some (.long r.1), R, r.2.1, r.2.2)) 252 [(0, .ref (am_B Z + a0)), (1, .int r3), (2, .int v23), (3, .long v17), (5, .int v10), (8, .int v24)] [] R J11 J29 (j28 J29)) (ih40 : Int32 → am_L → Option (Int64 × am_I × am_L)) (hih40 : ∀ (v38 : Int32) (J39 : am_L), am_V Z X kX11_maximumAmbiguity (fun r : Int64 × am_I × am_L => (some (.long r.1), R, r.2.1, r.2.2)) 154 [(0, .ref (am_B Z + a0)), (1, .int r3), (2, .int v23), (3, .long v17), (5, .int v10), (8, .int v24), (9, .int v38)] [] R J11 J39 (ih40 v38 J39)) (v38 : Int32) (J39 : am_L) : am_V Z X kX11_maximumAmbiguity (fun r : Int64 × am_I × am_L => (some (.long r.1), R, r.2.1, r.2.2)) 154 [(0, .ref (am_B Z + a0)), (1, .int r3), (2, .int v23), (3, .long v17), (5, .int v10), (8, .int v24), (9, .int v38)] [] R J11 J39 (sX11_maximumAmbiguity_154 R a0 r3 v23 v17 v10 v24 J11 j28 ih40 v38 J39) := by
  unfold sX11_maximumAmbiguity_154
  refine am_iload dX11_maximumAmbiguity_154 6 rfl ?_
  refine am_bipush (v := 6) dX11_maximumAmbiguity_156 (by decide) ?_
  refine am_icmp_ge (tgt := 252) dX11_maximumAmbiguity_158 rfl (fun e41 => ?_) (fun e41 => ?_)
  · refine am_sub (ls' := [(0, .ref (am_B Z + a0)), (1, .int r3), (2, .int v23), (3, .long v17), (5, .int v10), (8, .int v24)]) [0, 1, 2, 3, 4, 5] rfl ?_
    exact hj28 J39
  · refine am_aload_n dX11_maximumAmbiguity_161 rfl 0 rfl ?_
    refine am_getR 11 32 clX11 (Nat.le_of_ble_eq_true rfl) h37 iX11_maximumAmbiguity_11 fX11_maximumAmbiguity_70 rfl rfl dX11_maximumAmbiguity_162 (fun h42 => ?_)
    refine am_iload dX11_maximumAmbiguity_165 6 rfl ?_
    refine am_lconst (v := 0) dX11_maximumAmbiguity_167 (by decide) ?_
    refine am_last h42 dX11_maximumAmbiguity_168 ?_
    refine am_letL (fun J43 => ?_)
    refine am_iconst (v := 0) dX11_maximumAmbiguity_169 (by decide) ?_
    refine am_istore (ls' := [(10, .int (0 : Int32)), (0, .ref (am_B Z + a0)), (1, .int r3), (2, .int v23), (3, .long v17), (5, .int v10), (8, .int v24), (9, .int v38)]) dX11_maximumAmbiguity_170 (Nat.le_of_ble_eq_true rfl) rfl ?_
    refine am_jnV (fun j44 ej44 => ?_)
    have hj44 : ∀ (J45 : am_L), am_V Z X kX11_maximumAmbiguity (fun r : Int64 × am_I × am_L => (some (.long r.1), R, r.2.1, r.2.2)) 246 [(0, .ref (am_B Z + a0)), (1, .int r3), (2, .int v23), (3, .long v17), (5, .int v10), (8, .int v24), (9, .int v38)] [] R J11 J45 (j44 J45) := by
      subst ej44
      intro J45
      show am_V Z X kX11_maximumAmbiguity (fun r : Int64 × am_I × am_L => (some (.long r.1), R, r.2.1, r.2.2)) 246 [(0, .ref (am_B Z + a0)), (1, .int r3), (2, .int v23), (3, .long v17), (5, .int v10), (8, .int v24), (9, .int v38)] [] R J11 J45 _
      refine am_iinc (j := 6) (ls' := [(9, .int (v38 + (1 : Int32))), (0, .ref (am_B Z + a0)), (1, .int r3), (2, .int v23), (3, .long v17), (5, .int v10), (8, .int v24)]) dX11_maximumAmbiguity_246 rfl rfl (Nat.le_of_ble_eq_true rfl) rfl ?_
      refine am_goto (tgt := 154) dX11_maximumAmbiguity_249 rfl ?_
      refine am_sub (ls' := [(0, .ref (am_B Z + a0)), (1, .int r3), (2, .int v23), (3, .long v17), (5, .int v10), (8, .int v24), (9, .int (v38 + (1 : Int32)))]) [1, 2, 3, 4, 5, 6, 0] rfl ?_
      exact hih40 (v38 + (1 : Int32)) J45
    refine am_sub (ls' := [(0, .ref (am_B Z + a0)), (1, .int r3), (2, .int v23), (3, .long v17), (5, .int v10), (8, .int v24), (9, .int v38), (10, .int (0 : Int32))]) [1, 2, 3, 4, 5, 6, 7, 0] rfl ?_
    exact uX11_maximumAmbiguity_172 R a0 r3 v23 v17 v10 v24 v38 J11 h37 j44 hj44 am_fu (0 : Int32) J43
theorem uX11_maximumAmbiguity_154 {Z : am_Z} {X : am_X} (R : am_R) (a0 : Nat) (r3 : Int32) (v23 : Int32) (v17 : Int64) (v10 : Int32) (v24 : Int32) (J11 : am_I) (h37 : am_G Z a0 = some (.inl 11)) (j28 : am_L → Option (Int64 × am_I × am_L)) (hj28 : ∀ (J29 : am_L), am_V Z X kX11_maximumAmbiguity (fun r : Int64 × am_I × am_L => (some (.long r.1), R, r.2.1, r.2.2)) 252 [(0, .ref (am_B Z + a0)), (1, .int r3), (2, .int v23), (3, .long v17), (5, .int v10), (8, .int v24)] [] R J11 J29 (j28 J29)) : ∀ (n : Nat) (v38 : Int32) (J39 : am_L), am_V Z X kX11_maximumAmbiguity (fun r : Int64 × am_I × am_L => (some (.long r.1), R, r.2.1, r.2.2)) 154 [(0, .ref (am_B Z + a0)), (1, .int r3), (2, .int v23), (3, .long v17), (5, .int v10), (8, .int v24), (9, .int v38)] [] R J11 J39 (lX11_maximumAmbiguity_154 R a0 r3 v23 v17 v10 v24 J11 j28 n v38 J39) := by
  intro n
  induction n with
  | zero => intro _ _; exact am_none
  | succ n ih => exact fun v38 J39 => vX11_maximumAmbiguity_154 R a0 r3 v23 v17 v10 v24 J11 h37 j28 hj28 (lX11_maximumAmbiguity_154 R a0 r3 v23 v17 v10 v24 J11 j28 n) ih v38 J39
set_option maxRecDepth 100000 in
set_option maxHeartbeats 4000000 in
theorem vX11_maximumAmbiguity_145 {Z : am_Z} {X : am_X} (R : am_R) (a0 : Nat) (r3 : Int32) (v17 : Int64) (v10 : Int32) (J11 : am_I) (h22 : am_G Z a0 = some (.inl 11)) (j19 : Int32 → am_L → Option (Int64 × am_I × am_L)) (hj19 : ∀ (v20 : Int32) (J21 : am_L), am_V Z X kX11_maximumAmbiguity (fun r : Int64 × am_I × am_L => (some (.long r.1), R, r.2.1, r.2.2)) 288 [(0, .ref (am_B Z + a0)), (1, .int r3), (2, .int v20), (3, .long v17), (5, .int v10)] [] R J11 J21 (j19 v20 J21)) (ih26 : Int32 → Int32 → am_L → Option (Int64 × am_I × am_L)) (hih26 : ∀ (v23 : Int32) (v24 : Int32) (J25 : am_L), am_V Z X kX11_maximumAmbiguity (fun r : Int64 × am_I × am_L => (some (.long r.1), R, r.2.1, r.2.2)) 145 [(0, .ref (am_B Z + a0)), (1, .int r3), (2, .int v23), (3, .long v17), (5, .int v10), (8, .int v24)] [] R J11 J25 (ih26 v23 v24 J25)) (v23 : Int32) (v24 : Int32) (J25 : am_L) : am_V Z X kX11_maximumAmbiguity (fun r : Int64 × am_I × am_L => (some (.long r.1), R, r.2.1, r.2.2)) 145 [(0, .ref (am_B Z + a0)), (1, .int r3), (2, .int v23), (3, .long v17), (5, .int v10), (8, .int v24)] [] R J11 J25 (sX11_maximumAmbiguity_145 R a0 r3 v17 v10 J11 j19 ih26 v23 v24 J25) := by
  unfold sX11_maximumAmbiguity_145
  refine am_iload dX11_maximumAmbiguity_145 5 rfl ?_
  refine am_iconst (v := 3) dX11_maximumAmbiguity_147 (by decide) ?_
  refine am_icmp_ge (tgt := 288) dX11_maximumAmbiguity_148 rfl (fun e27 => ?_) (fun e27 => ?_)
  · refine am_sub (ls' := [(0, .ref (am_B Z + a0)), (1, .int r3), (2, .int v23), (3, .long v17), (5, .int v10)]) [0, 1, 2, 3, 4] rfl ?_
    exact hj19 v23 J25
  · refine am_iconst (v := 0) dX11_maximumAmbiguity_151 (by decide) ?_
    refine am_istore (ls' := [(9, .int (0 : Int32)), (0, .ref (am_B Z + a0)), (1, .int r3), (2, .int v23), (3, .long v17), (5, .int v10), (8, .int v24)]) dX11_maximumAmbiguity_152 (Nat.le_of_ble_eq_true rfl) rfl ?_
    refine am_jnV (fun j28 ej28 => ?_)
    have hj28 : ∀ (J29 : am_L), am_V Z X kX11_maximumAmbiguity (fun r : Int64 × am_I × am_L => (some (.long r.1), R, r.2.1, r.2.2)) 252 [(0, .ref (am_B Z + a0)), (1, .int r3), (2, .int v23), (3, .long v17), (5, .int v10), (8, .int v24)] [] R J11 J29 (j28 J29) := by
      subst ej28
      intro J29
      show am_V Z X kX11_maximumAmbiguity (fun r : Int64 × am_I × am_L => (some (.long r.1), R, r.2.1, r.2.2)) 252 [(0, .ref (am_B Z + a0)), (1, .int r3), (2, .int v23), (3, .long v17), (5, .int v10), (8, .int v24)] [] R J11 J29 _
      refine am_aload_n dX11_maximumAmbiguity_252 rfl 0 rfl ?_
      refine am_iload_n dX11_maximumAmbiguity_253 rfl 2 rfl ?_
      refine am_callV [.int v23] (tX11_isNewRow R J11 J29 a0 v23 h22) h22 clX11 gX11_maximumAmbiguity_X11_isNewRow hX11_isNewRow rfl ⟨Nat.le_of_ble_eq_true rfl, Nat.le_of_ble_eq_true rfl⟩ rfl rfl (Nat.le_of_ble_eq_true rfl) dX11_maximumAmbiguity_254 (fun r30 => ?_)
      show am_V Z X kX11_maximumAmbiguity (fun r : Int64 × am_I × am_L => (some (.long r.1), R, r.2.1, r.2.2)) 257 [(0, .ref (am_B Z + a0)), (1, .int r3), (2, .int v23), (3, .long v17), (5, .int v10), (8, .int v24)] [.int r30] R J11 J29 _
      refine am_jnV (fun j31 ej31 => ?_)
      have hj31 : ∀ (v32 : Int32) (J33 : am_L), am_V Z X kX11_maximumAmbiguity (fun r : Int64 × am_I × am_L => (some (.long r.1), R, r.2.1, r.2.2)) 282 [(0, .ref (am_B Z + a0)), (1, .int r3), (2, .int v32), (3, .long v17), (5, .int v10), (8, .int v24)] [] R J11 J33 (j31 v32 J33) := by
        subst ej31
        intro v32 J33
        show am_V Z X kX11_maximumAmbiguity (fun r : Int64 × am_I × am_L => (some (.long r.1), R, r.2.1, r.2.2)) 282 [(0, .ref (am_B Z + a0)), (1, .int r3), (2, .int v32), (3, .long v17), (5, .int v10), (8, .int v24)] [] R J11 J33 _
        refine am_iinc (j := 5) (ls' := [(8, .int (v24 + (1 : Int32))), (0, .ref (am_B Z + a0)), (1, .int r3), (2, .int v32), (3, .long v17), (5, .int v10)]) dX11_maximumAmbiguity_282 rfl rfl (Nat.le_of_ble_eq_true rfl) rfl ?_
        refine am_goto (tgt := 145) dX11_maximumAmbiguity_285 rfl ?_
        refine am_sub (ls' := [(0, .ref (am_B Z + a0)), (1, .int r3), (2, .int v32), (3, .long v17), (5, .int v10), (8, .int (v24 + (1 : Int32)))]) [1, 2, 3, 4, 5, 0] rfl ?_
        exact hih26 v32 (v24 + (1 : Int32)) J33
      refine am_if_ne (tgt := 263) dX11_maximumAmbiguity_257 rfl (fun e34 => ?_) (fun e34 => ?_)
      · refine am_iload_n dX11_maximumAmbiguity_263 rfl 2 rfl ?_
        refine am_sipush (v := 1000) dX11_maximumAmbiguity_264 (by decide) ?_
        refine am_icmp_ne (tgt := 274) dX11_maximumAmbiguity_267 rfl (fun e35 => ?_) (fun e35 => ?_)
        · refine am_aload_n dX11_maximumAmbiguity_274 rfl 0 rfl ?_
          refine am_iload_n dX11_maximumAmbiguity_275 rfl 2 rfl ?_
          refine am_callV [.int v23] (tX11_addRow R J11 J29 a0 v23 h22) h22 clX11 gX11_maximumAmbiguity_X11_addRow hX11_addRow rfl ⟨Nat.le_of_ble_eq_true rfl, Nat.le_of_ble_eq_true rfl⟩ rfl rfl (Nat.le_of_ble_eq_true rfl) dX11_maximumAmbiguity_276 (fun r36 => ?_)
          show am_V Z X kX11_maximumAmbiguity (fun r : Int64 × am_I × am_L => (some (.long r.1), R, r.2.1, r.2.2)) 279 [(0, .ref (am_B Z + a0)), (1, .int r3), (2, .int v23), (3, .long v17), (5, .int v10), (8, .int v24)] [] R J11 r36 _
          refine am_iinc (j := 2) (ls' := [(2, .int (v23 + (1 : Int32))), (0, .ref (am_B Z + a0)), (1, .int r3), (3, .long v17), (5, .int v10), (8, .int v24)]) dX11_maximumAmbiguity_279 rfl rfl (Nat.le_of_ble_eq_true rfl) rfl ?_
          refine am_sub (ls' := [(0, .ref (am_B Z + a0)), (1, .int r3), (2, .int (v23 + (1 : Int32))), (3, .long v17), (5, .int v10), (8, .int v24)]) [1, 2, 0, 3, 4, 5] rfl ?_
          exact hj31 (v23 + (1 : Int32)) r36
        · refine am_ldc2 (v := -5) dX11_maximumAmbiguity_270 (by decide +kernel) ?_
          exact am_lret dX11_maximumAmbiguity_273 rfl rfl
      · refine am_goto (tgt := 282) dX11_maximumAmbiguity_260 rfl ?_
        exact hj31 v23 J29
    refine am_sub (ls' := [(0, .ref (am_B Z + a0)), (1, .int r3), (2, .int v23), (3, .long v17), (5, .int v10), (8, .int v24), (9, .int (0 : Int32))]) [1, 2, 3, 4, 5, 6, 0] rfl ?_
    exact uX11_maximumAmbiguity_154 R a0 r3 v23 v17 v10 v24 J11 h22 j28 hj28 am_fu (0 : Int32) J25
theorem uX11_maximumAmbiguity_145 {Z : am_Z} {X : am_X} (R : am_R) (a0 : Nat) (r3 : Int32) (v17 : Int64) (v10 : Int32) (J11 : am_I) (h22 : am_G Z a0 = some (.inl 11)) (j19 : Int32 → am_L → Option (Int64 × am_I × am_L)) (hj19 : ∀ (v20 : Int32) (J21 : am_L), am_V Z X kX11_maximumAmbiguity (fun r : Int64 × am_I × am_L => (some (.long r.1), R, r.2.1, r.2.2)) 288 [(0, .ref (am_B Z + a0)), (1, .int r3), (2, .int v20), (3, .long v17), (5, .int v10)] [] R J11 J21 (j19 v20 J21)) : ∀ (n : Nat) (v23 : Int32) (v24 : Int32) (J25 : am_L), am_V Z X kX11_maximumAmbiguity (fun r : Int64 × am_I × am_L => (some (.long r.1), R, r.2.1, r.2.2)) 145 [(0, .ref (am_B Z + a0)), (1, .int r3), (2, .int v23), (3, .long v17), (5, .int v10), (8, .int v24)] [] R J11 J25 (lX11_maximumAmbiguity_145 R a0 r3 v17 v10 J11 j19 n v23 v24 J25) := by
  intro n
  induction n with
  | zero => intro _ _ _; exact am_none
  | succ n ih => exact fun v23 v24 J25 => vX11_maximumAmbiguity_145 R a0 r3 v17 v10 J11 h22 j19 hj19 (lX11_maximumAmbiguity_145 R a0 r3 v17 v10 J11 j19 n) ih v23 v24 J25
set_option maxRecDepth 100000 in
set_option maxHeartbeats 4000000 in
theorem vX11_maximumAmbiguity_80 {Z : am_Z} {X : am_X} (R : am_R) (a0 : Nat) (r3 : Int32) (v8 : Int32) (v9 : Int64) (v10 : Int32) (J11 : am_I) (J12 : am_L) (h62 : am_G Z a0 = some (.inl 11)) (j15 : Int64 → Option (Int64 × am_I × am_L)) (hj15 : ∀ (v16 : Int64), am_V Z X kX11_maximumAmbiguity (fun r : Int64 × am_I × am_L => (some (.long r.1), R, r.2.1, r.2.2)) 128 [(0, .ref (am_B Z + a0)), (1, .int r3), (2, .int v8), (3, .long v9), (5, .int v10), (6, .long v16)] [] R J11 J12 (j15 v16)) (ih65 : Int64 → Int32 → Option (Int64 × am_I × am_L)) (hih65 : ∀ (v63 : Int64) (v64 : Int32), am_V Z X kX11_maximumAmbiguity (fun r : Int64 × am_I × am_L => (some (.long r.1), R, r.2.1, r.2.2)) 80 [(0, .ref (am_B Z + a0)), (1, .int r3), (2, .int v8), (3, .long v9), (5, .int v10), (6, .long v63), (8, .int v64)] [] R J11 J12 (ih65 v63 v64)) (v63 : Int64) (v64 : Int32) : am_V Z X kX11_maximumAmbiguity (fun r : Int64 × am_I × am_L => (some (.long r.1), R, r.2.1, r.2.2)) 80 [(0, .ref (am_B Z + a0)), (1, .int r3), (2, .int v8), (3, .long v9), (5, .int v10), (6, .long v63), (8, .int v64)] [] R J11 J12 (sX11_maximumAmbiguity_80 R a0 r3 v8 v9 v10 J11 J12 j15 ih65 v63 v64) := by
  unfold sX11_maximumAmbiguity_80
  refine am_iload dX11_maximumAmbiguity_80 6 rfl ?_
  refine am_bipush (v := 6) dX11_maximumAmbiguity_82 (by decide) ?_
  refine am_icmp_ge (tgt := 128) dX11_maximumAmbiguity_84 rfl (fun e66 => ?_) (fun e66 => ?_)
  · refine am_sub (ls' := [(0, .ref (am_B Z + a0)), (1, .int r3), (2, .int v8), (3, .long v9), (5, .int v10), (6, .long v63)]) [0, 1, 2, 3, 4, 5] rfl ?_
    exact hj15 v63
  · refine am_lload dX11_maximumAmbiguity_87 5 rfl ?_
    refine am_aload_n dX11_maximumAmbiguity_89 rfl 0 rfl ?_
    refine am_get 11 5 clX11 (Nat.le_of_ble_eq_true rfl) h62 iX11_maximumAmbiguity_11 fX11_maximumAmbiguity_115 rfl dX11_maximumAmbiguity_90 ?_
    refine am_i2l dX11_maximumAmbiguity_93 ?_
    refine am_iload dX11_maximumAmbiguity_94 6 rfl ?_
    refine am_callS [.long (Int32.toInt64 (J11 a0 5)), .int v64] (tX11_has R J11 J12 (Int32.toInt64 (J11 a0 5)) v64) gX11_maximumAmbiguity_X11_has hX11_has ⟨Nat.le_of_ble_eq_true rfl, Nat.le_of_ble_eq_true rfl⟩ rfl rfl (Nat.le_of_ble_eq_true rfl) dX11_maximumAmbiguity_96 (fun r67 => ?_)
    show am_V Z X kX11_maximumAmbiguity (fun r : Int64 × am_I × am_L => (some (.long r.1), R, r.2.1, r.2.2)) 99 [(0, .ref (am_B Z + a0)), (1, .int r3), (2, .int v8), (3, .long v9), (5, .int v10), (6, .long v63), (8, .int v64)] [.int r67, .long v63] R J11 J12 _
    refine am_jnV (fun j68 ej68 => ?_)
    have hj68 : ∀ (v69 : Int64), am_V Z X kX11_maximumAmbiguity (fun r : Int64 × am_I × am_L => (some (.long r.1), R, r.2.1, r.2.2)) 119 [(0, .ref (am_B Z + a0)), (1, .int r3), (2, .int v8), (3, .long v9), (5, .int v10), (8, .int v64)] [.long v69, .long v63] R J11 J12 (j68 v69) := by
      subst ej68
      intro v69
      show am_V Z X kX11_maximumAmbiguity (fun r : Int64 × am_I × am_L => (some (.long r.1), R, r.2.1, r.2.2)) 119 [(0, .ref (am_B Z + a0)), (1, .int r3), (2, .int v8), (3, .long v9), (5, .int v10), (8, .int v64)] [.long v69, .long v63] R J11 J12 _
      refine am_ladd dX11_maximumAmbiguity_119 ?_
      refine am_letTl (fun v70 => ?_)
      refine am_lstore (ls' := [(6, .long v70), (0, .ref (am_B Z + a0)), (1, .int r3), (2, .int v8), (3, .long v9), (5, .int v10), (8, .int v64)]) dX11_maximumAmbiguity_120 (Nat.le_of_ble_eq_true rfl) rfl ?_
      refine am_iinc (j := 6) (ls' := [(8, .int (v64 + (1 : Int32))), (6, .long v70), (0, .ref (am_B Z + a0)), (1, .int r3), (2, .int v8), (3, .long v9), (5, .int v10)]) dX11_maximumAmbiguity_122 rfl rfl (Nat.le_of_ble_eq_true rfl) rfl ?_
      refine am_goto (tgt := 80) dX11_maximumAmbiguity_125 rfl ?_
      refine am_sub (ls' := [(0, .ref (am_B Z + a0)), (1, .int r3), (2, .int v8), (3, .long v9), (5, .int v10), (6, .long v70), (8, .int (v64 + (1 : Int32)))]) [2, 3, 4, 5, 6, 1, 0] rfl ?_
      exact hih65 v70 (v64 + (1 : Int32))
    refine am_if_eq (tgt := 118) dX11_maximumAmbiguity_99 rfl (fun e71 => ?_) (fun e71 => ?_)
    · refine am_lconst (v := 0) dX11_maximumAmbiguity_118 (by decide) ?_
      refine am_sub (ls' := [(0, .ref (am_B Z + a0)), (1, .int r3), (2, .int v8), (3, .long v9), (5, .int v10), (8, .int v64)]) [0, 1, 2, 3, 4, 6] rfl ?_
      exact hj68 (0 : Int64)
    · refine am_aload_n dX11_maximumAmbiguity_102 rfl 0 rfl ?_
      refine am_getR 11 31 clX11 (Nat.le_of_ble_eq_true rfl) h62 iX11_maximumAmbiguity_11 fX11_maximumAmbiguity_67 rfl rfl dX11_maximumAmbiguity_103 (fun h72 => ?_)
      refine am_bipush (v := 6) dX11_maximumAmbiguity_106 (by decide) ?_
      refine am_iload dX11_maximumAmbiguity_108 4 rfl ?_
      refine am_imul dX11_maximumAmbiguity_110 ?_
      refine am_iload dX11_maximumAmbiguity_111 6 rfl ?_
      refine am_iadd dX11_maximumAmbiguity_113 ?_
      refine am_lald h72 dX11_maximumAmbiguity_114 ?_
      refine am_goto (tgt := 119) dX11_maximumAmbiguity_115 rfl ?_
      refine am_sub (ls' := [(0, .ref (am_B Z + a0)), (1, .int r3), (2, .int v8), (3, .long v9), (5, .int v10), (8, .int v64)]) [0, 1, 2, 3, 4, 6] rfl ?_
      exact hj68 (J12 (R a0 31) (Int32.toNatClampNeg (((6 : Int32) * v10) + v64)))
theorem uX11_maximumAmbiguity_80 {Z : am_Z} {X : am_X} (R : am_R) (a0 : Nat) (r3 : Int32) (v8 : Int32) (v9 : Int64) (v10 : Int32) (J11 : am_I) (J12 : am_L) (h62 : am_G Z a0 = some (.inl 11)) (j15 : Int64 → Option (Int64 × am_I × am_L)) (hj15 : ∀ (v16 : Int64), am_V Z X kX11_maximumAmbiguity (fun r : Int64 × am_I × am_L => (some (.long r.1), R, r.2.1, r.2.2)) 128 [(0, .ref (am_B Z + a0)), (1, .int r3), (2, .int v8), (3, .long v9), (5, .int v10), (6, .long v16)] [] R J11 J12 (j15 v16)) : ∀ (n : Nat) (v63 : Int64) (v64 : Int32), am_V Z X kX11_maximumAmbiguity (fun r : Int64 × am_I × am_L => (some (.long r.1), R, r.2.1, r.2.2)) 80 [(0, .ref (am_B Z + a0)), (1, .int r3), (2, .int v8), (3, .long v9), (5, .int v10), (6, .long v63), (8, .int v64)] [] R J11 J12 (lX11_maximumAmbiguity_80 R a0 r3 v8 v9 v10 J11 J12 j15 n v63 v64) := by
  intro n
  induction n with
  | zero => intro _ _; exact am_none
  | succ n ih => exact fun v63 v64 => vX11_maximumAmbiguity_80 R a0 r3 v8 v9 v10 J11 J12 h62 j15 hj15 (lX11_maximumAmbiguity_80 R a0 r3 v8 v9 v10 J11 J12 j15 n) ih v63 v64
set_option maxRecDepth 100000 in
set_option maxHeartbeats 4000000 in
theorem vX11_maximumAmbiguity_68 {Z : am_Z} {X : am_X} (R : am_R) (a0 : Nat) (r3 : Int32) (J11 : am_I) (h7 : am_G Z a0 = some (.inl 11)) (ih13 : Int32 → Int64 → Int32 → am_L → Option (Int64 × am_I × am_L)) (hih13 : ∀ (v8 : Int32) (v9 : Int64) (v10 : Int32) (J12 : am_L), am_V Z X kX11_maximumAmbiguity (fun r : Int64 × am_I × am_L => (some (.long r.1), R, r.2.1, r.2.2)) 68 [(0, .ref (am_B Z + a0)), (1, .int r3), (2, .int v8), (3, .long v9), (5, .int v10)] [] R J11 J12 (ih13 v8 v9 v10 J12)) (v8 : Int32) (v9 : Int64) (v10 : Int32) (J12 : am_L) : am_V Z X kX11_maximumAmbiguity (fun r : Int64 × am_I × am_L => (some (.long r.1), R, r.2.1, r.2.2)) 68 [(0, .ref (am_B Z + a0)), (1, .int r3), (2, .int v8), (3, .long v9), (5, .int v10)] [] R J11 J12 (sX11_maximumAmbiguity_68 R a0 r3 J11 ih13 v8 v9 v10 J12) := by
  unfold sX11_maximumAmbiguity_68
  refine am_iload dX11_maximumAmbiguity_68 4 rfl ?_
  refine am_iload_n dX11_maximumAmbiguity_70 rfl 2 rfl ?_
  refine am_icmp_ge (tgt := 294) dX11_maximumAmbiguity_71 rfl (fun e14 => ?_) (fun e14 => ?_)
  · refine am_lload_n dX11_maximumAmbiguity_294 rfl 3 rfl ?_
    exact am_lret dX11_maximumAmbiguity_295 rfl rfl
  · refine am_lconst (v := 0) dX11_maximumAmbiguity_74 (by decide) ?_
    refine am_lstore (ls' := [(6, .long (0 : Int64)), (0, .ref (am_B Z + a0)), (1, .int r3), (2, .int v8), (3, .long v9), (5, .int v10)]) dX11_maximumAmbiguity_75 (Nat.le_of_ble_eq_true rfl) rfl ?_
    refine am_iconst (v := 0) dX11_maximumAmbiguity_77 (by decide) ?_
    refine am_istore (ls' := [(8, .int (0 : Int32)), (6, .long (0 : Int64)), (0, .ref (am_B Z + a0)), (1, .int r3), (2, .int v8), (3, .long v9), (5, .int v10)]) dX11_maximumAmbiguity_78 (Nat.le_of_ble_eq_true rfl) rfl ?_
    refine am_jnV (fun j15 ej15 => ?_)
    have hj15 : ∀ (v16 : Int64), am_V Z X kX11_maximumAmbiguity (fun r : Int64 × am_I × am_L => (some (.long r.1), R, r.2.1, r.2.2)) 128 [(0, .ref (am_B Z + a0)), (1, .int r3), (2, .int v8), (3, .long v9), (5, .int v10), (6, .long v16)] [] R J11 J12 (j15 v16) := by
      subst ej15
      intro v16
      show am_V Z X kX11_maximumAmbiguity (fun r : Int64 × am_I × am_L => (some (.long r.1), R, r.2.1, r.2.2)) 128 [(0, .ref (am_B Z + a0)), (1, .int r3), (2, .int v8), (3, .long v9), (5, .int v10), (6, .long v16)] [] R J11 J12 _
      refine am_lload dX11_maximumAmbiguity_128 5 rfl ?_
      refine am_lload_n dX11_maximumAmbiguity_130 rfl 3 rfl ?_
      refine am_lcmp dX11_maximumAmbiguity_131 ?_
      refine am_letJ (fun k18 ek18 => ?_)
      have hk18 : ∀ v17 : Int64, am_V Z X kX11_maximumAmbiguity (fun r : Int64 × am_I × am_L => (some (.long r.1), R, r.2.1, r.2.2)) 141 [(0, .ref (am_B Z + a0)), (1, .int r3), (2, .int v8), (5, .int v10)] [.long v17] R J11 J12 (k18 v17) := by
        subst ek18
        intro v17
        show am_V Z X kX11_maximumAmbiguity (fun r : Int64 × am_I × am_L => (some (.long r.1), R, r.2.1, r.2.2)) 141 [(0, .ref (am_B Z + a0)), (1, .int r3), (2, .int v8), (5, .int v10)] [.long v17] R J11 J12 _
        refine am_lstore_n (ls' := [(3, .long v17), (0, .ref (am_B Z + a0)), (1, .int r3), (2, .int v8), (5, .int v10)]) dX11_maximumAmbiguity_141 rfl (Nat.le_of_ble_eq_true rfl) rfl ?_
        refine am_iconst (v := 0) dX11_maximumAmbiguity_142 (by decide) ?_
        refine am_istore (ls' := [(8, .int (0 : Int32)), (3, .long v17), (0, .ref (am_B Z + a0)), (1, .int r3), (2, .int v8), (5, .int v10)]) dX11_maximumAmbiguity_143 (Nat.le_of_ble_eq_true rfl) rfl ?_
        refine am_jnV (fun j19 ej19 => ?_)
        have hj19 : ∀ (v20 : Int32) (J21 : am_L), am_V Z X kX11_maximumAmbiguity (fun r : Int64 × am_I × am_L => (some (.long r.1), R, r.2.1, r.2.2)) 288 [(0, .ref (am_B Z + a0)), (1, .int r3), (2, .int v20), (3, .long v17), (5, .int v10)] [] R J11 J21 (j19 v20 J21) := by
          subst ej19
          intro v20 J21
          show am_V Z X kX11_maximumAmbiguity (fun r : Int64 × am_I × am_L => (some (.long r.1), R, r.2.1, r.2.2)) 288 [(0, .ref (am_B Z + a0)), (1, .int r3), (2, .int v20), (3, .long v17), (5, .int v10)] [] R J11 J21 _
          refine am_iinc (j := 4) (ls' := [(5, .int (v10 + (1 : Int32))), (0, .ref (am_B Z + a0)), (1, .int r3), (2, .int v20), (3, .long v17)]) dX11_maximumAmbiguity_288 rfl rfl (Nat.le_of_ble_eq_true rfl) rfl ?_
          refine am_goto (tgt := 68) dX11_maximumAmbiguity_291 rfl ?_
          refine am_sub (ls' := [(0, .ref (am_B Z + a0)), (1, .int r3), (2, .int v20), (3, .long v17), (5, .int (v10 + (1 : Int32)))]) [1, 2, 3, 4, 0] rfl ?_
          exact hih13 v20 v17 (v10 + (1 : Int32)) J21
        refine am_sub (ls' := [(0, .ref (am_B Z + a0)), (1, .int r3), (2, .int v8), (3, .long v17), (5, .int v10), (8, .int (0 : Int32))]) [2, 3, 4, 1, 5, 0] rfl ?_
        exact uX11_maximumAmbiguity_145 R a0 r3 v17 v10 J11 h7 j19 hj19 am_fu v8 (0 : Int32) J12
      refine am_if_leL (tgt := 140) dX11_maximumAmbiguity_132 rfl (fun e61 => ?_) (fun e61 => ?_)
      · refine am_lload_n dX11_maximumAmbiguity_140 rfl 3 rfl ?_
        refine am_sub (ls' := [(0, .ref (am_B Z + a0)), (1, .int r3), (2, .int v8), (5, .int v10)]) [0, 1, 2, 4] rfl ?_
        exact hk18 _
      · refine am_lload dX11_maximumAmbiguity_135 5 rfl ?_
        refine am_goto (tgt := 141) dX11_maximumAmbiguity_137 rfl ?_
        refine am_sub (ls' := [(0, .ref (am_B Z + a0)), (1, .int r3), (2, .int v8), (5, .int v10)]) [0, 1, 2, 4] rfl ?_
        exact hk18 _
    refine am_sub (ls' := [(0, .ref (am_B Z + a0)), (1, .int r3), (2, .int v8), (3, .long v9), (5, .int v10), (6, .long (0 : Int64)), (8, .int (0 : Int32))]) [2, 3, 4, 5, 6, 1, 0] rfl ?_
    exact uX11_maximumAmbiguity_80 R a0 r3 v8 v9 v10 J11 J12 h7 j15 hj15 am_fu (0 : Int64) (0 : Int32)
theorem uX11_maximumAmbiguity_68 {Z : am_Z} {X : am_X} (R : am_R) (a0 : Nat) (r3 : Int32) (J11 : am_I) (h7 : am_G Z a0 = some (.inl 11)) : ∀ (n : Nat) (v8 : Int32) (v9 : Int64) (v10 : Int32) (J12 : am_L), am_V Z X kX11_maximumAmbiguity (fun r : Int64 × am_I × am_L => (some (.long r.1), R, r.2.1, r.2.2)) 68 [(0, .ref (am_B Z + a0)), (1, .int r3), (2, .int v8), (3, .long v9), (5, .int v10)] [] R J11 J12 (lX11_maximumAmbiguity_68 R a0 r3 J11 n v8 v9 v10 J12) := by
  intro n
  induction n with
  | zero => intro _ _ _ _; exact am_none
  | succ n ih => exact fun v8 v9 v10 J12 => vX11_maximumAmbiguity_68 R a0 r3 J11 h7 (lX11_maximumAmbiguity_68 R a0 r3 J11 n) ih v8 v9 v10 J12
set_option maxRecDepth 100000 in
set_option maxHeartbeats 4000000 in
theorem vX11_maximumAmbiguity_19 {Z : am_Z} {X : am_X} (R : am_R) (a0 : Nat) (r3 : Int32) (J75 : am_I) (h73 : am_G Z a0 = some (.inl 11)) (j4 : am_L → Option (Int64 × am_I × am_L)) (hj4 : ∀ (J5 : am_L), am_V Z X kX11_maximumAmbiguity (fun r : Int64 × am_I × am_L => (some (.long r.1), R, r.2.1, r.2.2)) 56 [(0, .ref (am_B Z + a0)), (1, .int r3)] [] R J75 J5 (j4 J5)) (ih77 : Int32 → am_L → Option (Int64 × am_I × am_L)) (hih77 : ∀ (v74 : Int32) (J76 : am_L), am_V Z X kX11_maximumAmbiguity (fun r : Int64 × am_I × am_L => (some (.long r.1), R, r.2.1, r.2.2)) 19 [(0, .ref (am_B Z + a0)), (1, .int r3), (2, .int v74)] [] R J75 J76 (ih77 v74 J76)) (v74 : Int32) (J76 : am_L) : am_V Z X kX11_maximumAmbiguity (fun r : Int64 × am_I × am_L => (some (.long r.1), R, r.2.1, r.2.2)) 19 [(0, .ref (am_B Z + a0)), (1, .int r3), (2, .int v74)] [] R J75 J76 (sX11_maximumAmbiguity_19 R a0 r3 J75 j4 ih77 v74 J76) := by
  unfold sX11_maximumAmbiguity_19
  refine am_iload_n dX11_maximumAmbiguity_19 rfl 2 rfl ?_
  refine am_bipush (v := 6) dX11_maximumAmbiguity_20 (by decide) ?_
  refine am_icmp_ge (tgt := 56) dX11_maximumAmbiguity_22 rfl (fun e78 => ?_) (fun e78 => ?_)
  · refine am_sub (ls' := [(0, .ref (am_B Z + a0)), (1, .int r3)]) [0, 1] rfl ?_
    exact hj4 J76
  · refine am_aload_n dX11_maximumAmbiguity_25 rfl 0 rfl ?_
    refine am_getR 11 32 clX11 (Nat.le_of_ble_eq_true rfl) h73 iX11_maximumAmbiguity_11 fX11_maximumAmbiguity_70 rfl rfl dX11_maximumAmbiguity_26 (fun h79 => ?_)
    refine am_iload_n dX11_maximumAmbiguity_29 rfl 2 rfl ?_
    refine am_iload_n dX11_maximumAmbiguity_30 rfl 1 rfl ?_
    refine am_aload_n dX11_maximumAmbiguity_31 rfl 0 rfl ?_
    refine am_get 11 4 clX11 (Nat.le_of_ble_eq_true rfl) h73 iX11_maximumAmbiguity_11 fX11_maximumAmbiguity_112 rfl dX11_maximumAmbiguity_32 ?_
    refine am_iand dX11_maximumAmbiguity_35 ?_
    refine am_i2l dX11_maximumAmbiguity_36 ?_
    refine am_iload_n dX11_maximumAmbiguity_37 rfl 2 rfl ?_
    refine am_callS [.long (Int32.toInt64 (r3 &&& (J75 a0 4))), .int v74] (tX11_has R J75 J76 (Int32.toInt64 (r3 &&& (J75 a0 4))) v74) gX11_maximumAmbiguity_X11_has hX11_has ⟨Nat.le_of_ble_eq_true rfl, Nat.le_of_ble_eq_true rfl⟩ rfl rfl (Nat.le_of_ble_eq_true rfl) dX11_maximumAmbiguity_38 (fun r80 => ?_)
    show am_V Z X kX11_maximumAmbiguity (fun r : Int64 × am_I × am_L => (some (.long r.1), R, r.2.1, r.2.2)) 41 [(0, .ref (am_B Z + a0)), (1, .int r3), (2, .int v74)] [.int r80, .int v74, .ref (am_B Z + (R a0 32))] R J75 J76 _
    refine am_letJ (fun k82 ek82 => ?_)
    have hk82 : ∀ v81 : Int64, am_V Z X kX11_maximumAmbiguity (fun r : Int64 × am_I × am_L => (some (.long r.1), R, r.2.1, r.2.2)) 49 [(0, .ref (am_B Z + a0)), (1, .int r3), (2, .int v74)] [.long v81, .int v74, .ref (am_B Z + (R a0 32))] R J75 J76 (k82 v81) := by
      subst ek82
      intro v81
      show am_V Z X kX11_maximumAmbiguity (fun r : Int64 × am_I × am_L => (some (.long r.1), R, r.2.1, r.2.2)) 49 [(0, .ref (am_B Z + a0)), (1, .int r3), (2, .int v74)] [.long v81, .int v74, .ref (am_B Z + (R a0 32))] R J75 J76 _
      refine am_last h79 dX11_maximumAmbiguity_49 ?_
      refine am_letL (fun J83 => ?_)
      refine am_iinc (j := 2) (ls' := [(2, .int (v74 + (1 : Int32))), (0, .ref (am_B Z + a0)), (1, .int r3)]) dX11_maximumAmbiguity_50 rfl rfl (Nat.le_of_ble_eq_true rfl) rfl ?_
      refine am_goto (tgt := 19) dX11_maximumAmbiguity_53 rfl ?_
      refine am_sub (ls' := [(0, .ref (am_B Z + a0)), (1, .int r3), (2, .int (v74 + (1 : Int32)))]) [1, 2, 0] rfl ?_
      exact hih77 (v74 + (1 : Int32)) J83
    refine am_if_eqL (tgt := 48) dX11_maximumAmbiguity_41 rfl (fun e84 => ?_) (fun e84 => ?_)
    · refine am_lconst (v := 0) dX11_maximumAmbiguity_48 (by decide) ?_
      exact hk82 _
    · refine am_lconst (v := 1) dX11_maximumAmbiguity_44 (by decide) ?_
      refine am_goto (tgt := 49) dX11_maximumAmbiguity_45 rfl ?_
      exact hk82 _
theorem uX11_maximumAmbiguity_19 {Z : am_Z} {X : am_X} (R : am_R) (a0 : Nat) (r3 : Int32) (J75 : am_I) (h73 : am_G Z a0 = some (.inl 11)) (j4 : am_L → Option (Int64 × am_I × am_L)) (hj4 : ∀ (J5 : am_L), am_V Z X kX11_maximumAmbiguity (fun r : Int64 × am_I × am_L => (some (.long r.1), R, r.2.1, r.2.2)) 56 [(0, .ref (am_B Z + a0)), (1, .int r3)] [] R J75 J5 (j4 J5)) : ∀ (n : Nat) (v74 : Int32) (J76 : am_L), am_V Z X kX11_maximumAmbiguity (fun r : Int64 × am_I × am_L => (some (.long r.1), R, r.2.1, r.2.2)) 19 [(0, .ref (am_B Z + a0)), (1, .int r3), (2, .int v74)] [] R J75 J76 (lX11_maximumAmbiguity_19 R a0 r3 J75 j4 n v74 J76) := by
  intro n
  induction n with
  | zero => intro _ _; exact am_none
  | succ n ih => exact fun v74 J76 => vX11_maximumAmbiguity_19 R a0 r3 J75 h73 j4 hj4 (lX11_maximumAmbiguity_19 R a0 r3 J75 j4 n) ih v74 J76
set_option maxRecDepth 100000 in
set_option maxHeartbeats 4000000 in
theorem tX11_maximumAmbiguity {Z : am_Z} (R : am_R) (I : am_I) (L : am_L) (a0 : Nat) (h_a0 : am_G Z a0 = some (.inl 11)) : am_M Z yX11_maximumAmbiguity kX11_maximumAmbiguity [.ref (am_B Z + a0)] R I L (pX11_maximumAmbiguity R I L a0) (fun r : Int64 × am_I × am_L => (some (.long r.1), R, r.2.1, r.2.2)) := by
  refine am_entry (ls := [(0, .ref (am_B Z + a0))]) (by decide) hX11_maximumAmbiguity rfl (Nat.le_of_ble_eq_true rfl) rfl (fun X => ?_)
  unfold pX11_maximumAmbiguity
  refine am_aload_n dX11_maximumAmbiguity_0 rfl 0 rfl ?_
  refine am_callV [] (tX11_kindOf R I L a0 h_a0) h_a0 clX11 gX11_maximumAmbiguity_X11_kindOf hX11_kindOf rfl ⟨Nat.le_of_ble_eq_true rfl, Nat.le_of_ble_eq_true rfl⟩ rfl rfl (Nat.le_of_ble_eq_true rfl) dX11_maximumAmbiguity_1 (fun r1 => ?_)
  show am_V Z X kX11_maximumAmbiguity (fun r : Int64 × am_I × am_L => (some (.long r.1), R, r.2.1, r.2.2)) 4 [(0, .ref (am_B Z + a0))] [.int r1.1] R r1.2 L _
  refine am_iconst (v := 1) dX11_maximumAmbiguity_4 (by decide) ?_
  refine am_icmp_le (tgt := 12) dX11_maximumAmbiguity_5 rfl (fun e2 => ?_) (fun e2 => ?_)
  · refine am_aload_n dX11_maximumAmbiguity_12 rfl 0 rfl ?_
    refine am_callV [] (tX11_useful R r1.2 L a0 h_a0) h_a0 clX11 gX11_maximumAmbiguity_X11_useful hX11_useful rfl ⟨Nat.le_of_ble_eq_true rfl, Nat.le_of_ble_eq_true rfl⟩ rfl rfl (Nat.le_of_ble_eq_true rfl) dX11_maximumAmbiguity_13 (fun r3 => ?_)
    show am_V Z X kX11_maximumAmbiguity (fun r : Int64 × am_I × am_L => (some (.long r.1), R, r.2.1, r.2.2)) 16 [(0, .ref (am_B Z + a0))] [.int r3] R r1.2 L _
    refine am_istore_n (ls' := [(1, .int r3), (0, .ref (am_B Z + a0))]) dX11_maximumAmbiguity_16 rfl (Nat.le_of_ble_eq_true rfl) rfl ?_
    refine am_iconst (v := 0) dX11_maximumAmbiguity_17 (by decide) ?_
    refine am_istore_n (ls' := [(2, .int (0 : Int32)), (1, .int r3), (0, .ref (am_B Z + a0))]) dX11_maximumAmbiguity_18 rfl (Nat.le_of_ble_eq_true rfl) rfl ?_
    refine am_jnV (fun j4 ej4 => ?_)
    have hj4 : ∀ (J5 : am_L), am_V Z X kX11_maximumAmbiguity (fun r : Int64 × am_I × am_L => (some (.long r.1), R, r.2.1, r.2.2)) 56 [(0, .ref (am_B Z + a0)), (1, .int r3)] [] R r1.2 J5 (j4 J5) := by
      subst ej4
      intro J5
      show am_V Z X kX11_maximumAmbiguity (fun r : Int64 × am_I × am_L => (some (.long r.1), R, r.2.1, r.2.2)) 56 [(0, .ref (am_B Z + a0)), (1, .int r3)] [] R r1.2 J5 _
      refine am_aload_n dX11_maximumAmbiguity_56 rfl 0 rfl ?_
      refine am_iconst (v := 0) dX11_maximumAmbiguity_57 (by decide) ?_
      refine am_callV [.int (0 : Int32)] (tX11_addRow R r1.2 J5 a0 (0 : Int32) h_a0) h_a0 clX11 gX11_maximumAmbiguity_X11_addRow hX11_addRow rfl ⟨Nat.le_of_ble_eq_true rfl, Nat.le_of_ble_eq_true rfl⟩ rfl rfl (Nat.le_of_ble_eq_true rfl) dX11_maximumAmbiguity_58 (fun r6 => ?_)
      show am_V Z X kX11_maximumAmbiguity (fun r : Int64 × am_I × am_L => (some (.long r.1), R, r.2.1, r.2.2)) 61 [(0, .ref (am_B Z + a0)), (1, .int r3)] [] R r1.2 r6 _
      refine am_iconst (v := 1) dX11_maximumAmbiguity_61 (by decide) ?_
      refine am_istore_n (ls' := [(2, .int (1 : Int32)), (0, .ref (am_B Z + a0)), (1, .int r3)]) dX11_maximumAmbiguity_62 rfl (Nat.le_of_ble_eq_true rfl) rfl ?_
      refine am_lconst (v := 0) dX11_maximumAmbiguity_63 (by decide) ?_
      refine am_lstore_n (ls' := [(3, .long (0 : Int64)), (2, .int (1 : Int32)), (0, .ref (am_B Z + a0)), (1, .int r3)]) dX11_maximumAmbiguity_64 rfl (Nat.le_of_ble_eq_true rfl) rfl ?_
      refine am_iconst (v := 0) dX11_maximumAmbiguity_65 (by decide) ?_
      refine am_istore (ls' := [(5, .int (0 : Int32)), (3, .long (0 : Int64)), (2, .int (1 : Int32)), (0, .ref (am_B Z + a0)), (1, .int r3)]) dX11_maximumAmbiguity_66 (Nat.le_of_ble_eq_true rfl) rfl ?_
      refine am_sub (ls' := [(0, .ref (am_B Z + a0)), (1, .int r3), (2, .int (1 : Int32)), (3, .long (0 : Int64)), (5, .int (0 : Int32))]) [3, 4, 2, 1, 0] rfl ?_
      exact uX11_maximumAmbiguity_68 R a0 r3 r1.2 h_a0 am_fu (1 : Int32) (0 : Int64) (0 : Int32) r6
    refine am_sub (ls' := [(0, .ref (am_B Z + a0)), (1, .int r3), (2, .int (0 : Int32))]) [2, 1, 0] rfl ?_
    exact uX11_maximumAmbiguity_19 R a0 r3 r1.2 h_a0 j4 hj4 am_fu (0 : Int32) L
  · refine am_ldc2 (v := -4) dX11_maximumAmbiguity_8 (by decide +kernel) ?_
    exact am_lret dX11_maximumAmbiguity_11 rfl rfl
abbrev kX11_isLoopState : am_K := (cX11_isLoopState, 2, RX11, wsX11_isLoopState, some .int, { frames := 6, cells := 0, slots := 0, locals := 149 })
theorem hX11_isLoopState : am_cl yX11_isLoopState kX11_isLoopState 1 := ⟨⟨_, rfl⟩, rfl, rfl, by decide +kernel, by decide +kernel, by decide +kernel⟩
theorem iX11_isLoopState_11 : ∀ w ∈ u_ws RX11 TX11 50, w ∈ wsX11_isLoopState := by decide +kernel
theorem fX11_isLoopState_282 : Cond.fieldLink RX11 282 "AmbiguityAnalyzerModel" "loops" "I" ∈ wsX11_isLoopState := by decide +kernel
set_option maxRecDepth 100000 in
set_option maxHeartbeats 4000000 in
theorem tX11_isLoopState {Z : am_Z} (R : am_R) (I : am_I) (L : am_L) (a0 : Nat) (x1 : Int32) (h_a0 : am_G Z a0 = some (.inl 11)) : am_M Z yX11_isLoopState kX11_isLoopState [.ref (am_B Z + a0), .int x1] R I L (pX11_isLoopState R I a0 x1) (fun r : Int32 × am_I => (some (.int r.1), R, r.2, L)) := by
  refine am_entry (ls := [(0, .ref (am_B Z + a0)), (1, .int x1)]) (by decide) hX11_isLoopState rfl (Nat.le_of_ble_eq_true rfl) rfl (fun X => ?_)
  unfold pX11_isLoopState
  refine am_aload_n dX11_isLoopState_0 rfl 0 rfl ?_
  refine am_iload_n dX11_isLoopState_1 rfl 1 rfl ?_
  refine am_callV [.int x1] (tX11_isState R I L a0 x1 h_a0) h_a0 clX11 gX11_isLoopState_X11_isState hX11_isState rfl ⟨Nat.le_of_ble_eq_true rfl, Nat.le_of_ble_eq_true rfl⟩ rfl rfl (Nat.le_of_ble_eq_true rfl) dX11_isLoopState_2 (fun r1 => ?_)
  show am_V Z X kX11_isLoopState (fun r : Int32 × am_I => (some (.int r.1), R, r.2, L)) 5 [(0, .ref (am_B Z + a0)), (1, .int x1)] [.int r1] R I L _
  refine am_if_ne (tgt := 10) dX11_isLoopState_5 rfl (fun e2 => ?_) (fun e2 => ?_)
  · refine am_aload_n dX11_isLoopState_10 rfl 0 rfl ?_
    refine am_callV [] (tX11_finds R I L a0 h_a0) h_a0 clX11 gX11_isLoopState_X11_finds hX11_finds rfl ⟨Nat.le_of_ble_eq_true rfl, Nat.le_of_ble_eq_true rfl⟩ rfl rfl (Nat.le_of_ble_eq_true rfl) dX11_isLoopState_11 (fun r3 => ?_)
    show am_V Z X kX11_isLoopState (fun r : Int32 × am_I => (some (.int r.1), R, r.2, L)) 14 [(0, .ref (am_B Z + a0)), (1, .int x1)] [] R r3 L _
    refine am_aload_n dX11_isLoopState_14 rfl 0 rfl ?_
    refine am_get 11 27 clX11 (Nat.le_of_ble_eq_true rfl) h_a0 iX11_isLoopState_11 fX11_isLoopState_282 rfl dX11_isLoopState_15 ?_
    refine am_iload_n dX11_isLoopState_18 rfl 1 rfl ?_
    refine am_ishr dX11_isLoopState_19 ?_
    refine am_iconst (v := 1) dX11_isLoopState_20 (by decide) ?_
    refine am_iand dX11_isLoopState_21 ?_
    exact am_iret dX11_isLoopState_22 rfl rfl
  · refine am_iconst (v := -1) dX11_isLoopState_8 (by decide) ?_
    exact am_iret dX11_isLoopState_9 rfl rfl
abbrev kX11_isSplitPair : am_K := (cX11_isSplitPair, 3, RX11, wsX11_isSplitPair, some .int, { frames := 6, cells := 0, slots := 0, locals := 149 })
theorem hX11_isSplitPair : am_cl yX11_isSplitPair kX11_isSplitPair 2 := ⟨⟨_, rfl⟩, rfl, rfl, by decide +kernel, by decide +kernel, by decide +kernel⟩
theorem iX11_isSplitPair_11 : ∀ w ∈ u_ws RX11 TX11 50, w ∈ wsX11_isSplitPair := by decide +kernel
theorem fX11_isSplitPair_61 : Cond.fieldLink RX11 61 "AmbiguityAnalyzerModel" "isSplit" "[Z" ∈ wsX11_isSplitPair := by decide +kernel
set_option maxRecDepth 100000 in
set_option maxHeartbeats 4000000 in
theorem tX11_isSplitPair {Z : am_Z} (R : am_R) (I : am_I) (L : am_L) (a0 : Nat) (x1 : Int32) (x2 : Int32) (h_a0 : am_G Z a0 = some (.inl 11)) : am_M Z yX11_isSplitPair kX11_isSplitPair [.ref (am_B Z + a0), .int x1, .int x2] R I L (pX11_isSplitPair R I a0 x1 x2) (fun r : Int32 × am_I => (some (.int r.1), R, r.2, L)) := by
  refine am_entry (ls := [(0, .ref (am_B Z + a0)), (1, .int x1), (2, .int x2)]) (by decide) hX11_isSplitPair rfl (Nat.le_of_ble_eq_true rfl) rfl (fun X => ?_)
  unfold pX11_isSplitPair
  refine am_aload_n dX11_isSplitPair_0 rfl 0 rfl ?_
  refine am_iload_n dX11_isSplitPair_1 rfl 1 rfl ?_
  refine am_callV [.int x1] (tX11_isState R I L a0 x1 h_a0) h_a0 clX11 gX11_isSplitPair_X11_isState hX11_isState rfl ⟨Nat.le_of_ble_eq_true rfl, Nat.le_of_ble_eq_true rfl⟩ rfl rfl (Nat.le_of_ble_eq_true rfl) dX11_isSplitPair_2 (fun r1 => ?_)
  show am_V Z X kX11_isSplitPair (fun r : Int32 × am_I => (some (.int r.1), R, r.2, L)) 5 [(0, .ref (am_B Z + a0)), (1, .int x1), (2, .int x2)] [.int r1] R I L _
  refine am_if_eq (tgt := 16) dX11_isSplitPair_5 rfl (fun e2 => ?_) (fun e2 => ?_)
  · refine am_iconst (v := -1) dX11_isSplitPair_16 (by decide) ?_
    exact am_iret dX11_isSplitPair_17 rfl rfl
  · refine am_aload_n dX11_isSplitPair_8 rfl 0 rfl ?_
    refine am_iload_n dX11_isSplitPair_9 rfl 2 rfl ?_
    refine am_callV [.int x2] (tX11_isState R I L a0 x2 h_a0) h_a0 clX11 gX11_isSplitPair_X11_isState hX11_isState rfl ⟨Nat.le_of_ble_eq_true rfl, Nat.le_of_ble_eq_true rfl⟩ rfl rfl (Nat.le_of_ble_eq_true rfl) dX11_isSplitPair_10 (fun r3 => ?_)
    show am_V Z X kX11_isSplitPair (fun r : Int32 × am_I => (some (.int r.1), R, r.2, L)) 13 [(0, .ref (am_B Z + a0)), (1, .int x1), (2, .int x2)] [.int r3] R I L _
    refine am_if_ne (tgt := 18) dX11_isSplitPair_13 rfl (fun e4 => ?_) (fun e4 => ?_)
    · refine am_aload_n dX11_isSplitPair_18 rfl 0 rfl ?_
      refine am_callV [] (tX11_finds R I L a0 h_a0) h_a0 clX11 gX11_isSplitPair_X11_finds hX11_finds rfl ⟨Nat.le_of_ble_eq_true rfl, Nat.le_of_ble_eq_true rfl⟩ rfl rfl (Nat.le_of_ble_eq_true rfl) dX11_isSplitPair_19 (fun r5 => ?_)
      show am_V Z X kX11_isSplitPair (fun r : Int32 × am_I => (some (.int r.1), R, r.2, L)) 22 [(0, .ref (am_B Z + a0)), (1, .int x1), (2, .int x2)] [] R r5 L _
      refine am_aload_n dX11_isSplitPair_22 rfl 0 rfl ?_
      refine am_getR 11 26 clX11 (Nat.le_of_ble_eq_true rfl) h_a0 iX11_isSplitPair_11 fX11_isSplitPair_61 rfl rfl dX11_isSplitPair_23 (fun h6 => ?_)
      refine am_bipush (v := 6) dX11_isSplitPair_26 (by decide) ?_
      refine am_iload_n dX11_isSplitPair_28 rfl 1 rfl ?_
      refine am_imul dX11_isSplitPair_29 ?_
      refine am_iload_n dX11_isSplitPair_30 rfl 2 rfl ?_
      refine am_iadd dX11_isSplitPair_31 ?_
      refine am_zald h6 dX11_isSplitPair_32 ?_
      refine am_if_eq (tgt := 40) dX11_isSplitPair_33 rfl (fun e7 => ?_) (fun e7 => ?_)
      · refine am_iconst (v := 0) dX11_isSplitPair_40 (by decide) ?_
        exact am_iret dX11_isSplitPair_41 rfl rfl
      · refine am_iconst (v := 1) dX11_isSplitPair_36 (by decide) ?_
        refine am_goto (tgt := 41) dX11_isSplitPair_37 rfl ?_
        exact am_iret dX11_isSplitPair_41 rfl rfl
    · refine am_iconst (v := -1) dX11_isSplitPair_16 (by decide) ?_
      exact am_iret dX11_isSplitPair_17 rfl rfl
abbrev kX11_lowest : am_K := (cX11_lowest, 2, RX11, wsX11_lowest, some .int, { frames := 1, cells := 0, slots := 0, locals := 22 })
theorem hX11_lowest : am_cl yX11_lowest kX11_lowest 1 := ⟨⟨_, rfl⟩, rfl, rfl, by decide +kernel, by decide +kernel, by decide +kernel⟩
set_option maxRecDepth 100000 in
set_option maxHeartbeats 4000000 in
theorem vX11_lowest_2 {Z : am_Z} {X : am_X} (R : am_R) (I : am_I) (L : am_L) (x0 : Int32) (ih2 : Int32 → Option (Int32)) (hih2 : ∀ (v1 : Int32), am_V Z X kX11_lowest (fun r : Int32 => (some (.int r), R, I, L)) 2 [(0, .int x0), (1, .int v1)] [] R I L (ih2 v1)) (v1 : Int32) : am_V Z X kX11_lowest (fun r : Int32 => (some (.int r), R, I, L)) 2 [(0, .int x0), (1, .int v1)] [] R I L (sX11_lowest_2 x0 ih2 v1) := by
  unfold sX11_lowest_2
  refine am_iload_n dX11_lowest_2 rfl 0 rfl ?_
  refine am_i2l dX11_lowest_3 ?_
  refine am_iload_n dX11_lowest_4 rfl 1 rfl ?_
  refine am_callS [.long (Int32.toInt64 x0), .int v1] (tX11_has R I L (Int32.toInt64 x0) v1) gX11_lowest_X11_has hX11_has ⟨Nat.le_of_ble_eq_true rfl, Nat.le_of_ble_eq_true rfl⟩ rfl rfl (Nat.le_of_ble_eq_true rfl) dX11_lowest_5 (fun r3 => ?_)
  show am_V Z X kX11_lowest (fun r : Int32 => (some (.int r), R, I, L)) 8 [(0, .int x0), (1, .int v1)] [.int r3] R I L _
  refine am_if_ne (tgt := 17) dX11_lowest_8 rfl (fun e4 => ?_) (fun e4 => ?_)
  · refine am_iload_n dX11_lowest_17 rfl 1 rfl ?_
    exact am_iret dX11_lowest_18 rfl rfl
  · refine am_iinc (j := 1) (ls' := [(1, .int (v1 + (1 : Int32))), (0, .int x0)]) dX11_lowest_11 rfl rfl (Nat.le_of_ble_eq_true rfl) rfl ?_
    refine am_goto (tgt := 2) dX11_lowest_14 rfl ?_
    refine am_sub (ls' := [(0, .int x0), (1, .int (v1 + (1 : Int32)))]) [1, 0] rfl ?_
    exact hih2 (v1 + (1 : Int32))
theorem uX11_lowest_2 {Z : am_Z} {X : am_X} (R : am_R) (I : am_I) (L : am_L) (x0 : Int32) : ∀ (n : Nat) (v1 : Int32), am_V Z X kX11_lowest (fun r : Int32 => (some (.int r), R, I, L)) 2 [(0, .int x0), (1, .int v1)] [] R I L (lX11_lowest_2 x0 n v1) := by
  intro n
  induction n with
  | zero => intro _; exact am_none
  | succ n ih => exact fun v1 => vX11_lowest_2 R I L x0 (lX11_lowest_2 x0 n) ih v1
set_option maxRecDepth 100000 in
set_option maxHeartbeats 4000000 in
theorem tX11_lowest {Z : am_Z} (R : am_R) (I : am_I) (L : am_L) (x0 : Int32)  : am_M Z yX11_lowest kX11_lowest [.int x0] R I L (pX11_lowest x0) (fun r : Int32 => (some (.int r), R, I, L)) := by
  refine am_entry (ls := [(0, .int x0)]) (by decide) hX11_lowest rfl (Nat.le_of_ble_eq_true rfl) rfl (fun X => ?_)
  unfold pX11_lowest
  refine am_iconst (v := 0) dX11_lowest_0 (by decide) ?_
  refine am_istore_n (ls' := [(1, .int (0 : Int32)), (0, .int x0)]) dX11_lowest_1 rfl (Nat.le_of_ble_eq_true rfl) rfl ?_
  refine am_sub (ls' := [(0, .int x0), (1, .int (0 : Int32))]) [1, 0] rfl ?_
  exact uX11_lowest_2 R I L x0 am_fu (0 : Int32)
abbrev kX11_firstSplit : am_K := (cX11_firstSplit, 2, RX11, wsX11_firstSplit, some .int, { frames := 0, cells := 0, slots := 0, locals := 0 })
theorem hX11_firstSplit : am_cl yX11_firstSplit kX11_firstSplit 0 := ⟨⟨_, rfl⟩, rfl, rfl, by decide +kernel, by decide +kernel, by decide +kernel⟩
theorem iX11_firstSplit_11 : ∀ w ∈ u_ws RX11 TX11 50, w ∈ wsX11_firstSplit := by decide +kernel
theorem fX11_firstSplit_61 : Cond.fieldLink RX11 61 "AmbiguityAnalyzerModel" "isSplit" "[Z" ∈ wsX11_firstSplit := by decide +kernel
set_option maxRecDepth 100000 in
set_option maxHeartbeats 4000000 in
theorem vX11_firstSplit_2 {Z : am_Z} {X : am_X} (R : am_R) (I : am_I) (L : am_L) (a0 : Nat) (h1 : am_G Z a0 = some (.inl 11)) (ih3 : Int32 → Option (Int32)) (hih3 : ∀ (v2 : Int32), am_V Z X kX11_firstSplit (fun r : Int32 => (some (.int r), R, I, L)) 2 [(0, .ref (am_B Z + a0)), (1, .int v2)] [] R I L (ih3 v2)) (v2 : Int32) : am_V Z X kX11_firstSplit (fun r : Int32 => (some (.int r), R, I, L)) 2 [(0, .ref (am_B Z + a0)), (1, .int v2)] [] R I L (sX11_firstSplit_2 R I a0 ih3 v2) := by
  unfold sX11_firstSplit_2
  refine am_aload_n dX11_firstSplit_2 rfl 0 rfl ?_
  refine am_getR 11 26 clX11 (Nat.le_of_ble_eq_true rfl) h1 iX11_firstSplit_11 fX11_firstSplit_61 rfl rfl dX11_firstSplit_3 (fun h4 => ?_)
  refine am_iload_n dX11_firstSplit_6 rfl 1 rfl ?_
  refine am_zald h4 dX11_firstSplit_7 ?_
  refine am_if_ne (tgt := 17) dX11_firstSplit_8 rfl (fun e5 => ?_) (fun e5 => ?_)
  · refine am_iload_n dX11_firstSplit_17 rfl 1 rfl ?_
    exact am_iret dX11_firstSplit_18 rfl rfl
  · refine am_iinc (j := 1) (ls' := [(1, .int (v2 + (1 : Int32))), (0, .ref (am_B Z + a0))]) dX11_firstSplit_11 rfl rfl (Nat.le_of_ble_eq_true rfl) rfl ?_
    refine am_goto (tgt := 2) dX11_firstSplit_14 rfl ?_
    refine am_sub (ls' := [(0, .ref (am_B Z + a0)), (1, .int (v2 + (1 : Int32)))]) [1, 0] rfl ?_
    exact hih3 (v2 + (1 : Int32))
theorem uX11_firstSplit_2 {Z : am_Z} {X : am_X} (R : am_R) (I : am_I) (L : am_L) (a0 : Nat) (h1 : am_G Z a0 = some (.inl 11)) : ∀ (n : Nat) (v2 : Int32), am_V Z X kX11_firstSplit (fun r : Int32 => (some (.int r), R, I, L)) 2 [(0, .ref (am_B Z + a0)), (1, .int v2)] [] R I L (lX11_firstSplit_2 R I a0 n v2) := by
  intro n
  induction n with
  | zero => intro _; exact am_none
  | succ n ih => exact fun v2 => vX11_firstSplit_2 R I L a0 h1 (lX11_firstSplit_2 R I a0 n) ih v2
set_option maxRecDepth 100000 in
set_option maxHeartbeats 4000000 in
theorem tX11_firstSplit {Z : am_Z} (R : am_R) (I : am_I) (L : am_L) (a0 : Nat) (h_a0 : am_G Z a0 = some (.inl 11)) : am_M Z yX11_firstSplit kX11_firstSplit [.ref (am_B Z + a0)] R I L (pX11_firstSplit R I a0) (fun r : Int32 => (some (.int r), R, I, L)) := by
  refine am_entry (ls := [(0, .ref (am_B Z + a0))]) (by decide) hX11_firstSplit rfl (Nat.le_of_ble_eq_true rfl) rfl (fun X => ?_)
  unfold pX11_firstSplit
  refine am_iconst (v := 0) dX11_firstSplit_0 (by decide) ?_
  refine am_istore_n (ls' := [(1, .int (0 : Int32)), (0, .ref (am_B Z + a0))]) dX11_firstSplit_1 rfl (Nat.le_of_ble_eq_true rfl) rfl ?_
  refine am_sub (ls' := [(0, .ref (am_B Z + a0)), (1, .int (0 : Int32))]) [1, 0] rfl ?_
  exact uX11_firstSplit_2 R I L a0 h_a0 am_fu (0 : Int32)
abbrev kX11_witnessState : am_K := (cX11_witnessState, 2, RX11, wsX11_witnessState, some .int, { frames := 6, cells := 0, slots := 0, locals := 149 })
theorem hX11_witnessState : am_cl yX11_witnessState kX11_witnessState 1 := ⟨⟨_, rfl⟩, rfl, rfl, by decide +kernel, by decide +kernel, by decide +kernel⟩
theorem iX11_witnessState_11 : ∀ w ∈ u_ws RX11 TX11 50, w ∈ wsX11_witnessState := by decide +kernel
theorem fX11_witnessState_285 : Cond.fieldLink RX11 285 "AmbiguityAnalyzerModel" "splits" "I" ∈ wsX11_witnessState := by decide +kernel
theorem fX11_witnessState_282 : Cond.fieldLink RX11 282 "AmbiguityAnalyzerModel" "loops" "I" ∈ wsX11_witnessState := by decide +kernel
set_option maxRecDepth 100000 in
set_option maxHeartbeats 4000000 in
theorem tX11_witnessState {Z : am_Z} (R : am_R) (I : am_I) (L : am_L) (a0 : Nat) (x1 : Int32) (h_a0 : am_G Z a0 = some (.inl 11)) : am_M Z yX11_witnessState kX11_witnessState [.ref (am_B Z + a0), .int x1] R I L (pX11_witnessState R I a0 x1) (fun r : Int32 × am_I => (some (.int r.1), R, r.2, L)) := by
  refine am_entry (ls := [(0, .ref (am_B Z + a0)), (1, .int x1)]) (by decide) hX11_witnessState rfl (Nat.le_of_ble_eq_true rfl) rfl (fun X => ?_)
  unfold pX11_witnessState
  refine am_iload_n dX11_witnessState_0 rfl 1 rfl ?_
  refine am_i2l dX11_witnessState_1 ?_
  refine am_lconst (v := 1) dX11_witnessState_2 (by decide) ?_
  refine am_ldc2 (v := 2) dX11_witnessState_3 (by decide +kernel) ?_
  refine am_callS [.long (Int32.toInt64 x1), .long (1 : Int64), .long (2 : Int64)] (tX11_isBetween R I L (Int32.toInt64 x1) (1 : Int64) (2 : Int64)) gX11_witnessState_X11_isBetween hX11_isBetween ⟨Nat.le_of_ble_eq_true rfl, Nat.le_of_ble_eq_true rfl⟩ rfl rfl (Nat.le_of_ble_eq_true rfl) dX11_witnessState_6 (fun r1 => ?_)
  show am_V Z X kX11_witnessState (fun r : Int32 × am_I => (some (.int r.1), R, r.2, L)) 9 [(0, .ref (am_B Z + a0)), (1, .int x1)] [.int r1] R I L _
  refine am_if_ne (tgt := 14) dX11_witnessState_9 rfl (fun e2 => ?_) (fun e2 => ?_)
  · refine am_aload_n dX11_witnessState_14 rfl 0 rfl ?_
    refine am_callV [] (tX11_finds R I L a0 h_a0) h_a0 clX11 gX11_witnessState_X11_finds hX11_finds rfl ⟨Nat.le_of_ble_eq_true rfl, Nat.le_of_ble_eq_true rfl⟩ rfl rfl (Nat.le_of_ble_eq_true rfl) dX11_witnessState_15 (fun r3 => ?_)
    show am_V Z X kX11_witnessState (fun r : Int32 × am_I => (some (.int r.1), R, r.2, L)) 18 [(0, .ref (am_B Z + a0)), (1, .int x1)] [] R r3 L _
    refine am_iload_n dX11_witnessState_18 rfl 1 rfl ?_
    refine am_iconst (v := 1) dX11_witnessState_19 (by decide) ?_
    refine am_icmp_ne (tgt := 43) dX11_witnessState_20 rfl (fun e4 => ?_) (fun e4 => ?_)
    · refine am_aload_n dX11_witnessState_43 rfl 0 rfl ?_
      refine am_get 11 28 clX11 (Nat.le_of_ble_eq_true rfl) h_a0 iX11_witnessState_11 fX11_witnessState_285 rfl dX11_witnessState_44 ?_
      refine am_if_ne (tgt := 55) dX11_witnessState_47 rfl (fun e5 => ?_) (fun e5 => ?_)
      · refine am_aload_n dX11_witnessState_55 rfl 0 rfl ?_
        refine am_callV [] (tX11_firstSplit R r3 L a0 h_a0) h_a0 clX11 gX11_witnessState_X11_firstSplit hX11_firstSplit rfl ⟨Nat.le_of_ble_eq_true rfl, Nat.le_of_ble_eq_true rfl⟩ rfl rfl (Nat.le_of_ble_eq_true rfl) dX11_witnessState_56 (fun r6 => ?_)
        show am_V Z X kX11_witnessState (fun r : Int32 × am_I => (some (.int r.1), R, r.2, L)) 59 [(0, .ref (am_B Z + a0)), (1, .int x1)] [.int r6] R r3 L _
        refine am_bipush (v := 6) dX11_witnessState_59 (by decide) ?_
        refine am_idivC dX11_witnessState_61 (by decide) ?_
        refine am_bipush (v := 8) dX11_witnessState_62 (by decide) ?_
        refine am_imul dX11_witnessState_64 ?_
        refine am_aload_n dX11_witnessState_65 rfl 0 rfl ?_
        refine am_callV [] (tX11_firstSplit R r3 L a0 h_a0) h_a0 clX11 gX11_witnessState_X11_firstSplit hX11_firstSplit rfl ⟨Nat.le_of_ble_eq_true rfl, Nat.le_of_ble_eq_true rfl⟩ rfl rfl (Nat.le_of_ble_eq_true rfl) dX11_witnessState_66 (fun r7 => ?_)
        show am_V Z X kX11_witnessState (fun r : Int32 × am_I => (some (.int r.1), R, r.2, L)) 69 [(0, .ref (am_B Z + a0)), (1, .int x1)] [.int r7, .int ((r6 / (6 : Int32)) * (8 : Int32))] R r3 L _
        refine am_bipush (v := 6) dX11_witnessState_69 (by decide) ?_
        refine am_iremC dX11_witnessState_71 (by decide) ?_
        refine am_iadd dX11_witnessState_72 ?_
        exact am_iret dX11_witnessState_73 rfl rfl
      · refine am_bipush (v := -4) dX11_witnessState_50 (by decide) ?_
        refine am_goto (tgt := 73) dX11_witnessState_52 rfl ?_
        exact am_iret dX11_witnessState_73 rfl rfl
    · refine am_aload_n dX11_witnessState_23 rfl 0 rfl ?_
      refine am_get 11 27 clX11 (Nat.le_of_ble_eq_true rfl) h_a0 iX11_witnessState_11 fX11_witnessState_282 rfl dX11_witnessState_24 ?_
      refine am_if_ne (tgt := 35) dX11_witnessState_27 rfl (fun e8 => ?_) (fun e8 => ?_)
      · refine am_aload_n dX11_witnessState_35 rfl 0 rfl ?_
        refine am_get 11 27 clX11 (Nat.le_of_ble_eq_true rfl) h_a0 iX11_witnessState_11 fX11_witnessState_282 rfl dX11_witnessState_36 ?_
        refine am_callS [.int (r3 a0 27)] (tX11_lowest R r3 L (r3 a0 27)) gX11_witnessState_X11_lowest hX11_lowest ⟨Nat.le_of_ble_eq_true rfl, Nat.le_of_ble_eq_true rfl⟩ rfl rfl (Nat.le_of_ble_eq_true rfl) dX11_witnessState_39 (fun r9 => ?_)
        show am_V Z X kX11_witnessState (fun r : Int32 × am_I => (some (.int r.1), R, r.2, L)) 42 [(0, .ref (am_B Z + a0)), (1, .int x1)] [.int r9] R r3 L _
        exact am_iret dX11_witnessState_42 rfl rfl
      · refine am_bipush (v := -4) dX11_witnessState_30 (by decide) ?_
        refine am_goto (tgt := 42) dX11_witnessState_32 rfl ?_
        exact am_iret dX11_witnessState_42 rfl rfl
  · refine am_iconst (v := -1) dX11_witnessState_12 (by decide) ?_
    exact am_iret dX11_witnessState_13 rfl rfl
