abbrev kX11_nobodyIsHere : am_K := (cX11_nobodyIsHere, 2, RX11, wsX11_nobodyIsHere, none, { frames := 0, cells := 0, slots := 0, locals := 0 })
theorem hX11_nobodyIsHere : am_cl yX11_nobodyIsHere kX11_nobodyIsHere 0 := ⟨⟨_, rfl⟩, rfl, rfl, by decide +kernel, by decide +kernel, by decide +kernel⟩
theorem iX11_nobodyIsHere_11 : ∀ w ∈ u_ws RX11 TX11 50, w ∈ wsX11_nobodyIsHere := by decide +kernel
theorem fX11_nobodyIsHere_54 : Cond.fieldLink RX11 54 "AmbiguityAnalyzerModel" "isHere" "[Z" ∈ wsX11_nobodyIsHere := by decide +kernel
theorem fX11_nobodyIsHere_58 : Cond.fieldLink RX11 58 "AmbiguityAnalyzerModel" "isThere" "[Z" ∈ wsX11_nobodyIsHere := by decide +kernel
set_option maxRecDepth 100000 in
set_option maxHeartbeats 4000000 in
theorem vX11_nobodyIsHere_2 {Z : am_Z} {X : am_X} (R : am_R) (L : am_L) (a0 : Nat) (h1 : am_G Z a0 = some (.inl 11)) (ih4 : Int32 → am_I → Option (am_I)) (hih4 : ∀ (v2 : Int32) (J3 : am_I), am_V Z X kX11_nobodyIsHere (fun r : am_I => (none, R, r, L)) 2 [(0, .ref (am_B Z + a0)), (1, .int v2)] [] R J3 L (ih4 v2 J3)) (v2 : Int32) (J3 : am_I) : am_V Z X kX11_nobodyIsHere (fun r : am_I => (none, R, r, L)) 2 [(0, .ref (am_B Z + a0)), (1, .int v2)] [] R J3 L (sX11_nobodyIsHere_2 R a0 ih4 v2 J3) := by
  unfold sX11_nobodyIsHere_2
  refine am_iload_n dX11_nobodyIsHere_2 rfl 1 rfl ?_
  refine am_sipush (v := 216) dX11_nobodyIsHere_3 (by decide) ?_
  refine am_icmp_ge (tgt := 29) dX11_nobodyIsHere_6 rfl (fun e5 => ?_) (fun e5 => ?_)
  · exact am_vret dX11_nobodyIsHere_29 rfl rfl
  · refine am_aload_n dX11_nobodyIsHere_9 rfl 0 rfl ?_
    refine am_getR 11 23 clX11 (Nat.le_of_ble_eq_true rfl) h1 iX11_nobodyIsHere_11 fX11_nobodyIsHere_54 rfl rfl dX11_nobodyIsHere_10 (fun h6 => ?_)
    refine am_iload_n dX11_nobodyIsHere_13 rfl 1 rfl ?_
    refine am_iconst (v := 0) dX11_nobodyIsHere_14 (by decide) ?_
    refine am_zast h6 (by decide) dX11_nobodyIsHere_15 ?_
    refine am_letI (fun J7 => ?_)
    refine am_aload_n dX11_nobodyIsHere_16 rfl 0 rfl ?_
    refine am_getR 11 24 clX11 (Nat.le_of_ble_eq_true rfl) h1 iX11_nobodyIsHere_11 fX11_nobodyIsHere_58 rfl rfl dX11_nobodyIsHere_17 (fun h8 => ?_)
    refine am_iload_n dX11_nobodyIsHere_20 rfl 1 rfl ?_
    refine am_iconst (v := 0) dX11_nobodyIsHere_21 (by decide) ?_
    refine am_zast h8 (by decide) dX11_nobodyIsHere_22 ?_
    refine am_letI (fun J9 => ?_)
    refine am_iinc (j := 1) (ls' := [(1, .int (v2 + (1 : Int32))), (0, .ref (am_B Z + a0))]) dX11_nobodyIsHere_23 rfl rfl (Nat.le_of_ble_eq_true rfl) rfl ?_
    refine am_goto (tgt := 2) dX11_nobodyIsHere_26 rfl ?_
    refine am_sub (ls' := [(0, .ref (am_B Z + a0)), (1, .int (v2 + (1 : Int32)))]) [1, 0] rfl ?_
    exact hih4 (v2 + (1 : Int32)) J9
theorem uX11_nobodyIsHere_2 {Z : am_Z} {X : am_X} (R : am_R) (L : am_L) (a0 : Nat) (h1 : am_G Z a0 = some (.inl 11)) : ∀ (n : Nat) (v2 : Int32) (J3 : am_I), am_V Z X kX11_nobodyIsHere (fun r : am_I => (none, R, r, L)) 2 [(0, .ref (am_B Z + a0)), (1, .int v2)] [] R J3 L (lX11_nobodyIsHere_2 R a0 n v2 J3) := by
  intro n
  induction n with
  | zero => intro _ _; exact am_none
  | succ n ih => exact fun v2 J3 => vX11_nobodyIsHere_2 R L a0 h1 (lX11_nobodyIsHere_2 R a0 n) ih v2 J3
set_option maxRecDepth 100000 in
set_option maxHeartbeats 4000000 in
theorem tX11_nobodyIsHere {Z : am_Z} (R : am_R) (I : am_I) (L : am_L) (a0 : Nat) (h_a0 : am_G Z a0 = some (.inl 11)) : am_M Z yX11_nobodyIsHere kX11_nobodyIsHere [.ref (am_B Z + a0)] R I L (pX11_nobodyIsHere R I a0) (fun r : am_I => (none, R, r, L)) := by
  refine am_entry (ls := [(0, .ref (am_B Z + a0))]) (by decide) hX11_nobodyIsHere rfl (Nat.le_of_ble_eq_true rfl) rfl (fun X => ?_)
  unfold pX11_nobodyIsHere
  refine am_iconst (v := 0) dX11_nobodyIsHere_0 (by decide) ?_
  refine am_istore_n (ls' := [(1, .int (0 : Int32)), (0, .ref (am_B Z + a0))]) dX11_nobodyIsHere_1 rfl (Nat.le_of_ble_eq_true rfl) rfl ?_
  refine am_sub (ls' := [(0, .ref (am_B Z + a0)), (1, .int (0 : Int32))]) [1, 0] rfl ?_
  exact uX11_nobodyIsHere_2 R L a0 h_a0 am_fu (0 : Int32) I
abbrev kX11_spellAmbiguous : am_K := (cX11_spellAmbiguous, 4, RX11, wsX11_spellAmbiguous, some .int, { frames := 4, cells := 0, slots := 0, locals := 102 })
theorem hX11_spellAmbiguous : am_cl yX11_spellAmbiguous kX11_spellAmbiguous 0 := ⟨⟨_, rfl⟩, rfl, rfl, by decide +kernel, by decide +kernel, by decide +kernel⟩
theorem iX11_spellAmbiguous_11 : ∀ w ∈ u_ws RX11 TX11 50, w ∈ wsX11_spellAmbiguous := by decide +kernel
theorem fX11_spellAmbiguous_19 : Cond.fieldLink RX11 19 "AmbiguityAnalyzerModel" "states" "I" ∈ wsX11_spellAmbiguous := by decide +kernel
theorem fX11_spellAmbiguous_115 : Cond.fieldLink RX11 115 "AmbiguityAnalyzerModel" "finals" "I" ∈ wsX11_spellAmbiguous := by decide +kernel
theorem fX11_spellAmbiguous_112 : Cond.fieldLink RX11 112 "AmbiguityAnalyzerModel" "initials" "I" ∈ wsX11_spellAmbiguous := by decide +kernel
theorem fX11_spellAmbiguous_45 : Cond.fieldLink RX11 45 "AmbiguityAnalyzerModel" "distance" "[I" ∈ wsX11_spellAmbiguous := by decide +kernel
theorem fX11_spellAmbiguous_54 : Cond.fieldLink RX11 54 "AmbiguityAnalyzerModel" "isHere" "[Z" ∈ wsX11_spellAmbiguous := by decide +kernel
set_option maxRecDepth 100000 in
set_option maxHeartbeats 4000000 in
theorem vX11_spellAmbiguous_206 {Z : am_Z} {X : am_X} (R : am_R) (L : am_L) (a0 : Nat) (v6 : Int32) (v13 : Int32) (h19 : am_G Z a0 = some (.inl 11)) (j17 : am_I → Option (Int32 × am_I)) (hj17 : ∀ (J18 : am_I), am_V Z X kX11_spellAmbiguous (fun r : Int32 × am_I => (some (.int r.1), R, r.2, L)) 289 [(0, .ref (am_B Z + a0)), (1, .int v6), (2, .int v13)] [] R J18 L (j17 J18)) (ih22 : Int32 → am_I → Option (Int32 × am_I)) (hih22 : ∀ (v20 : Int32) (J21 : am_I), am_V Z X kX11_spellAmbiguous (fun r : Int32 × am_I => (some (.int r.1), R, r.2, L)) 206 [(0, .ref (am_B Z + a0)), (1, .int v6), (2, .int v13), (3, .int v20)] [] R J21 L (ih22 v20 J21)) (v20 : Int32) (J21 : am_I) : am_V Z X kX11_spellAmbiguous (fun r : Int32 × am_I => (some (.int r.1), R, r.2, L)) 206 [(0, .ref (am_B Z + a0)), (1, .int v6), (2, .int v13), (3, .int v20)] [] R J21 L (sX11_spellAmbiguous_206 R a0 v6 v13 j17 ih22 v20 J21) := by
  unfold sX11_spellAmbiguous_206
  refine am_iload_n dX11_spellAmbiguous_206 rfl 3 rfl ?_
  refine am_aload_n dX11_spellAmbiguous_207 rfl 0 rfl ?_
  refine am_get 11 3 clX11 (Nat.le_of_ble_eq_true rfl) h19 iX11_spellAmbiguous_11 fX11_spellAmbiguous_19 rfl dX11_spellAmbiguous_208 ?_
  refine am_icmp_ge (tgt := 289) dX11_spellAmbiguous_211 rfl (fun e23 => ?_) (fun e23 => ?_)
  · refine am_sub (ls' := [(0, .ref (am_B Z + a0)), (1, .int v6), (2, .int v13)]) [0, 1, 2] rfl ?_
    exact hj17 J21
  · refine am_aload_n dX11_spellAmbiguous_214 rfl 0 rfl ?_
    refine am_get 11 4 clX11 (Nat.le_of_ble_eq_true rfl) h19 iX11_spellAmbiguous_11 fX11_spellAmbiguous_112 rfl dX11_spellAmbiguous_215 ?_
    refine am_i2l dX11_spellAmbiguous_218 ?_
    refine am_iload_n dX11_spellAmbiguous_219 rfl 2 rfl ?_
    refine am_callS [.long (Int32.toInt64 (J21 a0 4)), .int v13] (tX11_has R J21 L (Int32.toInt64 (J21 a0 4)) v13) gX11_spellAmbiguous_X11_has hX11_has ⟨Nat.le_of_ble_eq_true rfl, Nat.le_of_ble_eq_true rfl⟩ rfl rfl (Nat.le_of_ble_eq_true rfl) dX11_spellAmbiguous_220 (fun r24 => ?_)
    show am_V Z X kX11_spellAmbiguous (fun r : Int32 × am_I => (some (.int r.1), R, r.2, L)) 223 [(0, .ref (am_B Z + a0)), (1, .int v6), (2, .int v13), (3, .int v20)] [.int r24] R J21 L _
    refine am_jnV (fun j25 ej25 => ?_)
    have hj25 : ∀ (J26 : am_I), am_V Z X kX11_spellAmbiguous (fun r : Int32 × am_I => (some (.int r.1), R, r.2, L)) 283 [(0, .ref (am_B Z + a0)), (1, .int v6), (2, .int v13), (3, .int v20)] [] R J26 L (j25 J26) := by
      subst ej25
      intro J26
      show am_V Z X kX11_spellAmbiguous (fun r : Int32 × am_I => (some (.int r.1), R, r.2, L)) 283 [(0, .ref (am_B Z + a0)), (1, .int v6), (2, .int v13), (3, .int v20)] [] R J26 L _
      refine am_iinc (j := 3) (ls' := [(3, .int (v20 + (1 : Int32))), (0, .ref (am_B Z + a0)), (1, .int v6), (2, .int v13)]) dX11_spellAmbiguous_283 rfl rfl (Nat.le_of_ble_eq_true rfl) rfl ?_
      refine am_goto (tgt := 206) dX11_spellAmbiguous_286 rfl ?_
      refine am_sub (ls' := [(0, .ref (am_B Z + a0)), (1, .int v6), (2, .int v13), (3, .int (v20 + (1 : Int32)))]) [1, 2, 3, 0] rfl ?_
      exact hih22 (v20 + (1 : Int32)) J26
    refine am_if_eq (tgt := 283) dX11_spellAmbiguous_223 rfl (fun e27 => ?_) (fun e27 => ?_)
    · exact hj25 J21
    · refine am_aload_n dX11_spellAmbiguous_226 rfl 0 rfl ?_
      refine am_get 11 4 clX11 (Nat.le_of_ble_eq_true rfl) h19 iX11_spellAmbiguous_11 fX11_spellAmbiguous_112 rfl dX11_spellAmbiguous_227 ?_
      refine am_i2l dX11_spellAmbiguous_230 ?_
      refine am_iload_n dX11_spellAmbiguous_231 rfl 3 rfl ?_
      refine am_callS [.long (Int32.toInt64 (J21 a0 4)), .int v20] (tX11_has R J21 L (Int32.toInt64 (J21 a0 4)) v20) gX11_spellAmbiguous_X11_has hX11_has ⟨Nat.le_of_ble_eq_true rfl, Nat.le_of_ble_eq_true rfl⟩ rfl rfl (Nat.le_of_ble_eq_true rfl) dX11_spellAmbiguous_232 (fun r28 => ?_)
      show am_V Z X kX11_spellAmbiguous (fun r : Int32 × am_I => (some (.int r.1), R, r.2, L)) 235 [(0, .ref (am_B Z + a0)), (1, .int v6), (2, .int v13), (3, .int v20)] [.int r28] R J21 L _
      refine am_if_eq (tgt := 283) dX11_spellAmbiguous_235 rfl (fun e29 => ?_) (fun e29 => ?_)
      · exact hj25 J21
      · refine am_aload_n dX11_spellAmbiguous_238 rfl 0 rfl ?_
        refine am_getR 11 19 clX11 (Nat.le_of_ble_eq_true rfl) h19 iX11_spellAmbiguous_11 fX11_spellAmbiguous_45 rfl rfl dX11_spellAmbiguous_239 (fun h30 => ?_)
        refine am_iload_n dX11_spellAmbiguous_242 rfl 2 rfl ?_
        refine am_iload_n dX11_spellAmbiguous_243 rfl 3 rfl ?_
        refine am_iload_n dX11_spellAmbiguous_244 rfl 2 rfl ?_
        refine am_iload_n dX11_spellAmbiguous_245 rfl 3 rfl ?_
        refine am_letJ (fun k32 ek32 => ?_)
        have hk32 : ∀ v31 : Int32, am_V Z X kX11_spellAmbiguous (fun r : Int32 × am_I => (some (.int r.1), R, r.2, L)) 254 [(0, .ref (am_B Z + a0)), (1, .int v6), (2, .int v13), (3, .int v20)] [.int v31, .int v20, .int v13, .ref (am_B Z + (R a0 19))] R J21 L (k32 v31) := by
          subst ek32
          intro v31
          show am_V Z X kX11_spellAmbiguous (fun r : Int32 × am_I => (some (.int r.1), R, r.2, L)) 254 [(0, .ref (am_B Z + a0)), (1, .int v6), (2, .int v13), (3, .int v20)] [.int v31, .int v20, .int v13, .ref (am_B Z + (R a0 19))] R J21 L _
          refine am_callS [.int v13, .int v20, .int v31] (tX11_pairNode R J21 L v13 v20 v31) gX11_spellAmbiguous_X11_pairNode hX11_pairNode ⟨Nat.le_of_ble_eq_true rfl, Nat.le_of_ble_eq_true rfl⟩ rfl rfl (Nat.le_of_ble_eq_true rfl) dX11_spellAmbiguous_254 (fun r33 => ?_)
          show am_V Z X kX11_spellAmbiguous (fun r : Int32 × am_I => (some (.int r.1), R, r.2, L)) 257 [(0, .ref (am_B Z + a0)), (1, .int v6), (2, .int v13), (3, .int v20)] [.int r33, .ref (am_B Z + (R a0 19))] R J21 L _
          refine am_iald h30 dX11_spellAmbiguous_257 ?_
          refine am_iload_n dX11_spellAmbiguous_258 rfl 1 rfl ?_
          refine am_icmp_ne (tgt := 283) dX11_spellAmbiguous_259 rfl (fun e34 => ?_) (fun e34 => ?_)
          · exact hj25 J21
          · refine am_aload_n dX11_spellAmbiguous_262 rfl 0 rfl ?_
            refine am_getR 11 23 clX11 (Nat.le_of_ble_eq_true rfl) h19 iX11_spellAmbiguous_11 fX11_spellAmbiguous_54 rfl rfl dX11_spellAmbiguous_263 (fun h35 => ?_)
            refine am_iload_n dX11_spellAmbiguous_266 rfl 2 rfl ?_
            refine am_iload_n dX11_spellAmbiguous_267 rfl 3 rfl ?_
            refine am_iload_n dX11_spellAmbiguous_268 rfl 2 rfl ?_
            refine am_iload_n dX11_spellAmbiguous_269 rfl 3 rfl ?_
            refine am_letJ (fun k37 ek37 => ?_)
            have hk37 : ∀ v36 : Int32, am_V Z X kX11_spellAmbiguous (fun r : Int32 × am_I => (some (.int r.1), R, r.2, L)) 278 [(0, .ref (am_B Z + a0)), (1, .int v6), (2, .int v13), (3, .int v20)] [.int v36, .int v20, .int v13, .ref (am_B Z + (R a0 23))] R J21 L (k37 v36) := by
              subst ek37
              intro v36
              show am_V Z X kX11_spellAmbiguous (fun r : Int32 × am_I => (some (.int r.1), R, r.2, L)) 278 [(0, .ref (am_B Z + a0)), (1, .int v6), (2, .int v13), (3, .int v20)] [.int v36, .int v20, .int v13, .ref (am_B Z + (R a0 23))] R J21 L _
              refine am_callS [.int v13, .int v20, .int v36] (tX11_pairNode R J21 L v13 v20 v36) gX11_spellAmbiguous_X11_pairNode hX11_pairNode ⟨Nat.le_of_ble_eq_true rfl, Nat.le_of_ble_eq_true rfl⟩ rfl rfl (Nat.le_of_ble_eq_true rfl) dX11_spellAmbiguous_278 (fun r38 => ?_)
              show am_V Z X kX11_spellAmbiguous (fun r : Int32 × am_I => (some (.int r.1), R, r.2, L)) 281 [(0, .ref (am_B Z + a0)), (1, .int v6), (2, .int v13), (3, .int v20)] [.int r38, .ref (am_B Z + (R a0 23))] R J21 L _
              refine am_iconst (v := 1) dX11_spellAmbiguous_281 (by decide) ?_
              refine am_zast h35 (by decide) dX11_spellAmbiguous_282 ?_
              refine am_letI (fun J39 => ?_)
              exact hj25 J39
            refine am_icmp_eqL (tgt := 277) dX11_spellAmbiguous_270 rfl (fun e40 => ?_) (fun e40 => ?_)
            · refine am_iconst (v := 0) dX11_spellAmbiguous_277 (by decide) ?_
              exact hk37 _
            · refine am_iconst (v := 1) dX11_spellAmbiguous_273 (by decide) ?_
              refine am_goto (tgt := 278) dX11_spellAmbiguous_274 rfl ?_
              exact hk37 _
        refine am_icmp_eqL (tgt := 253) dX11_spellAmbiguous_246 rfl (fun e41 => ?_) (fun e41 => ?_)
        · refine am_iconst (v := 0) dX11_spellAmbiguous_253 (by decide) ?_
          exact hk32 _
        · refine am_iconst (v := 1) dX11_spellAmbiguous_249 (by decide) ?_
          refine am_goto (tgt := 254) dX11_spellAmbiguous_250 rfl ?_
          exact hk32 _
theorem uX11_spellAmbiguous_206 {Z : am_Z} {X : am_X} (R : am_R) (L : am_L) (a0 : Nat) (v6 : Int32) (v13 : Int32) (h19 : am_G Z a0 = some (.inl 11)) (j17 : am_I → Option (Int32 × am_I)) (hj17 : ∀ (J18 : am_I), am_V Z X kX11_spellAmbiguous (fun r : Int32 × am_I => (some (.int r.1), R, r.2, L)) 289 [(0, .ref (am_B Z + a0)), (1, .int v6), (2, .int v13)] [] R J18 L (j17 J18)) : ∀ (n : Nat) (v20 : Int32) (J21 : am_I), am_V Z X kX11_spellAmbiguous (fun r : Int32 × am_I => (some (.int r.1), R, r.2, L)) 206 [(0, .ref (am_B Z + a0)), (1, .int v6), (2, .int v13), (3, .int v20)] [] R J21 L (lX11_spellAmbiguous_206 R a0 v6 v13 j17 n v20 J21) := by
  intro n
  induction n with
  | zero => intro _ _; exact am_none
  | succ n ih => exact fun v20 J21 => vX11_spellAmbiguous_206 R L a0 v6 v13 h19 j17 hj17 (lX11_spellAmbiguous_206 R a0 v6 v13 j17 n) ih v20 J21
set_option maxRecDepth 100000 in
set_option maxHeartbeats 4000000 in
theorem vX11_spellAmbiguous_196 {Z : am_Z} {X : am_X} (R : am_R) (L : am_L) (a0 : Nat) (v6 : Int32) (h12 : am_G Z a0 = some (.inl 11)) (j9 : am_I → Option (Int32 × am_I)) (hj9 : ∀ (J10 : am_I), am_V Z X kX11_spellAmbiguous (fun r : Int32 × am_I => (some (.int r.1), R, r.2, L)) 295 [(0, .ref (am_B Z + a0)), (1, .int v6)] [] R J10 L (j9 J10)) (ih15 : Int32 → am_I → Option (Int32 × am_I)) (hih15 : ∀ (v13 : Int32) (J14 : am_I), am_V Z X kX11_spellAmbiguous (fun r : Int32 × am_I => (some (.int r.1), R, r.2, L)) 196 [(0, .ref (am_B Z + a0)), (1, .int v6), (2, .int v13)] [] R J14 L (ih15 v13 J14)) (v13 : Int32) (J14 : am_I) : am_V Z X kX11_spellAmbiguous (fun r : Int32 × am_I => (some (.int r.1), R, r.2, L)) 196 [(0, .ref (am_B Z + a0)), (1, .int v6), (2, .int v13)] [] R J14 L (sX11_spellAmbiguous_196 R a0 v6 j9 ih15 v13 J14) := by
  unfold sX11_spellAmbiguous_196
  refine am_iload_n dX11_spellAmbiguous_196 rfl 2 rfl ?_
  refine am_aload_n dX11_spellAmbiguous_197 rfl 0 rfl ?_
  refine am_get 11 3 clX11 (Nat.le_of_ble_eq_true rfl) h12 iX11_spellAmbiguous_11 fX11_spellAmbiguous_19 rfl dX11_spellAmbiguous_198 ?_
  refine am_icmp_ge (tgt := 295) dX11_spellAmbiguous_201 rfl (fun e16 => ?_) (fun e16 => ?_)
  · refine am_sub (ls' := [(0, .ref (am_B Z + a0)), (1, .int v6)]) [0, 1] rfl ?_
    exact hj9 J14
  · refine am_iconst (v := 0) dX11_spellAmbiguous_204 (by decide) ?_
    refine am_istore_n (ls' := [(3, .int (0 : Int32)), (0, .ref (am_B Z + a0)), (1, .int v6), (2, .int v13)]) dX11_spellAmbiguous_205 rfl (Nat.le_of_ble_eq_true rfl) rfl ?_
    refine am_jnV (fun j17 ej17 => ?_)
    have hj17 : ∀ (J18 : am_I), am_V Z X kX11_spellAmbiguous (fun r : Int32 × am_I => (some (.int r.1), R, r.2, L)) 289 [(0, .ref (am_B Z + a0)), (1, .int v6), (2, .int v13)] [] R J18 L (j17 J18) := by
      subst ej17
      intro J18
      show am_V Z X kX11_spellAmbiguous (fun r : Int32 × am_I => (some (.int r.1), R, r.2, L)) 289 [(0, .ref (am_B Z + a0)), (1, .int v6), (2, .int v13)] [] R J18 L _
      refine am_iinc (j := 2) (ls' := [(2, .int (v13 + (1 : Int32))), (0, .ref (am_B Z + a0)), (1, .int v6)]) dX11_spellAmbiguous_289 rfl rfl (Nat.le_of_ble_eq_true rfl) rfl ?_
      refine am_goto (tgt := 196) dX11_spellAmbiguous_292 rfl ?_
      refine am_sub (ls' := [(0, .ref (am_B Z + a0)), (1, .int v6), (2, .int (v13 + (1 : Int32)))]) [1, 2, 0] rfl ?_
      exact hih15 (v13 + (1 : Int32)) J18
    refine am_sub (ls' := [(0, .ref (am_B Z + a0)), (1, .int v6), (2, .int v13), (3, .int (0 : Int32))]) [1, 2, 3, 0] rfl ?_
    exact uX11_spellAmbiguous_206 R L a0 v6 v13 h12 j17 hj17 am_fu (0 : Int32) J14
theorem uX11_spellAmbiguous_196 {Z : am_Z} {X : am_X} (R : am_R) (L : am_L) (a0 : Nat) (v6 : Int32) (h12 : am_G Z a0 = some (.inl 11)) (j9 : am_I → Option (Int32 × am_I)) (hj9 : ∀ (J10 : am_I), am_V Z X kX11_spellAmbiguous (fun r : Int32 × am_I => (some (.int r.1), R, r.2, L)) 295 [(0, .ref (am_B Z + a0)), (1, .int v6)] [] R J10 L (j9 J10)) : ∀ (n : Nat) (v13 : Int32) (J14 : am_I), am_V Z X kX11_spellAmbiguous (fun r : Int32 × am_I => (some (.int r.1), R, r.2, L)) 196 [(0, .ref (am_B Z + a0)), (1, .int v6), (2, .int v13)] [] R J14 L (lX11_spellAmbiguous_196 R a0 v6 j9 n v13 J14) := by
  intro n
  induction n with
  | zero => intro _ _; exact am_none
  | succ n ih => exact fun v13 J14 => vX11_spellAmbiguous_196 R L a0 v6 h12 j9 hj9 (lX11_spellAmbiguous_196 R a0 v6 j9 n) ih v13 J14
set_option maxRecDepth 100000 in
set_option maxHeartbeats 4000000 in
theorem vX11_spellAmbiguous_91 {Z : am_Z} {X : am_X} (R : am_R) (L : am_L) (a0 : Nat) (v44 : Int32) (r4 : am_I) (h49 : am_G Z a0 = some (.inl 11)) (j47 : Int32 → Option (Int32 × am_I)) (hj47 : ∀ (v48 : Int32), am_V Z X kX11_spellAmbiguous (fun r : Int32 × am_I => (some (.int r.1), R, r.2, L)) 174 [(0, .ref (am_B Z + a0)), (1, .int v48), (2, .int v44)] [] R r4 L (j47 v48)) (ih52 : Int32 → Int32 → Option (Int32 × am_I)) (hih52 : ∀ (v50 : Int32) (v51 : Int32), am_V Z X kX11_spellAmbiguous (fun r : Int32 × am_I => (some (.int r.1), R, r.2, L)) 91 [(0, .ref (am_B Z + a0)), (1, .int v50), (2, .int v44), (3, .int v51)] [] R r4 L (ih52 v50 v51)) (v50 : Int32) (v51 : Int32) : am_V Z X kX11_spellAmbiguous (fun r : Int32 × am_I => (some (.int r.1), R, r.2, L)) 91 [(0, .ref (am_B Z + a0)), (1, .int v50), (2, .int v44), (3, .int v51)] [] R r4 L (sX11_spellAmbiguous_91 R a0 v44 r4 j47 ih52 v50 v51) := by
  unfold sX11_spellAmbiguous_91
  refine am_iload_n dX11_spellAmbiguous_91 rfl 3 rfl ?_
  refine am_aload_n dX11_spellAmbiguous_92 rfl 0 rfl ?_
  refine am_get 11 3 clX11 (Nat.le_of_ble_eq_true rfl) h49 iX11_spellAmbiguous_11 fX11_spellAmbiguous_19 rfl dX11_spellAmbiguous_93 ?_
  refine am_icmp_ge (tgt := 174) dX11_spellAmbiguous_96 rfl (fun e53 => ?_) (fun e53 => ?_)
  · refine am_sub (ls' := [(0, .ref (am_B Z + a0)), (1, .int v50), (2, .int v44)]) [0, 1, 2] rfl ?_
    exact hj47 v50
  · refine am_aload_n dX11_spellAmbiguous_99 rfl 0 rfl ?_
    refine am_get 11 4 clX11 (Nat.le_of_ble_eq_true rfl) h49 iX11_spellAmbiguous_11 fX11_spellAmbiguous_112 rfl dX11_spellAmbiguous_100 ?_
    refine am_i2l dX11_spellAmbiguous_103 ?_
    refine am_iload_n dX11_spellAmbiguous_104 rfl 2 rfl ?_
    refine am_callS [.long (Int32.toInt64 (r4 a0 4)), .int v44] (tX11_has R r4 L (Int32.toInt64 (r4 a0 4)) v44) gX11_spellAmbiguous_X11_has hX11_has ⟨Nat.le_of_ble_eq_true rfl, Nat.le_of_ble_eq_true rfl⟩ rfl rfl (Nat.le_of_ble_eq_true rfl) dX11_spellAmbiguous_105 (fun r54 => ?_)
    show am_V Z X kX11_spellAmbiguous (fun r : Int32 × am_I => (some (.int r.1), R, r.2, L)) 108 [(0, .ref (am_B Z + a0)), (1, .int v50), (2, .int v44), (3, .int v51)] [.int r54] R r4 L _
    refine am_jnV (fun j55 ej55 => ?_)
    have hj55 : ∀ (v56 : Int32), am_V Z X kX11_spellAmbiguous (fun r : Int32 × am_I => (some (.int r.1), R, r.2, L)) 168 [(0, .ref (am_B Z + a0)), (1, .int v56), (2, .int v44), (3, .int v51)] [] R r4 L (j55 v56) := by
      subst ej55
      intro v56
      show am_V Z X kX11_spellAmbiguous (fun r : Int32 × am_I => (some (.int r.1), R, r.2, L)) 168 [(0, .ref (am_B Z + a0)), (1, .int v56), (2, .int v44), (3, .int v51)] [] R r4 L _
      refine am_iinc (j := 3) (ls' := [(3, .int (v51 + (1 : Int32))), (0, .ref (am_B Z + a0)), (1, .int v56), (2, .int v44)]) dX11_spellAmbiguous_168 rfl rfl (Nat.le_of_ble_eq_true rfl) rfl ?_
      refine am_goto (tgt := 91) dX11_spellAmbiguous_171 rfl ?_
      refine am_sub (ls' := [(0, .ref (am_B Z + a0)), (1, .int v56), (2, .int v44), (3, .int (v51 + (1 : Int32)))]) [1, 2, 3, 0] rfl ?_
      exact hih52 v56 (v51 + (1 : Int32))
    refine am_if_eq (tgt := 168) dX11_spellAmbiguous_108 rfl (fun e57 => ?_) (fun e57 => ?_)
    · exact hj55 v50
    · refine am_aload_n dX11_spellAmbiguous_111 rfl 0 rfl ?_
      refine am_get 11 4 clX11 (Nat.le_of_ble_eq_true rfl) h49 iX11_spellAmbiguous_11 fX11_spellAmbiguous_112 rfl dX11_spellAmbiguous_112 ?_
      refine am_i2l dX11_spellAmbiguous_115 ?_
      refine am_iload_n dX11_spellAmbiguous_116 rfl 3 rfl ?_
      refine am_callS [.long (Int32.toInt64 (r4 a0 4)), .int v51] (tX11_has R r4 L (Int32.toInt64 (r4 a0 4)) v51) gX11_spellAmbiguous_X11_has hX11_has ⟨Nat.le_of_ble_eq_true rfl, Nat.le_of_ble_eq_true rfl⟩ rfl rfl (Nat.le_of_ble_eq_true rfl) dX11_spellAmbiguous_117 (fun r58 => ?_)
      show am_V Z X kX11_spellAmbiguous (fun r : Int32 × am_I => (some (.int r.1), R, r.2, L)) 120 [(0, .ref (am_B Z + a0)), (1, .int v50), (2, .int v44), (3, .int v51)] [.int r58] R r4 L _
      refine am_if_eq (tgt := 168) dX11_spellAmbiguous_120 rfl (fun e59 => ?_) (fun e59 => ?_)
      · exact hj55 v50
      · refine am_aload_n dX11_spellAmbiguous_123 rfl 0 rfl ?_
        refine am_getR 11 19 clX11 (Nat.le_of_ble_eq_true rfl) h49 iX11_spellAmbiguous_11 fX11_spellAmbiguous_45 rfl rfl dX11_spellAmbiguous_124 (fun h60 => ?_)
        refine am_iload_n dX11_spellAmbiguous_127 rfl 2 rfl ?_
        refine am_iload_n dX11_spellAmbiguous_128 rfl 3 rfl ?_
        refine am_iload_n dX11_spellAmbiguous_129 rfl 2 rfl ?_
        refine am_iload_n dX11_spellAmbiguous_130 rfl 3 rfl ?_
        refine am_letJ (fun k62 ek62 => ?_)
        have hk62 : ∀ v61 : Int32, am_V Z X kX11_spellAmbiguous (fun r : Int32 × am_I => (some (.int r.1), R, r.2, L)) 139 [(0, .ref (am_B Z + a0)), (1, .int v50), (2, .int v44), (3, .int v51)] [.int v61, .int v51, .int v44, .ref (am_B Z + (R a0 19))] R r4 L (k62 v61) := by
          subst ek62
          intro v61
          show am_V Z X kX11_spellAmbiguous (fun r : Int32 × am_I => (some (.int r.1), R, r.2, L)) 139 [(0, .ref (am_B Z + a0)), (1, .int v50), (2, .int v44), (3, .int v51)] [.int v61, .int v51, .int v44, .ref (am_B Z + (R a0 19))] R r4 L _
          refine am_callS [.int v44, .int v51, .int v61] (tX11_pairNode R r4 L v44 v51 v61) gX11_spellAmbiguous_X11_pairNode hX11_pairNode ⟨Nat.le_of_ble_eq_true rfl, Nat.le_of_ble_eq_true rfl⟩ rfl rfl (Nat.le_of_ble_eq_true rfl) dX11_spellAmbiguous_139 (fun r63 => ?_)
          show am_V Z X kX11_spellAmbiguous (fun r : Int32 × am_I => (some (.int r.1), R, r.2, L)) 142 [(0, .ref (am_B Z + a0)), (1, .int v50), (2, .int v44), (3, .int v51)] [.int r63, .ref (am_B Z + (R a0 19))] R r4 L _
          refine am_iald h60 dX11_spellAmbiguous_142 ?_
          refine am_iload_n dX11_spellAmbiguous_143 rfl 1 rfl ?_
          refine am_icmp_ge (tgt := 168) dX11_spellAmbiguous_144 rfl (fun e64 => ?_) (fun e64 => ?_)
          · exact hj55 v50
          · refine am_aload_n dX11_spellAmbiguous_147 rfl 0 rfl ?_
            refine am_getR 11 19 clX11 (Nat.le_of_ble_eq_true rfl) h49 iX11_spellAmbiguous_11 fX11_spellAmbiguous_45 rfl rfl dX11_spellAmbiguous_148 (fun h65 => ?_)
            refine am_iload_n dX11_spellAmbiguous_151 rfl 2 rfl ?_
            refine am_iload_n dX11_spellAmbiguous_152 rfl 3 rfl ?_
            refine am_iload_n dX11_spellAmbiguous_153 rfl 2 rfl ?_
            refine am_iload_n dX11_spellAmbiguous_154 rfl 3 rfl ?_
            refine am_letJ (fun k67 ek67 => ?_)
            have hk67 : ∀ v66 : Int32, am_V Z X kX11_spellAmbiguous (fun r : Int32 × am_I => (some (.int r.1), R, r.2, L)) 163 [(0, .ref (am_B Z + a0)), (2, .int v44), (3, .int v51)] [.int v66, .int v51, .int v44, .ref (am_B Z + (R a0 19))] R r4 L (k67 v66) := by
              subst ek67
              intro v66
              show am_V Z X kX11_spellAmbiguous (fun r : Int32 × am_I => (some (.int r.1), R, r.2, L)) 163 [(0, .ref (am_B Z + a0)), (2, .int v44), (3, .int v51)] [.int v66, .int v51, .int v44, .ref (am_B Z + (R a0 19))] R r4 L _
              refine am_callS [.int v44, .int v51, .int v66] (tX11_pairNode R r4 L v44 v51 v66) gX11_spellAmbiguous_X11_pairNode hX11_pairNode ⟨Nat.le_of_ble_eq_true rfl, Nat.le_of_ble_eq_true rfl⟩ rfl rfl (Nat.le_of_ble_eq_true rfl) dX11_spellAmbiguous_163 (fun r68 => ?_)
              show am_V Z X kX11_spellAmbiguous (fun r : Int32 × am_I => (some (.int r.1), R, r.2, L)) 166 [(0, .ref (am_B Z + a0)), (2, .int v44), (3, .int v51)] [.int r68, .ref (am_B Z + (R a0 19))] R r4 L _
              refine am_iald h65 dX11_spellAmbiguous_166 ?_
              refine am_letTi (fun v69 => ?_)
              refine am_istore_n (ls' := [(1, .int v69), (0, .ref (am_B Z + a0)), (2, .int v44), (3, .int v51)]) dX11_spellAmbiguous_167 rfl (Nat.le_of_ble_eq_true rfl) rfl ?_
              refine am_sub (ls' := [(0, .ref (am_B Z + a0)), (1, .int v69), (2, .int v44), (3, .int v51)]) [1, 0, 2, 3] rfl ?_
              exact hj55 v69
            refine am_icmp_eqL (tgt := 162) dX11_spellAmbiguous_155 rfl (fun e70 => ?_) (fun e70 => ?_)
            · refine am_iconst (v := 0) dX11_spellAmbiguous_162 (by decide) ?_
              refine am_sub (ls' := [(0, .ref (am_B Z + a0)), (2, .int v44), (3, .int v51)]) [0, 2, 3] rfl ?_
              exact hk67 _
            · refine am_iconst (v := 1) dX11_spellAmbiguous_158 (by decide) ?_
              refine am_goto (tgt := 163) dX11_spellAmbiguous_159 rfl ?_
              refine am_sub (ls' := [(0, .ref (am_B Z + a0)), (2, .int v44), (3, .int v51)]) [0, 2, 3] rfl ?_
              exact hk67 _
        refine am_icmp_eqL (tgt := 138) dX11_spellAmbiguous_131 rfl (fun e71 => ?_) (fun e71 => ?_)
        · refine am_iconst (v := 0) dX11_spellAmbiguous_138 (by decide) ?_
          exact hk62 _
        · refine am_iconst (v := 1) dX11_spellAmbiguous_134 (by decide) ?_
          refine am_goto (tgt := 139) dX11_spellAmbiguous_135 rfl ?_
          exact hk62 _
theorem uX11_spellAmbiguous_91 {Z : am_Z} {X : am_X} (R : am_R) (L : am_L) (a0 : Nat) (v44 : Int32) (r4 : am_I) (h49 : am_G Z a0 = some (.inl 11)) (j47 : Int32 → Option (Int32 × am_I)) (hj47 : ∀ (v48 : Int32), am_V Z X kX11_spellAmbiguous (fun r : Int32 × am_I => (some (.int r.1), R, r.2, L)) 174 [(0, .ref (am_B Z + a0)), (1, .int v48), (2, .int v44)] [] R r4 L (j47 v48)) : ∀ (n : Nat) (v50 : Int32) (v51 : Int32), am_V Z X kX11_spellAmbiguous (fun r : Int32 × am_I => (some (.int r.1), R, r.2, L)) 91 [(0, .ref (am_B Z + a0)), (1, .int v50), (2, .int v44), (3, .int v51)] [] R r4 L (lX11_spellAmbiguous_91 R a0 v44 r4 j47 n v50 v51) := by
  intro n
  induction n with
  | zero => intro _ _; exact am_none
  | succ n ih => exact fun v50 v51 => vX11_spellAmbiguous_91 R L a0 v44 r4 h49 j47 hj47 (lX11_spellAmbiguous_91 R a0 v44 r4 j47 n) ih v50 v51
set_option maxRecDepth 100000 in
set_option maxHeartbeats 4000000 in
theorem vX11_spellAmbiguous_81 {Z : am_Z} {X : am_X} (R : am_R) (L : am_L) (a0 : Nat) (r4 : am_I) (h42 : am_G Z a0 = some (.inl 11)) (j5 : Int32 → Option (Int32 × am_I)) (hj5 : ∀ (v6 : Int32), am_V Z X kX11_spellAmbiguous (fun r : Int32 × am_I => (some (.int r.1), R, r.2, L)) 180 [(0, .ref (am_B Z + a0)), (1, .int v6)] [] R r4 L (j5 v6)) (ih45 : Int32 → Int32 → Option (Int32 × am_I)) (hih45 : ∀ (v43 : Int32) (v44 : Int32), am_V Z X kX11_spellAmbiguous (fun r : Int32 × am_I => (some (.int r.1), R, r.2, L)) 81 [(0, .ref (am_B Z + a0)), (1, .int v43), (2, .int v44)] [] R r4 L (ih45 v43 v44)) (v43 : Int32) (v44 : Int32) : am_V Z X kX11_spellAmbiguous (fun r : Int32 × am_I => (some (.int r.1), R, r.2, L)) 81 [(0, .ref (am_B Z + a0)), (1, .int v43), (2, .int v44)] [] R r4 L (sX11_spellAmbiguous_81 R a0 r4 j5 ih45 v43 v44) := by
  unfold sX11_spellAmbiguous_81
  refine am_iload_n dX11_spellAmbiguous_81 rfl 2 rfl ?_
  refine am_aload_n dX11_spellAmbiguous_82 rfl 0 rfl ?_
  refine am_get 11 3 clX11 (Nat.le_of_ble_eq_true rfl) h42 iX11_spellAmbiguous_11 fX11_spellAmbiguous_19 rfl dX11_spellAmbiguous_83 ?_
  refine am_icmp_ge (tgt := 180) dX11_spellAmbiguous_86 rfl (fun e46 => ?_) (fun e46 => ?_)
  · refine am_sub (ls' := [(0, .ref (am_B Z + a0)), (1, .int v43)]) [0, 1] rfl ?_
    exact hj5 v43
  · refine am_iconst (v := 0) dX11_spellAmbiguous_89 (by decide) ?_
    refine am_istore_n (ls' := [(3, .int (0 : Int32)), (0, .ref (am_B Z + a0)), (1, .int v43), (2, .int v44)]) dX11_spellAmbiguous_90 rfl (Nat.le_of_ble_eq_true rfl) rfl ?_
    refine am_jnV (fun j47 ej47 => ?_)
    have hj47 : ∀ (v48 : Int32), am_V Z X kX11_spellAmbiguous (fun r : Int32 × am_I => (some (.int r.1), R, r.2, L)) 174 [(0, .ref (am_B Z + a0)), (1, .int v48), (2, .int v44)] [] R r4 L (j47 v48) := by
      subst ej47
      intro v48
      show am_V Z X kX11_spellAmbiguous (fun r : Int32 × am_I => (some (.int r.1), R, r.2, L)) 174 [(0, .ref (am_B Z + a0)), (1, .int v48), (2, .int v44)] [] R r4 L _
      refine am_iinc (j := 2) (ls' := [(2, .int (v44 + (1 : Int32))), (0, .ref (am_B Z + a0)), (1, .int v48)]) dX11_spellAmbiguous_174 rfl rfl (Nat.le_of_ble_eq_true rfl) rfl ?_
      refine am_goto (tgt := 81) dX11_spellAmbiguous_177 rfl ?_
      refine am_sub (ls' := [(0, .ref (am_B Z + a0)), (1, .int v48), (2, .int (v44 + (1 : Int32)))]) [1, 2, 0] rfl ?_
      exact hih45 v48 (v44 + (1 : Int32))
    refine am_sub (ls' := [(0, .ref (am_B Z + a0)), (1, .int v43), (2, .int v44), (3, .int (0 : Int32))]) [1, 2, 3, 0] rfl ?_
    exact uX11_spellAmbiguous_91 R L a0 v44 r4 h42 j47 hj47 am_fu v43 (0 : Int32)
theorem uX11_spellAmbiguous_81 {Z : am_Z} {X : am_X} (R : am_R) (L : am_L) (a0 : Nat) (r4 : am_I) (h42 : am_G Z a0 = some (.inl 11)) (j5 : Int32 → Option (Int32 × am_I)) (hj5 : ∀ (v6 : Int32), am_V Z X kX11_spellAmbiguous (fun r : Int32 × am_I => (some (.int r.1), R, r.2, L)) 180 [(0, .ref (am_B Z + a0)), (1, .int v6)] [] R r4 L (j5 v6)) : ∀ (n : Nat) (v43 : Int32) (v44 : Int32), am_V Z X kX11_spellAmbiguous (fun r : Int32 × am_I => (some (.int r.1), R, r.2, L)) 81 [(0, .ref (am_B Z + a0)), (1, .int v43), (2, .int v44)] [] R r4 L (lX11_spellAmbiguous_81 R a0 r4 j5 n v43 v44) := by
  intro n
  induction n with
  | zero => intro _ _; exact am_none
  | succ n ih => exact fun v43 v44 => vX11_spellAmbiguous_81 R L a0 r4 h42 j5 hj5 (lX11_spellAmbiguous_81 R a0 r4 j5 n) ih v43 v44
set_option maxRecDepth 100000 in
set_option maxHeartbeats 4000000 in
theorem vX11_spellAmbiguous_16 {Z : am_Z} {X : am_X} (R : am_R) (L : am_L) (a0 : Nat) (v73 : Int32) (h79 : am_G Z a0 = some (.inl 11)) (j77 : am_I → Option (Int32 × am_I)) (hj77 : ∀ (J78 : am_I), am_V Z X kX11_spellAmbiguous (fun r : Int32 × am_I => (some (.int r.1), R, r.2, L)) 65 [(0, .ref (am_B Z + a0)), (1, .int v73)] [] R J78 L (j77 J78)) (ih82 : Int32 → am_I → Option (Int32 × am_I)) (hih82 : ∀ (v80 : Int32) (J81 : am_I), am_V Z X kX11_spellAmbiguous (fun r : Int32 × am_I => (some (.int r.1), R, r.2, L)) 16 [(0, .ref (am_B Z + a0)), (1, .int v73), (2, .int v80)] [] R J81 L (ih82 v80 J81)) (v80 : Int32) (J81 : am_I) : am_V Z X kX11_spellAmbiguous (fun r : Int32 × am_I => (some (.int r.1), R, r.2, L)) 16 [(0, .ref (am_B Z + a0)), (1, .int v73), (2, .int v80)] [] R J81 L (sX11_spellAmbiguous_16 R a0 v73 j77 ih82 v80 J81) := by
  unfold sX11_spellAmbiguous_16
  refine am_iload_n dX11_spellAmbiguous_16 rfl 2 rfl ?_
  refine am_aload_n dX11_spellAmbiguous_17 rfl 0 rfl ?_
  refine am_get 11 3 clX11 (Nat.le_of_ble_eq_true rfl) h79 iX11_spellAmbiguous_11 fX11_spellAmbiguous_19 rfl dX11_spellAmbiguous_18 ?_
  refine am_icmp_ge (tgt := 65) dX11_spellAmbiguous_21 rfl (fun e83 => ?_) (fun e83 => ?_)
  · refine am_sub (ls' := [(0, .ref (am_B Z + a0)), (1, .int v73)]) [0, 1] rfl ?_
    exact hj77 J81
  · refine am_aload_n dX11_spellAmbiguous_24 rfl 0 rfl ?_
    refine am_get 11 5 clX11 (Nat.le_of_ble_eq_true rfl) h79 iX11_spellAmbiguous_11 fX11_spellAmbiguous_115 rfl dX11_spellAmbiguous_25 ?_
    refine am_i2l dX11_spellAmbiguous_28 ?_
    refine am_iload_n dX11_spellAmbiguous_29 rfl 1 rfl ?_
    refine am_callS [.long (Int32.toInt64 (J81 a0 5)), .int v73] (tX11_has R J81 L (Int32.toInt64 (J81 a0 5)) v73) gX11_spellAmbiguous_X11_has hX11_has ⟨Nat.le_of_ble_eq_true rfl, Nat.le_of_ble_eq_true rfl⟩ rfl rfl (Nat.le_of_ble_eq_true rfl) dX11_spellAmbiguous_30 (fun r84 => ?_)
    show am_V Z X kX11_spellAmbiguous (fun r : Int32 × am_I => (some (.int r.1), R, r.2, L)) 33 [(0, .ref (am_B Z + a0)), (1, .int v73), (2, .int v80)] [.int r84] R J81 L _
    refine am_jnV (fun j85 ej85 => ?_)
    have hj85 : ∀ (J86 : am_I), am_V Z X kX11_spellAmbiguous (fun r : Int32 × am_I => (some (.int r.1), R, r.2, L)) 59 [(0, .ref (am_B Z + a0)), (1, .int v73), (2, .int v80)] [] R J86 L (j85 J86) := by
      subst ej85
      intro J86
      show am_V Z X kX11_spellAmbiguous (fun r : Int32 × am_I => (some (.int r.1), R, r.2, L)) 59 [(0, .ref (am_B Z + a0)), (1, .int v73), (2, .int v80)] [] R J86 L _
      refine am_iinc (j := 2) (ls' := [(2, .int (v80 + (1 : Int32))), (0, .ref (am_B Z + a0)), (1, .int v73)]) dX11_spellAmbiguous_59 rfl rfl (Nat.le_of_ble_eq_true rfl) rfl ?_
      refine am_goto (tgt := 16) dX11_spellAmbiguous_62 rfl ?_
      refine am_sub (ls' := [(0, .ref (am_B Z + a0)), (1, .int v73), (2, .int (v80 + (1 : Int32)))]) [1, 2, 0] rfl ?_
      exact hih82 (v80 + (1 : Int32)) J86
    refine am_if_eq (tgt := 59) dX11_spellAmbiguous_33 rfl (fun e87 => ?_) (fun e87 => ?_)
    · exact hj85 J81
    · refine am_aload_n dX11_spellAmbiguous_36 rfl 0 rfl ?_
      refine am_get 11 5 clX11 (Nat.le_of_ble_eq_true rfl) h79 iX11_spellAmbiguous_11 fX11_spellAmbiguous_115 rfl dX11_spellAmbiguous_37 ?_
      refine am_i2l dX11_spellAmbiguous_40 ?_
      refine am_iload_n dX11_spellAmbiguous_41 rfl 2 rfl ?_
      refine am_callS [.long (Int32.toInt64 (J81 a0 5)), .int v80] (tX11_has R J81 L (Int32.toInt64 (J81 a0 5)) v80) gX11_spellAmbiguous_X11_has hX11_has ⟨Nat.le_of_ble_eq_true rfl, Nat.le_of_ble_eq_true rfl⟩ rfl rfl (Nat.le_of_ble_eq_true rfl) dX11_spellAmbiguous_42 (fun r88 => ?_)
      show am_V Z X kX11_spellAmbiguous (fun r : Int32 × am_I => (some (.int r.1), R, r.2, L)) 45 [(0, .ref (am_B Z + a0)), (1, .int v73), (2, .int v80)] [.int r88] R J81 L _
      refine am_if_eq (tgt := 59) dX11_spellAmbiguous_45 rfl (fun e89 => ?_) (fun e89 => ?_)
      · exact hj85 J81
      · refine am_aload_n dX11_spellAmbiguous_48 rfl 0 rfl ?_
        refine am_iload_n dX11_spellAmbiguous_49 rfl 1 rfl ?_
        refine am_iload_n dX11_spellAmbiguous_50 rfl 2 rfl ?_
        refine am_iconst (v := 1) dX11_spellAmbiguous_51 (by decide) ?_
        refine am_callS [.int v73, .int v80, .int (1 : Int32)] (tX11_pairNode R J81 L v73 v80 (1 : Int32)) gX11_spellAmbiguous_X11_pairNode hX11_pairNode ⟨Nat.le_of_ble_eq_true rfl, Nat.le_of_ble_eq_true rfl⟩ rfl rfl (Nat.le_of_ble_eq_true rfl) dX11_spellAmbiguous_52 (fun r90 => ?_)
        show am_V Z X kX11_spellAmbiguous (fun r : Int32 × am_I => (some (.int r.1), R, r.2, L)) 55 [(0, .ref (am_B Z + a0)), (1, .int v73), (2, .int v80)] [.int r90, .ref (am_B Z + a0)] R J81 L _
        refine am_iconst (v := 0) dX11_spellAmbiguous_55 (by decide) ?_
        refine am_callV [.int r90, .int (0 : Int32)] (tX11_reaches R J81 L a0 r90 (0 : Int32) h79) h79 clX11 gX11_spellAmbiguous_X11_reaches hX11_reaches rfl ⟨Nat.le_of_ble_eq_true rfl, Nat.le_of_ble_eq_true rfl⟩ rfl rfl (Nat.le_of_ble_eq_true rfl) dX11_spellAmbiguous_56 (fun r91 => ?_)
        show am_V Z X kX11_spellAmbiguous (fun r : Int32 × am_I => (some (.int r.1), R, r.2, L)) 59 [(0, .ref (am_B Z + a0)), (1, .int v73), (2, .int v80)] [] R r91 L _
        exact hj85 r91
theorem uX11_spellAmbiguous_16 {Z : am_Z} {X : am_X} (R : am_R) (L : am_L) (a0 : Nat) (v73 : Int32) (h79 : am_G Z a0 = some (.inl 11)) (j77 : am_I → Option (Int32 × am_I)) (hj77 : ∀ (J78 : am_I), am_V Z X kX11_spellAmbiguous (fun r : Int32 × am_I => (some (.int r.1), R, r.2, L)) 65 [(0, .ref (am_B Z + a0)), (1, .int v73)] [] R J78 L (j77 J78)) : ∀ (n : Nat) (v80 : Int32) (J81 : am_I), am_V Z X kX11_spellAmbiguous (fun r : Int32 × am_I => (some (.int r.1), R, r.2, L)) 16 [(0, .ref (am_B Z + a0)), (1, .int v73), (2, .int v80)] [] R J81 L (lX11_spellAmbiguous_16 R a0 v73 j77 n v80 J81) := by
  intro n
  induction n with
  | zero => intro _ _; exact am_none
  | succ n ih => exact fun v80 J81 => vX11_spellAmbiguous_16 R L a0 v73 h79 j77 hj77 (lX11_spellAmbiguous_16 R a0 v73 j77 n) ih v80 J81
set_option maxRecDepth 100000 in
set_option maxHeartbeats 4000000 in
theorem vX11_spellAmbiguous_6 {Z : am_Z} {X : am_X} (R : am_R) (L : am_L) (a0 : Nat) (h72 : am_G Z a0 = some (.inl 11)) (j2 : am_I → Option (Int32 × am_I)) (hj2 : ∀ (J3 : am_I), am_V Z X kX11_spellAmbiguous (fun r : Int32 × am_I => (some (.int r.1), R, r.2, L)) 71 [(0, .ref (am_B Z + a0))] [] R J3 L (j2 J3)) (ih75 : Int32 → am_I → Option (Int32 × am_I)) (hih75 : ∀ (v73 : Int32) (J74 : am_I), am_V Z X kX11_spellAmbiguous (fun r : Int32 × am_I => (some (.int r.1), R, r.2, L)) 6 [(0, .ref (am_B Z + a0)), (1, .int v73)] [] R J74 L (ih75 v73 J74)) (v73 : Int32) (J74 : am_I) : am_V Z X kX11_spellAmbiguous (fun r : Int32 × am_I => (some (.int r.1), R, r.2, L)) 6 [(0, .ref (am_B Z + a0)), (1, .int v73)] [] R J74 L (sX11_spellAmbiguous_6 R a0 j2 ih75 v73 J74) := by
  unfold sX11_spellAmbiguous_6
  refine am_iload_n dX11_spellAmbiguous_6 rfl 1 rfl ?_
  refine am_aload_n dX11_spellAmbiguous_7 rfl 0 rfl ?_
  refine am_get 11 3 clX11 (Nat.le_of_ble_eq_true rfl) h72 iX11_spellAmbiguous_11 fX11_spellAmbiguous_19 rfl dX11_spellAmbiguous_8 ?_
  refine am_icmp_ge (tgt := 71) dX11_spellAmbiguous_11 rfl (fun e76 => ?_) (fun e76 => ?_)
  · refine am_sub (ls' := [(0, .ref (am_B Z + a0))]) [0] rfl ?_
    exact hj2 J74
  · refine am_iconst (v := 0) dX11_spellAmbiguous_14 (by decide) ?_
    refine am_istore_n (ls' := [(2, .int (0 : Int32)), (0, .ref (am_B Z + a0)), (1, .int v73)]) dX11_spellAmbiguous_15 rfl (Nat.le_of_ble_eq_true rfl) rfl ?_
    refine am_jnV (fun j77 ej77 => ?_)
    have hj77 : ∀ (J78 : am_I), am_V Z X kX11_spellAmbiguous (fun r : Int32 × am_I => (some (.int r.1), R, r.2, L)) 65 [(0, .ref (am_B Z + a0)), (1, .int v73)] [] R J78 L (j77 J78) := by
      subst ej77
      intro J78
      show am_V Z X kX11_spellAmbiguous (fun r : Int32 × am_I => (some (.int r.1), R, r.2, L)) 65 [(0, .ref (am_B Z + a0)), (1, .int v73)] [] R J78 L _
      refine am_iinc (j := 1) (ls' := [(1, .int (v73 + (1 : Int32))), (0, .ref (am_B Z + a0))]) dX11_spellAmbiguous_65 rfl rfl (Nat.le_of_ble_eq_true rfl) rfl ?_
      refine am_goto (tgt := 6) dX11_spellAmbiguous_68 rfl ?_
      refine am_sub (ls' := [(0, .ref (am_B Z + a0)), (1, .int (v73 + (1 : Int32)))]) [1, 0] rfl ?_
      exact hih75 (v73 + (1 : Int32)) J78
    refine am_sub (ls' := [(0, .ref (am_B Z + a0)), (1, .int v73), (2, .int (0 : Int32))]) [1, 2, 0] rfl ?_
    exact uX11_spellAmbiguous_16 R L a0 v73 h72 j77 hj77 am_fu (0 : Int32) J74
theorem uX11_spellAmbiguous_6 {Z : am_Z} {X : am_X} (R : am_R) (L : am_L) (a0 : Nat) (h72 : am_G Z a0 = some (.inl 11)) (j2 : am_I → Option (Int32 × am_I)) (hj2 : ∀ (J3 : am_I), am_V Z X kX11_spellAmbiguous (fun r : Int32 × am_I => (some (.int r.1), R, r.2, L)) 71 [(0, .ref (am_B Z + a0))] [] R J3 L (j2 J3)) : ∀ (n : Nat) (v73 : Int32) (J74 : am_I), am_V Z X kX11_spellAmbiguous (fun r : Int32 × am_I => (some (.int r.1), R, r.2, L)) 6 [(0, .ref (am_B Z + a0)), (1, .int v73)] [] R J74 L (lX11_spellAmbiguous_6 R a0 j2 n v73 J74) := by
  intro n
  induction n with
  | zero => intro _ _; exact am_none
  | succ n ih => exact fun v73 J74 => vX11_spellAmbiguous_6 R L a0 h72 j2 hj2 (lX11_spellAmbiguous_6 R a0 j2 n) ih v73 J74
set_option maxRecDepth 100000 in
set_option maxHeartbeats 4000000 in
theorem tX11_spellAmbiguous {Z : am_Z} (R : am_R) (I : am_I) (L : am_L) (a0 : Nat) (h_a0 : am_G Z a0 = some (.inl 11)) : am_M Z yX11_spellAmbiguous kX11_spellAmbiguous [.ref (am_B Z + a0)] R I L (pX11_spellAmbiguous R I a0) (fun r : Int32 × am_I => (some (.int r.1), R, r.2, L)) := by
  refine am_entry (ls := [(0, .ref (am_B Z + a0))]) (by decide) hX11_spellAmbiguous rfl (Nat.le_of_ble_eq_true rfl) rfl (fun X => ?_)
  unfold pX11_spellAmbiguous
  refine am_aload_n dX11_spellAmbiguous_0 rfl 0 rfl ?_
  refine am_callV [] (tX11_beginsSearch R I L a0 h_a0) h_a0 clX11 gX11_spellAmbiguous_X11_beginsSearch hX11_beginsSearch rfl ⟨Nat.le_of_ble_eq_true rfl, Nat.le_of_ble_eq_true rfl⟩ rfl rfl (Nat.le_of_ble_eq_true rfl) dX11_spellAmbiguous_1 (fun r1 => ?_)
  show am_V Z X kX11_spellAmbiguous (fun r : Int32 × am_I => (some (.int r.1), R, r.2, L)) 4 [(0, .ref (am_B Z + a0))] [] R r1 L _
  refine am_iconst (v := 0) dX11_spellAmbiguous_4 (by decide) ?_
  refine am_istore_n (ls' := [(1, .int (0 : Int32)), (0, .ref (am_B Z + a0))]) dX11_spellAmbiguous_5 rfl (Nat.le_of_ble_eq_true rfl) rfl ?_
  refine am_jnV (fun j2 ej2 => ?_)
  have hj2 : ∀ (J3 : am_I), am_V Z X kX11_spellAmbiguous (fun r : Int32 × am_I => (some (.int r.1), R, r.2, L)) 71 [(0, .ref (am_B Z + a0))] [] R J3 L (j2 J3) := by
    subst ej2
    intro J3
    show am_V Z X kX11_spellAmbiguous (fun r : Int32 × am_I => (some (.int r.1), R, r.2, L)) 71 [(0, .ref (am_B Z + a0))] [] R J3 L _
    refine am_aload_n dX11_spellAmbiguous_71 rfl 0 rfl ?_
    refine am_callV [] (tX11_spreadsPairs R J3 L a0 h_a0) h_a0 clX11 gX11_spellAmbiguous_X11_spreadsPairs hX11_spreadsPairs rfl ⟨Nat.le_of_ble_eq_true rfl, Nat.le_of_ble_eq_true rfl⟩ rfl rfl (Nat.le_of_ble_eq_true rfl) dX11_spellAmbiguous_72 (fun r4 => ?_)
    show am_V Z X kX11_spellAmbiguous (fun r : Int32 × am_I => (some (.int r.1), R, r.2, L)) 75 [(0, .ref (am_B Z + a0))] [] R r4 L _
    refine am_sipush (v := 1000) dX11_spellAmbiguous_75 (by decide) ?_
    refine am_istore_n (ls' := [(1, .int (1000 : Int32)), (0, .ref (am_B Z + a0))]) dX11_spellAmbiguous_78 rfl (Nat.le_of_ble_eq_true rfl) rfl ?_
    refine am_iconst (v := 0) dX11_spellAmbiguous_79 (by decide) ?_
    refine am_istore_n (ls' := [(2, .int (0 : Int32)), (1, .int (1000 : Int32)), (0, .ref (am_B Z + a0))]) dX11_spellAmbiguous_80 rfl (Nat.le_of_ble_eq_true rfl) rfl ?_
    refine am_jnV (fun j5 ej5 => ?_)
    have hj5 : ∀ (v6 : Int32), am_V Z X kX11_spellAmbiguous (fun r : Int32 × am_I => (some (.int r.1), R, r.2, L)) 180 [(0, .ref (am_B Z + a0)), (1, .int v6)] [] R r4 L (j5 v6) := by
      subst ej5
      intro v6
      show am_V Z X kX11_spellAmbiguous (fun r : Int32 × am_I => (some (.int r.1), R, r.2, L)) 180 [(0, .ref (am_B Z + a0)), (1, .int v6)] [] R r4 L _
      refine am_iload_n dX11_spellAmbiguous_180 rfl 1 rfl ?_
      refine am_sipush (v := 1000) dX11_spellAmbiguous_181 (by decide) ?_
      refine am_icmp_ne (tgt := 190) dX11_spellAmbiguous_184 rfl (fun e7 => ?_) (fun e7 => ?_)
      · refine am_aload_n dX11_spellAmbiguous_190 rfl 0 rfl ?_
        refine am_callV [] (tX11_nobodyIsHere R r4 L a0 h_a0) h_a0 clX11 gX11_spellAmbiguous_X11_nobodyIsHere hX11_nobodyIsHere rfl ⟨Nat.le_of_ble_eq_true rfl, Nat.le_of_ble_eq_true rfl⟩ rfl rfl (Nat.le_of_ble_eq_true rfl) dX11_spellAmbiguous_191 (fun r8 => ?_)
        show am_V Z X kX11_spellAmbiguous (fun r : Int32 × am_I => (some (.int r.1), R, r.2, L)) 194 [(0, .ref (am_B Z + a0)), (1, .int v6)] [] R r8 L _
        refine am_iconst (v := 0) dX11_spellAmbiguous_194 (by decide) ?_
        refine am_istore_n (ls' := [(2, .int (0 : Int32)), (0, .ref (am_B Z + a0)), (1, .int v6)]) dX11_spellAmbiguous_195 rfl (Nat.le_of_ble_eq_true rfl) rfl ?_
        refine am_jnV (fun j9 ej9 => ?_)
        have hj9 : ∀ (J10 : am_I), am_V Z X kX11_spellAmbiguous (fun r : Int32 × am_I => (some (.int r.1), R, r.2, L)) 295 [(0, .ref (am_B Z + a0)), (1, .int v6)] [] R J10 L (j9 J10) := by
          subst ej9
          intro J10
          show am_V Z X kX11_spellAmbiguous (fun r : Int32 × am_I => (some (.int r.1), R, r.2, L)) 295 [(0, .ref (am_B Z + a0)), (1, .int v6)] [] R J10 L _
          refine am_aload_n dX11_spellAmbiguous_295 rfl 0 rfl ?_
          refine am_iload_n dX11_spellAmbiguous_296 rfl 1 rfl ?_
          refine am_iconst (v := 0) dX11_spellAmbiguous_297 (by decide) ?_
          refine am_callV [.int v6, .int (0 : Int32)] (tX11_spells R J10 L a0 v6 (0 : Int32) h_a0) h_a0 clX11 gX11_spellAmbiguous_X11_spells hX11_spells rfl ⟨Nat.le_of_ble_eq_true rfl, Nat.le_of_ble_eq_true rfl⟩ rfl rfl (Nat.le_of_ble_eq_true rfl) dX11_spellAmbiguous_298 (fun r11 => ?_)
          show am_V Z X kX11_spellAmbiguous (fun r : Int32 × am_I => (some (.int r.1), R, r.2, L)) 301 [(0, .ref (am_B Z + a0)), (1, .int v6)] [] R r11 L _
          refine am_iload_n dX11_spellAmbiguous_301 rfl 1 rfl ?_
          exact am_iret dX11_spellAmbiguous_302 rfl rfl
        refine am_sub (ls' := [(0, .ref (am_B Z + a0)), (1, .int v6), (2, .int (0 : Int32))]) [1, 2, 0] rfl ?_
        exact uX11_spellAmbiguous_196 R L a0 v6 h_a0 j9 hj9 am_fu (0 : Int32) r8
      · refine am_bipush (v := -4) dX11_spellAmbiguous_187 (by decide) ?_
        exact am_iret dX11_spellAmbiguous_189 rfl rfl
    refine am_sub (ls' := [(0, .ref (am_B Z + a0)), (1, .int (1000 : Int32)), (2, .int (0 : Int32))]) [2, 1, 0] rfl ?_
    exact uX11_spellAmbiguous_81 R L a0 r4 h_a0 j5 hj5 am_fu (1000 : Int32) (0 : Int32)
  refine am_sub (ls' := [(0, .ref (am_B Z + a0)), (1, .int (0 : Int32))]) [1, 0] rfl ?_
  exact uX11_spellAmbiguous_6 R L a0 h_a0 j2 hj2 am_fu (0 : Int32) r1
abbrev kX11_loopOf : am_K := (cX11_loopOf, 2, RX11, wsX11_loopOf, some .int, { frames := 3, cells := 0, slots := 0, locals := 65 })
theorem hX11_loopOf : am_cl yX11_loopOf kX11_loopOf 1 := ⟨⟨_, rfl⟩, rfl, rfl, by decide +kernel, by decide +kernel, by decide +kernel⟩
theorem iX11_loopOf_11 : ∀ w ∈ u_ws RX11 TX11 50, w ∈ wsX11_loopOf := by decide +kernel
theorem fX11_loopOf_45 : Cond.fieldLink RX11 45 "AmbiguityAnalyzerModel" "distance" "[I" ∈ wsX11_loopOf := by decide +kernel
set_option maxRecDepth 100000 in
set_option maxHeartbeats 4000000 in
theorem tX11_loopOf {Z : am_Z} (R : am_R) (I : am_I) (L : am_L) (a0 : Nat) (x1 : Int32) (h_a0 : am_G Z a0 = some (.inl 11)) : am_M Z yX11_loopOf kX11_loopOf [.ref (am_B Z + a0), .int x1] R I L (pX11_loopOf R I a0 x1) (fun r : Int32 × am_I => (some (.int r.1), R, r.2, L)) := by
  refine am_entry (ls := [(0, .ref (am_B Z + a0)), (1, .int x1)]) (by decide) hX11_loopOf rfl (Nat.le_of_ble_eq_true rfl) rfl (fun X => ?_)
  unfold pX11_loopOf
  refine am_aload_n dX11_loopOf_0 rfl 0 rfl ?_
  refine am_callV [] (tX11_beginsSearch R I L a0 h_a0) h_a0 clX11 gX11_loopOf_X11_beginsSearch hX11_beginsSearch rfl ⟨Nat.le_of_ble_eq_true rfl, Nat.le_of_ble_eq_true rfl⟩ rfl rfl (Nat.le_of_ble_eq_true rfl) dX11_loopOf_1 (fun r1 => ?_)
  show am_V Z X kX11_loopOf (fun r : Int32 × am_I => (some (.int r.1), R, r.2, L)) 4 [(0, .ref (am_B Z + a0)), (1, .int x1)] [] R r1 L _
  refine am_aload_n dX11_loopOf_4 rfl 0 rfl ?_
  refine am_iload_n dX11_loopOf_5 rfl 1 rfl ?_
  refine am_iload_n dX11_loopOf_6 rfl 1 rfl ?_
  refine am_iconst (v := 1) dX11_loopOf_7 (by decide) ?_
  refine am_callS [.int x1, .int x1, .int (1 : Int32)] (tX11_pairNode R r1 L x1 x1 (1 : Int32)) gX11_loopOf_X11_pairNode hX11_pairNode ⟨Nat.le_of_ble_eq_true rfl, Nat.le_of_ble_eq_true rfl⟩ rfl rfl (Nat.le_of_ble_eq_true rfl) dX11_loopOf_8 (fun r2 => ?_)
  show am_V Z X kX11_loopOf (fun r : Int32 × am_I => (some (.int r.1), R, r.2, L)) 11 [(0, .ref (am_B Z + a0)), (1, .int x1)] [.int r2, .ref (am_B Z + a0)] R r1 L _
  refine am_iconst (v := 0) dX11_loopOf_11 (by decide) ?_
  refine am_callV [.int r2, .int (0 : Int32)] (tX11_reaches R r1 L a0 r2 (0 : Int32) h_a0) h_a0 clX11 gX11_loopOf_X11_reaches hX11_reaches rfl ⟨Nat.le_of_ble_eq_true rfl, Nat.le_of_ble_eq_true rfl⟩ rfl rfl (Nat.le_of_ble_eq_true rfl) dX11_loopOf_12 (fun r3 => ?_)
  show am_V Z X kX11_loopOf (fun r : Int32 × am_I => (some (.int r.1), R, r.2, L)) 15 [(0, .ref (am_B Z + a0)), (1, .int x1)] [] R r3 L _
  refine am_aload_n dX11_loopOf_15 rfl 0 rfl ?_
  refine am_callV [] (tX11_spreadsPairs R r3 L a0 h_a0) h_a0 clX11 gX11_loopOf_X11_spreadsPairs hX11_spreadsPairs rfl ⟨Nat.le_of_ble_eq_true rfl, Nat.le_of_ble_eq_true rfl⟩ rfl rfl (Nat.le_of_ble_eq_true rfl) dX11_loopOf_16 (fun r4 => ?_)
  show am_V Z X kX11_loopOf (fun r : Int32 × am_I => (some (.int r.1), R, r.2, L)) 19 [(0, .ref (am_B Z + a0)), (1, .int x1)] [] R r4 L _
  refine am_aload_n dX11_loopOf_19 rfl 0 rfl ?_
  refine am_getR 11 19 clX11 (Nat.le_of_ble_eq_true rfl) h_a0 iX11_loopOf_11 fX11_loopOf_45 rfl rfl dX11_loopOf_20 (fun h5 => ?_)
  refine am_iload_n dX11_loopOf_23 rfl 1 rfl ?_
  refine am_iload_n dX11_loopOf_24 rfl 1 rfl ?_
  refine am_iconst (v := 0) dX11_loopOf_25 (by decide) ?_
  refine am_callS [.int x1, .int x1, .int (0 : Int32)] (tX11_pairNode R r4 L x1 x1 (0 : Int32)) gX11_loopOf_X11_pairNode hX11_pairNode ⟨Nat.le_of_ble_eq_true rfl, Nat.le_of_ble_eq_true rfl⟩ rfl rfl (Nat.le_of_ble_eq_true rfl) dX11_loopOf_26 (fun r6 => ?_)
  show am_V Z X kX11_loopOf (fun r : Int32 × am_I => (some (.int r.1), R, r.2, L)) 29 [(0, .ref (am_B Z + a0)), (1, .int x1)] [.int r6, .ref (am_B Z + (R a0 19))] R r4 L _
  refine am_iald h5 dX11_loopOf_29 ?_
  exact am_iret dX11_loopOf_30 rfl rfl
abbrev kX11_triple : am_K := (cX11_triple, 3, RX11, wsX11_triple, some .int, { frames := 0, cells := 0, slots := 0, locals := 0 })
theorem hX11_triple : am_cl yX11_triple kX11_triple 3 := ⟨⟨_, rfl⟩, rfl, rfl, by decide +kernel, by decide +kernel, by decide +kernel⟩
set_option maxRecDepth 100000 in
set_option maxHeartbeats 4000000 in
theorem tX11_triple {Z : am_Z} (R : am_R) (I : am_I) (L : am_L) (x0 : Int32) (x1 : Int32) (x2 : Int32)  : am_M Z yX11_triple kX11_triple [.int x0, .int x1, .int x2] R I L (pX11_triple x0 x1 x2) (fun r : Int32 => (some (.int r), R, I, L)) := by
  refine am_entry (ls := [(0, .int x0), (1, .int x1), (2, .int x2)]) (by decide) hX11_triple rfl (Nat.le_of_ble_eq_true rfl) rfl (fun X => ?_)
  unfold pX11_triple
  refine am_bipush (v := 36) dX11_triple_0 (by decide) ?_
  refine am_iload_n dX11_triple_2 rfl 0 rfl ?_
  refine am_imul dX11_triple_3 ?_
  refine am_bipush (v := 6) dX11_triple_4 (by decide) ?_
  refine am_iload_n dX11_triple_6 rfl 1 rfl ?_
  refine am_imul dX11_triple_7 ?_
  refine am_iadd dX11_triple_8 ?_
  refine am_iload_n dX11_triple_9 rfl 2 rfl ?_
  refine am_iadd dX11_triple_10 ?_
  exact am_iret dX11_triple_11 rfl rfl
abbrev kX11_splitOf : am_K := (cX11_splitOf, 11, RX11, wsX11_splitOf, some .int, { frames := 3, cells := 0, slots := 0, locals := 65 })
theorem hX11_splitOf : am_cl yX11_splitOf kX11_splitOf 2 := ⟨⟨_, rfl⟩, rfl, rfl, by decide +kernel, by decide +kernel, by decide +kernel⟩
theorem iX11_splitOf_11 : ∀ w ∈ u_ws RX11 TX11 50, w ∈ wsX11_splitOf := by decide +kernel
theorem fX11_splitOf_234 : Cond.fieldLink RX11 234 "AmbiguityAnalyzerModel" "queued" "I" ∈ wsX11_splitOf := by decide +kernel
theorem fX11_splitOf_48 : Cond.fieldLink RX11 48 "AmbiguityAnalyzerModel" "queue" "[I" ∈ wsX11_splitOf := by decide +kernel
theorem fX11_splitOf_45 : Cond.fieldLink RX11 45 "AmbiguityAnalyzerModel" "distance" "[I" ∈ wsX11_splitOf := by decide +kernel
theorem fX11_splitOf_13 : Cond.fieldLink RX11 13 "AmbiguityAnalyzerModel" "sources" "[I" ∈ wsX11_splitOf := by decide +kernel
set_option maxRecDepth 100000 in
set_option maxHeartbeats 4000000 in
theorem vX11_splitOf_113 {Z : am_Z} {X : am_X} (R : am_R) (L : am_L) (a0 : Nat) (x1 : Int32) (x2 : Int32) (v9 : Int32) (v14 : Int32) (v16 : Int32) (v20 : Int32) (v25 : Int32) (v27 : Int32) (v29 : Int32) (h32 : am_G Z a0 = some (.inl 11)) (j30 : am_I → Option (Int32 × am_I)) (hj30 : ∀ (J31 : am_I), am_V Z X kX11_splitOf (fun r : Int32 × am_I => (some (.int r.1), R, r.2, L)) 180 [(0, .ref (am_B Z + a0)), (1, .int x1), (2, .int x2), (3, .int v9), (4, .int v14), (5, .int v16), (6, .int v20)] [] R J31 L (j30 J31)) (ih35 : Int32 → am_I → Option (Int32 × am_I)) (hih35 : ∀ (v33 : Int32) (J34 : am_I), am_V Z X kX11_splitOf (fun r : Int32 × am_I => (some (.int r.1), R, r.2, L)) 113 [(0, .ref (am_B Z + a0)), (1, .int x1), (2, .int x2), (3, .int v9), (4, .int v14), (5, .int v16), (6, .int v20), (7, .int v25), (8, .int v27), (9, .int v29), (10, .int v33)] [] R J34 L (ih35 v33 J34)) (v33 : Int32) (J34 : am_I) : am_V Z X kX11_splitOf (fun r : Int32 × am_I => (some (.int r.1), R, r.2, L)) 113 [(0, .ref (am_B Z + a0)), (1, .int x1), (2, .int x2), (3, .int v9), (4, .int v14), (5, .int v16), (6, .int v20), (7, .int v25), (8, .int v27), (9, .int v29), (10, .int v33)] [] R J34 L (sX11_splitOf_113 R a0 x1 x2 v9 v14 v16 v20 v25 v27 v29 j30 ih35 v33 J34) := by
  unfold sX11_splitOf_113
  refine am_iload dX11_splitOf_113 10 rfl ?_
  refine am_sipush (v := 216) dX11_splitOf_115 (by decide) ?_
  refine am_icmp_ge (tgt := 180) dX11_splitOf_118 rfl (fun e36 => ?_) (fun e36 => ?_)
  · refine am_sub (ls' := [(0, .ref (am_B Z + a0)), (1, .int x1), (2, .int x2), (3, .int v9), (4, .int v14), (5, .int v16), (6, .int v20)]) [0, 1, 2, 3, 4, 5, 6] rfl ?_
    exact hj30 J34
  · refine am_iload dX11_splitOf_121 7 rfl ?_
    refine am_i2l dX11_splitOf_123 ?_
    refine am_iload dX11_splitOf_124 10 rfl ?_
    refine am_bipush (v := 36) dX11_splitOf_126 (by decide) ?_
    refine am_idivC dX11_splitOf_128 (by decide) ?_
    refine am_callS [.long (Int32.toInt64 v25), .int (v33 / (36 : Int32))] (tX11_has R J34 L (Int32.toInt64 v25) (v33 / (36 : Int32))) gX11_splitOf_X11_has hX11_has ⟨Nat.le_of_ble_eq_true rfl, Nat.le_of_ble_eq_true rfl⟩ rfl rfl (Nat.le_of_ble_eq_true rfl) dX11_splitOf_129 (fun r37 => ?_)
    show am_V Z X kX11_splitOf (fun r : Int32 × am_I => (some (.int r.1), R, r.2, L)) 132 [(0, .ref (am_B Z + a0)), (1, .int x1), (2, .int x2), (3, .int v9), (4, .int v14), (5, .int v16), (6, .int v20), (7, .int v25), (8, .int v27), (9, .int v29), (10, .int v33)] [.int r37] R J34 L _
    refine am_jnV (fun j38 ej38 => ?_)
    have hj38 : ∀ (J39 : am_I), am_V Z X kX11_splitOf (fun r : Int32 × am_I => (some (.int r.1), R, r.2, L)) 174 [(0, .ref (am_B Z + a0)), (1, .int x1), (2, .int x2), (3, .int v9), (4, .int v14), (5, .int v16), (6, .int v20), (7, .int v25), (8, .int v27), (9, .int v29), (10, .int v33)] [] R J39 L (j38 J39) := by
      subst ej38
      intro J39
      show am_V Z X kX11_splitOf (fun r : Int32 × am_I => (some (.int r.1), R, r.2, L)) 174 [(0, .ref (am_B Z + a0)), (1, .int x1), (2, .int x2), (3, .int v9), (4, .int v14), (5, .int v16), (6, .int v20), (7, .int v25), (8, .int v27), (9, .int v29), (10, .int v33)] [] R J39 L _
      refine am_iinc (j := 10) (ls' := [(10, .int (v33 + (1 : Int32))), (0, .ref (am_B Z + a0)), (1, .int x1), (2, .int x2), (3, .int v9), (4, .int v14), (5, .int v16), (6, .int v20), (7, .int v25), (8, .int v27), (9, .int v29)]) dX11_splitOf_174 rfl rfl (Nat.le_of_ble_eq_true rfl) rfl ?_
      refine am_goto (tgt := 113) dX11_splitOf_177 rfl ?_
      refine am_sub (ls' := [(0, .ref (am_B Z + a0)), (1, .int x1), (2, .int x2), (3, .int v9), (4, .int v14), (5, .int v16), (6, .int v20), (7, .int v25), (8, .int v27), (9, .int v29), (10, .int (v33 + (1 : Int32)))]) [1, 2, 3, 4, 5, 6, 7, 8, 9, 10, 0] rfl ?_
      exact hih35 (v33 + (1 : Int32)) J39
    refine am_if_eq (tgt := 174) dX11_splitOf_132 rfl (fun e40 => ?_) (fun e40 => ?_)
    · exact hj38 J34
    · refine am_iload dX11_splitOf_135 8 rfl ?_
      refine am_i2l dX11_splitOf_137 ?_
      refine am_iload dX11_splitOf_138 10 rfl ?_
      refine am_bipush (v := 6) dX11_splitOf_140 (by decide) ?_
      refine am_idivC dX11_splitOf_142 (by decide) ?_
      refine am_bipush (v := 6) dX11_splitOf_143 (by decide) ?_
      refine am_iremC dX11_splitOf_145 (by decide) ?_
      refine am_callS [.long (Int32.toInt64 v27), .int ((v33 / (6 : Int32)) - (v33 / (6 : Int32)) / (6 : Int32) * (6 : Int32))] (tX11_has R J34 L (Int32.toInt64 v27) ((v33 / (6 : Int32)) - (v33 / (6 : Int32)) / (6 : Int32) * (6 : Int32))) gX11_splitOf_X11_has hX11_has ⟨Nat.le_of_ble_eq_true rfl, Nat.le_of_ble_eq_true rfl⟩ rfl rfl (Nat.le_of_ble_eq_true rfl) dX11_splitOf_146 (fun r41 => ?_)
      show am_V Z X kX11_splitOf (fun r : Int32 × am_I => (some (.int r.1), R, r.2, L)) 149 [(0, .ref (am_B Z + a0)), (1, .int x1), (2, .int x2), (3, .int v9), (4, .int v14), (5, .int v16), (6, .int v20), (7, .int v25), (8, .int v27), (9, .int v29), (10, .int v33)] [.int r41] R J34 L _
      refine am_if_eq (tgt := 174) dX11_splitOf_149 rfl (fun e42 => ?_) (fun e42 => ?_)
      · exact hj38 J34
      · refine am_iload dX11_splitOf_152 9 rfl ?_
        refine am_i2l dX11_splitOf_154 ?_
        refine am_iload dX11_splitOf_155 10 rfl ?_
        refine am_bipush (v := 6) dX11_splitOf_157 (by decide) ?_
        refine am_iremC dX11_splitOf_159 (by decide) ?_
        refine am_callS [.long (Int32.toInt64 v29), .int (v33 - v33 / (6 : Int32) * (6 : Int32))] (tX11_has R J34 L (Int32.toInt64 v29) (v33 - v33 / (6 : Int32) * (6 : Int32))) gX11_splitOf_X11_has hX11_has ⟨Nat.le_of_ble_eq_true rfl, Nat.le_of_ble_eq_true rfl⟩ rfl rfl (Nat.le_of_ble_eq_true rfl) dX11_splitOf_160 (fun r43 => ?_)
        show am_V Z X kX11_splitOf (fun r : Int32 × am_I => (some (.int r.1), R, r.2, L)) 163 [(0, .ref (am_B Z + a0)), (1, .int x1), (2, .int x2), (3, .int v9), (4, .int v14), (5, .int v16), (6, .int v20), (7, .int v25), (8, .int v27), (9, .int v29), (10, .int v33)] [.int r43] R J34 L _
        refine am_if_eq (tgt := 174) dX11_splitOf_163 rfl (fun e44 => ?_) (fun e44 => ?_)
        · exact hj38 J34
        · refine am_aload_n dX11_splitOf_166 rfl 0 rfl ?_
          refine am_iload dX11_splitOf_167 10 rfl ?_
          refine am_iload dX11_splitOf_169 5 rfl ?_
          refine am_callV [.int v33, .int v16] (tX11_reaches R J34 L a0 v33 v16 h32) h32 clX11 gX11_splitOf_X11_reaches hX11_reaches rfl ⟨Nat.le_of_ble_eq_true rfl, Nat.le_of_ble_eq_true rfl⟩ rfl rfl (Nat.le_of_ble_eq_true rfl) dX11_splitOf_171 (fun r45 => ?_)
          show am_V Z X kX11_splitOf (fun r : Int32 × am_I => (some (.int r.1), R, r.2, L)) 174 [(0, .ref (am_B Z + a0)), (1, .int x1), (2, .int x2), (3, .int v9), (4, .int v14), (5, .int v16), (6, .int v20), (7, .int v25), (8, .int v27), (9, .int v29), (10, .int v33)] [] R r45 L _
          exact hj38 r45
theorem uX11_splitOf_113 {Z : am_Z} {X : am_X} (R : am_R) (L : am_L) (a0 : Nat) (x1 : Int32) (x2 : Int32) (v9 : Int32) (v14 : Int32) (v16 : Int32) (v20 : Int32) (v25 : Int32) (v27 : Int32) (v29 : Int32) (h32 : am_G Z a0 = some (.inl 11)) (j30 : am_I → Option (Int32 × am_I)) (hj30 : ∀ (J31 : am_I), am_V Z X kX11_splitOf (fun r : Int32 × am_I => (some (.int r.1), R, r.2, L)) 180 [(0, .ref (am_B Z + a0)), (1, .int x1), (2, .int x2), (3, .int v9), (4, .int v14), (5, .int v16), (6, .int v20)] [] R J31 L (j30 J31)) : ∀ (n : Nat) (v33 : Int32) (J34 : am_I), am_V Z X kX11_splitOf (fun r : Int32 × am_I => (some (.int r.1), R, r.2, L)) 113 [(0, .ref (am_B Z + a0)), (1, .int x1), (2, .int x2), (3, .int v9), (4, .int v14), (5, .int v16), (6, .int v20), (7, .int v25), (8, .int v27), (9, .int v29), (10, .int v33)] [] R J34 L (lX11_splitOf_113 R a0 x1 x2 v9 v14 v16 v20 v25 v27 v29 j30 n v33 J34) := by
  intro n
  induction n with
  | zero => intro _ _; exact am_none
  | succ n ih => exact fun v33 J34 => vX11_splitOf_113 R L a0 x1 x2 v9 v14 v16 v20 v25 v27 v29 h32 j30 hj30 (lX11_splitOf_113 R a0 x1 x2 v9 v14 v16 v20 v25 v27 v29 j30 n) ih v33 J34
set_option maxRecDepth 100000 in
set_option maxHeartbeats 4000000 in
theorem vX11_splitOf_47 {Z : am_Z} {X : am_X} (R : am_R) (L : am_L) (a0 : Nat) (x1 : Int32) (x2 : Int32) (v9 : Int32) (v14 : Int32) (v16 : Int32) (h19 : am_G Z a0 = some (.inl 11)) (j17 : am_I → Option (Int32 × am_I)) (hj17 : ∀ (J18 : am_I), am_V Z X kX11_splitOf (fun r : Int32 × am_I => (some (.int r.1), R, r.2, L)) 186 [(0, .ref (am_B Z + a0)), (1, .int x1), (2, .int x2), (3, .int v9)] [] R J18 L (j17 J18)) (ih22 : Int32 → am_I → Option (Int32 × am_I)) (hih22 : ∀ (v20 : Int32) (J21 : am_I), am_V Z X kX11_splitOf (fun r : Int32 × am_I => (some (.int r.1), R, r.2, L)) 47 [(0, .ref (am_B Z + a0)), (1, .int x1), (2, .int x2), (3, .int v9), (4, .int v14), (5, .int v16), (6, .int v20)] [] R J21 L (ih22 v20 J21)) (v20 : Int32) (J21 : am_I) : am_V Z X kX11_splitOf (fun r : Int32 × am_I => (some (.int r.1), R, r.2, L)) 47 [(0, .ref (am_B Z + a0)), (1, .int x1), (2, .int x2), (3, .int v9), (4, .int v14), (5, .int v16), (6, .int v20)] [] R J21 L (sX11_splitOf_47 R a0 x1 x2 v9 v14 v16 j17 ih22 v20 J21) := by
  unfold sX11_splitOf_47
  refine am_iload dX11_splitOf_47 6 rfl ?_
  refine am_iconst (v := 3) dX11_splitOf_49 (by decide) ?_
  refine am_icmp_ge (tgt := 186) dX11_splitOf_50 rfl (fun e23 => ?_) (fun e23 => ?_)
  · refine am_sub (ls' := [(0, .ref (am_B Z + a0)), (1, .int x1), (2, .int x2), (3, .int v9)]) [0, 1, 2, 3] rfl ?_
    exact hj17 J21
  · refine am_aload_n dX11_splitOf_53 rfl 0 rfl ?_
    refine am_getR 11 1 clX11 (Nat.le_of_ble_eq_true rfl) h19 iX11_splitOf_11 fX11_splitOf_13 rfl rfl dX11_splitOf_54 (fun h24 => ?_)
    refine am_bipush (v := 6) dX11_splitOf_57 (by decide) ?_
    refine am_iload dX11_splitOf_59 6 rfl ?_
    refine am_imul dX11_splitOf_61 ?_
    refine am_iload dX11_splitOf_62 4 rfl ?_
    refine am_bipush (v := 36) dX11_splitOf_64 (by decide) ?_
    refine am_idivC dX11_splitOf_66 (by decide) ?_
    refine am_iadd dX11_splitOf_67 ?_
    refine am_iald h24 dX11_splitOf_68 ?_
    refine am_letTi (fun v25 => ?_)
    refine am_istore (ls' := [(7, .int v25), (0, .ref (am_B Z + a0)), (1, .int x1), (2, .int x2), (3, .int v9), (4, .int v14), (5, .int v16), (6, .int v20)]) dX11_splitOf_69 (Nat.le_of_ble_eq_true rfl) rfl ?_
    refine am_aload_n dX11_splitOf_71 rfl 1 rfl ?_
    refine am_getR 11 1 clX11 (Nat.le_of_ble_eq_true rfl) h19 iX11_splitOf_11 fX11_splitOf_13 rfl rfl dX11_splitOf_72 (fun h26 => ?_)
    refine am_bipush (v := 6) dX11_splitOf_75 (by decide) ?_
    refine am_iload dX11_splitOf_77 7 rfl ?_
    refine am_imul dX11_splitOf_79 ?_
    refine am_iload dX11_splitOf_80 5 rfl ?_
    refine am_bipush (v := 6) dX11_splitOf_82 (by decide) ?_
    refine am_idivC dX11_splitOf_84 (by decide) ?_
    refine am_bipush (v := 6) dX11_splitOf_85 (by decide) ?_
    refine am_iremC dX11_splitOf_87 (by decide) ?_
    refine am_iadd dX11_splitOf_88 ?_
    refine am_iald h26 dX11_splitOf_89 ?_
    refine am_letTi (fun v27 => ?_)
    refine am_istore (ls' := [(8, .int v27), (7, .int v25), (0, .ref (am_B Z + a0)), (1, .int x1), (2, .int x2), (3, .int v9), (4, .int v14), (5, .int v16), (6, .int v20)]) dX11_splitOf_90 (Nat.le_of_ble_eq_true rfl) rfl ?_
    refine am_aload_n dX11_splitOf_92 rfl 2 rfl ?_
    refine am_getR 11 1 clX11 (Nat.le_of_ble_eq_true rfl) h19 iX11_splitOf_11 fX11_splitOf_13 rfl rfl dX11_splitOf_93 (fun h28 => ?_)
    refine am_bipush (v := 6) dX11_splitOf_96 (by decide) ?_
    refine am_iload dX11_splitOf_98 8 rfl ?_
    refine am_imul dX11_splitOf_100 ?_
    refine am_iload dX11_splitOf_101 6 rfl ?_
    refine am_bipush (v := 6) dX11_splitOf_103 (by decide) ?_
    refine am_iremC dX11_splitOf_105 (by decide) ?_
    refine am_iadd dX11_splitOf_106 ?_
    refine am_iald h28 dX11_splitOf_107 ?_
    refine am_letTi (fun v29 => ?_)
    refine am_istore (ls' := [(9, .int v29), (8, .int v27), (7, .int v25), (0, .ref (am_B Z + a0)), (1, .int x1), (2, .int x2), (3, .int v9), (4, .int v14), (5, .int v16), (6, .int v20)]) dX11_splitOf_108 (Nat.le_of_ble_eq_true rfl) rfl ?_
    refine am_iconst (v := 0) dX11_splitOf_110 (by decide) ?_
    refine am_istore (ls' := [(10, .int (0 : Int32)), (9, .int v29), (8, .int v27), (7, .int v25), (0, .ref (am_B Z + a0)), (1, .int x1), (2, .int x2), (3, .int v9), (4, .int v14), (5, .int v16), (6, .int v20)]) dX11_splitOf_111 (Nat.le_of_ble_eq_true rfl) rfl ?_
    refine am_jnV (fun j30 ej30 => ?_)
    have hj30 : ∀ (J31 : am_I), am_V Z X kX11_splitOf (fun r : Int32 × am_I => (some (.int r.1), R, r.2, L)) 180 [(0, .ref (am_B Z + a0)), (1, .int x1), (2, .int x2), (3, .int v9), (4, .int v14), (5, .int v16), (6, .int v20)] [] R J31 L (j30 J31) := by
      subst ej30
      intro J31
      show am_V Z X kX11_splitOf (fun r : Int32 × am_I => (some (.int r.1), R, r.2, L)) 180 [(0, .ref (am_B Z + a0)), (1, .int x1), (2, .int x2), (3, .int v9), (4, .int v14), (5, .int v16), (6, .int v20)] [] R J31 L _
      refine am_iinc (j := 6) (ls' := [(6, .int (v20 + (1 : Int32))), (0, .ref (am_B Z + a0)), (1, .int x1), (2, .int x2), (3, .int v9), (4, .int v14), (5, .int v16)]) dX11_splitOf_180 rfl rfl (Nat.le_of_ble_eq_true rfl) rfl ?_
      refine am_goto (tgt := 47) dX11_splitOf_183 rfl ?_
      refine am_sub (ls' := [(0, .ref (am_B Z + a0)), (1, .int x1), (2, .int x2), (3, .int v9), (4, .int v14), (5, .int v16), (6, .int (v20 + (1 : Int32)))]) [1, 2, 3, 4, 5, 6, 0] rfl ?_
      exact hih22 (v20 + (1 : Int32)) J31
    refine am_sub (ls' := [(0, .ref (am_B Z + a0)), (1, .int x1), (2, .int x2), (3, .int v9), (4, .int v14), (5, .int v16), (6, .int v20), (7, .int v25), (8, .int v27), (9, .int v29), (10, .int (0 : Int32))]) [4, 5, 6, 7, 8, 9, 10, 3, 2, 1, 0] rfl ?_
    exact uX11_splitOf_113 R L a0 x1 x2 v9 v14 v16 v20 v25 v27 v29 h19 j30 hj30 am_fu (0 : Int32) J21
theorem uX11_splitOf_47 {Z : am_Z} {X : am_X} (R : am_R) (L : am_L) (a0 : Nat) (x1 : Int32) (x2 : Int32) (v9 : Int32) (v14 : Int32) (v16 : Int32) (h19 : am_G Z a0 = some (.inl 11)) (j17 : am_I → Option (Int32 × am_I)) (hj17 : ∀ (J18 : am_I), am_V Z X kX11_splitOf (fun r : Int32 × am_I => (some (.int r.1), R, r.2, L)) 186 [(0, .ref (am_B Z + a0)), (1, .int x1), (2, .int x2), (3, .int v9)] [] R J18 L (j17 J18)) : ∀ (n : Nat) (v20 : Int32) (J21 : am_I), am_V Z X kX11_splitOf (fun r : Int32 × am_I => (some (.int r.1), R, r.2, L)) 47 [(0, .ref (am_B Z + a0)), (1, .int x1), (2, .int x2), (3, .int v9), (4, .int v14), (5, .int v16), (6, .int v20)] [] R J21 L (lX11_splitOf_47 R a0 x1 x2 v9 v14 v16 j17 n v20 J21) := by
  intro n
  induction n with
  | zero => intro _ _; exact am_none
  | succ n ih => exact fun v20 J21 => vX11_splitOf_47 R L a0 x1 x2 v9 v14 v16 h19 j17 hj17 (lX11_splitOf_47 R a0 x1 x2 v9 v14 v16 j17 n) ih v20 J21
set_option maxRecDepth 100000 in
set_option maxHeartbeats 4000000 in
theorem vX11_splitOf_17 {Z : am_Z} {X : am_X} (R : am_R) (L : am_L) (a0 : Nat) (x1 : Int32) (x2 : Int32) (h8 : am_G Z a0 = some (.inl 11)) (j4 : am_I → Option (Int32 × am_I)) (hj4 : ∀ (J5 : am_I), am_V Z X kX11_splitOf (fun r : Int32 × am_I => (some (.int r.1), R, r.2, L)) 192 [(0, .ref (am_B Z + a0)), (1, .int x1), (2, .int x2)] [] R J5 L (j4 J5)) (ih11 : Int32 → am_I → Option (Int32 × am_I)) (hih11 : ∀ (v9 : Int32) (J10 : am_I), am_V Z X kX11_splitOf (fun r : Int32 × am_I => (some (.int r.1), R, r.2, L)) 17 [(0, .ref (am_B Z + a0)), (1, .int x1), (2, .int x2), (3, .int v9)] [] R J10 L (ih11 v9 J10)) (v9 : Int32) (J10 : am_I) : am_V Z X kX11_splitOf (fun r : Int32 × am_I => (some (.int r.1), R, r.2, L)) 17 [(0, .ref (am_B Z + a0)), (1, .int x1), (2, .int x2), (3, .int v9)] [] R J10 L (sX11_splitOf_17 R a0 x1 x2 j4 ih11 v9 J10) := by
  unfold sX11_splitOf_17
  refine am_iload_n dX11_splitOf_17 rfl 3 rfl ?_
  refine am_aload_n dX11_splitOf_18 rfl 0 rfl ?_
  refine am_get 11 21 clX11 (Nat.le_of_ble_eq_true rfl) h8 iX11_splitOf_11 fX11_splitOf_234 rfl dX11_splitOf_19 ?_
  refine am_icmp_ge (tgt := 192) dX11_splitOf_22 rfl (fun e12 => ?_) (fun e12 => ?_)
  · refine am_sub (ls' := [(0, .ref (am_B Z + a0)), (1, .int x1), (2, .int x2)]) [0, 1, 2] rfl ?_
    exact hj4 J10
  · refine am_aload_n dX11_splitOf_25 rfl 0 rfl ?_
    refine am_getR 11 20 clX11 (Nat.le_of_ble_eq_true rfl) h8 iX11_splitOf_11 fX11_splitOf_48 rfl rfl dX11_splitOf_26 (fun h13 => ?_)
    refine am_iload_n dX11_splitOf_29 rfl 3 rfl ?_
    refine am_iald h13 dX11_splitOf_30 ?_
    refine am_letTi (fun v14 => ?_)
    refine am_istore (ls' := [(4, .int v14), (0, .ref (am_B Z + a0)), (1, .int x1), (2, .int x2), (3, .int v9)]) dX11_splitOf_31 (Nat.le_of_ble_eq_true rfl) rfl ?_
    refine am_aload_n dX11_splitOf_33 rfl 1 rfl ?_
    refine am_getR 11 19 clX11 (Nat.le_of_ble_eq_true rfl) h8 iX11_splitOf_11 fX11_splitOf_45 rfl rfl dX11_splitOf_34 (fun h15 => ?_)
    refine am_iload dX11_splitOf_37 0 rfl ?_
    refine am_iald h15 dX11_splitOf_39 ?_
    refine am_iconst (v := 1) dX11_splitOf_40 (by decide) ?_
    refine am_iadd dX11_splitOf_41 ?_
    refine am_letTi (fun v16 => ?_)
    refine am_istore (ls' := [(5, .int v16), (4, .int v14), (0, .ref (am_B Z + a0)), (1, .int x1), (2, .int x2), (3, .int v9)]) dX11_splitOf_42 (Nat.le_of_ble_eq_true rfl) rfl ?_
    refine am_iconst (v := 0) dX11_splitOf_44 (by decide) ?_
    refine am_istore (ls' := [(6, .int (0 : Int32)), (5, .int v16), (4, .int v14), (0, .ref (am_B Z + a0)), (1, .int x1), (2, .int x2), (3, .int v9)]) dX11_splitOf_45 (Nat.le_of_ble_eq_true rfl) rfl ?_
    refine am_jnV (fun j17 ej17 => ?_)
    have hj17 : ∀ (J18 : am_I), am_V Z X kX11_splitOf (fun r : Int32 × am_I => (some (.int r.1), R, r.2, L)) 186 [(0, .ref (am_B Z + a0)), (1, .int x1), (2, .int x2), (3, .int v9)] [] R J18 L (j17 J18) := by
      subst ej17
      intro J18
      show am_V Z X kX11_splitOf (fun r : Int32 × am_I => (some (.int r.1), R, r.2, L)) 186 [(0, .ref (am_B Z + a0)), (1, .int x1), (2, .int x2), (3, .int v9)] [] R J18 L _
      refine am_iinc (j := 3) (ls' := [(3, .int (v9 + (1 : Int32))), (0, .ref (am_B Z + a0)), (1, .int x1), (2, .int x2)]) dX11_splitOf_186 rfl rfl (Nat.le_of_ble_eq_true rfl) rfl ?_
      refine am_goto (tgt := 17) dX11_splitOf_189 rfl ?_
      refine am_sub (ls' := [(0, .ref (am_B Z + a0)), (1, .int x1), (2, .int x2), (3, .int (v9 + (1 : Int32)))]) [1, 2, 3, 0] rfl ?_
      exact hih11 (v9 + (1 : Int32)) J18
    refine am_sub (ls' := [(0, .ref (am_B Z + a0)), (1, .int x1), (2, .int x2), (3, .int v9), (4, .int v14), (5, .int v16), (6, .int (0 : Int32))]) [3, 4, 5, 6, 2, 1, 0] rfl ?_
    exact uX11_splitOf_47 R L a0 x1 x2 v9 v14 v16 h8 j17 hj17 am_fu (0 : Int32) J10
theorem uX11_splitOf_17 {Z : am_Z} {X : am_X} (R : am_R) (L : am_L) (a0 : Nat) (x1 : Int32) (x2 : Int32) (h8 : am_G Z a0 = some (.inl 11)) (j4 : am_I → Option (Int32 × am_I)) (hj4 : ∀ (J5 : am_I), am_V Z X kX11_splitOf (fun r : Int32 × am_I => (some (.int r.1), R, r.2, L)) 192 [(0, .ref (am_B Z + a0)), (1, .int x1), (2, .int x2)] [] R J5 L (j4 J5)) : ∀ (n : Nat) (v9 : Int32) (J10 : am_I), am_V Z X kX11_splitOf (fun r : Int32 × am_I => (some (.int r.1), R, r.2, L)) 17 [(0, .ref (am_B Z + a0)), (1, .int x1), (2, .int x2), (3, .int v9)] [] R J10 L (lX11_splitOf_17 R a0 x1 x2 j4 n v9 J10) := by
  intro n
  induction n with
  | zero => intro _ _; exact am_none
  | succ n ih => exact fun v9 J10 => vX11_splitOf_17 R L a0 x1 x2 h8 j4 hj4 (lX11_splitOf_17 R a0 x1 x2 j4 n) ih v9 J10
set_option maxRecDepth 100000 in
set_option maxHeartbeats 4000000 in
theorem tX11_splitOf {Z : am_Z} (R : am_R) (I : am_I) (L : am_L) (a0 : Nat) (x1 : Int32) (x2 : Int32) (h_a0 : am_G Z a0 = some (.inl 11)) : am_M Z yX11_splitOf kX11_splitOf [.ref (am_B Z + a0), .int x1, .int x2] R I L (pX11_splitOf R I a0 x1 x2) (fun r : Int32 × am_I => (some (.int r.1), R, r.2, L)) := by
  refine am_entry (ls := [(0, .ref (am_B Z + a0)), (1, .int x1), (2, .int x2)]) (by decide) hX11_splitOf rfl (Nat.le_of_ble_eq_true rfl) rfl (fun X => ?_)
  unfold pX11_splitOf
  refine am_aload_n dX11_splitOf_0 rfl 0 rfl ?_
  refine am_callV [] (tX11_beginsSearch R I L a0 h_a0) h_a0 clX11 gX11_splitOf_X11_beginsSearch hX11_beginsSearch rfl ⟨Nat.le_of_ble_eq_true rfl, Nat.le_of_ble_eq_true rfl⟩ rfl rfl (Nat.le_of_ble_eq_true rfl) dX11_splitOf_1 (fun r1 => ?_)
  show am_V Z X kX11_splitOf (fun r : Int32 × am_I => (some (.int r.1), R, r.2, L)) 4 [(0, .ref (am_B Z + a0)), (1, .int x1), (2, .int x2)] [] R r1 L _
  refine am_aload_n dX11_splitOf_4 rfl 0 rfl ?_
  refine am_iload_n dX11_splitOf_5 rfl 1 rfl ?_
  refine am_iload_n dX11_splitOf_6 rfl 2 rfl ?_
  refine am_iload_n dX11_splitOf_7 rfl 2 rfl ?_
  refine am_callS [.int x1, .int x2, .int x2] (tX11_triple R r1 L x1 x2 x2) gX11_splitOf_X11_triple hX11_triple ⟨Nat.le_of_ble_eq_true rfl, Nat.le_of_ble_eq_true rfl⟩ rfl rfl (Nat.le_of_ble_eq_true rfl) dX11_splitOf_8 (fun r2 => ?_)
  show am_V Z X kX11_splitOf (fun r : Int32 × am_I => (some (.int r.1), R, r.2, L)) 11 [(0, .ref (am_B Z + a0)), (1, .int x1), (2, .int x2)] [.int r2, .ref (am_B Z + a0)] R r1 L _
  refine am_iconst (v := 0) dX11_splitOf_11 (by decide) ?_
  refine am_callV [.int r2, .int (0 : Int32)] (tX11_reaches R r1 L a0 r2 (0 : Int32) h_a0) h_a0 clX11 gX11_splitOf_X11_reaches hX11_reaches rfl ⟨Nat.le_of_ble_eq_true rfl, Nat.le_of_ble_eq_true rfl⟩ rfl rfl (Nat.le_of_ble_eq_true rfl) dX11_splitOf_12 (fun r3 => ?_)
  show am_V Z X kX11_splitOf (fun r : Int32 × am_I => (some (.int r.1), R, r.2, L)) 15 [(0, .ref (am_B Z + a0)), (1, .int x1), (2, .int x2)] [] R r3 L _
  refine am_iconst (v := 0) dX11_splitOf_15 (by decide) ?_
  refine am_istore_n (ls' := [(3, .int (0 : Int32)), (0, .ref (am_B Z + a0)), (1, .int x1), (2, .int x2)]) dX11_splitOf_16 rfl (Nat.le_of_ble_eq_true rfl) rfl ?_
  refine am_jnV (fun j4 ej4 => ?_)
  have hj4 : ∀ (J5 : am_I), am_V Z X kX11_splitOf (fun r : Int32 × am_I => (some (.int r.1), R, r.2, L)) 192 [(0, .ref (am_B Z + a0)), (1, .int x1), (2, .int x2)] [] R J5 L (j4 J5) := by
    subst ej4
    intro J5
    show am_V Z X kX11_splitOf (fun r : Int32 × am_I => (some (.int r.1), R, r.2, L)) 192 [(0, .ref (am_B Z + a0)), (1, .int x1), (2, .int x2)] [] R J5 L _
    refine am_aload_n dX11_splitOf_192 rfl 0 rfl ?_
    refine am_getR 11 19 clX11 (Nat.le_of_ble_eq_true rfl) h_a0 iX11_splitOf_11 fX11_splitOf_45 rfl rfl dX11_splitOf_193 (fun h6 => ?_)
    refine am_iload_n dX11_splitOf_196 rfl 1 rfl ?_
    refine am_iload_n dX11_splitOf_197 rfl 1 rfl ?_
    refine am_iload_n dX11_splitOf_198 rfl 2 rfl ?_
    refine am_callS [.int x1, .int x1, .int x2] (tX11_triple R J5 L x1 x1 x2) gX11_splitOf_X11_triple hX11_triple ⟨Nat.le_of_ble_eq_true rfl, Nat.le_of_ble_eq_true rfl⟩ rfl rfl (Nat.le_of_ble_eq_true rfl) dX11_splitOf_199 (fun r7 => ?_)
    show am_V Z X kX11_splitOf (fun r : Int32 × am_I => (some (.int r.1), R, r.2, L)) 202 [(0, .ref (am_B Z + a0)), (1, .int x1), (2, .int x2)] [.int r7, .ref (am_B Z + (R a0 19))] R J5 L _
    refine am_iald h6 dX11_splitOf_202 ?_
    exact am_iret dX11_splitOf_203 rfl rfl
  refine am_sub (ls' := [(0, .ref (am_B Z + a0)), (1, .int x1), (2, .int x2), (3, .int (0 : Int32))]) [1, 2, 3, 0] rfl ?_
  exact uX11_splitOf_17 R L a0 x1 x2 h_a0 j4 hj4 am_fu (0 : Int32) r3
abbrev kX11_finds : am_K := (cX11_finds, 5, RX11, wsX11_finds, none, { frames := 5, cells := 0, slots := 0, locals := 125 })
theorem hX11_finds : am_cl yX11_finds kX11_finds 0 := ⟨⟨_, rfl⟩, rfl, rfl, by decide +kernel, by decide +kernel, by decide +kernel⟩
theorem iX11_finds_11 : ∀ w ∈ u_ws RX11 TX11 50, w ∈ wsX11_finds := by decide +kernel
theorem fX11_finds_118 : Cond.fieldLink RX11 118 "AmbiguityAnalyzerModel" "isKnown" "Z" ∈ wsX11_finds := by decide +kernel
theorem fX11_finds_279 : Cond.fieldLink RX11 279 "AmbiguityAnalyzerModel" "isAmbiguous" "Z" ∈ wsX11_finds := by decide +kernel
theorem fX11_finds_282 : Cond.fieldLink RX11 282 "AmbiguityAnalyzerModel" "loops" "I" ∈ wsX11_finds := by decide +kernel
theorem fX11_finds_285 : Cond.fieldLink RX11 285 "AmbiguityAnalyzerModel" "splits" "I" ∈ wsX11_finds := by decide +kernel
theorem fX11_finds_61 : Cond.fieldLink RX11 61 "AmbiguityAnalyzerModel" "isSplit" "[Z" ∈ wsX11_finds := by decide +kernel
set_option maxRecDepth 100000 in
set_option maxHeartbeats 4000000 in
theorem vX11_finds_86 {Z : am_Z} {X : am_X} (R : am_R) (L : am_L) (a0 : Nat) (r3 : Int32) (v12 : Int32) (h21 : am_G Z a0 = some (.inl 11)) (j19 : am_I → Option (am_I)) (hj19 : ∀ (J20 : am_I), am_V Z X kX11_finds (fun r : am_I => (none, R, r, L)) 172 [(0, .ref (am_B Z + a0)), (1, .int r3), (2, .int v12)] [] R J20 L (j19 J20)) (ih24 : Int32 → am_I → Option (am_I)) (hih24 : ∀ (v22 : Int32) (J23 : am_I), am_V Z X kX11_finds (fun r : am_I => (none, R, r, L)) 86 [(0, .ref (am_B Z + a0)), (1, .int r3), (2, .int v12), (3, .int v22)] [] R J23 L (ih24 v22 J23)) (v22 : Int32) (J23 : am_I) : am_V Z X kX11_finds (fun r : am_I => (none, R, r, L)) 86 [(0, .ref (am_B Z + a0)), (1, .int r3), (2, .int v12), (3, .int v22)] [] R J23 L (sX11_finds_86 R a0 r3 v12 j19 ih24 v22 J23) := by
  unfold sX11_finds_86
  refine am_iload_n dX11_finds_86 rfl 3 rfl ?_
  refine am_bipush (v := 6) dX11_finds_87 (by decide) ?_
  refine am_icmp_ge (tgt := 172) dX11_finds_89 rfl (fun e25 => ?_) (fun e25 => ?_)
  · refine am_sub (ls' := [(0, .ref (am_B Z + a0)), (1, .int r3), (2, .int v12)]) [0, 1, 2] rfl ?_
    exact hj19 J23
  · refine am_iload_n dX11_finds_92 rfl 2 rfl ?_
    refine am_iload_n dX11_finds_93 rfl 3 rfl ?_
    refine am_jnV (fun j26 ej26 => ?_)
    have hj26 : ∀ (v27 : Int32) (J28 : am_I), am_V Z X kX11_finds (fun r : am_I => (none, R, r, L)) 132 [(0, .ref (am_B Z + a0)), (1, .int r3), (2, .int v12), (3, .int v22)] [.int v27] R J28 L (j26 v27 J28) := by
      subst ej26
      intro v27 J28
      show am_V Z X kX11_finds (fun r : am_I => (none, R, r, L)) 132 [(0, .ref (am_B Z + a0)), (1, .int r3), (2, .int v12), (3, .int v22)] [.int v27] R J28 L _
      refine am_istore (ls' := [(4, .int v27), (0, .ref (am_B Z + a0)), (1, .int r3), (2, .int v12), (3, .int v22)]) dX11_finds_132 (Nat.le_of_ble_eq_true rfl) rfl ?_
      refine am_aload_n dX11_finds_134 rfl 1 rfl ?_
      refine am_getR 11 26 clX11 (Nat.le_of_ble_eq_true rfl) h21 iX11_finds_11 fX11_finds_61 rfl rfl dX11_finds_135 (fun h29 => ?_)
      refine am_bipush (v := 6) dX11_finds_138 (by decide) ?_
      refine am_iload_n dX11_finds_140 rfl 3 rfl ?_
      refine am_imul dX11_finds_141 ?_
      refine am_iload_n dX11_finds_142 rfl 4 rfl ?_
      refine am_iadd dX11_finds_143 ?_
      refine am_iload dX11_finds_144 0 rfl ?_
      refine am_ckV (fun hb30 => ?_)
      refine am_zast h29 hb30 dX11_finds_146 ?_
      refine am_letI (fun J31 => ?_)
      refine am_aload_n dX11_finds_147 rfl 1 rfl ?_
      refine am_dup dX11_finds_148 rfl ?_
      refine am_get 11 28 clX11 (Nat.le_of_ble_eq_true rfl) h21 iX11_finds_11 fX11_finds_285 rfl dX11_finds_149 ?_
      refine am_iload dX11_finds_152 0 rfl ?_
      refine am_letJ (fun k33 ek33 => ?_)
      have hk33 : ∀ v32 : Int32, am_V Z X kX11_finds (fun r : am_I => (none, R, r, L)) 162 [(0, .ref (am_B Z + a0)), (1, .int r3), (2, .int v12), (3, .int v22)] [.int v32, .int (J31 a0 28), .ref (am_B Z + a0)] R J31 L (k33 v32) := by
        subst ek33
        intro v32
        show am_V Z X kX11_finds (fun r : am_I => (none, R, r, L)) 162 [(0, .ref (am_B Z + a0)), (1, .int r3), (2, .int v12), (3, .int v22)] [.int v32, .int (J31 a0 28), .ref (am_B Z + a0)] R J31 L _
        refine am_iadd dX11_finds_162 ?_
        refine am_putI 11 28 clX11 (Nat.le_of_ble_eq_true rfl) h21 iX11_finds_11 fX11_finds_285 rfl rfl dX11_finds_163 ?_
        refine am_letI (fun J34 => ?_)
        refine am_iinc (j := 3) (ls' := [(3, .int (v22 + (1 : Int32))), (0, .ref (am_B Z + a0)), (1, .int r3), (2, .int v12)]) dX11_finds_166 rfl rfl (Nat.le_of_ble_eq_true rfl) rfl ?_
        refine am_goto (tgt := 86) dX11_finds_169 rfl ?_
        refine am_sub (ls' := [(0, .ref (am_B Z + a0)), (1, .int r3), (2, .int v12), (3, .int (v22 + (1 : Int32)))]) [1, 2, 3, 0] rfl ?_
        exact hih24 (v22 + (1 : Int32)) J34
      refine am_if_eqL (tgt := 161) dX11_finds_154 rfl (fun e35 => ?_) (fun e35 => ?_)
      · refine am_iconst (v := 0) dX11_finds_161 (by decide) ?_
        refine am_sub (ls' := [(0, .ref (am_B Z + a0)), (1, .int r3), (2, .int v12), (3, .int v22)]) [1, 2, 3, 4] rfl ?_
        exact hk33 _
      · refine am_iconst (v := 1) dX11_finds_157 (by decide) ?_
        refine am_goto (tgt := 162) dX11_finds_158 rfl ?_
        refine am_sub (ls' := [(0, .ref (am_B Z + a0)), (1, .int r3), (2, .int v12), (3, .int v22)]) [1, 2, 3, 4] rfl ?_
        exact hk33 _
    refine am_jnV (fun j36 ej36 => ?_)
    have hj36 : ∀ (J37 : am_I), am_V Z X kX11_finds (fun r : am_I => (none, R, r, L)) 131 [(0, .ref (am_B Z + a0)), (1, .int r3), (2, .int v12), (3, .int v22)] [] R J37 L (j36 J37) := by
      subst ej36
      intro J37
      show am_V Z X kX11_finds (fun r : am_I => (none, R, r, L)) 131 [(0, .ref (am_B Z + a0)), (1, .int r3), (2, .int v12), (3, .int v22)] [] R J37 L _
      refine am_iconst (v := 0) dX11_finds_131 (by decide) ?_
      exact hj26 (0 : Int32) J37
    refine am_icmp_eq (tgt := 131) dX11_finds_94 rfl (fun e38 => ?_) (fun e38 => ?_)
    · exact hj36 J23
    · refine am_iload_n dX11_finds_97 rfl 1 rfl ?_
      refine am_i2l dX11_finds_98 ?_
      refine am_iload_n dX11_finds_99 rfl 2 rfl ?_
      refine am_callS [.long (Int32.toInt64 r3), .int v12] (tX11_has R J23 L (Int32.toInt64 r3) v12) gX11_finds_X11_has hX11_has ⟨Nat.le_of_ble_eq_true rfl, Nat.le_of_ble_eq_true rfl⟩ rfl rfl (Nat.le_of_ble_eq_true rfl) dX11_finds_100 (fun r39 => ?_)
      show am_V Z X kX11_finds (fun r : am_I => (none, R, r, L)) 103 [(0, .ref (am_B Z + a0)), (1, .int r3), (2, .int v12), (3, .int v22)] [.int r39] R J23 L _
      refine am_if_eq (tgt := 131) dX11_finds_103 rfl (fun e40 => ?_) (fun e40 => ?_)
      · exact hj36 J23
      · refine am_iload_n dX11_finds_106 rfl 1 rfl ?_
        refine am_i2l dX11_finds_107 ?_
        refine am_iload_n dX11_finds_108 rfl 3 rfl ?_
        refine am_callS [.long (Int32.toInt64 r3), .int v22] (tX11_has R J23 L (Int32.toInt64 r3) v22) gX11_finds_X11_has hX11_has ⟨Nat.le_of_ble_eq_true rfl, Nat.le_of_ble_eq_true rfl⟩ rfl rfl (Nat.le_of_ble_eq_true rfl) dX11_finds_109 (fun r41 => ?_)
        show am_V Z X kX11_finds (fun r : am_I => (none, R, r, L)) 112 [(0, .ref (am_B Z + a0)), (1, .int r3), (2, .int v12), (3, .int v22)] [.int r41] R J23 L _
        refine am_if_eq (tgt := 131) dX11_finds_112 rfl (fun e42 => ?_) (fun e42 => ?_)
        · exact hj36 J23
        · refine am_aload_n dX11_finds_115 rfl 0 rfl ?_
          refine am_iload_n dX11_finds_116 rfl 2 rfl ?_
          refine am_iload_n dX11_finds_117 rfl 3 rfl ?_
          refine am_callV [.int v12, .int v22] (tX11_splitOf R J23 L a0 v12 v22 h21) h21 clX11 gX11_finds_X11_splitOf hX11_splitOf rfl ⟨Nat.le_of_ble_eq_true rfl, Nat.le_of_ble_eq_true rfl⟩ rfl rfl (Nat.le_of_ble_eq_true rfl) dX11_finds_118 (fun r43 => ?_)
          show am_V Z X kX11_finds (fun r : am_I => (none, R, r, L)) 121 [(0, .ref (am_B Z + a0)), (1, .int r3), (2, .int v12), (3, .int v22)] [.int r43.1] R r43.2 L _
          refine am_sipush (v := 1000) dX11_finds_121 (by decide) ?_
          refine am_icmp_ge (tgt := 131) dX11_finds_124 rfl (fun e44 => ?_) (fun e44 => ?_)
          · exact hj36 r43.2
          · refine am_iconst (v := 1) dX11_finds_127 (by decide) ?_
            refine am_goto (tgt := 132) dX11_finds_128 rfl ?_
            exact hj26 (1 : Int32) r43.2
theorem uX11_finds_86 {Z : am_Z} {X : am_X} (R : am_R) (L : am_L) (a0 : Nat) (r3 : Int32) (v12 : Int32) (h21 : am_G Z a0 = some (.inl 11)) (j19 : am_I → Option (am_I)) (hj19 : ∀ (J20 : am_I), am_V Z X kX11_finds (fun r : am_I => (none, R, r, L)) 172 [(0, .ref (am_B Z + a0)), (1, .int r3), (2, .int v12)] [] R J20 L (j19 J20)) : ∀ (n : Nat) (v22 : Int32) (J23 : am_I), am_V Z X kX11_finds (fun r : am_I => (none, R, r, L)) 86 [(0, .ref (am_B Z + a0)), (1, .int r3), (2, .int v12), (3, .int v22)] [] R J23 L (lX11_finds_86 R a0 r3 v12 j19 n v22 J23) := by
  intro n
  induction n with
  | zero => intro _ _; exact am_none
  | succ n ih => exact fun v22 J23 => vX11_finds_86 R L a0 r3 v12 h21 j19 hj19 (lX11_finds_86 R a0 r3 v12 j19 n) ih v22 J23
set_option maxRecDepth 100000 in
set_option maxHeartbeats 4000000 in
theorem vX11_finds_46 {Z : am_Z} {X : am_X} (R : am_R) (L : am_L) (a0 : Nat) (r3 : Int32) (h11 : am_G Z a0 = some (.inl 11)) (ih14 : Int32 → am_I → Option (am_I)) (hih14 : ∀ (v12 : Int32) (J13 : am_I), am_V Z X kX11_finds (fun r : am_I => (none, R, r, L)) 46 [(0, .ref (am_B Z + a0)), (1, .int r3), (2, .int v12)] [] R J13 L (ih14 v12 J13)) (v12 : Int32) (J13 : am_I) : am_V Z X kX11_finds (fun r : am_I => (none, R, r, L)) 46 [(0, .ref (am_B Z + a0)), (1, .int r3), (2, .int v12)] [] R J13 L (sX11_finds_46 R a0 r3 ih14 v12 J13) := by
  unfold sX11_finds_46
  refine am_iload_n dX11_finds_46 rfl 2 rfl ?_
  refine am_bipush (v := 6) dX11_finds_47 (by decide) ?_
  refine am_icmp_ge (tgt := 178) dX11_finds_49 rfl (fun e15 => ?_) (fun e15 => ?_)
  · exact am_vret dX11_finds_178 rfl rfl
  · refine am_iload_n dX11_finds_52 rfl 1 rfl ?_
    refine am_i2l dX11_finds_53 ?_
    refine am_iload_n dX11_finds_54 rfl 2 rfl ?_
    refine am_callS [.long (Int32.toInt64 r3), .int v12] (tX11_has R J13 L (Int32.toInt64 r3) v12) gX11_finds_X11_has hX11_has ⟨Nat.le_of_ble_eq_true rfl, Nat.le_of_ble_eq_true rfl⟩ rfl rfl (Nat.le_of_ble_eq_true rfl) dX11_finds_55 (fun r16 => ?_)
    show am_V Z X kX11_finds (fun r : am_I => (none, R, r, L)) 58 [(0, .ref (am_B Z + a0)), (1, .int r3), (2, .int v12)] [.int r16] R J13 L _
    refine am_jnV (fun j17 ej17 => ?_)
    have hj17 : ∀ (J18 : am_I), am_V Z X kX11_finds (fun r : am_I => (none, R, r, L)) 84 [(0, .ref (am_B Z + a0)), (1, .int r3), (2, .int v12)] [] R J18 L (j17 J18) := by
      subst ej17
      intro J18
      show am_V Z X kX11_finds (fun r : am_I => (none, R, r, L)) 84 [(0, .ref (am_B Z + a0)), (1, .int r3), (2, .int v12)] [] R J18 L _
      refine am_iconst (v := 0) dX11_finds_84 (by decide) ?_
      refine am_istore_n (ls' := [(3, .int (0 : Int32)), (0, .ref (am_B Z + a0)), (1, .int r3), (2, .int v12)]) dX11_finds_85 rfl (Nat.le_of_ble_eq_true rfl) rfl ?_
      refine am_jnV (fun j19 ej19 => ?_)
      have hj19 : ∀ (J20 : am_I), am_V Z X kX11_finds (fun r : am_I => (none, R, r, L)) 172 [(0, .ref (am_B Z + a0)), (1, .int r3), (2, .int v12)] [] R J20 L (j19 J20) := by
        subst ej19
        intro J20
        show am_V Z X kX11_finds (fun r : am_I => (none, R, r, L)) 172 [(0, .ref (am_B Z + a0)), (1, .int r3), (2, .int v12)] [] R J20 L _
        refine am_iinc (j := 2) (ls' := [(2, .int (v12 + (1 : Int32))), (0, .ref (am_B Z + a0)), (1, .int r3)]) dX11_finds_172 rfl rfl (Nat.le_of_ble_eq_true rfl) rfl ?_
        refine am_goto (tgt := 46) dX11_finds_175 rfl ?_
        refine am_sub (ls' := [(0, .ref (am_B Z + a0)), (1, .int r3), (2, .int (v12 + (1 : Int32)))]) [1, 2, 0] rfl ?_
        exact hih14 (v12 + (1 : Int32)) J20
      refine am_sub (ls' := [(0, .ref (am_B Z + a0)), (1, .int r3), (2, .int v12), (3, .int (0 : Int32))]) [1, 2, 3, 0] rfl ?_
      exact uX11_finds_86 R L a0 r3 v12 h11 j19 hj19 am_fu (0 : Int32) J18
    refine am_if_eq (tgt := 84) dX11_finds_58 rfl (fun e45 => ?_) (fun e45 => ?_)
    · exact hj17 J13
    · refine am_aload_n dX11_finds_61 rfl 0 rfl ?_
      refine am_iload_n dX11_finds_62 rfl 2 rfl ?_
      refine am_callV [.int v12] (tX11_loopOf R J13 L a0 v12 h11) h11 clX11 gX11_finds_X11_loopOf hX11_loopOf rfl ⟨Nat.le_of_ble_eq_true rfl, Nat.le_of_ble_eq_true rfl⟩ rfl rfl (Nat.le_of_ble_eq_true rfl) dX11_finds_63 (fun r46 => ?_)
      show am_V Z X kX11_finds (fun r : am_I => (none, R, r, L)) 66 [(0, .ref (am_B Z + a0)), (1, .int r3), (2, .int v12)] [.int r46.1] R r46.2 L _
      refine am_sipush (v := 1000) dX11_finds_66 (by decide) ?_
      refine am_icmp_ge (tgt := 84) dX11_finds_69 rfl (fun e47 => ?_) (fun e47 => ?_)
      · exact hj17 r46.2
      · refine am_aload_n dX11_finds_72 rfl 0 rfl ?_
        refine am_dup dX11_finds_73 rfl ?_
        refine am_get 11 27 clX11 (Nat.le_of_ble_eq_true rfl) h11 iX11_finds_11 fX11_finds_282 rfl dX11_finds_74 ?_
        refine am_iconst (v := 1) dX11_finds_77 (by decide) ?_
        refine am_iload_n dX11_finds_78 rfl 2 rfl ?_
        refine am_ishl dX11_finds_79 ?_
        refine am_ior dX11_finds_80 ?_
        refine am_putI 11 27 clX11 (Nat.le_of_ble_eq_true rfl) h11 iX11_finds_11 fX11_finds_282 rfl rfl dX11_finds_81 ?_
        refine am_letI (fun J48 => ?_)
        exact hj17 J48
theorem uX11_finds_46 {Z : am_Z} {X : am_X} (R : am_R) (L : am_L) (a0 : Nat) (r3 : Int32) (h11 : am_G Z a0 = some (.inl 11)) : ∀ (n : Nat) (v12 : Int32) (J13 : am_I), am_V Z X kX11_finds (fun r : am_I => (none, R, r, L)) 46 [(0, .ref (am_B Z + a0)), (1, .int r3), (2, .int v12)] [] R J13 L (lX11_finds_46 R a0 r3 n v12 J13) := by
  intro n
  induction n with
  | zero => intro _ _; exact am_none
  | succ n ih => exact fun v12 J13 => vX11_finds_46 R L a0 r3 h11 (lX11_finds_46 R a0 r3 n) ih v12 J13
set_option maxRecDepth 100000 in
set_option maxHeartbeats 4000000 in
theorem tX11_finds {Z : am_Z} (R : am_R) (I : am_I) (L : am_L) (a0 : Nat) (h_a0 : am_G Z a0 = some (.inl 11)) : am_M Z yX11_finds kX11_finds [.ref (am_B Z + a0)] R I L (pX11_finds R I a0) (fun r : am_I => (none, R, r, L)) := by
  refine am_entry (ls := [(0, .ref (am_B Z + a0))]) (by decide) hX11_finds rfl (Nat.le_of_ble_eq_true rfl) rfl (fun X => ?_)
  unfold pX11_finds
  refine am_aload_n dX11_finds_0 rfl 0 rfl ?_
  refine am_get 11 6 clX11 (Nat.le_of_ble_eq_true rfl) h_a0 iX11_finds_11 fX11_finds_118 rfl dX11_finds_1 ?_
  refine am_if_eq (tgt := 8) dX11_finds_4 rfl (fun e1 => ?_) (fun e1 => ?_)
  · refine am_aload_n dX11_finds_8 rfl 0 rfl ?_
    refine am_iconst (v := 1) dX11_finds_9 (by decide) ?_
    refine am_putZ 11 6 clX11 (Nat.le_of_ble_eq_true rfl) h_a0 iX11_finds_11 fX11_finds_118 rfl rfl (by decide) dX11_finds_10 ?_
    refine am_letI (fun J2 => ?_)
    refine am_aload_n dX11_finds_13 rfl 0 rfl ?_
    refine am_callV [] (tX11_useful R J2 L a0 h_a0) h_a0 clX11 gX11_finds_X11_useful hX11_useful rfl ⟨Nat.le_of_ble_eq_true rfl, Nat.le_of_ble_eq_true rfl⟩ rfl rfl (Nat.le_of_ble_eq_true rfl) dX11_finds_14 (fun r3 => ?_)
    show am_V Z X kX11_finds (fun r : am_I => (none, R, r, L)) 17 [(0, .ref (am_B Z + a0))] [.int r3] R J2 L _
    refine am_istore_n (ls' := [(1, .int r3), (0, .ref (am_B Z + a0))]) dX11_finds_17 rfl (Nat.le_of_ble_eq_true rfl) rfl ?_
    refine am_aload_n dX11_finds_18 rfl 1 rfl ?_
    refine am_aload_n dX11_finds_19 rfl 1 rfl ?_
    refine am_callV [] (tX11_spellAmbiguous R J2 L a0 h_a0) h_a0 clX11 gX11_finds_X11_spellAmbiguous hX11_spellAmbiguous rfl ⟨Nat.le_of_ble_eq_true rfl, Nat.le_of_ble_eq_true rfl⟩ rfl rfl (Nat.le_of_ble_eq_true rfl) dX11_finds_20 (fun r4 => ?_)
    show am_V Z X kX11_finds (fun r : am_I => (none, R, r, L)) 23 [(1, .int r3), (0, .ref (am_B Z + a0))] [.int r4.1, .ref (am_B Z + a0)] R r4.2 L _
    refine am_letJ (fun k6 ek6 => ?_)
    have hk6 : ∀ v5 : Int32, am_V Z X kX11_finds (fun r : am_I => (none, R, r, L)) 31 [(0, .ref (am_B Z + a0)), (1, .int r3)] [.int v5, .ref (am_B Z + a0)] R r4.2 L (k6 v5) := by
      subst ek6
      intro v5
      show am_V Z X kX11_finds (fun r : am_I => (none, R, r, L)) 31 [(0, .ref (am_B Z + a0)), (1, .int r3)] [.int v5, .ref (am_B Z + a0)] R r4.2 L _
      refine am_ckV (fun hb7 => ?_)
      refine am_putZ 11 29 clX11 (Nat.le_of_ble_eq_true rfl) h_a0 iX11_finds_11 fX11_finds_279 rfl rfl hb7 dX11_finds_31 ?_
      refine am_letI (fun J8 => ?_)
      refine am_aload_n dX11_finds_34 rfl 0 rfl ?_
      refine am_iconst (v := 0) dX11_finds_35 (by decide) ?_
      refine am_putI 11 27 clX11 (Nat.le_of_ble_eq_true rfl) h_a0 iX11_finds_11 fX11_finds_282 rfl rfl dX11_finds_36 ?_
      refine am_letI (fun J9 => ?_)
      refine am_aload_n dX11_finds_39 rfl 0 rfl ?_
      refine am_iconst (v := 0) dX11_finds_40 (by decide) ?_
      refine am_putI 11 28 clX11 (Nat.le_of_ble_eq_true rfl) h_a0 iX11_finds_11 fX11_finds_285 rfl rfl dX11_finds_41 ?_
      refine am_letI (fun J10 => ?_)
      refine am_iconst (v := 0) dX11_finds_44 (by decide) ?_
      refine am_istore_n (ls' := [(2, .int (0 : Int32)), (0, .ref (am_B Z + a0)), (1, .int r3)]) dX11_finds_45 rfl (Nat.le_of_ble_eq_true rfl) rfl ?_
      refine am_sub (ls' := [(0, .ref (am_B Z + a0)), (1, .int r3), (2, .int (0 : Int32))]) [1, 2, 0] rfl ?_
      exact uX11_finds_46 R L a0 r3 h_a0 am_fu (0 : Int32) J10
    refine am_if_ltL (tgt := 30) dX11_finds_23 rfl (fun e49 => ?_) (fun e49 => ?_)
    · refine am_iconst (v := 0) dX11_finds_30 (by decide) ?_
      refine am_sub (ls' := [(0, .ref (am_B Z + a0)), (1, .int r3)]) [1, 0] rfl ?_
      exact hk6 _
    · refine am_iconst (v := 1) dX11_finds_26 (by decide) ?_
      refine am_goto (tgt := 31) dX11_finds_27 rfl ?_
      refine am_sub (ls' := [(0, .ref (am_B Z + a0)), (1, .int r3)]) [1, 0] rfl ?_
      exact hk6 _
  · exact am_vret dX11_finds_7 rfl rfl
abbrev kX11_kindOf : am_K := (cX11_kindOf, 1, RX11, wsX11_kindOf, some .int, { frames := 6, cells := 0, slots := 0, locals := 149 })
theorem hX11_kindOf : am_cl yX11_kindOf kX11_kindOf 0 := ⟨⟨_, rfl⟩, rfl, rfl, by decide +kernel, by decide +kernel, by decide +kernel⟩
theorem iX11_kindOf_11 : ∀ w ∈ u_ws RX11 TX11 50, w ∈ wsX11_kindOf := by decide +kernel
theorem fX11_kindOf_279 : Cond.fieldLink RX11 279 "AmbiguityAnalyzerModel" "isAmbiguous" "Z" ∈ wsX11_kindOf := by decide +kernel
theorem fX11_kindOf_282 : Cond.fieldLink RX11 282 "AmbiguityAnalyzerModel" "loops" "I" ∈ wsX11_kindOf := by decide +kernel
theorem fX11_kindOf_285 : Cond.fieldLink RX11 285 "AmbiguityAnalyzerModel" "splits" "I" ∈ wsX11_kindOf := by decide +kernel
set_option maxRecDepth 100000 in
set_option maxHeartbeats 4000000 in
theorem tX11_kindOf {Z : am_Z} (R : am_R) (I : am_I) (L : am_L) (a0 : Nat) (h_a0 : am_G Z a0 = some (.inl 11)) : am_M Z yX11_kindOf kX11_kindOf [.ref (am_B Z + a0)] R I L (pX11_kindOf R I a0) (fun r : Int32 × am_I => (some (.int r.1), R, r.2, L)) := by
  refine am_entry (ls := [(0, .ref (am_B Z + a0))]) (by decide) hX11_kindOf rfl (Nat.le_of_ble_eq_true rfl) rfl (fun X => ?_)
  unfold pX11_kindOf
  refine am_aload_n dX11_kindOf_0 rfl 0 rfl ?_
  refine am_callV [] (tX11_finds R I L a0 h_a0) h_a0 clX11 gX11_kindOf_X11_finds hX11_finds rfl ⟨Nat.le_of_ble_eq_true rfl, Nat.le_of_ble_eq_true rfl⟩ rfl rfl (Nat.le_of_ble_eq_true rfl) dX11_kindOf_1 (fun r1 => ?_)
  show am_V Z X kX11_kindOf (fun r : Int32 × am_I => (some (.int r.1), R, r.2, L)) 4 [(0, .ref (am_B Z + a0))] [] R r1 L _
  refine am_aload_n dX11_kindOf_4 rfl 0 rfl ?_
  refine am_get 11 29 clX11 (Nat.le_of_ble_eq_true rfl) h_a0 iX11_kindOf_11 fX11_kindOf_279 rfl dX11_kindOf_5 ?_
  refine am_if_ne (tgt := 15) dX11_kindOf_8 rfl (fun e2 => ?_) (fun e2 => ?_)
  · refine am_aload_n dX11_kindOf_15 rfl 0 rfl ?_
    refine am_get 11 27 clX11 (Nat.le_of_ble_eq_true rfl) h_a0 iX11_kindOf_11 fX11_kindOf_282 rfl dX11_kindOf_16 ?_
    refine am_if_eq (tgt := 26) dX11_kindOf_19 rfl (fun e3 => ?_) (fun e3 => ?_)
    · refine am_aload_n dX11_kindOf_26 rfl 0 rfl ?_
      refine am_get 11 28 clX11 (Nat.le_of_ble_eq_true rfl) h_a0 iX11_kindOf_11 fX11_kindOf_285 rfl dX11_kindOf_27 ?_
      refine am_if_le (tgt := 37) dX11_kindOf_30 rfl (fun e4 => ?_) (fun e4 => ?_)
      · refine am_iconst (v := 1) dX11_kindOf_37 (by decide) ?_
        exact am_iret dX11_kindOf_38 rfl rfl
      · refine am_iconst (v := 2) dX11_kindOf_33 (by decide) ?_
        refine am_goto (tgt := 38) dX11_kindOf_34 rfl ?_
        exact am_iret dX11_kindOf_38 rfl rfl
    · refine am_iconst (v := 3) dX11_kindOf_22 (by decide) ?_
      refine am_goto (tgt := 38) dX11_kindOf_23 rfl ?_
      exact am_iret dX11_kindOf_38 rfl rfl
  · refine am_iconst (v := 0) dX11_kindOf_11 (by decide) ?_
    refine am_goto (tgt := 38) dX11_kindOf_12 rfl ?_
    exact am_iret dX11_kindOf_38 rfl rfl
abbrev kX11_kind : am_K := (cX11_kind, 1, RX11, wsX11_kind, some .int, { frames := 7, cells := 0, slots := 0, locals := 169 })
theorem hX11_kind : am_cl yX11_kind kX11_kind 0 := ⟨⟨_, rfl⟩, rfl, rfl, by decide +kernel, by decide +kernel, by decide +kernel⟩
set_option maxRecDepth 100000 in
set_option maxHeartbeats 4000000 in
theorem tX11_kind {Z : am_Z} (R : am_R) (I : am_I) (L : am_L) (a0 : Nat) (h_a0 : am_G Z a0 = some (.inl 11)) : am_M Z yX11_kind kX11_kind [.ref (am_B Z + a0)] R I L (pX11_kind R I a0) (fun r : Int32 × am_I => (some (.int r.1), R, r.2, L)) := by
  refine am_entry (ls := [(0, .ref (am_B Z + a0))]) (by decide) hX11_kind rfl (Nat.le_of_ble_eq_true rfl) rfl (fun X => ?_)
  unfold pX11_kind
  refine am_aload_n dX11_kind_0 rfl 0 rfl ?_
  refine am_callV [] (tX11_kindOf R I L a0 h_a0) h_a0 clX11 gX11_kind_X11_kindOf hX11_kindOf rfl ⟨Nat.le_of_ble_eq_true rfl, Nat.le_of_ble_eq_true rfl⟩ rfl rfl (Nat.le_of_ble_eq_true rfl) dX11_kind_1 (fun r1 => ?_)
  show am_V Z X kX11_kind (fun r : Int32 × am_I => (some (.int r.1), R, r.2, L)) 4 [(0, .ref (am_B Z + a0))] [.int r1.1] R r1.2 L _
  exact am_iret dX11_kind_4 rfl rfl
