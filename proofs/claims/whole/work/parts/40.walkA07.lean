abbrev kX10_wordAmbiguity : am_K := (cX10_wordAmbiguity, 1, RX10, wsX10_wordAmbiguity, some .long, { frames := 3, cells := 0, slots := 0, locals := 71 })
theorem hX10_wordAmbiguity : am_cl yX10_wordAmbiguity kX10_wordAmbiguity 0 := ⟨⟨_, rfl⟩, rfl, rfl, by decide +kernel, by decide +kernel, by decide +kernel⟩
theorem iX10_wordAmbiguity_10 : ∀ w ∈ u_ws RX10 TX10 18, w ∈ wsX10_wordAmbiguity := by decide +kernel
theorem fX10_wordAmbiguity_63 : Cond.fieldLink RX10 63 "AmbiguityAnalyzer" "counter" "LAmbiguityAnalyzer$Counter;" ∈ wsX10_wordAmbiguity := by decide +kernel
theorem fX10_wordAmbiguity_12 : Cond.fieldLink RX10 12 "AmbiguityAnalyzer" "automaton" "LAmbiguityAnalyzer$Automaton;" ∈ wsX10_wordAmbiguity := by decide +kernel
theorem fX10_wordAmbiguity_36 : Cond.fieldLink RX10 36 "AmbiguityAnalyzer" "word" "LAmbiguityAnalyzer$Word;" ∈ wsX10_wordAmbiguity := by decide +kernel
set_option maxRecDepth 100000 in
set_option maxHeartbeats 4000000 in
theorem tX10_wordAmbiguity {Z : am_Z} (R : am_R) (I : am_I) (L : am_L) (a0 : Nat) (h_a0 : am_G Z a0 = some (.inl 10)) : am_M Z yX10_wordAmbiguity kX10_wordAmbiguity [.ref (am_B Z + a0)] R I L (pX10_wordAmbiguity R I L a0) (fun r : Int64 × am_L => (some (.long r.1), R, I, r.2)) := by
  refine am_entry (ls := [(0, .ref (am_B Z + a0))]) (by decide) hX10_wordAmbiguity rfl (Nat.le_of_ble_eq_true rfl) rfl (fun X => ?_)
  unfold pX10_wordAmbiguity
  refine am_aload_n dX10_wordAmbiguity_0 rfl 0 rfl ?_
  refine am_getR 10 11 clX10 (Nat.le_of_ble_eq_true rfl) h_a0 iX10_wordAmbiguity_10 fX10_wordAmbiguity_63 rfl rfl dX10_wordAmbiguity_1 (fun h1 => ?_)
  refine am_aload_n dX10_wordAmbiguity_4 rfl 0 rfl ?_
  refine am_getR 10 0 clX10 (Nat.le_of_ble_eq_true rfl) h_a0 iX10_wordAmbiguity_10 fX10_wordAmbiguity_12 rfl rfl dX10_wordAmbiguity_5 (fun h2 => ?_)
  refine am_aload_n dX10_wordAmbiguity_8 rfl 0 rfl ?_
  refine am_getR 10 6 clX10 (Nat.le_of_ble_eq_true rfl) h_a0 iX10_wordAmbiguity_10 fX10_wordAmbiguity_36 rfl rfl dX10_wordAmbiguity_9 (fun h3 => ?_)
  refine am_callV [.ref (am_B Z + (R a0 0)), .ref (am_B Z + (R a0 6))] (tX1_pathsOf R I L (R a0 11) (R a0 0) (R a0 6) h1 h2 h3) h1 clX1 gX10_wordAmbiguity_X1_pathsOf hX1_pathsOf rfl ⟨Nat.le_of_ble_eq_true rfl, Nat.le_of_ble_eq_true rfl⟩ rfl rfl (Nat.le_of_ble_eq_true rfl) dX10_wordAmbiguity_12 (fun r4 => ?_)
  show am_V Z X kX10_wordAmbiguity (fun r : Int64 × am_L => (some (.long r.1), R, I, r.2)) 15 [(0, .ref (am_B Z + a0))] [.long r4.1] R I r4.2 _
  exact am_lret dX10_wordAmbiguity_15 rfl rfl
abbrev kX10_isCountedLength : am_K := (cX10_isCountedLength, 1, RX10, wsX10_isCountedLength, some .boolean, { frames := 0, cells := 0, slots := 0, locals := 0 })
theorem hX10_isCountedLength : am_cl yX10_isCountedLength kX10_isCountedLength 1 := ⟨⟨_, rfl⟩, rfl, rfl, by decide +kernel, by decide +kernel, by decide +kernel⟩
set_option maxRecDepth 100000 in
set_option maxHeartbeats 4000000 in
theorem tX10_isCountedLength {Z : am_Z} (R : am_R) (I : am_I) (L : am_L) (x0 : Int32)  : am_M Z yX10_isCountedLength kX10_isCountedLength [.int x0] R I L (pX10_isCountedLength x0) (fun r : Int32 => (some (.int r), R, I, L)) := by
  refine am_entry (ls := [(0, .int x0)]) (by decide) hX10_isCountedLength rfl (Nat.le_of_ble_eq_true rfl) rfl (fun X => ?_)
  unfold pX10_isCountedLength
  refine am_iload_n dX10_isCountedLength_0 rfl 0 rfl ?_
  refine am_if_lt (tgt := 14) dX10_isCountedLength_1 rfl (fun e1 => ?_) (fun e1 => ?_)
  · refine am_iconst (v := 0) dX10_isCountedLength_14 (by decide) ?_
    exact am_zret (by decide) dX10_isCountedLength_15 rfl rfl
  · refine am_iload_n dX10_isCountedLength_4 rfl 0 rfl ?_
    refine am_bipush (v := 60) dX10_isCountedLength_5 (by decide) ?_
    refine am_icmp_gt (tgt := 14) dX10_isCountedLength_7 rfl (fun e2 => ?_) (fun e2 => ?_)
    · refine am_iconst (v := 0) dX10_isCountedLength_14 (by decide) ?_
      exact am_zret (by decide) dX10_isCountedLength_15 rfl rfl
    · refine am_iconst (v := 1) dX10_isCountedLength_10 (by decide) ?_
      refine am_goto (tgt := 15) dX10_isCountedLength_11 rfl ?_
      exact am_zret (by decide) dX10_isCountedLength_15 rfl rfl
abbrev kX10_pathsOfLength : am_K := (cX10_pathsOfLength, 2, RX10, wsX10_pathsOfLength, some .long, { frames := 4, cells := 0, slots := 0, locals := 93 })
theorem hX10_pathsOfLength : am_cl yX10_pathsOfLength kX10_pathsOfLength 1 := ⟨⟨_, rfl⟩, rfl, rfl, by decide +kernel, by decide +kernel, by decide +kernel⟩
theorem iX10_pathsOfLength_10 : ∀ w ∈ u_ws RX10 TX10 18, w ∈ wsX10_pathsOfLength := by decide +kernel
theorem fX10_pathsOfLength_63 : Cond.fieldLink RX10 63 "AmbiguityAnalyzer" "counter" "LAmbiguityAnalyzer$Counter;" ∈ wsX10_pathsOfLength := by decide +kernel
theorem fX10_pathsOfLength_12 : Cond.fieldLink RX10 12 "AmbiguityAnalyzer" "automaton" "LAmbiguityAnalyzer$Automaton;" ∈ wsX10_pathsOfLength := by decide +kernel
set_option maxRecDepth 100000 in
set_option maxHeartbeats 4000000 in
theorem tX10_pathsOfLength {Z : am_Z} (R : am_R) (I : am_I) (L : am_L) (a0 : Nat) (x1 : Int32) (h_a0 : am_G Z a0 = some (.inl 10)) : am_M Z yX10_pathsOfLength kX10_pathsOfLength [.ref (am_B Z + a0), .int x1] R I L (pX10_pathsOfLength R I L a0 x1) (fun r : Int64 × am_L => (some (.long r.1), R, I, r.2)) := by
  refine am_entry (ls := [(0, .ref (am_B Z + a0)), (1, .int x1)]) (by decide) hX10_pathsOfLength rfl (Nat.le_of_ble_eq_true rfl) rfl (fun X => ?_)
  unfold pX10_pathsOfLength
  refine am_iload_n dX10_pathsOfLength_0 rfl 1 rfl ?_
  refine am_callS [.int x1] (tX10_isCountedLength R I L x1) gX10_pathsOfLength_X10_isCountedLength hX10_isCountedLength ⟨Nat.le_of_ble_eq_true rfl, Nat.le_of_ble_eq_true rfl⟩ rfl rfl (Nat.le_of_ble_eq_true rfl) dX10_pathsOfLength_1 (fun r1 => ?_)
  show am_V Z X kX10_pathsOfLength (fun r : Int64 × am_L => (some (.long r.1), R, I, r.2)) 4 [(0, .ref (am_B Z + a0)), (1, .int x1)] [.int r1] R I L _
  refine am_if_ne (tgt := 11) dX10_pathsOfLength_4 rfl (fun e2 => ?_) (fun e2 => ?_)
  · refine am_aload_n dX10_pathsOfLength_11 rfl 0 rfl ?_
    refine am_getR 10 11 clX10 (Nat.le_of_ble_eq_true rfl) h_a0 iX10_pathsOfLength_10 fX10_pathsOfLength_63 rfl rfl dX10_pathsOfLength_12 (fun h3 => ?_)
    refine am_aload_n dX10_pathsOfLength_15 rfl 0 rfl ?_
    refine am_getR 10 0 clX10 (Nat.le_of_ble_eq_true rfl) h_a0 iX10_pathsOfLength_10 fX10_pathsOfLength_12 rfl rfl dX10_pathsOfLength_16 (fun h4 => ?_)
    refine am_iload_n dX10_pathsOfLength_19 rfl 1 rfl ?_
    refine am_callV [.ref (am_B Z + (R a0 0)), .int x1] (tX1_countPaths R I L (R a0 11) (R a0 0) x1 h3 h4) h3 clX1 gX10_pathsOfLength_X1_countPaths hX1_countPaths rfl ⟨Nat.le_of_ble_eq_true rfl, Nat.le_of_ble_eq_true rfl⟩ rfl rfl (Nat.le_of_ble_eq_true rfl) dX10_pathsOfLength_20 (fun r5 => ?_)
    show am_V Z X kX10_pathsOfLength (fun r : Int64 × am_L => (some (.long r.1), R, I, r.2)) 23 [(0, .ref (am_B Z + a0)), (1, .int x1)] [.long r5.1] R I r5.2 _
    exact am_lret dX10_pathsOfLength_23 rfl rfl
  · refine am_ldc2 (v := -2) dX10_pathsOfLength_7 (by decide +kernel) ?_
    exact am_lret dX10_pathsOfLength_10 rfl rfl
abbrev kX10_wordsOfLength : am_K := (cX10_wordsOfLength, 2, RX10, wsX10_wordsOfLength, some .long, { frames := 3, cells := 0, slots := 0, locals := 73 })
theorem hX10_wordsOfLength : am_cl yX10_wordsOfLength kX10_wordsOfLength 1 := ⟨⟨_, rfl⟩, rfl, rfl, by decide +kernel, by decide +kernel, by decide +kernel⟩
theorem iX10_wordsOfLength_10 : ∀ w ∈ u_ws RX10 TX10 18, w ∈ wsX10_wordsOfLength := by decide +kernel
theorem fX10_wordsOfLength_56 : Cond.fieldLink RX10 56 "AmbiguityAnalyzer" "steps" "LAmbiguityAnalyzer$Steps;" ∈ wsX10_wordsOfLength := by decide +kernel
theorem fX10_wordsOfLength_12 : Cond.fieldLink RX10 12 "AmbiguityAnalyzer" "automaton" "LAmbiguityAnalyzer$Automaton;" ∈ wsX10_wordsOfLength := by decide +kernel
theorem fX10_wordsOfLength_63 : Cond.fieldLink RX10 63 "AmbiguityAnalyzer" "counter" "LAmbiguityAnalyzer$Counter;" ∈ wsX10_wordsOfLength := by decide +kernel
set_option maxRecDepth 100000 in
set_option maxHeartbeats 4000000 in
theorem tX10_wordsOfLength {Z : am_Z} (R : am_R) (I : am_I) (L : am_L) (a0 : Nat) (x1 : Int32) (h_a0 : am_G Z a0 = some (.inl 10)) : am_M Z yX10_wordsOfLength kX10_wordsOfLength [.ref (am_B Z + a0), .int x1] R I L (pX10_wordsOfLength R I L a0 x1) (fun r : Int64 × am_I × am_L => (some (.long r.1), R, r.2.1, r.2.2)) := by
  refine am_entry (ls := [(0, .ref (am_B Z + a0)), (1, .int x1)]) (by decide) hX10_wordsOfLength rfl (Nat.le_of_ble_eq_true rfl) rfl (fun X => ?_)
  unfold pX10_wordsOfLength
  refine am_iload_n dX10_wordsOfLength_0 rfl 1 rfl ?_
  refine am_callS [.int x1] (tX10_isCountedLength R I L x1) gX10_wordsOfLength_X10_isCountedLength hX10_isCountedLength ⟨Nat.le_of_ble_eq_true rfl, Nat.le_of_ble_eq_true rfl⟩ rfl rfl (Nat.le_of_ble_eq_true rfl) dX10_wordsOfLength_1 (fun r1 => ?_)
  show am_V Z X kX10_wordsOfLength (fun r : Int64 × am_I × am_L => (some (.long r.1), R, r.2.1, r.2.2)) 4 [(0, .ref (am_B Z + a0)), (1, .int x1)] [.int r1] R I L _
  refine am_if_ne (tgt := 11) dX10_wordsOfLength_4 rfl (fun e2 => ?_) (fun e2 => ?_)
  · refine am_aload_n dX10_wordsOfLength_11 rfl 0 rfl ?_
    refine am_getR 10 10 clX10 (Nat.le_of_ble_eq_true rfl) h_a0 iX10_wordsOfLength_10 fX10_wordsOfLength_56 rfl rfl dX10_wordsOfLength_12 (fun h3 => ?_)
    refine am_aload_n dX10_wordsOfLength_15 rfl 0 rfl ?_
    refine am_getR 10 0 clX10 (Nat.le_of_ble_eq_true rfl) h_a0 iX10_wordsOfLength_10 fX10_wordsOfLength_12 rfl rfl dX10_wordsOfLength_16 (fun h4 => ?_)
    refine am_callV [.ref (am_B Z + (R a0 0))] (tX6_load R I L (R a0 10) (R a0 0) h3 h4) h3 clX6 gX10_wordsOfLength_X6_load hX6_load rfl ⟨Nat.le_of_ble_eq_true rfl, Nat.le_of_ble_eq_true rfl⟩ rfl rfl (Nat.le_of_ble_eq_true rfl) dX10_wordsOfLength_19 (fun r5 => ?_)
    show am_V Z X kX10_wordsOfLength (fun r : Int64 × am_I × am_L => (some (.long r.1), R, r.2.1, r.2.2)) 22 [(0, .ref (am_B Z + a0)), (1, .int x1)] [] R r5 L _
    refine am_aload_n dX10_wordsOfLength_22 rfl 0 rfl ?_
    refine am_getR 10 11 clX10 (Nat.le_of_ble_eq_true rfl) h_a0 iX10_wordsOfLength_10 fX10_wordsOfLength_63 rfl rfl dX10_wordsOfLength_23 (fun h6 => ?_)
    refine am_aload_n dX10_wordsOfLength_26 rfl 0 rfl ?_
    refine am_getR 10 0 clX10 (Nat.le_of_ble_eq_true rfl) h_a0 iX10_wordsOfLength_10 fX10_wordsOfLength_12 rfl rfl dX10_wordsOfLength_27 (fun h7 => ?_)
    refine am_aload_n dX10_wordsOfLength_30 rfl 0 rfl ?_
    refine am_getR 10 10 clX10 (Nat.le_of_ble_eq_true rfl) h_a0 iX10_wordsOfLength_10 fX10_wordsOfLength_56 rfl rfl dX10_wordsOfLength_31 (fun h8 => ?_)
    refine am_iload_n dX10_wordsOfLength_34 rfl 1 rfl ?_
    refine am_callV [.ref (am_B Z + (R a0 0)), .ref (am_B Z + (R a0 10)), .int x1] (tX1_countWords R r5 L (R a0 11) (R a0 0) (R a0 10) x1 h6 h7 h8) h6 clX1 gX10_wordsOfLength_X1_countWords hX1_countWords rfl ⟨Nat.le_of_ble_eq_true rfl, Nat.le_of_ble_eq_true rfl⟩ rfl rfl (Nat.le_of_ble_eq_true rfl) dX10_wordsOfLength_35 (fun r9 => ?_)
    show am_V Z X kX10_wordsOfLength (fun r : Int64 × am_I × am_L => (some (.long r.1), R, r.2.1, r.2.2)) 38 [(0, .ref (am_B Z + a0)), (1, .int x1)] [.long r9.1] R r5 r9.2 _
    exact am_lret dX10_wordsOfLength_38 rfl rfl
  · refine am_ldc2 (v := -2) dX10_wordsOfLength_7 (by decide +kernel) ?_
    exact am_lret dX10_wordsOfLength_10 rfl rfl
abbrev kX10_averageBits : am_K := (cX10_averageBits, 6, RX10, wsX10_averageBits, some .long, { frames := 4, cells := 0, slots := 0, locals := 93 })
theorem hX10_averageBits : am_cl yX10_averageBits kX10_averageBits 1 := ⟨⟨_, rfl⟩, rfl, rfl, by decide +kernel, by decide +kernel, by decide +kernel⟩
theorem iX10_averageBits_10 : ∀ w ∈ u_ws RX10 TX10 18, w ∈ wsX10_averageBits := by decide +kernel
theorem fX10_averageBits_56 : Cond.fieldLink RX10 56 "AmbiguityAnalyzer" "steps" "LAmbiguityAnalyzer$Steps;" ∈ wsX10_averageBits := by decide +kernel
theorem fX10_averageBits_12 : Cond.fieldLink RX10 12 "AmbiguityAnalyzer" "automaton" "LAmbiguityAnalyzer$Automaton;" ∈ wsX10_averageBits := by decide +kernel
theorem fX10_averageBits_63 : Cond.fieldLink RX10 63 "AmbiguityAnalyzer" "counter" "LAmbiguityAnalyzer$Counter;" ∈ wsX10_averageBits := by decide +kernel
set_option maxRecDepth 100000 in
set_option maxHeartbeats 4000000 in
theorem tX10_averageBits {Z : am_Z} (R : am_R) (I : am_I) (L : am_L) (a0 : Nat) (x1 : Int32) (h_a0 : am_G Z a0 = some (.inl 10)) : am_M Z yX10_averageBits kX10_averageBits [.ref (am_B Z + a0), .int x1] R I L (pX10_averageBits R I L a0 x1) (fun r : Int64 × am_I × am_L => (some (.long r.1), R, r.2.1, r.2.2)) := by
  refine am_entry (ls := [(0, .ref (am_B Z + a0)), (1, .int x1)]) (by decide) hX10_averageBits rfl (Nat.le_of_ble_eq_true rfl) rfl (fun X => ?_)
  unfold pX10_averageBits
  refine am_iload_n dX10_averageBits_0 rfl 1 rfl ?_
  refine am_callS [.int x1] (tX10_isCountedLength R I L x1) gX10_averageBits_X10_isCountedLength hX10_isCountedLength ⟨Nat.le_of_ble_eq_true rfl, Nat.le_of_ble_eq_true rfl⟩ rfl rfl (Nat.le_of_ble_eq_true rfl) dX10_averageBits_1 (fun r1 => ?_)
  show am_V Z X kX10_averageBits (fun r : Int64 × am_I × am_L => (some (.long r.1), R, r.2.1, r.2.2)) 4 [(0, .ref (am_B Z + a0)), (1, .int x1)] [.int r1] R I L _
  refine am_if_ne (tgt := 11) dX10_averageBits_4 rfl (fun e2 => ?_) (fun e2 => ?_)
  · refine am_aload_n dX10_averageBits_11 rfl 0 rfl ?_
    refine am_getR 10 10 clX10 (Nat.le_of_ble_eq_true rfl) h_a0 iX10_averageBits_10 fX10_averageBits_56 rfl rfl dX10_averageBits_12 (fun h3 => ?_)
    refine am_aload_n dX10_averageBits_15 rfl 0 rfl ?_
    refine am_getR 10 0 clX10 (Nat.le_of_ble_eq_true rfl) h_a0 iX10_averageBits_10 fX10_averageBits_12 rfl rfl dX10_averageBits_16 (fun h4 => ?_)
    refine am_callV [.ref (am_B Z + (R a0 0))] (tX6_load R I L (R a0 10) (R a0 0) h3 h4) h3 clX6 gX10_averageBits_X6_load hX6_load rfl ⟨Nat.le_of_ble_eq_true rfl, Nat.le_of_ble_eq_true rfl⟩ rfl rfl (Nat.le_of_ble_eq_true rfl) dX10_averageBits_19 (fun r5 => ?_)
    show am_V Z X kX10_averageBits (fun r : Int64 × am_I × am_L => (some (.long r.1), R, r.2.1, r.2.2)) 22 [(0, .ref (am_B Z + a0)), (1, .int x1)] [] R r5 L _
    refine am_aload_n dX10_averageBits_22 rfl 0 rfl ?_
    refine am_getR 10 11 clX10 (Nat.le_of_ble_eq_true rfl) h_a0 iX10_averageBits_10 fX10_averageBits_63 rfl rfl dX10_averageBits_23 (fun h6 => ?_)
    refine am_aload_n dX10_averageBits_26 rfl 0 rfl ?_
    refine am_getR 10 0 clX10 (Nat.le_of_ble_eq_true rfl) h_a0 iX10_averageBits_10 fX10_averageBits_12 rfl rfl dX10_averageBits_27 (fun h7 => ?_)
    refine am_iload_n dX10_averageBits_30 rfl 1 rfl ?_
    refine am_callV [.ref (am_B Z + (R a0 0)), .int x1] (tX1_countPaths R r5 L (R a0 11) (R a0 0) x1 h6 h7) h6 clX1 gX10_averageBits_X1_countPaths hX1_countPaths rfl ⟨Nat.le_of_ble_eq_true rfl, Nat.le_of_ble_eq_true rfl⟩ rfl rfl (Nat.le_of_ble_eq_true rfl) dX10_averageBits_31 (fun r8 => ?_)
    show am_V Z X kX10_averageBits (fun r : Int64 × am_I × am_L => (some (.long r.1), R, r.2.1, r.2.2)) 34 [(0, .ref (am_B Z + a0)), (1, .int x1)] [.long r8.1] R r5 r8.2 _
    refine am_lstore_n (ls' := [(2, .long r8.1), (0, .ref (am_B Z + a0)), (1, .int x1)]) dX10_averageBits_34 rfl (Nat.le_of_ble_eq_true rfl) rfl ?_
    refine am_aload_n dX10_averageBits_35 rfl 1 rfl ?_
    refine am_getR 10 11 clX10 (Nat.le_of_ble_eq_true rfl) h_a0 iX10_averageBits_10 fX10_averageBits_63 rfl rfl dX10_averageBits_36 (fun h9 => ?_)
    refine am_aload_n dX10_averageBits_39 rfl 1 rfl ?_
    refine am_getR 10 0 clX10 (Nat.le_of_ble_eq_true rfl) h_a0 iX10_averageBits_10 fX10_averageBits_12 rfl rfl dX10_averageBits_40 (fun h10 => ?_)
    refine am_aload_n dX10_averageBits_43 rfl 1 rfl ?_
    refine am_getR 10 10 clX10 (Nat.le_of_ble_eq_true rfl) h_a0 iX10_averageBits_10 fX10_averageBits_56 rfl rfl dX10_averageBits_44 (fun h11 => ?_)
    refine am_iload_n dX10_averageBits_47 rfl 2 rfl ?_
    refine am_callV [.ref (am_B Z + (R a0 0)), .ref (am_B Z + (R a0 10)), .int x1] (tX1_countWords R r5 r8.2 (R a0 11) (R a0 0) (R a0 10) x1 h9 h10 h11) h9 clX1 gX10_averageBits_X1_countWords hX1_countWords rfl ⟨Nat.le_of_ble_eq_true rfl, Nat.le_of_ble_eq_true rfl⟩ rfl rfl (Nat.le_of_ble_eq_true rfl) dX10_averageBits_48 (fun r12 => ?_)
    show am_V Z X kX10_averageBits (fun r : Int64 × am_I × am_L => (some (.long r.1), R, r.2.1, r.2.2)) 51 [(2, .long r8.1), (0, .ref (am_B Z + a0)), (1, .int x1)] [.long r12.1] R r5 r12.2 _
    refine am_lstore (ls' := [(4, .long r12.1), (2, .long r8.1), (0, .ref (am_B Z + a0)), (1, .int x1)]) dX10_averageBits_51 (Nat.le_of_ble_eq_true rfl) rfl ?_
    refine am_lload_n dX10_averageBits_53 rfl 1 rfl ?_
    refine am_lconst (v := 0) dX10_averageBits_54 (by decide) ?_
    refine am_lcmp dX10_averageBits_55 ?_
    refine am_if_lt (tgt := 66) dX10_averageBits_56 rfl (fun e13 => ?_) (fun e13 => ?_)
    · refine am_ldc2 (v := -6) dX10_averageBits_66 (by decide +kernel) ?_
      exact am_lret dX10_averageBits_69 rfl rfl
    · refine am_lload dX10_averageBits_59 0 rfl ?_
      refine am_lconst (v := 0) dX10_averageBits_61 (by decide) ?_
      refine am_lcmp dX10_averageBits_62 ?_
      refine am_if_ge (tgt := 70) dX10_averageBits_63 rfl (fun e14 => ?_) (fun e14 => ?_)
      · refine am_lload_n dX10_averageBits_70 rfl 1 rfl ?_
        refine am_lload dX10_averageBits_71 0 rfl ?_
        refine am_callS [.long r8.1, .long r12.1] (tX1_bitsOfQuotient R r5 r12.2 r8.1 r12.1) gX10_averageBits_X1_bitsOfQuotient hX1_bitsOfQuotient ⟨Nat.le_of_ble_eq_true rfl, Nat.le_of_ble_eq_true rfl⟩ rfl rfl (Nat.le_of_ble_eq_true rfl) dX10_averageBits_73 (fun r15 => ?_)
        show am_V Z X kX10_averageBits (fun r : Int64 × am_I × am_L => (some (.long r.1), R, r.2.1, r.2.2)) 76 [(4, .long r12.1), (2, .long r8.1), (0, .ref (am_B Z + a0)), (1, .int x1)] [.long r15] R r5 r12.2 _
        exact am_lret dX10_averageBits_76 rfl rfl
      · refine am_ldc2 (v := -6) dX10_averageBits_66 (by decide +kernel) ?_
        exact am_lret dX10_averageBits_69 rfl rfl
  · refine am_ldc2 (v := -2) dX10_averageBits_7 (by decide +kernel) ?_
    exact am_lret dX10_averageBits_10 rfl rfl
abbrev kX10_freshSearch : am_K := (cX10_freshSearch, 1, RX10, wsX10_freshSearch, some ((.object "AmbiguityAnalyzer$WordSearch")), { frames := 5, cells := 0, slots := 0, locals := 111 })
theorem hX10_freshSearch : am_cl yX10_freshSearch kX10_freshSearch 0 := ⟨⟨_, rfl⟩, rfl, rfl, by decide +kernel, by decide +kernel, by decide +kernel⟩
theorem iX10_freshSearch_10 : ∀ w ∈ u_ws RX10 TX10 18, w ∈ wsX10_freshSearch := by decide +kernel
theorem fX10_freshSearch_70 : Cond.fieldLink RX10 70 "AmbiguityAnalyzer" "search" "LAmbiguityAnalyzer$WordSearch;" ∈ wsX10_freshSearch := by decide +kernel
theorem fX10_freshSearch_12 : Cond.fieldLink RX10 12 "AmbiguityAnalyzer" "automaton" "LAmbiguityAnalyzer$Automaton;" ∈ wsX10_freshSearch := by decide +kernel
set_option maxRecDepth 100000 in
set_option maxHeartbeats 4000000 in
theorem tX10_freshSearch {Z : am_Z} (R : am_R) (I : am_I) (L : am_L) (a0 : Nat) (h_a0 : am_G Z a0 = some (.inl 10)) : am_M Z yX10_freshSearch kX10_freshSearch [.ref (am_B Z + a0)] R I L (pX10_freshSearch R I a0) (fun r : am_I => (some (.ref (am_B Z + R a0 12)), R, r, L)) := by
  refine am_entry (ls := [(0, .ref (am_B Z + a0))]) (by decide) hX10_freshSearch rfl (Nat.le_of_ble_eq_true rfl) rfl (fun X => ?_)
  unfold pX10_freshSearch
  refine am_aload_n dX10_freshSearch_0 rfl 0 rfl ?_
  refine am_getR 10 12 clX10 (Nat.le_of_ble_eq_true rfl) h_a0 iX10_freshSearch_10 fX10_freshSearch_70 rfl rfl dX10_freshSearch_1 (fun h1 => ?_)
  refine am_aload_n dX10_freshSearch_4 rfl 0 rfl ?_
  refine am_getR 10 0 clX10 (Nat.le_of_ble_eq_true rfl) h_a0 iX10_freshSearch_10 fX10_freshSearch_12 rfl rfl dX10_freshSearch_5 (fun h2 => ?_)
  refine am_callV [.ref (am_B Z + (R a0 0))] (tX9_look R I L (R a0 12) (R a0 0) h1 h2) h1 clX9 gX10_freshSearch_X9_look hX9_look rfl ⟨Nat.le_of_ble_eq_true rfl, Nat.le_of_ble_eq_true rfl⟩ rfl rfl (Nat.le_of_ble_eq_true rfl) dX10_freshSearch_8 (fun r3 => ?_)
  show am_V Z X kX10_freshSearch (fun r : am_I => (some (.ref (am_B Z + R a0 12)), R, r, L)) 11 [(0, .ref (am_B Z + a0))] [] R r3 L _
  refine am_aload_n dX10_freshSearch_11 rfl 0 rfl ?_
  refine am_getR 10 12 clX10 (Nat.le_of_ble_eq_true rfl) h_a0 iX10_freshSearch_10 fX10_freshSearch_70 rfl rfl dX10_freshSearch_12 (fun h4 => ?_)
  exact am_aret (Or.inl ⟨_, rfl⟩) (Or.inr ⟨_, rfl⟩) dX10_freshSearch_15 rfl rfl
abbrev kX10_kind : am_K := (cX10_kind, 1, RX10, wsX10_kind, some .int, { frames := 7, cells := 0, slots := 0, locals := 156 })
theorem hX10_kind : am_cl yX10_kind kX10_kind 0 := ⟨⟨_, rfl⟩, rfl, rfl, by decide +kernel, by decide +kernel, by decide +kernel⟩
set_option maxRecDepth 100000 in
set_option maxHeartbeats 4000000 in
theorem tX10_kind {Z : am_Z} (R : am_R) (I : am_I) (L : am_L) (a0 : Nat) (h_a0 : am_G Z a0 = some (.inl 10)) : am_M Z yX10_kind kX10_kind [.ref (am_B Z + a0)] R I L (pX10_kind R I L a0) (fun r : Int32 × am_I × am_L => (some (.int r.1), R, r.2.1, r.2.2)) := by
  refine am_entry (ls := [(0, .ref (am_B Z + a0))]) (by decide) hX10_kind rfl (Nat.le_of_ble_eq_true rfl) rfl (fun X => ?_)
  unfold pX10_kind
  refine am_aload_n dX10_kind_0 rfl 0 rfl ?_
  refine am_callV [] (tX10_freshSearch R I L a0 h_a0) h_a0 clX10 gX10_kind_X10_freshSearch hX10_freshSearch rfl ⟨Nat.le_of_ble_eq_true rfl, Nat.le_of_ble_eq_true rfl⟩ rfl rfl (Nat.le_of_ble_eq_true rfl) dX10_kind_1 (fun r1 => ?_)
  show am_V Z X kX10_kind (fun r : Int32 × am_I × am_L => (some (.int r.1), R, r.2.1, r.2.2)) 4 [(0, .ref (am_B Z + a0))] [.ref (am_B Z + (R a0 12))] R r1 L _
  refine am_tyV 10 12 h_a0 rfl (fun h2 => ?_)
  refine am_callV [] (tX9_growthKind R r1 L (R a0 12) h2) h2 clX9 gX10_kind_X9_growthKind hX9_growthKind rfl ⟨Nat.le_of_ble_eq_true rfl, Nat.le_of_ble_eq_true rfl⟩ rfl rfl (Nat.le_of_ble_eq_true rfl) dX10_kind_4 (fun r3 => ?_)
  show am_V Z X kX10_kind (fun r : Int32 × am_I × am_L => (some (.int r.1), R, r.2.1, r.2.2)) 7 [(0, .ref (am_B Z + a0))] [.int r3.1] R r3.2.1 r3.2.2 _
  exact am_iret dX10_kind_7 rfl rfl
abbrev kX10_degree : am_K := (cX10_degree, 3, RX10, wsX10_degree, some .int, { frames := 7, cells := 0, slots := 0, locals := 163 })
theorem hX10_degree : am_cl yX10_degree kX10_degree 0 := ⟨⟨_, rfl⟩, rfl, rfl, by decide +kernel, by decide +kernel, by decide +kernel⟩
theorem iX10_degree_10 : ∀ w ∈ u_ws RX10 TX10 18, w ∈ wsX10_degree := by decide +kernel
theorem fX10_degree_12 : Cond.fieldLink RX10 12 "AmbiguityAnalyzer" "automaton" "LAmbiguityAnalyzer$Automaton;" ∈ wsX10_degree := by decide +kernel
set_option maxRecDepth 100000 in
set_option maxHeartbeats 4000000 in
theorem tX10_degree {Z : am_Z} (R : am_R) (I : am_I) (L : am_L) (a0 : Nat) (h_a0 : am_G Z a0 = some (.inl 10)) : am_M Z yX10_degree kX10_degree [.ref (am_B Z + a0)] R I L (pX10_degree R I L a0) (fun r : Int32 × am_I × am_L => (some (.int r.1), R, r.2.1, r.2.2)) := by
  refine am_entry (ls := [(0, .ref (am_B Z + a0))]) (by decide) hX10_degree rfl (Nat.le_of_ble_eq_true rfl) rfl (fun X => ?_)
  unfold pX10_degree
  refine am_aload_n dX10_degree_0 rfl 0 rfl ?_
  refine am_callV [] (tX10_freshSearch R I L a0 h_a0) h_a0 clX10 gX10_degree_X10_freshSearch hX10_freshSearch rfl ⟨Nat.le_of_ble_eq_true rfl, Nat.le_of_ble_eq_true rfl⟩ rfl rfl (Nat.le_of_ble_eq_true rfl) dX10_degree_1 (fun r1 => ?_)
  show am_V Z X kX10_degree (fun r : Int32 × am_I × am_L => (some (.int r.1), R, r.2.1, r.2.2)) 4 [(0, .ref (am_B Z + a0))] [.ref (am_B Z + (R a0 12))] R r1 L _
  refine am_tyV 10 12 h_a0 rfl (fun h2 => ?_)
  refine am_astore_n (ls' := [(1, .ref (am_B Z + (R a0 12))), (0, .ref (am_B Z + a0))]) dX10_degree_4 rfl (Nat.le_of_ble_eq_true rfl) rfl ?_
  refine am_aload_n dX10_degree_5 rfl 0 rfl ?_
  refine am_callV [] (tX9_growthKind R r1 L (R a0 12) h2) h2 clX9 gX10_degree_X9_growthKind hX9_growthKind rfl ⟨Nat.le_of_ble_eq_true rfl, Nat.le_of_ble_eq_true rfl⟩ rfl rfl (Nat.le_of_ble_eq_true rfl) dX10_degree_6 (fun r3 => ?_)
  show am_V Z X kX10_degree (fun r : Int32 × am_I × am_L => (some (.int r.1), R, r.2.1, r.2.2)) 9 [(1, .ref (am_B Z + (R a0 12))), (0, .ref (am_B Z + a0))] [.int r3.1] R r3.2.1 r3.2.2 _
  refine am_istore_n (ls' := [(2, .int r3.1), (1, .ref (am_B Z + (R a0 12))), (0, .ref (am_B Z + a0))]) dX10_degree_9 rfl (Nat.le_of_ble_eq_true rfl) rfl ?_
  refine am_iload_n dX10_degree_10 rfl 0 rfl ?_
  refine am_iconst (v := 3) dX10_degree_11 (by decide) ?_
  refine am_icmp_ne (tgt := 18) dX10_degree_12 rfl (fun e4 => ?_) (fun e4 => ?_)
  · refine am_iload_n dX10_degree_18 rfl 0 rfl ?_
    refine am_iconst (v := 2) dX10_degree_19 (by decide) ?_
    refine am_icmp_ne (tgt := 34) dX10_degree_20 rfl (fun e5 => ?_) (fun e5 => ?_)
    · refine am_iconst (v := 0) dX10_degree_34 (by decide) ?_
      exact am_iret dX10_degree_35 rfl rfl
    · refine am_aload_n dX10_degree_23 rfl 1 rfl ?_
      refine am_aload_n dX10_degree_24 rfl 2 rfl ?_
      refine am_getR 10 0 clX10 (Nat.le_of_ble_eq_true rfl) h_a0 iX10_degree_10 fX10_degree_12 rfl rfl dX10_degree_25 (fun h6 => ?_)
      refine am_callV [.ref (am_B Z + (R a0 0))] (tX9_longestChain R r3.2.1 r3.2.2 (R a0 12) (R a0 0) h2 h6) h2 clX9 gX10_degree_X9_longestChain hX9_longestChain rfl ⟨Nat.le_of_ble_eq_true rfl, Nat.le_of_ble_eq_true rfl⟩ rfl rfl (Nat.le_of_ble_eq_true rfl) dX10_degree_28 (fun r7 => ?_)
      show am_V Z X kX10_degree (fun r : Int32 × am_I × am_L => (some (.int r.1), R, r.2.1, r.2.2)) 31 [(2, .int r3.1), (1, .ref (am_B Z + (R a0 12))), (0, .ref (am_B Z + a0))] [.int r7.1] R r7.2.1 r7.2.2 _
      refine am_goto (tgt := 35) dX10_degree_31 rfl ?_
      exact am_iret dX10_degree_35 rfl rfl
  · refine am_bipush (v := -4) dX10_degree_15 (by decide) ?_
    exact am_iret dX10_degree_17 rfl rfl
abbrev kX10_isLoopState : am_K := (cX10_isLoopState, 2, RX10, wsX10_isLoopState, some .int, { frames := 6, cells := 0, slots := 0, locals := 131 })
theorem hX10_isLoopState : am_cl yX10_isLoopState kX10_isLoopState 1 := ⟨⟨_, rfl⟩, rfl, rfl, by decide +kernel, by decide +kernel, by decide +kernel⟩
theorem iX10_isLoopState_10 : ∀ w ∈ u_ws RX10 TX10 18, w ∈ wsX10_isLoopState := by decide +kernel
theorem fX10_isLoopState_12 : Cond.fieldLink RX10 12 "AmbiguityAnalyzer" "automaton" "LAmbiguityAnalyzer$Automaton;" ∈ wsX10_isLoopState := by decide +kernel
set_option maxRecDepth 100000 in
set_option maxHeartbeats 4000000 in
theorem tX10_isLoopState {Z : am_Z} (R : am_R) (I : am_I) (L : am_L) (a0 : Nat) (x1 : Int32) (h_a0 : am_G Z a0 = some (.inl 10)) : am_M Z yX10_isLoopState kX10_isLoopState [.ref (am_B Z + a0), .int x1] R I L (pX10_isLoopState R I L a0 x1) (fun r : Int32 × am_I × am_L => (some (.int r.1), R, r.2.1, r.2.2)) := by
  refine am_entry (ls := [(0, .ref (am_B Z + a0)), (1, .int x1)]) (by decide) hX10_isLoopState rfl (Nat.le_of_ble_eq_true rfl) rfl (fun X => ?_)
  unfold pX10_isLoopState
  refine am_aload_n dX10_isLoopState_0 rfl 0 rfl ?_
  refine am_getR 10 0 clX10 (Nat.le_of_ble_eq_true rfl) h_a0 iX10_isLoopState_10 fX10_isLoopState_12 rfl rfl dX10_isLoopState_1 (fun h1 => ?_)
  refine am_iload_n dX10_isLoopState_4 rfl 1 rfl ?_
  refine am_callV [.int x1] (tX0_hasState R I L (R a0 0) x1 h1) h1 clX0 gX10_isLoopState_X0_hasState hX0_hasState rfl ⟨Nat.le_of_ble_eq_true rfl, Nat.le_of_ble_eq_true rfl⟩ rfl rfl (Nat.le_of_ble_eq_true rfl) dX10_isLoopState_5 (fun r2 => ?_)
  show am_V Z X kX10_isLoopState (fun r : Int32 × am_I × am_L => (some (.int r.1), R, r.2.1, r.2.2)) 8 [(0, .ref (am_B Z + a0)), (1, .int x1)] [.int r2] R I L _
  refine am_if_ne (tgt := 13) dX10_isLoopState_8 rfl (fun e3 => ?_) (fun e3 => ?_)
  · refine am_aload_n dX10_isLoopState_13 rfl 0 rfl ?_
    refine am_callV [] (tX10_freshSearch R I L a0 h_a0) h_a0 clX10 gX10_isLoopState_X10_freshSearch hX10_freshSearch rfl ⟨Nat.le_of_ble_eq_true rfl, Nat.le_of_ble_eq_true rfl⟩ rfl rfl (Nat.le_of_ble_eq_true rfl) dX10_isLoopState_14 (fun r4 => ?_)
    show am_V Z X kX10_isLoopState (fun r : Int32 × am_I × am_L => (some (.int r.1), R, r.2.1, r.2.2)) 17 [(0, .ref (am_B Z + a0)), (1, .int x1)] [.ref (am_B Z + (R a0 12))] R r4 L _
    refine am_tyV 10 12 h_a0 rfl (fun h5 => ?_)
    refine am_iload_n dX10_isLoopState_17 rfl 1 rfl ?_
    refine am_callV [.int x1] (tX9_findLoopWord R r4 L (R a0 12) x1 h5) h5 clX9 gX10_isLoopState_X9_findLoopWord hX9_findLoopWord rfl ⟨Nat.le_of_ble_eq_true rfl, Nat.le_of_ble_eq_true rfl⟩ rfl rfl (Nat.le_of_ble_eq_true rfl) dX10_isLoopState_18 (fun r6 => ?_)
    show am_V Z X kX10_isLoopState (fun r : Int32 × am_I × am_L => (some (.int r.1), R, r.2.1, r.2.2)) 21 [(0, .ref (am_B Z + a0)), (1, .int x1)] [.int r6.1] R r6.2.1 r6.2.2 _
    refine am_if_eq (tgt := 28) dX10_isLoopState_21 rfl (fun e7 => ?_) (fun e7 => ?_)
    · refine am_iconst (v := 0) dX10_isLoopState_28 (by decide) ?_
      exact am_iret dX10_isLoopState_29 rfl rfl
    · refine am_iconst (v := 1) dX10_isLoopState_24 (by decide) ?_
      refine am_goto (tgt := 29) dX10_isLoopState_25 rfl ?_
      exact am_iret dX10_isLoopState_29 rfl rfl
  · refine am_iconst (v := -1) dX10_isLoopState_11 (by decide) ?_
    exact am_iret dX10_isLoopState_12 rfl rfl
abbrev kX10_isSplitPair : am_K := (cX10_isSplitPair, 3, RX10, wsX10_isSplitPair, some .int, { frames := 6, cells := 0, slots := 0, locals := 131 })
theorem hX10_isSplitPair : am_cl yX10_isSplitPair kX10_isSplitPair 2 := ⟨⟨_, rfl⟩, rfl, rfl, by decide +kernel, by decide +kernel, by decide +kernel⟩
theorem iX10_isSplitPair_10 : ∀ w ∈ u_ws RX10 TX10 18, w ∈ wsX10_isSplitPair := by decide +kernel
theorem fX10_isSplitPair_12 : Cond.fieldLink RX10 12 "AmbiguityAnalyzer" "automaton" "LAmbiguityAnalyzer$Automaton;" ∈ wsX10_isSplitPair := by decide +kernel
set_option maxRecDepth 100000 in
set_option maxHeartbeats 4000000 in
theorem tX10_isSplitPair {Z : am_Z} (R : am_R) (I : am_I) (L : am_L) (a0 : Nat) (x1 : Int32) (x2 : Int32) (h_a0 : am_G Z a0 = some (.inl 10)) : am_M Z yX10_isSplitPair kX10_isSplitPair [.ref (am_B Z + a0), .int x1, .int x2] R I L (pX10_isSplitPair R I L a0 x1 x2) (fun r : Int32 × am_I × am_L => (some (.int r.1), R, r.2.1, r.2.2)) := by
  refine am_entry (ls := [(0, .ref (am_B Z + a0)), (1, .int x1), (2, .int x2)]) (by decide) hX10_isSplitPair rfl (Nat.le_of_ble_eq_true rfl) rfl (fun X => ?_)
  unfold pX10_isSplitPair
  refine am_aload_n dX10_isSplitPair_0 rfl 0 rfl ?_
  refine am_getR 10 0 clX10 (Nat.le_of_ble_eq_true rfl) h_a0 iX10_isSplitPair_10 fX10_isSplitPair_12 rfl rfl dX10_isSplitPair_1 (fun h1 => ?_)
  refine am_iload_n dX10_isSplitPair_4 rfl 1 rfl ?_
  refine am_callV [.int x1] (tX0_hasState R I L (R a0 0) x1 h1) h1 clX0 gX10_isSplitPair_X0_hasState hX0_hasState rfl ⟨Nat.le_of_ble_eq_true rfl, Nat.le_of_ble_eq_true rfl⟩ rfl rfl (Nat.le_of_ble_eq_true rfl) dX10_isSplitPair_5 (fun r2 => ?_)
  show am_V Z X kX10_isSplitPair (fun r : Int32 × am_I × am_L => (some (.int r.1), R, r.2.1, r.2.2)) 8 [(0, .ref (am_B Z + a0)), (1, .int x1), (2, .int x2)] [.int r2] R I L _
  refine am_if_eq (tgt := 22) dX10_isSplitPair_8 rfl (fun e3 => ?_) (fun e3 => ?_)
  · refine am_iconst (v := -1) dX10_isSplitPair_22 (by decide) ?_
    exact am_iret dX10_isSplitPair_23 rfl rfl
  · refine am_aload_n dX10_isSplitPair_11 rfl 0 rfl ?_
    refine am_getR 10 0 clX10 (Nat.le_of_ble_eq_true rfl) h_a0 iX10_isSplitPair_10 fX10_isSplitPair_12 rfl rfl dX10_isSplitPair_12 (fun h4 => ?_)
    refine am_iload_n dX10_isSplitPair_15 rfl 2 rfl ?_
    refine am_callV [.int x2] (tX0_hasState R I L (R a0 0) x2 h4) h4 clX0 gX10_isSplitPair_X0_hasState hX0_hasState rfl ⟨Nat.le_of_ble_eq_true rfl, Nat.le_of_ble_eq_true rfl⟩ rfl rfl (Nat.le_of_ble_eq_true rfl) dX10_isSplitPair_16 (fun r5 => ?_)
    show am_V Z X kX10_isSplitPair (fun r : Int32 × am_I × am_L => (some (.int r.1), R, r.2.1, r.2.2)) 19 [(0, .ref (am_B Z + a0)), (1, .int x1), (2, .int x2)] [.int r5] R I L _
    refine am_if_ne (tgt := 24) dX10_isSplitPair_19 rfl (fun e6 => ?_) (fun e6 => ?_)
    · refine am_aload_n dX10_isSplitPair_24 rfl 0 rfl ?_
      refine am_callV [] (tX10_freshSearch R I L a0 h_a0) h_a0 clX10 gX10_isSplitPair_X10_freshSearch hX10_freshSearch rfl ⟨Nat.le_of_ble_eq_true rfl, Nat.le_of_ble_eq_true rfl⟩ rfl rfl (Nat.le_of_ble_eq_true rfl) dX10_isSplitPair_25 (fun r7 => ?_)
      show am_V Z X kX10_isSplitPair (fun r : Int32 × am_I × am_L => (some (.int r.1), R, r.2.1, r.2.2)) 28 [(0, .ref (am_B Z + a0)), (1, .int x1), (2, .int x2)] [.ref (am_B Z + (R a0 12))] R r7 L _
      refine am_tyV 10 12 h_a0 rfl (fun h8 => ?_)
      refine am_iload_n dX10_isSplitPair_28 rfl 1 rfl ?_
      refine am_iload_n dX10_isSplitPair_29 rfl 2 rfl ?_
      refine am_callV [.int x1, .int x2] (tX9_findSplitWord R r7 L (R a0 12) x1 x2 h8) h8 clX9 gX10_isSplitPair_X9_findSplitWord hX9_findSplitWord rfl ⟨Nat.le_of_ble_eq_true rfl, Nat.le_of_ble_eq_true rfl⟩ rfl rfl (Nat.le_of_ble_eq_true rfl) dX10_isSplitPair_30 (fun r9 => ?_)
      show am_V Z X kX10_isSplitPair (fun r : Int32 × am_I × am_L => (some (.int r.1), R, r.2.1, r.2.2)) 33 [(0, .ref (am_B Z + a0)), (1, .int x1), (2, .int x2)] [.int r9.1] R r9.2.1 r9.2.2 _
      refine am_if_eq (tgt := 40) dX10_isSplitPair_33 rfl (fun e10 => ?_) (fun e10 => ?_)
      · refine am_iconst (v := 0) dX10_isSplitPair_40 (by decide) ?_
        exact am_iret dX10_isSplitPair_41 rfl rfl
      · refine am_iconst (v := 1) dX10_isSplitPair_36 (by decide) ?_
        refine am_goto (tgt := 41) dX10_isSplitPair_37 rfl ?_
        exact am_iret dX10_isSplitPair_41 rfl rfl
    · refine am_iconst (v := -1) dX10_isSplitPair_22 (by decide) ?_
      exact am_iret dX10_isSplitPair_23 rfl rfl
abbrev kX10_witnessState : am_K := (cX10_witnessState, 4, RX10, wsX10_witnessState, some .int, { frames := 6, cells := 0, slots := 0, locals := 136 })
theorem hX10_witnessState : am_cl yX10_witnessState kX10_witnessState 1 := ⟨⟨_, rfl⟩, rfl, rfl, by decide +kernel, by decide +kernel, by decide +kernel⟩
set_option maxRecDepth 100000 in
set_option maxHeartbeats 4000000 in
theorem tX10_witnessState {Z : am_Z} (R : am_R) (I : am_I) (L : am_L) (a0 : Nat) (x1 : Int32) (h_a0 : am_G Z a0 = some (.inl 10)) : am_M Z yX10_witnessState kX10_witnessState [.ref (am_B Z + a0), .int x1] R I L (pX10_witnessState R I L a0 x1) (fun r : Int32 × am_I × am_L => (some (.int r.1), R, r.2.1, r.2.2)) := by
  refine am_entry (ls := [(0, .ref (am_B Z + a0)), (1, .int x1)]) (by decide) hX10_witnessState rfl (Nat.le_of_ble_eq_true rfl) rfl (fun X => ?_)
  unfold pX10_witnessState
  refine am_iload_n dX10_witnessState_0 rfl 1 rfl ?_
  refine am_iconst (v := 1) dX10_witnessState_1 (by decide) ?_
  refine am_jnV (fun j1 ej1 => ?_)
  have hj1 : am_V Z X kX10_witnessState (fun r : Int32 × am_I × am_L => (some (.int r.1), R, r.2.1, r.2.2)) 12 [(0, .ref (am_B Z + a0)), (1, .int x1)] [] R I L j1 := by
    subst ej1
    show am_V Z X kX10_witnessState (fun r : Int32 × am_I × am_L => (some (.int r.1), R, r.2.1, r.2.2)) 12 [(0, .ref (am_B Z + a0)), (1, .int x1)] [] R I L _
    refine am_aload_n dX10_witnessState_12 rfl 0 rfl ?_
    refine am_callV [] (tX10_freshSearch R I L a0 h_a0) h_a0 clX10 gX10_witnessState_X10_freshSearch hX10_freshSearch rfl ⟨Nat.le_of_ble_eq_true rfl, Nat.le_of_ble_eq_true rfl⟩ rfl rfl (Nat.le_of_ble_eq_true rfl) dX10_witnessState_13 (fun r2 => ?_)
    show am_V Z X kX10_witnessState (fun r : Int32 × am_I × am_L => (some (.int r.1), R, r.2.1, r.2.2)) 16 [(0, .ref (am_B Z + a0)), (1, .int x1)] [.ref (am_B Z + (R a0 12))] R r2 L _
    refine am_tyV 10 12 h_a0 rfl (fun h3 => ?_)
    refine am_astore_n (ls' := [(2, .ref (am_B Z + (R a0 12))), (0, .ref (am_B Z + a0)), (1, .int x1)]) dX10_witnessState_16 rfl (Nat.le_of_ble_eq_true rfl) rfl ?_
    refine am_iload_n dX10_witnessState_17 rfl 2 rfl ?_
    refine am_iconst (v := 1) dX10_witnessState_18 (by decide) ?_
    refine am_jnV (fun j4 ej4 => ?_)
    have hj4 : ∀ (v5 : Int32) (J6 : am_I) (J7 : am_L), am_V Z X kX10_witnessState (fun r : Int32 × am_I × am_L => (some (.int r.1), R, r.2.1, r.2.2)) 33 [] [.int v5] R J6 J7 (j4 v5 J6 J7) := by
      subst ej4
      intro v5 J6 J7
      show am_V Z X kX10_witnessState (fun r : Int32 × am_I × am_L => (some (.int r.1), R, r.2.1, r.2.2)) 33 [] [.int v5] R J6 J7 _
      refine am_istore_n (ls' := [(3, .int v5)]) dX10_witnessState_33 rfl (Nat.le_of_ble_eq_true rfl) rfl ?_
      refine am_iload_n dX10_witnessState_34 rfl 0 rfl ?_
      refine am_iconst (v := -1) dX10_witnessState_35 (by decide) ?_
      refine am_icmp_ne (tgt := 44) dX10_witnessState_36 rfl (fun e8 => ?_) (fun e8 => ?_)
      · refine am_iload_n dX10_witnessState_44 rfl 0 rfl ?_
        exact am_iret dX10_witnessState_45 rfl rfl
      · refine am_bipush (v := -4) dX10_witnessState_39 (by decide) ?_
        refine am_goto (tgt := 45) dX10_witnessState_41 rfl ?_
        exact am_iret dX10_witnessState_45 rfl rfl
    refine am_icmp_ne (tgt := 29) dX10_witnessState_19 rfl (fun e9 => ?_) (fun e9 => ?_)
    · refine am_aload_n dX10_witnessState_29 rfl 0 rfl ?_
      refine am_callV [] (tX9_firstSplitPair R r2 L (R a0 12) h3) h3 clX9 gX10_witnessState_X9_firstSplitPair hX9_firstSplitPair rfl ⟨Nat.le_of_ble_eq_true rfl, Nat.le_of_ble_eq_true rfl⟩ rfl rfl (Nat.le_of_ble_eq_true rfl) dX10_witnessState_30 (fun r10 => ?_)
      show am_V Z X kX10_witnessState (fun r : Int32 × am_I × am_L => (some (.int r.1), R, r.2.1, r.2.2)) 33 [(2, .ref (am_B Z + (R a0 12))), (0, .ref (am_B Z + a0)), (1, .int x1)] [.int r10.1] R r10.2.1 r10.2.2 _
      refine am_sub (ls' := []) [] rfl ?_
      exact hj4 r10.1 r10.2.1 r10.2.2
    · refine am_aload_n dX10_witnessState_22 rfl 0 rfl ?_
      refine am_callV [] (tX9_lowestLoopState R r2 L (R a0 12) h3) h3 clX9 gX10_witnessState_X9_lowestLoopState hX9_lowestLoopState rfl ⟨Nat.le_of_ble_eq_true rfl, Nat.le_of_ble_eq_true rfl⟩ rfl rfl (Nat.le_of_ble_eq_true rfl) dX10_witnessState_23 (fun r11 => ?_)
      show am_V Z X kX10_witnessState (fun r : Int32 × am_I × am_L => (some (.int r.1), R, r.2.1, r.2.2)) 26 [(2, .ref (am_B Z + (R a0 12))), (0, .ref (am_B Z + a0)), (1, .int x1)] [.int r11.1] R r11.2.1 r11.2.2 _
      refine am_goto (tgt := 33) dX10_witnessState_26 rfl ?_
      refine am_sub (ls' := []) [] rfl ?_
      exact hj4 r11.1 r11.2.1 r11.2.2
  refine am_icmp_eq (tgt := 12) dX10_witnessState_2 rfl (fun e12 => ?_) (fun e12 => ?_)
  · exact hj1
  · refine am_iload_n dX10_witnessState_5 rfl 1 rfl ?_
    refine am_iconst (v := 2) dX10_witnessState_6 (by decide) ?_
    refine am_icmp_eq (tgt := 12) dX10_witnessState_7 rfl (fun e13 => ?_) (fun e13 => ?_)
    · exact hj1
    · refine am_iconst (v := -1) dX10_witnessState_10 (by decide) ?_
      exact am_iret dX10_witnessState_11 rfl rfl
abbrev kX10_isWitness : am_K := (cX10_isWitness, 1, RX10, wsX10_isWitness, some .boolean, { frames := 0, cells := 0, slots := 0, locals := 0 })
theorem hX10_isWitness : am_cl yX10_isWitness kX10_isWitness 1 := ⟨⟨_, rfl⟩, rfl, rfl, by decide +kernel, by decide +kernel, by decide +kernel⟩
set_option maxRecDepth 100000 in
set_option maxHeartbeats 4000000 in
theorem tX10_isWitness {Z : am_Z} (R : am_R) (I : am_I) (L : am_L) (x0 : Int32)  : am_M Z yX10_isWitness kX10_isWitness [.int x0] R I L (pX10_isWitness x0) (fun r : Int32 => (some (.int r), R, I, L)) := by
  refine am_entry (ls := [(0, .int x0)]) (by decide) hX10_isWitness rfl (Nat.le_of_ble_eq_true rfl) rfl (fun X => ?_)
  unfold pX10_isWitness
  refine am_iload_n dX10_isWitness_0 rfl 0 rfl ?_
  refine am_if_lt (tgt := 13) dX10_isWitness_1 rfl (fun e1 => ?_) (fun e1 => ?_)
  · refine am_iconst (v := 0) dX10_isWitness_13 (by decide) ?_
    exact am_zret (by decide) dX10_isWitness_14 rfl rfl
  · refine am_iload_n dX10_isWitness_4 rfl 0 rfl ?_
    refine am_iconst (v := 3) dX10_isWitness_5 (by decide) ?_
    refine am_icmp_gt (tgt := 13) dX10_isWitness_6 rfl (fun e2 => ?_) (fun e2 => ?_)
    · refine am_iconst (v := 0) dX10_isWitness_13 (by decide) ?_
      exact am_zret (by decide) dX10_isWitness_14 rfl rfl
    · refine am_iconst (v := 1) dX10_isWitness_9 (by decide) ?_
      refine am_goto (tgt := 14) dX10_isWitness_10 rfl ?_
      exact am_zret (by decide) dX10_isWitness_14 rfl rfl
abbrev kX10_findWitness : am_K := (cX10_findWitness, 4, RX10, wsX10_findWitness, some .boolean, { frames := 6, cells := 0, slots := 0, locals := 136 })
theorem hX10_findWitness : am_cl yX10_findWitness kX10_findWitness 1 := ⟨⟨_, rfl⟩, rfl, rfl, by decide +kernel, by decide +kernel, by decide +kernel⟩
theorem iX10_findWitness_10 : ∀ w ∈ u_ws RX10 TX10 18, w ∈ wsX10_findWitness := by decide +kernel
theorem fX10_findWitness_77 : Cond.fieldLink RX10 77 "AmbiguityAnalyzer" "lightSearch" "LAmbiguityAnalyzer$LightSearch;" ∈ wsX10_findWitness := by decide +kernel
theorem fX10_findWitness_12 : Cond.fieldLink RX10 12 "AmbiguityAnalyzer" "automaton" "LAmbiguityAnalyzer$Automaton;" ∈ wsX10_findWitness := by decide +kernel
theorem fX10_findWitness_19 : Cond.fieldLink RX10 19 "AmbiguityAnalyzer" "weights" "[I" ∈ wsX10_findWitness := by decide +kernel
theorem fX10_findWitness_40 : Cond.fieldLink RX10 40 "AmbiguityAnalyzer" "witnessWord" "LAmbiguityAnalyzer$Word;" ∈ wsX10_findWitness := by decide +kernel
set_option maxRecDepth 100000 in
set_option maxHeartbeats 4000000 in
theorem tX10_findWitness {Z : am_Z} (R : am_R) (I : am_I) (L : am_L) (a0 : Nat) (x1 : Int32) (h_a0 : am_G Z a0 = some (.inl 10)) : am_M Z yX10_findWitness kX10_findWitness [.ref (am_B Z + a0), .int x1] R I L (pX10_findWitness R I L a0 x1) (fun r : Int32 × am_I × am_L => (some (.int r.1), R, r.2.1, r.2.2)) := by
  refine am_entry (ls := [(0, .ref (am_B Z + a0)), (1, .int x1)]) (by decide) hX10_findWitness rfl (Nat.le_of_ble_eq_true rfl) rfl (fun X => ?_)
  unfold pX10_findWitness
  refine am_iload_n dX10_findWitness_0 rfl 1 rfl ?_
  refine am_iconst (v := 3) dX10_findWitness_1 (by decide) ?_
  refine am_icmp_ne (tgt := 25) dX10_findWitness_2 rfl (fun e1 => ?_) (fun e1 => ?_)
  · refine am_aload_n dX10_findWitness_25 rfl 0 rfl ?_
    refine am_callV [] (tX10_freshSearch R I L a0 h_a0) h_a0 clX10 gX10_findWitness_X10_freshSearch hX10_freshSearch rfl ⟨Nat.le_of_ble_eq_true rfl, Nat.le_of_ble_eq_true rfl⟩ rfl rfl (Nat.le_of_ble_eq_true rfl) dX10_findWitness_26 (fun r2 => ?_)
    show am_V Z X kX10_findWitness (fun r : Int32 × am_I × am_L => (some (.int r.1), R, r.2.1, r.2.2)) 29 [(0, .ref (am_B Z + a0)), (1, .int x1)] [.ref (am_B Z + (R a0 12))] R r2 L _
    refine am_tyV 10 12 h_a0 rfl (fun h3 => ?_)
    refine am_astore_n (ls' := [(2, .ref (am_B Z + (R a0 12))), (0, .ref (am_B Z + a0)), (1, .int x1)]) dX10_findWitness_29 rfl (Nat.le_of_ble_eq_true rfl) rfl ?_
    refine am_iconst (v := 0) dX10_findWitness_30 (by decide) ?_
    refine am_istore_n (ls' := [(3, .int (0 : Int32)), (2, .ref (am_B Z + (R a0 12))), (0, .ref (am_B Z + a0)), (1, .int x1)]) dX10_findWitness_31 rfl (Nat.le_of_ble_eq_true rfl) rfl ?_
    refine am_iload_n dX10_findWitness_32 rfl 3 rfl ?_
    refine am_jnV (fun j4 ej4 => ?_)
    have hj4 : ∀ (v5 : Int32) (J6 : am_I) (J7 : am_L), am_V Z X kX10_findWitness (fun r : Int32 × am_I × am_L => (some (.int r.1), R, r.2.1, r.2.2)) 85 [(0, .ref (am_B Z + a0)), (2, .ref (am_B Z + (R a0 12))), (3, .int v5)] [] R J6 J7 (j4 v5 J6 J7) := by
      subst ej4
      intro v5 J6 J7
      show am_V Z X kX10_findWitness (fun r : Int32 × am_I × am_L => (some (.int r.1), R, r.2.1, r.2.2)) 85 [(0, .ref (am_B Z + a0)), (2, .ref (am_B Z + (R a0 12))), (3, .int v5)] [] R J6 J7 _
      refine am_iload_n dX10_findWitness_85 rfl 2 rfl ?_
      refine am_if_eq (tgt := 97) dX10_findWitness_86 rfl (fun e8 => ?_) (fun e8 => ?_)
      · refine am_iload_n dX10_findWitness_97 rfl 2 rfl ?_
        refine am_ckV (fun hb9 => ?_)
        exact am_zret hb9 dX10_findWitness_98 rfl rfl
      · refine am_aload_n dX10_findWitness_89 rfl 1 rfl ?_
        refine am_aload_n dX10_findWitness_90 rfl 0 rfl ?_
        refine am_getR 10 7 clX10 (Nat.le_of_ble_eq_true rfl) h_a0 iX10_findWitness_10 fX10_findWitness_40 rfl rfl dX10_findWitness_91 (fun h10 => ?_)
        refine am_callV [.ref (am_B Z + (R a0 7))] (tX9_copyFoundWordTo R J6 J7 (R a0 12) (R a0 7) h3 h10) h3 clX9 gX10_findWitness_X9_copyFoundWordTo hX9_copyFoundWordTo rfl ⟨Nat.le_of_ble_eq_true rfl, Nat.le_of_ble_eq_true rfl⟩ rfl rfl (Nat.le_of_ble_eq_true rfl) dX10_findWitness_94 (fun r11 => ?_)
        show am_V Z X kX10_findWitness (fun r : Int32 × am_I × am_L => (some (.int r.1), R, r.2.1, r.2.2)) 97 [(0, .ref (am_B Z + a0)), (2, .ref (am_B Z + (R a0 12))), (3, .int v5)] [] R r11 J7 _
        refine am_iload_n dX10_findWitness_97 rfl 2 rfl ?_
        refine am_ckV (fun hb12 => ?_)
        exact am_zret hb12 dX10_findWitness_98 rfl rfl
    refine am_if_ne (tgt := 44) dX10_findWitness_33 rfl (fun e13 => ?_) (fun e13 => ?_)
    · refine am_iload_n dX10_findWitness_44 rfl 3 rfl ?_
      refine am_iconst (v := 1) dX10_findWitness_45 (by decide) ?_
      refine am_icmp_ne (tgt := 66) dX10_findWitness_46 rfl (fun e14 => ?_) (fun e14 => ?_)
      · refine am_iload_n dX10_findWitness_66 rfl 3 rfl ?_
        refine am_iconst (v := 2) dX10_findWitness_67 (by decide) ?_
        refine am_icmp_ne (tgt := 85) dX10_findWitness_68 rfl (fun e15 => ?_) (fun e15 => ?_)
        · refine am_sub (ls' := [(0, .ref (am_B Z + a0)), (2, .ref (am_B Z + (R a0 12))), (3, .int (0 : Int32))]) [2, 1, 0] rfl ?_
          exact hj4 (0 : Int32) r2 L
        · refine am_aload_n dX10_findWitness_71 rfl 1 rfl ?_
          refine am_callV [] (tX9_firstSplitPair R r2 L (R a0 12) h3) h3 clX9 gX10_findWitness_X9_firstSplitPair hX9_firstSplitPair rfl ⟨Nat.le_of_ble_eq_true rfl, Nat.le_of_ble_eq_true rfl⟩ rfl rfl (Nat.le_of_ble_eq_true rfl) dX10_findWitness_72 (fun r16 => ?_)
          show am_V Z X kX10_findWitness (fun r : Int32 × am_I × am_L => (some (.int r.1), R, r.2.1, r.2.2)) 75 [(3, .int (0 : Int32)), (2, .ref (am_B Z + (R a0 12))), (0, .ref (am_B Z + a0)), (1, .int x1)] [.int r16.1] R r16.2.1 r16.2.2 _
          refine am_iconst (v := -1) dX10_findWitness_75 (by decide) ?_
          refine am_letJ (fun k18 ek18 => ?_)
          have hk18 : ∀ v17 : Int32, am_V Z X kX10_findWitness (fun r : Int32 × am_I × am_L => (some (.int r.1), R, r.2.1, r.2.2)) 84 [(0, .ref (am_B Z + a0)), (2, .ref (am_B Z + (R a0 12)))] [.int v17] R r16.2.1 r16.2.2 (k18 v17) := by
            subst ek18
            intro v17
            show am_V Z X kX10_findWitness (fun r : Int32 × am_I × am_L => (some (.int r.1), R, r.2.1, r.2.2)) 84 [(0, .ref (am_B Z + a0)), (2, .ref (am_B Z + (R a0 12)))] [.int v17] R r16.2.1 r16.2.2 _
            refine am_istore_n (ls' := [(3, .int v17), (0, .ref (am_B Z + a0)), (2, .ref (am_B Z + (R a0 12)))]) dX10_findWitness_84 rfl (Nat.le_of_ble_eq_true rfl) rfl ?_
            refine am_sub (ls' := [(0, .ref (am_B Z + a0)), (2, .ref (am_B Z + (R a0 12))), (3, .int v17)]) [1, 2, 0] rfl ?_
            exact hj4 v17 r16.2.1 r16.2.2
          refine am_icmp_eqL (tgt := 83) dX10_findWitness_76 rfl (fun e19 => ?_) (fun e19 => ?_)
          · refine am_iconst (v := 0) dX10_findWitness_83 (by decide) ?_
            refine am_sub (ls' := [(0, .ref (am_B Z + a0)), (2, .ref (am_B Z + (R a0 12)))]) [2, 1] rfl ?_
            exact hk18 _
          · refine am_iconst (v := 1) dX10_findWitness_79 (by decide) ?_
            refine am_goto (tgt := 84) dX10_findWitness_80 rfl ?_
            refine am_sub (ls' := [(0, .ref (am_B Z + a0)), (2, .ref (am_B Z + (R a0 12)))]) [2, 1] rfl ?_
            exact hk18 _
      · refine am_aload_n dX10_findWitness_49 rfl 1 rfl ?_
        refine am_callV [] (tX9_lowestLoopState R r2 L (R a0 12) h3) h3 clX9 gX10_findWitness_X9_lowestLoopState hX9_lowestLoopState rfl ⟨Nat.le_of_ble_eq_true rfl, Nat.le_of_ble_eq_true rfl⟩ rfl rfl (Nat.le_of_ble_eq_true rfl) dX10_findWitness_50 (fun r20 => ?_)
        show am_V Z X kX10_findWitness (fun r : Int32 × am_I × am_L => (some (.int r.1), R, r.2.1, r.2.2)) 53 [(3, .int (0 : Int32)), (2, .ref (am_B Z + (R a0 12))), (0, .ref (am_B Z + a0)), (1, .int x1)] [.int r20.1] R r20.2.1 r20.2.2 _
        refine am_iconst (v := -1) dX10_findWitness_53 (by decide) ?_
        refine am_letJ (fun k22 ek22 => ?_)
        have hk22 : ∀ v21 : Int32, am_V Z X kX10_findWitness (fun r : Int32 × am_I × am_L => (some (.int r.1), R, r.2.1, r.2.2)) 62 [(0, .ref (am_B Z + a0)), (2, .ref (am_B Z + (R a0 12)))] [.int v21] R r20.2.1 r20.2.2 (k22 v21) := by
          subst ek22
          intro v21
          show am_V Z X kX10_findWitness (fun r : Int32 × am_I × am_L => (some (.int r.1), R, r.2.1, r.2.2)) 62 [(0, .ref (am_B Z + a0)), (2, .ref (am_B Z + (R a0 12)))] [.int v21] R r20.2.1 r20.2.2 _
          refine am_istore_n (ls' := [(3, .int v21), (0, .ref (am_B Z + a0)), (2, .ref (am_B Z + (R a0 12)))]) dX10_findWitness_62 rfl (Nat.le_of_ble_eq_true rfl) rfl ?_
          refine am_goto (tgt := 85) dX10_findWitness_63 rfl ?_
          refine am_sub (ls' := [(0, .ref (am_B Z + a0)), (2, .ref (am_B Z + (R a0 12))), (3, .int v21)]) [1, 2, 0] rfl ?_
          exact hj4 v21 r20.2.1 r20.2.2
        refine am_icmp_eqL (tgt := 61) dX10_findWitness_54 rfl (fun e23 => ?_) (fun e23 => ?_)
        · refine am_iconst (v := 0) dX10_findWitness_61 (by decide) ?_
          refine am_sub (ls' := [(0, .ref (am_B Z + a0)), (2, .ref (am_B Z + (R a0 12)))]) [2, 1] rfl ?_
          exact hk22 _
        · refine am_iconst (v := 1) dX10_findWitness_57 (by decide) ?_
          refine am_goto (tgt := 62) dX10_findWitness_58 rfl ?_
          refine am_sub (ls' := [(0, .ref (am_B Z + a0)), (2, .ref (am_B Z + (R a0 12)))]) [2, 1] rfl ?_
          exact hk22 _
    · refine am_aload_n dX10_findWitness_36 rfl 1 rfl ?_
      refine am_callV [] (tX9_findAmbiguousWord R r2 L (R a0 12) h3) h3 clX9 gX10_findWitness_X9_findAmbiguousWord hX9_findAmbiguousWord rfl ⟨Nat.le_of_ble_eq_true rfl, Nat.le_of_ble_eq_true rfl⟩ rfl rfl (Nat.le_of_ble_eq_true rfl) dX10_findWitness_37 (fun r24 => ?_)
      show am_V Z X kX10_findWitness (fun r : Int32 × am_I × am_L => (some (.int r.1), R, r.2.1, r.2.2)) 40 [(3, .int (0 : Int32)), (2, .ref (am_B Z + (R a0 12))), (0, .ref (am_B Z + a0)), (1, .int x1)] [.int r24.1] R r24.2.1 r24.2.2 _
      refine am_istore_n (ls' := [(3, .int r24.1), (2, .ref (am_B Z + (R a0 12))), (0, .ref (am_B Z + a0)), (1, .int x1)]) dX10_findWitness_40 rfl (Nat.le_of_ble_eq_true rfl) rfl ?_
      refine am_goto (tgt := 85) dX10_findWitness_41 rfl ?_
      refine am_sub (ls' := [(0, .ref (am_B Z + a0)), (2, .ref (am_B Z + (R a0 12))), (3, .int r24.1)]) [2, 1, 0] rfl ?_
      exact hj4 r24.1 r24.2.1 r24.2.2
  · refine am_aload_n dX10_findWitness_5 rfl 0 rfl ?_
    refine am_getR 10 13 clX10 (Nat.le_of_ble_eq_true rfl) h_a0 iX10_findWitness_10 fX10_findWitness_77 rfl rfl dX10_findWitness_6 (fun h25 => ?_)
    refine am_aload_n dX10_findWitness_9 rfl 0 rfl ?_
    refine am_getR 10 0 clX10 (Nat.le_of_ble_eq_true rfl) h_a0 iX10_findWitness_10 fX10_findWitness_12 rfl rfl dX10_findWitness_10 (fun h26 => ?_)
    refine am_aload_n dX10_findWitness_13 rfl 0 rfl ?_
    refine am_getR 10 2 clX10 (Nat.le_of_ble_eq_true rfl) h_a0 iX10_findWitness_10 fX10_findWitness_19 rfl rfl dX10_findWitness_14 (fun h27 => ?_)
    refine am_aload_n dX10_findWitness_17 rfl 0 rfl ?_
    refine am_getR 10 7 clX10 (Nat.le_of_ble_eq_true rfl) h_a0 iX10_findWitness_10 fX10_findWitness_40 rfl rfl dX10_findWitness_18 (fun h28 => ?_)
    refine am_callV [.ref (am_B Z + (R a0 0)), .ref (am_B Z + (R a0 2)), .ref (am_B Z + (R a0 7))] (tX2_find R I L (R a0 13) (R a0 0) (R a0 2) (R a0 7) h25 h26 h27 h28) h25 clX2 gX10_findWitness_X2_find hX2_find rfl ⟨Nat.le_of_ble_eq_true rfl, Nat.le_of_ble_eq_true rfl⟩ rfl rfl (Nat.le_of_ble_eq_true rfl) dX10_findWitness_21 (fun r29 => ?_)
    show am_V Z X kX10_findWitness (fun r : Int32 × am_I × am_L => (some (.int r.1), R, r.2.1, r.2.2)) 24 [(0, .ref (am_B Z + a0)), (1, .int x1)] [.int r29.1] R r29.2 L _
    refine am_ckV (fun hb30 => ?_)
    exact am_zret hb30 dX10_findWitness_24 rfl rfl
abbrev kX10_witnessLength : am_K := (cX10_witnessLength, 2, RX10, wsX10_witnessLength, some .int, { frames := 7, cells := 0, slots := 0, locals := 159 })
theorem hX10_witnessLength : am_cl yX10_witnessLength kX10_witnessLength 1 := ⟨⟨_, rfl⟩, rfl, rfl, by decide +kernel, by decide +kernel, by decide +kernel⟩
theorem iX10_witnessLength_10 : ∀ w ∈ u_ws RX10 TX10 18, w ∈ wsX10_witnessLength := by decide +kernel
theorem fX10_witnessLength_40 : Cond.fieldLink RX10 40 "AmbiguityAnalyzer" "witnessWord" "LAmbiguityAnalyzer$Word;" ∈ wsX10_witnessLength := by decide +kernel
theorem iX10_witnessLength_8 : ∀ w ∈ u_ws RX8 TX8 2, w ∈ wsX10_witnessLength := by decide +kernel
theorem fX10_witnessLength_158 : Cond.fieldLink RX10 158 "AmbiguityAnalyzer$Word" "length" "I" ∈ wsX10_witnessLength := by decide +kernel
set_option maxRecDepth 100000 in
set_option maxHeartbeats 4000000 in
theorem tX10_witnessLength {Z : am_Z} (R : am_R) (I : am_I) (L : am_L) (a0 : Nat) (x1 : Int32) (h_a0 : am_G Z a0 = some (.inl 10)) : am_M Z yX10_witnessLength kX10_witnessLength [.ref (am_B Z + a0), .int x1] R I L (pX10_witnessLength R I L a0 x1) (fun r : Int32 × am_I × am_L => (some (.int r.1), R, r.2.1, r.2.2)) := by
  refine am_entry (ls := [(0, .ref (am_B Z + a0)), (1, .int x1)]) (by decide) hX10_witnessLength rfl (Nat.le_of_ble_eq_true rfl) rfl (fun X => ?_)
  unfold pX10_witnessLength
  refine am_iload_n dX10_witnessLength_0 rfl 1 rfl ?_
  refine am_callS [.int x1] (tX10_isWitness R I L x1) gX10_witnessLength_X10_isWitness hX10_isWitness ⟨Nat.le_of_ble_eq_true rfl, Nat.le_of_ble_eq_true rfl⟩ rfl rfl (Nat.le_of_ble_eq_true rfl) dX10_witnessLength_1 (fun r1 => ?_)
  show am_V Z X kX10_witnessLength (fun r : Int32 × am_I × am_L => (some (.int r.1), R, r.2.1, r.2.2)) 4 [(0, .ref (am_B Z + a0)), (1, .int x1)] [.int r1] R I L _
  refine am_if_ne (tgt := 9) dX10_witnessLength_4 rfl (fun e2 => ?_) (fun e2 => ?_)
  · refine am_aload_n dX10_witnessLength_9 rfl 0 rfl ?_
    refine am_iload_n dX10_witnessLength_10 rfl 1 rfl ?_
    refine am_callV [.int x1] (tX10_findWitness R I L a0 x1 h_a0) h_a0 clX10 gX10_witnessLength_X10_findWitness hX10_findWitness rfl ⟨Nat.le_of_ble_eq_true rfl, Nat.le_of_ble_eq_true rfl⟩ rfl rfl (Nat.le_of_ble_eq_true rfl) dX10_witnessLength_11 (fun r3 => ?_)
    show am_V Z X kX10_witnessLength (fun r : Int32 × am_I × am_L => (some (.int r.1), R, r.2.1, r.2.2)) 14 [(0, .ref (am_B Z + a0)), (1, .int x1)] [.int r3.1] R r3.2.1 r3.2.2 _
    refine am_if_eq (tgt := 27) dX10_witnessLength_14 rfl (fun e4 => ?_) (fun e4 => ?_)
    · refine am_bipush (v := -4) dX10_witnessLength_27 (by decide) ?_
      exact am_iret dX10_witnessLength_29 rfl rfl
    · refine am_aload_n dX10_witnessLength_17 rfl 0 rfl ?_
      refine am_getR 10 7 clX10 (Nat.le_of_ble_eq_true rfl) h_a0 iX10_witnessLength_10 fX10_witnessLength_40 rfl rfl dX10_witnessLength_18 (fun h5 => ?_)
      refine am_get 8 0 clX8 (Nat.le_of_ble_eq_true rfl) h5 iX10_witnessLength_8 fX10_witnessLength_158 rfl dX10_witnessLength_21 ?_
      refine am_goto (tgt := 29) dX10_witnessLength_24 rfl ?_
      exact am_iret dX10_witnessLength_29 rfl rfl
  · refine am_iconst (v := -1) dX10_witnessLength_7 (by decide) ?_
    exact am_iret dX10_witnessLength_8 rfl rfl
abbrev kX10_witnessLetter : am_K := (cX10_witnessLetter, 3, RX10, wsX10_witnessLetter, some .int, { frames := 7, cells := 0, slots := 0, locals := 159 })
theorem hX10_witnessLetter : am_cl yX10_witnessLetter kX10_witnessLetter 2 := ⟨⟨_, rfl⟩, rfl, rfl, by decide +kernel, by decide +kernel, by decide +kernel⟩
theorem iX10_witnessLetter_10 : ∀ w ∈ u_ws RX10 TX10 18, w ∈ wsX10_witnessLetter := by decide +kernel
theorem fX10_witnessLetter_40 : Cond.fieldLink RX10 40 "AmbiguityAnalyzer" "witnessWord" "LAmbiguityAnalyzer$Word;" ∈ wsX10_witnessLetter := by decide +kernel
set_option maxRecDepth 100000 in
set_option maxHeartbeats 4000000 in
theorem tX10_witnessLetter {Z : am_Z} (R : am_R) (I : am_I) (L : am_L) (a0 : Nat) (x1 : Int32) (x2 : Int32) (h_a0 : am_G Z a0 = some (.inl 10)) : am_M Z yX10_witnessLetter kX10_witnessLetter [.ref (am_B Z + a0), .int x1, .int x2] R I L (pX10_witnessLetter R I L a0 x1 x2) (fun r : Int32 × am_I × am_L => (some (.int r.1), R, r.2.1, r.2.2)) := by
  refine am_entry (ls := [(0, .ref (am_B Z + a0)), (1, .int x1), (2, .int x2)]) (by decide) hX10_witnessLetter rfl (Nat.le_of_ble_eq_true rfl) rfl (fun X => ?_)
  unfold pX10_witnessLetter
  refine am_iload_n dX10_witnessLetter_0 rfl 1 rfl ?_
  refine am_callS [.int x1] (tX10_isWitness R I L x1) gX10_witnessLetter_X10_isWitness hX10_isWitness ⟨Nat.le_of_ble_eq_true rfl, Nat.le_of_ble_eq_true rfl⟩ rfl rfl (Nat.le_of_ble_eq_true rfl) dX10_witnessLetter_1 (fun r1 => ?_)
  show am_V Z X kX10_witnessLetter (fun r : Int32 × am_I × am_L => (some (.int r.1), R, r.2.1, r.2.2)) 4 [(0, .ref (am_B Z + a0)), (1, .int x1), (2, .int x2)] [.int r1] R I L _
  refine am_if_ne (tgt := 9) dX10_witnessLetter_4 rfl (fun e2 => ?_) (fun e2 => ?_)
  · refine am_aload_n dX10_witnessLetter_9 rfl 0 rfl ?_
    refine am_iload_n dX10_witnessLetter_10 rfl 1 rfl ?_
    refine am_callV [.int x1] (tX10_findWitness R I L a0 x1 h_a0) h_a0 clX10 gX10_witnessLetter_X10_findWitness hX10_findWitness rfl ⟨Nat.le_of_ble_eq_true rfl, Nat.le_of_ble_eq_true rfl⟩ rfl rfl (Nat.le_of_ble_eq_true rfl) dX10_witnessLetter_11 (fun r3 => ?_)
    show am_V Z X kX10_witnessLetter (fun r : Int32 × am_I × am_L => (some (.int r.1), R, r.2.1, r.2.2)) 14 [(0, .ref (am_B Z + a0)), (1, .int x1), (2, .int x2)] [.int r3.1] R r3.2.1 r3.2.2 _
    refine am_if_eq (tgt := 28) dX10_witnessLetter_14 rfl (fun e4 => ?_) (fun e4 => ?_)
    · refine am_bipush (v := -4) dX10_witnessLetter_28 (by decide) ?_
      exact am_iret dX10_witnessLetter_30 rfl rfl
    · refine am_aload_n dX10_witnessLetter_17 rfl 0 rfl ?_
      refine am_getR 10 7 clX10 (Nat.le_of_ble_eq_true rfl) h_a0 iX10_witnessLetter_10 fX10_witnessLetter_40 rfl rfl dX10_witnessLetter_18 (fun h5 => ?_)
      refine am_iload_n dX10_witnessLetter_21 rfl 2 rfl ?_
      refine am_callV [.int x2] (tX8_hasPosition R r3.2.1 r3.2.2 (R a0 7) x2 h5) h5 clX8 gX10_witnessLetter_X8_hasPosition hX8_hasPosition rfl ⟨Nat.le_of_ble_eq_true rfl, Nat.le_of_ble_eq_true rfl⟩ rfl rfl (Nat.le_of_ble_eq_true rfl) dX10_witnessLetter_22 (fun r6 => ?_)
      show am_V Z X kX10_witnessLetter (fun r : Int32 × am_I × am_L => (some (.int r.1), R, r.2.1, r.2.2)) 25 [(0, .ref (am_B Z + a0)), (1, .int x1), (2, .int x2)] [.int r6] R r3.2.1 r3.2.2 _
      refine am_if_ne (tgt := 31) dX10_witnessLetter_25 rfl (fun e7 => ?_) (fun e7 => ?_)
      · refine am_aload_n dX10_witnessLetter_31 rfl 0 rfl ?_
        refine am_getR 10 7 clX10 (Nat.le_of_ble_eq_true rfl) h_a0 iX10_witnessLetter_10 fX10_witnessLetter_40 rfl rfl dX10_witnessLetter_32 (fun h8 => ?_)
        refine am_iload_n dX10_witnessLetter_35 rfl 2 rfl ?_
        refine am_callV [.int x2] (tX8_letterAt R r3.2.1 r3.2.2 (R a0 7) x2 h8) h8 clX8 gX10_witnessLetter_X8_letterAt hX8_letterAt rfl ⟨Nat.le_of_ble_eq_true rfl, Nat.le_of_ble_eq_true rfl⟩ rfl rfl (Nat.le_of_ble_eq_true rfl) dX10_witnessLetter_36 (fun r9 => ?_)
        show am_V Z X kX10_witnessLetter (fun r : Int32 × am_I × am_L => (some (.int r.1), R, r.2.1, r.2.2)) 39 [(0, .ref (am_B Z + a0)), (1, .int x1), (2, .int x2)] [.int r9] R r3.2.1 r3.2.2 _
        exact am_iret dX10_witnessLetter_39 rfl rfl
      · refine am_bipush (v := -4) dX10_witnessLetter_28 (by decide) ?_
        exact am_iret dX10_witnessLetter_30 rfl rfl
  · refine am_iconst (v := -1) dX10_witnessLetter_7 (by decide) ?_
    exact am_iret dX10_witnessLetter_8 rfl rfl
abbrev kX10_takeWitness : am_K := (cX10_takeWitness, 2, RX10, wsX10_takeWitness, some .int, { frames := 7, cells := 0, slots := 0, locals := 159 })
theorem hX10_takeWitness : am_cl yX10_takeWitness kX10_takeWitness 1 := ⟨⟨_, rfl⟩, rfl, rfl, by decide +kernel, by decide +kernel, by decide +kernel⟩
theorem iX10_takeWitness_10 : ∀ w ∈ u_ws RX10 TX10 18, w ∈ wsX10_takeWitness := by decide +kernel
theorem fX10_takeWitness_40 : Cond.fieldLink RX10 40 "AmbiguityAnalyzer" "witnessWord" "LAmbiguityAnalyzer$Word;" ∈ wsX10_takeWitness := by decide +kernel
theorem iX10_takeWitness_8 : ∀ w ∈ u_ws RX8 TX8 2, w ∈ wsX10_takeWitness := by decide +kernel
theorem fX10_takeWitness_158 : Cond.fieldLink RX10 158 "AmbiguityAnalyzer$Word" "length" "I" ∈ wsX10_takeWitness := by decide +kernel
theorem fX10_takeWitness_36 : Cond.fieldLink RX10 36 "AmbiguityAnalyzer" "word" "LAmbiguityAnalyzer$Word;" ∈ wsX10_takeWitness := by decide +kernel
set_option maxRecDepth 100000 in
set_option maxHeartbeats 4000000 in
theorem tX10_takeWitness {Z : am_Z} (R : am_R) (I : am_I) (L : am_L) (a0 : Nat) (x1 : Int32) (h_a0 : am_G Z a0 = some (.inl 10)) : am_M Z yX10_takeWitness kX10_takeWitness [.ref (am_B Z + a0), .int x1] R I L (pX10_takeWitness R I L a0 x1) (fun r : Int32 × am_I × am_L => (some (.int r.1), R, r.2.1, r.2.2)) := by
  refine am_entry (ls := [(0, .ref (am_B Z + a0)), (1, .int x1)]) (by decide) hX10_takeWitness rfl (Nat.le_of_ble_eq_true rfl) rfl (fun X => ?_)
  unfold pX10_takeWitness
  refine am_iload_n dX10_takeWitness_0 rfl 1 rfl ?_
  refine am_callS [.int x1] (tX10_isWitness R I L x1) gX10_takeWitness_X10_isWitness hX10_isWitness ⟨Nat.le_of_ble_eq_true rfl, Nat.le_of_ble_eq_true rfl⟩ rfl rfl (Nat.le_of_ble_eq_true rfl) dX10_takeWitness_1 (fun r1 => ?_)
  show am_V Z X kX10_takeWitness (fun r : Int32 × am_I × am_L => (some (.int r.1), R, r.2.1, r.2.2)) 4 [(0, .ref (am_B Z + a0)), (1, .int x1)] [.int r1] R I L _
  refine am_if_ne (tgt := 9) dX10_takeWitness_4 rfl (fun e2 => ?_) (fun e2 => ?_)
  · refine am_aload_n dX10_takeWitness_9 rfl 0 rfl ?_
    refine am_iload_n dX10_takeWitness_10 rfl 1 rfl ?_
    refine am_callV [.int x1] (tX10_findWitness R I L a0 x1 h_a0) h_a0 clX10 gX10_takeWitness_X10_findWitness hX10_findWitness rfl ⟨Nat.le_of_ble_eq_true rfl, Nat.le_of_ble_eq_true rfl⟩ rfl rfl (Nat.le_of_ble_eq_true rfl) dX10_takeWitness_11 (fun r3 => ?_)
    show am_V Z X kX10_takeWitness (fun r : Int32 × am_I × am_L => (some (.int r.1), R, r.2.1, r.2.2)) 14 [(0, .ref (am_B Z + a0)), (1, .int x1)] [.int r3.1] R r3.2.1 r3.2.2 _
    refine am_if_ne (tgt := 20) dX10_takeWitness_14 rfl (fun e4 => ?_) (fun e4 => ?_)
    · refine am_aload_n dX10_takeWitness_20 rfl 0 rfl ?_
      refine am_getR 10 7 clX10 (Nat.le_of_ble_eq_true rfl) h_a0 iX10_takeWitness_10 fX10_takeWitness_40 rfl rfl dX10_takeWitness_21 (fun h5 => ?_)
      refine am_get 8 0 clX8 (Nat.le_of_ble_eq_true rfl) h5 iX10_takeWitness_8 fX10_takeWitness_158 rfl dX10_takeWitness_24 ?_
      refine am_bipush (v := 20) dX10_takeWitness_27 (by decide) ?_
      refine am_icmp_le (tgt := 35) dX10_takeWitness_29 rfl (fun e6 => ?_) (fun e6 => ?_)
      · refine am_aload_n dX10_takeWitness_35 rfl 0 rfl ?_
        refine am_getR 10 6 clX10 (Nat.le_of_ble_eq_true rfl) h_a0 iX10_takeWitness_10 fX10_takeWitness_36 rfl rfl dX10_takeWitness_36 (fun h7 => ?_)
        refine am_aload_n dX10_takeWitness_39 rfl 0 rfl ?_
        refine am_getR 10 7 clX10 (Nat.le_of_ble_eq_true rfl) h_a0 iX10_takeWitness_10 fX10_takeWitness_40 rfl rfl dX10_takeWitness_40 (fun h8 => ?_)
        refine am_callV [.ref (am_B Z + (R a0 7))] (tX8_copyFrom R r3.2.1 r3.2.2 (R a0 6) (R a0 7) h7 h8) h7 clX8 gX10_takeWitness_X8_copyFrom hX8_copyFrom rfl ⟨Nat.le_of_ble_eq_true rfl, Nat.le_of_ble_eq_true rfl⟩ rfl rfl (Nat.le_of_ble_eq_true rfl) dX10_takeWitness_43 (fun r9 => ?_)
        show am_V Z X kX10_takeWitness (fun r : Int32 × am_I × am_L => (some (.int r.1), R, r.2.1, r.2.2)) 46 [(0, .ref (am_B Z + a0)), (1, .int x1)] [] R r9 r3.2.2 _
        refine am_aload_n dX10_takeWitness_46 rfl 0 rfl ?_
        refine am_getR 10 6 clX10 (Nat.le_of_ble_eq_true rfl) h_a0 iX10_takeWitness_10 fX10_takeWitness_36 rfl rfl dX10_takeWitness_47 (fun h10 => ?_)
        refine am_get 8 0 clX8 (Nat.le_of_ble_eq_true rfl) h10 iX10_takeWitness_8 fX10_takeWitness_158 rfl dX10_takeWitness_50 ?_
        exact am_iret dX10_takeWitness_53 rfl rfl
      · refine am_bipush (v := -3) dX10_takeWitness_32 (by decide) ?_
        exact am_iret dX10_takeWitness_34 rfl rfl
    · refine am_bipush (v := -4) dX10_takeWitness_17 (by decide) ?_
      exact am_iret dX10_takeWitness_19 rfl rfl
  · refine am_iconst (v := -1) dX10_takeWitness_7 (by decide) ?_
    exact am_iret dX10_takeWitness_8 rfl rfl
abbrev kX10_setWeight : am_K := (cX10_setWeight, 4, RX10, wsX10_setWeight, some .int, { frames := 1, cells := 0, slots := 0, locals := 20 })
theorem hX10_setWeight : am_cl yX10_setWeight kX10_setWeight 2 := ⟨⟨_, rfl⟩, rfl, rfl, by decide +kernel, by decide +kernel, by decide +kernel⟩
theorem iX10_setWeight_10 : ∀ w ∈ u_ws RX10 TX10 18, w ∈ wsX10_setWeight := by decide +kernel
theorem fX10_setWeight_19 : Cond.fieldLink RX10 19 "AmbiguityAnalyzer" "weights" "[I" ∈ wsX10_setWeight := by decide +kernel
set_option maxRecDepth 100000 in
set_option maxHeartbeats 4000000 in
theorem tX10_setWeight {Z : am_Z} (R : am_R) (I : am_I) (L : am_L) (a0 : Nat) (x1 : Int32) (x2 : Int32) (h_a0 : am_G Z a0 = some (.inl 10)) : am_M Z yX10_setWeight kX10_setWeight [.ref (am_B Z + a0), .int x1, .int x2] R I L (pX10_setWeight R I a0 x1 x2) (fun r : Int32 × am_I => (some (.int r.1), R, r.2, L)) := by
  refine am_entry (ls := [(0, .ref (am_B Z + a0)), (1, .int x1), (2, .int x2)]) (by decide) hX10_setWeight rfl (Nat.le_of_ble_eq_true rfl) rfl (fun X => ?_)
  unfold pX10_setWeight
  refine am_iload_n dX10_setWeight_0 rfl 1 rfl ?_
  refine am_callS [.int x1] (tX10_isLetter R I L x1) gX10_setWeight_X10_isLetter hX10_isLetter ⟨Nat.le_of_ble_eq_true rfl, Nat.le_of_ble_eq_true rfl⟩ rfl rfl (Nat.le_of_ble_eq_true rfl) dX10_setWeight_1 (fun r1 => ?_)
  show am_V Z X kX10_setWeight (fun r : Int32 × am_I => (some (.int r.1), R, r.2, L)) 4 [(0, .ref (am_B Z + a0)), (1, .int x1), (2, .int x2)] [.int r1] R I L _
  refine am_if_ne (tgt := 9) dX10_setWeight_4 rfl (fun e2 => ?_) (fun e2 => ?_)
  · refine am_iload_n dX10_setWeight_9 rfl 2 rfl ?_
    refine am_if_lt (tgt := 19) dX10_setWeight_10 rfl (fun e3 => ?_) (fun e3 => ?_)
    · refine am_bipush (v := -2) dX10_setWeight_19 (by decide) ?_
      exact am_iret dX10_setWeight_21 rfl rfl
    · refine am_iload_n dX10_setWeight_13 rfl 2 rfl ?_
      refine am_bipush (v := 100) dX10_setWeight_14 (by decide) ?_
      refine am_icmp_le (tgt := 22) dX10_setWeight_16 rfl (fun e4 => ?_) (fun e4 => ?_)
      · refine am_aload_n dX10_setWeight_22 rfl 0 rfl ?_
        refine am_getR 10 2 clX10 (Nat.le_of_ble_eq_true rfl) h_a0 iX10_setWeight_10 fX10_setWeight_19 rfl rfl dX10_setWeight_23 (fun h5 => ?_)
        refine am_iload_n dX10_setWeight_26 rfl 1 rfl ?_
        refine am_iald h5 dX10_setWeight_27 ?_
        refine am_letTi (fun v6 => ?_)
        refine am_istore_n (ls' := [(3, .int v6), (0, .ref (am_B Z + a0)), (1, .int x1), (2, .int x2)]) dX10_setWeight_28 rfl (Nat.le_of_ble_eq_true rfl) rfl ?_
        refine am_aload_n dX10_setWeight_29 rfl 1 rfl ?_
        refine am_getR 10 2 clX10 (Nat.le_of_ble_eq_true rfl) h_a0 iX10_setWeight_10 fX10_setWeight_19 rfl rfl dX10_setWeight_30 (fun h7 => ?_)
        refine am_iload_n dX10_setWeight_33 rfl 2 rfl ?_
        refine am_iload_n dX10_setWeight_34 rfl 3 rfl ?_
        refine am_iast h7 dX10_setWeight_35 ?_
        refine am_letI (fun J8 => ?_)
        refine am_iload_n dX10_setWeight_36 rfl 0 rfl ?_
        exact am_iret dX10_setWeight_37 rfl rfl
      · refine am_bipush (v := -2) dX10_setWeight_19 (by decide) ?_
        exact am_iret dX10_setWeight_21 rfl rfl
  · refine am_iconst (v := -1) dX10_setWeight_7 (by decide) ?_
    exact am_iret dX10_setWeight_8 rfl rfl
abbrev kX10_lightestWeight : am_K := (cX10_lightestWeight, 4, RX10, wsX10_lightestWeight, some .int, { frames := 7, cells := 0, slots := 0, locals := 159 })
theorem hX10_lightestWeight : am_cl yX10_lightestWeight kX10_lightestWeight 0 := ⟨⟨_, rfl⟩, rfl, rfl, by decide +kernel, by decide +kernel, by decide +kernel⟩
theorem iX10_lightestWeight_10 : ∀ w ∈ u_ws RX10 TX10 18, w ∈ wsX10_lightestWeight := by decide +kernel
theorem fX10_lightestWeight_40 : Cond.fieldLink RX10 40 "AmbiguityAnalyzer" "witnessWord" "LAmbiguityAnalyzer$Word;" ∈ wsX10_lightestWeight := by decide +kernel
theorem iX10_lightestWeight_8 : ∀ w ∈ u_ws RX8 TX8 2, w ∈ wsX10_lightestWeight := by decide +kernel
theorem fX10_lightestWeight_158 : Cond.fieldLink RX10 158 "AmbiguityAnalyzer$Word" "length" "I" ∈ wsX10_lightestWeight := by decide +kernel
theorem fX10_lightestWeight_19 : Cond.fieldLink RX10 19 "AmbiguityAnalyzer" "weights" "[I" ∈ wsX10_lightestWeight := by decide +kernel
set_option maxRecDepth 100000 in
set_option maxHeartbeats 4000000 in
theorem vX10_lightestWeight_15 {Z : am_Z} {X : am_X} (R : am_R) (a0 : Nat) (J6 : am_I) (J7 : am_L) (h3 : am_G Z a0 = some (.inl 10)) (ih8 : Int32 → Int32 → Option (Int32 × am_I × am_L)) (hih8 : ∀ (v4 : Int32) (v5 : Int32), am_V Z X kX10_lightestWeight (fun r : Int32 × am_I × am_L => (some (.int r.1), R, r.2.1, r.2.2)) 15 [(0, .ref (am_B Z + a0)), (1, .int v4), (2, .int v5)] [] R J6 J7 (ih8 v4 v5)) (v4 : Int32) (v5 : Int32) : am_V Z X kX10_lightestWeight (fun r : Int32 × am_I × am_L => (some (.int r.1), R, r.2.1, r.2.2)) 15 [(0, .ref (am_B Z + a0)), (1, .int v4), (2, .int v5)] [] R J6 J7 (sX10_lightestWeight_15 R a0 J6 J7 ih8 v4 v5) := by
  unfold sX10_lightestWeight_15
  refine am_iload_n dX10_lightestWeight_15 rfl 2 rfl ?_
  refine am_aload_n dX10_lightestWeight_16 rfl 0 rfl ?_
  refine am_getR 10 7 clX10 (Nat.le_of_ble_eq_true rfl) h3 iX10_lightestWeight_10 fX10_lightestWeight_40 rfl rfl dX10_lightestWeight_17 (fun h9 => ?_)
  refine am_get 8 0 clX8 (Nat.le_of_ble_eq_true rfl) h9 iX10_lightestWeight_8 fX10_lightestWeight_158 rfl dX10_lightestWeight_20 ?_
  refine am_icmp_ge (tgt := 61) dX10_lightestWeight_23 rfl (fun e10 => ?_) (fun e10 => ?_)
  · refine am_iload_n dX10_lightestWeight_61 rfl 1 rfl ?_
    exact am_iret dX10_lightestWeight_62 rfl rfl
  · refine am_aload_n dX10_lightestWeight_26 rfl 0 rfl ?_
    refine am_getR 10 7 clX10 (Nat.le_of_ble_eq_true rfl) h3 iX10_lightestWeight_10 fX10_lightestWeight_40 rfl rfl dX10_lightestWeight_27 (fun h11 => ?_)
    refine am_iload_n dX10_lightestWeight_30 rfl 2 rfl ?_
    refine am_callV [.int v5] (tX8_letterAt R J6 J7 (R a0 7) v5 h11) h11 clX8 gX10_lightestWeight_X8_letterAt hX8_letterAt rfl ⟨Nat.le_of_ble_eq_true rfl, Nat.le_of_ble_eq_true rfl⟩ rfl rfl (Nat.le_of_ble_eq_true rfl) dX10_lightestWeight_31 (fun r12 => ?_)
    show am_V Z X kX10_lightestWeight (fun r : Int32 × am_I × am_L => (some (.int r.1), R, r.2.1, r.2.2)) 34 [(0, .ref (am_B Z + a0)), (1, .int v4), (2, .int v5)] [.int r12] R J6 J7 _
    refine am_istore_n (ls' := [(3, .int r12), (0, .ref (am_B Z + a0)), (1, .int v4), (2, .int v5)]) dX10_lightestWeight_34 rfl (Nat.le_of_ble_eq_true rfl) rfl ?_
    refine am_iload_n dX10_lightestWeight_35 rfl 2 rfl ?_
    refine am_iload_n dX10_lightestWeight_36 rfl 0 rfl ?_
    refine am_callS [.int r12] (tX10_isLetter R J6 J7 r12) gX10_lightestWeight_X10_isLetter hX10_isLetter ⟨Nat.le_of_ble_eq_true rfl, Nat.le_of_ble_eq_true rfl⟩ rfl rfl (Nat.le_of_ble_eq_true rfl) dX10_lightestWeight_37 (fun r13 => ?_)
    show am_V Z X kX10_lightestWeight (fun r : Int32 × am_I × am_L => (some (.int r.1), R, r.2.1, r.2.2)) 40 [(3, .int r12), (0, .ref (am_B Z + a0)), (1, .int v4), (2, .int v5)] [.int r13, .int v4] R J6 J7 _
    refine am_jnV (fun j14 ej14 => ?_)
    have hj14 : ∀ (v15 : Int32), am_V Z X kX10_lightestWeight (fun r : Int32 × am_I × am_L => (some (.int r.1), R, r.2.1, r.2.2)) 53 [(0, .ref (am_B Z + a0)), (2, .int v5)] [.int v15, .int v4] R J6 J7 (j14 v15) := by
      subst ej14
      intro v15
      show am_V Z X kX10_lightestWeight (fun r : Int32 × am_I × am_L => (some (.int r.1), R, r.2.1, r.2.2)) 53 [(0, .ref (am_B Z + a0)), (2, .int v5)] [.int v15, .int v4] R J6 J7 _
      refine am_iadd dX10_lightestWeight_53 ?_
      refine am_letTi (fun v16 => ?_)
      refine am_istore_n (ls' := [(1, .int v16), (0, .ref (am_B Z + a0)), (2, .int v5)]) dX10_lightestWeight_54 rfl (Nat.le_of_ble_eq_true rfl) rfl ?_
      refine am_iinc (j := 2) (ls' := [(2, .int (v5 + (1 : Int32))), (1, .int v16), (0, .ref (am_B Z + a0))]) dX10_lightestWeight_55 rfl rfl (Nat.le_of_ble_eq_true rfl) rfl ?_
      refine am_goto (tgt := 15) dX10_lightestWeight_58 rfl ?_
      refine am_sub (ls' := [(0, .ref (am_B Z + a0)), (1, .int v16), (2, .int (v5 + (1 : Int32)))]) [2, 1, 0] rfl ?_
      exact hih8 v16 (v5 + (1 : Int32))
    refine am_if_eq (tgt := 52) dX10_lightestWeight_40 rfl (fun e17 => ?_) (fun e17 => ?_)
    · refine am_iconst (v := 0) dX10_lightestWeight_52 (by decide) ?_
      refine am_sub (ls' := [(0, .ref (am_B Z + a0)), (2, .int v5)]) [1, 3] rfl ?_
      exact hj14 (0 : Int32)
    · refine am_aload_n dX10_lightestWeight_43 rfl 1 rfl ?_
      refine am_getR 10 2 clX10 (Nat.le_of_ble_eq_true rfl) h3 iX10_lightestWeight_10 fX10_lightestWeight_19 rfl rfl dX10_lightestWeight_44 (fun h18 => ?_)
      refine am_iload_n dX10_lightestWeight_47 rfl 0 rfl ?_
      refine am_iald h18 dX10_lightestWeight_48 ?_
      refine am_goto (tgt := 53) dX10_lightestWeight_49 rfl ?_
      refine am_sub (ls' := [(0, .ref (am_B Z + a0)), (2, .int v5)]) [1, 3] rfl ?_
      exact hj14 (J6 (R a0 2) (Int32.toNatClampNeg r12))
theorem uX10_lightestWeight_15 {Z : am_Z} {X : am_X} (R : am_R) (a0 : Nat) (J6 : am_I) (J7 : am_L) (h3 : am_G Z a0 = some (.inl 10)) : ∀ (n : Nat) (v4 : Int32) (v5 : Int32), am_V Z X kX10_lightestWeight (fun r : Int32 × am_I × am_L => (some (.int r.1), R, r.2.1, r.2.2)) 15 [(0, .ref (am_B Z + a0)), (1, .int v4), (2, .int v5)] [] R J6 J7 (lX10_lightestWeight_15 R a0 J6 J7 n v4 v5) := by
  intro n
  induction n with
  | zero => intro _ _; exact am_none
  | succ n ih => exact fun v4 v5 => vX10_lightestWeight_15 R a0 J6 J7 h3 (lX10_lightestWeight_15 R a0 J6 J7 n) ih v4 v5
set_option maxRecDepth 100000 in
set_option maxHeartbeats 4000000 in
theorem tX10_lightestWeight {Z : am_Z} (R : am_R) (I : am_I) (L : am_L) (a0 : Nat) (h_a0 : am_G Z a0 = some (.inl 10)) : am_M Z yX10_lightestWeight kX10_lightestWeight [.ref (am_B Z + a0)] R I L (pX10_lightestWeight R I L a0) (fun r : Int32 × am_I × am_L => (some (.int r.1), R, r.2.1, r.2.2)) := by
  refine am_entry (ls := [(0, .ref (am_B Z + a0))]) (by decide) hX10_lightestWeight rfl (Nat.le_of_ble_eq_true rfl) rfl (fun X => ?_)
  unfold pX10_lightestWeight
  refine am_aload_n dX10_lightestWeight_0 rfl 0 rfl ?_
  refine am_iconst (v := 3) dX10_lightestWeight_1 (by decide) ?_
  refine am_callV [.int (3 : Int32)] (tX10_findWitness R I L a0 (3 : Int32) h_a0) h_a0 clX10 gX10_lightestWeight_X10_findWitness hX10_findWitness rfl ⟨Nat.le_of_ble_eq_true rfl, Nat.le_of_ble_eq_true rfl⟩ rfl rfl (Nat.le_of_ble_eq_true rfl) dX10_lightestWeight_2 (fun r1 => ?_)
  show am_V Z X kX10_lightestWeight (fun r : Int32 × am_I × am_L => (some (.int r.1), R, r.2.1, r.2.2)) 5 [(0, .ref (am_B Z + a0))] [.int r1.1] R r1.2.1 r1.2.2 _
  refine am_if_ne (tgt := 11) dX10_lightestWeight_5 rfl (fun e2 => ?_) (fun e2 => ?_)
  · refine am_iconst (v := 0) dX10_lightestWeight_11 (by decide) ?_
    refine am_istore_n (ls' := [(1, .int (0 : Int32)), (0, .ref (am_B Z + a0))]) dX10_lightestWeight_12 rfl (Nat.le_of_ble_eq_true rfl) rfl ?_
    refine am_iconst (v := 0) dX10_lightestWeight_13 (by decide) ?_
    refine am_istore_n (ls' := [(2, .int (0 : Int32)), (1, .int (0 : Int32)), (0, .ref (am_B Z + a0))]) dX10_lightestWeight_14 rfl (Nat.le_of_ble_eq_true rfl) rfl ?_
    refine am_sub (ls' := [(0, .ref (am_B Z + a0)), (1, .int (0 : Int32)), (2, .int (0 : Int32))]) [2, 1, 0] rfl ?_
    exact uX10_lightestWeight_15 R a0 r1.2.1 r1.2.2 h_a0 am_fu (0 : Int32) (0 : Int32)
  · refine am_bipush (v := -4) dX10_lightestWeight_8 (by decide) ?_
    exact am_iret dX10_lightestWeight_10 rfl rfl
abbrev kX10_build : am_K := (cX10_build, 4, RX10, wsX10_build, some .int, { frames := 4, cells := 0, slots := 0, locals := 102 })
theorem hX10_build : am_cl yX10_build kX10_build 1 := ⟨⟨_, rfl⟩, rfl, rfl, by decide +kernel, by decide +kernel, by decide +kernel⟩
theorem iX10_build_10 : ∀ w ∈ u_ws RX10 TX10 18, w ∈ wsX10_build := by decide +kernel
theorem fX10_build_56 : Cond.fieldLink RX10 56 "AmbiguityAnalyzer" "steps" "LAmbiguityAnalyzer$Steps;" ∈ wsX10_build := by decide +kernel
theorem fX10_build_12 : Cond.fieldLink RX10 12 "AmbiguityAnalyzer" "automaton" "LAmbiguityAnalyzer$Automaton;" ∈ wsX10_build := by decide +kernel
theorem fX10_build_88 : Cond.fieldLink RX10 88 "AmbiguityAnalyzer" "spareResult" "LAmbiguityAnalyzer$Result;" ∈ wsX10_build := by decide +kernel
theorem fX10_build_84 : Cond.fieldLink RX10 84 "AmbiguityAnalyzer" "result" "LAmbiguityAnalyzer$Result;" ∈ wsX10_build := by decide +kernel
theorem fX10_build_247 : Cond.fieldLink RX10 247 "AmbiguityAnalyzer" "resultBuilt" "Z" ∈ wsX10_build := by decide +kernel
theorem iX10_build_3 : ∀ w ∈ u_ws RX3 TX3 6, w ∈ wsX10_build := by decide +kernel
theorem fX10_build_251 : Cond.fieldLink RX10 251 "AmbiguityAnalyzer$Result" "count" "I" ∈ wsX10_build := by decide +kernel
set_option maxRecDepth 100000 in
set_option maxHeartbeats 4000000 in
theorem tX10_build {Z : am_Z} (R : am_R) (I : am_I) (L : am_L) (a0 : Nat) (x1 : Int32) (h_a0 : am_G Z a0 = some (.inl 10)) : am_M Z yX10_build kX10_build [.ref (am_B Z + a0), .int x1] R I L (pX10_build R I L a0 x1) (fun r : Int32 × am_R × am_I × am_L => (some (.int r.1), r.2.1, r.2.2.1, r.2.2.2)) := by
  refine am_entry (ls := [(0, .ref (am_B Z + a0)), (1, .int x1)]) (by decide) hX10_build rfl (Nat.le_of_ble_eq_true rfl) rfl (fun X => ?_)
  unfold pX10_build
  refine am_iload_n dX10_build_0 rfl 1 rfl ?_
  refine am_jnV (fun j1 ej1 => ?_)
  have hj1 : am_V Z X kX10_build (fun r : Int32 × am_R × am_I × am_L => (some (.int r.1), r.2.1, r.2.2.1, r.2.2.2)) 11 [(0, .ref (am_B Z + a0)), (1, .int x1)] [] R I L j1 := by
    subst ej1
    show am_V Z X kX10_build (fun r : Int32 × am_R × am_I × am_L => (some (.int r.1), r.2.1, r.2.2.1, r.2.2.2)) 11 [(0, .ref (am_B Z + a0)), (1, .int x1)] [] R I L _
    refine am_aload_n dX10_build_11 rfl 0 rfl ?_
    refine am_getR2 10 10 clX10 (Nat.le_of_ble_eq_true rfl) h_a0 iX10_build_10 fX10_build_56 rfl rfl dX10_build_12 (fun hz3 h2 => ?_)
    refine am_aload_n dX10_build_15 rfl 0 rfl ?_
    refine am_getR2 10 0 clX10 (Nat.le_of_ble_eq_true rfl) h_a0 iX10_build_10 fX10_build_12 rfl rfl dX10_build_16 (fun hz5 h4 => ?_)
    refine am_callV [.ref (am_B Z + (R a0 0))] (tX6_load R I L (R a0 10) (R a0 0) h2 h4) h2 clX6 gX10_build_X6_load hX6_load rfl ⟨Nat.le_of_ble_eq_true rfl, Nat.le_of_ble_eq_true rfl⟩ rfl rfl (Nat.le_of_ble_eq_true rfl) dX10_build_19 (fun r6 => ?_)
    show am_V Z X kX10_build (fun r : Int32 × am_R × am_I × am_L => (some (.int r.1), r.2.1, r.2.2.1, r.2.2.2)) 22 [(0, .ref (am_B Z + a0)), (1, .int x1)] [] R r6 L _
    refine am_iload_n dX10_build_22 rfl 1 rfl ?_
    refine am_jnV (fun j7 ej7 => ?_)
    have hj7 : ∀ (v8 : Int32) (J9 : am_I) (J10 : am_L), am_V Z X kX10_build (fun r : Int32 × am_R × am_I × am_L => (some (.int r.1), r.2.1, r.2.2.1, r.2.2.2)) 59 [(0, .ref (am_B Z + a0))] [.int v8] R J9 J10 (j7 v8 J9 J10) := by
      subst ej7
      intro v8 J9 J10
      show am_V Z X kX10_build (fun r : Int32 × am_R × am_I × am_L => (some (.int r.1), r.2.1, r.2.2.1, r.2.2.2)) 59 [(0, .ref (am_B Z + a0))] [.int v8] R J9 J10 _
      refine am_istore_n (ls' := [(2, .int v8), (0, .ref (am_B Z + a0))]) dX10_build_59 rfl (Nat.le_of_ble_eq_true rfl) rfl ?_
      refine am_iload_n dX10_build_60 rfl 0 rfl ?_
      refine am_if_ne (tgt := 67) dX10_build_61 rfl (fun e11 => ?_) (fun e11 => ?_)
      · refine am_aload_n dX10_build_67 rfl 1 rfl ?_
        refine am_getR2 10 15 clX10 (Nat.le_of_ble_eq_true rfl) h_a0 iX10_build_10 fX10_build_84 rfl rfl dX10_build_68 (fun hz13 h12 => ?_)
        refine am_astore_n (ls' := [(3, .ref (am_B Z + (R a0 15))), (2, .int v8), (0, .ref (am_B Z + a0))]) dX10_build_71 rfl (Nat.le_of_ble_eq_true rfl) rfl ?_
        refine am_aload_n dX10_build_72 rfl 2 rfl ?_
        refine am_aload_n dX10_build_73 rfl 2 rfl ?_
        refine am_getR2 10 16 clX10 (Nat.le_of_ble_eq_true rfl) h_a0 iX10_build_10 fX10_build_88 rfl rfl dX10_build_74 (fun hz15 h14 => ?_)
        refine am_putR 10 15 clX10 (Nat.le_of_ble_eq_true rfl) h_a0 iX10_build_10 fX10_build_84 rfl rfl rfl hz15 h14 dX10_build_77 ?_
        refine am_letR (fun J16 => ?_)
        refine am_aload_n dX10_build_80 rfl 2 rfl ?_
        refine am_aload_n dX10_build_81 rfl 0 rfl ?_
        refine am_putR 10 16 clX10 (Nat.le_of_ble_eq_true rfl) h_a0 iX10_build_10 fX10_build_88 rfl rfl rfl hz13 h12 dX10_build_82 ?_
        refine am_letR (fun J17 => ?_)
        refine am_aload_n dX10_build_85 rfl 2 rfl ?_
        refine am_iconst (v := 1) dX10_build_86 (by decide) ?_
        refine am_putZ 10 17 clX10 (Nat.le_of_ble_eq_true rfl) h_a0 iX10_build_10 fX10_build_247 rfl rfl (by decide) dX10_build_87 ?_
        refine am_letI (fun J18 => ?_)
        refine am_aload_n dX10_build_90 rfl 2 rfl ?_
        refine am_getR2 10 15 clX10 (Nat.le_of_ble_eq_true rfl) h_a0 iX10_build_10 fX10_build_84 rfl rfl dX10_build_91 (fun hz20 h19 => ?_)
        refine am_get 3 0 clX3 (Nat.le_of_ble_eq_true rfl) h19 iX10_build_3 fX10_build_251 rfl dX10_build_94 ?_
        exact am_iret dX10_build_97 rfl rfl
      · refine am_bipush (v := -5) dX10_build_64 (by decide) ?_
        exact am_iret dX10_build_66 rfl rfl
    refine am_if_ne (tgt := 44) dX10_build_23 rfl (fun e21 => ?_) (fun e21 => ?_)
    · refine am_aload_n dX10_build_44 rfl 0 rfl ?_
      refine am_getR2 10 16 clX10 (Nat.le_of_ble_eq_true rfl) h_a0 iX10_build_10 fX10_build_88 rfl rfl dX10_build_45 (fun hz23 h22 => ?_)
      refine am_aload_n dX10_build_48 rfl 0 rfl ?_
      refine am_getR2 10 0 clX10 (Nat.le_of_ble_eq_true rfl) h_a0 iX10_build_10 fX10_build_12 rfl rfl dX10_build_49 (fun hz25 h24 => ?_)
      refine am_aload_n dX10_build_52 rfl 0 rfl ?_
      refine am_getR2 10 10 clX10 (Nat.le_of_ble_eq_true rfl) h_a0 iX10_build_10 fX10_build_56 rfl rfl dX10_build_53 (fun hz27 h26 => ?_)
      refine am_callV [.ref (am_B Z + (R a0 0)), .ref (am_B Z + (R a0 10))] (tX3_makeLeastPaths R r6 L (R a0 16) (R a0 0) (R a0 10) h22 h24 h26) h22 clX3 gX10_build_X3_makeLeastPaths hX3_makeLeastPaths rfl ⟨Nat.le_of_ble_eq_true rfl, Nat.le_of_ble_eq_true rfl⟩ rfl rfl (Nat.le_of_ble_eq_true rfl) dX10_build_56 (fun r28 => ?_)
      show am_V Z X kX10_build (fun r : Int32 × am_R × am_I × am_L => (some (.int r.1), r.2.1, r.2.2.1, r.2.2.2)) 59 [(0, .ref (am_B Z + a0)), (1, .int x1)] [.int r28.1] R r28.2.1 r28.2.2 _
      refine am_sub (ls' := [(0, .ref (am_B Z + a0))]) [0] rfl ?_
      exact hj7 r28.1 r28.2.1 r28.2.2
    · refine am_aload_n dX10_build_26 rfl 0 rfl ?_
      refine am_getR2 10 16 clX10 (Nat.le_of_ble_eq_true rfl) h_a0 iX10_build_10 fX10_build_88 rfl rfl dX10_build_27 (fun hz30 h29 => ?_)
      refine am_aload_n dX10_build_30 rfl 0 rfl ?_
      refine am_getR2 10 0 clX10 (Nat.le_of_ble_eq_true rfl) h_a0 iX10_build_10 fX10_build_12 rfl rfl dX10_build_31 (fun hz32 h31 => ?_)
      refine am_aload_n dX10_build_34 rfl 0 rfl ?_
      refine am_getR2 10 10 clX10 (Nat.le_of_ble_eq_true rfl) h_a0 iX10_build_10 fX10_build_56 rfl rfl dX10_build_35 (fun hz34 h33 => ?_)
      refine am_callV [.ref (am_B Z + (R a0 0)), .ref (am_B Z + (R a0 10))] (tX3_makeSubsets R r6 L (R a0 16) (R a0 0) (R a0 10) h29 h31 h33) h29 clX3 gX10_build_X3_makeSubsets hX3_makeSubsets rfl ⟨Nat.le_of_ble_eq_true rfl, Nat.le_of_ble_eq_true rfl⟩ rfl rfl (Nat.le_of_ble_eq_true rfl) dX10_build_38 (fun r35 => ?_)
      show am_V Z X kX10_build (fun r : Int32 × am_R × am_I × am_L => (some (.int r.1), r.2.1, r.2.2.1, r.2.2.2)) 41 [(0, .ref (am_B Z + a0)), (1, .int x1)] [.int r35.1] R r35.2.1 r35.2.2 _
      refine am_goto (tgt := 59) dX10_build_41 rfl ?_
      refine am_sub (ls' := [(0, .ref (am_B Z + a0))]) [0] rfl ?_
      exact hj7 r35.1 r35.2.1 r35.2.2
  refine am_if_eq (tgt := 11) dX10_build_1 rfl (fun e36 => ?_) (fun e36 => ?_)
  · exact hj1
  · refine am_iload_n dX10_build_4 rfl 1 rfl ?_
    refine am_iconst (v := 1) dX10_build_5 (by decide) ?_
    refine am_icmp_eq (tgt := 11) dX10_build_6 rfl (fun e37 => ?_) (fun e37 => ?_)
    · exact hj1
    · refine am_iconst (v := -1) dX10_build_9 (by decide) ?_
      exact am_iret dX10_build_10 rfl rfl
abbrev kX10_resultStateCount : am_K := (cX10_resultStateCount, 1, RX10, wsX10_resultStateCount, some .int, { frames := 0, cells := 0, slots := 0, locals := 0 })
theorem hX10_resultStateCount : am_cl yX10_resultStateCount kX10_resultStateCount 0 := ⟨⟨_, rfl⟩, rfl, rfl, by decide +kernel, by decide +kernel, by decide +kernel⟩
theorem iX10_resultStateCount_10 : ∀ w ∈ u_ws RX10 TX10 18, w ∈ wsX10_resultStateCount := by decide +kernel
theorem fX10_resultStateCount_247 : Cond.fieldLink RX10 247 "AmbiguityAnalyzer" "resultBuilt" "Z" ∈ wsX10_resultStateCount := by decide +kernel
theorem fX10_resultStateCount_84 : Cond.fieldLink RX10 84 "AmbiguityAnalyzer" "result" "LAmbiguityAnalyzer$Result;" ∈ wsX10_resultStateCount := by decide +kernel
theorem iX10_resultStateCount_3 : ∀ w ∈ u_ws RX3 TX3 6, w ∈ wsX10_resultStateCount := by decide +kernel
theorem fX10_resultStateCount_251 : Cond.fieldLink RX10 251 "AmbiguityAnalyzer$Result" "count" "I" ∈ wsX10_resultStateCount := by decide +kernel
set_option maxRecDepth 100000 in
set_option maxHeartbeats 4000000 in
theorem tX10_resultStateCount {Z : am_Z} (R : am_R) (I : am_I) (L : am_L) (a0 : Nat) (h_a0 : am_G Z a0 = some (.inl 10)) : am_M Z yX10_resultStateCount kX10_resultStateCount [.ref (am_B Z + a0)] R I L (pX10_resultStateCount R I a0) (fun r : Int32 => (some (.int r), R, I, L)) := by
  refine am_entry (ls := [(0, .ref (am_B Z + a0))]) (by decide) hX10_resultStateCount rfl (Nat.le_of_ble_eq_true rfl) rfl (fun X => ?_)
  unfold pX10_resultStateCount
  refine am_aload_n dX10_resultStateCount_0 rfl 0 rfl ?_
  refine am_get 10 17 clX10 (Nat.le_of_ble_eq_true rfl) h_a0 iX10_resultStateCount_10 fX10_resultStateCount_247 rfl dX10_resultStateCount_1 ?_
  refine am_if_eq (tgt := 17) dX10_resultStateCount_4 rfl (fun e1 => ?_) (fun e1 => ?_)
  · refine am_bipush (v := -4) dX10_resultStateCount_17 (by decide) ?_
    exact am_iret dX10_resultStateCount_19 rfl rfl
  · refine am_aload_n dX10_resultStateCount_7 rfl 0 rfl ?_
    refine am_getR 10 15 clX10 (Nat.le_of_ble_eq_true rfl) h_a0 iX10_resultStateCount_10 fX10_resultStateCount_84 rfl rfl dX10_resultStateCount_8 (fun h2 => ?_)
    refine am_get 3 0 clX3 (Nat.le_of_ble_eq_true rfl) h2 iX10_resultStateCount_3 fX10_resultStateCount_251 rfl dX10_resultStateCount_11 ?_
    refine am_goto (tgt := 19) dX10_resultStateCount_14 rfl ?_
    exact am_iret dX10_resultStateCount_19 rfl rfl
abbrev kX10_resultInitials : am_K := (cX10_resultInitials, 1, RX10, wsX10_resultInitials, some .long, { frames := 0, cells := 0, slots := 0, locals := 0 })
theorem hX10_resultInitials : am_cl yX10_resultInitials kX10_resultInitials 0 := ⟨⟨_, rfl⟩, rfl, rfl, by decide +kernel, by decide +kernel, by decide +kernel⟩
theorem iX10_resultInitials_10 : ∀ w ∈ u_ws RX10 TX10 18, w ∈ wsX10_resultInitials := by decide +kernel
theorem fX10_resultInitials_247 : Cond.fieldLink RX10 247 "AmbiguityAnalyzer" "resultBuilt" "Z" ∈ wsX10_resultInitials := by decide +kernel
theorem fX10_resultInitials_84 : Cond.fieldLink RX10 84 "AmbiguityAnalyzer" "result" "LAmbiguityAnalyzer$Result;" ∈ wsX10_resultInitials := by decide +kernel
theorem iX10_resultInitials_3 : ∀ w ∈ u_ws RX3 TX3 6, w ∈ wsX10_resultInitials := by decide +kernel
theorem fX10_resultInitials_254 : Cond.fieldLink RX10 254 "AmbiguityAnalyzer$Result" "initials" "J" ∈ wsX10_resultInitials := by decide +kernel
set_option maxRecDepth 100000 in
set_option maxHeartbeats 4000000 in
theorem tX10_resultInitials {Z : am_Z} (R : am_R) (I : am_I) (L : am_L) (a0 : Nat) (h_a0 : am_G Z a0 = some (.inl 10)) : am_M Z yX10_resultInitials kX10_resultInitials [.ref (am_B Z + a0)] R I L (pX10_resultInitials R I L a0) (fun r : Int64 => (some (.long r), R, I, L)) := by
  refine am_entry (ls := [(0, .ref (am_B Z + a0))]) (by decide) hX10_resultInitials rfl (Nat.le_of_ble_eq_true rfl) rfl (fun X => ?_)
  unfold pX10_resultInitials
  refine am_aload_n dX10_resultInitials_0 rfl 0 rfl ?_
  refine am_get 10 17 clX10 (Nat.le_of_ble_eq_true rfl) h_a0 iX10_resultInitials_10 fX10_resultInitials_247 rfl dX10_resultInitials_1 ?_
  refine am_if_eq (tgt := 17) dX10_resultInitials_4 rfl (fun e1 => ?_) (fun e1 => ?_)
  · refine am_lconst (v := 0) dX10_resultInitials_17 (by decide) ?_
    exact am_lret dX10_resultInitials_18 rfl rfl
  · refine am_aload_n dX10_resultInitials_7 rfl 0 rfl ?_
    refine am_getR 10 15 clX10 (Nat.le_of_ble_eq_true rfl) h_a0 iX10_resultInitials_10 fX10_resultInitials_84 rfl rfl dX10_resultInitials_8 (fun h2 => ?_)
    refine am_get 3 1 clX3 (Nat.le_of_ble_eq_true rfl) h2 iX10_resultInitials_3 fX10_resultInitials_254 rfl dX10_resultInitials_11 ?_
    refine am_goto (tgt := 18) dX10_resultInitials_14 rfl ?_
    exact am_lret dX10_resultInitials_18 rfl rfl
abbrev kX10_resultFinals : am_K := (cX10_resultFinals, 1, RX10, wsX10_resultFinals, some .long, { frames := 0, cells := 0, slots := 0, locals := 0 })
theorem hX10_resultFinals : am_cl yX10_resultFinals kX10_resultFinals 0 := ⟨⟨_, rfl⟩, rfl, rfl, by decide +kernel, by decide +kernel, by decide +kernel⟩
theorem iX10_resultFinals_10 : ∀ w ∈ u_ws RX10 TX10 18, w ∈ wsX10_resultFinals := by decide +kernel
theorem fX10_resultFinals_247 : Cond.fieldLink RX10 247 "AmbiguityAnalyzer" "resultBuilt" "Z" ∈ wsX10_resultFinals := by decide +kernel
theorem fX10_resultFinals_84 : Cond.fieldLink RX10 84 "AmbiguityAnalyzer" "result" "LAmbiguityAnalyzer$Result;" ∈ wsX10_resultFinals := by decide +kernel
theorem iX10_resultFinals_3 : ∀ w ∈ u_ws RX3 TX3 6, w ∈ wsX10_resultFinals := by decide +kernel
theorem fX10_resultFinals_257 : Cond.fieldLink RX10 257 "AmbiguityAnalyzer$Result" "finals" "J" ∈ wsX10_resultFinals := by decide +kernel
set_option maxRecDepth 100000 in
set_option maxHeartbeats 4000000 in
theorem tX10_resultFinals {Z : am_Z} (R : am_R) (I : am_I) (L : am_L) (a0 : Nat) (h_a0 : am_G Z a0 = some (.inl 10)) : am_M Z yX10_resultFinals kX10_resultFinals [.ref (am_B Z + a0)] R I L (pX10_resultFinals R I L a0) (fun r : Int64 => (some (.long r), R, I, L)) := by
  refine am_entry (ls := [(0, .ref (am_B Z + a0))]) (by decide) hX10_resultFinals rfl (Nat.le_of_ble_eq_true rfl) rfl (fun X => ?_)
  unfold pX10_resultFinals
  refine am_aload_n dX10_resultFinals_0 rfl 0 rfl ?_
  refine am_get 10 17 clX10 (Nat.le_of_ble_eq_true rfl) h_a0 iX10_resultFinals_10 fX10_resultFinals_247 rfl dX10_resultFinals_1 ?_
  refine am_if_eq (tgt := 17) dX10_resultFinals_4 rfl (fun e1 => ?_) (fun e1 => ?_)
  · refine am_lconst (v := 0) dX10_resultFinals_17 (by decide) ?_
    exact am_lret dX10_resultFinals_18 rfl rfl
  · refine am_aload_n dX10_resultFinals_7 rfl 0 rfl ?_
    refine am_getR 10 15 clX10 (Nat.le_of_ble_eq_true rfl) h_a0 iX10_resultFinals_10 fX10_resultFinals_84 rfl rfl dX10_resultFinals_8 (fun h2 => ?_)
    refine am_get 3 2 clX3 (Nat.le_of_ble_eq_true rfl) h2 iX10_resultFinals_3 fX10_resultFinals_257 rfl dX10_resultFinals_11 ?_
    refine am_goto (tgt := 18) dX10_resultFinals_14 rfl ?_
    exact am_lret dX10_resultFinals_18 rfl rfl
abbrev kX10_resultSuccessors : am_K := (cX10_resultSuccessors, 3, RX10, wsX10_resultSuccessors, some .long, { frames := 2, cells := 0, slots := 0, locals := 43 })
theorem hX10_resultSuccessors : am_cl yX10_resultSuccessors kX10_resultSuccessors 2 := ⟨⟨_, rfl⟩, rfl, rfl, by decide +kernel, by decide +kernel, by decide +kernel⟩
theorem iX10_resultSuccessors_10 : ∀ w ∈ u_ws RX10 TX10 18, w ∈ wsX10_resultSuccessors := by decide +kernel
theorem fX10_resultSuccessors_247 : Cond.fieldLink RX10 247 "AmbiguityAnalyzer" "resultBuilt" "Z" ∈ wsX10_resultSuccessors := by decide +kernel
theorem fX10_resultSuccessors_84 : Cond.fieldLink RX10 84 "AmbiguityAnalyzer" "result" "LAmbiguityAnalyzer$Result;" ∈ wsX10_resultSuccessors := by decide +kernel
set_option maxRecDepth 100000 in
set_option maxHeartbeats 4000000 in
theorem tX10_resultSuccessors {Z : am_Z} (R : am_R) (I : am_I) (L : am_L) (a0 : Nat) (x1 : Int32) (x2 : Int32) (h_a0 : am_G Z a0 = some (.inl 10)) : am_M Z yX10_resultSuccessors kX10_resultSuccessors [.ref (am_B Z + a0), .int x1, .int x2] R I L (pX10_resultSuccessors R I L a0 x1 x2) (fun r : Int64 => (some (.long r), R, I, L)) := by
  refine am_entry (ls := [(0, .ref (am_B Z + a0)), (1, .int x1), (2, .int x2)]) (by decide) hX10_resultSuccessors rfl (Nat.le_of_ble_eq_true rfl) rfl (fun X => ?_)
  unfold pX10_resultSuccessors
  refine am_aload_n dX10_resultSuccessors_0 rfl 0 rfl ?_
  refine am_get 10 17 clX10 (Nat.le_of_ble_eq_true rfl) h_a0 iX10_resultSuccessors_10 fX10_resultSuccessors_247 rfl dX10_resultSuccessors_1 ?_
  refine am_if_eq (tgt := 19) dX10_resultSuccessors_4 rfl (fun e1 => ?_) (fun e1 => ?_)
  · refine am_lconst (v := 0) dX10_resultSuccessors_19 (by decide) ?_
    exact am_lret dX10_resultSuccessors_20 rfl rfl
  · refine am_aload_n dX10_resultSuccessors_7 rfl 0 rfl ?_
    refine am_getR 10 15 clX10 (Nat.le_of_ble_eq_true rfl) h_a0 iX10_resultSuccessors_10 fX10_resultSuccessors_84 rfl rfl dX10_resultSuccessors_8 (fun h2 => ?_)
    refine am_iload_n dX10_resultSuccessors_11 rfl 1 rfl ?_
    refine am_iload_n dX10_resultSuccessors_12 rfl 2 rfl ?_
    refine am_callV [.int x1, .int x2] (tX3_targetsOf R I L (R a0 15) x1 x2 h2) h2 clX3 gX10_resultSuccessors_X3_targetsOf hX3_targetsOf rfl ⟨Nat.le_of_ble_eq_true rfl, Nat.le_of_ble_eq_true rfl⟩ rfl rfl (Nat.le_of_ble_eq_true rfl) dX10_resultSuccessors_13 (fun r3 => ?_)
    show am_V Z X kX10_resultSuccessors (fun r : Int64 => (some (.long r), R, I, L)) 16 [(0, .ref (am_B Z + a0)), (1, .int x1), (2, .int x2)] [.long r3] R I L _
    refine am_goto (tgt := 20) dX10_resultSuccessors_16 rfl ?_
    exact am_lret dX10_resultSuccessors_20 rfl rfl
abbrev kX10_resultAmbiguity : am_K := (cX10_resultAmbiguity, 1, RX10, wsX10_resultAmbiguity, some .long, { frames := 3, cells := 0, slots := 0, locals := 70 })
theorem hX10_resultAmbiguity : am_cl yX10_resultAmbiguity kX10_resultAmbiguity 0 := ⟨⟨_, rfl⟩, rfl, rfl, by decide +kernel, by decide +kernel, by decide +kernel⟩
theorem iX10_resultAmbiguity_10 : ∀ w ∈ u_ws RX10 TX10 18, w ∈ wsX10_resultAmbiguity := by decide +kernel
theorem fX10_resultAmbiguity_247 : Cond.fieldLink RX10 247 "AmbiguityAnalyzer" "resultBuilt" "Z" ∈ wsX10_resultAmbiguity := by decide +kernel
theorem fX10_resultAmbiguity_84 : Cond.fieldLink RX10 84 "AmbiguityAnalyzer" "result" "LAmbiguityAnalyzer$Result;" ∈ wsX10_resultAmbiguity := by decide +kernel
theorem fX10_resultAmbiguity_36 : Cond.fieldLink RX10 36 "AmbiguityAnalyzer" "word" "LAmbiguityAnalyzer$Word;" ∈ wsX10_resultAmbiguity := by decide +kernel
set_option maxRecDepth 100000 in
set_option maxHeartbeats 4000000 in
theorem tX10_resultAmbiguity {Z : am_Z} (R : am_R) (I : am_I) (L : am_L) (a0 : Nat) (h_a0 : am_G Z a0 = some (.inl 10)) : am_M Z yX10_resultAmbiguity kX10_resultAmbiguity [.ref (am_B Z + a0)] R I L (pX10_resultAmbiguity R I L a0) (fun r : Int64 => (some (.long r), R, I, L)) := by
  refine am_entry (ls := [(0, .ref (am_B Z + a0))]) (by decide) hX10_resultAmbiguity rfl (Nat.le_of_ble_eq_true rfl) rfl (fun X => ?_)
  unfold pX10_resultAmbiguity
  refine am_aload_n dX10_resultAmbiguity_0 rfl 0 rfl ?_
  refine am_get 10 17 clX10 (Nat.le_of_ble_eq_true rfl) h_a0 iX10_resultAmbiguity_10 fX10_resultAmbiguity_247 rfl dX10_resultAmbiguity_1 ?_
  refine am_if_ne (tgt := 11) dX10_resultAmbiguity_4 rfl (fun e1 => ?_) (fun e1 => ?_)
  · refine am_aload_n dX10_resultAmbiguity_11 rfl 0 rfl ?_
    refine am_getR 10 15 clX10 (Nat.le_of_ble_eq_true rfl) h_a0 iX10_resultAmbiguity_10 fX10_resultAmbiguity_84 rfl rfl dX10_resultAmbiguity_12 (fun h2 => ?_)
    refine am_aload_n dX10_resultAmbiguity_15 rfl 0 rfl ?_
    refine am_getR 10 6 clX10 (Nat.le_of_ble_eq_true rfl) h_a0 iX10_resultAmbiguity_10 fX10_resultAmbiguity_36 rfl rfl dX10_resultAmbiguity_16 (fun h3 => ?_)
    refine am_callV [.ref (am_B Z + (R a0 6))] (tX3_accepts R I L (R a0 15) (R a0 6) h2 h3) h2 clX3 gX10_resultAmbiguity_X3_accepts hX3_accepts rfl ⟨Nat.le_of_ble_eq_true rfl, Nat.le_of_ble_eq_true rfl⟩ rfl rfl (Nat.le_of_ble_eq_true rfl) dX10_resultAmbiguity_19 (fun r4 => ?_)
    show am_V Z X kX10_resultAmbiguity (fun r : Int64 => (some (.long r), R, I, L)) 22 [(0, .ref (am_B Z + a0))] [.int r4] R I L _
    refine am_if_eq (tgt := 29) dX10_resultAmbiguity_22 rfl (fun e5 => ?_) (fun e5 => ?_)
    · refine am_lconst (v := 0) dX10_resultAmbiguity_29 (by decide) ?_
      exact am_lret dX10_resultAmbiguity_30 rfl rfl
    · refine am_lconst (v := 1) dX10_resultAmbiguity_25 (by decide) ?_
      refine am_goto (tgt := 30) dX10_resultAmbiguity_26 rfl ?_
      exact am_lret dX10_resultAmbiguity_30 rfl rfl
  · refine am_ldc2 (v := -4) dX10_resultAmbiguity_7 (by decide +kernel) ?_
    exact am_lret dX10_resultAmbiguity_10 rfl rfl
abbrev kX10_keepWord : am_K := (cX10_keepWord, 3, RX10, wsX10_keepWord, some .int, { frames := 3, cells := 0, slots := 0, locals := 64 })
theorem hX10_keepWord : am_cl yX10_keepWord kX10_keepWord 1 := ⟨⟨_, rfl⟩, rfl, rfl, by decide +kernel, by decide +kernel, by decide +kernel⟩
theorem iX10_keepWord_10 : ∀ w ∈ u_ws RX10 TX10 18, w ∈ wsX10_keepWord := by decide +kernel
theorem fX10_keepWord_36 : Cond.fieldLink RX10 36 "AmbiguityAnalyzer" "word" "LAmbiguityAnalyzer$Word;" ∈ wsX10_keepWord := by decide +kernel
theorem iX10_keepWord_8 : ∀ w ∈ u_ws RX8 TX8 2, w ∈ wsX10_keepWord := by decide +kernel
theorem fX10_keepWord_158 : Cond.fieldLink RX10 158 "AmbiguityAnalyzer$Word" "length" "I" ∈ wsX10_keepWord := by decide +kernel
set_option maxRecDepth 100000 in
set_option maxHeartbeats 4000000 in
theorem tX10_keepWord {Z : am_Z} (R : am_R) (I : am_I) (L : am_L) (a0 : Nat) (x1 : Int32) (h_a0 : am_G Z a0 = some (.inl 10)) : am_M Z yX10_keepWord kX10_keepWord [.ref (am_B Z + a0), .int x1] R I L (pX10_keepWord R I L a0 x1) (fun r : Int32 × am_I × am_L => (some (.int r.1), R, r.2.1, r.2.2)) := by
  refine am_entry (ls := [(0, .ref (am_B Z + a0)), (1, .int x1)]) (by decide) hX10_keepWord rfl (Nat.le_of_ble_eq_true rfl) rfl (fun X => ?_)
  unfold pX10_keepWord
  refine am_aload_n dX10_keepWord_0 rfl 0 rfl ?_
  refine am_iload_n dX10_keepWord_1 rfl 1 rfl ?_
  refine am_callVh [.int x1] (tX10_shelfAt R I L a0 x1 h_a0) h_a0 clX10 gX10_keepWord_X10_shelfAt hX10_shelfAt rfl ⟨Nat.le_of_ble_eq_true rfl, Nat.le_of_ble_eq_true rfl⟩ rfl rfl (Nat.le_of_ble_eq_true rfl) dX10_keepWord_2 (fun r1 hT h3 => ?_)
  have h2 := am_shelfAt hT h_a0 h3
  show am_V Z X kX10_keepWord (fun r : Int32 × am_I × am_L => (some (.int r.1), R, r.2.1, r.2.2)) 5 [(0, .ref (am_B Z + a0)), (1, .int x1)] [am_rv (am_B Z) r1] R I L _
  refine am_astore_nR (ls' := [(2, am_rv (am_B Z) r1), (0, .ref (am_B Z + a0)), (1, .int x1)]) dX10_keepWord_5 rfl (Nat.le_of_ble_eq_true rfl) rfl ?_
  refine am_aload_nR dX10_keepWord_6 rfl 0 rfl ?_
  refine am_ifnn (tgt := 12) dX10_keepWord_7 rfl (fun e4 => ?_) (fun e4 => ?_)
  · refine am_iconst (v := -1) dX10_keepWord_10 (by decide) ?_
    exact am_iret dX10_keepWord_11 rfl rfl
  · refine am_aload_nR dX10_keepWord_12 rfl 0 rfl ?_
    refine am_top (am_rv_pos e4) ?_
    refine am_aload_n dX10_keepWord_13 rfl 1 rfl ?_
    refine am_getR 10 6 clX10 (Nat.le_of_ble_eq_true rfl) h_a0 iX10_keepWord_10 fX10_keepWord_36 rfl rfl dX10_keepWord_14 (fun h5 => ?_)
    refine am_callV [.ref (am_B Z + (R a0 6))] (tX5_putWord R I L r1 (R a0 6) (h2 e4) h5) (h2 e4) clX5 gX10_keepWord_X5_putWord hX5_putWord rfl ⟨Nat.le_of_ble_eq_true rfl, Nat.le_of_ble_eq_true rfl⟩ rfl rfl (Nat.le_of_ble_eq_true rfl) dX10_keepWord_17 (fun r6 => ?_)
    show am_V Z X kX10_keepWord (fun r : Int32 × am_I × am_L => (some (.int r.1), R, r.2.1, r.2.2)) 20 [(2, am_rv (am_B Z) r1), (0, .ref (am_B Z + a0)), (1, .int x1)] [] R r6.1 r6.2 _
    refine am_aload_n dX10_keepWord_20 rfl 1 rfl ?_
    refine am_getR 10 6 clX10 (Nat.le_of_ble_eq_true rfl) h_a0 iX10_keepWord_10 fX10_keepWord_36 rfl rfl dX10_keepWord_21 (fun h7 => ?_)
    refine am_get 8 0 clX8 (Nat.le_of_ble_eq_true rfl) h7 iX10_keepWord_8 fX10_keepWord_158 rfl dX10_keepWord_24 ?_
    exact am_iret dX10_keepWord_27 rfl rfl
abbrev kX10_keepCounts : am_K := (cX10_keepCounts, 4, RX10, wsX10_keepCounts, some .int, { frames := 4, cells := 0, slots := 0, locals := 94 })
theorem hX10_keepCounts : am_cl yX10_keepCounts kX10_keepCounts 2 := ⟨⟨_, rfl⟩, rfl, rfl, by decide +kernel, by decide +kernel, by decide +kernel⟩
theorem iX10_keepCounts_10 : ∀ w ∈ u_ws RX10 TX10 18, w ∈ wsX10_keepCounts := by decide +kernel
theorem fX10_keepCounts_63 : Cond.fieldLink RX10 63 "AmbiguityAnalyzer" "counter" "LAmbiguityAnalyzer$Counter;" ∈ wsX10_keepCounts := by decide +kernel
theorem fX10_keepCounts_12 : Cond.fieldLink RX10 12 "AmbiguityAnalyzer" "automaton" "LAmbiguityAnalyzer$Automaton;" ∈ wsX10_keepCounts := by decide +kernel
theorem fX10_keepCounts_49 : Cond.fieldLink RX10 49 "AmbiguityAnalyzer" "freshCounts" "[J" ∈ wsX10_keepCounts := by decide +kernel
set_option maxRecDepth 100000 in
set_option maxHeartbeats 4000000 in
theorem tX10_keepCounts {Z : am_Z} (R : am_R) (I : am_I) (L : am_L) (a0 : Nat) (x1 : Int32) (x2 : Int32) (h_a0 : am_G Z a0 = some (.inl 10)) : am_M Z yX10_keepCounts kX10_keepCounts [.ref (am_B Z + a0), .int x1, .int x2] R I L (pX10_keepCounts R I L a0 x1 x2) (fun r : Int32 × am_I × am_L => (some (.int r.1), R, r.2.1, r.2.2)) := by
  refine am_entry (ls := [(0, .ref (am_B Z + a0)), (1, .int x1), (2, .int x2)]) (by decide) hX10_keepCounts rfl (Nat.le_of_ble_eq_true rfl) rfl (fun X => ?_)
  unfold pX10_keepCounts
  refine am_aload_n dX10_keepCounts_0 rfl 0 rfl ?_
  refine am_iload_n dX10_keepCounts_1 rfl 1 rfl ?_
  refine am_callVh [.int x1] (tX10_shelfAt R I L a0 x1 h_a0) h_a0 clX10 gX10_keepCounts_X10_shelfAt hX10_shelfAt rfl ⟨Nat.le_of_ble_eq_true rfl, Nat.le_of_ble_eq_true rfl⟩ rfl rfl (Nat.le_of_ble_eq_true rfl) dX10_keepCounts_2 (fun r1 hT h3 => ?_)
  have h2 := am_shelfAt hT h_a0 h3
  show am_V Z X kX10_keepCounts (fun r : Int32 × am_I × am_L => (some (.int r.1), R, r.2.1, r.2.2)) 5 [(0, .ref (am_B Z + a0)), (1, .int x1), (2, .int x2)] [am_rv (am_B Z) r1] R I L _
  refine am_astore_nR (ls' := [(3, am_rv (am_B Z) r1), (0, .ref (am_B Z + a0)), (1, .int x1), (2, .int x2)]) dX10_keepCounts_5 rfl (Nat.le_of_ble_eq_true rfl) rfl ?_
  refine am_aload_nR dX10_keepCounts_6 rfl 0 rfl ?_
  refine am_ifnn (tgt := 12) dX10_keepCounts_7 rfl (fun e4 => ?_) (fun e4 => ?_)
  · refine am_iconst (v := -1) dX10_keepCounts_10 (by decide) ?_
    exact am_iret dX10_keepCounts_11 rfl rfl
  · refine am_iload_n dX10_keepCounts_12 rfl 3 rfl ?_
    refine am_if_lt (tgt := 22) dX10_keepCounts_13 rfl (fun e5 => ?_) (fun e5 => ?_)
    · refine am_bipush (v := -2) dX10_keepCounts_22 (by decide) ?_
      exact am_iret dX10_keepCounts_24 rfl rfl
    · refine am_iload_n dX10_keepCounts_16 rfl 3 rfl ?_
      refine am_bipush (v := 30) dX10_keepCounts_17 (by decide) ?_
      refine am_icmp_le (tgt := 25) dX10_keepCounts_19 rfl (fun e6 => ?_) (fun e6 => ?_)
      · refine am_aload_n dX10_keepCounts_25 rfl 1 rfl ?_
        refine am_getR 10 11 clX10 (Nat.le_of_ble_eq_true rfl) h_a0 iX10_keepCounts_10 fX10_keepCounts_63 rfl rfl dX10_keepCounts_26 (fun h7 => ?_)
        refine am_aload_n dX10_keepCounts_29 rfl 1 rfl ?_
        refine am_getR 10 0 clX10 (Nat.le_of_ble_eq_true rfl) h_a0 iX10_keepCounts_10 fX10_keepCounts_12 rfl rfl dX10_keepCounts_30 (fun h8 => ?_)
        refine am_aload_n dX10_keepCounts_33 rfl 1 rfl ?_
        refine am_getR 10 9 clX10 (Nat.le_of_ble_eq_true rfl) h_a0 iX10_keepCounts_10 fX10_keepCounts_49 rfl rfl dX10_keepCounts_34 (fun h9 => ?_)
        refine am_iload_n dX10_keepCounts_37 rfl 3 rfl ?_
        refine am_iconst (v := 1) dX10_keepCounts_38 (by decide) ?_
        refine am_iadd dX10_keepCounts_39 ?_
        refine am_callV [.ref (am_B Z + (R a0 0)), .ref (am_B Z + (R a0 9)), .int (x2 + (1 : Int32))] (tX1_fillCounts R I L (R a0 11) (R a0 0) (R a0 9) (x2 + (1 : Int32)) h7 h8 h9) h7 clX1 gX10_keepCounts_X1_fillCounts hX1_fillCounts rfl ⟨Nat.le_of_ble_eq_true rfl, Nat.le_of_ble_eq_true rfl⟩ rfl rfl (Nat.le_of_ble_eq_true rfl) dX10_keepCounts_40 (fun r10 => ?_)
        show am_V Z X kX10_keepCounts (fun r : Int32 × am_I × am_L => (some (.int r.1), R, r.2.1, r.2.2)) 43 [(3, am_rv (am_B Z) r1), (0, .ref (am_B Z + a0)), (1, .int x1), (2, .int x2)] [.int r10.1] R I r10.2 _
        refine am_if_ne (tgt := 49) dX10_keepCounts_43 rfl (fun e11 => ?_) (fun e11 => ?_)
        · refine am_aload_nR dX10_keepCounts_49 rfl 0 rfl ?_
          refine am_top (am_rv_pos e4) ?_
          refine am_aload_n dX10_keepCounts_50 rfl 1 rfl ?_
          refine am_getR 10 9 clX10 (Nat.le_of_ble_eq_true rfl) h_a0 iX10_keepCounts_10 fX10_keepCounts_49 rfl rfl dX10_keepCounts_51 (fun h12 => ?_)
          refine am_iload_n dX10_keepCounts_54 rfl 3 rfl ?_
          refine am_iconst (v := 1) dX10_keepCounts_55 (by decide) ?_
          refine am_iadd dX10_keepCounts_56 ?_
          refine am_callV [.ref (am_B Z + (R a0 9)), .int (x2 + (1 : Int32))] (tX5_putCounts R I r10.2 r1 (R a0 9) (x2 + (1 : Int32)) (h2 e4) h12) (h2 e4) clX5 gX10_keepCounts_X5_putCounts hX5_putCounts rfl ⟨Nat.le_of_ble_eq_true rfl, Nat.le_of_ble_eq_true rfl⟩ rfl rfl (Nat.le_of_ble_eq_true rfl) dX10_keepCounts_57 (fun r13 => ?_)
          show am_V Z X kX10_keepCounts (fun r : Int32 × am_I × am_L => (some (.int r.1), R, r.2.1, r.2.2)) 60 [(3, am_rv (am_B Z) r1), (0, .ref (am_B Z + a0)), (1, .int x1), (2, .int x2)] [] R r13.1 r13.2 _
          refine am_iload_n dX10_keepCounts_60 rfl 3 rfl ?_
          refine am_iconst (v := 1) dX10_keepCounts_61 (by decide) ?_
          refine am_iadd dX10_keepCounts_62 ?_
          exact am_iret dX10_keepCounts_63 rfl rfl
        · refine am_bipush (v := -6) dX10_keepCounts_46 (by decide) ?_
          exact am_iret dX10_keepCounts_48 rfl rfl
      · refine am_bipush (v := -2) dX10_keepCounts_22 (by decide) ?_
        exact am_iret dX10_keepCounts_24 rfl rfl
