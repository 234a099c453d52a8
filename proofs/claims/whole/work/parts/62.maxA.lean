/-! maximumAmbiguity where its rows are there already -/
theorem am_tyN {α : Type} {Z : am_Z} {X : am_X} {K : am_K} {g : α → am_O} {pc : Nat} {ls : List (Nat × Value)} {st : List Value} {R : am_R} {I : am_I} {L : am_L} {f : Option α} {a : Nat} (hG : am_G Z a = some (.inl 10)) (kk : (¬ R a 14 = 0 → am_G Z (R a 14) = some (.inl 4)) → am_V Z X K g pc ls st R I L f) : am_V Z X K g pc ls st R I L f := fun ok hT => kk (fun h => (hT.2.2 a hG).resolve_left h) ok hT
noncomputable def pX10_maximumAmbiguity (R : am_R) (I : am_I) (L : am_L) (a0 : Nat) : Option (Int64 × am_I × am_L) :=
  Option.bind (pX10_freshSearch R I a0) (fun r1 =>
  Option.bind (pX9_growthKind R r1 L (R a0 12)) (fun r3 =>
  if r3.1 < (2 : Int32) then (
    if (R a0 14) = 0 then (
      none) else (
      Option.bind (pX4_highestAmbiguity R r3.2.1 r3.2.2 (R a0 14) (R a0 0)) (fun r9 =>
      some (r9.1, r9.2.1, r9.2.2)))) else (
    some ((-4 : Int64), r3.2.1, r3.2.2))))
abbrev kX10_maximumAmbiguity : am_K := (cX10_maximumAmbiguity, 1, RX10, wsX10_maximumAmbiguity, some .long, { frames := 7, cells := 0, slots := 0, locals := 156 })
theorem hX10_maximumAmbiguity : am_cl yX10_maximumAmbiguity kX10_maximumAmbiguity 0 := ⟨⟨_, rfl⟩, rfl, rfl, by decide +kernel, by decide +kernel, by decide +kernel⟩
theorem iX10_maximumAmbiguity_10 : ∀ w ∈ u_ws RX10 TX10 18, w ∈ wsX10_maximumAmbiguity := by decide +kernel
theorem fX10_maximumAmbiguity_206 : Cond.fieldLink RX10 206 "AmbiguityAnalyzer" "rows" "LAmbiguityAnalyzer$RowStore;" ∈ wsX10_maximumAmbiguity := by decide +kernel
theorem fX10_maximumAmbiguity_12 : Cond.fieldLink RX10 12 "AmbiguityAnalyzer" "automaton" "LAmbiguityAnalyzer$Automaton;" ∈ wsX10_maximumAmbiguity := by decide +kernel
set_option maxRecDepth 100000 in
set_option maxHeartbeats 4000000 in
theorem tX10_maximumAmbiguity {Z : am_Z} (R : am_R) (I : am_I) (L : am_L) (a0 : Nat) (h_a0 : am_G Z a0 = some (.inl 10)) : am_M Z yX10_maximumAmbiguity kX10_maximumAmbiguity [.ref (am_B Z + a0)] R I L (pX10_maximumAmbiguity R I L a0) (fun r : Int64 × am_I × am_L => (some (.long r.1), R, r.2.1, r.2.2)) := by
  refine am_entry (ls := [(0, .ref (am_B Z + a0))]) (by decide) hX10_maximumAmbiguity rfl (Nat.le_of_ble_eq_true rfl) rfl (fun X => ?_)
  unfold pX10_maximumAmbiguity
  refine am_aload_n dX10_maximumAmbiguity_0 rfl 0 rfl ?_
  refine am_callV [] (tX10_freshSearch R I L a0 h_a0) h_a0 clX10 gX10_maximumAmbiguity_X10_freshSearch hX10_freshSearch rfl ⟨Nat.le_of_ble_eq_true rfl, Nat.le_of_ble_eq_true rfl⟩ rfl rfl (Nat.le_of_ble_eq_true rfl) dX10_maximumAmbiguity_1 (fun r1 => ?_)
  show am_V Z X kX10_maximumAmbiguity (fun r : Int64 × am_I × am_L => (some (.long r.1), R, r.2.1, r.2.2)) 4 [(0, .ref (am_B Z + a0))] [.ref (am_B Z + (R a0 12))] R r1 L _
  refine am_tyV 10 12 h_a0 rfl (fun h2 => ?_)
  refine am_callV [] (tX9_growthKind R r1 L (R a0 12) h2) h2 clX9 gX10_maximumAmbiguity_X9_growthKind hX9_growthKind rfl ⟨Nat.le_of_ble_eq_true rfl, Nat.le_of_ble_eq_true rfl⟩ rfl rfl (Nat.le_of_ble_eq_true rfl) dX10_maximumAmbiguity_4 (fun r3 => ?_)
  show am_V Z X kX10_maximumAmbiguity (fun r : Int64 × am_I × am_L => (some (.long r.1), R, r.2.1, r.2.2)) 7 [(0, .ref (am_B Z + a0))] [.int r3.1] R r3.2.1 r3.2.2 _
  refine am_iconst (v := 2) dX10_maximumAmbiguity_7 (by decide) ?_
  refine am_icmp_lt (tgt := 15) dX10_maximumAmbiguity_8 rfl (fun e4 => ?_) (fun e4 => ?_)
  · refine am_aload_n dX10_maximumAmbiguity_15 rfl 0 rfl ?_
    refine am_getN 10 14 clX10 (Nat.le_of_ble_eq_true rfl) h_a0 iX10_maximumAmbiguity_10 fX10_maximumAmbiguity_206 rfl dX10_maximumAmbiguity_16 ?_
    refine am_tyN h_a0 (fun h5 => ?_)
    refine am_ifnn (tgt := 33) dX10_maximumAmbiguity_19 rfl (fun e6 => ?_) (fun e6 => ?_)
    · refine am_aload_n dX10_maximumAmbiguity_22 rfl 0 rfl ?_
      exact am_none
    · refine am_aload_n dX10_maximumAmbiguity_33 rfl 0 rfl ?_
      refine am_getN 10 14 clX10 (Nat.le_of_ble_eq_true rfl) h_a0 iX10_maximumAmbiguity_10 fX10_maximumAmbiguity_206 rfl dX10_maximumAmbiguity_34 ?_
      refine am_tyN h_a0 (fun h7 => ?_)
      refine am_top (am_rv_pos e6) ?_
      refine am_aload_n dX10_maximumAmbiguity_37 rfl 0 rfl ?_
      refine am_getR 10 0 clX10 (Nat.le_of_ble_eq_true rfl) h_a0 iX10_maximumAmbiguity_10 fX10_maximumAmbiguity_12 rfl rfl dX10_maximumAmbiguity_38 (fun h8 => ?_)
      refine am_callV [.ref (am_B Z + (R a0 0))] (tX4_highestAmbiguity R r3.2.1 r3.2.2 (R a0 14) (R a0 0) (h7 e6) h8) (h7 e6) clX4 gX10_maximumAmbiguity_X4_highestAmbiguity hX4_highestAmbiguity rfl ⟨Nat.le_of_ble_eq_true rfl, Nat.le_of_ble_eq_true rfl⟩ rfl rfl (Nat.le_of_ble_eq_true rfl) dX10_maximumAmbiguity_41 (fun r9 => ?_)
      show am_V Z X kX10_maximumAmbiguity (fun r : Int64 × am_I × am_L => (some (.long r.1), R, r.2.1, r.2.2)) 44 [(0, .ref (am_B Z + a0))] [.long r9.1] R r9.2.1 r9.2.2 _
      exact am_lret dX10_maximumAmbiguity_44 rfl rfl
  · refine am_ldc2 (v := -4) dX10_maximumAmbiguity_11 (by decide +kernel) ?_
    exact am_lret dX10_maximumAmbiguity_14 rfl rfl
