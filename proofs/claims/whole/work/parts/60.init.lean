theorem am_tykX0 : ∀ k, k < 4 → (am_ty 0 k = .int ∨ am_ty 0 k = .long ∨ am_ty 0 k = .boolean ∨ (∃ c, am_ty 0 k = .object c) ∨ ∃ t, am_ty 0 k = .array t) := by
  intro k hk
  match k, hk with
  | 0, _ => exact Or.inl rfl
  | 1, _ => exact Or.inl rfl
  | 2, _ => exact Or.inl rfl
  | 3, _ => exact Or.inr (Or.inr (Or.inr (Or.inr ⟨_, rfl⟩)))
  | k + 4, h => exact absurd h (by omega)
theorem am_tykX1 : ∀ k, k < 4 → (am_ty 1 k = .int ∨ am_ty 1 k = .long ∨ am_ty 1 k = .boolean ∨ (∃ c, am_ty 1 k = .object c) ∨ ∃ t, am_ty 1 k = .array t) := by
  intro k hk
  match k, hk with
  | 0, _ => exact Or.inr (Or.inr (Or.inr (Or.inr ⟨_, rfl⟩)))
  | 1, _ => exact Or.inr (Or.inr (Or.inr (Or.inr ⟨_, rfl⟩)))
  | 2, _ => exact Or.inr (Or.inr (Or.inr (Or.inr ⟨_, rfl⟩)))
  | 3, _ => exact Or.inr (Or.inr (Or.inr (Or.inr ⟨_, rfl⟩)))
  | k + 4, h => exact absurd h (by omega)
theorem am_tykX2 : ∀ k, k < 1 → (am_ty 2 k = .int ∨ am_ty 2 k = .long ∨ am_ty 2 k = .boolean ∨ (∃ c, am_ty 2 k = .object c) ∨ ∃ t, am_ty 2 k = .array t) := by
  intro k hk
  match k, hk with
  | 0, _ => exact Or.inr (Or.inr (Or.inr (Or.inr ⟨_, rfl⟩)))
  | k + 1, h => exact absurd h (by omega)
theorem am_tykX3 : ∀ k, k < 6 → (am_ty 3 k = .int ∨ am_ty 3 k = .long ∨ am_ty 3 k = .boolean ∨ (∃ c, am_ty 3 k = .object c) ∨ ∃ t, am_ty 3 k = .array t) := by
  intro k hk
  match k, hk with
  | 0, _ => exact Or.inl rfl
  | 1, _ => exact Or.inr (Or.inl rfl)
  | 2, _ => exact Or.inr (Or.inl rfl)
  | 3, _ => exact Or.inr (Or.inr (Or.inr (Or.inr ⟨_, rfl⟩)))
  | 4, _ => exact Or.inr (Or.inr (Or.inr (Or.inr ⟨_, rfl⟩)))
  | 5, _ => exact Or.inr (Or.inr (Or.inr (Or.inr ⟨_, rfl⟩)))
  | k + 6, h => exact absurd h (by omega)
theorem am_tykX4 : ∀ k, k < 5 → (am_ty 4 k = .int ∨ am_ty 4 k = .long ∨ am_ty 4 k = .boolean ∨ (∃ c, am_ty 4 k = .object c) ∨ ∃ t, am_ty 4 k = .array t) := by
  intro k hk
  match k, hk with
  | 0, _ => exact Or.inr (Or.inr (Or.inr (Or.inr ⟨_, rfl⟩)))
  | 1, _ => exact Or.inr (Or.inr (Or.inr (Or.inr ⟨_, rfl⟩)))
  | 2, _ => exact Or.inr (Or.inr (Or.inr (Or.inr ⟨_, rfl⟩)))
  | 3, _ => exact Or.inr (Or.inr (Or.inr (Or.inr ⟨_, rfl⟩)))
  | 4, _ => exact Or.inl rfl
  | k + 5, h => exact absurd h (by omega)
theorem am_tykX5 : ∀ k, k < 3 → (am_ty 5 k = .int ∨ am_ty 5 k = .long ∨ am_ty 5 k = .boolean ∨ (∃ c, am_ty 5 k = .object c) ∨ ∃ t, am_ty 5 k = .array t) := by
  intro k hk
  match k, hk with
  | 0, _ => exact Or.inl rfl
  | 1, _ => exact Or.inl rfl
  | 2, _ => exact Or.inr (Or.inr (Or.inr (Or.inr ⟨_, rfl⟩)))
  | k + 3, h => exact absurd h (by omega)
theorem am_tykX6 : ∀ k, k < 2 → (am_ty 6 k = .int ∨ am_ty 6 k = .long ∨ am_ty 6 k = .boolean ∨ (∃ c, am_ty 6 k = .object c) ∨ ∃ t, am_ty 6 k = .array t) := by
  intro k hk
  match k, hk with
  | 0, _ => exact Or.inr (Or.inr (Or.inr (Or.inr ⟨_, rfl⟩)))
  | 1, _ => exact Or.inr (Or.inr (Or.inr (Or.inr ⟨_, rfl⟩)))
  | k + 2, h => exact absurd h (by omega)
theorem am_tykX7 : ∀ k, k < 2 → (am_ty 7 k = .int ∨ am_ty 7 k = .long ∨ am_ty 7 k = .boolean ∨ (∃ c, am_ty 7 k = .object c) ∨ ∃ t, am_ty 7 k = .array t) := by
  intro k hk
  match k, hk with
  | 0, _ => exact Or.inl rfl
  | 1, _ => exact Or.inr (Or.inr (Or.inr (Or.inr ⟨_, rfl⟩)))
  | k + 2, h => exact absurd h (by omega)
theorem am_tykX8 : ∀ k, k < 2 → (am_ty 8 k = .int ∨ am_ty 8 k = .long ∨ am_ty 8 k = .boolean ∨ (∃ c, am_ty 8 k = .object c) ∨ ∃ t, am_ty 8 k = .array t) := by
  intro k hk
  match k, hk with
  | 0, _ => exact Or.inl rfl
  | 1, _ => exact Or.inr (Or.inr (Or.inr (Or.inr ⟨_, rfl⟩)))
  | k + 2, h => exact absurd h (by omega)
theorem am_tykX9 : ∀ k, k < 13 → (am_ty 9 k = .int ∨ am_ty 9 k = .long ∨ am_ty 9 k = .boolean ∨ (∃ c, am_ty 9 k = .object c) ∨ ∃ t, am_ty 9 k = .array t) := by
  intro k hk
  match k, hk with
  | 0, _ => exact Or.inr (Or.inr (Or.inr (Or.inl ⟨_, rfl⟩)))
  | 1, _ => exact Or.inl rfl
  | 2, _ => exact Or.inl rfl
  | 3, _ => exact Or.inl rfl
  | 4, _ => exact Or.inl rfl
  | 5, _ => exact Or.inl rfl
  | 6, _ => exact Or.inl rfl
  | 7, _ => exact Or.inl rfl
  | 8, _ => exact Or.inr (Or.inr (Or.inr (Or.inr ⟨_, rfl⟩)))
  | 9, _ => exact Or.inl rfl
  | 10, _ => exact Or.inl rfl
  | 11, _ => exact Or.inr (Or.inr (Or.inr (Or.inr ⟨_, rfl⟩)))
  | 12, _ => exact Or.inr (Or.inr (Or.inr (Or.inr ⟨_, rfl⟩)))
  | k + 13, h => exact absurd h (by omega)
theorem am_tykX10 : ∀ k, k < 18 → (am_ty 10 k = .int ∨ am_ty 10 k = .long ∨ am_ty 10 k = .boolean ∨ (∃ c, am_ty 10 k = .object c) ∨ ∃ t, am_ty 10 k = .array t) := by
  intro k hk
  match k, hk with
  | 0, _ => exact Or.inr (Or.inr (Or.inr (Or.inl ⟨_, rfl⟩)))
  | 1, _ => exact Or.inr (Or.inr (Or.inr (Or.inl ⟨_, rfl⟩)))
  | 2, _ => exact Or.inr (Or.inr (Or.inr (Or.inr ⟨_, rfl⟩)))
  | 3, _ => exact Or.inr (Or.inr (Or.inr (Or.inr ⟨_, rfl⟩)))
  | 4, _ => exact Or.inr (Or.inr (Or.inl rfl))
  | 5, _ => exact Or.inr (Or.inr (Or.inr (Or.inl ⟨_, rfl⟩)))
  | 6, _ => exact Or.inr (Or.inr (Or.inr (Or.inl ⟨_, rfl⟩)))
  | 7, _ => exact Or.inr (Or.inr (Or.inr (Or.inl ⟨_, rfl⟩)))
  | 8, _ => exact Or.inr (Or.inr (Or.inr (Or.inr ⟨_, rfl⟩)))
  | 9, _ => exact Or.inr (Or.inr (Or.inr (Or.inr ⟨_, rfl⟩)))
  | 10, _ => exact Or.inr (Or.inr (Or.inr (Or.inl ⟨_, rfl⟩)))
  | 11, _ => exact Or.inr (Or.inr (Or.inr (Or.inl ⟨_, rfl⟩)))
  | 12, _ => exact Or.inr (Or.inr (Or.inr (Or.inl ⟨_, rfl⟩)))
  | 13, _ => exact Or.inr (Or.inr (Or.inr (Or.inl ⟨_, rfl⟩)))
  | 14, _ => exact Or.inr (Or.inr (Or.inr (Or.inl ⟨_, rfl⟩)))
  | 15, _ => exact Or.inr (Or.inr (Or.inr (Or.inl ⟨_, rfl⟩)))
  | 16, _ => exact Or.inr (Or.inr (Or.inr (Or.inl ⟨_, rfl⟩)))
  | 17, _ => exact Or.inr (Or.inr (Or.inl rfl))
  | k + 18, h => exact absurd h (by omega)
theorem am_tykX11 : ∀ k, k < 50 → (am_ty 11 k = .int ∨ am_ty 11 k = .long ∨ am_ty 11 k = .boolean ∨ (∃ c, am_ty 11 k = .object c) ∨ ∃ t, am_ty 11 k = .array t) := by
  intro k hk
  match k, hk with
  | 0, _ => exact Or.inr (Or.inr (Or.inr (Or.inr ⟨_, rfl⟩)))
  | 1, _ => exact Or.inr (Or.inr (Or.inr (Or.inr ⟨_, rfl⟩)))
  | 2, _ => exact Or.inr (Or.inr (Or.inr (Or.inr ⟨_, rfl⟩)))
  | 3, _ => exact Or.inl rfl
  | 4, _ => exact Or.inl rfl
  | 5, _ => exact Or.inl rfl
  | 6, _ => exact Or.inr (Or.inr (Or.inl rfl))
  | 7, _ => exact Or.inr (Or.inr (Or.inr (Or.inr ⟨_, rfl⟩)))
  | 8, _ => exact Or.inr (Or.inr (Or.inr (Or.inr ⟨_, rfl⟩)))
  | 9, _ => exact Or.inl rfl
  | 10, _ => exact Or.inr (Or.inr (Or.inr (Or.inr ⟨_, rfl⟩)))
  | 11, _ => exact Or.inr (Or.inr (Or.inr (Or.inr ⟨_, rfl⟩)))
  | 12, _ => exact Or.inl rfl
  | 13, _ => exact Or.inl rfl
  | 14, _ => exact Or.inl rfl
  | 15, _ => exact Or.inr (Or.inr (Or.inr (Or.inr ⟨_, rfl⟩)))
  | 16, _ => exact Or.inl rfl
  | 17, _ => exact Or.inr (Or.inr (Or.inr (Or.inr ⟨_, rfl⟩)))
  | 18, _ => exact Or.inr (Or.inr (Or.inr (Or.inr ⟨_, rfl⟩)))
  | 19, _ => exact Or.inr (Or.inr (Or.inr (Or.inr ⟨_, rfl⟩)))
  | 20, _ => exact Or.inr (Or.inr (Or.inr (Or.inr ⟨_, rfl⟩)))
  | 21, _ => exact Or.inl rfl
  | 22, _ => exact Or.inr (Or.inr (Or.inr (Or.inr ⟨_, rfl⟩)))
  | 23, _ => exact Or.inr (Or.inr (Or.inr (Or.inr ⟨_, rfl⟩)))
  | 24, _ => exact Or.inr (Or.inr (Or.inr (Or.inr ⟨_, rfl⟩)))
  | 25, _ => exact Or.inl rfl
  | 26, _ => exact Or.inr (Or.inr (Or.inr (Or.inr ⟨_, rfl⟩)))
  | 27, _ => exact Or.inl rfl
  | 28, _ => exact Or.inl rfl
  | 29, _ => exact Or.inr (Or.inr (Or.inl rfl))
  | 30, _ => exact Or.inr (Or.inr (Or.inr (Or.inr ⟨_, rfl⟩)))
  | 31, _ => exact Or.inr (Or.inr (Or.inr (Or.inr ⟨_, rfl⟩)))
  | 32, _ => exact Or.inr (Or.inr (Or.inr (Or.inr ⟨_, rfl⟩)))
  | 33, _ => exact Or.inr (Or.inr (Or.inr (Or.inr ⟨_, rfl⟩)))
  | 34, _ => exact Or.inr (Or.inr (Or.inr (Or.inr ⟨_, rfl⟩)))
  | 35, _ => exact Or.inr (Or.inr (Or.inr (Or.inr ⟨_, rfl⟩)))
  | 36, _ => exact Or.inr (Or.inr (Or.inr (Or.inr ⟨_, rfl⟩)))
  | 37, _ => exact Or.inr (Or.inr (Or.inr (Or.inr ⟨_, rfl⟩)))
  | 38, _ => exact Or.inr (Or.inr (Or.inr (Or.inr ⟨_, rfl⟩)))
  | 39, _ => exact Or.inr (Or.inr (Or.inr (Or.inr ⟨_, rfl⟩)))
  | 40, _ => exact Or.inl rfl
  | 41, _ => exact Or.inl rfl
  | 42, _ => exact Or.inr (Or.inl rfl)
  | 43, _ => exact Or.inr (Or.inl rfl)
  | 44, _ => exact Or.inr (Or.inr (Or.inr (Or.inr ⟨_, rfl⟩)))
  | 45, _ => exact Or.inr (Or.inr (Or.inr (Or.inr ⟨_, rfl⟩)))
  | 46, _ => exact Or.inr (Or.inr (Or.inr (Or.inr ⟨_, rfl⟩)))
  | 47, _ => exact Or.inr (Or.inr (Or.inr (Or.inr ⟨_, rfl⟩)))
  | 48, _ => exact Or.inr (Or.inr (Or.inr (Or.inr ⟨_, rfl⟩)))
  | 49, _ => exact Or.inr (Or.inr (Or.inl rfl))
  | k + 50, h => exact absurd h (by omega)
abbrev kX0_init : am_K := (cX0_init, 1, RX0, wsX0_init, none, { frames := 1, cells := 1, slots := 18, locals := 20 })
theorem mo1X0_init : Cond.methodLink RX0 3 objectInit ∈ wsX0_init := by decide +kernel
theorem mo2X0_init : Cond.instanceMethod objectInit ∈ wsX0_init := by decide +kernel
theorem mo3X0_init : Cond.code objectInit ⟨#[0xb1]⟩ 1 none ∈ wsX0_init := by decide +kernel
theorem inX0_init_X0 : ∀ w ∈ u_ws RX0 TX0 4, w ∈ wsX0_init := by decide +kernel
theorem mlX0_init_9 : Cond.fieldLink RX0 9 "AmbiguityAnalyzer$Automaton" "states" "I" ∈ wsX0_init := by decide +kernel
theorem maX0_init_0 : Cond.arrayClass .int ∈ wsX0_init := by decide +kernel
theorem mlX0_init_15 : Cond.fieldLink RX0 15 "AmbiguityAnalyzer$Automaton" "targets" "[I" ∈ wsX0_init := by decide +kernel
set_option maxRecDepth 100000 in
set_option maxHeartbeats 4000000 in
theorem tX0_init {Z : am_Z} {lo : Nat} (a n : Nat) (R : am_R) (I : am_I) (L : am_L) (hG : am_G Z a = some (.inl 0)) (ha : a < n) (ha0 : lo ≤ a) (hN0 : am_G Z n = some (.inr (0, 18))) : am_MN Z lo yX0_init kX0_init [.ref (am_B Z + a)] n R I L ((n + 1), (am_upR R a 3 n), (am_upI I a 0 (1 : Int32)), L) := by
  refine am_entryN (ls := [(0, .ref (am_B Z + a))]) (by decide) rfl rfl rfl (Nat.le_of_ble_eq_true rfl) rfl (fun X => ?_)
  refine nv_aload_n dX0_init_0 rfl 0 rfl ?_
  refine nv_obj mo1X0_init mo2X0_init mo3X0_init (Nat.le_of_ble_eq_true rfl) (Nat.le_of_ble_eq_true rfl) dX0_init_1 ?_
  refine nv_aload_n dX0_init_4 rfl 0 rfl ?_
  refine nv_iconst (v := 1) dX0_init_5 (by decide) ?_
  refine nv_putI false 0 0 clX0 (Nat.le_of_ble_eq_true rfl) hG (by omega) (by omega) inX0_init_X0 mlX0_init_9 rfl rfl rfl dX0_init_6 ?_
  refine nv_aload_n dX0_init_9 rfl 0 rfl ?_
  refine nv_bipush (v := 18) dX0_init_10 (by decide) ?_
  refine nv_newa 0 (atype := .int) (N := 18) rfl (by decide) hN0 maX0_init_0 (by decide) (by decide) (Nat.le_of_ble_eq_true rfl) (Nat.le_of_ble_eq_true rfl) (Nat.le_of_ble_eq_true rfl) dX0_init_12 ?_
  refine nv_putR true 0 3 clX0 (Nat.le_of_ble_eq_true rfl) hG (by omega) (by omega) inX0_init_X0 mlX0_init_15 rfl rfl (Or.inr ⟨_, rfl⟩) (by omega) dX0_init_14 ?_
  exact nv_ret rfl rfl rfl rfl dX0_init_17
abbrev kX1_init : am_K := (cX1_init, 1, RX1, wsX1_init, none, { frames := 1, cells := 4, slots := 140, locals := 20 })
theorem mo1X1_init : Cond.methodLink RX1 3 objectInit ∈ wsX1_init := by decide +kernel
theorem mo2X1_init : Cond.instanceMethod objectInit ∈ wsX1_init := by decide +kernel
theorem mo3X1_init : Cond.code objectInit ⟨#[0xb1]⟩ 1 none ∈ wsX1_init := by decide +kernel
theorem maX1_init_1 : Cond.arrayClass .long ∈ wsX1_init := by decide +kernel
theorem inX1_init_X1 : ∀ w ∈ u_ws RX1 TX1 4, w ∈ wsX1_init := by decide +kernel
theorem mlX1_init_9 : Cond.fieldLink RX1 9 "AmbiguityAnalyzer$Counter" "paths" "[J" ∈ wsX1_init := by decide +kernel
theorem mlX1_init_15 : Cond.fieldLink RX1 15 "AmbiguityAnalyzer$Counter" "nextPaths" "[J" ∈ wsX1_init := by decide +kernel
theorem mlX1_init_18 : Cond.fieldLink RX1 18 "AmbiguityAnalyzer$Counter" "words" "[J" ∈ wsX1_init := by decide +kernel
theorem mlX1_init_21 : Cond.fieldLink RX1 21 "AmbiguityAnalyzer$Counter" "nextWords" "[J" ∈ wsX1_init := by decide +kernel
set_option maxRecDepth 100000 in
set_option maxHeartbeats 4000000 in
theorem tX1_init {Z : am_Z} {lo : Nat} (a n : Nat) (R : am_R) (I : am_I) (L : am_L) (hG : am_G Z a = some (.inl 1)) (ha : a < n) (ha0 : lo ≤ a) (hN0 : am_G Z n = some (.inr (1, 6))) (hN1 : am_G Z (n + 1) = some (.inr (1, 6))) (hN2 : am_G Z (n + 2) = some (.inr (1, 64))) (hN3 : am_G Z (n + 3) = some (.inr (1, 64))) : am_MN Z lo yX1_init kX1_init [.ref (am_B Z + a)] n R I L ((n + 4), (am_upR (am_upR (am_upR (am_upR R a 0 n) a 1 (n + 1)) a 2 (n + 2)) a 3 (n + 3)), I, L) := by
  refine am_entryN (ls := [(0, .ref (am_B Z + a))]) (by decide) rfl rfl rfl (Nat.le_of_ble_eq_true rfl) rfl (fun X => ?_)
  refine nv_aload_n dX1_init_0 rfl 0 rfl ?_
  refine nv_obj mo1X1_init mo2X1_init mo3X1_init (Nat.le_of_ble_eq_true rfl) (Nat.le_of_ble_eq_true rfl) dX1_init_1 ?_
  refine nv_aload_n dX1_init_4 rfl 0 rfl ?_
  refine nv_bipush (v := 6) dX1_init_5 (by decide) ?_
  refine nv_newa 1 (atype := .long) (N := 6) rfl (by decide) hN0 maX1_init_1 (by decide) (by decide) (Nat.le_of_ble_eq_true rfl) (Nat.le_of_ble_eq_true rfl) (Nat.le_of_ble_eq_true rfl) dX1_init_7 ?_
  refine nv_putR true 1 0 clX1 (Nat.le_of_ble_eq_true rfl) hG (by omega) (by omega) inX1_init_X1 mlX1_init_9 rfl rfl (Or.inr ⟨_, rfl⟩) (by omega) dX1_init_9 ?_
  refine nv_aload_n dX1_init_12 rfl 0 rfl ?_
  refine nv_bipush (v := 6) dX1_init_13 (by decide) ?_
  refine nv_newa 1 (atype := .long) (N := 6) rfl (by decide) hN1 maX1_init_1 (by decide) (by decide) (Nat.le_of_ble_eq_true rfl) (Nat.le_of_ble_eq_true rfl) (Nat.le_of_ble_eq_true rfl) dX1_init_15 ?_
  refine nv_putR true 1 1 clX1 (Nat.le_of_ble_eq_true rfl) hG (by omega) (by omega) inX1_init_X1 mlX1_init_15 rfl rfl (Or.inr ⟨_, rfl⟩) (by omega) dX1_init_17 ?_
  refine nv_aload_n dX1_init_20 rfl 0 rfl ?_
  refine nv_bipush (v := 64) dX1_init_21 (by decide) ?_
  refine nv_newa 1 (atype := .long) (N := 64) rfl (by decide) hN2 maX1_init_1 (by decide) (by decide) (Nat.le_of_ble_eq_true rfl) (Nat.le_of_ble_eq_true rfl) (Nat.le_of_ble_eq_true rfl) dX1_init_23 ?_
  refine nv_putR true 1 2 clX1 (Nat.le_of_ble_eq_true rfl) hG (by omega) (by omega) inX1_init_X1 mlX1_init_18 rfl rfl (Or.inr ⟨_, rfl⟩) (by omega) dX1_init_25 ?_
  refine nv_aload_n dX1_init_28 rfl 0 rfl ?_
  refine nv_bipush (v := 64) dX1_init_29 (by decide) ?_
  refine nv_newa 1 (atype := .long) (N := 64) rfl (by decide) hN3 maX1_init_1 (by decide) (by decide) (Nat.le_of_ble_eq_true rfl) (Nat.le_of_ble_eq_true rfl) (Nat.le_of_ble_eq_true rfl) dX1_init_31 ?_
  refine nv_putR true 1 3 clX1 (Nat.le_of_ble_eq_true rfl) hG (by omega) (by omega) inX1_init_X1 mlX1_init_21 rfl rfl (Or.inr ⟨_, rfl⟩) (by omega) dX1_init_33 ?_
  exact nv_ret rfl rfl rfl rfl dX1_init_36
abbrev kX2_init : am_K := (cX2_init, 1, RX2, wsX2_init, none, { frames := 1, cells := 1, slots := 6, locals := 20 })
theorem mo1X2_init : Cond.methodLink RX2 3 objectInit ∈ wsX2_init := by decide +kernel
theorem mo2X2_init : Cond.instanceMethod objectInit ∈ wsX2_init := by decide +kernel
theorem mo3X2_init : Cond.code objectInit ⟨#[0xb1]⟩ 1 none ∈ wsX2_init := by decide +kernel
theorem maX2_init_0 : Cond.arrayClass .int ∈ wsX2_init := by decide +kernel
theorem inX2_init_X2 : ∀ w ∈ u_ws RX2 TX2 1, w ∈ wsX2_init := by decide +kernel
theorem mlX2_init_9 : Cond.fieldLink RX2 9 "AmbiguityAnalyzer$LightSearch" "costs" "[I" ∈ wsX2_init := by decide +kernel
set_option maxRecDepth 100000 in
set_option maxHeartbeats 4000000 in
theorem tX2_init {Z : am_Z} {lo : Nat} (a n : Nat) (R : am_R) (I : am_I) (L : am_L) (hG : am_G Z a = some (.inl 2)) (ha : a < n) (ha0 : lo ≤ a) (hN0 : am_G Z n = some (.inr (0, 6))) : am_MN Z lo yX2_init kX2_init [.ref (am_B Z + a)] n R I L ((n + 1), (am_upR R a 0 n), I, L) := by
  refine am_entryN (ls := [(0, .ref (am_B Z + a))]) (by decide) rfl rfl rfl (Nat.le_of_ble_eq_true rfl) rfl (fun X => ?_)
  refine nv_aload_n dX2_init_0 rfl 0 rfl ?_
  refine nv_obj mo1X2_init mo2X2_init mo3X2_init (Nat.le_of_ble_eq_true rfl) (Nat.le_of_ble_eq_true rfl) dX2_init_1 ?_
  refine nv_aload_n dX2_init_4 rfl 0 rfl ?_
  refine nv_bipush (v := 6) dX2_init_5 (by decide) ?_
  refine nv_newa 0 (atype := .int) (N := 6) rfl (by decide) hN0 maX2_init_0 (by decide) (by decide) (Nat.le_of_ble_eq_true rfl) (Nat.le_of_ble_eq_true rfl) (Nat.le_of_ble_eq_true rfl) dX2_init_7 ?_
  refine nv_putR true 2 0 clX2 (Nat.le_of_ble_eq_true rfl) hG (by omega) (by omega) inX2_init_X2 mlX2_init_9 rfl rfl (Or.inr ⟨_, rfl⟩) (by omega) dX2_init_9 ?_
  exact nv_ret rfl rfl rfl rfl dX2_init_12
abbrev kX3_init : am_K := (cX3_init, 1, RX3, wsX3_init, none, { frames := 1, cells := 3, slots := 640, locals := 20 })
theorem mo1X3_init : Cond.methodLink RX3 3 objectInit ∈ wsX3_init := by decide +kernel
theorem mo2X3_init : Cond.instanceMethod objectInit ∈ wsX3_init := by decide +kernel
theorem mo3X3_init : Cond.code objectInit ⟨#[0xb1]⟩ 1 none ∈ wsX3_init := by decide +kernel
theorem maX3_init_1 : Cond.arrayClass .long ∈ wsX3_init := by decide +kernel
theorem inX3_init_X3 : ∀ w ∈ u_ws RX3 TX3 6, w ∈ wsX3_init := by decide +kernel
theorem mlX3_init_9 : Cond.fieldLink RX3 9 "AmbiguityAnalyzer$Result" "targets" "[J" ∈ wsX3_init := by decide +kernel
theorem maX3_init_0 : Cond.arrayClass .int ∈ wsX3_init := by decide +kernel
theorem mlX3_init_15 : Cond.fieldLink RX3 15 "AmbiguityAnalyzer$Result" "codes" "[I" ∈ wsX3_init := by decide +kernel
theorem mlX3_init_19 : Cond.fieldLink RX3 19 "AmbiguityAnalyzer$Result" "numbers" "[I" ∈ wsX3_init := by decide +kernel
set_option maxRecDepth 100000 in
set_option maxHeartbeats 4000000 in
theorem tX3_init {Z : am_Z} {lo : Nat} (a n : Nat) (R : am_R) (I : am_I) (L : am_L) (hG : am_G Z a = some (.inl 3)) (ha : a < n) (ha0 : lo ≤ a) (hN0 : am_G Z n = some (.inr (1, 192))) (hN1 : am_G Z (n + 1) = some (.inr (0, 64))) (hN2 : am_G Z (n + 2) = some (.inr (0, 384))) : am_MN Z lo yX3_init kX3_init [.ref (am_B Z + a)] n R I L ((n + 3), (am_upR (am_upR (am_upR R a 3 n) a 4 (n + 1)) a 5 (n + 2)), I, L) := by
  refine am_entryN (ls := [(0, .ref (am_B Z + a))]) (by decide) rfl rfl rfl (Nat.le_of_ble_eq_true rfl) rfl (fun X => ?_)
  refine nv_aload_n dX3_init_0 rfl 0 rfl ?_
  refine nv_obj mo1X3_init mo2X3_init mo3X3_init (Nat.le_of_ble_eq_true rfl) (Nat.le_of_ble_eq_true rfl) dX3_init_1 ?_
  refine nv_aload_n dX3_init_4 rfl 0 rfl ?_
  refine nv_sipush (v := 192) dX3_init_5 (by decide) ?_
  refine nv_newa 1 (atype := .long) (N := 192) rfl (by decide) hN0 maX3_init_1 (by decide) (by decide) (Nat.le_of_ble_eq_true rfl) (Nat.le_of_ble_eq_true rfl) (Nat.le_of_ble_eq_true rfl) dX3_init_8 ?_
  refine nv_putR true 3 3 clX3 (Nat.le_of_ble_eq_true rfl) hG (by omega) (by omega) inX3_init_X3 mlX3_init_9 rfl rfl (Or.inr ⟨_, rfl⟩) (by omega) dX3_init_10 ?_
  refine nv_aload_n dX3_init_13 rfl 0 rfl ?_
  refine nv_bipush (v := 64) dX3_init_14 (by decide) ?_
  refine nv_newa 0 (atype := .int) (N := 64) rfl (by decide) hN1 maX3_init_0 (by decide) (by decide) (Nat.le_of_ble_eq_true rfl) (Nat.le_of_ble_eq_true rfl) (Nat.le_of_ble_eq_true rfl) dX3_init_16 ?_
  refine nv_putR true 3 4 clX3 (Nat.le_of_ble_eq_true rfl) hG (by omega) (by omega) inX3_init_X3 mlX3_init_15 rfl rfl (Or.inr ⟨_, rfl⟩) (by omega) dX3_init_18 ?_
  refine nv_aload_n dX3_init_21 rfl 0 rfl ?_
  refine nv_sipush (v := 384) dX3_init_22 (by decide) ?_
  refine nv_newa 0 (atype := .int) (N := 384) rfl (by decide) hN2 maX3_init_0 (by decide) (by decide) (Nat.le_of_ble_eq_true rfl) (Nat.le_of_ble_eq_true rfl) (Nat.le_of_ble_eq_true rfl) dX3_init_25 ?_
  refine nv_putR true 3 5 clX3 (Nat.le_of_ble_eq_true rfl) hG (by omega) (by omega) inX3_init_X3 mlX3_init_19 rfl rfl (Or.inr ⟨_, rfl⟩) (by omega) dX3_init_27 ?_
  exact nv_ret rfl rfl rfl rfl dX3_init_30
abbrev kX4_init : am_K := (cX4_init, 1, RX4, wsX4_init, none, { frames := 1, cells := 4, slots := 7262, locals := 20 })
theorem mo1X4_init : Cond.methodLink RX4 3 objectInit ∈ wsX4_init := by decide +kernel
theorem mo2X4_init : Cond.instanceMethod objectInit ∈ wsX4_init := by decide +kernel
theorem mo3X4_init : Cond.code objectInit ⟨#[0xb1]⟩ 1 none ∈ wsX4_init := by decide +kernel
theorem maX4_init_1 : Cond.arrayClass .long ∈ wsX4_init := by decide +kernel
theorem inX4_init_X4 : ∀ w ∈ u_ws RX4 TX4 5, w ∈ wsX4_init := by decide +kernel
theorem mlX4_init_9 : Cond.fieldLink RX4 9 "AmbiguityAnalyzer$RowStore" "cells" "[J" ∈ wsX4_init := by decide +kernel
theorem mlX4_init_15 : Cond.fieldLink RX4 15 "AmbiguityAnalyzer$RowStore" "fresh" "[J" ∈ wsX4_init := by decide +kernel
theorem maX4_init_0 : Cond.arrayClass .int ∈ wsX4_init := by decide +kernel
theorem mlX4_init_18 : Cond.fieldLink RX4 18 "AmbiguityAnalyzer$RowStore" "newest" "[I" ∈ wsX4_init := by decide +kernel
theorem mlX4_init_22 : Cond.fieldLink RX4 22 "AmbiguityAnalyzer$RowStore" "older" "[I" ∈ wsX4_init := by decide +kernel
set_option maxRecDepth 100000 in
set_option maxHeartbeats 4000000 in
theorem tX4_init {Z : am_Z} {lo : Nat} (a n : Nat) (R : am_R) (I : am_I) (L : am_L) (hG : am_G Z a = some (.inl 4)) (ha : a < n) (ha0 : lo ≤ a) (hN0 : am_G Z n = some (.inr (1, 6000))) (hN1 : am_G Z (n + 1) = some (.inr (1, 6))) (hN2 : am_G Z (n + 2) = some (.inr (0, 256))) (hN3 : am_G Z (n + 3) = some (.inr (0, 1000))) : am_MN Z lo yX4_init kX4_init [.ref (am_B Z + a)] n R I L ((n + 4), (am_upR (am_upR (am_upR (am_upR R a 0 n) a 1 (n + 1)) a 2 (n + 2)) a 3 (n + 3)), I, L) := by
  refine am_entryN (ls := [(0, .ref (am_B Z + a))]) (by decide) rfl rfl rfl (Nat.le_of_ble_eq_true rfl) rfl (fun X => ?_)
  refine nv_aload_n dX4_init_0 rfl 0 rfl ?_
  refine nv_obj mo1X4_init mo2X4_init mo3X4_init (Nat.le_of_ble_eq_true rfl) (Nat.le_of_ble_eq_true rfl) dX4_init_1 ?_
  refine nv_aload_n dX4_init_4 rfl 0 rfl ?_
  refine nv_sipush (v := 6000) dX4_init_5 (by decide) ?_
  refine nv_newa 1 (atype := .long) (N := 6000) rfl (by decide) hN0 maX4_init_1 (by decide) (by decide) (Nat.le_of_ble_eq_true rfl) (Nat.le_of_ble_eq_true rfl) (Nat.le_of_ble_eq_true rfl) dX4_init_8 ?_
  refine nv_putR true 4 0 clX4 (Nat.le_of_ble_eq_true rfl) hG (by omega) (by omega) inX4_init_X4 mlX4_init_9 rfl rfl (Or.inr ⟨_, rfl⟩) (by omega) dX4_init_10 ?_
  refine nv_aload_n dX4_init_13 rfl 0 rfl ?_
  refine nv_bipush (v := 6) dX4_init_14 (by decide) ?_
  refine nv_newa 1 (atype := .long) (N := 6) rfl (by decide) hN1 maX4_init_1 (by decide) (by decide) (Nat.le_of_ble_eq_true rfl) (Nat.le_of_ble_eq_true rfl) (Nat.le_of_ble_eq_true rfl) dX4_init_16 ?_
  refine nv_putR true 4 1 clX4 (Nat.le_of_ble_eq_true rfl) hG (by omega) (by omega) inX4_init_X4 mlX4_init_15 rfl rfl (Or.inr ⟨_, rfl⟩) (by omega) dX4_init_18 ?_
  refine nv_aload_n dX4_init_21 rfl 0 rfl ?_
  refine nv_sipush (v := 256) dX4_init_22 (by decide) ?_
  refine nv_newa 0 (atype := .int) (N := 256) rfl (by decide) hN2 maX4_init_0 (by decide) (by decide) (Nat.le_of_ble_eq_true rfl) (Nat.le_of_ble_eq_true rfl) (Nat.le_of_ble_eq_true rfl) dX4_init_25 ?_
  refine nv_putR true 4 2 clX4 (Nat.le_of_ble_eq_true rfl) hG (by omega) (by omega) inX4_init_X4 mlX4_init_18 rfl rfl (Or.inr ⟨_, rfl⟩) (by omega) dX4_init_27 ?_
  refine nv_aload_n dX4_init_30 rfl 0 rfl ?_
  refine nv_sipush (v := 1000) dX4_init_31 (by decide) ?_
  refine nv_newa 0 (atype := .int) (N := 1000) rfl (by decide) hN3 maX4_init_0 (by decide) (by decide) (Nat.le_of_ble_eq_true rfl) (Nat.le_of_ble_eq_true rfl) (Nat.le_of_ble_eq_true rfl) dX4_init_34 ?_
  refine nv_putR true 4 3 clX4 (Nat.le_of_ble_eq_true rfl) hG (by omega) (by omega) inX4_init_X4 mlX4_init_22 rfl rfl (Or.inr ⟨_, rfl⟩) (by omega) dX4_init_36 ?_
  exact nv_ret rfl rfl rfl rfl dX4_init_39
abbrev kX5_init : am_K := (cX5_init, 1, RX5, wsX5_init, none, { frames := 1, cells := 1, slots := 31, locals := 20 })
theorem mo1X5_init : Cond.methodLink RX5 3 objectInit ∈ wsX5_init := by decide +kernel
theorem mo2X5_init : Cond.instanceMethod objectInit ∈ wsX5_init := by decide +kernel
theorem mo3X5_init : Cond.code objectInit ⟨#[0xb1]⟩ 1 none ∈ wsX5_init := by decide +kernel
theorem inX5_init_X5 : ∀ w ∈ u_ws RX5 TX5 3, w ∈ wsX5_init := by decide +kernel
theorem mlX5_init_11 : Cond.fieldLink RX5 11 "AmbiguityAnalyzer$Shelf" "content" "I" ∈ wsX5_init := by decide +kernel
theorem maX5_init_1 : Cond.arrayClass .long ∈ wsX5_init := by decide +kernel
theorem mlX5_init_15 : Cond.fieldLink RX5 15 "AmbiguityAnalyzer$Shelf" "elements" "[J" ∈ wsX5_init := by decide +kernel
set_option maxRecDepth 100000 in
set_option maxHeartbeats 4000000 in
theorem tX5_init {Z : am_Z} {lo : Nat} (a n : Nat) (R : am_R) (I : am_I) (L : am_L) (hG : am_G Z a = some (.inl 5)) (ha : a < n) (ha0 : lo ≤ a) (hN0 : am_G Z n = some (.inr (1, 31))) : am_MN Z lo yX5_init kX5_init [.ref (am_B Z + a)] n R I L ((n + 1), (am_upR R a 2 n), (am_upI I a 0 (0 : Int32)), L) := by
  refine am_entryN (ls := [(0, .ref (am_B Z + a))]) (by decide) rfl rfl rfl (Nat.le_of_ble_eq_true rfl) rfl (fun X => ?_)
  refine nv_aload_n dX5_init_0 rfl 0 rfl ?_
  refine nv_obj mo1X5_init mo2X5_init mo3X5_init (Nat.le_of_ble_eq_true rfl) (Nat.le_of_ble_eq_true rfl) dX5_init_1 ?_
  refine nv_aload_n dX5_init_4 rfl 0 rfl ?_
  refine nv_iconst (v := 0) dX5_init_5 (by decide) ?_
  refine nv_putI false 5 0 clX5 (Nat.le_of_ble_eq_true rfl) hG (by omega) (by omega) inX5_init_X5 mlX5_init_11 rfl rfl rfl dX5_init_6 ?_
  refine nv_aload_n dX5_init_9 rfl 0 rfl ?_
  refine nv_bipush (v := 31) dX5_init_10 (by decide) ?_
  refine nv_newa 1 (atype := .long) (N := 31) rfl (by decide) hN0 maX5_init_1 (by decide) (by decide) (Nat.le_of_ble_eq_true rfl) (Nat.le_of_ble_eq_true rfl) (Nat.le_of_ble_eq_true rfl) dX5_init_12 ?_
  refine nv_putR true 5 2 clX5 (Nat.le_of_ble_eq_true rfl) hG (by omega) (by omega) inX5_init_X5 mlX5_init_15 rfl rfl (Or.inr ⟨_, rfl⟩) (by omega) dX5_init_14 ?_
  exact nv_ret rfl rfl rfl rfl dX5_init_17
abbrev kX6_init : am_K := (cX6_init, 1, RX6, wsX6_init, none, { frames := 1, cells := 2, slots := 384, locals := 20 })
theorem mo1X6_init : Cond.methodLink RX6 3 objectInit ∈ wsX6_init := by decide +kernel
theorem mo2X6_init : Cond.instanceMethod objectInit ∈ wsX6_init := by decide +kernel
theorem mo3X6_init : Cond.code objectInit ⟨#[0xb1]⟩ 1 none ∈ wsX6_init := by decide +kernel
theorem maX6_init_0 : Cond.arrayClass .int ∈ wsX6_init := by decide +kernel
theorem inX6_init_X6 : ∀ w ∈ u_ws RX6 TX6 2, w ∈ wsX6_init := by decide +kernel
theorem mlX6_init_9 : Cond.fieldLink RX6 9 "AmbiguityAnalyzer$Steps" "once" "[I" ∈ wsX6_init := by decide +kernel
theorem mlX6_init_15 : Cond.fieldLink RX6 15 "AmbiguityAnalyzer$Steps" "twice" "[I" ∈ wsX6_init := by decide +kernel
set_option maxRecDepth 100000 in
set_option maxHeartbeats 4000000 in
theorem tX6_init {Z : am_Z} {lo : Nat} (a n : Nat) (R : am_R) (I : am_I) (L : am_L) (hG : am_G Z a = some (.inl 6)) (ha : a < n) (ha0 : lo ≤ a) (hN0 : am_G Z n = some (.inr (0, 192))) (hN1 : am_G Z (n + 1) = some (.inr (0, 192))) : am_MN Z lo yX6_init kX6_init [.ref (am_B Z + a)] n R I L ((n + 2), (am_upR (am_upR R a 0 n) a 1 (n + 1)), I, L) := by
  refine am_entryN (ls := [(0, .ref (am_B Z + a))]) (by decide) rfl rfl rfl (Nat.le_of_ble_eq_true rfl) rfl (fun X => ?_)
  refine nv_aload_n dX6_init_0 rfl 0 rfl ?_
  refine nv_obj mo1X6_init mo2X6_init mo3X6_init (Nat.le_of_ble_eq_true rfl) (Nat.le_of_ble_eq_true rfl) dX6_init_1 ?_
  refine nv_aload_n dX6_init_4 rfl 0 rfl ?_
  refine nv_sipush (v := 192) dX6_init_5 (by decide) ?_
  refine nv_newa 0 (atype := .int) (N := 192) rfl (by decide) hN0 maX6_init_0 (by decide) (by decide) (Nat.le_of_ble_eq_true rfl) (Nat.le_of_ble_eq_true rfl) (Nat.le_of_ble_eq_true rfl) dX6_init_8 ?_
  refine nv_putR true 6 0 clX6 (Nat.le_of_ble_eq_true rfl) hG (by omega) (by omega) inX6_init_X6 mlX6_init_9 rfl rfl (Or.inr ⟨_, rfl⟩) (by omega) dX6_init_10 ?_
  refine nv_aload_n dX6_init_13 rfl 0 rfl ?_
  refine nv_sipush (v := 192) dX6_init_14 (by decide) ?_
  refine nv_newa 0 (atype := .int) (N := 192) rfl (by decide) hN1 maX6_init_0 (by decide) (by decide) (Nat.le_of_ble_eq_true rfl) (Nat.le_of_ble_eq_true rfl) (Nat.le_of_ble_eq_true rfl) dX6_init_17 ?_
  refine nv_putR true 6 1 clX6 (Nat.le_of_ble_eq_true rfl) hG (by omega) (by omega) inX6_init_X6 mlX6_init_15 rfl rfl (Or.inr ⟨_, rfl⟩) (by omega) dX6_init_19 ?_
  exact nv_ret rfl rfl rfl rfl dX6_init_22
abbrev kX7_init : am_K := (cX7_init, 1, RX7, wsX7_init, none, { frames := 1, cells := 1, slots := 60, locals := 20 })
theorem mo1X7_init : Cond.methodLink RX7 3 objectInit ∈ wsX7_init := by decide +kernel
theorem mo2X7_init : Cond.instanceMethod objectInit ∈ wsX7_init := by decide +kernel
theorem mo3X7_init : Cond.code objectInit ⟨#[0xb1]⟩ 1 none ∈ wsX7_init := by decide +kernel
theorem maX7_init_0 : Cond.arrayClass .int ∈ wsX7_init := by decide +kernel
theorem inX7_init_X7 : ∀ w ∈ u_ws RX7 TX7 2, w ∈ wsX7_init := by decide +kernel
theorem mlX7_init_9 : Cond.fieldLink RX7 9 "AmbiguityAnalyzer$Text" "characters" "[I" ∈ wsX7_init := by decide +kernel
set_option maxRecDepth 100000 in
set_option maxHeartbeats 4000000 in
theorem tX7_init {Z : am_Z} {lo : Nat} (a n : Nat) (R : am_R) (I : am_I) (L : am_L) (hG : am_G Z a = some (.inl 7)) (ha : a < n) (ha0 : lo ≤ a) (hN0 : am_G Z n = some (.inr (0, 60))) : am_MN Z lo yX7_init kX7_init [.ref (am_B Z + a)] n R I L ((n + 1), (am_upR R a 1 n), I, L) := by
  refine am_entryN (ls := [(0, .ref (am_B Z + a))]) (by decide) rfl rfl rfl (Nat.le_of_ble_eq_true rfl) rfl (fun X => ?_)
  refine nv_aload_n dX7_init_0 rfl 0 rfl ?_
  refine nv_obj mo1X7_init mo2X7_init mo3X7_init (Nat.le_of_ble_eq_true rfl) (Nat.le_of_ble_eq_true rfl) dX7_init_1 ?_
  refine nv_aload_n dX7_init_4 rfl 0 rfl ?_
  refine nv_bipush (v := 60) dX7_init_5 (by decide) ?_
  refine nv_newa 0 (atype := .int) (N := 60) rfl (by decide) hN0 maX7_init_0 (by decide) (by decide) (Nat.le_of_ble_eq_true rfl) (Nat.le_of_ble_eq_true rfl) (Nat.le_of_ble_eq_true rfl) dX7_init_7 ?_
  refine nv_putR true 7 1 clX7 (Nat.le_of_ble_eq_true rfl) hG (by omega) (by omega) inX7_init_X7 mlX7_init_9 rfl rfl (Or.inr ⟨_, rfl⟩) (by omega) dX7_init_9 ?_
  exact nv_ret rfl rfl rfl rfl dX7_init_12
abbrev kX8_init : am_K := (cX8_init, 1, RX8, wsX8_init, none, { frames := 1, cells := 1, slots := 216, locals := 20 })
theorem mo1X8_init : Cond.methodLink RX8 3 objectInit ∈ wsX8_init := by decide +kernel
theorem mo2X8_init : Cond.instanceMethod objectInit ∈ wsX8_init := by decide +kernel
theorem mo3X8_init : Cond.code objectInit ⟨#[0xb1]⟩ 1 none ∈ wsX8_init := by decide +kernel
theorem maX8_init_0 : Cond.arrayClass .int ∈ wsX8_init := by decide +kernel
theorem inX8_init_X8 : ∀ w ∈ u_ws RX8 TX8 2, w ∈ wsX8_init := by decide +kernel
theorem mlX8_init_9 : Cond.fieldLink RX8 9 "AmbiguityAnalyzer$Word" "letters" "[I" ∈ wsX8_init := by decide +kernel
set_option maxRecDepth 100000 in
set_option maxHeartbeats 4000000 in
theorem tX8_init {Z : am_Z} {lo : Nat} (a n : Nat) (R : am_R) (I : am_I) (L : am_L) (hG : am_G Z a = some (.inl 8)) (ha : a < n) (ha0 : lo ≤ a) (hN0 : am_G Z n = some (.inr (0, 216))) : am_MN Z lo yX8_init kX8_init [.ref (am_B Z + a)] n R I L ((n + 1), (am_upR R a 1 n), I, L) := by
  refine am_entryN (ls := [(0, .ref (am_B Z + a))]) (by decide) rfl rfl rfl (Nat.le_of_ble_eq_true rfl) rfl (fun X => ?_)
  refine nv_aload_n dX8_init_0 rfl 0 rfl ?_
  refine nv_obj mo1X8_init mo2X8_init mo3X8_init (Nat.le_of_ble_eq_true rfl) (Nat.le_of_ble_eq_true rfl) dX8_init_1 ?_
  refine nv_aload_n dX8_init_4 rfl 0 rfl ?_
  refine nv_sipush (v := 216) dX8_init_5 (by decide) ?_
  refine nv_newa 0 (atype := .int) (N := 216) rfl (by decide) hN0 maX8_init_0 (by decide) (by decide) (Nat.le_of_ble_eq_true rfl) (Nat.le_of_ble_eq_true rfl) (Nat.le_of_ble_eq_true rfl) dX8_init_8 ?_
  refine nv_putR true 8 1 clX8 (Nat.le_of_ble_eq_true rfl) hG (by omega) (by omega) inX8_init_X8 mlX8_init_9 rfl rfl (Or.inr ⟨_, rfl⟩) (by omega) dX8_init_10 ?_
  exact nv_ret rfl rfl rfl rfl dX8_init_13
abbrev kX9_init : am_K := (cX9_init, 1, RX9, wsX9_init, none, { frames := 2, cells := 6, slots := 4552, locals := 40 })
theorem mo1X9_init : Cond.methodLink RX9 5 objectInit ∈ wsX9_init := by decide +kernel
theorem mo2X9_init : Cond.instanceMethod objectInit ∈ wsX9_init := by decide +kernel
theorem mo3X9_init : Cond.code objectInit ⟨#[0xb1]⟩ 1 none ∈ wsX9_init := by decide +kernel
theorem inX9_init_X6 : ∀ w ∈ u_ws RX6 TX6 2, w ∈ wsX9_init := by decide +kernel
theorem mcX9_init_11 : Cond.classLink RX9 11 RX6 ∈ wsX9_init := by decide +kernel
theorem miX9_init_X6 : Cond.instantiable RX6 2 ∈ wsX9_init := by decide +kernel
theorem mzX9_init_X6 : Cond.initialized RX6 ∈ wsX9_init := by decide +kernel
theorem inX9_init_X9 : ∀ w ∈ u_ws RX9 TX9 13, w ∈ wsX9_init := by decide +kernel
theorem mlX9_init_14 : Cond.fieldLink RX9 14 "AmbiguityAnalyzer$WordSearch" "steps" "LAmbiguityAnalyzer$Steps;" ∈ wsX9_init := by decide +kernel
theorem maX9_init_0 : Cond.arrayClass .int ∈ wsX9_init := by decide +kernel
theorem mlX9_init_18 : Cond.fieldLink RX9 18 "AmbiguityAnalyzer$WordSearch" "nodes" "[I" ∈ wsX9_init := by decide +kernel
theorem mlX9_init_22 : Cond.fieldLink RX9 22 "AmbiguityAnalyzer$WordSearch" "foundNode" "I" ∈ wsX9_init := by decide +kernel
theorem maX9_init_1 : Cond.arrayClass .long ∈ wsX9_init := by decide +kernel
theorem mlX9_init_26 : Cond.fieldLink RX9 26 "AmbiguityAnalyzer$WordSearch" "met" "[J" ∈ wsX9_init := by decide +kernel
theorem mlX9_init_30 : Cond.fieldLink RX9 30 "AmbiguityAnalyzer$WordSearch" "chainsTo" "[I" ∈ wsX9_init := by decide +kernel
set_option maxRecDepth 100000 in
set_option maxHeartbeats 4000000 in
theorem tX9_init {Z : am_Z} {lo : Nat} (a n : Nat) (R : am_R) (I : am_I) (L : am_L) (hG : am_G Z a = some (.inl 9)) (ha : a < n) (ha0 : lo ≤ a) (hN0 : am_G Z n = some (.inl 6)) (hN1 : am_G Z (n + 1) = some (.inr (0, 192))) (hN2 : am_G Z (n + 2) = some (.inr (0, 192))) (hN3 : am_G Z (n + 3) = some (.inr (0, 4096))) (hN4 : am_G Z (n + 4) = some (.inr (1, 64))) (hN5 : am_G Z (n + 5) = some (.inr (0, 6))) : am_MN Z lo yX9_init kX9_init [.ref (am_B Z + a)] n R I L ((n + 6), (am_upR (am_upR (am_upR (am_upR (am_upR (am_upR R n 0 (n + 1)) n 1 (n + 2)) a 0 n) a 8 (n + 3)) a 11 (n + 4)) a 12 (n + 5)), (am_upI I a 10 (-1 : Int32)), L) := by
  refine am_entryN (ls := [(0, .ref (am_B Z + a))]) (by decide) rfl rfl rfl (Nat.le_of_ble_eq_true rfl) rfl (fun X => ?_)
  refine nv_aload_n dX9_init_0 rfl 0 rfl ?_
  refine nv_obj mo1X9_init mo2X9_init mo3X9_init (Nat.le_of_ble_eq_true rfl) (Nat.le_of_ble_eq_true rfl) dX9_init_1 ?_
  refine nv_aload_n dX9_init_4 rfl 0 rfl ?_
  refine nv_new 6 clX6 am_tykX6 hN0 inX9_init_X6 mcX9_init_11 miX9_init_X6 mzX9_init_X6 (Nat.le_of_ble_eq_true rfl) (Nat.le_of_ble_eq_true rfl) dX9_init_5 ?_
  refine nv_dup dX9_init_8 rfl ?_
  refine nv_callI (Fn := ((n + 3), (am_upR (am_upR R n 0 (n + 1)) n 1 (n + 2)), I, L)) (host := RX10) (tX6_init n (n + 1) _ _ _ hN0 (by omega) (by omega) hN1 hN2) gX9_init_X6_init_n13 (by decide +kernel) (by decide +kernel) (by decide +kernel) rfl ⟨by decide +kernel, by decide +kernel, by decide +kernel⟩ rfl ⟨Nat.le_of_ble_eq_true rfl, Nat.le_of_ble_eq_true rfl⟩ ⟨Nat.le_of_ble_eq_true rfl, Nat.le_of_ble_eq_true rfl⟩ (Nat.le_of_ble_eq_true rfl) (fun hz => ((hz.up.up.R (by omega)).R (by omega))) (by omega) dX9_init_9 ?_
  show am_VN Z X kX9_init _ _ 12 [(0, .ref (am_B Z + a))] [.ref (am_B Z + n), .ref (am_B Z + a)] (n + 3) (am_upR (am_upR R n 0 (n + 1)) n 1 (n + 2)) I L 3 386
  refine nv_putR true 9 0 clX9 (Nat.le_of_ble_eq_true rfl) hG (by omega) (by omega) inX9_init_X9 mlX9_init_14 rfl rfl (Or.inl ⟨_, rfl⟩) (by omega) dX9_init_12 ?_
  refine nv_aload_n dX9_init_15 rfl 0 rfl ?_
  refine nv_sipush (v := 4096) dX9_init_16 (by decide) ?_
  refine nv_newa 0 (atype := .int) (N := 4096) rfl (by decide) hN3 maX9_init_0 (by decide) (by decide) (Nat.le_of_ble_eq_true rfl) (Nat.le_of_ble_eq_true rfl) (Nat.le_of_ble_eq_true rfl) dX9_init_19 ?_
  refine nv_putR true 9 8 clX9 (Nat.le_of_ble_eq_true rfl) hG (by omega) (by omega) inX9_init_X9 mlX9_init_18 rfl rfl (Or.inr ⟨_, rfl⟩) (by omega) dX9_init_21 ?_
  refine nv_aload_n dX9_init_24 rfl 0 rfl ?_
  refine nv_iconst (v := -1) dX9_init_25 (by decide) ?_
  refine nv_putI false 9 10 clX9 (Nat.le_of_ble_eq_true rfl) hG (by omega) (by omega) inX9_init_X9 mlX9_init_22 rfl rfl rfl dX9_init_26 ?_
  refine nv_aload_n dX9_init_29 rfl 0 rfl ?_
  refine nv_bipush (v := 64) dX9_init_30 (by decide) ?_
  refine nv_newa 1 (atype := .long) (N := 64) rfl (by decide) hN4 maX9_init_1 (by decide) (by decide) (Nat.le_of_ble_eq_true rfl) (Nat.le_of_ble_eq_true rfl) (Nat.le_of_ble_eq_true rfl) dX9_init_32 ?_
  refine nv_putR true 9 11 clX9 (Nat.le_of_ble_eq_true rfl) hG (by omega) (by omega) inX9_init_X9 mlX9_init_26 rfl rfl (Or.inr ⟨_, rfl⟩) (by omega) dX9_init_34 ?_
  refine nv_aload_n dX9_init_37 rfl 0 rfl ?_
  refine nv_bipush (v := 6) dX9_init_38 (by decide) ?_
  refine nv_newa 0 (atype := .int) (N := 6) rfl (by decide) hN5 maX9_init_0 (by decide) (by decide) (Nat.le_of_ble_eq_true rfl) (Nat.le_of_ble_eq_true rfl) (Nat.le_of_ble_eq_true rfl) dX9_init_40 ?_
  refine nv_putR true 9 12 clX9 (Nat.le_of_ble_eq_true rfl) hG (by omega) (by omega) inX9_init_X9 mlX9_init_30 rfl rfl (Or.inr ⟨_, rfl⟩) (by omega) dX9_init_42 ?_
  exact nv_ret rfl rfl rfl rfl dX9_init_45
/-- the shapes of the cells that the class makes -/
def am_GCl : List am_Sh := [.inl 10, .inl 0, .inr (0, 18), .inl 0, .inr (0, 18), .inr (0, 3), .inr (0, 3), .inl 7, .inr (0, 60), .inl 8, .inr (0, 216), .inl 8, .inr (0, 216), .inr (3, 4), .inr (1, 31), .inl 6, .inr (0, 192), .inr (0, 192), .inl 1, .inr (1, 6), .inr (1, 6), .inr (1, 64), .inr (1, 64), .inl 9, .inl 6, .inr (0, 192), .inr (0, 192), .inr (0, 4096), .inr (1, 64), .inr (0, 6), .inl 2, .inr (0, 6), .inl 3, .inr (1, 192), .inr (0, 64), .inr (0, 384), .inl 3, .inr (1, 192), .inr (0, 64), .inr (0, 384), .inl 5, .inr (1, 31), .inl 5, .inr (1, 31), .inl 5, .inr (1, 31), .inl 5, .inr (1, 31)]
def am_GC : am_S := fun a => match a with
  | 0 => none
  | k + 1 => am_GCl[k]?
abbrev kX10_init : am_K := (cX10_init, 2, RX10, wsX10_init, none, { frames := 3, cells := 47, slots := 7113, locals := 60 })
theorem mo1X10_init : Cond.methodLink RX10 3 objectInit ∈ wsX10_init := by decide +kernel
theorem mo2X10_init : Cond.instanceMethod objectInit ∈ wsX10_init := by decide +kernel
theorem mo3X10_init : Cond.code objectInit ⟨#[0xb1]⟩ 1 none ∈ wsX10_init := by decide +kernel
theorem inX10_init_X0 : ∀ w ∈ u_ws RX0 TX0 4, w ∈ wsX10_init := by decide +kernel
theorem mcX10_init_9 : Cond.classLink RX10 9 RX0 ∈ wsX10_init := by decide +kernel
theorem miX10_init_X0 : Cond.instantiable RX0 4 ∈ wsX10_init := by decide +kernel
theorem mzX10_init_X0 : Cond.initialized RX0 ∈ wsX10_init := by decide +kernel
theorem inX10_init_X10 : ∀ w ∈ u_ws RX10 TX10 18, w ∈ wsX10_init := by decide +kernel
theorem mlX10_init_12 : Cond.fieldLink RX10 12 "AmbiguityAnalyzer" "automaton" "LAmbiguityAnalyzer$Automaton;" ∈ wsX10_init := by decide +kernel
theorem mlX10_init_16 : Cond.fieldLink RX10 16 "AmbiguityAnalyzer" "savedAutomaton" "LAmbiguityAnalyzer$Automaton;" ∈ wsX10_init := by decide +kernel
theorem maX10_init_0 : Cond.arrayClass .int ∈ wsX10_init := by decide +kernel
theorem mlX10_init_19 : Cond.fieldLink RX10 19 "AmbiguityAnalyzer" "weights" "[I" ∈ wsX10_init := by decide +kernel
theorem mlX10_init_23 : Cond.fieldLink RX10 23 "AmbiguityAnalyzer" "savedWeights" "[I" ∈ wsX10_init := by decide +kernel
theorem inX10_init_X7 : ∀ w ∈ u_ws RX7 TX7 2, w ∈ wsX10_init := by decide +kernel
theorem mcX10_init_26 : Cond.classLink RX10 26 RX7 ∈ wsX10_init := by decide +kernel
theorem miX10_init_X7 : Cond.instantiable RX7 2 ∈ wsX10_init := by decide +kernel
theorem mzX10_init_X7 : Cond.initialized RX7 ∈ wsX10_init := by decide +kernel
theorem mlX10_init_29 : Cond.fieldLink RX10 29 "AmbiguityAnalyzer" "text" "LAmbiguityAnalyzer$Text;" ∈ wsX10_init := by decide +kernel
theorem inX10_init_X8 : ∀ w ∈ u_ws RX8 TX8 2, w ∈ wsX10_init := by decide +kernel
theorem mcX10_init_33 : Cond.classLink RX10 33 RX8 ∈ wsX10_init := by decide +kernel
theorem miX10_init_X8 : Cond.instantiable RX8 2 ∈ wsX10_init := by decide +kernel
theorem mzX10_init_X8 : Cond.initialized RX8 ∈ wsX10_init := by decide +kernel
theorem mlX10_init_36 : Cond.fieldLink RX10 36 "AmbiguityAnalyzer" "word" "LAmbiguityAnalyzer$Word;" ∈ wsX10_init := by decide +kernel
theorem mlX10_init_40 : Cond.fieldLink RX10 40 "AmbiguityAnalyzer" "witnessWord" "LAmbiguityAnalyzer$Word;" ∈ wsX10_init := by decide +kernel
theorem mcX10_init_43 : Cond.classLink RX10 43 RX5 ∈ wsX10_init := by decide +kernel
theorem mlX10_init_45 : Cond.fieldLink RX10 45 "AmbiguityAnalyzer" "shelves" "[LAmbiguityAnalyzer$Shelf;" ∈ wsX10_init := by decide +kernel
theorem maX10_init_1 : Cond.arrayClass .long ∈ wsX10_init := by decide +kernel
theorem mlX10_init_49 : Cond.fieldLink RX10 49 "AmbiguityAnalyzer" "freshCounts" "[J" ∈ wsX10_init := by decide +kernel
theorem inX10_init_X6 : ∀ w ∈ u_ws RX6 TX6 2, w ∈ wsX10_init := by decide +kernel
theorem mcX10_init_53 : Cond.classLink RX10 53 RX6 ∈ wsX10_init := by decide +kernel
theorem miX10_init_X6 : Cond.instantiable RX6 2 ∈ wsX10_init := by decide +kernel
theorem mzX10_init_X6 : Cond.initialized RX6 ∈ wsX10_init := by decide +kernel
theorem mlX10_init_56 : Cond.fieldLink RX10 56 "AmbiguityAnalyzer" "steps" "LAmbiguityAnalyzer$Steps;" ∈ wsX10_init := by decide +kernel
theorem inX10_init_X1 : ∀ w ∈ u_ws RX1 TX1 4, w ∈ wsX10_init := by decide +kernel
theorem mcX10_init_60 : Cond.classLink RX10 60 RX1 ∈ wsX10_init := by decide +kernel
theorem miX10_init_X1 : Cond.instantiable RX1 4 ∈ wsX10_init := by decide +kernel
theorem mzX10_init_X1 : Cond.initialized RX1 ∈ wsX10_init := by decide +kernel
theorem mlX10_init_63 : Cond.fieldLink RX10 63 "AmbiguityAnalyzer" "counter" "LAmbiguityAnalyzer$Counter;" ∈ wsX10_init := by decide +kernel
theorem inX10_init_X9 : ∀ w ∈ u_ws RX9 TX9 13, w ∈ wsX10_init := by decide +kernel
theorem mcX10_init_67 : Cond.classLink RX10 67 RX9 ∈ wsX10_init := by decide +kernel
theorem miX10_init_X9 : Cond.instantiable RX9 13 ∈ wsX10_init := by decide +kernel
theorem mzX10_init_X9 : Cond.initialized RX9 ∈ wsX10_init := by decide +kernel
theorem mlX10_init_70 : Cond.fieldLink RX10 70 "AmbiguityAnalyzer" "search" "LAmbiguityAnalyzer$WordSearch;" ∈ wsX10_init := by decide +kernel
theorem inX10_init_X2 : ∀ w ∈ u_ws RX2 TX2 1, w ∈ wsX10_init := by decide +kernel
theorem mcX10_init_74 : Cond.classLink RX10 74 RX2 ∈ wsX10_init := by decide +kernel
theorem miX10_init_X2 : Cond.instantiable RX2 1 ∈ wsX10_init := by decide +kernel
theorem mzX10_init_X2 : Cond.initialized RX2 ∈ wsX10_init := by decide +kernel
theorem mlX10_init_77 : Cond.fieldLink RX10 77 "AmbiguityAnalyzer" "lightSearch" "LAmbiguityAnalyzer$LightSearch;" ∈ wsX10_init := by decide +kernel
theorem inX10_init_X3 : ∀ w ∈ u_ws RX3 TX3 6, w ∈ wsX10_init := by decide +kernel
theorem mcX10_init_81 : Cond.classLink RX10 81 RX3 ∈ wsX10_init := by decide +kernel
theorem miX10_init_X3 : Cond.instantiable RX3 6 ∈ wsX10_init := by decide +kernel
theorem mzX10_init_X3 : Cond.initialized RX3 ∈ wsX10_init := by decide +kernel
theorem mlX10_init_84 : Cond.fieldLink RX10 84 "AmbiguityAnalyzer" "result" "LAmbiguityAnalyzer$Result;" ∈ wsX10_init := by decide +kernel
theorem mlX10_init_88 : Cond.fieldLink RX10 88 "AmbiguityAnalyzer" "spareResult" "LAmbiguityAnalyzer$Result;" ∈ wsX10_init := by decide +kernel
theorem inX10_init_X5 : ∀ w ∈ u_ws RX5 TX5 3, w ∈ wsX10_init := by decide +kernel
theorem miX10_init_X5 : Cond.instantiable RX5 3 ∈ wsX10_init := by decide +kernel
theorem mzX10_init_X5 : Cond.initialized RX5 ∈ wsX10_init := by decide +kernel
set_option maxRecDepth 100000 in
set_option maxHeartbeats 4000000 in
theorem tX10_init {Z : am_Z} (R : am_R) (I : am_I) (L : am_L) (hZ : am_G Z = am_GC) : am_MN Z 1 yX10_init kX10_init [.ref (am_B Z + 1)] 2 R I L (49, (am_upR (am_upR (am_upR (am_upR (am_upR (am_upR (am_upR (am_upR (am_upR (am_upR (am_upR (am_upR (am_upR (am_upR (am_upR (am_upR (am_upR (am_upR (am_upR (am_upR (am_upR (am_upR (am_upR (am_upR (am_upR (am_upR (am_upR (am_upR (am_upR (am_upR (am_upR (am_upR (am_upR (am_upR (am_upR (am_upR (am_upR (am_upR (am_upR (am_upR (am_upR (am_upR (am_upR (am_upR (am_upR (am_upR (am_upR R 2 3 3) 1 0 2) 4 3 5) 1 1 4) 1 2 6) 1 3 7) 8 1 9) 1 5 8) 10 1 11) 1 6 10) 12 1 13) 1 7 12) 1 8 14) 1 9 15) 16 0 17) 16 1 18) 1 10 16) 19 0 20) 19 1 21) 19 2 22) 19 3 23) 1 11 19) 25 0 26) 25 1 27) 24 0 25) 24 8 28) 24 11 29) 24 12 30) 1 12 24) 31 0 32) 1 13 31) 33 3 34) 33 4 35) 33 5 36) 1 15 33) 37 3 38) 37 4 39) 37 5 40) 1 16 37) 41 2 42) 14 0 41) 43 2 44) 14 1 43) 45 2 46) 14 2 45) 47 2 48) 14 3 47), (am_upI (am_upI (am_upI (am_upI (am_upI (am_upI (am_upI (am_upI (am_upI (am_upI I 2 0 (1 : Int32)) 4 0 (1 : Int32)) 24 10 (-1 : Int32)) 6 0 (1 : Int32)) 6 1 (1 : Int32)) 6 2 (1 : Int32)) 41 0 (0 : Int32)) 43 0 (0 : Int32)) 45 0 (0 : Int32)) 47 0 (0 : Int32)), L) := by
  refine am_entryN (ls := [(0, .ref (am_B Z + 1))]) (by decide) rfl rfl rfl (Nat.le_of_ble_eq_true rfl) rfl (fun X => ?_)
  refine nv_aload_n dX10_init_0 rfl 0 rfl ?_
  refine nv_obj mo1X10_init mo2X10_init mo3X10_init (Nat.le_of_ble_eq_true rfl) (Nat.le_of_ble_eq_true rfl) dX10_init_1 ?_
  refine nv_aload_n dX10_init_4 rfl 0 rfl ?_
  refine nv_new 0 clX0 am_tykX0 (by rw [hZ]; rfl) inX10_init_X0 mcX10_init_9 miX10_init_X0 mzX10_init_X0 (Nat.le_of_ble_eq_true rfl) (Nat.le_of_ble_eq_true rfl) dX10_init_5 ?_
  refine nv_dup dX10_init_8 rfl ?_
  refine nv_callI (Fn := (4, (am_upR R 2 3 3), (am_upI I 2 0 (1 : Int32)), L)) (host := RX10) (tX0_init 2 3 _ _ _ (by rw [hZ]; rfl) (Nat.le_of_ble_eq_true rfl) (Nat.le_of_ble_eq_true rfl) (by rw [hZ]; rfl)) gX10_init_X0_init_n11 (by decide +kernel) (by decide +kernel) (by decide +kernel) rfl ⟨by decide +kernel, by decide +kernel, by decide +kernel⟩ rfl ⟨Nat.le_of_ble_eq_true rfl, Nat.le_of_ble_eq_true rfl⟩ ⟨Nat.le_of_ble_eq_true rfl, Nat.le_of_ble_eq_true rfl⟩ (Nat.le_of_ble_eq_true rfl) (fun hz => ((hz.up.R (Nat.le_of_ble_eq_true rfl)).I (Nat.le_of_ble_eq_true rfl))) (Nat.le_of_ble_eq_true rfl) dX10_init_9 ?_
  show am_VN Z X kX10_init _ _ 12 [(0, .ref (am_B Z + 1))] [.ref (am_B Z + 2), .ref (am_B Z + 1)] 4 (am_upR R 2 3 3) (am_upI I 2 0 (1 : Int32)) L 2 22
  refine nv_putR true 10 0 clX10 (Nat.le_of_ble_eq_true rfl) (by rw [hZ]; rfl) (Nat.le_of_ble_eq_true rfl) (Nat.le_of_ble_eq_true rfl) inX10_init_X10 mlX10_init_12 rfl rfl (Or.inl ⟨_, rfl⟩) (by decide) dX10_init_12 ?_
  refine nv_aload_n dX10_init_15 rfl 0 rfl ?_
  refine nv_new 0 clX0 am_tykX0 (by rw [hZ]; rfl) inX10_init_X0 mcX10_init_9 miX10_init_X0 mzX10_init_X0 (Nat.le_of_ble_eq_true rfl) (Nat.le_of_ble_eq_true rfl) dX10_init_16 ?_
  refine nv_dup dX10_init_19 rfl ?_
  refine nv_callI (Fn := (6, (am_upR (am_upR (am_upR R 2 3 3) 1 0 2) 4 3 5), (am_upI (am_upI I 2 0 (1 : Int32)) 4 0 (1 : Int32)), L)) (host := RX10) (tX0_init 4 5 _ _ _ (by rw [hZ]; rfl) (Nat.le_of_ble_eq_true rfl) (Nat.le_of_ble_eq_true rfl) (by rw [hZ]; rfl)) gX10_init_X0_init_n11 (by decide +kernel) (by decide +kernel) (by decide +kernel) rfl ⟨by decide +kernel, by decide +kernel, by decide +kernel⟩ rfl ⟨Nat.le_of_ble_eq_true rfl, Nat.le_of_ble_eq_true rfl⟩ ⟨Nat.le_of_ble_eq_true rfl, Nat.le_of_ble_eq_true rfl⟩ (Nat.le_of_ble_eq_true rfl) (fun hz => ((hz.up.R (Nat.le_of_ble_eq_true rfl)).I (Nat.le_of_ble_eq_true rfl))) (Nat.le_of_ble_eq_true rfl) dX10_init_20 ?_
  show am_VN Z X kX10_init _ _ 23 [(0, .ref (am_B Z + 1))] [.ref (am_B Z + 4), .ref (am_B Z + 1)] 6 (am_upR (am_upR (am_upR R 2 3 3) 1 0 2) 4 3 5) (am_upI (am_upI I 2 0 (1 : Int32)) 4 0 (1 : Int32)) L 4 44
  refine nv_putR true 10 1 clX10 (Nat.le_of_ble_eq_true rfl) (by rw [hZ]; rfl) (Nat.le_of_ble_eq_true rfl) (Nat.le_of_ble_eq_true rfl) inX10_init_X10 mlX10_init_16 rfl rfl (Or.inl ⟨_, rfl⟩) (by decide) dX10_init_23 ?_
  refine nv_aload_n dX10_init_26 rfl 0 rfl ?_
  refine nv_iconst (v := 3) dX10_init_27 (by decide) ?_
  refine nv_newa 0 (atype := .int) (N := 3) rfl (by decide) (by rw [hZ]; rfl) maX10_init_0 (by decide) (by decide) (Nat.le_of_ble_eq_true rfl) (Nat.le_of_ble_eq_true rfl) (Nat.le_of_ble_eq_true rfl) dX10_init_28 ?_
  refine nv_putR true 10 2 clX10 (Nat.le_of_ble_eq_true rfl) (by rw [hZ]; rfl) (Nat.le_of_ble_eq_true rfl) (Nat.le_of_ble_eq_true rfl) inX10_init_X10 mlX10_init_19 rfl rfl (Or.inr ⟨_, rfl⟩) (by decide) dX10_init_30 ?_
  refine nv_aload_n dX10_init_33 rfl 0 rfl ?_
  refine nv_iconst (v := 3) dX10_init_34 (by decide) ?_
  refine nv_newa 0 (atype := .int) (N := 3) rfl (by decide) (by rw [hZ]; rfl) maX10_init_0 (by decide) (by decide) (Nat.le_of_ble_eq_true rfl) (Nat.le_of_ble_eq_true rfl) (Nat.le_of_ble_eq_true rfl) dX10_init_35 ?_
  refine nv_putR true 10 3 clX10 (Nat.le_of_ble_eq_true rfl) (by rw [hZ]; rfl) (Nat.le_of_ble_eq_true rfl) (Nat.le_of_ble_eq_true rfl) inX10_init_X10 mlX10_init_23 rfl rfl (Or.inr ⟨_, rfl⟩) (by decide) dX10_init_37 ?_
  refine nv_aload_n dX10_init_40 rfl 0 rfl ?_
  refine nv_new 7 clX7 am_tykX7 (by rw [hZ]; rfl) inX10_init_X7 mcX10_init_26 miX10_init_X7 mzX10_init_X7 (Nat.le_of_ble_eq_true rfl) (Nat.le_of_ble_eq_true rfl) dX10_init_41 ?_
  refine nv_dup dX10_init_44 rfl ?_
  refine nv_callI (Fn := (10, (am_upR (am_upR (am_upR (am_upR (am_upR (am_upR (am_upR R 2 3 3) 1 0 2) 4 3 5) 1 1 4) 1 2 6) 1 3 7) 8 1 9), (am_upI (am_upI I 2 0 (1 : Int32)) 4 0 (1 : Int32)), L)) (host := RX10) (tX7_init 8 9 _ _ _ (by rw [hZ]; rfl) (Nat.le_of_ble_eq_true rfl) (Nat.le_of_ble_eq_true rfl) (by rw [hZ]; rfl)) gX10_init_X7_init_n28 (by decide +kernel) (by decide +kernel) (by decide +kernel) rfl ⟨by decide +kernel, by decide +kernel, by decide +kernel⟩ rfl ⟨Nat.le_of_ble_eq_true rfl, Nat.le_of_ble_eq_true rfl⟩ ⟨Nat.le_of_ble_eq_true rfl, Nat.le_of_ble_eq_true rfl⟩ (Nat.le_of_ble_eq_true rfl) (fun hz => (hz.up.R (Nat.le_of_ble_eq_true rfl))) (Nat.le_of_ble_eq_true rfl) dX10_init_45 ?_
  show am_VN Z X kX10_init _ _ 48 [(0, .ref (am_B Z + 1))] [.ref (am_B Z + 8), .ref (am_B Z + 1)] 10 (am_upR (am_upR (am_upR (am_upR (am_upR (am_upR (am_upR R 2 3 3) 1 0 2) 4 3 5) 1 1 4) 1 2 6) 1 3 7) 8 1 9) (am_upI (am_upI I 2 0 (1 : Int32)) 4 0 (1 : Int32)) L 8 112
  refine nv_putR true 10 5 clX10 (Nat.le_of_ble_eq_true rfl) (by rw [hZ]; rfl) (Nat.le_of_ble_eq_true rfl) (Nat.le_of_ble_eq_true rfl) inX10_init_X10 mlX10_init_29 rfl rfl (Or.inl ⟨_, rfl⟩) (by decide) dX10_init_48 ?_
  refine nv_aload_n dX10_init_51 rfl 0 rfl ?_
  refine nv_new 8 clX8 am_tykX8 (by rw [hZ]; rfl) inX10_init_X8 mcX10_init_33 miX10_init_X8 mzX10_init_X8 (Nat.le_of_ble_eq_true rfl) (Nat.le_of_ble_eq_true rfl) dX10_init_52 ?_
  refine nv_dup dX10_init_55 rfl ?_
  refine nv_callI (Fn := (12, (am_upR (am_upR (am_upR (am_upR (am_upR (am_upR (am_upR (am_upR (am_upR R 2 3 3) 1 0 2) 4 3 5) 1 1 4) 1 2 6) 1 3 7) 8 1 9) 1 5 8) 10 1 11), (am_upI (am_upI I 2 0 (1 : Int32)) 4 0 (1 : Int32)), L)) (host := RX10) (tX8_init 10 11 _ _ _ (by rw [hZ]; rfl) (Nat.le_of_ble_eq_true rfl) (Nat.le_of_ble_eq_true rfl) (by rw [hZ]; rfl)) gX10_init_X8_init_n35 (by decide +kernel) (by decide +kernel) (by decide +kernel) rfl ⟨by decide +kernel, by decide +kernel, by decide +kernel⟩ rfl ⟨Nat.le_of_ble_eq_true rfl, Nat.le_of_ble_eq_true rfl⟩ ⟨Nat.le_of_ble_eq_true rfl, Nat.le_of_ble_eq_true rfl⟩ (Nat.le_of_ble_eq_true rfl) (fun hz => (hz.up.R (Nat.le_of_ble_eq_true rfl))) (Nat.le_of_ble_eq_true rfl) dX10_init_56 ?_
  show am_VN Z X kX10_init _ _ 59 [(0, .ref (am_B Z + 1))] [.ref (am_B Z + 10), .ref (am_B Z + 1)] 12 (am_upR (am_upR (am_upR (am_upR (am_upR (am_upR (am_upR (am_upR (am_upR R 2 3 3) 1 0 2) 4 3 5) 1 1 4) 1 2 6) 1 3 7) 8 1 9) 1 5 8) 10 1 11) (am_upI (am_upI I 2 0 (1 : Int32)) 4 0 (1 : Int32)) L 10 330
  refine nv_putR true 10 6 clX10 (Nat.le_of_ble_eq_true rfl) (by rw [hZ]; rfl) (Nat.le_of_ble_eq_true rfl) (Nat.le_of_ble_eq_true rfl) inX10_init_X10 mlX10_init_36 rfl rfl (Or.inl ⟨_, rfl⟩) (by decide) dX10_init_59 ?_
  refine nv_aload_n dX10_init_62 rfl 0 rfl ?_
  refine nv_new 8 clX8 am_tykX8 (by rw [hZ]; rfl) inX10_init_X8 mcX10_init_33 miX10_init_X8 mzX10_init_X8 (Nat.le_of_ble_eq_true rfl) (Nat.le_of_ble_eq_true rfl) dX10_init_63 ?_
  refine nv_dup dX10_init_66 rfl ?_
  refine nv_callI (Fn := (14, (am_upR (am_upR (am_upR (am_upR (am_upR (am_upR (am_upR (am_upR (am_upR (am_upR (am_upR R 2 3 3) 1 0 2) 4 3 5) 1 1 4) 1 2 6) 1 3 7) 8 1 9) 1 5 8) 10 1 11) 1 6 10) 12 1 13), (am_upI (am_upI I 2 0 (1 : Int32)) 4 0 (1 : Int32)), L)) (host := RX10) (tX8_init 12 13 _ _ _ (by rw [hZ]; rfl) (Nat.le_of_ble_eq_true rfl) (Nat.le_of_ble_eq_true rfl) (by rw [hZ]; rfl)) gX10_init_X8_init_n35 (by decide +kernel) (by decide +kernel) (by decide +kernel) rfl ⟨by decide +kernel, by decide +kernel, by decide +kernel⟩ rfl ⟨Nat.le_of_ble_eq_true rfl, Nat.le_of_ble_eq_true rfl⟩ ⟨Nat.le_of_ble_eq_true rfl, Nat.le_of_ble_eq_true rfl⟩ (Nat.le_of_ble_eq_true rfl) (fun hz => (hz.up.R (Nat.le_of_ble_eq_true rfl))) (Nat.le_of_ble_eq_true rfl) dX10_init_67 ?_
  show am_VN Z X kX10_init _ _ 70 [(0, .ref (am_B Z + 1))] [.ref (am_B Z + 12), .ref (am_B Z + 1)] 14 (am_upR (am_upR (am_upR (am_upR (am_upR (am_upR (am_upR (am_upR (am_upR (am_upR (am_upR R 2 3 3) 1 0 2) 4 3 5) 1 1 4) 1 2 6) 1 3 7) 8 1 9) 1 5 8) 10 1 11) 1 6 10) 12 1 13) (am_upI (am_upI I 2 0 (1 : Int32)) 4 0 (1 : Int32)) L 12 548
  refine nv_putR true 10 7 clX10 (Nat.le_of_ble_eq_true rfl) (by rw [hZ]; rfl) (Nat.le_of_ble_eq_true rfl) (Nat.le_of_ble_eq_true rfl) inX10_init_X10 mlX10_init_40 rfl rfl (Or.inl ⟨_, rfl⟩) (by decide) dX10_init_70 ?_
  refine nv_aload_n dX10_init_73 rfl 0 rfl ?_
  refine nv_iconst (v := 4) dX10_init_74 (by decide) ?_
  refine nv_anew (N := 4) (by rw [hZ]; rfl) mcX10_init_43 (by decide) (by decide) (Nat.le_of_ble_eq_true rfl) (Nat.le_of_ble_eq_true rfl) (Nat.le_of_ble_eq_true rfl) dX10_init_75 ?_
  refine nv_putR true 10 8 clX10 (Nat.le_of_ble_eq_true rfl) (by rw [hZ]; rfl) (Nat.le_of_ble_eq_true rfl) (Nat.le_of_ble_eq_true rfl) inX10_init_X10 mlX10_init_45 rfl rfl (Or.inr ⟨_, rfl⟩) (by decide) dX10_init_78 ?_
  refine nv_aload_n dX10_init_81 rfl 0 rfl ?_
  refine nv_bipush (v := 31) dX10_init_82 (by decide) ?_
  refine nv_newa 1 (atype := .long) (N := 31) rfl (by decide) (by rw [hZ]; rfl) maX10_init_1 (by decide) (by decide) (Nat.le_of_ble_eq_true rfl) (Nat.le_of_ble_eq_true rfl) (Nat.le_of_ble_eq_true rfl) dX10_init_84 ?_
  refine nv_putR true 10 9 clX10 (Nat.le_of_ble_eq_true rfl) (by rw [hZ]; rfl) (Nat.le_of_ble_eq_true rfl) (Nat.le_of_ble_eq_true rfl) inX10_init_X10 mlX10_init_49 rfl rfl (Or.inr ⟨_, rfl⟩) (by decide) dX10_init_86 ?_
  refine nv_aload_n dX10_init_89 rfl 0 rfl ?_
  refine nv_new 6 clX6 am_tykX6 (by rw [hZ]; rfl) inX10_init_X6 mcX10_init_53 miX10_init_X6 mzX10_init_X6 (Nat.le_of_ble_eq_true rfl) (Nat.le_of_ble_eq_true rfl) dX10_init_90 ?_
  refine nv_dup dX10_init_93 rfl ?_
  refine nv_callI (Fn := (19, (am_upR (am_upR (am_upR (am_upR (am_upR (am_upR (am_upR (am_upR (am_upR (am_upR (am_upR (am_upR (am_upR (am_upR (am_upR (am_upR R 2 3 3) 1 0 2) 4 3 5) 1 1 4) 1 2 6) 1 3 7) 8 1 9) 1 5 8) 10 1 11) 1 6 10) 12 1 13) 1 7 12) 1 8 14) 1 9 15) 16 0 17) 16 1 18), (am_upI (am_upI I 2 0 (1 : Int32)) 4 0 (1 : Int32)), L)) (host := RX10) (tX6_init 16 17 _ _ _ (by rw [hZ]; rfl) (Nat.le_of_ble_eq_true rfl) (Nat.le_of_ble_eq_true rfl) (by rw [hZ]; rfl) (by rw [hZ]; rfl)) gX10_init_X6_init_n55 (by decide +kernel) (by decide +kernel) (by decide +kernel) rfl ⟨by decide +kernel, by decide +kernel, by decide +kernel⟩ rfl ⟨Nat.le_of_ble_eq_true rfl, Nat.le_of_ble_eq_true rfl⟩ ⟨Nat.le_of_ble_eq_true rfl, Nat.le_of_ble_eq_true rfl⟩ (Nat.le_of_ble_eq_true rfl) (fun hz => ((hz.up.up.R (Nat.le_of_ble_eq_true rfl)).R (Nat.le_of_ble_eq_true rfl))) (Nat.le_of_ble_eq_true rfl) dX10_init_94 ?_
  show am_VN Z X kX10_init _ _ 97 [(0, .ref (am_B Z + 1))] [.ref (am_B Z + 16), .ref (am_B Z + 1)] 19 (am_upR (am_upR (am_upR (am_upR (am_upR (am_upR (am_upR (am_upR (am_upR (am_upR (am_upR (am_upR (am_upR (am_upR (am_upR (am_upR R 2 3 3) 1 0 2) 4 3 5) 1 1 4) 1 2 6) 1 3 7) 8 1 9) 1 5 8) 10 1 11) 1 6 10) 12 1 13) 1 7 12) 1 8 14) 1 9 15) 16 0 17) 16 1 18) (am_upI (am_upI I 2 0 (1 : Int32)) 4 0 (1 : Int32)) L 17 969
  refine nv_putR true 10 10 clX10 (Nat.le_of_ble_eq_true rfl) (by rw [hZ]; rfl) (Nat.le_of_ble_eq_true rfl) (Nat.le_of_ble_eq_true rfl) inX10_init_X10 mlX10_init_56 rfl rfl (Or.inl ⟨_, rfl⟩) (by decide) dX10_init_97 ?_
  refine nv_aload_n dX10_init_100 rfl 0 rfl ?_
  refine nv_new 1 clX1 am_tykX1 (by rw [hZ]; rfl) inX10_init_X1 mcX10_init_60 miX10_init_X1 mzX10_init_X1 (Nat.le_of_ble_eq_true rfl) (Nat.le_of_ble_eq_true rfl) dX10_init_101 ?_
  refine nv_dup dX10_init_104 rfl ?_
  refine nv_callI (Fn := (24, (am_upR (am_upR (am_upR (am_upR (am_upR (am_upR (am_upR (am_upR (am_upR (am_upR (am_upR (am_upR (am_upR (am_upR (am_upR (am_upR (am_upR (am_upR (am_upR (am_upR (am_upR R 2 3 3) 1 0 2) 4 3 5) 1 1 4) 1 2 6) 1 3 7) 8 1 9) 1 5 8) 10 1 11) 1 6 10) 12 1 13) 1 7 12) 1 8 14) 1 9 15) 16 0 17) 16 1 18) 1 10 16) 19 0 20) 19 1 21) 19 2 22) 19 3 23), (am_upI (am_upI I 2 0 (1 : Int32)) 4 0 (1 : Int32)), L)) (host := RX10) (tX1_init 19 20 _ _ _ (by rw [hZ]; rfl) (Nat.le_of_ble_eq_true rfl) (Nat.le_of_ble_eq_true rfl) (by rw [hZ]; rfl) (by rw [hZ]; rfl) (by rw [hZ]; rfl) (by rw [hZ]; rfl)) gX10_init_X1_init_n62 (by decide +kernel) (by decide +kernel) (by decide +kernel) rfl ⟨by decide +kernel, by decide +kernel, by decide +kernel⟩ rfl ⟨Nat.le_of_ble_eq_true rfl, Nat.le_of_ble_eq_true rfl⟩ ⟨Nat.le_of_ble_eq_true rfl, Nat.le_of_ble_eq_true rfl⟩ (Nat.le_of_ble_eq_true rfl) (fun hz => ((((hz.up.up.up.up.R (Nat.le_of_ble_eq_true rfl)).R (Nat.le_of_ble_eq_true rfl)).R (Nat.le_of_ble_eq_true rfl)).R (Nat.le_of_ble_eq_true rfl))) (Nat.le_of_ble_eq_true rfl) dX10_init_105 ?_
  show am_VN Z X kX10_init _ _ 108 [(0, .ref (am_B Z + 1))] [.ref (am_B Z + 19), .ref (am_B Z + 1)] 24 (am_upR (am_upR (am_upR (am_upR (am_upR (am_upR (am_upR (am_upR (am_upR (am_upR (am_upR (am_upR (am_upR (am_upR (am_upR (am_upR (am_upR (am_upR (am_upR (am_upR (am_upR R 2 3 3) 1 0 2) 4 3 5) 1 1 4) 1 2 6) 1 3 7) 8 1 9) 1 5 8) 10 1 11) 1 6 10) 12 1 13) 1 7 12) 1 8 14) 1 9 15) 16 0 17) 16 1 18) 1 10 16) 19 0 20) 19 1 21) 19 2 22) 19 3 23) (am_upI (am_upI I 2 0 (1 : Int32)) 4 0 (1 : Int32)) L 22 1113
  refine nv_putR true 10 11 clX10 (Nat.le_of_ble_eq_true rfl) (by rw [hZ]; rfl) (Nat.le_of_ble_eq_true rfl) (Nat.le_of_ble_eq_true rfl) inX10_init_X10 mlX10_init_63 rfl rfl (Or.inl ⟨_, rfl⟩) (by decide) dX10_init_108 ?_
  refine nv_aload_n dX10_init_111 rfl 0 rfl ?_
  refine nv_new 9 clX9 am_tykX9 (by rw [hZ]; rfl) inX10_init_X9 mcX10_init_67 miX10_init_X9 mzX10_init_X9 (Nat.le_of_ble_eq_true rfl) (Nat.le_of_ble_eq_true rfl) dX10_init_112 ?_
  refine nv_dup dX10_init_115 rfl ?_
  refine nv_callI (Fn := (31, (am_upR (am_upR (am_upR (am_upR (am_upR (am_upR (am_upR (am_upR (am_upR (am_upR (am_upR (am_upR (am_upR (am_upR (am_upR (am_upR (am_upR (am_upR (am_upR (am_upR (am_upR (am_upR (am_upR (am_upR (am_upR (am_upR (am_upR (am_upR R 2 3 3) 1 0 2) 4 3 5) 1 1 4) 1 2 6) 1 3 7) 8 1 9) 1 5 8) 10 1 11) 1 6 10) 12 1 13) 1 7 12) 1 8 14) 1 9 15) 16 0 17) 16 1 18) 1 10 16) 19 0 20) 19 1 21) 19 2 22) 19 3 23) 1 11 19) 25 0 26) 25 1 27) 24 0 25) 24 8 28) 24 11 29) 24 12 30), (am_upI (am_upI (am_upI I 2 0 (1 : Int32)) 4 0 (1 : Int32)) 24 10 (-1 : Int32)), L)) (host := RX10) (tX9_init 24 25 _ _ _ (by rw [hZ]; rfl) (Nat.le_of_ble_eq_true rfl) (Nat.le_of_ble_eq_true rfl) (by rw [hZ]; rfl) (by rw [hZ]; rfl) (by rw [hZ]; rfl) (by rw [hZ]; rfl) (by rw [hZ]; rfl) (by rw [hZ]; rfl)) gX10_init_X9_init_n69 (by decide +kernel) (by decide +kernel) (by decide +kernel) rfl ⟨by decide +kernel, by decide +kernel, by decide +kernel⟩ rfl ⟨Nat.le_of_ble_eq_true rfl, Nat.le_of_ble_eq_true rfl⟩ ⟨Nat.le_of_ble_eq_true rfl, Nat.le_of_ble_eq_true rfl⟩ (Nat.le_of_ble_eq_true rfl) (fun hz => (((((((hz.up.up.up.up.up.up.R (Nat.le_of_ble_eq_true rfl)).R (Nat.le_of_ble_eq_true rfl)).R (Nat.le_of_ble_eq_true rfl)).R (Nat.le_of_ble_eq_true rfl)).R (Nat.le_of_ble_eq_true rfl)).R (Nat.le_of_ble_eq_true rfl)).I (Nat.le_of_ble_eq_true rfl))) (Nat.le_of_ble_eq_true rfl) dX10_init_116 ?_
  show am_VN Z X kX10_init _ _ 119 [(0, .ref (am_B Z + 1))] [.ref (am_B Z + 24), .ref (am_B Z + 1)] 31 (am_upR (am_upR (am_upR (am_upR (am_upR (am_upR (am_upR (am_upR (am_upR (am_upR (am_upR (am_upR (am_upR (am_upR (am_upR (am_upR (am_upR (am_upR (am_upR (am_upR (am_upR (am_upR (am_upR (am_upR (am_upR (am_upR (am_upR (am_upR R 2 3 3) 1 0 2) 4 3 5) 1 1 4) 1 2 6) 1 3 7) 8 1 9) 1 5 8) 10 1 11) 1 6 10) 12 1 13) 1 7 12) 1 8 14) 1 9 15) 16 0 17) 16 1 18) 1 10 16) 19 0 20) 19 1 21) 19 2 22) 19 3 23) 1 11 19) 25 0 26) 25 1 27) 24 0 25) 24 8 28) 24 11 29) 24 12 30) (am_upI (am_upI (am_upI I 2 0 (1 : Int32)) 4 0 (1 : Int32)) 24 10 (-1 : Int32)) L 29 5678
  refine nv_putR true 10 12 clX10 (Nat.le_of_ble_eq_true rfl) (by rw [hZ]; rfl) (Nat.le_of_ble_eq_true rfl) (Nat.le_of_ble_eq_true rfl) inX10_init_X10 mlX10_init_70 rfl rfl (Or.inl ⟨_, rfl⟩) (by decide) dX10_init_119 ?_
  refine nv_aload_n dX10_init_122 rfl 0 rfl ?_
  refine nv_new 2 clX2 am_tykX2 (by rw [hZ]; rfl) inX10_init_X2 mcX10_init_74 miX10_init_X2 mzX10_init_X2 (Nat.le_of_ble_eq_true rfl) (Nat.le_of_ble_eq_true rfl) dX10_init_123 ?_
  refine nv_dup dX10_init_126 rfl ?_
  refine nv_callI (Fn := (33, (am_upR (am_upR (am_upR (am_upR (am_upR (am_upR (am_upR (am_upR (am_upR (am_upR (am_upR (am_upR (am_upR (am_upR (am_upR (am_upR (am_upR (am_upR (am_upR (am_upR (am_upR (am_upR (am_upR (am_upR (am_upR (am_upR (am_upR (am_upR (am_upR (am_upR R 2 3 3) 1 0 2) 4 3 5) 1 1 4) 1 2 6) 1 3 7) 8 1 9) 1 5 8) 10 1 11) 1 6 10) 12 1 13) 1 7 12) 1 8 14) 1 9 15) 16 0 17) 16 1 18) 1 10 16) 19 0 20) 19 1 21) 19 2 22) 19 3 23) 1 11 19) 25 0 26) 25 1 27) 24 0 25) 24 8 28) 24 11 29) 24 12 30) 1 12 24) 31 0 32), (am_upI (am_upI (am_upI I 2 0 (1 : Int32)) 4 0 (1 : Int32)) 24 10 (-1 : Int32)), L)) (host := RX10) (tX2_init 31 32 _ _ _ (by rw [hZ]; rfl) (Nat.le_of_ble_eq_true rfl) (Nat.le_of_ble_eq_true rfl) (by rw [hZ]; rfl)) gX10_init_X2_init_n76 (by decide +kernel) (by decide +kernel) (by decide +kernel) rfl ⟨by decide +kernel, by decide +kernel, by decide +kernel⟩ rfl ⟨Nat.le_of_ble_eq_true rfl, Nat.le_of_ble_eq_true rfl⟩ ⟨Nat.le_of_ble_eq_true rfl, Nat.le_of_ble_eq_true rfl⟩ (Nat.le_of_ble_eq_true rfl) (fun hz => (hz.up.R (Nat.le_of_ble_eq_true rfl))) (Nat.le_of_ble_eq_true rfl) dX10_init_127 ?_
  show am_VN Z X kX10_init _ _ 130 [(0, .ref (am_B Z + 1))] [.ref (am_B Z + 31), .ref (am_B Z + 1)] 33 (am_upR (am_upR (am_upR (am_upR (am_upR (am_upR (am_upR (am_upR (am_upR (am_upR (am_upR (am_upR (am_upR (am_upR (am_upR (am_upR (am_upR (am_upR (am_upR (am_upR (am_upR (am_upR (am_upR (am_upR (am_upR (am_upR (am_upR (am_upR (am_upR (am_upR R 2 3 3) 1 0 2) 4 3 5) 1 1 4) 1 2 6) 1 3 7) 8 1 9) 1 5 8) 10 1 11) 1 6 10) 12 1 13) 1 7 12) 1 8 14) 1 9 15) 16 0 17) 16 1 18) 1 10 16) 19 0 20) 19 1 21) 19 2 22) 19 3 23) 1 11 19) 25 0 26) 25 1 27) 24 0 25) 24 8 28) 24 11 29) 24 12 30) 1 12 24) 31 0 32) (am_upI (am_upI (am_upI I 2 0 (1 : Int32)) 4 0 (1 : Int32)) 24 10 (-1 : Int32)) L 31 5685
  refine nv_putR true 10 13 clX10 (Nat.le_of_ble_eq_true rfl) (by rw [hZ]; rfl) (Nat.le_of_ble_eq_true rfl) (Nat.le_of_ble_eq_true rfl) inX10_init_X10 mlX10_init_77 rfl rfl (Or.inl ⟨_, rfl⟩) (by decide) dX10_init_130 ?_
  refine nv_aload_n dX10_init_133 rfl 0 rfl ?_
  refine nv_new 3 clX3 am_tykX3 (by rw [hZ]; rfl) inX10_init_X3 mcX10_init_81 miX10_init_X3 mzX10_init_X3 (Nat.le_of_ble_eq_true rfl) (Nat.le_of_ble_eq_true rfl) dX10_init_134 ?_
  refine nv_dup dX10_init_137 rfl ?_
  refine nv_callI (Fn := (37, (am_upR (am_upR (am_upR (am_upR (am_upR (am_upR (am_upR (am_upR (am_upR (am_upR (am_upR (am_upR (am_upR (am_upR (am_upR (am_upR (am_upR (am_upR (am_upR (am_upR (am_upR (am_upR (am_upR (am_upR (am_upR (am_upR (am_upR (am_upR (am_upR (am_upR (am_upR (am_upR (am_upR (am_upR R 2 3 3) 1 0 2) 4 3 5) 1 1 4) 1 2 6) 1 3 7) 8 1 9) 1 5 8) 10 1 11) 1 6 10) 12 1 13) 1 7 12) 1 8 14) 1 9 15) 16 0 17) 16 1 18) 1 10 16) 19 0 20) 19 1 21) 19 2 22) 19 3 23) 1 11 19) 25 0 26) 25 1 27) 24 0 25) 24 8 28) 24 11 29) 24 12 30) 1 12 24) 31 0 32) 1 13 31) 33 3 34) 33 4 35) 33 5 36), (am_upI (am_upI (am_upI I 2 0 (1 : Int32)) 4 0 (1 : Int32)) 24 10 (-1 : Int32)), L)) (host := RX10) (tX3_init 33 34 _ _ _ (by rw [hZ]; rfl) (Nat.le_of_ble_eq_true rfl) (Nat.le_of_ble_eq_true rfl) (by rw [hZ]; rfl) (by rw [hZ]; rfl) (by rw [hZ]; rfl)) gX10_init_X3_init_n83 (by decide +kernel) (by decide +kernel) (by decide +kernel) rfl ⟨by decide +kernel, by decide +kernel, by decide +kernel⟩ rfl ⟨Nat.le_of_ble_eq_true rfl, Nat.le_of_ble_eq_true rfl⟩ ⟨Nat.le_of_ble_eq_true rfl, Nat.le_of_ble_eq_true rfl⟩ (Nat.le_of_ble_eq_true rfl) (fun hz => (((hz.up.up.up.R (Nat.le_of_ble_eq_true rfl)).R (Nat.le_of_ble_eq_true rfl)).R (Nat.le_of_ble_eq_true rfl))) (Nat.le_of_ble_eq_true rfl) dX10_init_138 ?_
  show am_VN Z X kX10_init _ _ 141 [(0, .ref (am_B Z + 1))] [.ref (am_B Z + 33), .ref (am_B Z + 1)] 37 (am_upR (am_upR (am_upR (am_upR (am_upR (am_upR (am_upR (am_upR (am_upR (am_upR (am_upR (am_upR (am_upR (am_upR (am_upR (am_upR (am_upR (am_upR (am_upR (am_upR (am_upR (am_upR (am_upR (am_upR (am_upR (am_upR (am_upR (am_upR (am_upR (am_upR (am_upR (am_upR (am_upR (am_upR R 2 3 3) 1 0 2) 4 3 5) 1 1 4) 1 2 6) 1 3 7) 8 1 9) 1 5 8) 10 1 11) 1 6 10) 12 1 13) 1 7 12) 1 8 14) 1 9 15) 16 0 17) 16 1 18) 1 10 16) 19 0 20) 19 1 21) 19 2 22) 19 3 23) 1 11 19) 25 0 26) 25 1 27) 24 0 25) 24 8 28) 24 11 29) 24 12 30) 1 12 24) 31 0 32) 1 13 31) 33 3 34) 33 4 35) 33 5 36) (am_upI (am_upI (am_upI I 2 0 (1 : Int32)) 4 0 (1 : Int32)) 24 10 (-1 : Int32)) L 35 6331
  refine nv_putR false 10 15 clX10 (Nat.le_of_ble_eq_true rfl) (by rw [hZ]; rfl) (Nat.le_of_ble_eq_true rfl) (Nat.le_of_ble_eq_true rfl) inX10_init_X10 mlX10_init_84 rfl rfl (Or.inl ⟨_, rfl⟩) (by decide) dX10_init_141 ?_
  refine nv_aload_n dX10_init_144 rfl 0 rfl ?_
  refine nv_new 3 clX3 am_tykX3 (by rw [hZ]; rfl) inX10_init_X3 mcX10_init_81 miX10_init_X3 mzX10_init_X3 (Nat.le_of_ble_eq_true rfl) (Nat.le_of_ble_eq_true rfl) dX10_init_145 ?_
  refine nv_dup dX10_init_148 rfl ?_
  refine nv_callI (Fn := (41, (am_upR (am_upR (am_upR (am_upR (am_upR (am_upR (am_upR (am_upR (am_upR (am_upR (am_upR (am_upR (am_upR (am_upR (am_upR (am_upR (am_upR (am_upR (am_upR (am_upR (am_upR (am_upR (am_upR (am_upR (am_upR (am_upR (am_upR (am_upR (am_upR (am_upR (am_upR (am_upR (am_upR (am_upR (am_upR (am_upR (am_upR (am_upR R 2 3 3) 1 0 2) 4 3 5) 1 1 4) 1 2 6) 1 3 7) 8 1 9) 1 5 8) 10 1 11) 1 6 10) 12 1 13) 1 7 12) 1 8 14) 1 9 15) 16 0 17) 16 1 18) 1 10 16) 19 0 20) 19 1 21) 19 2 22) 19 3 23) 1 11 19) 25 0 26) 25 1 27) 24 0 25) 24 8 28) 24 11 29) 24 12 30) 1 12 24) 31 0 32) 1 13 31) 33 3 34) 33 4 35) 33 5 36) 1 15 33) 37 3 38) 37 4 39) 37 5 40), (am_upI (am_upI (am_upI I 2 0 (1 : Int32)) 4 0 (1 : Int32)) 24 10 (-1 : Int32)), L)) (host := RX10) (tX3_init 37 38 _ _ _ (by rw [hZ]; rfl) (Nat.le_of_ble_eq_true rfl) (Nat.le_of_ble_eq_true rfl) (by rw [hZ]; rfl) (by rw [hZ]; rfl) (by rw [hZ]; rfl)) gX10_init_X3_init_n83 (by decide +kernel) (by decide +kernel) (by decide +kernel) rfl ⟨by decide +kernel, by decide +kernel, by decide +kernel⟩ rfl ⟨Nat.le_of_ble_eq_true rfl, Nat.le_of_ble_eq_true rfl⟩ ⟨Nat.le_of_ble_eq_true rfl, Nat.le_of_ble_eq_true rfl⟩ (Nat.le_of_ble_eq_true rfl) (fun hz => (((hz.up.up.up.R (Nat.le_of_ble_eq_true rfl)).R (Nat.le_of_ble_eq_true rfl)).R (Nat.le_of_ble_eq_true rfl))) (Nat.le_of_ble_eq_true rfl) dX10_init_149 ?_
  show am_VN Z X kX10_init _ _ 152 [(0, .ref (am_B Z + 1))] [.ref (am_B Z + 37), .ref (am_B Z + 1)] 41 (am_upR (am_upR (am_upR (am_upR (am_upR (am_upR (am_upR (am_upR (am_upR (am_upR (am_upR (am_upR (am_upR (am_upR (am_upR (am_upR (am_upR (am_upR (am_upR (am_upR (am_upR (am_upR (am_upR (am_upR (am_upR (am_upR (am_upR (am_upR (am_upR (am_upR (am_upR (am_upR (am_upR (am_upR (am_upR (am_upR (am_upR (am_upR R 2 3 3) 1 0 2) 4 3 5) 1 1 4) 1 2 6) 1 3 7) 8 1 9) 1 5 8) 10 1 11) 1 6 10) 12 1 13) 1 7 12) 1 8 14) 1 9 15) 16 0 17) 16 1 18) 1 10 16) 19 0 20) 19 1 21) 19 2 22) 19 3 23) 1 11 19) 25 0 26) 25 1 27) 24 0 25) 24 8 28) 24 11 29) 24 12 30) 1 12 24) 31 0 32) 1 13 31) 33 3 34) 33 4 35) 33 5 36) 1 15 33) 37 3 38) 37 4 39) 37 5 40) (am_upI (am_upI (am_upI I 2 0 (1 : Int32)) 4 0 (1 : Int32)) 24 10 (-1 : Int32)) L 39 6977
  refine nv_putR false 10 16 clX10 (Nat.le_of_ble_eq_true rfl) (by rw [hZ]; rfl) (Nat.le_of_ble_eq_true rfl) (Nat.le_of_ble_eq_true rfl) inX10_init_X10 mlX10_init_88 rfl rfl (Or.inl ⟨_, rfl⟩) (by decide) dX10_init_152 ?_
  refine nv_iconst (v := 0) dX10_init_155 (by decide) ?_
  refine nv_istore_n (ls' := [(1, .int (0 : Int32)), (0, .ref (am_B Z + 1))]) dX10_init_156 rfl (Nat.le_of_ble_eq_true rfl) rfl ?_
  refine nv_iload_n dX10_init_157 rfl 0 rfl ?_
  refine nv_iconst (v := 3) dX10_init_158 (by decide) ?_
  refine nv_geF (tgt := 175) dX10_init_159 rfl (by decide) ?_
  refine nv_aload_n dX10_init_162 rfl 1 rfl ?_
  refine nv_get 10 2 clX10 (v := .ref (am_B Z + 6)) (Nat.le_of_ble_eq_true rfl) (by rw [hZ]; rfl) (Nat.le_of_ble_eq_true rfl) inX10_init_X10 mlX10_init_19 rfl dX10_init_163 ?_
  refine nv_iload_n dX10_init_166 rfl 0 rfl ?_
  refine nv_iconst (v := 1) dX10_init_167 (by decide) ?_
  refine nv_iast (by rw [hZ]; rfl) (Nat.le_of_ble_eq_true rfl) (Nat.le_of_ble_eq_true rfl) (by decide) dX10_init_168 ?_
  show am_VN Z X kX10_init _ _ 169 [(1, .int (0 : Int32)), (0, .ref (am_B Z + 1))] [] 41 (am_upR (am_upR (am_upR (am_upR (am_upR (am_upR (am_upR (am_upR (am_upR (am_upR (am_upR (am_upR (am_upR (am_upR (am_upR (am_upR (am_upR (am_upR (am_upR (am_upR (am_upR (am_upR (am_upR (am_upR (am_upR (am_upR (am_upR (am_upR (am_upR (am_upR (am_upR (am_upR (am_upR (am_upR (am_upR (am_upR (am_upR (am_upR (am_upR R 2 3 3) 1 0 2) 4 3 5) 1 1 4) 1 2 6) 1 3 7) 8 1 9) 1 5 8) 10 1 11) 1 6 10) 12 1 13) 1 7 12) 1 8 14) 1 9 15) 16 0 17) 16 1 18) 1 10 16) 19 0 20) 19 1 21) 19 2 22) 19 3 23) 1 11 19) 25 0 26) 25 1 27) 24 0 25) 24 8 28) 24 11 29) 24 12 30) 1 12 24) 31 0 32) 1 13 31) 33 3 34) 33 4 35) 33 5 36) 1 15 33) 37 3 38) 37 4 39) 37 5 40) 1 16 37) (am_upI (am_upI (am_upI (am_upI I 2 0 (1 : Int32)) 4 0 (1 : Int32)) 24 10 (-1 : Int32)) 6 0 (1 : Int32)) L 39 6977
  refine nv_iinc (j := 0) (v := 1) (ls' := [(1, .int (1 : Int32)), (0, .ref (am_B Z + 1))]) dX10_init_169 rfl (by decide) (Nat.le_of_ble_eq_true rfl) rfl ?_
  refine nv_goto (tgt := 157) dX10_init_172 rfl ?_
  refine nv_iload_n dX10_init_157 rfl 0 rfl ?_
  refine nv_iconst (v := 3) dX10_init_158 (by decide) ?_
  refine nv_geF (tgt := 175) dX10_init_159 rfl (by decide) ?_
  refine nv_aload_n dX10_init_162 rfl 1 rfl ?_
  refine nv_get 10 2 clX10 (v := .ref (am_B Z + 6)) (Nat.le_of_ble_eq_true rfl) (by rw [hZ]; rfl) (Nat.le_of_ble_eq_true rfl) inX10_init_X10 mlX10_init_19 rfl dX10_init_163 ?_
  refine nv_iload_n dX10_init_166 rfl 0 rfl ?_
  refine nv_iconst (v := 1) dX10_init_167 (by decide) ?_
  refine nv_iast (by rw [hZ]; rfl) (Nat.le_of_ble_eq_true rfl) (Nat.le_of_ble_eq_true rfl) (by decide) dX10_init_168 ?_
  show am_VN Z X kX10_init _ _ 169 [(1, .int (1 : Int32)), (0, .ref (am_B Z + 1))] [] 41 (am_upR (am_upR (am_upR (am_upR (am_upR (am_upR (am_upR (am_upR (am_upR (am_upR (am_upR (am_upR (am_upR (am_upR (am_upR (am_upR (am_upR (am_upR (am_upR (am_upR (am_upR (am_upR (am_upR (am_upR (am_upR (am_upR (am_upR (am_upR (am_upR (am_upR (am_upR (am_upR (am_upR (am_upR (am_upR (am_upR (am_upR (am_upR (am_upR R 2 3 3) 1 0 2) 4 3 5) 1 1 4) 1 2 6) 1 3 7) 8 1 9) 1 5 8) 10 1 11) 1 6 10) 12 1 13) 1 7 12) 1 8 14) 1 9 15) 16 0 17) 16 1 18) 1 10 16) 19 0 20) 19 1 21) 19 2 22) 19 3 23) 1 11 19) 25 0 26) 25 1 27) 24 0 25) 24 8 28) 24 11 29) 24 12 30) 1 12 24) 31 0 32) 1 13 31) 33 3 34) 33 4 35) 33 5 36) 1 15 33) 37 3 38) 37 4 39) 37 5 40) 1 16 37) (am_upI (am_upI (am_upI (am_upI (am_upI I 2 0 (1 : Int32)) 4 0 (1 : Int32)) 24 10 (-1 : Int32)) 6 0 (1 : Int32)) 6 1 (1 : Int32)) L 39 6977
  refine nv_iinc (j := 0) (v := 2) (ls' := [(1, .int (2 : Int32)), (0, .ref (am_B Z + 1))]) dX10_init_169 rfl (by decide) (Nat.le_of_ble_eq_true rfl) rfl ?_
  refine nv_goto (tgt := 157) dX10_init_172 rfl ?_
  refine nv_iload_n dX10_init_157 rfl 0 rfl ?_
  refine nv_iconst (v := 3) dX10_init_158 (by decide) ?_
  refine nv_geF (tgt := 175) dX10_init_159 rfl (by decide) ?_
  refine nv_aload_n dX10_init_162 rfl 1 rfl ?_
  refine nv_get 10 2 clX10 (v := .ref (am_B Z + 6)) (Nat.le_of_ble_eq_true rfl) (by rw [hZ]; rfl) (Nat.le_of_ble_eq_true rfl) inX10_init_X10 mlX10_init_19 rfl dX10_init_163 ?_
  refine nv_iload_n dX10_init_166 rfl 0 rfl ?_
  refine nv_iconst (v := 1) dX10_init_167 (by decide) ?_
  refine nv_iast (by rw [hZ]; rfl) (Nat.le_of_ble_eq_true rfl) (Nat.le_of_ble_eq_true rfl) (by decide) dX10_init_168 ?_
  show am_VN Z X kX10_init _ _ 169 [(1, .int (2 : Int32)), (0, .ref (am_B Z + 1))] [] 41 (am_upR (am_upR (am_upR (am_upR (am_upR (am_upR (am_upR (am_upR (am_upR (am_upR (am_upR (am_upR (am_upR (am_upR (am_upR (am_upR (am_upR (am_upR (am_upR (am_upR (am_upR (am_upR (am_upR (am_upR (am_upR (am_upR (am_upR (am_upR (am_upR (am_upR (am_upR (am_upR (am_upR (am_upR (am_upR (am_upR (am_upR (am_upR (am_upR R 2 3 3) 1 0 2) 4 3 5) 1 1 4) 1 2 6) 1 3 7) 8 1 9) 1 5 8) 10 1 11) 1 6 10) 12 1 13) 1 7 12) 1 8 14) 1 9 15) 16 0 17) 16 1 18) 1 10 16) 19 0 20) 19 1 21) 19 2 22) 19 3 23) 1 11 19) 25 0 26) 25 1 27) 24 0 25) 24 8 28) 24 11 29) 24 12 30) 1 12 24) 31 0 32) 1 13 31) 33 3 34) 33 4 35) 33 5 36) 1 15 33) 37 3 38) 37 4 39) 37 5 40) 1 16 37) (am_upI (am_upI (am_upI (am_upI (am_upI (am_upI I 2 0 (1 : Int32)) 4 0 (1 : Int32)) 24 10 (-1 : Int32)) 6 0 (1 : Int32)) 6 1 (1 : Int32)) 6 2 (1 : Int32)) L 39 6977
  refine nv_iinc (j := 0) (v := 3) (ls' := [(1, .int (3 : Int32)), (0, .ref (am_B Z + 1))]) dX10_init_169 rfl (by decide) (Nat.le_of_ble_eq_true rfl) rfl ?_
  refine nv_goto (tgt := 157) dX10_init_172 rfl ?_
  refine nv_iload_n dX10_init_157 rfl 0 rfl ?_
  refine nv_iconst (v := 3) dX10_init_158 (by decide) ?_
  refine nv_geT (tgt := 175) dX10_init_159 rfl (by decide) ?_
  refine nv_iconst (v := 0) dX10_init_175 (by decide) ?_
  refine nv_istore_n (ls' := [(1, .int (0 : Int32)), (0, .ref (am_B Z + 1))]) dX10_init_176 rfl (Nat.le_of_ble_eq_true rfl) rfl ?_
  refine nv_iload_n dX10_init_177 rfl 0 rfl ?_
  refine nv_iconst (v := 4) dX10_init_178 (by decide) ?_
  refine nv_geF (tgt := 201) dX10_init_179 rfl (by decide) ?_
  refine nv_aload_n dX10_init_182 rfl 1 rfl ?_
  refine nv_get 10 8 clX10 (v := .ref (am_B Z + 14)) (Nat.le_of_ble_eq_true rfl) (by rw [hZ]; rfl) (Nat.le_of_ble_eq_true rfl) inX10_init_X10 mlX10_init_45 rfl dX10_init_183 ?_
  refine nv_iload_n dX10_init_186 rfl 0 rfl ?_
  refine nv_new 5 clX5 am_tykX5 (by rw [hZ]; rfl) inX10_init_X5 mcX10_init_43 miX10_init_X5 mzX10_init_X5 (Nat.le_of_ble_eq_true rfl) (Nat.le_of_ble_eq_true rfl) dX10_init_187 ?_
  refine nv_dup dX10_init_190 rfl ?_
  refine nv_callI (Fn := (43, (am_upR (am_upR (am_upR (am_upR (am_upR (am_upR (am_upR (am_upR (am_upR (am_upR (am_upR (am_upR (am_upR (am_upR (am_upR (am_upR (am_upR (am_upR (am_upR (am_upR (am_upR (am_upR (am_upR (am_upR (am_upR (am_upR (am_upR (am_upR (am_upR (am_upR (am_upR (am_upR (am_upR (am_upR (am_upR (am_upR (am_upR (am_upR (am_upR (am_upR R 2 3 3) 1 0 2) 4 3 5) 1 1 4) 1 2 6) 1 3 7) 8 1 9) 1 5 8) 10 1 11) 1 6 10) 12 1 13) 1 7 12) 1 8 14) 1 9 15) 16 0 17) 16 1 18) 1 10 16) 19 0 20) 19 1 21) 19 2 22) 19 3 23) 1 11 19) 25 0 26) 25 1 27) 24 0 25) 24 8 28) 24 11 29) 24 12 30) 1 12 24) 31 0 32) 1 13 31) 33 3 34) 33 4 35) 33 5 36) 1 15 33) 37 3 38) 37 4 39) 37 5 40) 1 16 37) 41 2 42), (am_upI (am_upI (am_upI (am_upI (am_upI (am_upI (am_upI I 2 0 (1 : Int32)) 4 0 (1 : Int32)) 24 10 (-1 : Int32)) 6 0 (1 : Int32)) 6 1 (1 : Int32)) 6 2 (1 : Int32)) 41 0 (0 : Int32)), L)) (host := RX10) (tX5_init 41 42 _ _ _ (by rw [hZ]; rfl) (Nat.le_of_ble_eq_true rfl) (Nat.le_of_ble_eq_true rfl) (by rw [hZ]; rfl)) gX10_init_X5_init_n91 (by decide +kernel) (by decide +kernel) (by decide +kernel) rfl ⟨by decide +kernel, by decide +kernel, by decide +kernel⟩ rfl ⟨Nat.le_of_ble_eq_true rfl, Nat.le_of_ble_eq_true rfl⟩ ⟨Nat.le_of_ble_eq_true rfl, Nat.le_of_ble_eq_true rfl⟩ (Nat.le_of_ble_eq_true rfl) (fun hz => ((hz.up.R (Nat.le_of_ble_eq_true rfl)).I (Nat.le_of_ble_eq_true rfl))) (Nat.le_of_ble_eq_true rfl) dX10_init_191 ?_
  show am_VN Z X kX10_init _ _ 194 [(1, .int (0 : Int32)), (0, .ref (am_B Z + 1))] [.ref (am_B Z + 41), .int (0 : Int32), .ref (am_B Z + 14)] 43 (am_upR (am_upR (am_upR (am_upR (am_upR (am_upR (am_upR (am_upR (am_upR (am_upR (am_upR (am_upR (am_upR (am_upR (am_upR (am_upR (am_upR (am_upR (am_upR (am_upR (am_upR (am_upR (am_upR (am_upR (am_upR (am_upR (am_upR (am_upR (am_upR (am_upR (am_upR (am_upR (am_upR (am_upR (am_upR (am_upR (am_upR (am_upR (am_upR (am_upR R 2 3 3) 1 0 2) 4 3 5) 1 1 4) 1 2 6) 1 3 7) 8 1 9) 1 5 8) 10 1 11) 1 6 10) 12 1 13) 1 7 12) 1 8 14) 1 9 15) 16 0 17) 16 1 18) 1 10 16) 19 0 20) 19 1 21) 19 2 22) 19 3 23) 1 11 19) 25 0 26) 25 1 27) 24 0 25) 24 8 28) 24 11 29) 24 12 30) 1 12 24) 31 0 32) 1 13 31) 33 3 34) 33 4 35) 33 5 36) 1 15 33) 37 3 38) 37 4 39) 37 5 40) 1 16 37) 41 2 42) (am_upI (am_upI (am_upI (am_upI (am_upI (am_upI (am_upI I 2 0 (1 : Int32)) 4 0 (1 : Int32)) 24 10 (-1 : Int32)) 6 0 (1 : Int32)) 6 1 (1 : Int32)) 6 2 (1 : Int32)) 41 0 (0 : Int32)) L 41 7011
  refine nv_aast (by rw [hZ]; rfl) (Nat.le_of_ble_eq_true rfl) (Nat.le_of_ble_eq_true rfl) (by decide) (by rw [hZ]; rfl) (Nat.le_of_ble_eq_true rfl) (by decide) dX10_init_194 ?_
  show am_VN Z X kX10_init _ _ 195 [(1, .int (0 : Int32)), (0, .ref (am_B Z + 1))] [] 43 (am_upR (am_upR (am_upR (am_upR (am_upR (am_upR (am_upR (am_upR (am_upR (am_upR (am_upR (am_upR (am_upR (am_upR (am_upR (am_upR (am_upR (am_upR (am_upR (am_upR (am_upR (am_upR (am_upR (am_upR (am_upR (am_upR (am_upR (am_upR (am_upR (am_upR (am_upR (am_upR (am_upR (am_upR (am_upR (am_upR (am_upR (am_upR (am_upR (am_upR (am_upR R 2 3 3) 1 0 2) 4 3 5) 1 1 4) 1 2 6) 1 3 7) 8 1 9) 1 5 8) 10 1 11) 1 6 10) 12 1 13) 1 7 12) 1 8 14) 1 9 15) 16 0 17) 16 1 18) 1 10 16) 19 0 20) 19 1 21) 19 2 22) 19 3 23) 1 11 19) 25 0 26) 25 1 27) 24 0 25) 24 8 28) 24 11 29) 24 12 30) 1 12 24) 31 0 32) 1 13 31) 33 3 34) 33 4 35) 33 5 36) 1 15 33) 37 3 38) 37 4 39) 37 5 40) 1 16 37) 41 2 42) 14 0 41) (am_upI (am_upI (am_upI (am_upI (am_upI (am_upI (am_upI I 2 0 (1 : Int32)) 4 0 (1 : Int32)) 24 10 (-1 : Int32)) 6 0 (1 : Int32)) 6 1 (1 : Int32)) 6 2 (1 : Int32)) 41 0 (0 : Int32)) L 41 7011
  refine nv_iinc (j := 0) (v := 1) (ls' := [(1, .int (1 : Int32)), (0, .ref (am_B Z + 1))]) dX10_init_195 rfl (by decide) (Nat.le_of_ble_eq_true rfl) rfl ?_
  refine nv_goto (tgt := 177) dX10_init_198 rfl ?_
  refine nv_iload_n dX10_init_177 rfl 0 rfl ?_
  refine nv_iconst (v := 4) dX10_init_178 (by decide) ?_
  refine nv_geF (tgt := 201) dX10_init_179 rfl (by decide) ?_
  refine nv_aload_n dX10_init_182 rfl 1 rfl ?_
  refine nv_get 10 8 clX10 (v := .ref (am_B Z + 14)) (Nat.le_of_ble_eq_true rfl) (by rw [hZ]; rfl) (Nat.le_of_ble_eq_true rfl) inX10_init_X10 mlX10_init_45 rfl dX10_init_183 ?_
  refine nv_iload_n dX10_init_186 rfl 0 rfl ?_
  refine nv_new 5 clX5 am_tykX5 (by rw [hZ]; rfl) inX10_init_X5 mcX10_init_43 miX10_init_X5 mzX10_init_X5 (Nat.le_of_ble_eq_true rfl) (Nat.le_of_ble_eq_true rfl) dX10_init_187 ?_
  refine nv_dup dX10_init_190 rfl ?_
  refine nv_callI (Fn := (45, (am_upR (am_upR (am_upR (am_upR (am_upR (am_upR (am_upR (am_upR (am_upR (am_upR (am_upR (am_upR (am_upR (am_upR (am_upR (am_upR (am_upR (am_upR (am_upR (am_upR (am_upR (am_upR (am_upR (am_upR (am_upR (am_upR (am_upR (am_upR (am_upR (am_upR (am_upR (am_upR (am_upR (am_upR (am_upR (am_upR (am_upR (am_upR (am_upR (am_upR (am_upR (am_upR R 2 3 3) 1 0 2) 4 3 5) 1 1 4) 1 2 6) 1 3 7) 8 1 9) 1 5 8) 10 1 11) 1 6 10) 12 1 13) 1 7 12) 1 8 14) 1 9 15) 16 0 17) 16 1 18) 1 10 16) 19 0 20) 19 1 21) 19 2 22) 19 3 23) 1 11 19) 25 0 26) 25 1 27) 24 0 25) 24 8 28) 24 11 29) 24 12 30) 1 12 24) 31 0 32) 1 13 31) 33 3 34) 33 4 35) 33 5 36) 1 15 33) 37 3 38) 37 4 39) 37 5 40) 1 16 37) 41 2 42) 14 0 41) 43 2 44), (am_upI (am_upI (am_upI (am_upI (am_upI (am_upI (am_upI (am_upI I 2 0 (1 : Int32)) 4 0 (1 : Int32)) 24 10 (-1 : Int32)) 6 0 (1 : Int32)) 6 1 (1 : Int32)) 6 2 (1 : Int32)) 41 0 (0 : Int32)) 43 0 (0 : Int32)), L)) (host := RX10) (tX5_init 43 44 _ _ _ (by rw [hZ]; rfl) (Nat.le_of_ble_eq_true rfl) (Nat.le_of_ble_eq_true rfl) (by rw [hZ]; rfl)) gX10_init_X5_init_n91 (by decide +kernel) (by decide +kernel) (by decide +kernel) rfl ⟨by decide +kernel, by decide +kernel, by decide +kernel⟩ rfl ⟨Nat.le_of_ble_eq_true rfl, Nat.le_of_ble_eq_true rfl⟩ ⟨Nat.le_of_ble_eq_true rfl, Nat.le_of_ble_eq_true rfl⟩ (Nat.le_of_ble_eq_true rfl) (fun hz => ((hz.up.R (Nat.le_of_ble_eq_true rfl)).I (Nat.le_of_ble_eq_true rfl))) (Nat.le_of_ble_eq_true rfl) dX10_init_191 ?_
  show am_VN Z X kX10_init _ _ 194 [(1, .int (1 : Int32)), (0, .ref (am_B Z + 1))] [.ref (am_B Z + 43), .int (1 : Int32), .ref (am_B Z + 14)] 45 (am_upR (am_upR (am_upR (am_upR (am_upR (am_upR (am_upR (am_upR (am_upR (am_upR (am_upR (am_upR (am_upR (am_upR (am_upR (am_upR (am_upR (am_upR (am_upR (am_upR (am_upR (am_upR (am_upR (am_upR (am_upR (am_upR (am_upR (am_upR (am_upR (am_upR (am_upR (am_upR (am_upR (am_upR (am_upR (am_upR (am_upR (am_upR (am_upR (am_upR (am_upR (am_upR R 2 3 3) 1 0 2) 4 3 5) 1 1 4) 1 2 6) 1 3 7) 8 1 9) 1 5 8) 10 1 11) 1 6 10) 12 1 13) 1 7 12) 1 8 14) 1 9 15) 16 0 17) 16 1 18) 1 10 16) 19 0 20) 19 1 21) 19 2 22) 19 3 23) 1 11 19) 25 0 26) 25 1 27) 24 0 25) 24 8 28) 24 11 29) 24 12 30) 1 12 24) 31 0 32) 1 13 31) 33 3 34) 33 4 35) 33 5 36) 1 15 33) 37 3 38) 37 4 39) 37 5 40) 1 16 37) 41 2 42) 14 0 41) 43 2 44) (am_upI (am_upI (am_upI (am_upI (am_upI (am_upI (am_upI (am_upI I 2 0 (1 : Int32)) 4 0 (1 : Int32)) 24 10 (-1 : Int32)) 6 0 (1 : Int32)) 6 1 (1 : Int32)) 6 2 (1 : Int32)) 41 0 (0 : Int32)) 43 0 (0 : Int32)) L 43 7045
  refine nv_aast (by rw [hZ]; rfl) (Nat.le_of_ble_eq_true rfl) (Nat.le_of_ble_eq_true rfl) (by decide) (by rw [hZ]; rfl) (Nat.le_of_ble_eq_true rfl) (by decide) dX10_init_194 ?_
  show am_VN Z X kX10_init _ _ 195 [(1, .int (1 : Int32)), (0, .ref (am_B Z + 1))] [] 45 (am_upR (am_upR (am_upR (am_upR (am_upR (am_upR (am_upR (am_upR (am_upR (am_upR (am_upR (am_upR (am_upR (am_upR (am_upR (am_upR (am_upR (am_upR (am_upR (am_upR (am_upR (am_upR (am_upR (am_upR (am_upR (am_upR (am_upR (am_upR (am_upR (am_upR (am_upR (am_upR (am_upR (am_upR (am_upR (am_upR (am_upR (am_upR (am_upR (am_upR (am_upR (am_upR (am_upR R 2 3 3) 1 0 2) 4 3 5) 1 1 4) 1 2 6) 1 3 7) 8 1 9) 1 5 8) 10 1 11) 1 6 10) 12 1 13) 1 7 12) 1 8 14) 1 9 15) 16 0 17) 16 1 18) 1 10 16) 19 0 20) 19 1 21) 19 2 22) 19 3 23) 1 11 19) 25 0 26) 25 1 27) 24 0 25) 24 8 28) 24 11 29) 24 12 30) 1 12 24) 31 0 32) 1 13 31) 33 3 34) 33 4 35) 33 5 36) 1 15 33) 37 3 38) 37 4 39) 37 5 40) 1 16 37) 41 2 42) 14 0 41) 43 2 44) 14 1 43) (am_upI (am_upI (am_upI (am_upI (am_upI (am_upI (am_upI (am_upI I 2 0 (1 : Int32)) 4 0 (1 : Int32)) 24 10 (-1 : Int32)) 6 0 (1 : Int32)) 6 1 (1 : Int32)) 6 2 (1 : Int32)) 41 0 (0 : Int32)) 43 0 (0 : Int32)) L 43 7045
  refine nv_iinc (j := 0) (v := 2) (ls' := [(1, .int (2 : Int32)), (0, .ref (am_B Z + 1))]) dX10_init_195 rfl (by decide) (Nat.le_of_ble_eq_true rfl) rfl ?_
  refine nv_goto (tgt := 177) dX10_init_198 rfl ?_
  refine nv_iload_n dX10_init_177 rfl 0 rfl ?_
  refine nv_iconst (v := 4) dX10_init_178 (by decide) ?_
  refine nv_geF (tgt := 201) dX10_init_179 rfl (by decide) ?_
  refine nv_aload_n dX10_init_182 rfl 1 rfl ?_
  refine nv_get 10 8 clX10 (v := .ref (am_B Z + 14)) (Nat.le_of_ble_eq_true rfl) (by rw [hZ]; rfl) (Nat.le_of_ble_eq_true rfl) inX10_init_X10 mlX10_init_45 rfl dX10_init_183 ?_
  refine nv_iload_n dX10_init_186 rfl 0 rfl ?_
  refine nv_new 5 clX5 am_tykX5 (by rw [hZ]; rfl) inX10_init_X5 mcX10_init_43 miX10_init_X5 mzX10_init_X5 (Nat.le_of_ble_eq_true rfl) (Nat.le_of_ble_eq_true rfl) dX10_init_187 ?_
  refine nv_dup dX10_init_190 rfl ?_
  refine nv_callI (Fn := (47, (am_upR (am_upR (am_upR (am_upR (am_upR (am_upR (am_upR (am_upR (am_upR (am_upR (am_upR (am_upR (am_upR (am_upR (am_upR (am_upR (am_upR (am_upR (am_upR (am_upR (am_upR (am_upR (am_upR (am_upR (am_upR (am_upR (am_upR (am_upR (am_upR (am_upR (am_upR (am_upR (am_upR (am_upR (am_upR (am_upR (am_upR (am_upR (am_upR (am_upR (am_upR (am_upR (am_upR (am_upR R 2 3 3) 1 0 2) 4 3 5) 1 1 4) 1 2 6) 1 3 7) 8 1 9) 1 5 8) 10 1 11) 1 6 10) 12 1 13) 1 7 12) 1 8 14) 1 9 15) 16 0 17) 16 1 18) 1 10 16) 19 0 20) 19 1 21) 19 2 22) 19 3 23) 1 11 19) 25 0 26) 25 1 27) 24 0 25) 24 8 28) 24 11 29) 24 12 30) 1 12 24) 31 0 32) 1 13 31) 33 3 34) 33 4 35) 33 5 36) 1 15 33) 37 3 38) 37 4 39) 37 5 40) 1 16 37) 41 2 42) 14 0 41) 43 2 44) 14 1 43) 45 2 46), (am_upI (am_upI (am_upI (am_upI (am_upI (am_upI (am_upI (am_upI (am_upI I 2 0 (1 : Int32)) 4 0 (1 : Int32)) 24 10 (-1 : Int32)) 6 0 (1 : Int32)) 6 1 (1 : Int32)) 6 2 (1 : Int32)) 41 0 (0 : Int32)) 43 0 (0 : Int32)) 45 0 (0 : Int32)), L)) (host := RX10) (tX5_init 45 46 _ _ _ (by rw [hZ]; rfl) (Nat.le_of_ble_eq_true rfl) (Nat.le_of_ble_eq_true rfl) (by rw [hZ]; rfl)) gX10_init_X5_init_n91 (by decide +kernel) (by decide +kernel) (by decide +kernel) rfl ⟨by decide +kernel, by decide +kernel, by decide +kernel⟩ rfl ⟨Nat.le_of_ble_eq_true rfl, Nat.le_of_ble_eq_true rfl⟩ ⟨Nat.le_of_ble_eq_true rfl, Nat.le_of_ble_eq_true rfl⟩ (Nat.le_of_ble_eq_true rfl) (fun hz => ((hz.up.R (Nat.le_of_ble_eq_true rfl)).I (Nat.le_of_ble_eq_true rfl))) (Nat.le_of_ble_eq_true rfl) dX10_init_191 ?_
  show am_VN Z X kX10_init _ _ 194 [(1, .int (2 : Int32)), (0, .ref (am_B Z + 1))] [.ref (am_B Z + 45), .int (2 : Int32), .ref (am_B Z + 14)] 47 (am_upR (am_upR (am_upR (am_upR (am_upR (am_upR (am_upR (am_upR (am_upR (am_upR (am_upR (am_upR (am_upR (am_upR (am_upR (am_upR (am_upR (am_upR (am_upR (am_upR (am_upR (am_upR (am_upR (am_upR (am_upR (am_upR (am_upR (am_upR (am_upR (am_upR (am_upR (am_upR (am_upR (am_upR (am_upR (am_upR (am_upR (am_upR (am_upR (am_upR (am_upR (am_upR (am_upR (am_upR R 2 3 3) 1 0 2) 4 3 5) 1 1 4) 1 2 6) 1 3 7) 8 1 9) 1 5 8) 10 1 11) 1 6 10) 12 1 13) 1 7 12) 1 8 14) 1 9 15) 16 0 17) 16 1 18) 1 10 16) 19 0 20) 19 1 21) 19 2 22) 19 3 23) 1 11 19) 25 0 26) 25 1 27) 24 0 25) 24 8 28) 24 11 29) 24 12 30) 1 12 24) 31 0 32) 1 13 31) 33 3 34) 33 4 35) 33 5 36) 1 15 33) 37 3 38) 37 4 39) 37 5 40) 1 16 37) 41 2 42) 14 0 41) 43 2 44) 14 1 43) 45 2 46) (am_upI (am_upI (am_upI (am_upI (am_upI (am_upI (am_upI (am_upI (am_upI I 2 0 (1 : Int32)) 4 0 (1 : Int32)) 24 10 (-1 : Int32)) 6 0 (1 : Int32)) 6 1 (1 : Int32)) 6 2 (1 : Int32)) 41 0 (0 : Int32)) 43 0 (0 : Int32)) 45 0 (0 : Int32)) L 45 7079
  refine nv_aast (by rw [hZ]; rfl) (Nat.le_of_ble_eq_true rfl) (Nat.le_of_ble_eq_true rfl) (by decide) (by rw [hZ]; rfl) (Nat.le_of_ble_eq_true rfl) (by decide) dX10_init_194 ?_
  show am_VN Z X kX10_init _ _ 195 [(1, .int (2 : Int32)), (0, .ref (am_B Z + 1))] [] 47 (am_upR (am_upR (am_upR (am_upR (am_upR (am_upR (am_upR (am_upR (am_upR (am_upR (am_upR (am_upR (am_upR (am_upR (am_upR (am_upR (am_upR (am_upR (am_upR (am_upR (am_upR (am_upR (am_upR (am_upR (am_upR (am_upR (am_upR (am_upR (am_upR (am_upR (am_upR (am_upR (am_upR (am_upR (am_upR (am_upR (am_upR (am_upR (am_upR (am_upR (am_upR (am_upR (am_upR (am_upR (am_upR R 2 3 3) 1 0 2) 4 3 5) 1 1 4) 1 2 6) 1 3 7) 8 1 9) 1 5 8) 10 1 11) 1 6 10) 12 1 13) 1 7 12) 1 8 14) 1 9 15) 16 0 17) 16 1 18) 1 10 16) 19 0 20) 19 1 21) 19 2 22) 19 3 23) 1 11 19) 25 0 26) 25 1 27) 24 0 25) 24 8 28) 24 11 29) 24 12 30) 1 12 24) 31 0 32) 1 13 31) 33 3 34) 33 4 35) 33 5 36) 1 15 33) 37 3 38) 37 4 39) 37 5 40) 1 16 37) 41 2 42) 14 0 41) 43 2 44) 14 1 43) 45 2 46) 14 2 45) (am_upI (am_upI (am_upI (am_upI (am_upI (am_upI (am_upI (am_upI (am_upI I 2 0 (1 : Int32)) 4 0 (1 : Int32)) 24 10 (-1 : Int32)) 6 0 (1 : Int32)) 6 1 (1 : Int32)) 6 2 (1 : Int32)) 41 0 (0 : Int32)) 43 0 (0 : Int32)) 45 0 (0 : Int32)) L 45 7079
  refine nv_iinc (j := 0) (v := 3) (ls' := [(1, .int (3 : Int32)), (0, .ref (am_B Z + 1))]) dX10_init_195 rfl (by decide) (Nat.le_of_ble_eq_true rfl) rfl ?_
  refine nv_goto (tgt := 177) dX10_init_198 rfl ?_
  refine nv_iload_n dX10_init_177 rfl 0 rfl ?_
  refine nv_iconst (v := 4) dX10_init_178 (by decide) ?_
  refine nv_geF (tgt := 201) dX10_init_179 rfl (by decide) ?_
  refine nv_aload_n dX10_init_182 rfl 1 rfl ?_
  refine nv_get 10 8 clX10 (v := .ref (am_B Z + 14)) (Nat.le_of_ble_eq_true rfl) (by rw [hZ]; rfl) (Nat.le_of_ble_eq_true rfl) inX10_init_X10 mlX10_init_45 rfl dX10_init_183 ?_
  refine nv_iload_n dX10_init_186 rfl 0 rfl ?_
  refine nv_new 5 clX5 am_tykX5 (by rw [hZ]; rfl) inX10_init_X5 mcX10_init_43 miX10_init_X5 mzX10_init_X5 (Nat.le_of_ble_eq_true rfl) (Nat.le_of_ble_eq_true rfl) dX10_init_187 ?_
  refine nv_dup dX10_init_190 rfl ?_
  refine nv_callI (Fn := (49, (am_upR (am_upR (am_upR (am_upR (am_upR (am_upR (am_upR (am_upR (am_upR (am_upR (am_upR (am_upR (am_upR (am_upR (am_upR (am_upR (am_upR (am_upR (am_upR (am_upR (am_upR (am_upR (am_upR (am_upR (am_upR (am_upR (am_upR (am_upR (am_upR (am_upR (am_upR (am_upR (am_upR (am_upR (am_upR (am_upR (am_upR (am_upR (am_upR (am_upR (am_upR (am_upR (am_upR (am_upR (am_upR (am_upR R 2 3 3) 1 0 2) 4 3 5) 1 1 4) 1 2 6) 1 3 7) 8 1 9) 1 5 8) 10 1 11) 1 6 10) 12 1 13) 1 7 12) 1 8 14) 1 9 15) 16 0 17) 16 1 18) 1 10 16) 19 0 20) 19 1 21) 19 2 22) 19 3 23) 1 11 19) 25 0 26) 25 1 27) 24 0 25) 24 8 28) 24 11 29) 24 12 30) 1 12 24) 31 0 32) 1 13 31) 33 3 34) 33 4 35) 33 5 36) 1 15 33) 37 3 38) 37 4 39) 37 5 40) 1 16 37) 41 2 42) 14 0 41) 43 2 44) 14 1 43) 45 2 46) 14 2 45) 47 2 48), (am_upI (am_upI (am_upI (am_upI (am_upI (am_upI (am_upI (am_upI (am_upI (am_upI I 2 0 (1 : Int32)) 4 0 (1 : Int32)) 24 10 (-1 : Int32)) 6 0 (1 : Int32)) 6 1 (1 : Int32)) 6 2 (1 : Int32)) 41 0 (0 : Int32)) 43 0 (0 : Int32)) 45 0 (0 : Int32)) 47 0 (0 : Int32)), L)) (host := RX10) (tX5_init 47 48 _ _ _ (by rw [hZ]; rfl) (Nat.le_of_ble_eq_true rfl) (Nat.le_of_ble_eq_true rfl) (by rw [hZ]; rfl)) gX10_init_X5_init_n91 (by decide +kernel) (by decide +kernel) (by decide +kernel) rfl ⟨by decide +kernel, by decide +kernel, by decide +kernel⟩ rfl ⟨Nat.le_of_ble_eq_true rfl, Nat.le_of_ble_eq_true rfl⟩ ⟨Nat.le_of_ble_eq_true rfl, Nat.le_of_ble_eq_true rfl⟩ (Nat.le_of_ble_eq_true rfl) (fun hz => ((hz.up.R (Nat.le_of_ble_eq_true rfl)).I (Nat.le_of_ble_eq_true rfl))) (Nat.le_of_ble_eq_true rfl) dX10_init_191 ?_
  show am_VN Z X kX10_init _ _ 194 [(1, .int (3 : Int32)), (0, .ref (am_B Z + 1))] [.ref (am_B Z + 47), .int (3 : Int32), .ref (am_B Z + 14)] 49 (am_upR (am_upR (am_upR (am_upR (am_upR (am_upR (am_upR (am_upR (am_upR (am_upR (am_upR (am_upR (am_upR (am_upR (am_upR (am_upR (am_upR (am_upR (am_upR (am_upR (am_upR (am_upR (am_upR (am_upR (am_upR (am_upR (am_upR (am_upR (am_upR (am_upR (am_upR (am_upR (am_upR (am_upR (am_upR (am_upR (am_upR (am_upR (am_upR (am_upR (am_upR (am_upR (am_upR (am_upR (am_upR (am_upR R 2 3 3) 1 0 2) 4 3 5) 1 1 4) 1 2 6) 1 3 7) 8 1 9) 1 5 8) 10 1 11) 1 6 10) 12 1 13) 1 7 12) 1 8 14) 1 9 15) 16 0 17) 16 1 18) 1 10 16) 19 0 20) 19 1 21) 19 2 22) 19 3 23) 1 11 19) 25 0 26) 25 1 27) 24 0 25) 24 8 28) 24 11 29) 24 12 30) 1 12 24) 31 0 32) 1 13 31) 33 3 34) 33 4 35) 33 5 36) 1 15 33) 37 3 38) 37 4 39) 37 5 40) 1 16 37) 41 2 42) 14 0 41) 43 2 44) 14 1 43) 45 2 46) 14 2 45) 47 2 48) (am_upI (am_upI (am_upI (am_upI (am_upI (am_upI (am_upI (am_upI (am_upI (am_upI I 2 0 (1 : Int32)) 4 0 (1 : Int32)) 24 10 (-1 : Int32)) 6 0 (1 : Int32)) 6 1 (1 : Int32)) 6 2 (1 : Int32)) 41 0 (0 : Int32)) 43 0 (0 : Int32)) 45 0 (0 : Int32)) 47 0 (0 : Int32)) L 47 7113
  refine nv_aast (by rw [hZ]; rfl) (Nat.le_of_ble_eq_true rfl) (Nat.le_of_ble_eq_true rfl) (by decide) (by rw [hZ]; rfl) (Nat.le_of_ble_eq_true rfl) (by decide) dX10_init_194 ?_
  show am_VN Z X kX10_init _ _ 195 [(1, .int (3 : Int32)), (0, .ref (am_B Z + 1))] [] 49 (am_upR (am_upR (am_upR (am_upR (am_upR (am_upR (am_upR (am_upR (am_upR (am_upR (am_upR (am_upR (am_upR (am_upR (am_upR (am_upR (am_upR (am_upR (am_upR (am_upR (am_upR (am_upR (am_upR (am_upR (am_upR (am_upR (am_upR (am_upR (am_upR (am_upR (am_upR (am_upR (am_upR (am_upR (am_upR (am_upR (am_upR (am_upR (am_upR (am_upR (am_upR (am_upR (am_upR (am_upR (am_upR (am_upR (am_upR R 2 3 3) 1 0 2) 4 3 5) 1 1 4) 1 2 6) 1 3 7) 8 1 9) 1 5 8) 10 1 11) 1 6 10) 12 1 13) 1 7 12) 1 8 14) 1 9 15) 16 0 17) 16 1 18) 1 10 16) 19 0 20) 19 1 21) 19 2 22) 19 3 23) 1 11 19) 25 0 26) 25 1 27) 24 0 25) 24 8 28) 24 11 29) 24 12 30) 1 12 24) 31 0 32) 1 13 31) 33 3 34) 33 4 35) 33 5 36) 1 15 33) 37 3 38) 37 4 39) 37 5 40) 1 16 37) 41 2 42) 14 0 41) 43 2 44) 14 1 43) 45 2 46) 14 2 45) 47 2 48) 14 3 47) (am_upI (am_upI (am_upI (am_upI (am_upI (am_upI (am_upI (am_upI (am_upI (am_upI I 2 0 (1 : Int32)) 4 0 (1 : Int32)) 24 10 (-1 : Int32)) 6 0 (1 : Int32)) 6 1 (1 : Int32)) 6 2 (1 : Int32)) 41 0 (0 : Int32)) 43 0 (0 : Int32)) 45 0 (0 : Int32)) 47 0 (0 : Int32)) L 47 7113
  refine nv_iinc (j := 0) (v := 4) (ls' := [(1, .int (4 : Int32)), (0, .ref (am_B Z + 1))]) dX10_init_195 rfl (by decide) (Nat.le_of_ble_eq_true rfl) rfl ?_
  refine nv_goto (tgt := 177) dX10_init_198 rfl ?_
  refine nv_iload_n dX10_init_177 rfl 0 rfl ?_
  refine nv_iconst (v := 4) dX10_init_178 (by decide) ?_
  refine nv_geT (tgt := 201) dX10_init_179 rfl (by decide) ?_
  exact nv_ret rfl rfl rfl rfl dX10_init_201
/-- the shapes of the cells that the reference makes -/
def am_GMl : List am_Sh := [.inl 11, .inr (0, 18), .inr (0, 18), .inr (0, 3), .inr (0, 6), .inr (0, 18), .inr (0, 60), .inr (0, 90), .inr (0, 20), .inr (1, 64), .inr (1, 64), .inr (0, 216), .inr (0, 216), .inr (0, 216), .inr (2, 216), .inr (2, 216), .inr (2, 36), .inr (0, 36), .inr (1, 6000), .inr (1, 6), .inr (0, 6), .inr (0, 64), .inr (0, 64), .inr (0, 64), .inr (0, 64), .inr (1, 192), .inr (1, 192), .inr (0, 4), .inr (0, 4), .inr (1, 124), .inr (1, 31), .inr (0, 24)]
def am_GM : am_S := fun a => match a with
  | 0 => none
  | k + 1 => am_GMl[k]?
abbrev kX11_init : am_K := (cX11_init, 1, RX11, wsX11_init, none, { frames := 1, cells := 31, slots := 8352, locals := 20 })
theorem mo1X11_init : Cond.methodLink RX11 1 objectInit ∈ wsX11_init := by decide +kernel
theorem mo2X11_init : Cond.instanceMethod objectInit ∈ wsX11_init := by decide +kernel
theorem mo3X11_init : Cond.code objectInit ⟨#[0xb1]⟩ 1 none ∈ wsX11_init := by decide +kernel
theorem maX11_init_0 : Cond.arrayClass .int ∈ wsX11_init := by decide +kernel
theorem inX11_init_X11 : ∀ w ∈ u_ws RX11 TX11 50, w ∈ wsX11_init := by decide +kernel
theorem mlX11_init_7 : Cond.fieldLink RX11 7 "AmbiguityAnalyzerModel" "targets" "[I" ∈ wsX11_init := by decide +kernel
theorem mlX11_init_13 : Cond.fieldLink RX11 13 "AmbiguityAnalyzerModel" "sources" "[I" ∈ wsX11_init := by decide +kernel
theorem mlX11_init_16 : Cond.fieldLink RX11 16 "AmbiguityAnalyzerModel" "weight" "[I" ∈ wsX11_init := by decide +kernel
theorem mlX11_init_19 : Cond.fieldLink RX11 19 "AmbiguityAnalyzerModel" "states" "I" ∈ wsX11_init := by decide +kernel
theorem mlX11_init_23 : Cond.fieldLink RX11 23 "AmbiguityAnalyzerModel" "numberOf" "[I" ∈ wsX11_init := by decide +kernel
theorem mlX11_init_26 : Cond.fieldLink RX11 26 "AmbiguityAnalyzerModel" "oldTargets" "[I" ∈ wsX11_init := by decide +kernel
theorem mlX11_init_29 : Cond.fieldLink RX11 29 "AmbiguityAnalyzerModel" "text" "[I" ∈ wsX11_init := by decide +kernel
theorem mlX11_init_32 : Cond.fieldLink RX11 32 "AmbiguityAnalyzerModel" "item" "[I" ∈ wsX11_init := by decide +kernel
theorem mlX11_init_35 : Cond.fieldLink RX11 35 "AmbiguityAnalyzerModel" "word" "[I" ∈ wsX11_init := by decide +kernel
theorem maX11_init_1 : Cond.arrayClass .long ∈ wsX11_init := by decide +kernel
theorem mlX11_init_38 : Cond.fieldLink RX11 38 "AmbiguityAnalyzerModel" "ways" "[J" ∈ wsX11_init := by decide +kernel
theorem mlX11_init_42 : Cond.fieldLink RX11 42 "AmbiguityAnalyzerModel" "newWays" "[J" ∈ wsX11_init := by decide +kernel
theorem mlX11_init_45 : Cond.fieldLink RX11 45 "AmbiguityAnalyzerModel" "distance" "[I" ∈ wsX11_init := by decide +kernel
theorem mlX11_init_48 : Cond.fieldLink RX11 48 "AmbiguityAnalyzerModel" "queue" "[I" ∈ wsX11_init := by decide +kernel
theorem mlX11_init_51 : Cond.fieldLink RX11 51 "AmbiguityAnalyzerModel" "witness" "[I" ∈ wsX11_init := by decide +kernel
theorem maX11_init_2 : Cond.arrayClass .boolean ∈ wsX11_init := by decide +kernel
theorem mlX11_init_54 : Cond.fieldLink RX11 54 "AmbiguityAnalyzerModel" "isHere" "[Z" ∈ wsX11_init := by decide +kernel
theorem mlX11_init_58 : Cond.fieldLink RX11 58 "AmbiguityAnalyzerModel" "isThere" "[Z" ∈ wsX11_init := by decide +kernel
theorem mlX11_init_61 : Cond.fieldLink RX11 61 "AmbiguityAnalyzerModel" "isSplit" "[Z" ∈ wsX11_init := by decide +kernel
theorem mlX11_init_64 : Cond.fieldLink RX11 64 "AmbiguityAnalyzerModel" "chain" "[I" ∈ wsX11_init := by decide +kernel
theorem mlX11_init_67 : Cond.fieldLink RX11 67 "AmbiguityAnalyzerModel" "rows" "[J" ∈ wsX11_init := by decide +kernel
theorem mlX11_init_70 : Cond.fieldLink RX11 70 "AmbiguityAnalyzerModel" "row" "[J" ∈ wsX11_init := by decide +kernel
theorem mlX11_init_73 : Cond.fieldLink RX11 73 "AmbiguityAnalyzerModel" "lightest" "[I" ∈ wsX11_init := by decide +kernel
theorem mlX11_init_76 : Cond.fieldLink RX11 76 "AmbiguityAnalyzerModel" "own" "[I" ∈ wsX11_init := by decide +kernel
theorem mlX11_init_79 : Cond.fieldLink RX11 79 "AmbiguityAnalyzerModel" "lower" "[I" ∈ wsX11_init := by decide +kernel
theorem mlX11_init_82 : Cond.fieldLink RX11 82 "AmbiguityAnalyzerModel" "newOwn" "[I" ∈ wsX11_init := by decide +kernel
theorem mlX11_init_85 : Cond.fieldLink RX11 85 "AmbiguityAnalyzerModel" "newLower" "[I" ∈ wsX11_init := by decide +kernel
theorem mlX11_init_88 : Cond.fieldLink RX11 88 "AmbiguityAnalyzerModel" "resultTargets" "[J" ∈ wsX11_init := by decide +kernel
theorem mlX11_init_91 : Cond.fieldLink RX11 91 "AmbiguityAnalyzerModel" "newTargets" "[J" ∈ wsX11_init := by decide +kernel
theorem mlX11_init_94 : Cond.fieldLink RX11 94 "AmbiguityAnalyzerModel" "resultStates" "I" ∈ wsX11_init := by decide +kernel
theorem mlX11_init_97 : Cond.fieldLink RX11 97 "AmbiguityAnalyzerModel" "shelfKind" "[I" ∈ wsX11_init := by decide +kernel
theorem mlX11_init_100 : Cond.fieldLink RX11 100 "AmbiguityAnalyzerModel" "shelfLength" "[I" ∈ wsX11_init := by decide +kernel
theorem mlX11_init_103 : Cond.fieldLink RX11 103 "AmbiguityAnalyzerModel" "shelved" "[J" ∈ wsX11_init := by decide +kernel
theorem mlX11_init_106 : Cond.fieldLink RX11 106 "AmbiguityAnalyzerModel" "counts" "[J" ∈ wsX11_init := by decide +kernel
theorem mlX11_init_109 : Cond.fieldLink RX11 109 "AmbiguityAnalyzerModel" "saved" "[I" ∈ wsX11_init := by decide +kernel
set_option maxRecDepth 100000 in
set_option maxHeartbeats 4000000 in
theorem tX11_init {Z : am_Z} (R : am_R) (I : am_I) (L : am_L) (hZ : am_G Z = am_GM) : am_MN Z 1 yX11_init kX11_init [.ref (am_B Z + 1)] 2 R I L (33, (am_upR (am_upR (am_upR (am_upR (am_upR (am_upR (am_upR (am_upR (am_upR (am_upR (am_upR (am_upR (am_upR (am_upR (am_upR (am_upR (am_upR (am_upR (am_upR (am_upR (am_upR (am_upR (am_upR (am_upR (am_upR (am_upR (am_upR (am_upR (am_upR (am_upR (am_upR R 1 0 2) 1 1 3) 1 2 4) 1 7 5) 1 8 6) 1 10 7) 1 11 8) 1 15 9) 1 17 10) 1 18 11) 1 19 12) 1 20 13) 1 22 14) 1 23 15) 1 24 16) 1 26 17) 1 30 18) 1 31 19) 1 32 20) 1 33 21) 1 34 22) 1 35 23) 1 36 24) 1 37 25) 1 38 26) 1 39 27) 1 44 28) 1 45 29) 1 46 30) 1 47 31) 1 48 32), (am_upI (am_upI (am_upI (am_upI (am_upI I 4 0 (1 : Int32)) 4 1 (1 : Int32)) 4 2 (1 : Int32)) 1 3 (1 : Int32)) 1 40 (-4 : Int32)), L) := by
  refine am_entryN (ls := [(0, .ref (am_B Z + 1))]) (by decide) rfl rfl rfl (Nat.le_of_ble_eq_true rfl) rfl (fun X => ?_)
  refine nv_aload_n dX11_init_0 rfl 0 rfl ?_
  refine nv_obj mo1X11_init mo2X11_init mo3X11_init (Nat.le_of_ble_eq_true rfl) (Nat.le_of_ble_eq_true rfl) dX11_init_1 ?_
  refine nv_aload_n dX11_init_4 rfl 0 rfl ?_
  refine nv_bipush (v := 18) dX11_init_5 (by decide) ?_
  refine nv_newa 0 (atype := .int) (N := 18) rfl (by decide) (by rw [hZ]; rfl) maX11_init_0 (by decide) (by decide) (Nat.le_of_ble_eq_true rfl) (Nat.le_of_ble_eq_true rfl) (Nat.le_of_ble_eq_true rfl) dX11_init_7 ?_
  refine nv_putR true 11 0 clX11 (Nat.le_of_ble_eq_true rfl) (by rw [hZ]; rfl) (Nat.le_of_ble_eq_true rfl) (Nat.le_of_ble_eq_true rfl) inX11_init_X11 mlX11_init_7 rfl rfl (Or.inr ⟨_, rfl⟩) (by decide) dX11_init_9 ?_
  refine nv_aload_n dX11_init_12 rfl 0 rfl ?_
  refine nv_bipush (v := 18) dX11_init_13 (by decide) ?_
  refine nv_newa 0 (atype := .int) (N := 18) rfl (by decide) (by rw [hZ]; rfl) maX11_init_0 (by decide) (by decide) (Nat.le_of_ble_eq_true rfl) (Nat.le_of_ble_eq_true rfl) (Nat.le_of_ble_eq_true rfl) dX11_init_15 ?_
  refine nv_putR true 11 1 clX11 (Nat.le_of_ble_eq_true rfl) (by rw [hZ]; rfl) (Nat.le_of_ble_eq_true rfl) (Nat.le_of_ble_eq_true rfl) inX11_init_X11 mlX11_init_13 rfl rfl (Or.inr ⟨_, rfl⟩) (by decide) dX11_init_17 ?_
  refine nv_aload_n dX11_init_20 rfl 0 rfl ?_
  refine nv_iconst (v := 3) dX11_init_21 (by decide) ?_
  refine nv_newa 0 (atype := .int) (N := 3) rfl (by decide) (by rw [hZ]; rfl) maX11_init_0 (by decide) (by decide) (Nat.le_of_ble_eq_true rfl) (Nat.le_of_ble_eq_true rfl) (Nat.le_of_ble_eq_true rfl) dX11_init_22 ?_
  refine nv_dup dX11_init_24 rfl ?_
  refine nv_iconst (v := 0) dX11_init_25 (by decide) ?_
  refine nv_iconst (v := 1) dX11_init_26 (by decide) ?_
  refine nv_iast (by rw [hZ]; rfl) (Nat.le_of_ble_eq_true rfl) (Nat.le_of_ble_eq_true rfl) (by decide) dX11_init_27 ?_
  show am_VN Z X kX11_init _ _ 28 [(0, .ref (am_B Z + 1))] [.ref (am_B Z + 4), .ref (am_B Z + 1)] 5 (am_upR (am_upR R 1 0 2) 1 1 3) (am_upI I 4 0 (1 : Int32)) L 3 39
  refine nv_dup dX11_init_28 rfl ?_
  refine nv_iconst (v := 1) dX11_init_29 (by decide) ?_
  refine nv_iconst (v := 1) dX11_init_30 (by decide) ?_
  refine nv_iast (by rw [hZ]; rfl) (Nat.le_of_ble_eq_true rfl) (Nat.le_of_ble_eq_true rfl) (by decide) dX11_init_31 ?_
  show am_VN Z X kX11_init _ _ 32 [(0, .ref (am_B Z + 1))] [.ref (am_B Z + 4), .ref (am_B Z + 1)] 5 (am_upR (am_upR R 1 0 2) 1 1 3) (am_upI (am_upI I 4 0 (1 : Int32)) 4 1 (1 : Int32)) L 3 39
  refine nv_dup dX11_init_32 rfl ?_
  refine nv_iconst (v := 2) dX11_init_33 (by decide) ?_
  refine nv_iconst (v := 1) dX11_init_34 (by decide) ?_
  refine nv_iast (by rw [hZ]; rfl) (Nat.le_of_ble_eq_true rfl) (Nat.le_of_ble_eq_true rfl) (by decide) dX11_init_35 ?_
  show am_VN Z X kX11_init _ _ 36 [(0, .ref (am_B Z + 1))] [.ref (am_B Z + 4), .ref (am_B Z + 1)] 5 (am_upR (am_upR R 1 0 2) 1 1 3) (am_upI (am_upI (am_upI I 4 0 (1 : Int32)) 4 1 (1 : Int32)) 4 2 (1 : Int32)) L 3 39
  refine nv_putR true 11 2 clX11 (Nat.le_of_ble_eq_true rfl) (by rw [hZ]; rfl) (Nat.le_of_ble_eq_true rfl) (Nat.le_of_ble_eq_true rfl) inX11_init_X11 mlX11_init_16 rfl rfl (Or.inr ⟨_, rfl⟩) (by decide) dX11_init_36 ?_
  refine nv_aload_n dX11_init_39 rfl 0 rfl ?_
  refine nv_iconst (v := 1) dX11_init_40 (by decide) ?_
  refine nv_putI false 11 3 clX11 (Nat.le_of_ble_eq_true rfl) (by rw [hZ]; rfl) (Nat.le_of_ble_eq_true rfl) (Nat.le_of_ble_eq_true rfl) inX11_init_X11 mlX11_init_19 rfl rfl rfl dX11_init_41 ?_
  refine nv_aload_n dX11_init_44 rfl 0 rfl ?_
  refine nv_bipush (v := 6) dX11_init_45 (by decide) ?_
  refine nv_newa 0 (atype := .int) (N := 6) rfl (by decide) (by rw [hZ]; rfl) maX11_init_0 (by decide) (by decide) (Nat.le_of_ble_eq_true rfl) (Nat.le_of_ble_eq_true rfl) (Nat.le_of_ble_eq_true rfl) dX11_init_47 ?_
  refine nv_putR true 11 7 clX11 (Nat.le_of_ble_eq_true rfl) (by rw [hZ]; rfl) (Nat.le_of_ble_eq_true rfl) (Nat.le_of_ble_eq_true rfl) inX11_init_X11 mlX11_init_23 rfl rfl (Or.inr ⟨_, rfl⟩) (by decide) dX11_init_49 ?_
  refine nv_aload_n dX11_init_52 rfl 0 rfl ?_
  refine nv_bipush (v := 18) dX11_init_53 (by decide) ?_
  refine nv_newa 0 (atype := .int) (N := 18) rfl (by decide) (by rw [hZ]; rfl) maX11_init_0 (by decide) (by decide) (Nat.le_of_ble_eq_true rfl) (Nat.le_of_ble_eq_true rfl) (Nat.le_of_ble_eq_true rfl) dX11_init_55 ?_
  refine nv_putR true 11 8 clX11 (Nat.le_of_ble_eq_true rfl) (by rw [hZ]; rfl) (Nat.le_of_ble_eq_true rfl) (Nat.le_of_ble_eq_true rfl) inX11_init_X11 mlX11_init_26 rfl rfl (Or.inr ⟨_, rfl⟩) (by decide) dX11_init_57 ?_
  refine nv_aload_n dX11_init_60 rfl 0 rfl ?_
  refine nv_bipush (v := 60) dX11_init_61 (by decide) ?_
  refine nv_newa 0 (atype := .int) (N := 60) rfl (by decide) (by rw [hZ]; rfl) maX11_init_0 (by decide) (by decide) (Nat.le_of_ble_eq_true rfl) (Nat.le_of_ble_eq_true rfl) (Nat.le_of_ble_eq_true rfl) dX11_init_63 ?_
  refine nv_putR true 11 10 clX11 (Nat.le_of_ble_eq_true rfl) (by rw [hZ]; rfl) (Nat.le_of_ble_eq_true rfl) (Nat.le_of_ble_eq_true rfl) inX11_init_X11 mlX11_init_29 rfl rfl (Or.inr ⟨_, rfl⟩) (by decide) dX11_init_65 ?_
  refine nv_aload_n dX11_init_68 rfl 0 rfl ?_
  refine nv_bipush (v := 90) dX11_init_69 (by decide) ?_
  refine nv_newa 0 (atype := .int) (N := 90) rfl (by decide) (by rw [hZ]; rfl) maX11_init_0 (by decide) (by decide) (Nat.le_of_ble_eq_true rfl) (Nat.le_of_ble_eq_true rfl) (Nat.le_of_ble_eq_true rfl) dX11_init_71 ?_
  refine nv_putR true 11 11 clX11 (Nat.le_of_ble_eq_true rfl) (by rw [hZ]; rfl) (Nat.le_of_ble_eq_true rfl) (Nat.le_of_ble_eq_true rfl) inX11_init_X11 mlX11_init_32 rfl rfl (Or.inr ⟨_, rfl⟩) (by decide) dX11_init_73 ?_
  refine nv_aload_n dX11_init_76 rfl 0 rfl ?_
  refine nv_bipush (v := 20) dX11_init_77 (by decide) ?_
  refine nv_newa 0 (atype := .int) (N := 20) rfl (by decide) (by rw [hZ]; rfl) maX11_init_0 (by decide) (by decide) (Nat.le_of_ble_eq_true rfl) (Nat.le_of_ble_eq_true rfl) (Nat.le_of_ble_eq_true rfl) dX11_init_79 ?_
  refine nv_putR true 11 15 clX11 (Nat.le_of_ble_eq_true rfl) (by rw [hZ]; rfl) (Nat.le_of_ble_eq_true rfl) (Nat.le_of_ble_eq_true rfl) inX11_init_X11 mlX11_init_35 rfl rfl (Or.inr ⟨_, rfl⟩) (by decide) dX11_init_81 ?_
  refine nv_aload_n dX11_init_84 rfl 0 rfl ?_
  refine nv_bipush (v := 64) dX11_init_85 (by decide) ?_
  refine nv_newa 1 (atype := .long) (N := 64) rfl (by decide) (by rw [hZ]; rfl) maX11_init_1 (by decide) (by decide) (Nat.le_of_ble_eq_true rfl) (Nat.le_of_ble_eq_true rfl) (Nat.le_of_ble_eq_true rfl) dX11_init_87 ?_
  refine nv_putR true 11 17 clX11 (Nat.le_of_ble_eq_true rfl) (by rw [hZ]; rfl) (Nat.le_of_ble_eq_true rfl) (Nat.le_of_ble_eq_true rfl) inX11_init_X11 mlX11_init_38 rfl rfl (Or.inr ⟨_, rfl⟩) (by decide) dX11_init_89 ?_
  refine nv_aload_n dX11_init_92 rfl 0 rfl ?_
  refine nv_bipush (v := 64) dX11_init_93 (by decide) ?_
  refine nv_newa 1 (atype := .long) (N := 64) rfl (by decide) (by rw [hZ]; rfl) maX11_init_1 (by decide) (by decide) (Nat.le_of_ble_eq_true rfl) (Nat.le_of_ble_eq_true rfl) (Nat.le_of_ble_eq_true rfl) dX11_init_95 ?_
  refine nv_putR true 11 18 clX11 (Nat.le_of_ble_eq_true rfl) (by rw [hZ]; rfl) (Nat.le_of_ble_eq_true rfl) (Nat.le_of_ble_eq_true rfl) inX11_init_X11 mlX11_init_42 rfl rfl (Or.inr ⟨_, rfl⟩) (by decide) dX11_init_97 ?_
  refine nv_aload_n dX11_init_100 rfl 0 rfl ?_
  refine nv_sipush (v := 216) dX11_init_101 (by decide) ?_
  refine nv_newa 0 (atype := .int) (N := 216) rfl (by decide) (by rw [hZ]; rfl) maX11_init_0 (by decide) (by decide) (Nat.le_of_ble_eq_true rfl) (Nat.le_of_ble_eq_true rfl) (Nat.le_of_ble_eq_true rfl) dX11_init_104 ?_
  refine nv_putR true 11 19 clX11 (Nat.le_of_ble_eq_true rfl) (by rw [hZ]; rfl) (Nat.le_of_ble_eq_true rfl) (Nat.le_of_ble_eq_true rfl) inX11_init_X11 mlX11_init_45 rfl rfl (Or.inr ⟨_, rfl⟩) (by decide) dX11_init_106 ?_
  refine nv_aload_n dX11_init_109 rfl 0 rfl ?_
  refine nv_sipush (v := 216) dX11_init_110 (by decide) ?_
  refine nv_newa 0 (atype := .int) (N := 216) rfl (by decide) (by rw [hZ]; rfl) maX11_init_0 (by decide) (by decide) (Nat.le_of_ble_eq_true rfl) (Nat.le_of_ble_eq_true rfl) (Nat.le_of_ble_eq_true rfl) dX11_init_113 ?_
  refine nv_putR true 11 20 clX11 (Nat.le_of_ble_eq_true rfl) (by rw [hZ]; rfl) (Nat.le_of_ble_eq_true rfl) (Nat.le_of_ble_eq_true rfl) inX11_init_X11 mlX11_init_48 rfl rfl (Or.inr ⟨_, rfl⟩) (by decide) dX11_init_115 ?_
  refine nv_aload_n dX11_init_118 rfl 0 rfl ?_
  refine nv_sipush (v := 216) dX11_init_119 (by decide) ?_
  refine nv_newa 0 (atype := .int) (N := 216) rfl (by decide) (by rw [hZ]; rfl) maX11_init_0 (by decide) (by decide) (Nat.le_of_ble_eq_true rfl) (Nat.le_of_ble_eq_true rfl) (Nat.le_of_ble_eq_true rfl) dX11_init_122 ?_
  refine nv_putR true 11 22 clX11 (Nat.le_of_ble_eq_true rfl) (by rw [hZ]; rfl) (Nat.le_of_ble_eq_true rfl) (Nat.le_of_ble_eq_true rfl) inX11_init_X11 mlX11_init_51 rfl rfl (Or.inr ⟨_, rfl⟩) (by decide) dX11_init_124 ?_
  refine nv_aload_n dX11_init_127 rfl 0 rfl ?_
  refine nv_sipush (v := 216) dX11_init_128 (by decide) ?_
  refine nv_newa 2 (atype := .boolean) (N := 216) rfl (by decide) (by rw [hZ]; rfl) maX11_init_2 (by decide) (by decide) (Nat.le_of_ble_eq_true rfl) (Nat.le_of_ble_eq_true rfl) (Nat.le_of_ble_eq_true rfl) dX11_init_131 ?_
  refine nv_putR true 11 23 clX11 (Nat.le_of_ble_eq_true rfl) (by rw [hZ]; rfl) (Nat.le_of_ble_eq_true rfl) (Nat.le_of_ble_eq_true rfl) inX11_init_X11 mlX11_init_54 rfl rfl (Or.inr ⟨_, rfl⟩) (by decide) dX11_init_133 ?_
  refine nv_aload_n dX11_init_136 rfl 0 rfl ?_
  refine nv_sipush (v := 216) dX11_init_137 (by decide) ?_
  refine nv_newa 2 (atype := .boolean) (N := 216) rfl (by decide) (by rw [hZ]; rfl) maX11_init_2 (by decide) (by decide) (Nat.le_of_ble_eq_true rfl) (Nat.le_of_ble_eq_true rfl) (Nat.le_of_ble_eq_true rfl) dX11_init_140 ?_
  refine nv_putR true 11 24 clX11 (Nat.le_of_ble_eq_true rfl) (by rw [hZ]; rfl) (Nat.le_of_ble_eq_true rfl) (Nat.le_of_ble_eq_true rfl) inX11_init_X11 mlX11_init_58 rfl rfl (Or.inr ⟨_, rfl⟩) (by decide) dX11_init_142 ?_
  refine nv_aload_n dX11_init_145 rfl 0 rfl ?_
  refine nv_bipush (v := 36) dX11_init_146 (by decide) ?_
  refine nv_newa 2 (atype := .boolean) (N := 36) rfl (by decide) (by rw [hZ]; rfl) maX11_init_2 (by decide) (by decide) (Nat.le_of_ble_eq_true rfl) (Nat.le_of_ble_eq_true rfl) (Nat.le_of_ble_eq_true rfl) dX11_init_148 ?_
  refine nv_putR true 11 26 clX11 (Nat.le_of_ble_eq_true rfl) (by rw [hZ]; rfl) (Nat.le_of_ble_eq_true rfl) (Nat.le_of_ble_eq_true rfl) inX11_init_X11 mlX11_init_61 rfl rfl (Or.inr ⟨_, rfl⟩) (by decide) dX11_init_150 ?_
  refine nv_aload_n dX11_init_153 rfl 0 rfl ?_
  refine nv_bipush (v := 36) dX11_init_154 (by decide) ?_
  refine nv_newa 0 (atype := .int) (N := 36) rfl (by decide) (by rw [hZ]; rfl) maX11_init_0 (by decide) (by decide) (Nat.le_of_ble_eq_true rfl) (Nat.le_of_ble_eq_true rfl) (Nat.le_of_ble_eq_true rfl) dX11_init_156 ?_
  refine nv_putR true 11 30 clX11 (Nat.le_of_ble_eq_true rfl) (by rw [hZ]; rfl) (Nat.le_of_ble_eq_true rfl) (Nat.le_of_ble_eq_true rfl) inX11_init_X11 mlX11_init_64 rfl rfl (Or.inr ⟨_, rfl⟩) (by decide) dX11_init_158 ?_
  refine nv_aload_n dX11_init_161 rfl 0 rfl ?_
  refine nv_sipush (v := 6000) dX11_init_162 (by decide) ?_
  refine nv_newa 1 (atype := .long) (N := 6000) rfl (by decide) (by rw [hZ]; rfl) maX11_init_1 (by decide) (by decide) (Nat.le_of_ble_eq_true rfl) (Nat.le_of_ble_eq_true rfl) (Nat.le_of_ble_eq_true rfl) dX11_init_165 ?_
  refine nv_putR true 11 31 clX11 (Nat.le_of_ble_eq_true rfl) (by rw [hZ]; rfl) (Nat.le_of_ble_eq_true rfl) (Nat.le_of_ble_eq_true rfl) inX11_init_X11 mlX11_init_67 rfl rfl (Or.inr ⟨_, rfl⟩) (by decide) dX11_init_167 ?_
  refine nv_aload_n dX11_init_170 rfl 0 rfl ?_
  refine nv_bipush (v := 6) dX11_init_171 (by decide) ?_
  refine nv_newa 1 (atype := .long) (N := 6) rfl (by decide) (by rw [hZ]; rfl) maX11_init_1 (by decide) (by decide) (Nat.le_of_ble_eq_true rfl) (Nat.le_of_ble_eq_true rfl) (Nat.le_of_ble_eq_true rfl) dX11_init_173 ?_
  refine nv_putR true 11 32 clX11 (Nat.le_of_ble_eq_true rfl) (by rw [hZ]; rfl) (Nat.le_of_ble_eq_true rfl) (Nat.le_of_ble_eq_true rfl) inX11_init_X11 mlX11_init_70 rfl rfl (Or.inr ⟨_, rfl⟩) (by decide) dX11_init_175 ?_
  refine nv_aload_n dX11_init_178 rfl 0 rfl ?_
  refine nv_bipush (v := 6) dX11_init_179 (by decide) ?_
  refine nv_newa 0 (atype := .int) (N := 6) rfl (by decide) (by rw [hZ]; rfl) maX11_init_0 (by decide) (by decide) (Nat.le_of_ble_eq_true rfl) (Nat.le_of_ble_eq_true rfl) (Nat.le_of_ble_eq_true rfl) dX11_init_181 ?_
  refine nv_putR true 11 33 clX11 (Nat.le_of_ble_eq_true rfl) (by rw [hZ]; rfl) (Nat.le_of_ble_eq_true rfl) (Nat.le_of_ble_eq_true rfl) inX11_init_X11 mlX11_init_73 rfl rfl (Or.inr ⟨_, rfl⟩) (by decide) dX11_init_183 ?_
  refine nv_aload_n dX11_init_186 rfl 0 rfl ?_
  refine nv_bipush (v := 64) dX11_init_187 (by decide) ?_
  refine nv_newa 0 (atype := .int) (N := 64) rfl (by decide) (by rw [hZ]; rfl) maX11_init_0 (by decide) (by decide) (Nat.le_of_ble_eq_true rfl) (Nat.le_of_ble_eq_true rfl) (Nat.le_of_ble_eq_true rfl) dX11_init_189 ?_
  refine nv_putR true 11 34 clX11 (Nat.le_of_ble_eq_true rfl) (by rw [hZ]; rfl) (Nat.le_of_ble_eq_true rfl) (Nat.le_of_ble_eq_true rfl) inX11_init_X11 mlX11_init_76 rfl rfl (Or.inr ⟨_, rfl⟩) (by decide) dX11_init_191 ?_
  refine nv_aload_n dX11_init_194 rfl 0 rfl ?_
  refine nv_bipush (v := 64) dX11_init_195 (by decide) ?_
  refine nv_newa 0 (atype := .int) (N := 64) rfl (by decide) (by rw [hZ]; rfl) maX11_init_0 (by decide) (by decide) (Nat.le_of_ble_eq_true rfl) (Nat.le_of_ble_eq_true rfl) (Nat.le_of_ble_eq_true rfl) dX11_init_197 ?_
  refine nv_putR true 11 35 clX11 (Nat.le_of_ble_eq_true rfl) (by rw [hZ]; rfl) (Nat.le_of_ble_eq_true rfl) (Nat.le_of_ble_eq_true rfl) inX11_init_X11 mlX11_init_79 rfl rfl (Or.inr ⟨_, rfl⟩) (by decide) dX11_init_199 ?_
  refine nv_aload_n dX11_init_202 rfl 0 rfl ?_
  refine nv_bipush (v := 64) dX11_init_203 (by decide) ?_
  refine nv_newa 0 (atype := .int) (N := 64) rfl (by decide) (by rw [hZ]; rfl) maX11_init_0 (by decide) (by decide) (Nat.le_of_ble_eq_true rfl) (Nat.le_of_ble_eq_true rfl) (Nat.le_of_ble_eq_true rfl) dX11_init_205 ?_
  refine nv_putR true 11 36 clX11 (Nat.le_of_ble_eq_true rfl) (by rw [hZ]; rfl) (Nat.le_of_ble_eq_true rfl) (Nat.le_of_ble_eq_true rfl) inX11_init_X11 mlX11_init_82 rfl rfl (Or.inr ⟨_, rfl⟩) (by decide) dX11_init_207 ?_
  refine nv_aload_n dX11_init_210 rfl 0 rfl ?_
  refine nv_bipush (v := 64) dX11_init_211 (by decide) ?_
  refine nv_newa 0 (atype := .int) (N := 64) rfl (by decide) (by rw [hZ]; rfl) maX11_init_0 (by decide) (by decide) (Nat.le_of_ble_eq_true rfl) (Nat.le_of_ble_eq_true rfl) (Nat.le_of_ble_eq_true rfl) dX11_init_213 ?_
  refine nv_putR true 11 37 clX11 (Nat.le_of_ble_eq_true rfl) (by rw [hZ]; rfl) (Nat.le_of_ble_eq_true rfl) (Nat.le_of_ble_eq_true rfl) inX11_init_X11 mlX11_init_85 rfl rfl (Or.inr ⟨_, rfl⟩) (by decide) dX11_init_215 ?_
  refine nv_aload_n dX11_init_218 rfl 0 rfl ?_
  refine nv_sipush (v := 192) dX11_init_219 (by decide) ?_
  refine nv_newa 1 (atype := .long) (N := 192) rfl (by decide) (by rw [hZ]; rfl) maX11_init_1 (by decide) (by decide) (Nat.le_of_ble_eq_true rfl) (Nat.le_of_ble_eq_true rfl) (Nat.le_of_ble_eq_true rfl) dX11_init_222 ?_
  refine nv_putR true 11 38 clX11 (Nat.le_of_ble_eq_true rfl) (by rw [hZ]; rfl) (Nat.le_of_ble_eq_true rfl) (Nat.le_of_ble_eq_true rfl) inX11_init_X11 mlX11_init_88 rfl rfl (Or.inr ⟨_, rfl⟩) (by decide) dX11_init_224 ?_
  refine nv_aload_n dX11_init_227 rfl 0 rfl ?_
  refine nv_sipush (v := 192) dX11_init_228 (by decide) ?_
  refine nv_newa 1 (atype := .long) (N := 192) rfl (by decide) (by rw [hZ]; rfl) maX11_init_1 (by decide) (by decide) (Nat.le_of_ble_eq_true rfl) (Nat.le_of_ble_eq_true rfl) (Nat.le_of_ble_eq_true rfl) dX11_init_231 ?_
  refine nv_putR true 11 39 clX11 (Nat.le_of_ble_eq_true rfl) (by rw [hZ]; rfl) (Nat.le_of_ble_eq_true rfl) (Nat.le_of_ble_eq_true rfl) inX11_init_X11 mlX11_init_91 rfl rfl (Or.inr ⟨_, rfl⟩) (by decide) dX11_init_233 ?_
  refine nv_aload_n dX11_init_236 rfl 0 rfl ?_
  refine nv_bipush (v := -4) dX11_init_237 (by decide) ?_
  refine nv_putI false 11 40 clX11 (Nat.le_of_ble_eq_true rfl) (by rw [hZ]; rfl) (Nat.le_of_ble_eq_true rfl) (Nat.le_of_ble_eq_true rfl) inX11_init_X11 mlX11_init_94 rfl rfl rfl dX11_init_239 ?_
  refine nv_aload_n dX11_init_242 rfl 0 rfl ?_
  refine nv_iconst (v := 4) dX11_init_243 (by decide) ?_
  refine nv_newa 0 (atype := .int) (N := 4) rfl (by decide) (by rw [hZ]; rfl) maX11_init_0 (by decide) (by decide) (Nat.le_of_ble_eq_true rfl) (Nat.le_of_ble_eq_true rfl) (Nat.le_of_ble_eq_true rfl) dX11_init_244 ?_
  refine nv_putR true 11 44 clX11 (Nat.le_of_ble_eq_true rfl) (by rw [hZ]; rfl) (Nat.le_of_ble_eq_true rfl) (Nat.le_of_ble_eq_true rfl) inX11_init_X11 mlX11_init_97 rfl rfl (Or.inr ⟨_, rfl⟩) (by decide) dX11_init_246 ?_
  refine nv_aload_n dX11_init_249 rfl 0 rfl ?_
  refine nv_iconst (v := 4) dX11_init_250 (by decide) ?_
  refine nv_newa 0 (atype := .int) (N := 4) rfl (by decide) (by rw [hZ]; rfl) maX11_init_0 (by decide) (by decide) (Nat.le_of_ble_eq_true rfl) (Nat.le_of_ble_eq_true rfl) (Nat.le_of_ble_eq_true rfl) dX11_init_251 ?_
  refine nv_putR true 11 45 clX11 (Nat.le_of_ble_eq_true rfl) (by rw [hZ]; rfl) (Nat.le_of_ble_eq_true rfl) (Nat.le_of_ble_eq_true rfl) inX11_init_X11 mlX11_init_100 rfl rfl (Or.inr ⟨_, rfl⟩) (by decide) dX11_init_253 ?_
  refine nv_aload_n dX11_init_256 rfl 0 rfl ?_
  refine nv_bipush (v := 124) dX11_init_257 (by decide) ?_
  refine nv_newa 1 (atype := .long) (N := 124) rfl (by decide) (by rw [hZ]; rfl) maX11_init_1 (by decide) (by decide) (Nat.le_of_ble_eq_true rfl) (Nat.le_of_ble_eq_true rfl) (Nat.le_of_ble_eq_true rfl) dX11_init_259 ?_
  refine nv_putR true 11 46 clX11 (Nat.le_of_ble_eq_true rfl) (by rw [hZ]; rfl) (Nat.le_of_ble_eq_true rfl) (Nat.le_of_ble_eq_true rfl) inX11_init_X11 mlX11_init_103 rfl rfl (Or.inr ⟨_, rfl⟩) (by decide) dX11_init_261 ?_
  refine nv_aload_n dX11_init_264 rfl 0 rfl ?_
  refine nv_bipush (v := 31) dX11_init_265 (by decide) ?_
  refine nv_newa 1 (atype := .long) (N := 31) rfl (by decide) (by rw [hZ]; rfl) maX11_init_1 (by decide) (by decide) (Nat.le_of_ble_eq_true rfl) (Nat.le_of_ble_eq_true rfl) (Nat.le_of_ble_eq_true rfl) dX11_init_267 ?_
  refine nv_putR true 11 47 clX11 (Nat.le_of_ble_eq_true rfl) (by rw [hZ]; rfl) (Nat.le_of_ble_eq_true rfl) (Nat.le_of_ble_eq_true rfl) inX11_init_X11 mlX11_init_106 rfl rfl (Or.inr ⟨_, rfl⟩) (by decide) dX11_init_269 ?_
  refine nv_aload_n dX11_init_272 rfl 0 rfl ?_
  refine nv_bipush (v := 24) dX11_init_273 (by decide) ?_
  refine nv_newa 0 (atype := .int) (N := 24) rfl (by decide) (by rw [hZ]; rfl) maX11_init_0 (by decide) (by decide) (Nat.le_of_ble_eq_true rfl) (Nat.le_of_ble_eq_true rfl) (Nat.le_of_ble_eq_true rfl) dX11_init_275 ?_
  refine nv_putR true 11 48 clX11 (Nat.le_of_ble_eq_true rfl) (by rw [hZ]; rfl) (Nat.le_of_ble_eq_true rfl) (Nat.le_of_ble_eq_true rfl) inX11_init_X11 mlX11_init_109 rfl rfl (Or.inr ⟨_, rfl⟩) (by decide) dX11_init_277 ?_
  exact nv_ret rfl rfl rfl rfl dX11_init_280
