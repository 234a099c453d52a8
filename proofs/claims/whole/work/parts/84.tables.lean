/-! the tables of steps -/
theorem am_to_top {σ : Type} {f : Nat → σ → σ} {m : Nat} (s : σ) : ∀ n, m ≤ n → (∀ i y, m ≤ i → i < n → f i y = y) → am_to f n s = am_to f m s
  | 0, h, _ => by
    have : m = 0 := by omega
    subst this; rfl
  | n + 1, h, hz => by
    by_cases q : m = n + 1
    · subst q; rfl
    · show f n (am_to f n s) = _
      rw [hz n _ (by omega) (by omega), am_to_top s n (by omega) (fun i y a b => hz i y a (by omega))]
def cmb (y : Int32 × Int32) (T : Int32) : Int32 × Int32 := (y.1 ||| T, y.2 ||| (y.1 &&& T))
def fo (A : am_Au) (a X n : Nat) : Int32 × Int32 := am_to (fun s y => if X.testBit s = true then cmb y (A.2.2.2 a s) else y) n (0, 0)
theorem bt_fo1 {A : am_Au} {a X t : Nat} : ∀ n, bt (fo A a X n).1 t = true ↔ ∃ s, s < n ∧ X.testBit s = true ∧ bt (A.2.2.2 a s) t = true
  | 0 => ⟨fun h => (by rw [show (fo A a X 0).1 = 0 from rfl, bt_zero] at h; cases h), fun ⟨s, hs, _⟩ => absurd hs (Nat.not_lt_zero s)⟩
  | n + 1 => by
    have e : fo A a X (n + 1) = if X.testBit n = true then cmb (fo A a X n) (A.2.2.2 a n) else fo A a X n := rfl
    rw [e]
    by_cases hb : X.testBit n = true
    · rw [if_pos hb]
      show bt ((fo A a X n).1 ||| A.2.2.2 a n) t = true ↔ _
      rw [bt_or, Bool.or_eq_true, bt_fo1 n]
      constructor
      · rintro (⟨s, h1, h2, h3⟩ | h)
        · exact ⟨s, by omega, h2, h3⟩
        · exact ⟨n, by omega, hb, h⟩
      · rintro ⟨s, h1, h2, h3⟩
        by_cases q : s = n
        · subst q; exact Or.inr h3
        · exact Or.inl ⟨s, by omega, h2, h3⟩
    · rw [if_neg hb, bt_fo1 n]
      constructor
      · rintro ⟨s, h1, h2, h3⟩
        exact ⟨s, by omega, h2, h3⟩
      · rintro ⟨s, h1, h2, h3⟩
        have : s ≠ n := fun q => by subst q; exact hb h2
        exact ⟨s, by omega, h2, h3⟩
theorem bt_fo2 {A : am_Au} {a X t : Nat} : ∀ n, bt (fo A a X n).2 t = true ↔ ∃ s s', s < n ∧ s' < n ∧ s ≠ s' ∧ X.testBit s = true ∧ X.testBit s' = true ∧ bt (A.2.2.2 a s) t = true ∧ bt (A.2.2.2 a s') t = true
  | 0 => ⟨fun h => (by rw [show (fo A a X 0).2 = 0 from rfl, bt_zero] at h; cases h), fun ⟨s, _, hs, _⟩ => absurd hs (Nat.not_lt_zero s)⟩
  | n + 1 => by
    have e : fo A a X (n + 1) = if X.testBit n = true then cmb (fo A a X n) (A.2.2.2 a n) else fo A a X n := rfl
    rw [e]
    by_cases hb : X.testBit n = true
    · rw [if_pos hb]
      show bt ((fo A a X n).2 ||| ((fo A a X n).1 &&& A.2.2.2 a n)) t = true ↔ _
      rw [bt_or, Bool.or_eq_true, bt_fo2 n, bt_and, Bool.and_eq_true, bt_fo1 n]
      constructor
      · rintro (⟨s, s', h1, h2, h3⟩ | ⟨⟨s, h1, h2, h3⟩, h4⟩)
        · exact ⟨s, s', by omega, by omega, h3⟩
        · exact ⟨s, n, by omega, by omega, by omega, h2, hb, h3, h4⟩
      · rintro ⟨s, s', h1, h2, h3, h4, h5, h6, h7⟩
        by_cases q : s = n
        · subst q; exact Or.inr ⟨⟨s', by omega, h5, h7⟩, h6⟩
        · by_cases q' : s' = n
          · subst q'; exact Or.inr ⟨⟨s, by omega, h4, h6⟩, h7⟩
          · exact Or.inl ⟨s, s', by omega, by omega, h3, h4, h5, h6, h7⟩
    · rw [if_neg hb, bt_fo2 n]
      constructor
      · rintro ⟨s, s', h1, h2, h3⟩
        exact ⟨s, s', by omega, by omega, h3⟩
      · rintro ⟨s, s', h1, h2, h3, h4, h5, h6⟩
        have : s ≠ n := fun q => by subst q; exact hb h4
        have : s' ≠ n := fun q => by subst q; exact hb h5
        exact ⟨s, s', by omega, by omega, h3, h4, h5, h6⟩
theorem tb_hi1 : ∀ s, s < 6 → ∀ X, X < 64 → (2 ^ s ≤ X ∧ X < 2 ^ (s + 1)) → X.testBit s = true := by decide +kernel
def tb_c (s X i : Nat) : Bool := !(Nat.ble (2 ^ s) X && Nat.blt X (2 ^ (s + 1))) || ((Nat.ble s i || (X - 2 ^ s).testBit i == X.testBit i) && ((Nat.ble i s || !X.testBit i) && (Nat.blt i s || !(X - 2 ^ s).testBit i)))
theorem tb_cc : ∀ s, s < 6 → ∀ X, X < 64 → ∀ i, i < 6 → tb_c s X i = true := by decide +kernel
theorem tb_hi2 (s : Nat) (hs : s < 6) (X : Nat) (hX : X < 64) (i : Nat) (hi : i < 6) (h : 2 ^ s ≤ X ∧ X < 2 ^ (s + 1)) : (s ≤ i ∨ (X - 2 ^ s).testBit i = X.testBit i) ∧ (i ≤ s ∨ X.testBit i = false) ∧ (i < s ∨ (X - 2 ^ s).testBit i = false) := by
  have c := tb_cc s hs X hX i hi
  unfold tb_c at c
  rw [Nat.ble_eq_true_of_le h.1, show Nat.blt X (2 ^ (s + 1)) = true from Nat.ble_eq_true_of_le h.2] at c
  simp only [Bool.and_self, Bool.not_true, Bool.false_or, Bool.and_eq_true, Bool.or_eq_true, Nat.ble_eq, Nat.blt_eq, beq_iff_eq, Bool.not_eq_true'] at c
  exact c
theorem tb_hi {s : Nat} (hs : s < 6) {X : Nat} (hX : X < 64) (h1 : 2 ^ s ≤ X) (h2 : X < 2 ^ (s + 1)) : X.testBit s = true ∧ ∀ i, i < 6 → (i < s → (X - 2 ^ s).testBit i = X.testBit i) ∧ (s < i → X.testBit i = false) ∧ (s ≤ i → (X - 2 ^ s).testBit i = false) :=
  ⟨tb_hi1 s hs X hX ⟨h1, h2⟩, fun i hi => by
    obtain ⟨a, b, c⟩ := tb_hi2 s hs X hX i hi ⟨h1, h2⟩
    exact ⟨fun h => a.resolve_left (by omega), fun h => b.resolve_left (by omega), fun h => c.resolve_left (by omega)⟩⟩
theorem fo_hi (A : am_Au) (a : Nat) {s X : Nat} (hs : s < 6) (hX : X < 64) (h1 : 2 ^ s ≤ X) (h2 : X < 2 ^ (s + 1)) : fo A a X 6 = cmb (fo A a (X - 2 ^ s) 6) (A.2.2.2 a s) := by
  obtain ⟨t1, t2⟩ := tb_hi hs hX h1 h2
  have e1 : fo A a X 6 = fo A a X (s + 1) := am_to_top _ 6 (by omega) (fun i y p q => by rw [((t2 i q).2.1 (by omega))]; rfl)
  have e2 : fo A a (X - 2 ^ s) 6 = fo A a (X - 2 ^ s) s := am_to_top _ 6 (by omega) (fun i y p q => by rw [((t2 i q).2.2 p)]; rfl)
  have e3 : fo A a (X - 2 ^ s) s = fo A a X s := am_to_congr s _ (fun i y hi => by rw [((t2 i (by omega)).1 hi)])
  rw [e1, e2, e3]
  show (if X.testBit s = true then cmb (fo A a X s) (A.2.2.2 a s) else fo A a X s) = _
  rw [if_pos t1]
theorem bt_nI : ∀ X, X < 64 → ∀ s, s < 32 → bt (nI X) s = X.testBit s := by decide +kernel
theorem tb_ge0 : ∀ X, X < 64 → ∀ s, s < 32 → (6 ≤ s → X.testBit s = false) := by decide +kernel
theorem tb_ge (X : Nat) (hX : X < 64) (s : Nat) (h : 6 ≤ s) (hs : s < 32) : X.testBit s = false := tb_ge0 X hX s hs h
theorem on_stp {A : am_Au} (hw : aw A) (a : Nat) {X : Nat} (hX : X < 64) : (fo A a X 6).1 = stp A (nI X) a := bt_iff_eq fun t _ => by
  have h6 := hw.2.1
  rw [bt_fo1, bt_stp]
  constructor
  · rintro ⟨s, h1, h2, h3⟩
    have : s < A.1 := Nat.lt_of_not_le fun q => by rw [hw.2.2.2.2 a s (Or.inl q), bt_zero] at h3; cases h3
    exact ⟨s, this, by rw [bt_nI X hX s (by omega)]; exact h2, h3⟩
  · rintro ⟨s, h1, h2, h3⟩
    exact ⟨s, by omega, by rw [← bt_nI X hX s (by omega)]; exact h2, h3⟩
/-- targets with two sources -/
def tw (A : am_Au) (a X : Nat) : Int32 := (fo A a X 6).2
def tab (J : am_I) (p q : Nat) (A : am_Au) (a m : Nat) : Prop := ∀ X, X < m → J p (64 * a + X) = (fo A a X 6).1 ∧ J q (64 * a + X) = (fo A a X 6).2
theorem sh1 : ∀ s, s < 6 → (1 : Int32) <<< (nI s &&& 31) = nI (2 ^ s) := by decide +kernel
theorem sh2 : ∀ s, s < 6 → (2 : Int32) <<< (nI s &&& 31) = nI (2 ^ (s + 1)) := by decide +kernel
theorem ix64 (a i : Nat) : nI a * (64 : Int32) + nI i = nI (64 * a + i) := by rw [show (64 : Int32) = nI 64 from rfl, pk_mul, nI_add, Nat.mul_comm]
theorem p2le : ∀ s, s < 6 → 2 ^ (s + 1) ≤ 64 ∧ 2 ^ (s + 1) = 2 ^ s + 2 ^ s ∧ 1 ≤ 2 ^ s := by decide
section
variable {R : am_R} {I : am_I} {o u : Nat} {A : am_Au}
theorem e_load26 (hpq : R o 0 ≠ R o 1) {a s : Nat} (ha : a < 3) (hs : s < 6) {J : am_I} (hT : tab J (R o 0) (R o 1) A a (2 ^ s)) :
    ∃ J', lX6_loadSetsUpTo_26 R o (nI a) (A.2.2.2 a s) (nI (2 ^ s)) am_fu (0 : Int32) J = some J' ∧ tab J' (R o 0) (R o 1) A a (2 ^ (s + 1)) ∧ (∀ j, j < 64 * a + 2 ^ s ∨ 64 * a + 64 ≤ j → J' (R o 0) j = J (R o 0) j ∧ J' (R o 1) j = J (R o 1) j) ∧ ∀ b, b ≠ R o 0 → b ≠ R o 1 → J' b = J b := by
  obtain ⟨l1, l2, l3⟩ := p2le s hs
  generalize hm : (2 : Nat) ^ s = m at *
  generalize hM : (2 : Nat) ^ (s + 1) = M at *
  obtain ⟨J', e, h1, h2, h3⟩ := am_for0 (fun n i J => lX6_loadSetsUpTo_26 R o (nI a) (A.2.2.2 a s) (nI m) n (nI i) J) m (fun i J' => tab J' (R o 0) (R o 1) A a (m + i) ∧ (∀ j, j < 64 * a + m ∨ 64 * a + 64 ≤ j → J' (R o 0) j = J (R o 0) j ∧ J' (R o 1) j = J (R o 1) j) ∧ ∀ b, b ≠ R o 0 → b ≠ R o 1 → J' b = J b) (fun J => some J) (by omega) (fun n i J' hi hP => by
    obtain ⟨p1, p2, p3⟩ := hP
    obtain ⟨q1, q2⟩ := p1 i (by omega)
    have ef := fo_hi A a hs (show m + i < 64 by omega) (by rw [hm]; omega) (by rw [hM]; omega)
    rw [hm, show m + i - m = i by omega] at ef
    have e1 : nI (64 * a + i) + nI m = nI (64 * a + (m + i)) := by
      rw [nI_add]; congr 1; omega
    refine ⟨am_upI (am_upI J' (R o 0) (64 * a + (m + i)) ((fo A a i 6).1 ||| A.2.2.2 a s)) (R o 1) (64 * a + (m + i)) ((fo A a i 6).2 ||| ((fo A a i 6).1 &&& A.2.2.2 a s)), ?_, fun Y hY => ?_, fun j hj => ?_, fun b x y => ?_⟩
    · simp only [lX6_loadSetsUpTo_26, sX6_loadSetsUpTo_26, nIge hi (show m < 1000000 by omega), if_false, am_let_e, ix64, e1, inb (show 64 * a + i < 192 by omega) (show 192 < 1000000 by omega), inb (show 64 * a + (m + i) < 192 by omega) (show 192 < 1000000 by omega), am_ck_true, nIcl (show 64 * a + i < 1000000 by omega), nIcl (show 64 * a + (m + i) < 1000000 by omega), q1, nI_1]
      rw [am_upI_ne (Ne.symm hpq), q2, am_upI_o (show 64 * a + i ≠ 64 * a + (m + i) by omega), q1]
    · by_cases q : Y = m + i
      · subst q
        rw [am_upI_ne hpq, am_upI_s, am_upI_s, ef]
        exact ⟨rfl, rfl⟩
      · rw [am_upI_ne hpq, am_upI_o (by omega), am_upI_o (by omega), am_upI_ne (Ne.symm hpq)]
        exact p1 Y (by omega)
    · rw [am_upI_ne hpq, am_upI_o (by omega), am_upI_o (by omega), am_upI_ne (Ne.symm hpq)]
      exact p2 j hj
    · rw [am_upI_ne y, am_upI_ne x]; exact p3 b x y) (fun n J' _ => by
    simp only [lX6_loadSetsUpTo_26, sX6_loadSetsUpTo_26, nIle (show m < 1000000 by omega), if_true]) J ⟨fun X hX => hT X (by omega), fun _ _ => ⟨rfl, rfl⟩, fun _ _ _ => rfl⟩
  exact ⟨J', e, fun X hX => h1 X (by omega), h2, h3⟩
theorem e_loadSets (hpq : R o 0 ≠ R o 1) {a s : Nat} (ha : a < 3) (hs : s < 6) {J : am_I} (hT : tab J (R o 0) (R o 1) A a (2 ^ s)) :
    ∃ J', pX6_loadSetsUpTo R J o (nI s) (nI a) (A.2.2.2 a s) = some J' ∧ tab J' (R o 0) (R o 1) A a (2 ^ (s + 1)) ∧ (∀ j, j < 64 * a + 2 ^ s ∨ 64 * a + 64 ≤ j → J' (R o 0) j = J (R o 0) j ∧ J' (R o 1) j = J (R o 1) j) ∧ ∀ b, b ≠ R o 0 → b ≠ R o 1 → J' b = J b := by
  unfold pX6_loadSetsUpTo
  simp only [nI_pos (show s < 2 ^ 31 by omega), ng6 hs, if_false, lt_yes ha, am_bd, i10, am_let_e, sh1 s hs]
  exact e_load26 hpq ha hs hT
theorem e_load9 (hpq : R o 0 ≠ R o 1) (hw : aw A) (hu : u ≠ R o 0 ∧ u ≠ R o 1 ∧ R u 3 ≠ R o 0 ∧ R u 3 ≠ R o 1) {a : Nat} (ha : a < 3) (j : am_I → Option am_I) {J : am_I} (hA : isA J u (R u 3) A) (hz : J (R o 0) (64 * a) = 0 ∧ J (R o 1) (64 * a) = 0) :
    ∃ J', lX6_load_9 R o u (nI a) j am_fu (0 : Int32) J = j J' ∧ tab J' (R o 0) (R o 1) A a 64 ∧ (∀ j, j ≤ 64 * a ∨ 64 * a + 64 ≤ j → J' (R o 0) j = J (R o 0) j ∧ J' (R o 1) j = J (R o 1) j) ∧ ∀ b, b ≠ R o 0 → b ≠ R o 1 → J' b = J b := by
  obtain ⟨J', e, h1, h2, h3⟩ := am_for0 (fun n i J => lX6_load_9 R o u (nI a) j n (nI i) J) 6 (fun i J' => tab J' (R o 0) (R o 1) A a (2 ^ i) ∧ (∀ j, j ≤ 64 * a ∨ 64 * a + 64 ≤ j → J' (R o 0) j = J (R o 0) j ∧ J' (R o 1) j = J (R o 1) j) ∧ ∀ b, b ≠ R o 0 → b ≠ R o 1 → J' b = J b) j (by omega) (fun n s J3 hs hI => by
    obtain ⟨i1, i2, i3⟩ := hI
    obtain ⟨J4, e4, q1, q2, q3⟩ := e_loadSets (A := A) hpq ha hs i1
    have hA3 : isA J3 u (R u 3) A := hA.kept (i3 u hu.1 hu.2.1) (i3 _ hu.2.2.1 hu.2.2.2)
    have l3 := (p2le s hs).2.2
    refine ⟨J4, ?_, q1, fun j hj => ?_, fun b x y => (q3 b x y).trans (i3 b x y)⟩
    · simp only [lX6_load_9, sX6_load_9, ng6 hs, if_false, e_targetsOf hA3 hw s a (show s < 100 by omega) (show a < 100 by omega), am_bd, e4, nI_1]
    · obtain ⟨a1, a2⟩ := q2 j (by omega)
      obtain ⟨b1, b2⟩ := i2 j hj
      exact ⟨a1.trans b1, a2.trans b2⟩) (fun n J3 _ => by
    simp only [lX6_load_9, sX6_load_9, yg6, if_true]) J ⟨fun X hX => by
      have : X = 0 := by
        have : X < 1 := hX
        omega
      subst this
      exact hz, fun _ _ => ⟨rfl, rfl⟩, fun _ _ _ => rfl⟩
  exact ⟨J', e, h1, h2, h3⟩
/-- the tables are those of the automaton; the automaton is untouched -/
theorem e_load (hpq : R o 0 ≠ R o 1) (hA : isA I u (R u 3) A) (hw : aw A) (hu : u ≠ R o 0 ∧ u ≠ R o 1 ∧ R u 3 ≠ R o 0 ∧ R u 3 ≠ R o 1) (hz : ∀ a, a < 3 → I (R o 0) (64 * a) = 0 ∧ I (R o 1) (64 * a) = 0) :
    ∃ J', pX6_load R I o u = some J' ∧ (∀ a, a < 3 → tab J' (R o 0) (R o 1) A a 64) ∧ ∀ b, b ≠ R o 0 → b ≠ R o 1 → J' b = I b := by
  unfold pX6_load
  obtain ⟨J', e, h1, h2, h3⟩ := am_for0 (fun n i J => lX6_load_2 R o u n (nI i) J) 3 (fun i J' => (∀ a, a < i → tab J' (R o 0) (R o 1) A a 64) ∧ (∀ a, a < 3 → J' (R o 0) (64 * a) = 0 ∧ J' (R o 1) (64 * a) = 0) ∧ ∀ b, b ≠ R o 0 → b ≠ R o 1 → J' b = I b) (fun J => some J) (by omega) (fun n a J ha hP => by
    obtain ⟨p1, p2, p3⟩ := hP
    have hA3 : isA J u (R u 3) A := hA.kept (p3 u hu.1 hu.2.1) (p3 _ hu.2.2.1 hu.2.2.2)
    obtain ⟨J2, e2, q1, q2, q3⟩ := e_load9 hpq hw hu ha (fun J8 => lX6_load_2 R o u n (nI a + 1) J8) hA3 (p2 a ha)
    refine ⟨J2, ?_, fun b hb => ?_, fun b hb => ?_, fun b x y => (q3 b x y).trans (p3 b x y)⟩
    · simp only [lX6_load_2, sX6_load_2, ng3 ha, if_false, am_jn_e]
      rw [e2, nI_1]
    · by_cases q : b = a
      · subst q; exact q1
      · intro X hX
        rw [(q2 (64 * b + X) (by omega)).1, (q2 (64 * b + X) (by omega)).2]
        exact p1 b (by omega) X hX
    · rw [(q2 (64 * b) (by omega)).1, (q2 (64 * b) (by omega)).2]
      exact p2 b hb) (fun n J' _ => by
    simp only [lX6_load_2, sX6_load_2, yg3, if_true]) I ⟨fun a ha => absurd ha (Nat.not_lt_zero a), hz, fun _ _ _ => rfl⟩
  exact ⟨J', e, h1, h3⟩
theorem e_once {J : am_I} (hT : ∀ a, a < 3 → tab J (R o 0) (R o 1) A a 64) (hw : aw A) {X a : Nat} (hX : X < 64) (ha : a < 3) : pX6_reachedOnce R J o (nI X) (nI a) = some (stp A (nI X) a) := by
  unfold pX6_reachedOnce
  simp only [am_let_e, nI_pos (show X < 2 ^ 31 by omega), nI_pos (show a < 2 ^ 31 by omega), if_false, ng64 hX, ng3 ha, i10, ix64, inb (show 64 * a + X < 192 by omega) (show 192 < 1000000 by omega), am_ck_true, nIcl (show 64 * a + X < 1000000 by omega), (hT a ha X hX).1, on_stp hw a hX]
theorem e_twice {J : am_I} (hT : ∀ a, a < 3 → tab J (R o 0) (R o 1) A a 64) {X a : Nat} (hX : X < 64) (ha : a < 3) : pX6_reachedTwice R J o (nI X) (nI a) = some (tw A a X) := by
  unfold pX6_reachedTwice
  simp only [am_let_e, nI_pos (show X < 2 ^ 31 by omega), nI_pos (show a < 2 ^ 31 by omega), if_false, ng64 hX, ng3 ha, i10, ix64, inb (show 64 * a + X < 192 by omega) (show 192 < 1000000 by omega), am_ck_true, nIcl (show 64 * a + X < 1000000 by omega), (hT a ha X hX).2]
  rfl
end
