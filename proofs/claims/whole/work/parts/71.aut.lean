/-! an automaton as a value: number of states, initial, final, targets (letter, state) -/
abbrev am_Au : Type := Nat × Int32 × Int32 × (Nat → Nat → Int32)
def aw (A : am_Au) : Prop := 1 ≤ A.1 ∧ A.1 ≤ 6 ∧ (∀ k, A.1 ≤ k → bt A.2.1 k = false ∧ bt A.2.2.1 k = false) ∧ (∀ a s k, A.1 ≤ k → bt (A.2.2.2 a s) k = false) ∧ ∀ a s, (A.1 ≤ s ∨ 3 ≤ a) → A.2.2.2 a s = 0
/-- the class's automaton at o, its targets at t -/
def isA (I : am_I) (o t : Nat) (A : am_Au) : Prop := I o 0 = nI A.1 ∧ I o 1 = A.2.1 ∧ I o 2 = A.2.2.1 ∧ ∀ a s, a < 3 → s < 6 → I t (3 * s + a) = A.2.2.2 a s
/-- the reference's automaton -/
def isM (J : am_I) (A : am_Au) : Prop := J 1 3 = nI A.1 ∧ J 1 4 = A.2.1 ∧ J 1 5 = A.2.2.1 ∧ ∀ a s, a < 3 → s < 6 → J 2 (6 * a + s) = A.2.2.2 a s
theorem isA.kept {I J : am_I} {o t : Nat} {A : am_Au} (h : isA I o t A) (h1 : J o = I o) (h2 : J t = I t) : isA J o t A := by
  obtain ⟨a, b, c, d⟩ := h
  exact ⟨by rw [h1]; exact a, by rw [h1]; exact b, by rw [h1]; exact c, fun x y hx hy => by rw [h2]; exact d x y hx hy⟩
theorem am_upI_eq {I : am_I} {a k : Nat} {v : Int32} : am_upI I a k v a = fun j => if j = k then v else I a j := by funext j; simp [am_upI]
theorem am_upI_s {I : am_I} {a k : Nat} {v : Int32} : am_upI I a k v a k = v := by simp [am_upI]
theorem am_upI_o {I : am_I} {a k j : Nat} {v : Int32} (h : j ≠ k) : am_upI I a k v a j = I a j := by simp [am_upI, h]
theorem e_targetsOf {R : am_R} {I : am_I} {o : Nat} {A : am_Au} (hA : isA I o (R o 3) A) (hw : aw A) (s a : Nat) (hs : s < 100) (ha : a < 100) : pX0_targetsOf R I o (nI s) (nI a) = some (A.2.2.2 a s) := by
  obtain ⟨h0, h1, h2, h3⟩ := hA
  obtain ⟨w1, w2, w3, w4, w5⟩ := hw
  have n1 : ¬ nI s < 0 := nI_pos (by omega)
  have n2 : ¬ nI a < 0 := nI_pos (by omega)
  unfold pX0_targetsOf
  rw [am_let_e, h0, if_neg n1]
  by_cases hs' : s < A.1
  · rw [if_neg (nI_ge hs' (by omega)), if_neg n2]
    by_cases ha' : a < 3
    · have n3 : ¬ (3 : Int32) ≤ nI a := nI_ge (b := 3) ha' (by omega)
      have e : nI s * (3 : Int32) + nI a = nI (3 * s + a) := by
        rw [show (3 : Int32) = nI 3 from rfl, pk_mul, nI_add, Nat.mul_comm]
      rw [if_neg n3, if_neg (by decide), e, am_ck_t (am_inb_nI (by omega) (by omega)), nI_clamp (by omega), h3 a s ha' (by omega)]
    · have n3 : (3 : Int32) ≤ nI a := nI_le (a := 3) (by omega) (by omega)
      rw [if_pos n3, if_pos rfl, w5 a s (Or.inr (by omega))]
  · have n4 : nI A.1 ≤ nI s := nI_le (by omega) (by omega)
    rw [if_pos n4, if_pos rfl, w5 a s (Or.inl (by omega))]
theorem e_hasState {I : am_I} {o : Nat} {N : Nat} (h0 : I o 0 = nI N) (hN : N ≤ 6) (x : Int32) : (pX0_hasState I o x = some 0 ∧ (x < 0 ∨ nI N ≤ x)) ∨ ∃ s, s < N ∧ x = nI s ∧ pX0_hasState I o x = some 1 := by
  unfold pX0_hasState
  rw [h0]
  rcases pk_ix x (n := N) (by omega) with h | h | ⟨s, hs, rfl⟩
  · exact Or.inl ⟨if_pos h, Or.inl h⟩
  · by_cases h1 : x < 0
    · exact Or.inl ⟨if_pos h1, Or.inl h1⟩
    · exact Or.inl ⟨by rw [if_neg h1, if_pos h], Or.inr h⟩
  · refine Or.inr ⟨s, hs, rfl, ?_⟩
    rw [if_neg (nI_pos (by omega)), if_neg (nI_ge hs (by omega))]
theorem e_isLetter (x : Int32) : (pX10_isLetter x = some 0 ∧ (x < 0 ∨ 3 ≤ x)) ∨ ∃ a, a < 3 ∧ x = nI a ∧ pX10_isLetter x = some 1 := by
  unfold pX10_isLetter
  rcases pk_ix x (n := 3) (by omega) with h | h | ⟨s, hs, rfl⟩
  · exact Or.inl ⟨if_pos h, Or.inl h⟩
  · have h : (3 : Int32) ≤ x := h
    by_cases h1 : x < 0
    · exact Or.inl ⟨if_pos h1, Or.inl h1⟩
    · exact Or.inl ⟨by rw [if_neg h1, if_pos h], Or.inr h⟩
  · refine Or.inr ⟨s, hs, rfl, ?_⟩
    have : ¬ (3 : Int32) ≤ nI s := nI_ge (b := 3) hs (by omega)
    rw [if_neg (nI_pos (by omega)), if_neg this]
theorem e_clear {R : am_R} {I : am_I} {o N : Nat} (ht : R o 3 ≠ o) : ∃ J, pX0_clear R I o (nI N) = some J ∧ isA J o (R o 3) (N, 0, 0, fun _ _ => 0) ∧ ∀ b, b ≠ o → b ≠ R o 3 → J b = I b := by
  unfold pX0_clear
  simp only [am_let_e]
  generalize hJ0 : am_upI (am_upI (am_upI I o 0 (nI N)) o 1 0) o 2 0 = J0
  have key := am_loopQ (fun n i J => lX0_clear_17 R o n (nI i) J) 18 (fun i J => (∀ b, b ≠ R o 3 → J b = J0 b) ∧ ∀ j, j < i → J (R o 3) j = 0)
    (fun r => ∃ J, r = some J ∧ (∀ b, b ≠ R o 3 → J b = J0 b) ∧ ∀ j, j < 18 → J (R o 3) j = 0)
    (fun n i J hi hI => by
      refine Or.inl ⟨am_upI J (R o 3) i 0, ?_, fun b hb => by rw [am_upI_ne hb]; exact hI.1 b hb, fun j hj => ?_⟩
      · show sX0_clear_17 R o (lX0_clear_17 R o n) (nI i) J = _
        unfold sX0_clear_17
        have h18 : ¬ (18 : Int32) ≤ nI i := nI_ge (b := 18) hi (by omega)
        rw [if_neg h18, am_ck_t (am_inb_nI hi (by omega)), am_let_e, nI_clamp (by omega), nI_1]
      · by_cases e : j = i
        · subst e; exact am_upI_s
        · rw [am_upI_o e]; exact hI.2 j (by omega))
    (fun n J hI => by
      refine ⟨J, ?_, hI.1, hI.2⟩
      show sX0_clear_17 R o (lX0_clear_17 R o n) (nI 18) J = _
      unfold sX0_clear_17
      exact if_pos (by decide))
    am_fu 0 J0 (by omega) (am_fu_lt (by omega)) ⟨fun _ _ => rfl, fun j hj => by omega⟩
  obtain ⟨J, h1, h2, h3⟩ := key
  have h1 : lX0_clear_17 R o am_fu (nI 0) J0 = some J := h1
  rw [nI_0] at h1
  refine ⟨J, h1, ⟨?_, ?_, ?_, fun a s ha hs => h3 _ (by omega)⟩, fun b hb hb2 => ?_⟩
  · rw [h2 o (Ne.symm ht), ← hJ0]; simp [am_upI]
  · rw [h2 o (Ne.symm ht), ← hJ0]; simp [am_upI]
  · rw [h2 o (Ne.symm ht), ← hJ0]; simp [am_upI]
  · rw [h2 b hb2, ← hJ0, am_upI_ne hb, am_upI_ne hb, am_upI_ne hb]
