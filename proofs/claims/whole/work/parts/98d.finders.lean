/-! the class's search: what it finds -/
section
variable {R : am_R} {A : am_Au} {I : am_I} {L : am_L}
/-- the search has looked at the automaton -/
def lkM (I : am_I) (A : am_Au) : Prop := I 24 1 = nI A.1 ∧ I 24 2 = A.2.1 ∧ I 24 3 = A.2.2.1 ∧ I 24 4 = uA A ∧ ∀ a, a < 3 → tab I 26 27 A a 64
def lkf (I : am_I) (L : am_L) (I' : am_I) (L' : am_L) : Prop := (∀ b, b ≠ 24 → b ≠ 28 → I' b = I b) ∧ (∀ k, k < 5 → I' 24 k = I 24 k) ∧ ∀ b, b ≠ 29 → L' b = L b
theorem lkf.rf (I : am_I) (L : am_L) : lkf I L I L := ⟨fun _ _ _ => rfl, fun _ _ => rfl, fun _ _ => rfl⟩
theorem lkf.tr {I1 : am_I} {L1 : am_L} {I2 : am_I} {L2 : am_L} (h : lkf I L I1 L1) (g : lkf I1 L1 I2 L2) : lkf I L I2 L2 := ⟨fun b x y => (g.1 b x y).trans (h.1 b x y), fun k x => (g.2.1 k x).trans (h.2.1 k x), fun b x => (g.2.2 b x).trans (h.2.2 b x)⟩
theorem lkM.kept {I' : am_I} {L' : am_L} (h : lkM I A) (f : lkf I L I' L') : lkM I' A := by
  obtain ⟨h1, h2, h3, h4, h5⟩ := h
  exact ⟨by rw [f.2.1 1 (by decide)]; exact h1, by rw [f.2.1 2 (by decide)]; exact h2, by rw [f.2.1 3 (by decide)]; exact h3, by rw [f.2.1 4 (by decide)]; exact h4, tab.kept h5 (f.1 26 (by decide) (by decide)) (f.1 27 (by decide) (by decide))⟩
theorem sef.l {I' : am_I} {L' : am_L} (h : sef I L I' L') : lkf I L I' L' := ⟨h.1, fun k hk => h.2.1 k (by omega) (by omega), h.2.2⟩
theorem lkf.up {k : Nat} {v : Int32} (hk : 5 ≤ k) : lkf I L (am_upI I 24 k v) L := ⟨fun b x _ => am_upI_ne x, fun j hj => am_upI_o (by omega), fun _ _ => rfl⟩
theorem e_findAmb (hR : okC R) (hw : aw A) (hK : lkM I A) : ∃ c I' L', pX9_findAmbiguousWord R I L 24 = some (bI c, I', L') ∧ lkf I L I' L' ∧ (c = true → ∃ w, isFst (gAmb A) w ∧ fdW A false I' w) ∧ (c = false → ¬ isAmb A) := by
  have hini : A.2.1 = nI (nz A.2.1) := nz_e (fun k hk => (hw.2.2.1 k (by have := hw.2.1; omega)).1)
  have f1 : lkf I L (am_upI I 24 5 0) L := lkf.up (by omega)
  have hK1 := hK.kept f1
  have z5 : am_upI I 24 5 0 24 5 = 0 := am_upI_s
  unfold pX9_findAmbiguousWord
  rw [am_let_e]
  generalize am_upI I 24 5 0 = I1 at *
  obtain ⟨c, I', L', e, f2, r1, r2⟩ := e_run hR hw (sp := false) (I := I1) (L := L) (by rw [z5]; exact ⟨fun h => absurd h (by decide), fun h => (by cases h)⟩) hK1.2.2.2.2 (nz_lt A.2.1) (show 0 < 64 by omega) (G := G0 A) (fun I' hf X hX Y hY => e_goal0 (by rw [hf 5 (by decide) (by decide)]; exact z5) (by rw [hf 3 (by decide) (by decide)]; exact hK1.2.2.1) hX hY)
  rw [← hini, show nI 0 = (0 : Int32) from nI_0] at e
  rw [hK1.2.1, e, am_bd]
  dsimp only
  rw [isb_bI, am_ck_true]
  have iff : ∀ v, (wdl v ∧ G0 A (rn (nxS A false) (64 * nz A.2.1 + 0) v)) ↔ gAmb A v := fun v => by unfold gAmb; rw [G0_ac hw]
  refine ⟨c, I', L', rfl, f1.tr f2.l, fun hc => ?_, fun hc => ?_⟩
  · obtain ⟨w, g1, g2⟩ := r1 hc
    exact ⟨w, g1.congr iff, g2⟩
  · rintro ⟨w, hw⟩
    have := (iff w).mpr hw
    exact r2 hc w this.1 this.2
theorem e_findLoop (hR : okC R) (hw : aw A) (hK : lkM I A) {s : Nat} (hs : s < A.1) : ∃ c I' L', pX9_findLoopWord R I L 24 (nI s) = some (bI c, I', L') ∧ lkf I L I' L' ∧ (c = true ↔ isLop A s) ∧ (c = true → ∃ w, isFst (gLop A s) w ∧ fdW A false I' w) := by
  have h6 := hw.2.1
  have f1 : lkf I L (am_upI (am_upI I 24 5 1) 24 6 ((1 : Int32) <<< (nI s &&& 31))) L := (lkf.up (by omega)).tr (lkf.up (by omega))
  have hK1 := hK.kept f1
  have z5 : am_upI (am_upI I 24 5 1) 24 6 ((1 : Int32) <<< (nI s &&& 31)) 24 5 = 1 := by rw [am_upI_o (by decide), am_upI_s]
  have z6 : am_upI (am_upI I 24 5 1) 24 6 ((1 : Int32) <<< (nI s &&& 31)) 24 6 = (1 : Int32) <<< (nI s &&& 31) := am_upI_s
  unfold pX9_findLoopWord
  rw [am_let_e, am_let_e]
  generalize am_upI (am_upI I 24 5 1) 24 6 ((1 : Int32) <<< (nI s &&& 31)) = I1 at *
  rw [hK1.2.2.2.1, e_cb _ (show s < 32 by omega), am_bd]
  by_cases g : bt (uA A) s = true
  · rw [g, if_neg (show ¬ bI true = 0 by decide)]
    have hp := p2lt s (by omega)
    obtain ⟨c, I', L', e, f2, r1, r2⟩ := e_run hR hw (sp := false) (I := I1) (L := L) (by rw [z5]; exact ⟨fun h => absurd h (by decide), fun h => (by cases h)⟩) hK1.2.2.2.2 hp (show 0 < 64 by omega) (G := G1 s) (fun I' hf X hX Y hY => e_goal1 (show s < 32 by omega) (by rw [hf 5 (by decide) (by decide)]; exact z5) (by rw [hf 6 (by decide) (by decide)]; exact z6) hY)
    rw [← sh1 s (by omega), show nI 0 = (0 : Int32) from nI_0] at e
    rw [z6, e, am_bd]
    dsimp only
    have iff : ∀ v, (wdl v ∧ G1 s (rn (nxS A false) (64 * 2 ^ s + 0) v)) ↔ gLop A s v := fun v => by unfold gLop; rw [G1_ac hw hs]
    have hc : c = true ↔ isLop A s := by
      constructor
      · intro hc
        obtain ⟨w, g1, _⟩ := r1 hc
        exact ⟨hs, g, w, (iff w).mp g1.1⟩
      · rintro ⟨_, _, w, hw⟩
        cases hc : c with
        | true => rfl
        | false =>
          have := (iff w).mpr hw
          exact absurd this.2 (r2 hc w this.1)
    refine ⟨c, I', L', ?_, f1.tr f2.l, hc, fun h => ?_⟩
    · cases c <;> rfl
    · obtain ⟨w, g1, g2⟩ := r1 h
      exact ⟨w, g1.congr iff, g2⟩
  · rw [Bool.eq_false_iff.mpr g, if_pos (show bI false = 0 from rfl)]
    exact ⟨false, I1, L, rfl, f1, ⟨fun h => (by cases h), fun h => absurd h.2.1 g⟩, fun h => (by cases h)⟩
theorem e_findSplit (hR : okC R) (hw : aw A) (hK : lkM I A) {p q : Nat} (hp : p < A.1) (hq : q < A.1) : ∃ c I' L', pX9_findSplitWord R I L 24 (nI p) (nI q) = some (bI c, I', L') ∧ lkf I L I' L' ∧ (c = true ↔ isSpl A p q) ∧ (c = true → ∃ w, isFst (gSpl A p q) w ∧ fdW A true I' w) := by
  have h6 := hw.2.1
  have f1 : lkf I L (am_upI (am_upI (am_upI I 24 5 2) 24 6 ((1 : Int32) <<< (nI p &&& 31))) 24 7 ((1 : Int32) <<< (nI q &&& 31))) L := ((lkf.up (by omega)).tr (lkf.up (by omega))).tr (lkf.up (by omega))
  have hK1 := hK.kept f1
  have z5 : am_upI (am_upI (am_upI I 24 5 2) 24 6 ((1 : Int32) <<< (nI p &&& 31))) 24 7 ((1 : Int32) <<< (nI q &&& 31)) 24 5 = 2 := by rw [am_upI_o (by decide), am_upI_o (by decide), am_upI_s]
  have z6 : am_upI (am_upI (am_upI I 24 5 2) 24 6 ((1 : Int32) <<< (nI p &&& 31))) 24 7 ((1 : Int32) <<< (nI q &&& 31)) 24 6 = (1 : Int32) <<< (nI p &&& 31) := by rw [am_upI_o (by decide), am_upI_s]
  have z7 : am_upI (am_upI (am_upI I 24 5 2) 24 6 ((1 : Int32) <<< (nI p &&& 31))) 24 7 ((1 : Int32) <<< (nI q &&& 31)) 24 7 = (1 : Int32) <<< (nI q &&& 31) := am_upI_s
  unfold pX9_findSplitWord
  rw [am_let_e, am_let_e, am_let_e]
  generalize am_upI (am_upI (am_upI I 24 5 2) 24 6 ((1 : Int32) <<< (nI p &&& 31))) 24 7 ((1 : Int32) <<< (nI q &&& 31)) = I1 at *
  have no : ¬ isSpl A p q → ∃ c I' L', some ((0 : Int32), I1, L) = some (bI c, I', L') ∧ lkf I L I' L' ∧ (c = true ↔ isSpl A p q) ∧ (c = true → ∃ w, isFst (gSpl A p q) w ∧ fdW A true I' w) := fun hn => ⟨false, I1, L, rfl, f1, ⟨fun h => (by cases h), fun h => absurd h hn⟩, fun h => (by cases h)⟩
  by_cases g0 : p = q
  · rw [if_pos (by rw [g0])]
    exact no (fun h => h.1 g0)
  · rw [if_neg (fun h => g0 ((nI_eq (by omega) (by omega)).mp h)), hK1.2.2.2.1, e_cb _ (show p < 32 by omega), am_bd]
    by_cases g : bt (uA A) p = true
    · rw [g, if_neg (show ¬ bI true = 0 by decide), e_cb _ (show q < 32 by omega), am_bd]
      by_cases g2 : bt (uA A) q = true
      · rw [g2, if_neg (show ¬ bI true = 0 by decide)]
        have hp2 := p2lt p (by omega)
        have hq2 := p2lt q (by omega)
        obtain ⟨c, I', L', e, f2, r1, r2⟩ := e_run hR hw (sp := true) (I := I1) (L := L) (by rw [z5]; exact ⟨fun _ => rfl, fun _ => rfl⟩) hK1.2.2.2.2 hp2 hq2 (G := G2 p q) (fun I' hf X hX Y hY => e_goal2 (show p < 32 by omega) (show q < 32 by omega) (by rw [hf 5 (by decide) (by decide)]; exact z5) (by rw [hf 6 (by decide) (by decide)]; exact z6) (by rw [hf 7 (by decide) (by decide)]; exact z7) hY)
        rw [← sh1 p (by omega), ← sh1 q (by omega)] at e
        rw [z6, z7, e, am_bd]
        dsimp only
        have iff : ∀ v, (wdl v ∧ G2 p q (rn (nxS A true) (64 * 2 ^ p + 2 ^ q) v)) ↔ gSpl A p q v := fun v => by unfold gSpl; rw [G2_ac hw hp hq]
        have hc : c = true ↔ isSpl A p q := by
          constructor
          · intro hc
            obtain ⟨w, g1, _⟩ := r1 hc
            exact ⟨g0, hp, hq, g, g2, w, (iff w).mp g1.1⟩
          · rintro ⟨_, _, _, _, _, w, hw⟩
            cases hc : c with
            | true => rfl
            | false =>
              have := (iff w).mpr hw
              exact absurd this.2 (r2 hc w this.1)
        refine ⟨c, I', L', ?_, f1.tr f2.l, hc, fun h => ?_⟩
        · cases c <;> rfl
        · obtain ⟨w, g1, g2⟩ := r1 h
          exact ⟨w, g1.congr iff, g2⟩
      · rw [Bool.eq_false_iff.mpr g2, if_pos (show bI false = 0 from rfl)]
        exact no (fun h => g2 h.2.2.2.2.1)
    · rw [Bool.eq_false_iff.mpr g, if_pos (show bI false = 0 from rfl)]
      exact no (fun h => g h.2.2.2.1)
theorem e_lowestLoop (hR : okC R) (hw : aw A) (hK : lkM I A) : ∃ x I' L', pX9_lowestLoopState R I L 24 = some (x, I', L') ∧ lkf I L I' L' ∧ ((x = -1 ∧ ∀ s, ¬ isLop A s) ∨ ∃ s, x = nI s ∧ s < A.1 ∧ isLop A s ∧ (∀ s', s' < s → ¬ isLop A s') ∧ ∃ w, isFst (gLop A s) w ∧ fdW A false I' w) := by
  have h6 := hw.2.1
  unfold pX9_lowestLoopState
  have key := am_forQ (fun n i (s : am_I × am_L) => lX9_lowestLoopState_2 R 24 n (nI i) s.1 s.2) A.1 (fun i s => lkf I L s.1 s.2 ∧ ∀ s', s' < i → ¬ isLop A s') (fun r => ∃ x I' L', r = some (x, I', L') ∧ lkf I L I' L' ∧ ((x = -1 ∧ ∀ s, ¬ isLop A s) ∨ ∃ s, x = nI s ∧ s < A.1 ∧ isLop A s ∧ (∀ s', s' < s → ¬ isLop A s') ∧ ∃ w, isFst (gLop A s) w ∧ fdW A false I' w)) (by omega) (fun n i s hi hP => by
    obtain ⟨p1, p2⟩ := hP
    have hK' := hK.kept p1
    obtain ⟨c, I1, L1, e1, f1, c1, w1⟩ := e_findLoop hR hw hK' (L := s.2) hi
    have hs : lX9_lowestLoopState_2 R 24 (n + 1) (nI i) s.1 s.2 = sX9_lowestLoopState_2 R 24 (lX9_lowestLoopState_2 R 24 n) (nI i) s.1 s.2 := rfl
    cases c with
    | true =>
      right
      refine ⟨nI i, I1, L1, ?_, p1.tr f1, Or.inr ⟨i, rfl, hi, c1.mp rfl, p2, w1 rfl⟩⟩
      show lX9_lowestLoopState_2 R 24 (n + 1) (nI i) s.1 s.2 = _
      rw [hs]
      unfold sX9_lowestLoopState_2
      rw [hK'.1, if_neg (nIge hi (by omega)), e1, am_bd]
      rfl
    | false =>
      left
      refine ⟨(I1, L1), ?_, p1.tr f1, fun s' h => ?_⟩
      · show lX9_lowestLoopState_2 R 24 (n + 1) (nI i) s.1 s.2 = _
        rw [hs]
        unfold sX9_lowestLoopState_2
        rw [hK'.1, if_neg (nIge hi (by omega)), e1, am_bd, nI_1]
        rfl
      · by_cases e : s' = i
        · rw [e]; exact fun h => (by have := c1.mpr h; cases this)
        · exact p2 s' (by omega)) (fun n s hP => by
    obtain ⟨p1, p2⟩ := hP
    have hK' := hK.kept p1
    have hs : lX9_lowestLoopState_2 R 24 (n + 1) (nI A.1) s.1 s.2 = sX9_lowestLoopState_2 R 24 (lX9_lowestLoopState_2 R 24 n) (nI A.1) s.1 s.2 := rfl
    refine ⟨-1, s.1, s.2, ?_, p1, Or.inl ⟨rfl, fun s h => p2 s h.1 h⟩⟩
    show lX9_lowestLoopState_2 R 24 (n + 1) (nI A.1) s.1 s.2 = _
    rw [hs]
    unfold sX9_lowestLoopState_2
    rw [hK'.1, if_pos (nIle (by omega))]) (I, L) ⟨lkf.rf I L, fun s' h => absurd h (Nat.not_lt_zero s')⟩
  exact key
end
