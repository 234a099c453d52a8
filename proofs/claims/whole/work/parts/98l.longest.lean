/-! the class: the longest chain of split pairs -/
section
variable {R : am_R} {A : am_Au} {I : am_I} {L : am_L}
/-- the mask of the split pairs before (p, q) -/
def mkP (A : am_Au) (v : Int64) (p q : Nat) : Prop := ∀ k, k < 64 → (btl v k = true ↔ ∃ p' q', bef p q p' q' ∧ isSpl A p' q' ∧ k = 6 * p' + q')
theorem e_sp15 (hR : okC R) (hw : aw A) (hK : lkM I A) {p : Nat} (hp : p < A.1) {v0 : Int64} (h0 : mkP A v0 p 0) (j : Int64 → am_I → am_L → Option (Int64 × am_I × am_L)) :
    ∃ v I' L', lX9_splitPairs_15 R 24 (nI p) j am_fu v0 (0 : Int32) I L = j v I' L' ∧ lkf I L I' L' ∧ mkP A v (p + 1) 0 := by
  have h6 := hw.2.1
  obtain ⟨⟨v, I', L'⟩, e, h1, h2⟩ := am_for0 (fun n i (s : Int64 × am_I × am_L) => lX9_splitPairs_15 R 24 (nI p) j n s.1 (nI i) s.2.1 s.2.2) A.1 (fun q s => lkf I L s.2.1 s.2.2 ∧ mkP A s.1 p q) (fun s => j s.1 s.2.1 s.2.2) (by omega) (fun n q s hq hP => by
    obtain ⟨p1, p2⟩ := hP
    have hK' := hK.kept p1
    obtain ⟨c, I1, L1, e1, f1, c1, _⟩ := e_findSplit hR hw hK' (L := s.2.2) hp hq
    have ei : nI p * (6 : Int32) + nI q = nI (6 * p + q) := by rw [show (6 : Int32) = nI 6 from rfl, pk_mul, nI_add, Nat.mul_comm]
    refine ⟨(s.1 ||| (if c = true then ((1 : Int64) <<< (Int32.toInt64 (nI (6 * p + q)) &&& 63)) else 0), I1, L1), ?_, p1.tr f1, fun k hk => ?_⟩
    · show sX9_splitPairs_15 R 24 (nI p) j (lX9_splitPairs_15 R 24 (nI p) j n) s.1 (nI q) s.2.1 s.2.2 = _
      unfold sX9_splitPairs_15
      rw [hK'.1, if_neg (nIge hq (by omega)), e1, am_bd, am_let_e, am_let_e, ei, nI_1]
      cases c <;> rfl
    · show btl (s.1 ||| (if c = true then ((1 : Int64) <<< (Int32.toInt64 (nI (6 * p + q)) &&& 63)) else 0)) k = true ↔ _
      rw [btl_or, Bool.or_eq_true, p2 k hk]
      constructor
      · rintro (⟨p', q', a, b, d⟩ | h)
        · exact ⟨p', q', bef_s.mpr (Or.inl a), b, d⟩
        · cases c with
          | false => rw [if_neg (by decide), btl_zero] at h; cases h
          | true =>
            rw [if_pos rfl, btl_1s (6 * p + q) (by omega) k hk] at h
            exact ⟨p, q, bef_s.mpr (Or.inr ⟨rfl, rfl⟩), c1.mp rfl, of_decide_eq_true h⟩
      · rintro ⟨p', q', a, b, d⟩
        rcases bef_s.mp a with a | ⟨rfl, rfl⟩
        · exact Or.inl ⟨p', q', a, b, d⟩
        · right
          rw [if_pos (c1.mpr b), btl_1s (6 * p' + q') (by omega) k hk]
          exact decide_eq_true d) (fun n s hP => by
    have hK' := hK.kept hP.1
    show sX9_splitPairs_15 R 24 (nI p) j (lX9_splitPairs_15 R 24 (nI p) j n) s.1 (nI A.1) s.2.1 s.2.2 = _
    unfold sX9_splitPairs_15
    rw [hK'.1, if_pos (nIle (by omega))]) (v0, I, L) ⟨lkf.rf I L, h0⟩
  refine ⟨v, I', L', e, h1, fun k hk => (h2 k hk).trans ?_⟩
  constructor
  · rintro ⟨p', q', a, b, d⟩
    have := b.2.2.1
    exact ⟨p', q', by unfold bef at *; omega, b, d⟩
  · rintro ⟨p', q', a, b, d⟩
    have := b.2.2.1
    exact ⟨p', q', by unfold bef at *; omega, b, d⟩
theorem e_splitPairs (hR : okC R) (hw : aw A) (hK : lkM I A) : ∃ v I' L', pX9_splitPairs R I L 24 = some (v, I', L') ∧ lkf I L I' L' ∧ ∀ k, k < 64 → (btl v k = true ↔ ∃ p q, isSpl A p q ∧ k = 6 * p + q) := by
  have h6 := hw.2.1
  unfold pX9_splitPairs
  obtain ⟨⟨v, I', L'⟩, e, h1, h2⟩ := am_for0 (fun n i (s : Int64 × am_I × am_L) => lX9_splitPairs_4 R 24 n s.1 (nI i) s.2.1 s.2.2) A.1 (fun p s => lkf I L s.2.1 s.2.2 ∧ mkP A s.1 p 0) (fun s => some (s.1, s.2.1, s.2.2)) (by omega) (fun n p s hp hP => by
    obtain ⟨p1, p2⟩ := hP
    have hK' := hK.kept p1
    obtain ⟨v, I1, L1, e1, f1, g1⟩ := e_sp15 hR hw hK' (L := s.2.2) hp p2 (fun (v9 : Int64) (J10 : am_I) (J11 : am_L) => lX9_splitPairs_4 R 24 n v9 (nI p + (1 : Int32)) J10 J11)
    refine ⟨(v, I1, L1), ?_, p1.tr f1, g1⟩
    show sX9_splitPairs_4 R 24 (lX9_splitPairs_4 R 24 n) s.1 (nI p) s.2.1 s.2.2 = _
    unfold sX9_splitPairs_4
    rw [hK'.1, if_neg (nIge hp (by omega)), am_jn_e, e1, nI_1]) (fun n s hP => by
    have hK' := hK.kept hP.1
    show sX9_splitPairs_4 R 24 (lX9_splitPairs_4 R 24 n) s.1 (nI A.1) s.2.1 s.2.2 = _
    unfold sX9_splitPairs_4
    rw [hK'.1, if_pos (nIle (by omega))]) ((0 : Int64), I, L) ⟨lkf.rf I L, fun k _ => by
      rw [btl_zero]
      exact ⟨fun h => (by cases h), fun ⟨p', q', a, _⟩ => by unfold bef at a; omega⟩⟩
  refine ⟨v, I', L', e, h1, fun k hk => (h2 k hk).trans ?_⟩
  constructor
  · rintro ⟨p', q', _, b, d⟩; exact ⟨p', q', b, d⟩
  · rintro ⟨p', q', b, d⟩
    have := b.2.1
    exact ⟨p', q', Or.inl this, b, d⟩
/-! the chains -/
def snC (A : am_Au) (c : Nat → Nat) : Prop := ∀ s, s < 6 → c s = 0 ∨ ∃ k p q, c s = k + 1 ∧ CH A k p q ∧ bt (rc A q) s = true
def cpC (A : am_Au) (c : Nat → Nat) (r : Nat) : Prop := ∀ k p q, k < r → CH A k p q → ∀ s, s < 6 → bt (rc A q) s = true → k + 1 ≤ c s
/-- a pair prolongs the chains -/
def prl (A : am_Au) (p q : Nat) (c : Nat → Nat) : Nat → Nat := fun s => if bt (rc A q) s = true then (if c s < c p + 1 then c p + 1 else c s) else c s
theorem prl_le (p q : Nat) (c : Nat → Nat) (s : Nat) : c s ≤ prl A p q c s := by
  unfold prl
  by_cases h : bt (rc A q) s = true
  · rw [if_pos h]
    by_cases g : c s < c p + 1
    · rw [if_pos g]; omega
    · rw [if_neg g]; exact Nat.le_refl _
  · rw [if_neg h]; exact Nat.le_refl _
theorem snC.put (hw : aw A) {c : Nat → Nat} (h : snC A c) {p q : Nat} (hs : isSpl A p q) : snC A (prl A p q c) := fun s hs6 => by
  have h6 := hw.2.1
  show prl A p q c s = 0 ∨ ∃ k p' q', prl A p q c s = k + 1 ∧ _
  unfold prl
  by_cases hb : bt (rc A q) s = true
  · rw [if_pos hb]
    by_cases g : c s < c p + 1
    · rw [if_pos g]
      right
      refine ⟨c p, p, q, rfl, ?_, hb⟩
      rcases h p (by have := hs.2.1; omega) with e | ⟨k, p', q', e, a, b⟩
      · rw [e]; exact hs
      · rw [e]; exact ⟨hs, p', q', a, b⟩
    · rw [if_neg g]; exact h s hs6
  · rw [if_neg hb]; exact h s hs6
theorem snC.lt (hw : aw A) (hno : ∀ s, ¬ isLop A s) {c : Nat → Nat} (h : snC A c) {s : Nat} (hs : s < 6) : c s < 6 := by
  have h6 := hw.2.1
  rcases h s hs with e | ⟨k, p, q, e, a, _⟩
  · omega
  · have := a.len hw hno; omega
end
