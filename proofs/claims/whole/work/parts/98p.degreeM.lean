/-! the reference: the degree -/
section
variable {A : am_Au} {J : am_I}
def wyM (J : am_I) (c : Nat → Nat) : Prop := ∀ i, i < 36 → J 18 i = nI (c i)
def spi (A : am_Au) (i : Nat) : Prop := isSpl A (i / 6) (i % 6)
def snW (A : am_Au) (c : Nat → Nat) : Prop := ∀ i, i < 36 → (c i = 0 ∧ ¬ spi A i) ∨ ∃ k, c i = k + 1 ∧ CH A k (i / 6) (i % 6)
def cpW (A : am_Au) (c : Nat → Nat) (r : Nat) : Prop := ∀ k i, k ≤ r → i < 36 → CH A k (i / 6) (i % 6) → k + 1 ≤ c i
/-- the pairs below i, and pair i up to j, have led on in this round -/
def ldW (A : am_Au) (c : Nat → Nat) (r i j : Nat) : Prop := ∀ k i' j', k ≤ r → i' < 36 → j' < 36 → bef i j i' j' → CH A k (i' / 6) (i' % 6) → spi A j' → bt (rc A (i' % 6)) (j' / 6) = true → k + 2 ≤ c j'
theorem snW.lt (hw : aw A) (hno : ∀ s, ¬ isLop A s) {c : Nat → Nat} (h : snW A c) {i : Nat} (hi : i < 36) : c i < 6 := by
  have h6 := hw.2.1
  rcases h i hi with ⟨e, _⟩ | ⟨k, e, a⟩
  · omega
  · have := a.len hw hno; omega
theorem J17_s (hK : okK J A) {i : Nat} (hi : i < 36) : (J 17 i = 1 ∧ spi A i) ∨ (J 17 i = 0 ∧ ¬ spi A i) := by
  have := hK.2.2.1 (i / 6) (i % 6) (by omega) (by omega)
  rw [show 6 * (i / 6) + i % 6 = i by omega] at this
  exact this
theorem e_dg24 (hK : okK J A) (j : am_I → Option (Int32 × am_I)) : ∃ J', lX11_degree_24 rM 1 j am_fu (0 : Int32) J = j J' ∧ (∃ c, wyM J' c ∧ snW A c ∧ cpW A c 0) ∧ ∀ b, b ≠ 18 → J' b = J b := by
  obtain ⟨J', e, h1, h2⟩ := am_for0 (fun n i J => lX11_degree_24 rM 1 j n (nI i) J) 36 (fun i J' => (∀ i', i' < i → J' 18 i' = bI (dcd (spi A i'))) ∧ ∀ b, b ≠ 18 → J' b = J b) j (by omega) (fun n i J1 hi hP => by
    have c36 : ¬ (36 : Int32) ≤ nI i := nI_ge (b := 36) hi (by omega)
    have e17 : (if J1 17 i = 0 then (0 : Int32) else 1) = bI (dcd (spi A i)) := by
      rw [hP.2 17 (by decide)]
      rcases J17_s hK hi with ⟨a, b⟩ | ⟨a, b⟩
      · rw [a, dcd_pos b]; rfl
      · rw [a, dcd_neg b]; rfl
    refine ⟨am_upI J1 18 i (bI (dcd (spi A i))), ?_, fun i' hi' => ?_, fun b x => by rw [am_upI_ne x]; exact hP.2 b x⟩
    · show sX11_degree_24 rM 1 j (lX11_degree_24 rM 1 j n) (nI i) J1 = _
      unfold sX11_degree_24
      rw [if_neg c36, inb hi (by omega), am_ck_true, rM26, rM30, nIcl (show i < 1000000 by omega), e17, am_let_e, am_ck_true, am_let_e, nI_1]
    · by_cases e : i' = i
      · rw [e, am_upI_s]
      · rw [am_upI_o e]; exact hP.1 i' (by omega)) (fun n J1 _ => by
    show sX11_degree_24 rM 1 j (lX11_degree_24 rM 1 j n) (nI 36) J1 = _
    unfold sX11_degree_24
    rw [if_pos (show (36 : Int32) ≤ nI 36 by decide)]) J ⟨fun i' h => absurd h (Nat.not_lt_zero i'), fun _ _ => rfl⟩
  refine ⟨J', e, ⟨fun i => (dcd (spi A i)).toNat, fun i hi => ?_, fun i hi => ?_, fun k i hk hi hC => ?_⟩, h2⟩
  · rw [h1 i hi]
    show bI (dcd (spi A i)) = nI (dcd (spi A i)).toNat
    cases dcd (spi A i) <;> rfl
  · by_cases g : spi A i
    · exact Or.inr ⟨0, by dsimp only; rw [dcd_pos g]; rfl, g⟩
    · exact Or.inl ⟨by dsimp only; rw [dcd_neg g]; rfl, g⟩
  · have g : spi A i := hC.spl
    dsimp only
    rw [dcd_pos g]
    show k + 1 ≤ 1
    omega
theorem ldW.same {c : Nat → Nat} {r i j : Nat} (h : ldW A c r i j) (hn : ¬ (spi A i ∧ spi A j ∧ bt (rc A (i % 6)) (j / 6) = true)) : ldW A c r i (j + 1) := by
  intro k i' j' hk hi' hj' hb hC hs ht
  rcases bef_s.mp hb with hb | ⟨rfl, rfl⟩
  · exact h k i' j' hk hi' hj' hb hC hs ht
  · exact absurd ⟨hC.spl, hs, ht⟩ hn
theorem ldW.up {c c' : Nat → Nat} {r i j : Nat} (h : ldW A c r i j) (g : ∀ s, s < 36 → c s ≤ c' s) : ldW A c' r i j := fun k i' j' hk hi' hj' hb hC hs ht => Nat.le_trans (h k i' j' hk hi' hj' hb hC hs ht) (g j' hj')
theorem ldW.row {c : Nat → Nat} {r i : Nat} (h : ldW A c r i 36) : ldW A c r (i + 1) 0 := fun k i' j' hk hi' hj' hb hC hs ht => h k i' j' hk hi' hj' (by unfold bef at *; omega) hC hs ht
theorem ldW.done (hw : aw A) {c : Nat → Nat} {r : Nat} (h : ldW A c r 36 0) (g : cpW A c r) : cpW A c (r + 1) := fun k i hk hi hC => by
  by_cases e : k ≤ r
  · exact g k i e hi hC
  · have hk : k = r + 1 := by omega
    subst hk
    obtain ⟨h1, p', q', h2, h3⟩ := hC
    have h6 := hw.2.1
    have hp := h2.spl.2.1
    have hq := h2.spl.2.2.1
    have u1 : (6 * p' + q') / 6 = p' := by omega
    have u2 : (6 * p' + q') % 6 = q' := by omega
    exact h r (6 * p' + q') i (Nat.le_refl r) (by omega) hi (Or.inl (by omega)) (by rw [u1, u2]; exact h2) h1 (by rw [u2]; exact h3)
end
