/-! the class: the longest chain -/
section
variable {R : am_R} {A : am_Au} {I : am_I} {L : am_L}
def dgM (A : am_Au) (M : Nat) : Prop := (∀ k p q, CH A k p q → k + 1 ≤ M) ∧ (M = 0 ∨ ∃ k p q, CH A k p q ∧ M = k + 1)
theorem dgM.uniq {M N : Nat} (h : dgM A M) (g : dgM A N) : M = N := by
  have h1 : M ≤ N := by
    rcases h.2 with e | ⟨k, p, q, a, e⟩
    · omega
    · have := g.1 k p q a; omega
  have h2 : N ≤ M := by
    rcases g.2 with e | ⟨k, p, q, a, e⟩
    · omega
    · have := h.1 k p q a; omega
  omega
theorem e_lc44 (hR : okC R) (hw : aw A) (hno : ∀ s, ¬ isLop A s) (hA : isA I 2 3 A) {v : Int64} (hv : ∀ k, k < 64 → (btl v k = true ↔ ∃ p q, isSpl A p q ∧ k = 6 * p + q)) {r : Nat} (x : Int32) (j : am_I → Option (Int32 × am_I × am_L)) (h0 : ∃ c, chM I c ∧ snC A c ∧ cpC A c r) :
    ∃ I', lX9_longestChain_44 R 24 2 v x L j am_fu (0 : Int32) I = j I' ∧ (∃ c, chM I' c ∧ snC A c ∧ cpC A c (r + 1)) ∧ ∀ b, b ≠ 30 → I' b = I b := by
  have h6 := hw.2.1
  obtain ⟨I', e, ⟨c, h1, h2, h3, h4⟩, h5⟩ := am_for0 (fun n i J => lX9_longestChain_44 R 24 2 v x L j n (nI i) J) 36 (fun i J => (∃ c, chM J c ∧ snC A c ∧ cpC A c r ∧ cpP A c r i) ∧ ∀ b, b ≠ 30 → J b = I b) j (by omega) (fun n i J hi hP => by
    obtain ⟨⟨c, p1, p2, p3, p4⟩, p5⟩ := hP
    have hs : lX9_longestChain_44 R 24 2 v x L j (n + 1) (nI i) J = sX9_longestChain_44 R 24 2 v x L j (lX9_longestChain_44 R 24 2 v x L j n) (nI i) J := rfl
    have c36 : ¬ (36 : Int32) ≤ nI i := nI_ge (b := 36) hi (by omega)
    obtain ⟨p, q, hp, hq, rfl⟩ : ∃ p q, p < 6 ∧ q < 6 ∧ i = 6 * p + q := ⟨i / 6, i % 6, by omega, by omega, by omega⟩
    have hb : btl v (6 * p + q) = true ↔ isSpl A p q := by
      rw [hv _ (by omega)]
      constructor
      · rintro ⟨p', q', a, b⟩
        have ha := a.2.2.1
        have e1 : p' = p := by omega
        have e2 : q' = q := by omega
        rw [e1, e2] at a
        exact a
      · intro h
        exact ⟨p, q, h, rfl⟩
    by_cases g : isSpl A p q
    · have hA' : isA J 2 3 A := hA.kept (p5 2 (by decide)) (p5 3 (by decide))
      obtain ⟨J2, e2, f1, f2⟩ := e_prolong (q := q) hR hw hA' hp p1 (fun s hs => by have := p2.lt hw hno hs; omega)
      refine ⟨J2, ?_, ⟨_, f1, p2.put hw g, p3.up (prl_le p q c), p4.step hw hq p3⟩, fun b hb => (f2 b hb).trans (p5 b hb)⟩
      have ed : nI (6 * p + q) / (6 : Int32) = nI p := by
        rw [show (6 : Int32) = nI 6 from rfl, pk_div (by omega) (by omega) (by omega)]
        congr 1
        omega
      have er : nI (6 * p + q) - nI p * (6 : Int32) = nI q := by
        rw [show (6 : Int32) = nI 6 from rfl, pk_mul, pk_sub (by omega)]
        congr 1
        omega
      rw [hs]
      unfold sX9_longestChain_44
      rw [if_neg c36, am_jn_e, btl_shr1 _ (show 6 * p + q < 64 by omega), if_pos (hb.mpr g), if_neg (by decide), ed, er, e2, am_bd, nI_1]
    · refine ⟨J, ?_, ⟨c, p1, p2, p3, p4.skip hq g⟩, p5⟩
      rw [hs]
      unfold sX9_longestChain_44
      rw [if_neg c36, am_jn_e, btl_shr1 _ (show 6 * p + q < 64 by omega), if_neg (fun h => g (hb.mp h)), if_pos (by decide), nI_1]) (fun n J _ => by
    have c36 : (36 : Int32) ≤ nI 36 := by decide
    show sX9_longestChain_44 R 24 2 v x L j (lX9_longestChain_44 R 24 2 v x L j n) (nI 36) J = _
    unfold sX9_longestChain_44
    rw [if_pos c36]) I ⟨by
      obtain ⟨c, a, b, d⟩ := h0
      exact ⟨c, a, b, d, fun k p q _ hi => absurd hi (Nat.not_lt_zero _)⟩, fun _ _ => rfl⟩
  exact ⟨I', e, ⟨c, h1, h2, h4.done hw⟩, h5⟩
theorem e_lc32 (hR : okC R) (hw : aw A) (hno : ∀ s, ¬ isLop A s) (hA : isA I 2 3 A) (h24 : I 24 1 = nI A.1) {v : Int64} (hv : ∀ k, k < 64 → (btl v k = true ↔ ∃ p q, isSpl A p q ∧ k = 6 * p + q)) (j : am_I → Option (Int32 × am_I × am_L)) (h0 : ∃ c, chM I c ∧ snC A c ∧ cpC A c 0) :
    ∃ I', lX9_longestChain_32 R 24 2 v L j am_fu (1 : Int32) I = j I' ∧ (∃ c, chM I' c ∧ snC A c ∧ cpC A c (A.1 - 1)) ∧ ∀ b, b ≠ 30 → I' b = I b := by
  have h6 := hw.2.1
  have h1' := hw.1
  obtain ⟨I', e, h1, h5⟩ := am_fork (fun n i J => lX9_longestChain_32 R 24 2 v L j n (nI i) J) 1 A.1 (fun i J => (∃ c, chM J c ∧ snC A c ∧ cpC A c (i - 1)) ∧ ∀ b, b ≠ 30 → J b = I b) j (by omega) h1' (fun n i J hi1 hi hP => by
    obtain ⟨p1, p5⟩ := hP
    have z : J 24 1 = nI A.1 := by rw [p5 24 (by decide)]; exact h24
    have hA' : isA J 2 3 A := hA.kept (p5 2 (by decide)) (p5 3 (by decide))
    obtain ⟨J2, e2, f1, f2⟩ := e_lc44 (L := L) hR hw hno hA' hv (nI i) (fun J23 => lX9_longestChain_32 R 24 2 v L j n (nI i + (1 : Int32)) J23) p1
    refine ⟨J2, ?_, by rw [show i + 1 - 1 = i - 1 + 1 by omega]; exact f1, fun b hb => (f2 b hb).trans (p5 b hb)⟩
    show sX9_longestChain_32 R 24 2 v L j (lX9_longestChain_32 R 24 2 v L j n) (nI i) J = _
    unfold sX9_longestChain_32
    rw [z, if_neg (nIge hi (by omega)), am_jn_e, e2, nI_1]) (fun n J hP => by
    have z : J 24 1 = nI A.1 := by rw [hP.2 24 (by decide)]; exact h24
    show sX9_longestChain_32 R 24 2 v L j (lX9_longestChain_32 R 24 2 v L j n) (nI A.1) J = _
    unfold sX9_longestChain_32
    rw [z, if_pos (nIle (by omega))]) I ⟨h0, fun _ _ => rfl⟩
  exact ⟨I', e, h1, h5⟩
theorem e_lc95 (hR : okC R) {c : Nat → Nat} (hc : chM I c) (hcl : ∀ s, s < 6 → c s < 1000) : ∃ M, lX9_longestChain_95 R 24 I L am_fu (0 : Int32) (0 : Int32) = some (nI M, I, L) ∧ (∀ s, s < 6 → c s ≤ M) ∧ (M = 0 ∨ ∃ s, s < 6 ∧ c s = M) := by
  obtain ⟨M, e, h1, h2, h3⟩ := am_for0 (fun n i (m : Nat) => lX9_longestChain_95 R 24 I L n (nI m) (nI i)) 6 (fun i m => (∀ s, s < i → c s ≤ m) ∧ (m = 0 ∨ ∃ s, s < 6 ∧ c s = m) ∧ m < 1000) (fun m => some (nI m, I, L)) (by omega) (fun n i m hi hP => by
    obtain ⟨p1, p2, p3⟩ := hP
    have hci := hcl i hi
    have hs : lX9_longestChain_95 R 24 I L (n + 1) (nI m) (nI i) = sX9_longestChain_95 R 24 I L (lX9_longestChain_95 R 24 I L n) (nI m) (nI i) := rfl
    by_cases g : m < c i
    · refine ⟨c i, ?_, fun s hs' => ?_, Or.inr ⟨i, hi, rfl⟩, hci⟩
      · rw [hs]
        unfold sX9_longestChain_95
        rw [if_neg (ng6 hi), inb hi (by omega), am_ck_true, hR.r24_12, nIcl (show i < 1000000 by omega), hc i hi, if_pos ((nI_ltd (by omega) (by omega)).mpr g), am_let_e, nI_1]
      · by_cases e : s = i
        · rw [e]; exact Nat.le_refl _
        · have := p1 s (by omega); omega
    · refine ⟨m, ?_, fun s hs' => ?_, p2, p3⟩
      · rw [hs]
        unfold sX9_longestChain_95
        rw [if_neg (ng6 hi), inb hi (by omega), am_ck_true, hR.r24_12, nIcl (show i < 1000000 by omega), hc i hi, if_neg (fun h => g ((nI_ltd (by omega) (by omega)).mp h)), am_let_e, nI_1]
      · by_cases e : s = i
        · rw [e]; omega
        · exact p1 s (by omega)) (fun n m _ => by
    show sX9_longestChain_95 R 24 I L (lX9_longestChain_95 R 24 I L n) (nI m) (nI 6) = _
    unfold sX9_longestChain_95
    rw [if_pos yg6]) 0 ⟨fun s hs => absurd hs (Nat.not_lt_zero s), Or.inl rfl, by omega⟩
  rw [nI_0] at e
  exact ⟨M, e, h1, h2⟩
end
