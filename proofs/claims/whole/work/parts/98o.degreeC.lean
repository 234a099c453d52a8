/-! the class: the degree -/
section
variable {R : am_R} {A : am_Au} {I : am_I} {L : am_L}
theorem e_longest (hR : okC R) (hw : aw A) (hno : ∀ s, ¬ isLop A s) (hK : lkM I A) (hA : isA I 2 3 A) : ∃ M I1 I' L', pX9_longestChain R I L 24 2 = some (nI M, I', L') ∧ dgM A M ∧ lkf I L I1 L' ∧ ∀ b, b ≠ 30 → I' b = I1 b := by
  have h6 := hw.2.1
  obtain ⟨v, I1, L1, e1, f1, hv⟩ := e_splitPairs hR hw hK (L := L)
  have hK1 := hK.kept f1
  have hA1 : isA I1 2 3 A := hA.kept (f1.1 2 (by decide) (by decide)) (f1.1 3 (by decide) (by decide))
  unfold pX9_longestChain
  rw [e1, am_bd]
  dsimp only
  rw [am_jn_e]
  obtain ⟨I2, e2, h2, g2⟩ := am_for0 (fun n i J => lX9_longestChain_8 R 24 2 v L1 (fun (J3 : am_I) => am_jn (fun (J5 : am_I) => lX9_longestChain_95 R 24 J5 L1 am_fu (0 : Int32) (0 : Int32)) (fun j4 => lX9_longestChain_32 R 24 2 v L1 j4 am_fu (1 : Int32) J3)) n (nI i) J) 6 (fun i J => (∀ s, s < i → J 30 s = 0) ∧ ∀ b, b ≠ 30 → J b = I1 b) (fun (J3 : am_I) => am_jn (fun (J5 : am_I) => lX9_longestChain_95 R 24 J5 L1 am_fu (0 : Int32) (0 : Int32)) (fun j4 => lX9_longestChain_32 R 24 2 v L1 j4 am_fu (1 : Int32) J3)) (by omega) (fun n i J hi hP => by
    refine ⟨am_upI J 30 i 0, ?_, fun s hs => ?_, fun b x => by rw [am_upI_ne x]; exact hP.2 b x⟩
    · show sX9_longestChain_8 R 24 2 v L1 _ (lX9_longestChain_8 R 24 2 v L1 _ n) (nI i) J = _
      unfold sX9_longestChain_8
      rw [if_neg (ng6 hi), inb hi (by omega), am_ck_true, am_let_e, hR.r24_12, nIcl (show i < 1000000 by omega), nI_1]
    · by_cases e : s = i
      · rw [e, am_upI_s]
      · rw [am_upI_o e]; exact hP.1 s (by omega)) (fun n J _ => by
    show sX9_longestChain_8 R 24 2 v L1 _ (lX9_longestChain_8 R 24 2 v L1 _ n) (nI 6) J = _
    unfold sX9_longestChain_8
    rw [if_pos yg6]) I1 ⟨fun s hs => absurd hs (Nat.not_lt_zero s), fun _ _ => rfl⟩
  rw [nI_0] at e2
  rw [e2, am_jn_e]
  have hA2 : isA I2 2 3 A := hA1.kept (g2 2 (by decide)) (g2 3 (by decide))
  have z24 : I2 24 1 = nI A.1 := by rw [g2 24 (by decide)]; exact hK1.1
  obtain ⟨I3, e3, ⟨c, c1, c2, c3⟩, g3⟩ := e_lc32 (L := L1) hR hw hno hA2 z24 hv (fun (J5 : am_I) => lX9_longestChain_95 R 24 J5 L1 am_fu (0 : Int32) (0 : Int32)) ⟨fun _ => 0, fun s hs => by rw [h2 s hs]; rfl, fun s _ => Or.inl rfl, fun k p q hk => absurd hk (Nat.not_lt_zero k)⟩
  rw [e3]
  obtain ⟨M, e4, m1, m2⟩ := e_lc95 (L := L1) hR c1 (fun s hs => by have := c2.lt hw hno hs; omega)
  rw [e4]
  refine ⟨M, I1, I3, L1, rfl, ⟨fun k p q hC => ?_, ?_⟩, f1, fun b hb => (g3 b hb).trans (g2 b hb)⟩
  · have hl := hC.len hw hno
    have hq := hC.spl.2.2.1
    exact Nat.le_trans (c3 k p q (by omega) hC q (by omega) (rc_self hw hq)) (m1 q (by omega))
  · rcases m2 with e | ⟨s, hs, e⟩
    · exact Or.inl e
    · rcases c2 s hs with z | ⟨k, p, q, z, hC, _⟩
      · exact Or.inl (by omega)
      · exact Or.inr ⟨k, p, q, hC, by omega⟩
theorem frC_30 (hR : okC R) {I' : am_I} {L' : am_L} {I2 : am_I} (h : frC R I L I' L') (g : ∀ b, b ≠ 30 → I2 b = I' b) : frC R I L I2 L' := by
  have hr := hR.res
  refine h.trans ⟨fun b x => g b (by omega), fun b x _ => ⟨g b (by omega), rfl⟩, g _ (by omega), rfl, rfl, fun z a ha => ?_⟩
  rw [g 17 (by decide), g 18 (by decide), g 26 (by decide), g 27 (by decide)]
  exact z a ha
theorem kin2 (h : kinA A = 2) : ∀ s, ¬ isLop A s := fun s hs => by
  unfold kinA at h
  by_cases a : isAmb A
  · rw [dcd_pos a, if_pos rfl, dcd_pos (⟨s, hs⟩ : ∃ s, isLop A s), if_pos rfl] at h
    exact absurd h (by decide)
  · rw [dcd_neg a, if_neg (by decide)] at h
    exact absurd h (by decide)
/-- what the class answers for the degree -/
theorem e_degreeC {w : Nat → Nat} {sv : am_Sv} {tx wd : am_Tx} {rs : Option am_Rs} {sh : Nat → am_Sf} (hw : aw A) (hc : InvC R I L A w sv tx wd rs sh) : ∃ x I' L', pX10_degree R I L 1 = some (x, I', L') ∧ frC R I L I' L' ∧ ((kinA A = 3 ∧ x = -4) ∨ (kinA A = 2 ∧ ∃ M, dgM A M ∧ x = nI M) ∨ (kinA A ≠ 3 ∧ kinA A ≠ 2 ∧ x = 0)) := by
  obtain ⟨I1, e1, k1, f1⟩ := e_fresh hc.1 hw hc.2.1 hc.2.2.2.2.2.2.2.2
  obtain ⟨I2, L2, e2, f2⟩ := e_growth hc.1 hw k1 (L := L)
  have fr := frC_search hc.1 f1 k1 f2
  unfold pX10_degree
  rw [e1, am_bd, hc.1.r1_12, e2, am_bd]
  dsimp only
  by_cases g3 : kinA A = 3
  · rw [if_pos g3]
    exact ⟨_, I2, L2, rfl, fr, Or.inl ⟨g3, rfl⟩⟩
  · rw [if_neg g3]
    by_cases g2 : kinA A = 2
    · rw [if_pos g2, hc.1.r1_0]
      have hA2 : isA I2 2 3 A := hc.2.1.kept (fr.1 2 (by decide)) (fr.1 3 (by decide))
      obtain ⟨M, I3, I4, L4, e4, hM, f4, g4⟩ := e_longest hc.1 hw (kin2 g2) (k1.kept f2) hA2 (L := L2)
      rw [e4, am_bd]
      exact ⟨_, I4, L4, rfl, frC_30 hc.1 (frC_search hc.1 f1 k1 (f2.tr f4)) g4, Or.inr (Or.inl ⟨g2, M, hM, rfl⟩)⟩
    · rw [if_neg g2]
      exact ⟨_, I2, L2, rfl, fr, Or.inr (Or.inr ⟨g3, g2, rfl⟩)⟩
end
