/-! calls 23, 26, 27: kind, loop states, split pairs -/
theorem nI_m1 {n : Nat} (h : n < 1000000) : ¬ nI n = (-1 : Int32) := fun e => by
  have h1 : (nI n).toInt = (-1 : Int32).toInt := by rw [e]
  rw [nI_toInt (by omega)] at h1
  have : (-1 : Int32).toInt = -1 := by decide
  omega
section
variable {R : am_R} {A : am_Au} {I : am_I} {L : am_L}
def FS (A : am_Au) (x : Int32) (I' : am_I) : Prop := ∃ p q, x = nI (8 * p + q) ∧ p < A.1 ∧ q < A.1 ∧ isSpl A p q ∧ (∀ p' q', bef p q p' q' → ¬ isSpl A p' q') ∧ ∃ w, isFst (gSpl A p q) w ∧ fdW A true I' w
theorem e_fs12 (hR : okC R) (hw : aw A) (hK : lkM I A) {p : Nat} (hp : p < A.1) (hb : ∀ p' q', p' < p → ¬ isSpl A p' q') (j : am_I → am_L → Option (Int32 × am_I × am_L)) :
    (∃ I' L', lX9_firstSplitPair_12 R 24 (nI p) j am_fu (0 : Int32) I L = j I' L' ∧ lkf I L I' L' ∧ ∀ p' q', p' < p + 1 → ¬ isSpl A p' q') ∨ ∃ x I' L', lX9_firstSplitPair_12 R 24 (nI p) j am_fu (0 : Int32) I L = some (x, I', L') ∧ lkf I L I' L' ∧ FS A x I' := by
  have h6 := hw.2.1
  have key := am_forQ (fun n i (s : am_I × am_L) => lX9_firstSplitPair_12 R 24 (nI p) j n (nI i) s.1 s.2) A.1 (fun i s => lkf I L s.1 s.2 ∧ ∀ q', q' < i → ¬ isSpl A p q') (fun r => (∃ I' L', r = j I' L' ∧ lkf I L I' L' ∧ ∀ p' q', p' < p + 1 → ¬ isSpl A p' q') ∨ ∃ x I' L', r = some (x, I', L') ∧ lkf I L I' L' ∧ FS A x I') (by omega) (fun n q s hq hP => by
    obtain ⟨p1, p2⟩ := hP
    have hK' := hK.kept p1
    obtain ⟨c, I1, L1, e1, f1, c1, w1⟩ := e_findSplit hR hw hK' (L := s.2) hp hq
    have hs : lX9_firstSplitPair_12 R 24 (nI p) j (n + 1) (nI q) s.1 s.2 = sX9_firstSplitPair_12 R 24 (nI p) j (lX9_firstSplitPair_12 R 24 (nI p) j n) (nI q) s.1 s.2 := rfl
    cases c with
    | true =>
      right
      right
      refine ⟨nI (8 * p + q), I1, L1, ?_, p1.tr f1, p, q, rfl, hp, hq, c1.mp rfl, fun p' q' h => ?_, w1 rfl⟩
      · show lX9_firstSplitPair_12 R 24 (nI p) j (n + 1) (nI q) s.1 s.2 = _
        rw [hs]
        unfold sX9_firstSplitPair_12
        rw [hK'.1, if_neg (nIge hq (by omega)), e1, am_bd]
        dsimp only
        rw [if_neg (show ¬ bI true = 0 by decide), show (8 : Int32) = nI 8 from rfl, pk_mul, nI_add]
      · rcases h with h | ⟨rfl, h⟩
        · exact hb p' q' h
        · exact p2 q' h
    | false =>
      left
      refine ⟨(I1, L1), ?_, p1.tr f1, fun q' h => ?_⟩
      · show lX9_firstSplitPair_12 R 24 (nI p) j (n + 1) (nI q) s.1 s.2 = _
        rw [hs]
        unfold sX9_firstSplitPair_12
        rw [hK'.1, if_neg (nIge hq (by omega)), e1, am_bd, nI_1]
        rfl
      · by_cases e : q' = q
        · rw [e]; exact fun h => (by have := c1.mpr h; cases this)
        · exact p2 q' (by omega)) (fun n s hP => by
    obtain ⟨p1, p2⟩ := hP
    have hK' := hK.kept p1
    have hs : lX9_firstSplitPair_12 R 24 (nI p) j (n + 1) (nI A.1) s.1 s.2 = sX9_firstSplitPair_12 R 24 (nI p) j (lX9_firstSplitPair_12 R 24 (nI p) j n) (nI A.1) s.1 s.2 := rfl
    left
    refine ⟨s.1, s.2, ?_, p1, fun p' q' h hs => ?_⟩
    · show lX9_firstSplitPair_12 R 24 (nI p) j (n + 1) (nI A.1) s.1 s.2 = _
      rw [hs]
      unfold sX9_firstSplitPair_12
      rw [hK'.1, if_pos (nIle (by omega))]
    · by_cases e : p' = p
      · rw [e] at hs; exact p2 q' hs.2.2.1 hs
      · exact hb p' q' (by omega) hs) (I, L) ⟨lkf.rf I L, fun q' h => absurd h (Nat.not_lt_zero q')⟩
  exact key
theorem e_firstSplitC (hR : okC R) (hw : aw A) (hK : lkM I A) : ∃ x I' L', pX9_firstSplitPair R I L 24 = some (x, I', L') ∧ lkf I L I' L' ∧ ((x = -1 ∧ ∀ p q, ¬ isSpl A p q) ∨ FS A x I') := by
  have h6 := hw.2.1
  unfold pX9_firstSplitPair
  have key := am_forQ (fun n i (s : am_I × am_L) => lX9_firstSplitPair_2 R 24 n (nI i) s.1 s.2) A.1 (fun i s => lkf I L s.1 s.2 ∧ ∀ p' q', p' < i → ¬ isSpl A p' q') (fun r => ∃ x I' L', r = some (x, I', L') ∧ lkf I L I' L' ∧ ((x = -1 ∧ ∀ p q, ¬ isSpl A p q) ∨ FS A x I')) (by omega) (fun n p s hp hP => by
    obtain ⟨p1, p2⟩ := hP
    have hK' := hK.kept p1
    have hs : lX9_firstSplitPair_2 R 24 (n + 1) (nI p) s.1 s.2 = lX9_firstSplitPair_12 R 24 (nI p) (fun (J8 : am_I) (J9 : am_L) => lX9_firstSplitPair_2 R 24 n (nI p + (1 : Int32)) J8 J9) am_fu (0 : Int32) s.1 s.2 := by
      have hs : lX9_firstSplitPair_2 R 24 (n + 1) (nI p) s.1 s.2 = sX9_firstSplitPair_2 R 24 (lX9_firstSplitPair_2 R 24 n) (nI p) s.1 s.2 := rfl
      rw [hs]
      unfold sX9_firstSplitPair_2
      rw [hK'.1, if_neg (nIge hp (by omega)), am_jn_e]
    rcases e_fs12 hR hw hK' (L := s.2) hp p2 (fun (J8 : am_I) (J9 : am_L) => lX9_firstSplitPair_2 R 24 n (nI p + (1 : Int32)) J8 J9) with ⟨I1, L1, e1, f1, g1⟩ | ⟨x, I1, L1, e1, f1, g1⟩
    · left
      refine ⟨(I1, L1), ?_, p1.tr f1, g1⟩
      show lX9_firstSplitPair_2 R 24 (n + 1) (nI p) s.1 s.2 = _
      rw [hs, e1, nI_1]
    · right
      refine ⟨x, I1, L1, ?_, p1.tr f1, Or.inr g1⟩
      show lX9_firstSplitPair_2 R 24 (n + 1) (nI p) s.1 s.2 = _
      rw [hs, e1]) (fun n s hP => by
    obtain ⟨p1, p2⟩ := hP
    have hK' := hK.kept p1
    have hs : lX9_firstSplitPair_2 R 24 (n + 1) (nI A.1) s.1 s.2 = sX9_firstSplitPair_2 R 24 (lX9_firstSplitPair_2 R 24 n) (nI A.1) s.1 s.2 := rfl
    refine ⟨-1, s.1, s.2, ?_, p1, Or.inl ⟨rfl, fun p q h => p2 p q h.2.1 h⟩⟩
    show lX9_firstSplitPair_2 R 24 (n + 1) (nI A.1) s.1 s.2 = _
    rw [hs]
    unfold sX9_firstSplitPair_2
    rw [hK'.1, if_pos (nIle (by omega))]) (I, L) ⟨lkf.rf I L, fun p' q' h => absurd h (Nat.not_lt_zero p')⟩
  exact key
theorem e_growth (hR : okC R) (hw : aw A) (hK : lkM I A) : ∃ I' L', pX9_growthKind R I L 24 = some (kinA A, I', L') ∧ lkf I L I' L' := by
  have h6 := hw.2.1
  unfold pX9_growthKind kinA
  obtain ⟨c, I1, L1, e1, f1, w1, n1⟩ := e_findAmb hR hw hK (L := L)
  rw [e1, am_bd]
  dsimp only
  cases c with
  | false =>
    rw [if_pos (show bI false = 0 from rfl), dcd_neg (n1 rfl), if_neg (show ¬ false = true by decide)]
    exact ⟨I1, L1, rfl, f1⟩
  | true =>
    obtain ⟨w, hw1, _⟩ := w1 rfl
    rw [if_neg (show ¬ bI true = 0 by decide), dcd_pos (show isAmb A from ⟨w, hw1.1⟩), if_pos rfl]
    obtain ⟨x, I2, L2, e2, f2, r2⟩ := e_lowestLoop hR hw (hK.kept f1) (L := L1)
    rw [e2, am_bd]
    dsimp only
    rcases r2 with ⟨rfl, no⟩ | ⟨s, rfl, hs, hl, _⟩
    · rw [if_pos rfl, dcd_neg (fun ⟨s, h⟩ => no s h), if_neg (show ¬ false = true by decide)]
      obtain ⟨x, I3, L3, e3, f3, r3⟩ := e_firstSplitC hR hw (hK.kept (f1.tr f2)) (L := L2)
      rw [e3, am_bd]
      dsimp only
      rcases r3 with ⟨rfl, no2⟩ | ⟨p, q, rfl, hp, hq, hs, _⟩
      · rw [if_pos rfl, dcd_neg (fun ⟨p, q, h⟩ => no2 p q h), if_neg (show ¬ false = true by decide)]
        exact ⟨I3, L3, rfl, (f1.tr f2).tr f3⟩
      · rw [if_neg (nI_m1 (by omega)), dcd_pos ⟨p, q, hs⟩, if_pos rfl]
        exact ⟨I3, L3, rfl, (f1.tr f2).tr f3⟩
    · rw [if_neg (nI_m1 (by omega)), dcd_pos ⟨s, hl⟩, if_pos rfl]
      exact ⟨I2, L2, rfl, f1.tr f2⟩
theorem e_fresh (hR : okC R) (hw : aw A) (hA : isA I 2 3 A) (hz : cZ I) : ∃ I1, pX10_freshSearch R I 1 = some I1 ∧ lkM I1 A ∧ ∀ b, b ≠ 24 → b ≠ 26 → b ≠ 27 → I1 b = I b := by
  have hA3 : isA I 2 (R 2 3) A := by rw [hR.r2_3]; exact hA
  unfold pX10_freshSearch pX9_look
  rw [hR.r1_12, hR.r1_0, hR.r24_0]
  obtain ⟨J1, e1, h1, f1⟩ := e_load (o := 25) (u := 2) (by rw [hR.r25_0, hR.r25_1]; decide) hA3 hw (by rw [hR.r25_0, hR.r25_1, hR.r2_3]; decide) (fun a ha => by rw [hR.r25_0, hR.r25_1]; exact ⟨(hz a ha).2.2.1, (hz a ha).2.2.2⟩)
  rw [hR.r25_0, hR.r25_1] at h1 f1
  have hA1 : isA J1 2 3 A := hA.kept (f1 2 (by decide) (by decide)) (f1 3 (by decide) (by decide))
  rw [e1, am_bd, am_let_e, am_let_e, am_let_e, am_upI_ne (show (2 : Nat) ≠ 24 by decide), am_upI_ne (show (2 : Nat) ≠ 24 by decide), am_upI_ne (show (2 : Nat) ≠ 24 by decide), hA1.1, hA1.2.1, hA1.2.2.1]
  have hA2 : isA (am_upI (am_upI (am_upI J1 24 1 (nI A.1)) 24 2 A.2.1) 24 3 A.2.2.1) 2 (R 2 3) A := by
    rw [hR.r2_3]
    exact hA1.kept (by rw [am_upI_ne (by decide), am_upI_ne (by decide), am_upI_ne (by decide)]) (by rw [am_upI_ne (by decide), am_upI_ne (by decide), am_upI_ne (by decide)])
  rw [e_usefulSet hA2 hw, am_bd, am_let_e, am_bd]
  refine ⟨_, rfl, ⟨?_, ?_, ?_, ?_, ?_⟩, fun b x y z => ?_⟩
  · rw [am_upI_o (by decide), am_upI_o (by decide), am_upI_o (by decide), am_upI_s]
  · rw [am_upI_o (by decide), am_upI_o (by decide), am_upI_s]
  · rw [am_upI_o (by decide), am_upI_s]
  · rw [am_upI_s]
  · exact tab.kept h1 (by rw [am_upI_ne (by decide), am_upI_ne (by decide), am_upI_ne (by decide), am_upI_ne (by decide)]) (by rw [am_upI_ne (by decide), am_upI_ne (by decide), am_upI_ne (by decide), am_upI_ne (by decide)])
  · rw [am_upI_ne x, am_upI_ne x, am_upI_ne x, am_upI_ne x]; exact f1 b y z
theorem frC_search (hR : okC R) {I1 I' : am_I} {L' : am_L} (h1 : ∀ b, b ≠ 24 → b ≠ 26 → b ≠ 27 → I1 b = I b) (hK : lkM I1 A) (f : lkf I1 L I' L') : frC R I L I' L' := by
  have hI : ∀ b, b ≠ 24 → b ≠ 26 → b ≠ 27 → b ≠ 28 → I' b = I b := fun b x y z t => (f.1 b x t).trans (h1 b x y z)
  have hr := hR.res
  refine ⟨fun b x => hI b (by omega) (by omega) (by omega) (by omega), fun b x _ => ⟨hI b (by omega) (by omega) (by omega) (by omega), f.2.2 b (by omega)⟩, hI _ (by omega) (by omega) (by omega) (by omega), f.2.2 _ (by omega), f.2.2 _ (by omega), fun z a ha => ?_⟩
  have hT := (hK.kept f).2.2.2.2 a ha
  rw [hI 17 (by decide) (by decide) (by decide) (by decide), hI 18 (by decide) (by decide) (by decide) (by decide)]
  exact ⟨(z a ha).1, (z a ha).2.1, (tab_0 hT).1, (tab_0 hT).2⟩
end
section
variable {R : am_R} {I : am_I} {L : am_L} {J : am_I} {K : am_L}
theorem st23 (h : Inv R I L J K) : ∃ r1 r2, pX10_kind R I L 1 = some r1 ∧ pX11_kind rM J 1 = some r2 ∧ r1.1 = r2.1 ∧ Inv R r1.2.1 r1.2.2 r2.2 K := by
  obtain ⟨A, w, sv, tx, wd, rs, sh, ok, hc, hm⟩ := h
  obtain ⟨I1, e1, k1, f1⟩ := e_fresh hc.1 ok.1 hc.2.1 hc.2.2.2.2.2.2.2.2
  obtain ⟨I2, L2, e2, f2⟩ := e_growth hc.1 ok.1 k1 (L := L)
  obtain ⟨J1, e3, m1, m2, m3, m4⟩ := e_kindOf ok.1 hm.1 hm.2.2.2.2.2.2.2
  refine ⟨(kinA A, I2, L2), (kinA A, J1), ?_, ?_, rfl, A, w, sv, tx, wd, rs, sh, ok, hc.kept (frC_search hc.1 f1 k1 f2), hm.found m4 (Or.inr ⟨m1, m2⟩)⟩
  · unfold pX10_kind
    rw [e1, am_bd, hc.1.r1_12, e2, am_bd]
  · unfold pX11_kind
    rw [e3, am_bd]
theorem st26 (h : Inv R I L J K) (x : Int32) : ∃ r1 r2, pX10_isLoopState R I L 1 x = some r1 ∧ pX11_isLoopState rM J 1 x = some r2 ∧ r1.1 = r2.1 ∧ Inv R r1.2.1 r1.2.2 r2.2 K := by
  have h' := h
  obtain ⟨A, w, sv, tx, wd, rs, sh, ok, hc, hm⟩ := h'
  have h6 := ok.1.2.1
  unfold pX10_isLoopState pX11_isLoopState
  rw [hc.1.r1_0]
  by_cases hx : inS A.1 x
  · obtain ⟨s, hs, rfl⟩ := hx
    rw [hs_yes hc.2.1.1 h6 hs, am_bd, if_neg i10, hsM_yes hm.1.1 h6 hs, am_bd, if_neg i10]
    obtain ⟨I1, e1, k1, f1⟩ := e_fresh hc.1 ok.1 hc.2.1 hc.2.2.2.2.2.2.2.2
    obtain ⟨c, I2, L2, e2, f2, c2, _⟩ := e_findLoop hc.1 ok.1 k1 (L := L) hs
    obtain ⟨J1, e3, m1, m2, m3, m4⟩ := e_finds ok.1 hm.1 hm.2.2.2.2.2.2.2
    rw [e1, am_bd, hc.1.r1_12, e2, am_bd, e3, am_bd, bt_shr1 _ (show s < 32 by omega)]
    dsimp only
    have ec : bt (J1 1 27) s = c := by
      have := m2.2.1 s
      cases hb : bt (J1 1 27) s with
      | true => exact (c2.mpr (this.mp hb)).symm
      | false =>
        cases hc : c with
        | false => rfl
        | true =>
          have := this.mpr (c2.mp hc)
          rw [hb] at this; cases this
    rw [ec]
    refine ⟨(bI c, I2, L2), (bI c, J1), ?_, ?_, rfl, A, w, sv, tx, wd, rs, sh, ok, hc.kept (frC_search hc.1 f1 k1 f2), hm.found m4 (Or.inr ⟨m1, m2⟩)⟩
    · cases c <;> rfl
    · cases c <;> rfl
  · rw [hs_no hc.2.1.1 h6 hx, am_bd, if_pos rfl, hsM_no hm.1.1 h6 hx, am_bd, if_pos rfl]
    exact ⟨_, _, rfl, rfl, rfl, h⟩
theorem st27 (h : Inv R I L J K) (x y : Int32) : ∃ r1 r2, pX10_isSplitPair R I L 1 x y = some r1 ∧ pX11_isSplitPair rM J 1 x y = some r2 ∧ r1.1 = r2.1 ∧ Inv R r1.2.1 r1.2.2 r2.2 K := by
  have h' := h
  obtain ⟨A, w, sv, tx, wd, rs, sh, ok, hc, hm⟩ := h'
  have h6 := ok.1.2.1
  unfold pX10_isSplitPair pX11_isSplitPair
  rw [hc.1.r1_0]
  by_cases hx : inS A.1 x
  · obtain ⟨p, hp, rfl⟩ := hx
    rw [hs_yes hc.2.1.1 h6 hp, am_bd, if_neg i10, hsM_yes hm.1.1 h6 hp, am_bd, if_neg i10]
    by_cases hy : inS A.1 y
    · obtain ⟨q, hq, rfl⟩ := hy
      rw [hs_yes hc.2.1.1 h6 hq, am_bd, if_neg i10, hsM_yes hm.1.1 h6 hq, am_bd, if_neg i10]
      obtain ⟨I1, e1, k1, f1⟩ := e_fresh hc.1 ok.1 hc.2.1 hc.2.2.2.2.2.2.2.2
      obtain ⟨c, I2, L2, e2, f2, c2, _⟩ := e_findSplit hc.1 ok.1 k1 (L := L) hp hq
      obtain ⟨J1, e3, m1, m2, m3, m4⟩ := e_finds ok.1 hm.1 hm.2.2.2.2.2.2.2
      rw [e1, am_bd, hc.1.r1_12, e2, am_bd, e3, am_bd, ix6, inb (show 6 * p + q < 36 by omega) (by omega), am_ck_true, rM26, nIcl (show 6 * p + q < 1000000 by omega)]
      dsimp only
      have ec : J1 17 (6 * p + q) = bI c := by
        rcases m2.2.2.1 p q (by omega) (by omega) with ⟨a, b⟩ | ⟨a, b⟩
        · rw [a, c2.mpr b]; rfl
        · rw [a]
          cases hc : c with
          | false => rfl
          | true => exact absurd (c2.mp hc) b
      rw [ec]
      refine ⟨(bI c, I2, L2), (bI c, J1), ?_, ?_, rfl, A, w, sv, tx, wd, rs, sh, ok, hc.kept (frC_search hc.1 f1 k1 f2), hm.found m4 (Or.inr ⟨m1, m2⟩)⟩
      · cases c <;> rfl
      · cases c <;> rfl
    · rw [hs_no hc.2.1.1 h6 hy, am_bd, if_pos rfl, hsM_no hm.1.1 h6 hy, am_bd, if_pos rfl]
      exact ⟨_, _, rfl, rfl, rfl, h⟩
  · rw [hs_no hc.2.1.1 h6 hx, am_bd, if_pos rfl, hsM_no hm.1.1 h6 hx, am_bd, if_pos rfl]
    exact ⟨_, _, rfl, rfl, rfl, h⟩
end
