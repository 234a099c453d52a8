/-! call 25 -/
section
variable {R : am_R} {I : am_I} {L : am_L} {J : am_I} {K : am_L}
theorem InvC.move {R' : am_R} {I' : am_I} {L' : am_L} {A : am_Au} {w : Nat → Nat} {sv : am_Sv} {tx wd : am_Tx} {rs : Option am_Rs} {sh : Nat → am_Sf} (h : InvC R I L A w sv tx wd rs sh) (hR : okC R') (e1 : R' 1 15 = R 1 15) (e2 : R' (R 1 15) 3 = R (R 1 15) 3) (f : ∀ b, b < 49 → I' b = I b ∧ L' b = L b) : InvC R' I' L' A w sv tx wd rs sh := by
  have hr := h.1.res
  obtain ⟨_, h1, h2, h3, h4, h5, h6, h7, h8⟩ := h
  have fi : ∀ b, b < 49 → I' b = I b := fun b hb => (f b hb).1
  refine ⟨hR, h1.kept (fi 2 (by omega)) (fi 3 (by omega)), h2.kept (fi 6 (by omega)), h3.kept (by rw [fi 1 (by omega)]) (fi 4 (by omega)) (fi 5 (by omega)) (fi 7 (by omega)), h4.kept (fi 8 (by omega)) (fi 9 (by omega)), h5.kept (fi 10 (by omega)) (fi 11 (by omega)), ?_, h7.kept (fun b _ hb => fi b hb) (fun b _ hb => (f b hb).2), h8.kept (fi 17 (by omega)) (fi 18 (by omega)) (fi 26 (by omega)) (fi 27 (by omega))⟩
  cases rs with
  | none =>
    show I' 1 17 = 0
    rw [fi 1 (by omega)]; exact h6
  | some r =>
    obtain ⟨a1, a2, a3, a4, a5⟩ := h6
    refine ⟨by rw [fi 1 (by omega)]; exact a1, by rw [e1, fi _ (by omega)]; exact a2, by rw [e1, (f _ (by omega)).2]; exact a3, by rw [e1, (f _ (by omega)).2]; exact a4, fun s a hs ha => ?_⟩
    rw [e1, e2, (f _ (by omega)).2]
    exact a5 s a hs ha
theorem okC.x (h : okC R) {n : Nat} (hn : 49 ≤ n) : okC (am_Rx R n) ∧ stR (am_Rx R n) n ∧ am_Rx R n 1 15 = R 1 15 ∧ am_Rx R n (R 1 15) 3 = R (R 1 15) 3 := by
  have hr := h.res
  have lt : ∀ {a k : Nat}, a < 49 → ¬ (a = 1 ∧ k = 14) → am_Rx R n a k = R a k := fun {a k} ha hk => am_Rx_lt (by omega) hk
  have e15 : am_Rx R n 1 15 = R 1 15 := lt (by omega) (by omega)
  have e16 : am_Rx R n 1 16 = R 1 16 := lt (by omega) (by omega)
  have e14 : am_Rx R n 1 14 = n := by simp [am_Rx, am_upR]
  have n1 : ¬ n = 1 := by omega
  have s0 : am_Rx R n n 0 = n + 1 := by simp [am_Rx, am_upR, n1]
  have s1 : am_Rx R n n 1 = n + 2 := by simp [am_Rx, am_upR, n1]
  have s2 : am_Rx R n n 2 = n + 3 := by simp [am_Rx, am_upR, n1]
  have s3 : am_Rx R n n 3 = n + 4 := by simp [am_Rx, am_upR, n1]
  refine ⟨⟨fun a k ha hk => ?_, ?_, Or.inr ?_⟩, ⟨hn, s0, s1, s2, s3⟩, e15, lt (by omega) (by omega)⟩
  · rw [lt ha (fun q => hk ⟨q.1, by omega, by omega⟩)]
    exact h.1 a k ha hk
  · rw [e15, e16]; exact h.2.1
  · rw [e14]; exact ⟨hn, s0, s1, s2, s3⟩
theorem kin4 (A : am_Au) : (kinA A < 2 ∧ kinA A ≤ 1) ∨ (¬ kinA A < 2 ∧ ¬ kinA A ≤ 1) := by
  unfold kinA
  by_cases a : dcd (isAmb A) = true
  · rw [if_pos a]
    by_cases b : dcd (∃ s, isLop A s) = true
    · rw [if_pos b]; right; decide
    · rw [if_neg b]
      by_cases c : dcd (∃ p q, isSpl A p q) = true
      · rw [if_pos c]; right; decide
      · rw [if_neg c]; left; decide
  · rw [if_neg a]; left; decide
theorem InvM.rows {A : am_Au} {w : Nat → Nat} {sv : am_Sv} {tx wd : am_Tx} {rs : Option am_Rs} {sh : Nat → am_Sf} {K' : am_L} (h : InvM J K A w sv tx wd rs sh) (f : fK K K') : InvM J K' A w sv tx wd rs sh := h.kept ⟨fun _ _ => rfl, fun _ _ => rfl, f 1 (by decide) (by decide), f 26 (by decide) (by decide), f 30 (by decide) (by decide)⟩
/-- the reference's answer -/
theorem e_max25 {A : am_Au} {w : Nat → Nat} {sv : am_Sv} {tx wd : am_Tx} {rs : Option am_Rs} {sh : Nat → am_Sf} (hw : aw A) (hm : InvM J K A w sv tx wd rs sh) : ∃ J' K', pX11_maximumAmbiguity rM J K 1 = some (if kinA A ≤ 1 then bfs A (uA A) 1001 (S0 A) 0 0 else -4, J', K') ∧ InvM J' K' A w sv tx wd rs sh := by
  obtain ⟨J1, e3, m1, m2, m3, m4⟩ := e_kindOf hw hm.1 hm.2.2.2.2.2.2.2
  have hm1 : InvM J1 K A w sv tx wd rs sh := hm.found m4 (Or.inr ⟨m1, m2⟩)
  unfold pX11_maximumAmbiguity
  rw [e3, am_bd]
  dsimp only
  by_cases q : kinA A ≤ 1
  · rw [if_pos q, if_pos q]
    obtain ⟨K', e, f⟩ := e_maxM (K := K) hw m3
    exact ⟨J1, K', e, hm1.rows f⟩
  · rw [if_neg q, if_neg q]
    exact ⟨J1, K, rfl, hm1⟩
theorem st25a (h : Inv R I L J K) (h14 : R 1 14 ≠ 0) : ∃ r1 r2, pX10_maximumAmbiguity R I L 1 = some r1 ∧ pX11_maximumAmbiguity rM J K 1 = some r2 ∧ r1.1 = r2.1 ∧ Inv R r1.2.1 r1.2.2 r2.2.1 r2.2.2 := by
  obtain ⟨A, w, sv, tx, wd, rs, sh, ok, hc, hm⟩ := h
  obtain ⟨I1, e1, k1, f1⟩ := e_fresh hc.1 ok.1 hc.2.1 hc.2.2.2.2.2.2.2.2
  obtain ⟨I2, L2, e2, f2⟩ := e_growth hc.1 ok.1 k1 (L := L)
  obtain ⟨J', K', e3, hm'⟩ := e_max25 ok.1 hm
  have hc2 := hc.kept (frC_search hc.1 f1 k1 f2)
  unfold pX10_maximumAmbiguity
  rw [e1, am_bd, hc.1.r1_12, e2, am_bd, e3]
  dsimp only
  rcases kin4 A with ⟨q1, q2⟩ | ⟨q1, q2⟩
  · have hst : stR R (R 1 14) := hc.1.2.2.resolve_left h14
    obtain ⟨I3, L3, e4, f4⟩ := e_highest (I := I2) (L := L2) hst ok.1 hc.1.r2_3 hc2.2.1
    rw [if_pos q1, if_pos q2, if_neg h14, hc.1.r1_0, e4, am_bd]
    refine ⟨_, _, rfl, rfl, rfl, A, w, sv, tx, wd, rs, sh, ok, hc2.move hc.1 rfl rfl (fun b hb => f4 b (by have := hst.1; omega)), hm'⟩
  · rw [if_neg q1, if_neg q2]
    exact ⟨_, _, rfl, rfl, rfl, A, w, sv, tx, wd, rs, sh, ok, hc2, hm'⟩
theorem st25b (h : Inv R I L J K) (h14 : R 1 14 = 0) {n : Nat} (hn : 49 ≤ n) : ∃ I1 r2 rm, pX10_freshSearch R I 1 = some I1 ∧ pX9_growthKind R I1 L (R 1 12) = some r2 ∧ pX11_maximumAmbiguity rM J K 1 = some rm ∧
    ((r2.1 < 2 ∧ ∃ r3, pX4_highestAmbiguity (am_Rx R n) (am_cI n r2.2.1) (am_cL n r2.2.2) n (R 1 0) = some r3 ∧ r3.1 = rm.1 ∧ Inv (am_Rx R n) r3.2.1 r3.2.2 rm.2.1 rm.2.2) ∨
     (¬ r2.1 < 2 ∧ ∃ r1, pX10_maximumAmbiguity R I L 1 = some r1 ∧ r1.1 = rm.1 ∧ Inv R r1.2.1 r1.2.2 rm.2.1 rm.2.2)) := by
  obtain ⟨A, w, sv, tx, wd, rs, sh, ok, hc, hm⟩ := h
  obtain ⟨I1, e1, k1, f1⟩ := e_fresh hc.1 ok.1 hc.2.1 hc.2.2.2.2.2.2.2.2
  obtain ⟨I2, L2, e2, f2⟩ := e_growth hc.1 ok.1 k1 (L := L)
  obtain ⟨J', K', e3, hm'⟩ := e_max25 ok.1 hm
  have hc2 := hc.kept (frC_search hc.1 f1 k1 f2)
  refine ⟨I1, (kinA A, I2, L2), _, e1, by rw [hc.1.r1_12]; exact e2, e3, ?_⟩
  dsimp only
  rcases kin4 A with ⟨q1, q2⟩ | ⟨q1, q2⟩
  · left
    obtain ⟨x1, x2, x3, x4⟩ := hc.1.x hn
    have fI : ∀ b, b < n → am_cI n I2 b = I2 b := fun b hb => by funext j; simp [am_cI, hb]
    have fL : ∀ b, b < n → am_cL n L2 b = L2 b := fun b hb => by funext j; simp [am_cL, hb]
    have hAx : isA (am_cI n I2) 2 3 A := hc2.2.1.kept (fI 2 (by omega)) (fI 3 (by omega))
    obtain ⟨I3, L3, e4, f4⟩ := e_highest (I := am_cI n I2) (L := am_cL n L2) x2 ok.1 x1.r2_3 hAx
    refine ⟨q1, _, by rw [hc.1.r1_0]; exact e4, by rw [if_pos q2], A, w, sv, tx, wd, rs, sh, ok, hc2.move x1 x3 x4 (fun b hb => ⟨(f4 b (by omega)).1.trans (fI b (by omega)), (f4 b (by omega)).2.trans (fL b (by omega))⟩), hm'⟩
  · right
    refine ⟨q1, (-4, I2, L2), ?_, by rw [if_neg q2], A, w, sv, tx, wd, rs, sh, ok, hc2, hm'⟩
    unfold pX10_maximumAmbiguity
    rw [e1, am_bd, hc.1.r1_12, e2, am_bd]
    dsimp only
    rw [if_neg q1]
end
