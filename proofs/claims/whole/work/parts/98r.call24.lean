/-! call 24: the degree -/
section
variable {A : am_Au}
theorem e_dg67 (hw : aw A) (hno : ∀ s, ¬ isLop A s) {J : am_I} (hA : isM J A) (hK : okK J A) {r : Nat} (x : Int32) (j : am_I → Option (Int32 × am_I)) (h0 : ∃ c, wyM J c ∧ snW A c ∧ cpW A c r) :
    ∃ J', lX11_degree_67 rM 1 x j am_fu (0 : Int32) J = j J' ∧ (∃ c, wyM J' c ∧ snW A c ∧ cpW A c (r + 1)) ∧ ∀ b, b ≠ 18 → J' b = J b := by
  have h6 := hw.2.1
  obtain ⟨J', e, ⟨c, h1, h2, h3, h4⟩, h5⟩ := am_for0 (fun n i J => lX11_degree_67 rM 1 x j n (nI i) J) 36 (fun i J' => (∃ c, wyM J' c ∧ snW A c ∧ cpW A c r ∧ ldW A c r i 0) ∧ ∀ b, b ≠ 18 → J' b = J b) j (by omega) (fun n i J1 hi hP => by
    obtain ⟨p1, p5⟩ := hP
    have hA1 : isM J1 A := hA.kept (fun k _ _ => by rw [p5 1 (by decide)]) (p5 2 (by decide))
    have hK1 : okK J1 A := hK.kept (fun k _ _ => by rw [p5 1 (by decide)]) (p5 17 (by decide))
    have c36 : ¬ (36 : Int32) ≤ nI i := nI_ge (b := 36) hi (by omega)
    have er : nI i - nI i / (6 : Int32) * (6 : Int32) = nI (i % 6) := by rw [show (6 : Int32) = nI 6 from rfl, pk_rem (by omega) (by omega) (by omega)]
    obtain ⟨J2, e2, f1, f2⟩ := e_dg90 hw hno hK1 hi x (y := clM A ((1 : Int32) <<< (nI (i % 6) &&& 31))) (fun hs => clM_eq hw (lon_1s hs.2.2.1 h6)) (fun J32 => lX11_degree_67 rM 1 x j n (nI i + (1 : Int32)) J32) p1
    refine ⟨J2, ?_, f1, fun b hb => (f2 b hb).trans (p5 b hb)⟩
    show sX11_degree_67 rM 1 x j (lX11_degree_67 rM 1 x j n) (nI i) J1 = _
    unfold sX11_degree_67
    rw [if_neg c36, er, e_rfM hA1 hw, am_bd, am_jn_e, e2, nI_1]) (fun n J1 _ => by
    show sX11_degree_67 rM 1 x j (lX11_degree_67 rM 1 x j n) (nI 36) J1 = _
    unfold sX11_degree_67
    rw [if_pos (show (36 : Int32) ≤ nI 36 by decide)]) J ⟨by
      obtain ⟨c, a, b, d⟩ := h0
      exact ⟨c, a, b, d, fun k i' j' _ _ _ hb => by unfold bef at hb; omega⟩, fun _ _ => rfl⟩
  exact ⟨J', e, ⟨c, h1, h2, h4.done hw h3⟩, h5⟩
theorem e_dg58 (hw : aw A) (hno : ∀ s, ¬ isLop A s) {J : am_I} (hA : isM J A) (hK : okK J A) (j : am_I → Option (Int32 × am_I)) (h0 : ∃ c, wyM J c ∧ snW A c ∧ cpW A c 0) :
    ∃ J', lX11_degree_58 rM 1 j am_fu (0 : Int32) J = j J' ∧ (∃ c, wyM J' c ∧ snW A c ∧ cpW A c 36) ∧ ∀ b, b ≠ 18 → J' b = J b := by
  obtain ⟨J', e, h1, h5⟩ := am_for0 (fun n i J => lX11_degree_58 rM 1 j n (nI i) J) 36 (fun i J' => (∃ c, wyM J' c ∧ snW A c ∧ cpW A c i) ∧ ∀ b, b ≠ 18 → J' b = J b) j (by omega) (fun n i J1 hi hP => by
    obtain ⟨p1, p5⟩ := hP
    have hA1 : isM J1 A := hA.kept (fun k _ _ => by rw [p5 1 (by decide)]) (p5 2 (by decide))
    have hK1 : okK J1 A := hK.kept (fun k _ _ => by rw [p5 1 (by decide)]) (p5 17 (by decide))
    have c36 : ¬ (36 : Int32) ≤ nI i := nI_ge (b := 36) hi (by omega)
    obtain ⟨J2, e2, f1, f2⟩ := e_dg67 hw hno hA1 hK1 (nI i) (fun J24 => lX11_degree_58 rM 1 j n (nI i + (1 : Int32)) J24) p1
    refine ⟨J2, ?_, f1, fun b hb => (f2 b hb).trans (p5 b hb)⟩
    show sX11_degree_58 rM 1 j (lX11_degree_58 rM 1 j n) (nI i) J1 = _
    unfold sX11_degree_58
    rw [if_neg c36, am_jn_e, e2, nI_1]) (fun n J1 _ => by
    show sX11_degree_58 rM 1 j (lX11_degree_58 rM 1 j n) (nI 36) J1 = _
    unfold sX11_degree_58
    rw [if_pos (show (36 : Int32) ≤ nI 36 by decide)]) J ⟨h0, fun _ _ => rfl⟩
  exact ⟨J', e, h1, h5⟩
theorem e_dg186 {J : am_I} {c : Nat → Nat} (hc : wyM J c) (hcl : ∀ s, s < 36 → c s < 1000) : ∃ M, lX11_degree_186 rM 1 J am_fu (0 : Int32) (0 : Int32) = some (nI M, J) ∧ (∀ s, s < 36 → c s ≤ M) ∧ (M = 0 ∨ ∃ s, s < 36 ∧ c s = M) := by
  obtain ⟨M, e, h1, h2, h3⟩ := am_for0 (fun n i (m : Nat) => lX11_degree_186 rM 1 J n (nI m) (nI i)) 36 (fun i m => (∀ s, s < i → c s ≤ m) ∧ (m = 0 ∨ ∃ s, s < 36 ∧ c s = m) ∧ m < 1000) (fun m => some (nI m, J)) (by omega) (fun n i m hi hP => by
    obtain ⟨p1, p2, p3⟩ := hP
    have hci := hcl i hi
    have c36 : ¬ (36 : Int32) ≤ nI i := nI_ge (b := 36) hi (by omega)
    have hs : lX11_degree_186 rM 1 J (n + 1) (nI m) (nI i) = sX11_degree_186 rM 1 J (lX11_degree_186 rM 1 J n) (nI m) (nI i) := rfl
    by_cases g : c i ≤ m
    · refine ⟨m, ?_, fun s hs' => ?_, p2, p3⟩
      · rw [hs]
        unfold sX11_degree_186
        rw [if_neg c36, inb hi (by omega), am_ck_true, am_jn_e, rM30, nIcl (show i < 1000000 by omega), hc i hi, if_pos (nI_le g (by omega)), nI_1]
      · by_cases e : s = i
        · rw [e]; exact g
        · exact p1 s (by omega)
    · refine ⟨c i, ?_, fun s hs' => ?_, Or.inr ⟨i, hi, rfl⟩, hci⟩
      · rw [hs]
        unfold sX11_degree_186
        rw [if_neg c36, inb hi (by omega), am_ck_true, am_jn_e, rM30, nIcl (show i < 1000000 by omega), hc i hi, if_neg (nI_ge (by omega) (by omega)), am_ck_true, nI_1]
      · by_cases e : s = i
        · rw [e]; exact Nat.le_refl _
        · have := p1 s (by omega); omega) (fun n m _ => by
    show sX11_degree_186 rM 1 J (lX11_degree_186 rM 1 J n) (nI m) (nI 36) = _
    unfold sX11_degree_186
    rw [if_pos (show (36 : Int32) ≤ nI 36 by decide)]) 0 ⟨fun s hs => absurd hs (Nat.not_lt_zero s), Or.inl rfl, by omega⟩
  rw [nI_0] at e
  exact ⟨M, e, h1, h2⟩
end
section
variable {R : am_R} {I : am_I} {L : am_L} {J : am_I} {K : am_L}
theorem kin_cases (A : am_Au) : kinA A = 0 ∨ kinA A = 1 ∨ kinA A = 2 ∨ kinA A = 3 := by
  unfold kinA
  cases dcd (isAmb A)
  · exact Or.inl rfl
  · cases dcd (∃ s, isLop A s)
    · cases dcd (∃ p q, isSpl A p q)
      · exact Or.inr (Or.inl rfl)
      · exact Or.inr (Or.inr (Or.inl rfl))
    · exact Or.inr (Or.inr (Or.inr rfl))
theorem st24 (h : Inv R I L J K) : ∃ r1 r2, pX10_degree R I L 1 = some r1 ∧ pX11_degree rM J 1 = some r2 ∧ r1.1 = r2.1 ∧ Inv R r1.2.1 r1.2.2 r2.2 K := by
  obtain ⟨A, w, sv, tx, wd, rs, sh, ok, hc, hm⟩ := h
  have h6 := ok.1.2.1
  obtain ⟨x, I', L', e1, fr, hx⟩ := e_degreeC ok.1 hc
  obtain ⟨J1, e3, m1, m2, m3, m4⟩ := e_kindOf ok.1 hm.1 hm.2.2.2.2.2.2.2
  have hm1 := hm.found m4 (Or.inr ⟨m1, m2⟩)
  have fin : ∀ {J2 : am_I}, (∀ b, b ≠ 18 → J2 b = J1 b) → Inv R I' L' J2 K := fun f => ⟨A, w, sv, tx, wd, rs, sh, ok, hc.kept fr, hm1.kept ⟨fun k _ => by rw [f 1 (by decide)], fun b hb => f b (fun e => by subst e; cases hb), rfl, rfl, rfl⟩⟩
  unfold pX11_degree
  rw [e3, am_bd]
  dsimp only
  rcases hx with ⟨g, rfl⟩ | ⟨g, M, hM, rfl⟩ | ⟨g3, g2, rfl⟩
  · rw [if_pos g]
    exact ⟨_, (-4, J1), e1, rfl, rfl, fin (fun _ _ => rfl)⟩
  · rw [if_neg (by rw [g]; decide), if_pos (by rw [g]; decide), am_jn_e]
    have hno := kin2 g
    obtain ⟨J2, e4, c4, f4⟩ := e_dg24 m2 (fun (J5 : am_I) => am_jn (fun (J7 : am_I) => lX11_degree_186 rM 1 J7 am_fu (0 : Int32) (0 : Int32)) (fun j6 => lX11_degree_58 rM 1 j6 am_fu (0 : Int32) J5))
    rw [e4, am_jn_e]
    obtain ⟨J3, e5, ⟨c, c1, c2, c3⟩, f5⟩ := e_dg58 ok.1 hno (m3.kept (fun k _ _ => by rw [f4 1 (by decide)]) (f4 2 (by decide))) (m2.kept (fun k _ _ => by rw [f4 1 (by decide)]) (f4 17 (by decide))) (fun (J7 : am_I) => lX11_degree_186 rM 1 J7 am_fu (0 : Int32) (0 : Int32)) c4
    rw [e5]
    obtain ⟨N, e6, n1, n2⟩ := e_dg186 c1 (fun s hs => by have := c2.lt ok.1 hno hs; omega)
    rw [e6]
    have hN : dgM A N := by
      refine ⟨fun k p q hC => ?_, ?_⟩
      · have hl := hC.len ok.1 hno
        have hp := hC.spl.2.1
        have hq := hC.spl.2.2.1
        have u1 : (6 * p + q) / 6 = p := by omega
        have u2 : (6 * p + q) % 6 = q := by omega
        exact Nat.le_trans (c3 k (6 * p + q) (by omega) (by omega) (by rw [u1, u2]; exact hC)) (n1 (6 * p + q) (by omega))
      · rcases n2 with e | ⟨s, hs, e⟩
        · exact Or.inl e
        · rcases c2 s hs with ⟨z, _⟩ | ⟨k, z, hC⟩
          · exact Or.inl (by omega)
          · exact Or.inr ⟨k, _, _, hC, by omega⟩
    exact ⟨_, (nI N, J3), e1, rfl, by rw [hM.uniq hN], fin (fun b hb => (f5 b hb).trans (f4 b hb))⟩
  · rw [if_neg g3]
    have c2 : ¬ (2 : Int32) ≤ kinA A := by
      rcases kin_cases A with e | e | e | e
      · rw [e]; decide
      · rw [e]; decide
      · exact absurd e g2
      · exact absurd e g3
    rw [if_neg c2]
    exact ⟨_, (0, J1), e1, rfl, rfl, fin (fun _ _ => rfl)⟩
end
