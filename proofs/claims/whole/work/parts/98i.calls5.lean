/-! calls 29 to 31, once kind 3 is shown too -/
section
variable {R : am_R} {I : am_I} {L : am_L} {J : am_I} {K : am_L}
theorem iw_yes {t : Nat} (h : t < 4) : pX10_isWitness (nI t) = some 1 := by
  unfold pX10_isWitness
  have h2 : nI t ≤ (3 : Int32) := nI_le (a := t) (b := 3) (by omega) (by omega)
  have h3 : ¬ (3 : Int32) < nI t := by
    rw [Int32.lt_iff_toInt_lt]
    rw [Int32.le_iff_toInt_le] at h2
    omega
  rw [if_neg (nI_pos (by omega)), if_neg h3]
theorem iw_no {x : Int32} (h : x < 0 ∨ (¬ x < 0 ∧ ¬ x ≤ 3)) : pX10_isWitness x = some 0 := by
  unfold pX10_isWitness
  rcases h with h | ⟨h1, h2⟩
  · rw [if_pos h]
  · have h3 : (3 : Int32) < x := by
      rw [Int32.lt_iff_toInt_lt]
      rw [Int32.le_iff_toInt_le] at h2
      omega
    rw [if_neg h1, if_pos h3]
theorem st29W (h : Inv R I L J K) (hW : ∀ t, t < 4 → WitOK R I L J K (nI t)) (x : Int32) : ∃ r1 r2, pX10_witnessLength R I L 1 x = some r1 ∧ pX11_witnessLength rM J 1 x = some r2 ∧ r1.1 = r2.1 ∧ Inv R r1.2.1 r1.2.2 r2.2 K := by
  have hR : okC R := by obtain ⟨A, w, sv, tx, wd, rs, sh, ok, hc, hm⟩ := h; exact hc.1
  have rM' := rngM (n := 3) (by omega) (x := x) (M := 3) rfl (hi := 3) (by decide)
  unfold pX10_witnessLength pX11_witnessLength
  rcases rng (n := 3) (by omega) (x := x) (M := 3) rfl with hx | ⟨hx, h2⟩
  · rw [rM'.1 hx]
    obtain ⟨t, ht, rfl⟩ := hx
    rw [iw_yes ht, am_bd, if_neg i10, am_bd, if_neg i10]
    obtain ⟨c, I', L', r, J', e1, e2, hI, hcr⟩ := hW t ht
    rw [e1, e2, am_bd, am_bd]
    dsimp only
    rcases hcr with ⟨rfl, rfl⟩ | ⟨rfl, n, f, hn, rfl, h12, _, _, _⟩
    · rw [if_pos (show bI false = 0 from rfl)]
      exact ⟨_, _, rfl, rfl, rfl, hI⟩
    · rw [if_neg (show ¬ bI true = 0 by decide), hR.r1_7, h12]
      exact ⟨_, _, rfl, rfl, rfl, hI⟩
  · rw [rM'.2 hx, iw_no h2, am_bd, if_pos rfl, am_bd, if_pos rfl]
    exact ⟨_, _, rfl, rfl, rfl, h⟩
theorem btw_m5 (x : Int32) : pX11_isBetween (Int32.toInt64 x) (0 : Int64) (Int32.toInt64 ((-4 : Int32) - (1 : Int32))) = some 0 := by
  rw [e_between (lo' := 0) (hi' := Int32.toInt64 (-4 - 1)) x 0 (-4 - 1) (by decide) rfl]
  have : ¬ (0 ≤ x ∧ x ≤ (-4 - 1 : Int32)) := fun q => by
    have h1 := Int32.le_iff_toInt_le.mp q.1
    have h2 := Int32.le_iff_toInt_le.mp q.2
    have : (-4 - 1 : Int32).toInt = -5 := by decide
    have : (0 : Int32).toInt = 0 := by decide
    omega
  rw [decide_eq_false this]; rfl
theorem st30W (h : Inv R I L J K) (hW : ∀ t, t < 4 → WitOK R I L J K (nI t)) (x y : Int32) : ∃ r1 r2, pX10_witnessLetter R I L 1 x y = some r1 ∧ pX11_witnessLetter rM J 1 x y = some r2 ∧ r1.1 = r2.1 ∧ Inv R r1.2.1 r1.2.2 r2.2 K := by
  have hR : okC R := by obtain ⟨A, w, sv, tx, wd, rs, sh, ok, hc, hm⟩ := h; exact hc.1
  have rM' := rngM (n := 3) (by omega) (x := x) (M := 3) rfl (hi := 3) (by decide)
  unfold pX10_witnessLetter pX11_witnessLetter
  rcases rng (n := 3) (by omega) (x := x) (M := 3) rfl with hx | ⟨hx, h2⟩
  · rw [rM'.1 hx]
    obtain ⟨t, ht, rfl⟩ := hx
    rw [iw_yes ht, am_bd, if_neg i10, am_bd, if_neg i10]
    obtain ⟨c, I', L', r, J', e1, e2, hI, hcr⟩ := hW t ht
    rw [e1, e2, am_bd, am_bd]
    dsimp only
    rcases hcr with ⟨rfl, rfl⟩ | ⟨rfl, n, f, hn, rfl, h12, h13, h14, _⟩
    · rw [if_pos (show bI false = 0 from rfl), btw_m5, am_bd, if_pos rfl]
      exact ⟨_, _, rfl, rfl, rfl, hI⟩
    · rw [if_neg (show ¬ bI true = 0 by decide), hR.r1_7]
      by_cases hy : inS n y
      · obtain ⟨j, hj, rfl⟩ := hy
        rw [hp_yes h12 hn hj, am_bd, if_neg i10, e_letterAt h12 hn hj, am_bd, hR.r12_1, h13 j hj, btw_yes (by omega) hj, am_bd, if_neg i10, inb (show j < 216 by omega) (by omega), am_ck_true, rM22, nIcl (show j < 1000000 by omega), h14 j hj]
        exact ⟨_, _, rfl, rfl, rfl, hI⟩
      · rw [hp_no h12 hn hy, am_bd, if_pos rfl, btw_no (by omega) hy, am_bd, if_pos rfl]
        exact ⟨_, _, rfl, rfl, rfl, hI⟩
  · rw [rM'.2 hx, iw_no h2, am_bd, if_pos rfl, am_bd, if_pos rfl]
    exact ⟨_, _, rfl, rfl, rfl, h⟩
theorem e_copyW {n : Nat} {f : Nat → Nat} (hR : okC R) (hn : n ≤ 216) (h12 : I 12 0 = nI n) (h13 : ∀ j, j < n → I 13 j = nI (f j)) : ∃ I', pX8_copyFrom R I 10 12 = some I' ∧ I' 10 0 = nI n ∧ (∀ j, j < n → I' 11 j = nI (f j)) ∧ ∀ b, b ≠ 10 → b ≠ 11 → I' b = I b := by
  unfold pX8_copyFrom
  rw [h12, am_let_e]
  obtain ⟨I', e, h1, h2, h3⟩ := am_for0 (fun q i J => lX8_copyFrom_10 R 10 12 q (nI i) J) n (fun i J => J 10 0 = nI n ∧ (∀ j, j < i → J 11 j = nI (f j)) ∧ ∀ b, b ≠ 10 → b ≠ 11 → J b = I b) (fun J => some J) (by omega) (fun q i J hi hP => by
    obtain ⟨p1, p2, p3⟩ := hP
    have a12 : J 12 0 = nI n := by rw [p3 12 (by decide) (by decide)]; exact h12
    refine ⟨am_upI J 11 i (nI (f i)), ?_, by rw [am_upI_ne (by decide)]; exact p1, fun j hj => ?_, fun b x y => by rw [am_upI_ne y]; exact p3 b x y⟩
    · show sX8_copyFrom_10 R 10 12 (lX8_copyFrom_10 R 10 12 q) (nI i) J = _
      unfold sX8_copyFrom_10 pX8_setLetter
      rw [p1, if_neg (nIge hi (by omega)), e_letterAt a12 hn hi, am_bd, hR.r12_1, p3 13 (by decide) (by decide), h13 i hi, hp_yes p1 hn hi, am_bd, if_neg i10, inb (show i < 216 by omega) (by omega), am_ck_true, am_let_e, am_bd, hR.r10_1, nIcl (show i < 1000000 by omega), nI_1]
    · by_cases e : j = i
      · rw [e, am_upI_s]
      · rw [am_upI_o e]; exact p2 j (by omega)) (fun q J hP => by
    show sX8_copyFrom_10 R 10 12 (lX8_copyFrom_10 R 10 12 q) (nI n) J = _
    unfold sX8_copyFrom_10
    rw [hP.1, if_pos (nIle (by omega))]) (am_upI I 10 0 (nI n)) ⟨am_upI_s, fun j hj => absurd hj (Nat.not_lt_zero j), fun b x _ => am_upI_ne x⟩
  exact ⟨I', e, h1, h2, h3⟩
theorem e_takeM {n : Nat} {f : Nat → Nat} (hn : n ≤ 20) (h14 : ∀ j, j < n → J 14 j = nI (f j)) : ∃ J', lX11_takeWitness_43 rM 1 (nI n) am_fu (0 : Int32) (am_upI J 1 16 (nI n)) = some (nI n, J') ∧ J' 1 16 = nI n ∧ (∀ j, j < n → J' 9 j = nI (f j)) ∧ (∀ b, b ≠ 1 → b ≠ 9 → J' b = J b) ∧ ∀ k, k ≠ 16 → J' 1 k = J 1 k := by
  obtain ⟨J', e, h1, h2, h3, h4⟩ := am_for0 (fun q i J => lX11_takeWitness_43 rM 1 (nI n) q (nI i) J) n (fun i J' => J' 1 16 = nI n ∧ (∀ j, j < i → J' 9 j = nI (f j)) ∧ (∀ b, b ≠ 1 → b ≠ 9 → J' b = J b) ∧ ∀ k, k ≠ 16 → J' 1 k = J 1 k) (fun J => some (nI n, J)) (by omega) (fun q i J1 hi hP => by
    obtain ⟨p1, p2, p3, p4⟩ := hP
    refine ⟨am_upI J1 9 i (nI (f i)), ?_, by rw [am_upI_ne (by decide)]; exact p1, fun j hj => ?_, fun b x y => by rw [am_upI_ne y]; exact p3 b x y, fun k hk => by rw [am_upI_ne (by decide)]; exact p4 k hk⟩
    · show sX11_takeWitness_43 rM 1 (nI n) (lX11_takeWitness_43 rM 1 (nI n) q) (nI i) J1 = _
      unfold sX11_takeWitness_43
      rw [if_neg (nIge hi (by omega)), inb (show i < 216 by omega) (by omega), am_ck_true, inb (show i < 20 by omega) (by omega), am_ck_true, am_let_e, rM15, rM22, nIcl (show i < 1000000 by omega), p3 14 (by decide) (by decide), h14 i hi, nI_1]
    · by_cases e : j = i
      · rw [e, am_upI_s]
      · rw [am_upI_o e]; exact p2 j (by omega)) (fun q J1 _ => by
    show sX11_takeWitness_43 rM 1 (nI n) (lX11_takeWitness_43 rM 1 (nI n) q) (nI n) J1 = _
    unfold sX11_takeWitness_43
    rw [if_pos (nIle (by omega))]) (am_upI J 1 16 (nI n)) ⟨am_upI_s, fun j hj => absurd hj (Nat.not_lt_zero j), fun b x _ => am_upI_ne x, fun k hk => am_upI_o hk⟩
  exact ⟨J', e, h1, h2, h3, h4⟩
theorem st31W (h : Inv R I L J K) (hW : ∀ t, t < 4 → WitOK R I L J K (nI t)) (x : Int32) : ∃ r1 r2, pX10_takeWitness R I L 1 x = some r1 ∧ pX11_takeWitness rM J 1 x = some r2 ∧ r1.1 = r2.1 ∧ Inv R r1.2.1 r1.2.2 r2.2 K := by
  have hR : okC R := by obtain ⟨A, w, sv, tx, wd, rs, sh, ok, hc, hm⟩ := h; exact hc.1
  have rM' := rngM (n := 3) (by omega) (x := x) (M := 3) rfl (hi := 3) (by decide)
  unfold pX10_takeWitness pX11_takeWitness
  rcases rng (n := 3) (by omega) (x := x) (M := 3) rfl with hx | ⟨hx, h2⟩
  · rw [rM'.1 hx]
    obtain ⟨t, ht, rfl⟩ := hx
    rw [iw_yes ht, am_bd, if_neg i10, am_bd, if_neg i10]
    obtain ⟨c, I', L', r, J', e1, e2, hI, hcr⟩ := hW t ht
    rw [e1, e2, am_bd, am_bd]
    dsimp only
    rcases hcr with ⟨rfl, rfl⟩ | ⟨rfl, n, f, hn, rfl, h12, h13, h14, hf⟩
    · rw [if_pos (show bI false = 0 from rfl), if_neg (show ¬ (0 : Int32) ≤ -4 by decide)]
      exact ⟨_, _, rfl, rfl, rfl, hI⟩
    · have c0 : (0 : Int32) ≤ nI n := by
        rw [show (0 : Int32) = nI 0 from nI_0.symm]
        exact nI_le (by omega) (by omega)
      rw [if_neg (show ¬ bI true = 0 by decide), if_pos c0, hR.r1_7, hR.r1_6]
      by_cases c20 : n ≤ 20
      · have c : nI n ≤ (20 : Int32) := nI_le (b := 20) c20 (by omega)
        obtain ⟨I2, e3, g1, g2, g3⟩ := e_copyW hR hn h12 h13
        obtain ⟨J2, e4, k1, k2, k3, k4⟩ := e_takeM c20 h14
        rw [if_pos (show I' 12 0 ≤ (20 : Int32) by rw [h12]; exact c), if_pos c, e3, am_bd, am_let_e, e4, g1]
        refine ⟨(nI n, I2, L'), (nI n, J2), rfl, rfl, rfl, ?_⟩
        obtain ⟨A, w, sv, tx, wd, rs, sh, ok, hc, hm⟩ := hI
        exact ⟨A, w, sv, tx, (n, f), rs, sh, ⟨ok.1, ok.2.1, ok.2.2.1, ok.2.2.2.1, ⟨c20, hf⟩, ok.2.2.2.2.2⟩, hc.word ⟨g1, g2⟩ (fun b x y _ _ => g3 b x y), hm.word ⟨k1, k2⟩ (fun b x y => k3 b (fun e => by subst e; cases y) x) (fun k x _ => k4 k x)⟩
      · have c : ¬ nI n ≤ (20 : Int32) := nI_ge (a := 20) (by omega) (by omega)
        rw [if_neg (show ¬ I' 12 0 ≤ (20 : Int32) by rw [h12]; exact c), if_neg c]
        exact ⟨_, _, rfl, rfl, rfl, hI⟩
  · rw [rM'.2 hx, iw_no h2, am_bd, if_pos rfl, am_bd, if_pos rfl]
    exact ⟨_, _, rfl, rfl, rfl, h⟩
end
