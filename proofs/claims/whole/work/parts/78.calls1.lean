/-! text, words, weights, shelves, results, saving -/
theorem am_fillI {β : Type} (l : Nat → Nat → am_I → β) (N d k : Nat) (v : Nat → Int32) (ex : am_I → β) (J0 : am_I) (hN : N < 1000000)
    (hs : ∀ n i J, i < N → (∀ b, b ≠ d → J b = J0 b) → (∀ j, j < k ∨ k + i ≤ j → J d j = J0 d j) → l (n + 1) i J = l n (i + 1) (am_upI J d (k + i) (v i)))
    (hx : ∀ n J, (∀ b, b ≠ d → J b = J0 b) → l (n + 1) N J = ex J) :
    ∃ J', l am_fu 0 J0 = ex J' ∧ (∀ b, b ≠ d → J' b = J0 b) ∧ (∀ i, i < N → J' d (k + i) = v i) ∧ ∀ j, j < k ∨ k + N ≤ j → J' d j = J0 d j := by
  obtain ⟨J', e, h1, h2, h3⟩ := am_for0 l N (fun i J => (∀ b, b ≠ d → J b = J0 b) ∧ (∀ j, j < i → J d (k + j) = v j) ∧ ∀ j, j < k ∨ k + i ≤ j → J d j = J0 d j) ex hN (fun n i J hi hP => by
    refine ⟨_, hs n i J hi hP.1 hP.2.2, fun b hb => by rw [am_upI_ne hb]; exact hP.1 b hb, fun j hj => ?_, fun j hj => by rw [am_upI_o (by omega)]; exact hP.2.2 j (by omega)⟩
    by_cases q : j = i
    · subst q; exact am_upI_s
    · rw [am_upI_o (by omega)]; exact hP.2.1 j (by omega)) (fun n J hP => hx n J hP.1) J0 ⟨fun _ _ => rfl, fun j hj => absurd hj (Nat.not_lt_zero j), fun _ _ => rfl⟩
  exact ⟨J', e, h1, h2, h3⟩
theorem am_upL_s {L : am_L} {a k : Nat} {v : Int64} : am_upL L a k v a k = v := by simp [am_upL]
theorem am_upL_o {L : am_L} {a k j : Nat} {v : Int64} (h : j ≠ k) : am_upL L a k v a j = L a j := by simp [am_upL, h]
theorem am_upL_n {L : am_L} {a k b : Nat} {v : Int64} (h : b ≠ a) : am_upL L a k v b = L b := by funext j; simp [am_upL, h]
theorem am_fillL {β : Type} (l : Nat → Nat → am_L → β) (N d k : Nat) (v : Nat → Int64) (ex : am_L → β) (J0 : am_L) (hN : N < 1000000)
    (hs : ∀ n i J, i < N → (∀ b, b ≠ d → J b = J0 b) → (∀ j, j < k ∨ k + i ≤ j → J d j = J0 d j) → l (n + 1) i J = l n (i + 1) (am_upL J d (k + i) (v i)))
    (hx : ∀ n J, (∀ b, b ≠ d → J b = J0 b) → l (n + 1) N J = ex J) :
    ∃ J', l am_fu 0 J0 = ex J' ∧ (∀ b, b ≠ d → J' b = J0 b) ∧ (∀ i, i < N → J' d (k + i) = v i) ∧ ∀ j, j < k ∨ k + N ≤ j → J' d j = J0 d j := by
  obtain ⟨J', e, h1, h2, h3⟩ := am_for0 l N (fun i J => (∀ b, b ≠ d → J b = J0 b) ∧ (∀ j, j < i → J d (k + j) = v j) ∧ ∀ j, j < k ∨ k + i ≤ j → J d j = J0 d j) ex hN (fun n i J hi hP => by
    refine ⟨_, hs n i J hi hP.1 hP.2.2, fun b hb => by rw [am_upL_n hb]; exact hP.1 b hb, fun j hj => ?_, fun j hj => by rw [am_upL_o (by omega)]; exact hP.2.2 j (by omega)⟩
    by_cases q : j = i
    · subst q; exact am_upL_s
    · rw [am_upL_o (by omega)]; exact hP.2.1 j (by omega)) (fun n J hP => hx n J hP.1) J0 ⟨fun _ _ => rfl, fun j hj => absurd hj (Nat.not_lt_zero j), fun _ _ => rfl⟩
  exact ⟨J', e, h1, h2, h3⟩
theorem kf35 {k : Nat} (x : 3 ≤ k) (y : k ≤ 5) : kfM k = true := by
  have : k = 3 ∨ k = 4 ∨ k = 5 := by omega
  rcases this with rfl | rfl | rfl <;> rfl
theorem kf79 {k : Nat} (x : 27 ≤ k) (y : k ≤ 29) : kfM k = true := by
  have : k = 27 ∨ k = 28 ∨ k = 29 := by omega
  rcases this with rfl | rfl | rfl <;> rfl
theorem nI_lt0 {a b : Nat} (h : a < b) (hb : b < 1000000) : nI a < nI b := nI_lt h (by omega)
theorem inS_iff {n : Nat} (hn : n < 1000000) (x : Int32) : (0 ≤ x ∧ x ≤ nI n - 1) ↔ inS n x := by
  constructor
  · rintro ⟨h1, h2⟩
    cases n with
    | zero =>
      have h3 := Int32.le_iff_toInt_le.mp h1
      have h4 := Int32.le_iff_toInt_le.mp h2
      have : (nI 0 - 1).toInt = -1 := by decide
      have : (0 : Int32).toInt = 0 := by decide
      omega
    | succ m =>
      rw [nI_pred] at h2
      rcases pk_ix x (n := m + 1) (by omega) with h | h | ⟨j, hj, e⟩
      · exact absurd h (fun q => by have := Int32.lt_iff_toInt_lt.mp q; have := Int32.le_iff_toInt_le.mp h1; omega)
      · have a1 := Int32.le_iff_toInt_le.mp h
        have a2 := Int32.le_iff_toInt_le.mp h2
        rw [nI_toInt (by omega)] at a1 a2
        omega
      · exact ⟨j, hj, e⟩
  · rintro ⟨j, hj, rfl⟩
    cases n with
    | zero => exact absurd hj (Nat.not_lt_zero j)
    | succ m => exact ⟨nI_pos' (by omega), by rw [nI_pred]; exact nI_le (by omega) (by omega)⟩
theorem e_btw0 {n : Nat} (hn : n < 1000000) (x : Int32) : pX11_isBetween (Int32.toInt64 x) (0 : Int64) (Int32.toInt64 (nI n - 1)) = some (bI (@decide (inS n x) (Classical.propDecidable _))) := by
  rw [e_between (lo' := 0) (hi' := Int32.toInt64 (nI n - 1)) x 0 (nI n - 1) (by decide) rfl]
  congr 2
  by_cases h : inS n x
  · rw [decide_eq_true ((inS_iff hn x).mpr h), @decide_eq_true _ (Classical.propDecidable _) h]
  · rw [decide_eq_false (mt (inS_iff hn x).mp h), @decide_eq_false _ (Classical.propDecidable _) h]
theorem btw_yes {n j : Nat} (hn : n < 1000000) (h : j < n) : pX11_isBetween (Int32.toInt64 (nI j)) (0 : Int64) (Int32.toInt64 (nI n - 1)) = some 1 := by
  rw [e_btw0 hn, @decide_eq_true _ (Classical.propDecidable _) ⟨j, h, rfl⟩]; rfl
theorem btw_no {n : Nat} {x : Int32} (hn : n < 1000000) (h : ¬ inS n x) : pX11_isBetween (Int32.toInt64 x) (0 : Int64) (Int32.toInt64 (nI n - 1)) = some 0 := by
  rw [e_btw0 hn, @decide_eq_false _ (Classical.propDecidable _) h]; rfl
/-- a range that begins at 0 and ends at a number: the class's way -/
theorem rng {n : Nat} (hn : n < 900000) {x M : Int32} (hM : nI n = M) : inS (n + 1) x ∨ (¬ inS (n + 1) x ∧ (x < 0 ∨ (¬ x < 0 ∧ ¬ x ≤ M))) := by
  subst hM
  by_cases h : inS (n + 1) x
  · exact Or.inl h
  · right
    refine ⟨h, ?_⟩
    by_cases h0 : x < 0
    · exact Or.inl h0
    · refine Or.inr ⟨h0, fun h1 => ?_⟩
      rcases inS_no (n := n + 1) (by omega) h with q | q
      · exact h0 q
      · have a1 := Int32.le_iff_toInt_le.mp q
        have a2 := Int32.le_iff_toInt_le.mp h1
        rw [nI_toInt (by omega)] at a1 a2
        omega
theorem lt01 (x : Int32) : ¬ (0 ≤ x) ↔ x < 0 := by
  constructor
  · intro h
    apply Classical.byContradiction
    intro q
    apply h
    exact Int32.le_iff_toInt_le.mpr (by have := mt Int32.lt_iff_toInt_lt.mpr q; omega)
  · intro h q
    have := Int32.lt_iff_toInt_lt.mp h; have := Int32.le_iff_toInt_le.mp q; omega
/-- the same range by the reference's way -/
theorem rngM {n : Nat} (hn : n < 900000) {x M : Int32} (hM : nI n = M) {hi : Int64} (hh : hi = Int32.toInt64 M) : (inS (n + 1) x → pX11_isBetween (Int32.toInt64 x) (0 : Int64) hi = some 1) ∧ (¬ inS (n + 1) x → pX11_isBetween (Int32.toInt64 x) (0 : Int64) hi = some 0) := by
  have e : hi = Int32.toInt64 (nI (n + 1) - 1) := by rw [hh, nI_pred, hM]
  rw [e]
  exact ⟨fun ⟨j, hj, e⟩ => by rw [e]; exact btw_yes (n := n + 1) (by omega) hj, fun h => btw_no (n := n + 1) (by omega) h⟩
section
variable {R : am_R} {I : am_I} {L : am_L} {J : am_I} {K : am_L}
theorem hp_yes {o n j : Nat} (h0 : I o 0 = nI n) (hn : n ≤ 216) (hj : j < n) : pX8_hasPosition R I o (nI j) = some 1 := by
  unfold pX8_hasPosition
  rw [if_neg (nI_pos (by omega)), h0, if_neg (nIge hj (by omega)), if_neg (ng216 (by omega))]
theorem hp_no {o n : Nat} {x : Int32} (h0 : I o 0 = nI n) (hn : n ≤ 216) (h : ¬ inS n x) : pX8_hasPosition R I o x = some 0 := by
  unfold pX8_hasPosition
  rw [h0]
  by_cases h1 : x < 0
  · rw [if_pos h1]
  · rw [if_neg h1, if_pos ((inS_no (by omega) h).resolve_left h1)]
theorem e_letterAt {o n j : Nat} (h0 : I o 0 = nI n) (hn : n ≤ 216) (hj : j < n) : pX8_letterAt R I o (nI j) = some (I (R o 1) j) := by
  unfold pX8_letterAt
  rw [hp_yes h0 hn hj, am_bd, if_neg i10, inb (by omega) (by omega), am_ck_true, nIcl (by omega)]
theorem e_add8 {o n : Nat} (h0 : I o 0 = nI n) (hn : n < 216) (x : Int32) : pX8_add R I o x = some (am_upI (am_upI I o 0 (nI (n + 1))) (R o 1) n x) := by
  unfold pX8_add pX8_setLetter
  have e1 : nI n + 1 = nI (n + 1) := nI_1 n
  have h1 : (am_upI I o 0 (nI (n + 1))) o 0 = nI (n + 1) := am_upI_s
  rw [h0, if_neg (ng216 hn), am_let_e, e1, h1, nI_pred, hp_yes h1 (by omega) (by omega), am_bd, if_neg i10, inb hn (by omega), am_ck_true, am_let_e, nIcl (by omega), am_bd]
theorem st13 (h : Inv R I L J K) (x : Int32) : ∃ r1 r2, pX10_append R I 1 x = some r1 ∧ pX11_append rM J 1 x = some r2 ∧ r1.1 = r2.1 ∧ Inv R r1.2 L r2.2 K := by
  obtain ⟨A, w, sv, tx, wd, rs, sh, ok, hc, hm⟩ := h
  obtain ⟨n, c⟩ := tx
  have hT := hc.2.2.2.2.1
  have hMT := hm.2.2.2.1
  obtain ⟨t1, t2⟩ := ok.2.2.2.1
  have t1 : n ≤ 60 := t1
  have hT0 : I 8 0 = nI n := hT.1
  have hM0 : J 1 12 = nI n := hMT.1
  unfold pX10_append pX11_append
  rw [hc.1.r1_5, e_between (lo' := 32) (hi' := 126) x 32 126 (by decide) (by decide)]
  by_cases hx : (32 : Int32) ≤ x ∧ x ≤ 126
  · have c1 : ¬ x < (32 : Int32) := fun q => by have := Int32.lt_iff_toInt_lt.mp q; have := Int32.le_iff_toInt_le.mp hx.1; omega
    obtain ⟨v, hv, e⟩ := nI_of2 (M := 126) (n := 126) (by decide) (fun q => by have := Int32.lt_iff_toInt_lt.mp q; have := Int32.le_iff_toInt_le.mp hx.1; simp at *; omega) hx.2
    have hv1 : 32 ≤ v := by
      have := hx.1
      rw [e] at this
      exact (nI_leI (a := 32) (b := v) (by omega) (by omega)).mp this
    by_cases hn : n = 60
    · subst hn
      refine stI (v := -3) (I' := I) (J' := J) ?_ ?_ ⟨A, w, sv, (60, c), wd, rs, sh, ok, hc, hm⟩
      · have c2 : ¬ nI 60 < 0 := nI_pos (by omega)
        have c3 : ¬ nI 60 < (60 : Int32) := nI_nlt (a := 60) (b := 60) (by omega) (by omega)
        unfold pX7_add
        simp only [c1, if_false, hx.2, if_true, hT0, c2, c3, am_bd]
      · have c2 : nI 60 = (60 : Int32) := rfl
        simp only [hx, and_self, decide_true, am_bd, bI0, not_true_eq_false, if_false, hM0, c2, if_true]
    · have hn : n < 60 := by omega
      have c2 : ¬ nI n < 0 := nI_pos (by omega)
      have c3 : nI n < (60 : Int32) := nI_lt (a := n) (b := 60) hn (by omega)
      have c4 : ¬ nI n = (60 : Int32) := fun q => by have := (nI_eq (a := n) (b := 60) (by omega) (by omega)).mp q; omega
      refine stI (v := nI (n + 1)) (I' := am_upI (am_upI I 9 n x) 8 0 (nI (n + 1))) (J' := am_upI (am_upI J 7 n x) 1 12 (nI (n + 1))) ?_ ?_ ⟨A, w, sv, (n + 1, fun j => if j = n then v else c j), wd, rs, sh, ⟨ok.1, ok.2.1, ok.2.2.1, ⟨by show n + 1 ≤ 60; omega, fun j hj => ?_⟩, ok.2.2.2.2⟩, ?_, ?_⟩
      · unfold pX7_add
        simp only [c1, if_false, hx.2, if_true, hT0, c2, c3, am_bd, inb hn (show 60 < 1000000 by omega), am_ck_true, am_let_e, nIcl (show n < 1000000 by omega), hc.1.r8_1, i10]
        rw [am_upI_ne (show (8 : Nat) ≠ 9 by decide), hT0, nI_1, am_upI_s]
      · simp only [hx, and_self, decide_true, am_bd, bI0, not_true_eq_false, if_false, hM0, c4, inb hn (show 60 < 1000000 by omega), am_ck_true, am_let_e, nIcl (show n < 1000000 by omega), rM10]
        rw [am_upI_ne (show (1 : Nat) ≠ 7 by decide), hM0, nI_1, am_upI_s]
      · show 32 ≤ (if j = n then v else c j) ∧ (if j = n then v else c j) ≤ 126
        have hj : j < n + 1 := hj
        by_cases q : j = n
        · rw [if_pos q]; exact ⟨hv1, hv⟩
        · rw [if_neg q]; exact t2 j (show j < n by omega)
      · obtain ⟨h0, h1, h2, h3, h4, h5, h6, h7, h8⟩ := hc
        have hf : ∀ b, b ≠ 9 → b ≠ 8 → am_upI (am_upI I 9 n x) 8 0 (nI (n + 1)) b = I b := fun b x y => by rw [am_upI_ne y, am_upI_ne x]
        have hr : R 1 15 ≠ 9 ∧ R 1 15 ≠ 8 := by rcases h0.2.1 with ⟨q, _⟩ | ⟨q, _⟩ <;> rw [q] <;> decide
        refine ⟨h0, h1.kept (hf 2 (by omega) (by omega)) (hf 3 (by omega) (by omega)), h2.kept (hf 6 (by omega) (by omega)), h3.kept (by rw [hf 1 (by omega) (by omega)]) (hf 4 (by omega) (by omega)) (hf 5 (by omega) (by omega)) (hf 7 (by omega) (by omega)), ⟨by simp [am_upI], fun j hj => ?_⟩, h5.kept (hf 10 (by omega) (by omega)) (hf 11 (by omega) (by omega)), h6.kept (by rw [hf 1 (by omega) (by omega)]) (hf _ hr.1 hr.2) rfl rfl, h7.kept (fun b x y => hf b (by omega) (by omega)) (fun _ _ _ => rfl), h8.kept (hf 17 (by omega) (by omega)) (hf 18 (by omega) (by omega)) (hf 26 (by omega) (by omega)) (hf 27 (by omega) (by omega))⟩
        have hj : j < n + 1 := hj
        show _ = nI (if j = n then v else c j)
        rw [am_upI_ne (by decide)]
        by_cases q : j = n
        · rw [if_pos q, q, am_upI_s]; exact e
        · rw [if_neg q, am_upI_o q]; exact h4.2 j (show j < n by omega)
      · obtain ⟨h1, h2, h3, h4, h5, h6, h7, h8⟩ := hm
        have hf : ∀ b, b ≠ 7 → b ≠ 1 → am_upI (am_upI J 7 n x) 1 12 (nI (n + 1)) b = J b := fun b x y => by rw [am_upI_ne y, am_upI_ne x]
        have hk : ∀ k, k ≠ 12 → am_upI (am_upI J 7 n x) 1 12 (nI (n + 1)) 1 k = J 1 k := fun k hk => by rw [am_upI_o hk, am_upI_ne (by decide)]
        refine ⟨h1.kept (fun k x y => hk k (by omega)) (hf 2 (by omega) (by omega)), h2.kept (hf 4 (by omega) (by omega)), h3.kept (hk 49 (by omega)) (hf 32 (by omega) (by omega)), ⟨by simp [am_upI], fun j hj => ?_⟩, h5.kept (hk 16 (by omega)) (hf 9 (by omega) (by omega)), h6.kept (hk 40 (by omega)) rfl rfl, h7.kept (hf 28 (by omega) (by omega)) (hf 29 (by omega) (by omega)) rfl, h8.kept (hk 6 (by omega)) (fun k x y => hk k (by omega)) (hf 17 (by omega) (by omega))⟩
        have hj : j < n + 1 := hj
        show _ = nI (if j = n then v else c j)
        rw [am_upI_ne (by decide)]
        by_cases q : j = n
        · rw [if_pos q, q, am_upI_s]; exact e
        · rw [if_neg q, am_upI_o q]; exact h4.2 j (show j < n by omega)
  · refine stI (v := -2) (I' := I) (J' := J) ?_ ?_ ⟨A, w, sv, (n, c), wd, rs, sh, ok, hc, hm⟩
    · by_cases c1 : x < (32 : Int32)
      · rw [if_pos c1]
      · rw [if_neg c1, if_neg]
        intro q
        exact hx ⟨Int32.le_iff_toInt_le.mpr (by have := mt Int32.lt_iff_toInt_lt.mpr c1; omega), q⟩
    · simp only [hx, decide_false, am_bd, bI0, Bool.false_eq_true, not_false_eq_true, if_true]
/-! the current word -/
theorem InvC.word {A : am_Au} {w : Nat → Nat} {sv : am_Sv} {tx wd wd' : am_Tx} {rs : Option am_Rs} {sh : Nat → am_Sf} (h : InvC R I L A w sv tx wd rs sh) {I' : am_I} (hU : cU I' wd') (hf : ∀ b, b ≠ 10 → b ≠ 11 → b ≠ 12 → b ≠ 13 → I' b = I b) : InvC R I' L A w sv tx wd' rs sh := by
  obtain ⟨h0, h1, h2, h3, h4, h5, h6, h7, h8⟩ := h
  have hr : R 1 15 ≠ 10 ∧ R 1 15 ≠ 11 ∧ R 1 15 ≠ 12 ∧ R 1 15 ≠ 13 := by rcases h0.2.1 with ⟨q, _⟩ | ⟨q, _⟩ <;> rw [q] <;> decide
  have hf' : ∀ b, b < 10 → I' b = I b := fun b hb => hf b (by omega) (by omega) (by omega) (by omega)
  exact ⟨h0, h1.kept (hf' 2 (by omega)) (hf' 3 (by omega)), h2.kept (hf' 6 (by omega)), h3.kept (by rw [hf' 1 (by omega)]) (hf' 4 (by omega)) (hf' 5 (by omega)) (hf' 7 (by omega)), h4.kept (hf' 8 (by omega)) (hf' 9 (by omega)), hU, h6.kept (by rw [hf' 1 (by omega)]) (hf _ hr.1 hr.2.1 hr.2.2.1 hr.2.2.2) rfl rfl, h7.kept (fun b x y => hf b (by omega) (by omega) (by omega) (by omega)) (fun _ _ _ => rfl), h8.kept (hf 17 (by omega) (by omega) (by omega) (by omega)) (hf 18 (by omega) (by omega) (by omega) (by omega)) (hf 26 (by omega) (by omega) (by omega) (by omega)) (hf 27 (by omega) (by omega) (by omega) (by omega))⟩
theorem InvM.word {A : am_Au} {w : Nat → Nat} {sv : am_Sv} {tx wd wd' : am_Tx} {rs : Option am_Rs} {sh : Nat → am_Sf} (h : InvM J K A w sv tx wd rs sh) {J' : am_I} (hU : mU J' wd') (hf : ∀ b, b ≠ 9 → kcM b = true → J' b = J b) (hk : ∀ k, k ≠ 16 → kfM k = true → J' 1 k = J 1 k) : InvM J' K A w sv tx wd' rs sh := by
  obtain ⟨h1, h2, h3, h4, h5, h6, h7, h8⟩ := h
  exact ⟨h1.kept (fun k x y => hk k (by omega) (kf35 x y)) (hf 2 (by omega) rfl), h2.kept (hf 4 (by omega) rfl), h3.kept (hk 49 (by omega) rfl) (hf 32 (by omega) rfl), h4.kept (hk 12 (by omega) rfl) (hf 7 (by omega) rfl), hU, h6.kept (hk 40 (by omega) rfl) rfl rfl, h7.kept (hf 28 (by omega) rfl) (hf 29 (by omega) rfl) rfl, h8.kept (hk 6 (by omega) rfl) (fun k x y => hk k (by omega) (kf79 x y)) (hf 17 (by omega) rfl)⟩
theorem st15 (h : Inv R I L J K) (x : Int32) : ∃ r1 r2, pX10_appendLetter R I 1 x = some r1 ∧ pX11_appendLetter rM J 1 x = some r2 ∧ r1.1 = r2.1 ∧ Inv R r1.2 L r2.2 K := by
  obtain ⟨A, w, sv, tx, wd, rs, sh, ok, hc, hm⟩ := h
  obtain ⟨n, c⟩ := wd
  have hU := hc.2.2.2.2.2.1
  have hMU := hm.2.2.2.2.1
  obtain ⟨t1, t2⟩ := ok.2.2.2.2.1
  have t1 : n ≤ 20 := t1
  have t2 : ∀ j, c j < 3 := t2
  have hU0 : I 10 0 = nI n := hU.1
  have hM0 : J 1 16 = nI n := hMU.1
  unfold pX10_appendLetter pX11_appendLetter
  rw [hc.1.r1_6]
  by_cases hx : inS 3 x
  · obtain ⟨a, ha, rfl⟩ := hx
    by_cases hn : n = 20
    · subst hn
      refine stI (v := -3) (I' := I) (J' := J) ?_ ?_ ⟨A, w, sv, tx, (20, c), rs, sh, ok, hc, hm⟩
      · have c3 : ¬ nI 20 < (20 : Int32) := nI_nlt (a := 20) (b := 20) (by omega) (by omega)
        simp only [lt_yes ha, am_bd, i10, if_false, hU0, c3]
      · have c2 : nI 20 = (20 : Int32) := rfl
        simp only [ltM_yes ha, am_bd, i10, if_false, hM0, c2, if_true]
    · have hn : n < 20 := by omega
      have c3 : nI n < (20 : Int32) := nI_lt (a := n) (b := 20) hn (by omega)
      have c4 : ¬ nI n = (20 : Int32) := fun q => by have := (nI_eq (a := n) (b := 20) (by omega) (by omega)).mp q; omega
      refine stI (v := nI (n + 1)) (I' := am_upI (am_upI I 10 0 (nI (n + 1))) 11 n (nI a)) (J' := am_upI (am_upI J 9 n (nI a)) 1 16 (nI (n + 1))) ?_ ?_ ⟨A, w, sv, tx, (n + 1, fun j => if j = n then a else c j), rs, sh, ⟨ok.1, ok.2.1, ok.2.2.1, ok.2.2.2.1, ⟨by show n + 1 ≤ 20; omega, fun j => ?_⟩, ok.2.2.2.2.2⟩, hc.word ⟨?_, fun j hj => ?_⟩ (fun b x y _ _ => by rw [am_upI_ne y, am_upI_ne x]), hm.word ⟨by simp [am_upI], fun j hj => ?_⟩ (fun b x y => by rw [am_upI_ne (fun q => by subst q; cases y), am_upI_ne x]) (fun k x _ => by rw [am_upI_o x, am_upI_ne (by decide)])⟩
      · simp only [lt_yes ha, am_bd, i10, if_false, hU0, c3, if_true, e_add8 hU0 (show n < 216 by omega), hc.1.r10_1]
        rw [am_upI_ne (by decide), am_upI_s]
      · simp only [ltM_yes ha, am_bd, i10, if_false, hM0, c4, inb hn (show 20 < 1000000 by omega), am_ck_true, am_let_e, nIcl (show n < 1000000 by omega), rM15]
        rw [am_upI_ne (show (1 : Nat) ≠ 9 by decide), hM0, nI_1, am_upI_s]
      · show (if j = n then a else c j) < 3
        by_cases q : j = n
        · rw [if_pos q]; exact ha
        · rw [if_neg q]; exact t2 j
      · rw [am_upI_ne (by decide), am_upI_s]
      · have hj : j < n + 1 := hj
        show _ = nI (if j = n then a else c j)
        by_cases q : j = n
        · rw [if_pos q, q, am_upI_s]
        · rw [if_neg q, am_upI_o q, am_upI_ne (by decide)]; exact hU.2 j (show j < n by omega)
      · have hj : j < n + 1 := hj
        show _ = nI (if j = n then a else c j)
        rw [am_upI_ne (by decide)]
        by_cases q : j = n
        · rw [if_pos q, q, am_upI_s]
        · rw [if_neg q, am_upI_o q]; exact hMU.2 j (show j < n by omega)
  · refine stI (v := -1) (I' := I) (J' := J) ?_ ?_ ⟨A, w, sv, tx, (n, c), rs, sh, ok, hc, hm⟩
    · simp only [lt_no hx, am_bd, if_true]
    · simp only [ltM_no hx, am_bd, if_true]
theorem st16 (h : Inv R I L J K) : ∃ r1 r2, pX10_clearWord R I 1 = some r1 ∧ pX11_clearWord J 1 = some r2 ∧ r1.1 = r2.1 ∧ Inv R r1.2 L r2.2 K := by
  obtain ⟨A, w, sv, tx, wd, rs, sh, ok, hc, hm⟩ := h
  refine stI (v := nI wd.1) (I' := am_upI I 10 0 0) (J' := am_upI J 1 16 0) ?_ ?_ ⟨A, w, sv, tx, (0, wd.2), rs, sh, ⟨ok.1, ok.2.1, ok.2.2.1, ok.2.2.2.1, ⟨Nat.zero_le _, ok.2.2.2.2.1.2⟩, ok.2.2.2.2.2⟩, hc.word ⟨by simp [am_upI, nI_0], fun j hj => absurd hj (Nat.not_lt_zero j)⟩ (fun b x _ _ _ => am_upI_ne x), hm.word ⟨by simp [am_upI, nI_0], fun j hj => absurd hj (Nat.not_lt_zero j)⟩ (fun b x y => am_upI_ne (fun q => by subst q; cases y)) (fun k x _ => am_upI_o x)⟩
  · unfold pX10_clearWord
    rw [hc.1.r1_6, am_let_e, am_let_e, hc.2.2.2.2.2.1.1]
  · unfold pX11_clearWord
    rw [am_let_e, am_let_e, hm.2.2.2.2.1.1]
theorem st17 (h : Inv R I L J K) : ∃ r1 r2, pX10_wordLength R I 1 = some r1 ∧ pX11_wordLength J 1 = some r2 ∧ r1 = r2 := by
  obtain ⟨A, w, sv, tx, wd, rs, sh, ok, hc, hm⟩ := h
  refine ⟨nI wd.1, nI wd.1, ?_, ?_, rfl⟩
  · unfold pX10_wordLength; rw [hc.1.r1_6, hc.2.2.2.2.2.1.1]
  · unfold pX11_wordLength; rw [hm.2.2.2.2.1.1]
theorem st18 (h : Inv R I L J K) (x : Int32) : ∃ r1 r2, pX10_wordLetter R I 1 x = some r1 ∧ pX11_wordLetter rM J 1 x = some r2 ∧ r1 = r2 := by
  obtain ⟨A, w, sv, tx, wd, rs, sh, ok, hc, hm⟩ := h
  have hU := hc.2.2.2.2.2.1
  have hMU := hm.2.2.2.2.1
  have t1 := ok.2.2.2.2.1.1
  unfold pX10_wordLetter pX11_wordLetter
  rw [hc.1.r1_6, hMU.1]
  by_cases hx : inS wd.1 x
  · obtain ⟨j, hj, rfl⟩ := hx
    refine ⟨nI (wd.2 j), nI (wd.2 j), ?_, ?_, rfl⟩
    · rw [hp_yes hU.1 (by omega) hj, am_bd, if_neg i10, e_letterAt hU.1 (by omega) hj, am_bd, hc.1.r10_1, hU.2 j hj]
    · rw [if_neg (nI_pos (by omega)), if_neg (nIge hj (by omega)), inb (by omega) (by omega), am_ck_true, nIcl (by omega), rM15, hMU.2 j hj]
  · refine ⟨-1, -1, ?_, ?_, rfl⟩
    · rw [hp_no hU.1 (by omega) hx, am_bd, if_pos rfl]
    · by_cases h1 : x < 0
      · rw [if_pos h1]
      · rw [if_neg h1, if_pos ((inS_no (by omega) hx).resolve_left h1)]
theorem st32 (h : Inv R I L J K) (x y : Int32) : ∃ r1 r2, pX10_setWeight R I 1 x y = some r1 ∧ pX11_setWeight rM J 1 x y = some r2 ∧ r1.1 = r2.1 ∧ Inv R r1.2 L r2.2 K := by
  obtain ⟨A, w, sv, tx, wd, rs, sh, ok, hc, hm⟩ := h
  unfold pX10_setWeight pX11_setWeight
  rw [hc.1.r1_2]
  by_cases hx : inS 3 x
  · obtain ⟨a, ha, rfl⟩ := hx
    have rM' := rngM (n := 100) (by omega) (x := y) (M := 100) rfl (hi := 100) (by decide)
    rcases rng (n := 100) (by omega) (x := y) (M := 100) rfl with hy | ⟨hy, h2⟩
    · rw [rM'.1 hy]
      obtain ⟨v, hv, rfl⟩ := hy
      have c1 : ¬ nI v < 0 := nI_pos (by omega)
      have c2 : nI v ≤ (100 : Int32) := nI_le (a := v) (b := 100) (by omega) (by omega)
      refine stI (v := nI (w a)) (I' := am_upI I 6 a (nI v)) (J' := am_upI J 4 a (nI v)) ?_ ?_ ⟨A, fun b => if b = a then v else w b, sv, tx, wd, rs, sh, ⟨ok.1, fun b hb => ?_, ok.2.2⟩, ?_, ?_⟩
      · simp only [lt_yes ha, am_bd, i10, if_false, c1, c2, if_true, inb ha (show 3 < 1000000 by omega), am_ck_true, nIcl (show a < 1000000 by omega), am_let_e, hc.2.2.1 a ha]
      · simp only [ltM_yes ha, am_bd, i10, if_false, inb ha (show 3 < 1000000 by omega), am_ck_true, nIcl (show a < 1000000 by omega), am_let_e, rM2, hm.2.1 a ha]
      · show (if b = a then v else w b) ≤ 100
        by_cases q : b = a
        · rw [if_pos q]; omega
        · rw [if_neg q]; exact ok.2.1 b hb
      · obtain ⟨h0, h1, h2, h3, h4, h5, h6, h7, h8⟩ := hc
        have hr : R 1 15 ≠ 6 := by rcases h0.2.1 with ⟨q, _⟩ | ⟨q, _⟩ <;> rw [q] <;> decide
        refine ⟨h0, h1.kept (am_upI_ne (by decide)) (am_upI_ne (by decide)), fun b hb => ?_, h3.kept (by rw [am_upI_ne (by decide)]) (am_upI_ne (by decide)) (am_upI_ne (by decide)) (am_upI_ne (by decide)), h4.kept (am_upI_ne (by decide)) (am_upI_ne (by decide)), h5.kept (am_upI_ne (by decide)) (am_upI_ne (by decide)), h6.kept (by rw [am_upI_ne (by decide)]) (am_upI_ne hr) rfl rfl, h7.kept (fun b x y => am_upI_ne (by omega)) (fun _ _ _ => rfl), h8.kept (am_upI_ne (by decide)) (am_upI_ne (by decide)) (am_upI_ne (by decide)) (am_upI_ne (by decide))⟩
        show _ = nI (if b = a then v else w b)
        by_cases q : b = a
        · rw [if_pos q, q, am_upI_s]
        · rw [if_neg q, am_upI_o q]; exact h2 b hb
      · obtain ⟨h1, h2, h3, h4, h5, h6, h7, h8⟩ := hm
        refine ⟨h1.kept (fun k _ _ => by rw [am_upI_ne (by decide)]) (am_upI_ne (by decide)), fun b hb => ?_, h3.kept (by rw [am_upI_ne (by decide)]) (am_upI_ne (by decide)), h4.kept (by rw [am_upI_ne (by decide)]) (am_upI_ne (by decide)), h5.kept (by rw [am_upI_ne (by decide)]) (am_upI_ne (by decide)), h6.kept (by rw [am_upI_ne (by decide)]) rfl rfl, h7.kept (am_upI_ne (by decide)) (am_upI_ne (by decide)) rfl, h8.kept (by rw [am_upI_ne (by decide)]) (fun k _ _ => by rw [am_upI_ne (by decide)]) (am_upI_ne (by decide))⟩
        show _ = nI (if b = a then v else w b)
        by_cases q : b = a
        · rw [if_pos q, q, am_upI_s]
        · rw [if_neg q, am_upI_o q]; exact h2 b hb
    · refine stI (v := -2) (I' := I) (J' := J) ?_ ?_ ⟨A, w, sv, tx, wd, rs, sh, ok, hc, hm⟩
      · rcases h2 with h2 | ⟨h2, h3⟩
        · simp only [lt_yes ha, am_bd, i10, if_false, h2, if_true]
        · simp only [lt_yes ha, am_bd, i10, if_false, h2, h3]
      · simp only [ltM_yes ha, am_bd, i10, if_false, rM'.2 hy, if_true]
  · refine stI (v := -1) (I' := I) (J' := J) ?_ ?_ ⟨A, w, sv, tx, wd, rs, sh, ok, hc, hm⟩
    · simp only [lt_no hx, am_bd, if_true]
    · simp only [ltM_no hx, am_bd, if_true]
end
