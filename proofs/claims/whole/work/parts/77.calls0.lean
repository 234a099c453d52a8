/-! calls 0 to 10 -/
theorem stI {R : am_R} {I' : am_I} {L : am_L} {J' : am_I} {K : am_L} {p q : Option (Int32 × am_I)} {v : Int32} (e1 : p = some (v, I')) (e2 : q = some (v, J')) (h : Inv R I' L J' K) : ∃ r1 r2, p = some r1 ∧ q = some r2 ∧ r1.1 = r2.1 ∧ Inv R r1.2 L r2.2 K := ⟨_, _, e1, e2, rfl, h⟩
section
variable {R : am_R} {I : am_I} {L : am_L} {J : am_I} {K : am_L}
theorem wnew {n : Nat} (h1 : 1 ≤ n) (h6 : n ≤ 6) : aw (n, 0, 0, fun _ _ => 0) := ⟨h1, h6, fun _ _ => ⟨bt_zero _, bt_zero _⟩, fun _ _ _ _ => bt_zero _, fun _ _ _ => rfl⟩
theorem e_clearsM {J : am_I} (n : Nat) : ∃ J', pX11_clears rM J 1 (nI n) = some J' ∧ isM J' (n, 0, 0, fun _ _ => 0) ∧ (∀ b, b ≠ 1 → b ≠ 2 → J' b = J b) ∧ (∀ k, (k < 3 ∨ 6 < k) → J' 1 k = J 1 k) ∧ J' 1 6 = 0 := by
  unfold pX11_clears
  simp only [am_let_e]
  generalize hJ0 : am_upI (am_upI (am_upI J 1 3 (nI n)) 1 4 0) 1 5 0 = J0
  obtain ⟨J1, e, h1, h2⟩ := am_for0 (fun n i J => lX11_clears_17 rM 1 n (nI i) J) 18 (fun i J => (∀ b, b ≠ 2 → J b = J0 b) ∧ ∀ j, j < i → J 2 j = 0) (fun J => some (am_upI J 1 6 0)) (by omega) (fun n i J hi hP => by
      refine ⟨am_upI J 2 i 0, by simp only [lX11_clears_17, sX11_clears_17, ng18 hi, if_false, inb hi (by omega), am_ck_true, am_let_e, nIcl (show i < 1000000 by omega), rM0, nI_1], fun b hb => by rw [am_upI_ne hb]; exact hP.1 b hb, fun j hj => ?_⟩
      by_cases q : j = i
      · subst q; exact am_upI_s
      · rw [am_upI_o q]; exact hP.2 j (by omega)) (fun n J _ => by simp only [lX11_clears_17, sX11_clears_17, yg18, if_true, am_let_e]) J0 ⟨fun _ _ => rfl, fun j hj => absurd hj (Nat.not_lt_zero j)⟩
  refine ⟨_, e, ⟨?_, ?_, ?_, fun a s ha hs => ?_⟩, fun b hb hb2 => ?_, fun k hk => ?_, am_upI_s⟩
  · rw [am_upI_o (by decide), h1 1 (by decide), ← hJ0]; simp [am_upI]
  · rw [am_upI_o (by decide), h1 1 (by decide), ← hJ0]; simp [am_upI]
  · rw [am_upI_o (by decide), h1 1 (by decide), ← hJ0]; simp [am_upI]
  · rw [am_upI_ne (by decide)]; exact h2 _ (by omega)
  · rw [am_upI_ne hb, h1 b hb2, ← hJ0, am_upI_ne hb, am_upI_ne hb, am_upI_ne hb]
  · rw [am_upI_o (by omega), h1 1 (by decide), ← hJ0, am_upI_o (by omega), am_upI_o (by omega), am_upI_o (by omega)]
theorem st0 (h : Inv R I L J K) (x : Int32) : ∃ r1 r2, pX10_reset R I 1 x = some r1 ∧ pX11_reset rM J 1 x = some r2 ∧ r1.1 = r2.1 ∧ Inv R r1.2 L r2.2 K := by
  obtain ⟨A, w, sv, tx, wd, rs, sh, ok, hc, hm⟩ := h
  have hA := hc.2.1
  have hM := hm.1
  have r0 := hc.1.r1_0
  have r3 := hc.1.r2_3
  unfold pX10_reset pX11_reset
  rw [r0, e_between (lo' := 1) (hi' := 6) x 1 6 (by decide) (by decide)]
  by_cases hx : (1 : Int32) ≤ x ∧ x ≤ 6
  · obtain ⟨n, hn, rfl⟩ := nI_of2 (M := 6) (n := 6) (by decide) (fun q => by have := Int32.lt_iff_toInt_lt.mp q; have := Int32.le_iff_toInt_le.mp hx.1; simp at *; omega) hx.2
    have hn1 : 1 ≤ n := by
      have := (nI_leI (a := 1) (b := n) (by omega) (by omega)).mp hx.1
      exact this
    obtain ⟨I', e1, f1, f2⟩ := e_clear (R := R) (I := I) (o := 2) (N := n) (by rw [r3]; decide)
    obtain ⟨J', e2, g1, g2, g3, g4⟩ := e_clearsM (J := J) n
    rw [r3] at f1
    have c1 : ¬ nI n < (1 : Int32) := fun q => by have := Int32.lt_iff_toInt_lt.mp q; have := Int32.le_iff_toInt_le.mp hx.1; omega
    refine stI (v := nI A.1) (I' := I') (J' := J') ?_ ?_ ⟨_, w, sv, tx, wd, rs, sh, ⟨wnew hn1 hn, ok.2⟩, hc.aut f1 (fun b x y => f2 b x (by rw [r3]; exact y)), hm.aut g1 (fun b x y => ?_) (fun k x y => g3 k y) g4⟩
    · simp only [c1, if_false, hx.2, if_true, am_let_e, e1, am_bd, hA.1]
    · simp only [hx, and_self, decide_true, am_bd, bI0, not_true_eq_false, if_false, am_let_e, e2, hM.1]
    · exact g2 b (fun q => by subst q; cases x) y
  · refine stI (v := -2) (I' := I) (J' := J) ?_ ?_ ⟨A, w, sv, tx, wd, rs, sh, ok, hc, hm⟩
    · by_cases c1 : x < (1 : Int32)
      · rw [if_pos c1]
      · rw [if_neg c1, if_neg]
        intro q
        exact hx ⟨Int32.le_iff_toInt_le.mpr (by have := mt Int32.lt_iff_toInt_lt.mpr c1; omega), q⟩
    · simp only [hx, decide_false, am_bd, bI0, Bool.false_eq_true, not_false_eq_true, if_true]
theorem st1 (h : Inv R I L J K) : ∃ r1 r2, pX10_stateCount R I 1 = some r1 ∧ pX11_stateCount J 1 = some r2 ∧ r1 = r2 := by
  obtain ⟨A, w, sv, tx, wd, rs, sh, ok, hc, hm⟩ := h
  refine ⟨nI A.1, nI A.1, ?_, ?_, rfl⟩
  · unfold pX10_stateCount; rw [hc.1.r1_0, hc.2.1.1]
  · unfold pX11_stateCount; rw [hm.1.1]
theorem st7 (h : Inv R I L J K) : ∃ r1 r2, pX10_initialStates R I 1 = some r1 ∧ pX11_initialStates J 1 = some r2 ∧ r1 = r2 := by
  obtain ⟨A, w, sv, tx, wd, rs, sh, ok, hc, hm⟩ := h
  refine ⟨A.2.1, A.2.1, ?_, ?_, rfl⟩
  · unfold pX10_initialStates; rw [hc.1.r1_0, hc.2.1.2.1]
  · unfold pX11_initialStates; rw [hm.1.2.1]
theorem st8 (h : Inv R I L J K) : ∃ r1 r2, pX10_finalStates R I 1 = some r1 ∧ pX11_finalStates J 1 = some r2 ∧ r1 = r2 := by
  obtain ⟨A, w, sv, tx, wd, rs, sh, ok, hc, hm⟩ := h
  refine ⟨A.2.2.1, A.2.2.1, ?_, ?_, rfl⟩
  · unfold pX10_finalStates; rw [hc.1.r1_0, hc.2.1.2.2.1]
  · unfold pX11_finalStates; rw [hm.1.2.2.1]
theorem st2 (h : Inv R I L J K) (x y z : Int32) : ∃ r1 r2, pX10_addTransition R I 1 x y z = some r1 ∧ pX11_addTransition rM J 1 x y z = some r2 ∧ r1.1 = r2.1 ∧ Inv R r1.2 L r2.2 K := by
  obtain ⟨A, w, sv, tx, wd, rs, sh, ok, hc, hm⟩ := h
  have hA := hc.2.1
  have hM := hm.1
  have hw := ok.1
  have h6 := hw.2.1
  have r0 := hc.1.r1_0
  have r3 := hc.1.r2_3
  have hA3 : isA I 2 (R 2 3) A := by rw [r3]; exact hA
  unfold pX10_addTransition pX11_addTransition
  rw [r0]
  by_cases hx : inS A.1 x ∧ inS 3 y ∧ inS A.1 z
  · obtain ⟨⟨s, hs, rfl⟩, ⟨a, ha, rfl⟩, ⟨t, ht, rfl⟩⟩ := hx
    have hv : lon A.1 (A.2.2.2 a s ||| ((1 : Int32) <<< (nI t &&& 31))) := lon_orb (lon_T hw a s) ht h6
    have hJ : InvM (am_upI (am_upI J 2 (6 * a + s) (A.2.2.2 a s ||| ((1 : Int32) <<< (nI t &&& 31)))) 1 6 0) K (setT A a s (A.2.2.2 a s ||| ((1 : Int32) <<< (nI t &&& 31)))) w sv tx wd rs sh :=
      hm.aut (isM_1 (isM_setT hM (by omega) _) (by omega) 0) (fun b x y => by rw [am_upI_ne (fun q => by subst q; cases x), am_upI_ne y]) (fun k x y => by rw [am_upI_o (by omega), am_upI_ne (by decide)]) am_upI_s
    have e2 : pX11_addTransition rM J 1 (nI s) (nI a) (nI t) = some (if bt (A.2.2.2 a s) t = true then 0 else 1, am_upI (am_upI J 2 (6 * a + s) (A.2.2.2 a s ||| ((1 : Int32) <<< (nI t &&& 31)))) 1 6 0) := by
      unfold pX11_addTransition
      simp only [hsM_yes hM.1 h6 hs, hsM_yes hM.1 h6 ht, ltM_yes ha, am_bd, i10, if_false, am_let_e, ix6, inb (show 6 * a + s < 18 by omega) (by omega), am_ck_true, nIcl (show 6 * a + s < 1000000 by omega), rM0, hM.2.2.2 a s ha (by omega), e_hb _ (show t < 32 by omega), bI0, ite_not]
    by_cases hb : bt (A.2.2.2 a s) t = true
    · refine ⟨(0, I), _, ?_, e2, by simp only [hb, if_true], setT A a s (A.2.2.2 a s ||| ((1 : Int32) <<< (nI t &&& 31))), w, sv, tx, wd, rs, sh, ⟨aw_setT hw ha hs hv, ok.2⟩, ?_, hJ⟩
      · simp only [e_couldHave hA3 hw hs ha ht, am_bd, i10, if_false, e_add hA3 hw hs ha ht, hb, if_true]
      · rw [setT_same (or_same (by omega) hb).symm]; exact hc
    · refine ⟨(1, am_upI I 3 (3 * s + a) (A.2.2.2 a s ||| ((1 : Int32) <<< (nI t &&& 31)))), _, ?_, e2, by simp only [hb, if_false]; rfl, setT A a s (A.2.2.2 a s ||| ((1 : Int32) <<< (nI t &&& 31))), w, sv, tx, wd, rs, sh, ⟨aw_setT hw ha hs hv, ok.2⟩, ?_, hJ⟩
      · simp only [e_couldHave hA3 hw hs ha ht, am_bd, i10, if_false, e_add hA3 hw hs ha ht, hb, r3]
        rfl
      · exact hc.aut (isA_setT hA (by decide) ha _) (fun b x y => am_upI_ne y)
  · refine stI (v := -1) (I' := I) (J' := J) ?_ ?_ ⟨A, w, sv, tx, wd, rs, sh, ok, hc, hm⟩
    · simp only [e_couldNot hA3 hw hx, am_bd, if_true]
    · by_cases h1 : inS A.1 x
      · obtain ⟨s, hs, rfl⟩ := h1
        simp only [hsM_yes hM.1 h6 hs, am_bd, i10, if_false]
        by_cases h2 : inS 3 y
        · obtain ⟨a, ha, rfl⟩ := h2
          have h3 : ¬ inS A.1 z := fun q => hx ⟨⟨s, hs, rfl⟩, ⟨a, ha, rfl⟩, q⟩
          simp only [ltM_yes ha, am_bd, i10, if_false, hsM_no hM.1 h6 h3, if_true]
        · simp only [ltM_no h2, am_bd, if_true]
      · simp only [hsM_no hM.1 h6 h1, am_bd, if_true]
theorem st3 (h : Inv R I L J K) (x y z : Int32) : ∃ r1 r2, pX10_removeTransition R I 1 x y z = some r1 ∧ pX11_removeTransition rM J 1 x y z = some r2 ∧ r1.1 = r2.1 ∧ Inv R r1.2 L r2.2 K := by
  obtain ⟨A, w, sv, tx, wd, rs, sh, ok, hc, hm⟩ := h
  have hA := hc.2.1
  have hM := hm.1
  have hw := ok.1
  have h6 := hw.2.1
  have r0 := hc.1.r1_0
  have r3 := hc.1.r2_3
  have hA3 : isA I 2 (R 2 3) A := by rw [r3]; exact hA
  unfold pX10_removeTransition pX11_removeTransition
  rw [r0]
  by_cases hx : inS A.1 x ∧ inS 3 y ∧ inS A.1 z
  · obtain ⟨⟨s, hs, rfl⟩, ⟨a, ha, rfl⟩, ⟨t, ht, rfl⟩⟩ := hx
    have hv : lon A.1 (A.2.2.2 a s &&& (((1 : Int32) <<< (nI t &&& 31)) ^^^ (-1))) := lon_andl (lon_T hw a s)
    have hJ : InvM (am_upI (am_upI J 2 (6 * a + s) (A.2.2.2 a s &&& (((1 : Int32) <<< (nI t &&& 31)) ^^^ (-1)))) 1 6 0) K (setT A a s (A.2.2.2 a s &&& (((1 : Int32) <<< (nI t &&& 31)) ^^^ (-1)))) w sv tx wd rs sh :=
      hm.aut (isM_1 (isM_setT hM (by omega) _) (by omega) 0) (fun b x y => by rw [am_upI_ne (fun q => by subst q; cases x), am_upI_ne y]) (fun k x y => by rw [am_upI_o (by omega), am_upI_ne (by decide)]) am_upI_s
    have e2 : pX11_removeTransition rM J 1 (nI s) (nI a) (nI t) = some (if bt (A.2.2.2 a s) t = true then 1 else 0, am_upI (am_upI J 2 (6 * a + s) (A.2.2.2 a s &&& (((1 : Int32) <<< (nI t &&& 31)) ^^^ (-1)))) 1 6 0) := by
      unfold pX11_removeTransition
      simp only [hsM_yes hM.1 h6 hs, hsM_yes hM.1 h6 ht, ltM_yes ha, am_bd, i10, if_false, am_let_e, ix6, inb (show 6 * a + s < 18 by omega) (by omega), am_ck_true, nIcl (show 6 * a + s < 1000000 by omega), rM0, hM.2.2.2 a s ha (by omega), e_hb _ (show t < 32 by omega), bI0, ite_not]
    by_cases hb : bt (A.2.2.2 a s) t = true
    · refine ⟨(1, am_upI I 3 (3 * s + a) (A.2.2.2 a s &&& (((1 : Int32) <<< (nI t &&& 31)) ^^^ (-1)))), _, ?_, e2, by simp only [hb, if_true], setT A a s (A.2.2.2 a s &&& (((1 : Int32) <<< (nI t &&& 31)) ^^^ (-1))), w, sv, tx, wd, rs, sh, ⟨aw_setT hw ha hs hv, ok.2⟩, ?_, hJ⟩
      · simp only [e_couldHave hA3 hw hs ha ht, am_bd, i10, if_false, e_remove hA3 hw hs ha ht, hb, if_true, r3]
      · exact hc.aut (isA_setT hA (by decide) ha _) (fun b x y => am_upI_ne y)
    · refine ⟨(0, I), _, ?_, e2, by simp only [hb, if_false]; rfl, setT A a s (A.2.2.2 a s &&& (((1 : Int32) <<< (nI t &&& 31)) ^^^ (-1))), w, sv, tx, wd, rs, sh, ⟨aw_setT hw ha hs hv, ok.2⟩, ?_, hJ⟩
      · simp only [e_couldHave hA3 hw hs ha ht, am_bd, i10, if_false, e_remove hA3 hw hs ha ht, hb]
        rfl
      · rw [setT_same (andn_same (by omega) hb).symm]; exact hc
  · refine stI (v := -1) (I' := I) (J' := J) ?_ ?_ ⟨A, w, sv, tx, wd, rs, sh, ok, hc, hm⟩
    · simp only [e_couldNot hA3 hw hx, am_bd, if_true]
    · by_cases h1 : inS A.1 x
      · obtain ⟨s, hs, rfl⟩ := h1
        simp only [hsM_yes hM.1 h6 hs, am_bd, i10, if_false]
        by_cases h2 : inS 3 y
        · obtain ⟨a, ha, rfl⟩ := h2
          have h3 : ¬ inS A.1 z := fun q => hx ⟨⟨s, hs, rfl⟩, ⟨a, ha, rfl⟩, q⟩
          simp only [ltM_yes ha, am_bd, i10, if_false, hsM_no hM.1 h6 h3, if_true]
        · simp only [ltM_no h2, am_bd, if_true]
      · simp only [hsM_no hM.1 h6 h1, am_bd, if_true]
theorem st4 (h : Inv R I L J K) : ∃ r1 r2, pX10_transitionCount R I 1 = some r1 ∧ pX11_transitionCount rM J 1 = some r2 ∧ r1 = r2 := by
  obtain ⟨A, w, sv, tx, wd, rs, sh, ok, hc, hm⟩ := h
  have hA3 : isA I 2 (R 2 3) A := by rw [hc.1.r2_3]; exact hc.2.1
  refine ⟨nI (cntA A), nI (cntA A), ?_, e_transitionCountM hm.1, rfl⟩
  unfold pX10_transitionCount
  rw [hc.1.r1_0, e_countTransitions hA3 ok.1, am_bd]
def setB (x : Int32) (s : Nat) (b : Int32) : Int32 := if b = 0 then x &&& (((1 : Int32) <<< (nI s &&& 31)) ^^^ (-1)) else x ||| ((1 : Int32) <<< (nI s &&& 31))
theorem lon_setB {n s : Nat} {x b : Int32} (hx : lon n x) (hs : s < n) (hn : n ≤ 6) : lon n (setB x s b) := by
  unfold setB
  by_cases q : b = 0
  · rw [if_pos q]; exact lon_andl hx
  · rw [if_neg q]; exact lon_orb hx hs hn
theorem e_withBit (x : Int32) (s : Nat) (b : Int32) : pX10_withBit x (nI s) b = some (setB x s b) := by
  unfold pX10_withBit setB
  by_cases q : b = 0
  · rw [if_pos q, if_pos q]
  · rw [if_neg q, if_neg q]
theorem st5 (h : Inv R I L J K) (x b : Int32) : ∃ r1 r2, pX10_setInitial R I 1 x b = some r1 ∧ pX11_setInitial J 1 x b = some r2 ∧ r1.1 = r2.1 ∧ Inv R r1.2 L r2.2 K := by
  obtain ⟨A, w, sv, tx, wd, rs, sh, ok, hc, hm⟩ := h
  obtain ⟨n, ini, fin, T⟩ := A
  have hA := hc.2.1
  have hM := hm.1
  have hw := ok.1
  have h6 := hw.2.1
  have r0 := hc.1.r1_0
  unfold pX10_setInitial pX11_setInitial
  rw [r0]
  by_cases hx : inS n x
  · obtain ⟨s, hs, rfl⟩ := hx
    refine stI (v := nI (bt ini s).toNat) (I' := am_upI I 2 1 (setB ini s b)) (J' := am_upI (am_upI J 1 4 (setB ini s b)) 1 6 0) ?_ ?_ ⟨(n, setB ini s b, fin, T), w, sv, tx, wd, rs, sh, ⟨⟨hw.1, hw.2.1, fun k hk => ⟨lon_setB (fun k hk => (hw.2.2.1 k hk).1) hs h6 k hk, (hw.2.2.1 k hk).2⟩, hw.2.2.2⟩, ok.2⟩, hc.aut ⟨?_, by simp [am_upI], ?_, fun a s ha hs => ?_⟩ (fun b x y => am_upI_ne x), InvM.aut (J' := am_upI (am_upI J 1 4 (setB ini s b)) 1 6 0) hm ⟨?_, ?_, ?_, fun a s ha hs => ?_⟩ (fun b x y => ?_) (fun k x y => ?_) am_upI_s⟩
    · simp only [hs_yes hA.1 h6 hs, am_bd, i10, if_false, am_let_e, e_bit1 _ (show s < 32 by have : n ≤ 6 := h6; omega), e_withBit, hA.2.1]
    · simp only [hsM_yes hM.1 h6 hs, am_bd, i10, if_false, am_let_e, e_bit1 _ (show s < 32 by have : n ≤ 6 := h6; omega), hM.2.1]
      rfl
    · rw [am_upI_o (by decide)]; exact hA.1
    · rw [am_upI_o (by decide)]; exact hA.2.2.1
    · rw [am_upI_ne (by decide)]; exact hA.2.2.2 a s ha hs
    · rw [am_upI_o (by decide), am_upI_o (by decide)]; exact hM.1
    · rw [am_upI_o (by decide), am_upI_s]
    · rw [am_upI_o (by decide), am_upI_o (by decide)]; exact hM.2.2.1
    · rw [am_upI_ne (by decide), am_upI_ne (by decide)]; exact hM.2.2.2 a s ha hs
    · rw [am_upI_ne (fun q => by subst q; cases x), am_upI_ne (fun q => by subst q; cases x)]
    · rw [am_upI_o (by omega), am_upI_o (by omega)]
  · refine stI (v := -1) (I' := I) (J' := J) ?_ ?_ ⟨(n, ini, fin, T), w, sv, tx, wd, rs, sh, ok, hc, hm⟩
    · simp only [hs_no hA.1 h6 hx, am_bd, if_true]
    · simp only [hsM_no hM.1 h6 hx, am_bd, if_true]
theorem st6 (h : Inv R I L J K) (x b : Int32) : ∃ r1 r2, pX10_setFinal R I 1 x b = some r1 ∧ pX11_setFinal J 1 x b = some r2 ∧ r1.1 = r2.1 ∧ Inv R r1.2 L r2.2 K := by
  obtain ⟨A, w, sv, tx, wd, rs, sh, ok, hc, hm⟩ := h
  obtain ⟨n, ini, fin, T⟩ := A
  have hA := hc.2.1
  have hM := hm.1
  have hw := ok.1
  have h6 := hw.2.1
  have r0 := hc.1.r1_0
  unfold pX10_setFinal pX11_setFinal
  rw [r0]
  by_cases hx : inS n x
  · obtain ⟨s, hs, rfl⟩ := hx
    refine stI (v := nI (bt fin s).toNat) (I' := am_upI I 2 2 (setB fin s b)) (J' := am_upI (am_upI J 1 5 (setB fin s b)) 1 6 0) ?_ ?_ ⟨(n, ini, setB fin s b, T), w, sv, tx, wd, rs, sh, ⟨⟨hw.1, hw.2.1, fun k hk => ⟨(hw.2.2.1 k hk).1, lon_setB (fun k hk => (hw.2.2.1 k hk).2) hs h6 k hk⟩, hw.2.2.2⟩, ok.2⟩, hc.aut ⟨?_, ?_, by simp [am_upI], fun a s ha hs => ?_⟩ (fun b x y => am_upI_ne x), InvM.aut (J' := am_upI (am_upI J 1 5 (setB fin s b)) 1 6 0) hm ⟨?_, ?_, ?_, fun a s ha hs => ?_⟩ (fun b x y => ?_) (fun k x y => ?_) am_upI_s⟩
    · simp only [hs_yes hA.1 h6 hs, am_bd, i10, if_false, am_let_e, e_bit1 _ (show s < 32 by have : n ≤ 6 := h6; omega), e_withBit, hA.2.2.1]
    · simp only [hsM_yes hM.1 h6 hs, am_bd, i10, if_false, am_let_e, e_bit1 _ (show s < 32 by have : n ≤ 6 := h6; omega), hM.2.2.1]
      rfl
    · rw [am_upI_o (by decide)]; exact hA.1
    · rw [am_upI_o (by decide)]; exact hA.2.1
    · rw [am_upI_ne (by decide)]; exact hA.2.2.2 a s ha hs
    · rw [am_upI_o (by decide), am_upI_o (by decide)]; exact hM.1
    · rw [am_upI_o (by decide), am_upI_o (by decide)]; exact hM.2.1
    · rw [am_upI_o (by decide), am_upI_s]
    · rw [am_upI_ne (by decide), am_upI_ne (by decide)]; exact hM.2.2.2 a s ha hs
    · rw [am_upI_ne (fun q => by subst q; cases x), am_upI_ne (fun q => by subst q; cases x)]
    · rw [am_upI_o (by omega), am_upI_o (by omega)]
  · refine stI (v := -1) (I' := I) (J' := J) ?_ ?_ ⟨(n, ini, fin, T), w, sv, tx, wd, rs, sh, ok, hc, hm⟩
    · simp only [hs_no hA.1 h6 hx, am_bd, if_true]
    · simp only [hsM_no hM.1 h6 hx, am_bd, if_true]
theorem st9 (h : Inv R I L J K) (x y : Int32) : ∃ r1 r2, pX10_successors R I 1 x y = some r1 ∧ pX11_successors rM J 1 x y = some r2 ∧ r1 = r2 := by
  obtain ⟨A, w, sv, tx, wd, rs, sh, ok, hc, hm⟩ := h
  have hA3 : isA I 2 (R 2 3) A := by rw [hc.1.r2_3]; exact hc.2.1
  have hw := ok.1
  have h6 := hw.2.1
  have hM := hm.1
  unfold pX10_successors pX11_successors
  rw [hc.1.r1_0]
  by_cases hx : inS A.1 x
  · obtain ⟨s, hs, rfl⟩ := hx
    by_cases hy : inS 3 y
    · obtain ⟨a, ha, rfl⟩ := hy
      refine ⟨A.2.2.2 a s, A.2.2.2 a s, ?_, ?_, rfl⟩
      · simp only [hs_yes hA3.1 h6 hs, lt_yes ha, am_bd, i10, if_false, e_targetsOf hA3 hw s a (by omega) (by omega)]
      · simp only [hsM_yes hM.1 h6 hs, ltM_yes ha, am_bd, i10, if_false, ix6, inb (show 6 * a + s < 18 by omega) (by omega), am_ck_true, nIcl (show 6 * a + s < 1000000 by omega), rM0, hM.2.2.2 a s ha (by omega)]
    · refine ⟨-1, -1, ?_, ?_, rfl⟩
      · simp only [hs_yes hA3.1 h6 hs, lt_no hy, am_bd, i10, if_false, if_true]
      · simp only [hsM_yes hM.1 h6 hs, ltM_no hy, am_bd, i10, if_false, if_true]
  · refine ⟨-1, -1, ?_, ?_, rfl⟩
    · simp only [hs_no hA3.1 h6 hx, am_bd, if_true]
    · simp only [hsM_no hM.1 h6 hx, am_bd, if_true]
theorem st10 (h : Inv R I L J K) : ∃ r1 r2, pX10_usefulStates R I 1 = some r1 ∧ pX11_usefulStates rM J 1 = some r2 ∧ r1 = r2 := by
  obtain ⟨A, w, sv, tx, wd, rs, sh, ok, hc, hm⟩ := h
  have hA3 : isA I 2 (R 2 3) A := by rw [hc.1.r2_3]; exact hc.2.1
  refine ⟨uA A, uA A, ?_, ?_, rfl⟩
  · unfold pX10_usefulStates
    rw [hc.1.r1_0, e_usefulSet hA3 ok.1, am_bd]
  · unfold pX11_usefulStates
    rw [e_useful hm.1 ok.1, am_bd]
end
