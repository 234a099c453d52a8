/-! calls 19, 20, 21, 41: counts -/
theorem okC.res {R : am_R} (h : okC R) : 33 ≤ R 1 15 ∧ R 1 15 < 41 ∧ 33 ≤ R (R 1 15) 3 ∧ R (R 1 15) 3 < 41 := by
  rcases h.2.1 with ⟨q, _⟩ | ⟨q, _⟩
  · rw [q, h.r33_3]; decide
  · rw [q, h.r37_3]; decide
theorem frC_L {R : am_R} {I : am_I} {L L' : am_L} (h : okC R) (hL : ∀ b, 33 ≤ b → L' b = L b) : frC R I L I L' :=
  ⟨fun _ _ => rfl, fun b x _ => ⟨rfl, hL b (by omega)⟩, rfl, hL _ h.res.1, hL _ h.res.2.2.1, id⟩
theorem fo_0 (A : am_Au) (a : Nat) : fo A a 0 6 = (0, 0) := am_to_ind (fun y => y = (0, 0)) 6 (0, 0) (fun i y _ hy => by
  subst hy
  rw [Nat.zero_testBit]; rfl) rfl
theorem tab_0 {J : am_I} {p q : Nat} {A : am_Au} {a : Nat} (h : tab J p q A a 64) : J p (64 * a) = 0 ∧ J q (64 * a) = 0 := by
  have := h 0 (by omega)
  rw [fo_0] at this
  exact this
theorem frC_steps {R : am_R} {I I' : am_I} {L L' : am_L} {A : am_Au} (h : okC R) (hI : ∀ b, b ≠ 17 → b ≠ 18 → I' b = I b) (hT : ∀ a, a < 3 → tab I' 17 18 A a 64) (hL : ∀ b, 33 ≤ b → L' b = L b) : frC R I L I' L' :=
  ⟨fun b x => hI b (by omega) (by omega), fun b x _ => ⟨hI b (by omega) (by omega), hL b (by omega)⟩, hI _ (by have := h.res.1; omega) (by have := h.res.1; omega), hL _ h.res.1, hL _ h.res.2.2.1, fun z a ha => by
    rw [hI 26 (by decide) (by decide), hI 27 (by decide) (by decide)]
    exact ⟨(tab_0 (hT a ha)).1, (tab_0 (hT a ha)).2, (z a ha).2.2⟩⟩
theorem frM_L {J : am_I} {K K' : am_L} (hK : ∀ b, b ≠ 10 → b ≠ 11 → K' b = K b) : frM J K J K' := ⟨fun _ _ => rfl, fun _ _ => rfl, hK 1 (by decide) (by decide), hK 26 (by decide) (by decide), hK 30 (by decide) (by decide)⟩
theorem Inv.fr {R : am_R} {I I' : am_I} {L L' : am_L} {J J' : am_I} {K K' : am_L} (h : Inv R I L J K) (f : frC R I L I' L') (g : frM J K J' K') : Inv R I' L' J' K' := by
  obtain ⟨A, w, sv, tx, wd, rs, sh, ok, hc, hm⟩ := h
  exact ⟨A, w, sv, tx, wd, rs, sh, ok, hc.kept f, hm.kept g⟩
theorem sat_ans (n : Nat) : (if 0 ≤ lg_cmp (sat (-1) n) 0 then sat (-1) n else -6) = sat (-6) n := by
  by_cases h : n < 2 ^ 63
  · rw [if_pos (am_cmp_ge.mpr (fun q => (sat_neg (by decide) _).mp q h)), sat_lt h, sat_lt h]
  · rw [if_neg (fun q => am_cmp_ge.mp q ((sat_neg (by decide) _).mpr h)), sat_ge h]
theorem ite_pair {α β : Type} {c : Prop} [Decidable c] (x y : α) (z : β) : (if c then some (x, z) else some (y, z)) = some ((if c then x else y), z) := by
  by_cases h : c
  · rw [if_pos h, if_pos h]
  · rw [if_neg h, if_neg h]
theorem cl_yes {k : Nat} (h : k < 61) : pX10_isCountedLength (nI k) = some 1 := by
  unfold pX10_isCountedLength
  have h1 : ¬ nI k < 0 := nI_pos (by omega)
  have h2 : nI k ≤ (60 : Int32) := nI_le (a := k) (b := 60) (by omega) (by omega)
  have h3 : ¬ (60 : Int32) < nI k := by
    rw [Int32.lt_iff_toInt_lt]
    rw [Int32.le_iff_toInt_le] at h2
    omega
  rw [if_neg h1, if_neg h3]
theorem cl_no {x : Int32} (h : x < 0 ∨ (¬ x < 0 ∧ ¬ x ≤ 60)) : pX10_isCountedLength x = some 0 := by
  unfold pX10_isCountedLength
  rcases h with h | ⟨h1, h2⟩
  · simp only [h, if_true]
  · have h3 : (60 : Int32) < x := by
      rw [Int32.lt_iff_toInt_lt]
      rw [Int32.le_iff_toInt_le] at h2
      omega
    rw [if_neg h1, if_pos h3]
section
variable {R : am_R} {I : am_I} {L : am_L} {J : am_I} {K : am_L}
theorem st19 (h : Inv R I L J K) : ∃ r1 r2, pX10_wordAmbiguity R I L 1 = some r1 ∧ pX11_wordAmbiguity rM J K 1 = some r2 ∧ r1.1 = r2.1 ∧ Inv R I r1.2 J r2.2 := by
  have h' := h
  obtain ⟨A, w, sv, tx, wd, rs, sh, ok, hc, hm⟩ := h'
  have hA3 : isA I 2 (R 2 3) A := by rw [hc.1.r2_3]; exact hc.2.1
  have hU := hc.2.2.2.2.2.1
  have hMU := hm.2.2.2.2.1
  obtain ⟨t1, t2⟩ := ok.2.2.2.2.1
  obtain ⟨L', e1, f1⟩ := e_pathsOf (o := 19) hA3 ok.1 (by rw [hc.1.r19_0, hc.1.r19_1]; decide) L (d := 10) (n := wd.1) (c := wd.2) hU.1 (by omega) (by rw [hc.1.r10_1]; exact hU.2) t2
  rw [hc.1.r19_0, hc.1.r19_1] at f1
  obtain ⟨K', e2, f2⟩ := e_wordAmbM hm.1 ok.1 t1 hMU.1 t2 hMU.2 K
  refine ⟨(lN (wacc A wd.2 wd.1), L'), (lN (wacc A wd.2 wd.1), K'), ?_, e2, rfl, h.fr (frC_L hc.1 (fun b hb => f1 b (by omega) (by omega))) (frM_L f2)⟩
  unfold pX10_wordAmbiguity
  rw [hc.1.r1_11, hc.1.r1_0, hc.1.r1_6, e1, am_bd, sat_lt (wacc_lt A wd.2 t1)]
theorem st20 (h : Inv R I L J K) (x : Int32) : ∃ r1 r2, pX10_pathsOfLength R I L 1 x = some r1 ∧ pX11_pathsOfLength rM J K 1 x = some r2 ∧ r1.1 = r2.1 ∧ Inv R I r1.2 J r2.2 := by
  have h' := h
  obtain ⟨A, w, sv, tx, wd, rs, sh, ok, hc, hm⟩ := h'
  have hA3 : isA I 2 (R 2 3) A := by rw [hc.1.r2_3]; exact hc.2.1
  have rM' := rngM (n := 60) (by omega) (x := x) (M := 60) rfl (hi := 60) (by decide)
  unfold pX10_pathsOfLength pX11_pathsOfLength
  rcases rng (n := 60) (by omega) (x := x) (M := 60) rfl with hx | ⟨hx, h2⟩
  · rw [rM'.1 hx]
    obtain ⟨k, hk, rfl⟩ := hx
    obtain ⟨L', e1, f1⟩ := e_countPaths (o := 19) hA3 ok.1 (by rw [hc.1.r19_0, hc.1.r19_1]; decide) L (k := k) (by omega)
    rw [hc.1.r19_0, hc.1.r19_1] at f1
    obtain ⟨K', e2, f2⟩ := e_pathsOfM hm.1 ok.1 K (k := k) (by omega)
    refine ⟨(sat (-6) (pths A k), L'), (sat (-6) (pths A k), K'), ?_, ?_, rfl, h.fr (frC_L hc.1 (fun b hb => f1 b (by omega) (by omega))) (frM_L f2)⟩
    · rw [cl_yes (by omega), am_bd, if_neg i10, hc.1.r1_11, hc.1.r1_0, e1, am_bd]
    · rw [am_bd, if_neg i10, e2, am_bd, ite_pair, sat_ans]
  · refine ⟨(-2, L), (-2, K), ?_, ?_, rfl, h⟩
    · rw [cl_no h2, am_bd, if_pos rfl]
    · rw [rM'.2 hx, am_bd, if_pos rfl]
theorem e_ldS (hc0 : okC R) {A : am_Au} (hA : isA I 2 3 A) (hw : aw A) (hz : cZ I) : ∃ I', pX6_load R I 16 2 = some I' ∧ (∀ a, a < 3 → tab I' 17 18 A a 64) ∧ ∀ b, b ≠ 17 → b ≠ 18 → I' b = I b := by
  obtain ⟨I', e, h1, h2⟩ := e_load (R := R) (I := I) (o := 16) (u := 2) (A := A) (by rw [hc0.r16_0, hc0.r16_1]; decide) (by rw [hc0.r2_3]; exact hA) hw (by rw [hc0.r16_0, hc0.r16_1, hc0.r2_3]; decide) (by rw [hc0.r16_0, hc0.r16_1]; exact fun a ha => ⟨(hz a ha).1, (hz a ha).2.1⟩)
  rw [hc0.r16_0, hc0.r16_1] at h1 h2
  exact ⟨I', e, h1, h2⟩
theorem st21 (h : Inv R I L J K) (x : Int32) : ∃ r1 r2, pX10_wordsOfLength R I L 1 x = some r1 ∧ pX11_wordsOfLength rM J K 1 x = some r2 ∧ r1.1 = r2.1 ∧ Inv R r1.2.1 r1.2.2 J r2.2 := by
  have h' := h
  obtain ⟨A, w, sv, tx, wd, rs, sh, ok, hc, hm⟩ := h'
  have rM' := rngM (n := 60) (by omega) (x := x) (M := 60) rfl (hi := 60) (by decide)
  unfold pX10_wordsOfLength pX11_wordsOfLength
  rcases rng (n := 60) (by omega) (x := x) (M := 60) rfl with hx | ⟨hx, h2⟩
  · rw [rM'.1 hx]
    obtain ⟨k, hk, rfl⟩ := hx
    obtain ⟨I', e0, hT, f0⟩ := e_ldS hc.1 hc.2.1 ok.1 hc.2.2.2.2.2.2.2.2
    have hA3 : isA I' 2 (R 2 3) A := by rw [hc.1.r2_3]; exact hc.2.1.kept (f0 2 (by decide) (by decide)) (f0 3 (by decide) (by decide))
    obtain ⟨L', e1, f1⟩ := e_countWords (R := R) (I := I') (c := 19) (o := 16) (u := 2) (by rw [hc.1.r19_2, hc.1.r19_3]; decide) (by rw [hc.1.r16_0, hc.1.r16_1]; exact hT) hA3 ok.1 L (k := k) (by omega)
    rw [hc.1.r19_2, hc.1.r19_3] at f1
    obtain ⟨K', e2, f2⟩ := e_wordsOfM hm.1 ok.1 K (k := k) (by omega)
    refine ⟨(sat (-6) (wrds A k), I', L'), (sat (-6) (wrds A k), K'), ?_, ?_, rfl, h.fr (frC_steps hc.1 f0 hT (fun b hb => f1 b (by omega) (by omega))) (frM_L f2)⟩
    · rw [cl_yes (by omega), am_bd, if_neg i10, hc.1.r1_11, hc.1.r1_0, hc.1.r1_10, e0, am_bd, e1, am_bd]
    · rw [am_bd, if_neg i10, e2, am_bd, ite_pair, sat_ans]
  · refine ⟨(-2, I, L), (-2, K), ?_, ?_, rfl, h⟩
    · rw [cl_no h2, am_bd, if_pos rfl]
    · rw [rM'.2 hx, am_bd, if_pos rfl]
/-! call 41 -/
theorem e_putCounts {r : Nat} {d m : Nat} (hm : m ≤ 31) {I : am_I} {L : am_L} (hd : d ≠ R r 2) : pX5_putCounts R I L r d (nI m) = some (am_upI (am_upI I r 0 2) r 1 (nI m), filL L (R r 2) 0 m (fun j => L d j)) := by
  unfold pX5_putCounts
  rw [am_let_e, am_let_e]
  have h1 : am_upI (am_upI I r 0 2) r 1 (nI m) r 1 = nI m := am_upI_s
  have := am_filL (fun n i L' => lX5_putCounts_12 R r d (am_upI (am_upI I r 0 2) r 1 (nI m)) n (nI i) L') m (R r 2) 0 (fun j => L d j) (fun L' => some (am_upI (am_upI I r 0 2) r 1 (nI m), L')) L (by omega) (fun n i L' hi hP _ => by
    simp only [lX5_putCounts_12, sX5_putCounts_12, h1, nIge hi (show m < 1000000 by omega), if_false, ng31 (show i < 31 by omega), inb (show i < 31 by omega) (show 31 < 1000000 by omega), am_ck_true, am_let_e, nIcl (show i < 1000000 by omega), hP d hd, Nat.zero_add, nI_1]) (fun n L' _ => by
    simp only [lX5_putCounts_12, sX5_putCounts_12, h1, nIle (show m < 1000000 by omega), if_true])
  exact this
theorem nlt_lt {a b : Nat} (h : a < b) (hb : b < 1000000) : ¬ nI b < nI a := nI_nlt (by omega) (by omega)
theorem st41 (h : Inv R I L J K) (x y : Int32) : ∃ r1 r2, pX10_keepCounts R I L 1 x y = some r1 ∧ pX11_keepCounts rM J K 1 x y = some r2 ∧ r1.1 = r2.1 ∧ Inv R r1.2.1 r1.2.2 r2.2.1 r2.2.2 := by
  have h' := h
  obtain ⟨A, w, sv, tx, wd, rs, sh, ok, hc, hm⟩ := h'
  have hA3 : isA I 2 (R 2 3) A := by rw [hc.1.r2_3]; exact hc.2.1
  unfold pX10_keepCounts pX11_keepCounts
  by_cases hx : inS 4 x
  · obtain ⟨k, hk, rfl⟩ := hx
    rw [sh_yes hc.1 hk, shM_yes hk, am_bd, am_bd, if_neg (n41 k), if_neg i10]
    have rM' := rngM (n := 30) (by omega) (x := y) (M := 30) rfl (hi := 30) (by decide)
    rcases rng (n := 30) (by omega) (x := y) (M := 30) rfl with hy | ⟨hy, h2⟩
    · rw [rM'.1 hy, am_bd, if_neg i10]
      obtain ⟨m, hm30, rfl⟩ := hy
      have c1 : ¬ nI m < 0 := nI_pos (by omega)
      have c2 : nI m ≤ (30 : Int32) := nI_le (a := m) (b := 30) (by omega) (by omega)
      rw [if_neg c1, if_pos c2, hc.1.r1_11, hc.1.r1_0, hc.1.r1_9, nI_1, am_jn_e]
      obtain ⟨L1, f0, alt⟩ := e_fillCounts (o := 19) hA3 ok.1 (by rw [hc.1.r19_0, hc.1.r19_1]; decide) (f := 15) (by rw [hc.1.r19_0]; decide) (by rw [hc.1.r19_1]; decide) L (m := m + 1) (by omega)
      rw [hc.1.r19_0, hc.1.r19_1] at f0
      -- the reference's first loop
      have key := am_forQ (fun n i K' => lX11_keepCounts_26 rM J 1 (nI k) (nI m) (fun J6 => am_ck (am_inb (nI k) 4) (am_let (am_upI J (rM 1 44) (Int32.toNatClampNeg (nI k)) (2 : Int32)) (fun J8 => am_ck (am_inb (nI k) 4) (am_let (am_upI J8 (rM 1 45) (Int32.toNatClampNeg (nI k)) (nI (m + 1))) (fun J10 => lX11_keepCounts_80 rM 1 (nI k) (nI m) J10 am_fu (0 : Int32) J6))))) n (nI i) K') (m + 1) (fun i K' => (∀ j, j < i → pths A j < 2 ^ 63 ∧ K' 31 j = lN (pths A j)) ∧ ∀ b, b ≠ 10 → b ≠ 11 → b ≠ 31 → K' b = K b)
        (fun r => (∃ j, j < m + 1 ∧ ¬ pths A j < 2 ^ 63) ∧ (∃ K', r = some (-6, J, K') ∧ ∀ b, b ≠ 10 → b ≠ 11 → b ≠ 31 → K' b = K b) ∨ (∀ j, j < m + 1 → pths A j < 2 ^ 63) ∧ ∃ K', r = some (nI (m + 1), am_upI (am_upI J 28 k 2) 29 k (nI (m + 1)), K') ∧ (∀ j, j < m + 1 → K' 30 (31 * k + j) = lN (pths A j)) ∧ (∀ j, j < 31 * k ∨ 31 * k + (m + 1) ≤ j → K' 30 j = K 30 j) ∧ ∀ b, b ≠ 10 → b ≠ 11 → b ≠ 31 → b ≠ 30 → K' b = K b) (by omega) (fun n i K' hi hP => by
          obtain ⟨p1, p2⟩ := hP
          obtain ⟨K2, e2, g2⟩ := e_pathsOfM hm.1 ok.1 K' (k := i) (by omega)
          have hlt : ¬ nI m < nI i := nI_nlt (by omega) (by omega)
          by_cases hs : pths A i < 2 ^ 63
          · left
            have hge : 0 ≤ lg_cmp (sat (-1) (pths A i)) 0 := am_cmp_ge.mpr (fun q => (sat_neg (by decide) _).mp q hs)
            refine ⟨am_upL K2 31 i (sat (-1) (pths A i)), ?_, fun j hj => ?_, fun b x y z => by rw [am_upL_n z, g2 b x y]; exact p2 b x y z⟩
            · simp only [lX11_keepCounts_26, sX11_keepCounts_26, hlt, if_false, e2, am_bd, inb (show i < 31 by omega) (show 31 < 1000000 by omega), am_ck_true, am_let_e, nIcl (show i < 1000000 by omega), rM47, am_upL_s, hge, if_true, nI_1]
            · by_cases q : j = i
              · subst q; rw [am_upL_s]; exact ⟨hs, sat_lt hs⟩
              · rw [am_upL_o q, g2 31 (by decide) (by decide)]; exact p1 j (by omega)
          · right; left
            have hge : ¬ 0 ≤ lg_cmp (sat (-1) (pths A i)) 0 := fun q => am_cmp_ge.mp q ((sat_neg (by decide) _).mpr hs)
            refine ⟨⟨i, hi, hs⟩, am_upL K2 31 i (sat (-1) (pths A i)), ?_, fun b x y z => by rw [am_upL_n z, g2 b x y]; exact p2 b x y z⟩
            simp only [lX11_keepCounts_26, sX11_keepCounts_26, hlt, if_false, e2, am_bd, inb (show i < 31 by omega) (show 31 < 1000000 by omega), am_ck_true, am_let_e, nIcl (show i < 1000000 by omega), rM47, am_upL_s, hge]) (fun n K' hP => by
          right
          obtain ⟨p1, p2⟩ := hP
          have hlt : nI m < nI (m + 1) := nI_lt (by omega) (by omega)
          refine ⟨fun j hj => (p1 j hj).1, filL K' 30 (31 * k) (m + 1) (fun j => K' 31 j), ?_, fun j hj => ?_, fun j hj => ?_, fun b x y z t => ?_⟩
          · have e80 := am_filL (fun n i K => lX11_keepCounts_80 rM 1 (nI k) (nI m) (am_upI (am_upI J 28 k 2) 29 k (nI (m + 1))) n (nI i) K) (m + 1) 30 (31 * k) (fun j => K' 31 j) (fun K => some (nI (m + 1), am_upI (am_upI J 28 k 2) 29 k (nI (m + 1)), K)) K' (by omega) (fun n i K2 hi hP _ => by
              have hlt : ¬ nI m < nI i := nI_nlt (by omega) (by omega)
              simp only [lX11_keepCounts_80, sX11_keepCounts_80, hlt, if_false, inb (show i < 31 by omega) (show 31 < 1000000 by omega), ix31, inb (show 31 * k + i < 124 by omega) (show 124 < 1000000 by omega), am_ck_true, am_let_e, nIcl (show i < 1000000 by omega), nIcl (show 31 * k + i < 1000000 by omega), rM46, rM47, hP 31 (by decide), nI_1]) (fun n K2 _ => by
              simp only [lX11_keepCounts_80, sX11_keepCounts_80, hlt, if_true, nI_1])
            simp only [lX11_keepCounts_26, sX11_keepCounts_26, hlt, if_true, inb hk (show 4 < 1000000 by omega), am_ck_true, am_let_e, nIcl (show k < 1000000 by omega), rM44, rM45]
            exact e80
          · rw [filL_in hj]; exact (p1 j hj).2
          · rw [filL_out hj, p2 30 (by decide) (by decide) (by decide)]
          · rw [filL_ne t]; exact p2 b x y z) K ⟨fun j hj => absurd hj (Nat.not_lt_zero j), fun _ _ _ _ => rfl⟩
      have e41 : Option.bind (pX1_fillCounts R I L 19 2 15 (nI (m + 1))) (fun r10 => if r10.1 = 0 then some ((-6 : Int32), I, r10.2) else Option.bind (pX5_putCounts R I r10.2 (41 + 2 * k) 15 (nI (m + 1))) (fun r13 => some (nI (m + 1), r13.1, r13.2))) = (if (∀ j, j < m + 1 → pths A j < 2 ^ 63) then some (nI (m + 1), am_upI (am_upI I (41 + 2 * k) 0 2) (41 + 2 * k) 1 (nI (m + 1)), filL L1 (42 + 2 * k) 0 (m + 1) (fun j => L1 15 j)) else some (-6, I, L1)) := by
        rcases alt with ⟨e1, a1⟩ | ⟨e1, j, a1, a2⟩
        · rw [if_pos (fun j hj => (a1 j hj).1), e1, am_bd, if_neg i10, e_putCounts (show m + 1 ≤ 31 by omega) (by rw [(hc.1.sh hk).2]; omega), am_bd, (hc.1.sh hk).2]
        · rw [if_neg (fun q => a2 (q j a1)), e1, am_bd, if_pos rfl]
      rw [e41]
      have key2 : _ ∨ _ := key
      rcases key2 with ⟨⟨j, hj, hj2⟩, K', e2, g2⟩ | ⟨hall, K', e2, g2, g3, g4⟩
      · have e2 : lX11_keepCounts_26 rM J 1 (nI k) (nI m) (fun J6 => am_ck (am_inb (nI k) 4) (am_let (am_upI J (rM 1 44) (Int32.toNatClampNeg (nI k)) (2 : Int32)) (fun J8 => am_ck (am_inb (nI k) 4) (am_let (am_upI J8 (rM 1 45) (Int32.toNatClampNeg (nI k)) (nI (m + 1))) (fun J10 => lX11_keepCounts_80 rM 1 (nI k) (nI m) J10 am_fu (0 : Int32) J6))))) am_fu (nI 0) K = some (-6, J, K') := e2
        rw [nI_0] at e2
        refine st3V (v := -6) (I' := I) (L' := L1) (J' := J) (K' := K') ?_ e2 (h.fr (frC_L hc.1 (fun b hb => f0 b (by omega) (by omega) (by omega))) ⟨fun _ _ => rfl, fun _ _ => rfl, g2 1 (by decide) (by decide) (by decide), g2 26 (by decide) (by decide) (by decide), g2 30 (by decide) (by decide) (by decide)⟩)
        rw [if_neg (fun q => hj2 (q j hj))]
      · have e2 : lX11_keepCounts_26 rM J 1 (nI k) (nI m) (fun J6 => am_ck (am_inb (nI k) 4) (am_let (am_upI J (rM 1 44) (Int32.toNatClampNeg (nI k)) (2 : Int32)) (fun J8 => am_ck (am_inb (nI k) 4) (am_let (am_upI J8 (rM 1 45) (Int32.toNatClampNeg (nI k)) (nI (m + 1))) (fun J10 => lX11_keepCounts_80 rM 1 (nI k) (nI m) J10 am_fu (0 : Int32) J6))))) am_fu (nI 0) K = some (nI (m + 1), am_upI (am_upI J 28 k 2) 29 k (nI (m + 1)), K') := e2
        rw [nI_0] at e2
        rw [if_pos hall]
        rcases alt with ⟨e1, a1⟩ | ⟨e1, j, a1, a2⟩
        · generalize hI2 : am_upI (am_upI I (41 + 2 * k) 0 2) (41 + 2 * k) 1 (nI (m + 1)) = I2
          have i0 : I2 (41 + 2 * k) 0 = nI 2 := by rw [← hI2, am_upI_o (by decide), am_upI_s]; rfl
          have i1 : I2 (41 + 2 * k) 1 = nI (m + 1) := by rw [← hI2, am_upI_s]
          have io : ∀ b, b ≠ 41 + 2 * k → I2 b = I b := fun b hb => by rw [← hI2, am_upI_ne hb, am_upI_ne hb]
          generalize hJ2 : am_upI (am_upI J 28 k 2) 29 k (nI (m + 1)) = J2 at e2
          have jo : ∀ b, b ≠ 28 → b ≠ 29 → J2 b = J b := fun b hb hb2 => by rw [← hJ2, am_upI_ne hb2, am_upI_ne hb]
          refine st3V (v := nI (m + 1)) (I' := I2) (L' := filL L1 (42 + 2 * k) 0 (m + 1) (fun j => L1 15 j)) (J' := J2) (K' := K') rfl e2 ⟨A, w, sv, tx, wd, rs, setSh sh k (2, m + 1, fun j => lN (pths A j)), ok_setSh ok ⟨by show 2 ≤ 2; omega, by show m + 1 ≤ 31; omega, fun q => absurd (show (2 : Nat) = 1 from q) (by decide)⟩, hc.shelf (cH_set hc.2.2.2.2.2.2.2.1 _ i0 i1 (fun j hj => by rw [filL_at hj]; exact (a1 j hj).2) io (fun b hb h40 => by rw [filL_ne hb]; exact f0 b (by omega) (by omega) (by omega))) (fun b hb => io b (by omega)) (fun b h33 hb => by rw [filL_ne (by omega)]; exact f0 b (by omega) (by omega) (by omega)), hm.shelf (mH_set hm.2.2.2.2.2.2.1 hk _ (by show m + 1 ≤ 31; omega) (by rw [← hJ2, am_upI_ne (by decide), am_upI_s]; rfl) (by rw [← hJ2, am_upI_s]) (fun j hj => g2 j hj) (fun j hj => by rw [← hJ2, am_upI_ne (show (28 : Nat) ≠ 29 by decide), am_upI_o hj, am_upI_o hj, am_upI_ne (show (29 : Nat) ≠ 28 by decide)]; exact ⟨rfl, rfl⟩) (fun j hj => g3 j hj) (fun k hk => (ok.2.2.2.2.2.2 k hk).2.1)) jo ⟨g4 1 (by decide) (by decide) (by decide) (by decide), g4 26 (by decide) (by decide) (by decide) (by decide)⟩⟩
        · exact absurd (hall j a1) a2
    · refine st3V (v := -2) (I' := I) (L' := L) (J' := J) (K' := K) ?_ ?_ h
      · rcases h2 with h2 | ⟨h2, h3⟩
        · rw [if_pos h2]
        · rw [if_neg h2, if_neg h3]
      · rw [rM'.2 hy, am_bd, if_pos rfl]
  · refine st3V (v := -1) (I' := I) (L' := L) (J' := J) (K' := K) ?_ ?_ h
    · rw [sh_no R hx, am_bd, if_pos rfl]
    · rw [shM_no hx, am_bd, if_pos rfl]
end
