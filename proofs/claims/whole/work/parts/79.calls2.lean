/-! shelves, results, saving -/
section
variable {R : am_R} {I : am_I} {L : am_L} {J : am_I} {K : am_L}
theorem okC.sh (h : okC R) {k : Nat} (hk : k < 4) : R (R 1 8) k = 41 + 2 * k ∧ R (41 + 2 * k) 2 = 42 + 2 * k := by
  rw [h.r1_8]
  have : k = 0 ∨ k = 1 ∨ k = 2 ∨ k = 3 := by omega
  rcases this with rfl | rfl | rfl | rfl
  · exact ⟨h.r14_0, h.r41_2⟩
  · exact ⟨h.r14_1, h.r43_2⟩
  · exact ⟨h.r14_2, h.r45_2⟩
  · exact ⟨h.r14_3, h.r47_2⟩
theorem sh_no (R : am_R) {x : Int32} (h : ¬ inS 4 x) : pX10_shelfAt R 1 x = some 0 := by
  unfold pX10_shelfAt
  by_cases h1 : x < 0
  · rw [if_pos h1]
  · have h2 : (4 : Int32) ≤ x := (inS_no (n := 4) (by omega) h).resolve_left h1
    rw [if_neg h1, if_pos h2]
theorem sh_yes (h : okC R) {k : Nat} (hk : k < 4) : pX10_shelfAt R 1 (nI k) = some (41 + 2 * k) := by
  unfold pX10_shelfAt
  have h2 : ¬ (4 : Int32) ≤ nI k := nI_ge (b := 4) hk (by omega)
  rw [if_neg (nI_pos (by omega)), if_neg h2, inb hk (by omega), am_ck_true, nIcl (by omega), (h.sh hk).1]
theorem shM_no {x : Int32} (h : ¬ inS 4 x) : pX11_isShelf x = some 0 := by
  unfold pX11_isShelf
  by_cases h1 : x < 0
  · rw [if_pos h1]
  · have h2 : (4 : Int32) ≤ x := (inS_no (n := 4) (by omega) h).resolve_left h1
    rw [if_neg h1, if_pos h2]
theorem shM_yes {k : Nat} (hk : k < 4) : pX11_isShelf (nI k) = some 1 := by
  unfold pX11_isShelf
  have h2 : ¬ (4 : Int32) ≤ nI k := nI_ge (b := 4) hk (by omega)
  rw [if_neg (nI_pos (by omega)), if_neg h2]
theorem n41 (k : Nat) : ¬ 41 + 2 * k = 0 := by omega
/-- a shelf is written -/
theorem InvC.shelf {A : am_Au} {w : Nat → Nat} {sv : am_Sv} {tx wd : am_Tx} {rs : Option am_Rs} {sh sh' : Nat → am_Sf} (h : InvC R I L A w sv tx wd rs sh) {I' : am_I} {L' : am_L} (hH : cH I' L' sh') (hf : ∀ b, b < 41 → I' b = I b) (hL : ∀ b, 33 ≤ b → b < 41 → L' b = L b) : InvC R I' L' A w sv tx wd rs sh' := by
  obtain ⟨h0, h1, h2, h3, h4, h5, h6, h7, h8⟩ := h
  have hr : 33 ≤ R 1 15 ∧ R 1 15 < 41 ∧ 33 ≤ R (R 1 15) 3 ∧ R (R 1 15) 3 < 41 := by
    rcases h0.2.1 with ⟨q, _⟩ | ⟨q, _⟩
    · rw [q, h0.r33_3]; decide
    · rw [q, h0.r37_3]; decide
  exact ⟨h0, h1.kept (hf 2 (by omega)) (hf 3 (by omega)), h2.kept (hf 6 (by omega)), h3.kept (by rw [hf 1 (by omega)]) (hf 4 (by omega)) (hf 5 (by omega)) (hf 7 (by omega)), h4.kept (hf 8 (by omega)) (hf 9 (by omega)), h5.kept (hf 10 (by omega)) (hf 11 (by omega)), h6.kept (by rw [hf 1 (by omega)]) (hf _ hr.2.1) (hL _ hr.1 hr.2.1) (hL _ hr.2.2.1 hr.2.2.2), hH, h8.kept (hf 17 (by omega)) (hf 18 (by omega)) (hf 26 (by omega)) (hf 27 (by omega))⟩
theorem InvM.shelf {A : am_Au} {w : Nat → Nat} {sv : am_Sv} {tx wd : am_Tx} {rs : Option am_Rs} {sh sh' : Nat → am_Sf} (h : InvM J K A w sv tx wd rs sh) {J' : am_I} {K' : am_L} (hH : mH J' K' sh') (hf : ∀ b, b ≠ 28 → b ≠ 29 → J' b = J b) (hL : K' 1 = K 1 ∧ K' 26 = K 26) : InvM J' K' A w sv tx wd rs sh' := by
  obtain ⟨h1, h2, h3, h4, h5, h6, h7, h8⟩ := h
  have hf : ∀ b, b < 28 ∨ b = 32 → J' b = J b := fun b hb => hf b (by omega) (by omega)
  exact ⟨h1.kept (fun k _ _ => by rw [hf 1 (by omega)]) (hf 2 (by omega)), h2.kept (hf 4 (by omega)), h3.kept (by rw [hf 1 (by omega)]) (hf 32 (by omega)), h4.kept (by rw [hf 1 (by omega)]) (hf 7 (by omega)), h5.kept (by rw [hf 1 (by omega)]) (hf 9 (by omega)), h6.kept (by rw [hf 1 (by omega)]) hL.1 hL.2, hH, h8.kept (by rw [hf 1 (by omega)]) (fun k _ _ => by rw [hf 1 (by omega)]) (hf 17 (by omega))⟩
def setSh (sh : Nat → am_Sf) (k : Nat) (f : am_Sf) : Nat → am_Sf := fun k' => if k' = k then f else sh k'
theorem setSh_s (sh : Nat → am_Sf) (k : Nat) (f : am_Sf) : setSh sh k f k = f := if_pos rfl
theorem setSh_o {sh : Nat → am_Sf} {k k' : Nat} {f : am_Sf} (h : k' ≠ k) : setSh sh k f k' = sh k' := if_neg h
theorem ok_setSh {A : am_Au} {w : Nat → Nat} {sv : am_Sv} {tx wd : am_Tx} {rs : Option am_Rs} {sh : Nat → am_Sf} {k : Nat} {f : am_Sf} (ok : okS A w sv tx wd rs sh) (h : f.1 ≤ 2 ∧ f.2.1 ≤ 31 ∧ (f.1 = 1 → f.2.1 ≤ 20 ∧ ∀ j, j < f.2.1 → ∃ v, v < 3 ∧ f.2.2 j = lN v)) : okS A w sv tx wd rs (setSh sh k f) := by
  refine ⟨ok.1, ok.2.1, ok.2.2.1, ok.2.2.2.1, ok.2.2.2.2.1, ok.2.2.2.2.2.1, fun k' hk' => ?_⟩
  by_cases q : k' = k
  · subst q; rw [setSh_s]; exact h
  · rw [setSh_o q]; exact ok.2.2.2.2.2.2 k' hk'
theorem cH_set {I' : am_I} {L' : am_L} {sh : Nat → am_Sf} (h : cH I L sh) {k : Nat} (f : am_Sf) (e0 : I' (41 + 2 * k) 0 = nI f.1) (e1 : I' (41 + 2 * k) 1 = nI f.2.1) (e2 : ∀ j, j < f.2.1 → L' (42 + 2 * k) j = f.2.2 j) (hf : ∀ b, b ≠ 41 + 2 * k → I' b = I b) (hL : ∀ b, b ≠ 42 + 2 * k → 40 < b → L' b = L b) : cH I' L' (setSh sh k f) := fun k' hk' => by
  by_cases q : k' = k
  · subst q; rw [setSh_s]; exact ⟨e0, fun _ => ⟨e1, e2⟩⟩
  · rw [setSh_o q, hf _ (by omega), hL _ (by omega) (by omega)]; exact h k' hk'
theorem mH_set {J' : am_I} {K' : am_L} {sh : Nat → am_Sf} (h : mH J K sh) {k : Nat} (hk : k < 4) (f : am_Sf) (hn : f.2.1 ≤ 31) (e0 : J' 28 k = nI f.1) (e1 : J' 29 k = nI f.2.1) (e2 : ∀ j, j < f.2.1 → K' 30 (31 * k + j) = f.2.2 j) (hf : ∀ j, j ≠ k → J' 28 j = J 28 j ∧ J' 29 j = J 29 j) (hL : ∀ j, (j < 31 * k ∨ 31 * k + f.2.1 ≤ j) → K' 30 j = K 30 j) (hsh : ∀ k, k < 4 → (sh k).2.1 ≤ 31) : mH J' K' (setSh sh k f) := fun k' hk' => by
  by_cases q : k' = k
  · subst q; rw [setSh_s]; exact ⟨e0, fun _ => ⟨e1, e2⟩⟩
  · rw [setSh_o q, (hf k' q).1, (hf k' q).2]
    obtain ⟨h1, h2⟩ := h k' hk'
    refine ⟨h1, fun h0 => ⟨(h2 h0).1, fun j hj => ?_⟩⟩
    have := hsh k' hk'
    rw [hL _ (by omega)]; exact (h2 h0).2 j hj
theorem st3V {I' : am_I} {L' : am_L} {J' : am_I} {K' : am_L} {p q : Option (Int32 × am_I × am_L)} {v : Int32} (e1 : p = some (v, I', L')) (e2 : q = some (v, J', K')) (h : Inv R I' L' J' K') : ∃ r1 r2, p = some r1 ∧ q = some r2 ∧ r1.1 = r2.1 ∧ Inv R r1.2.1 r1.2.2 r2.2.1 r2.2.2 := ⟨_, _, e1, e2, rfl, h⟩
theorem ix31 (a i : Nat) : (31 : Int32) * nI a + nI i = nI (31 * a + i) := by rw [show (31 : Int32) = nI 31 from rfl, pk_mul, nI_add]
theorem st40 (h : Inv R I L J K) (x : Int32) : ∃ r1 r2, pX10_keepWord R I L 1 x = some r1 ∧ pX11_keepWord rM J K 1 x = some r2 ∧ r1.1 = r2.1 ∧ Inv R r1.2.1 r1.2.2 r2.2.1 r2.2.2 := by
  obtain ⟨A, w, sv, tx, wd, rs, sh, ok, hc, hm⟩ := h
  obtain ⟨n, c⟩ := wd
  have hU := hc.2.2.2.2.2.1
  have hMU := hm.2.2.2.2.1
  obtain ⟨t1, t2⟩ := ok.2.2.2.2.1
  have t1 : n ≤ 20 := t1
  have t2 : ∀ j, c j < 3 := t2
  have hU0 : I 10 0 = nI n := hU.1
  have hM0 : J 1 16 = nI n := hMU.1
  unfold pX10_keepWord pX11_keepWord
  by_cases hx : inS 4 x
  · obtain ⟨k, hk, rfl⟩ := hx
    rw [sh_yes hc.1 hk, shM_yes hk, am_bd, am_bd, if_neg (n41 k), if_neg i10]
    simp only [inb hk (show 4 < 1000000 by omega), am_ck_true, am_let_e, hc.1.r1_6, nIcl (show k < 1000000 by omega), rM44, rM45]
    generalize hI2 : am_upI (am_upI I (41 + 2 * k) 0 1) (41 + 2 * k) 1 (nI n) = I2
    have i0 : I2 (41 + 2 * k) 0 = nI 1 := by rw [← hI2, am_upI_o (by decide), am_upI_s]; rfl
    have i1 : I2 (41 + 2 * k) 1 = nI n := by rw [← hI2, am_upI_s]
    have io : ∀ b, b ≠ 41 + 2 * k → I2 b = I b := fun b hb => by rw [← hI2, am_upI_ne hb, am_upI_ne hb]
    have iU0 : I2 10 0 = nI n := by rw [io 10 (by omega)]; exact hU0
    obtain ⟨L', e1, f1, f2, f3⟩ := am_fillL (fun q i L => lX5_putWord_15 R (41 + 2 * k) 10 I2 q (nI i) L) n (42 + 2 * k) 0 (fun j => lN (c j)) (fun L => some (I2, L)) L (by omega) (fun q i L hi _ _ => by
        simp only [lX5_putWord_15, sX5_putWord_15, i1, nIge hi (show n < 1000000 by omega), if_false, ng31 (show i < 31 by omega), e_letterAt iU0 (show n ≤ 216 by omega) hi, am_bd, inb (show i < 31 by omega) (show 31 < 1000000 by omega), am_ck_true, am_let_e, nIcl (show i < 1000000 by omega), (hc.1.sh hk).2, hc.1.r10_1, io 11 (by omega), nI_1, Nat.zero_add]
        rw [show I 11 i = nI (c i) from hU.2 i hi, nI_l (by have := t2 i; omega)]) (fun q L _ => by
        simp only [lX5_putWord_15, sX5_putWord_15, i1, nIle (show n < 1000000 by omega), if_true]) 
    generalize hJ2 : am_upI (am_upI J 28 k 1) 29 k (nI n) = J2
    have j16 : J2 1 16 = nI n := by rw [← hJ2, am_upI_ne (by decide), am_upI_ne (by decide)]; exact hM0
    have j9 : J2 9 = J 9 := by rw [← hJ2, am_upI_ne (by decide), am_upI_ne (by decide)]
    obtain ⟨K', e2, g1, g2, g3⟩ := am_fillL (fun q i K => lX11_keepWord_28 rM 1 (nI k) J2 q (nI i) K) n 30 (31 * k) (fun j => lN (c j)) (fun K => some (nI n, J2, K)) K (by omega) (fun q i K hi _ _ => by
        simp only [lX11_keepWord_28, sX11_keepWord_28, j16, nIge hi (show n < 1000000 by omega), if_false, inb (show i < 20 by omega) (show 20 < 1000000 by omega), ix31, inb (show 31 * k + i < 124 by omega) (show 124 < 1000000 by omega), am_ck_true, am_let_e, nIcl (show i < 1000000 by omega), nIcl (show 31 * k + i < 1000000 by omega), rM15, rM46, j9, nI_1]
        rw [show J 9 i = nI (c i) from hMU.2 i hi, nI_l (by have := t2 i; omega)]) (fun q K _ => by
        simp only [lX11_keepWord_28, sX11_keepWord_28, j16, nIle (show n < 1000000 by omega), if_true])
    refine st3V (v := nI n) (I' := I2) (L' := L') (J' := J2) (K' := K') ?_ ?_ ⟨A, w, sv, tx, (n, c), rs, setSh sh k (1, n, fun j => lN (c j)), ok_setSh ok ⟨by show 1 ≤ 2; omega, by show n ≤ 31; omega, fun _ => ⟨t1, fun j _ => ⟨c j, t2 j, rfl⟩⟩⟩, hc.shelf (cH_set hc.2.2.2.2.2.2.2.1 _ i0 i1 (fun j hj => by have := f2 j hj; rwa [Nat.zero_add] at this) io (fun b hb _ => f1 b hb)) (fun b hb => io b (by omega)) (fun b _ hb => f1 b (by omega)), hm.shelf (mH_set hm.2.2.2.2.2.2.1 hk _ (by show n ≤ 31; omega) ?_ ?_ (fun j hj => g2 j hj) (fun j hj => ?_) (fun j hj => g3 j hj) (fun k hk => (ok.2.2.2.2.2.2 k hk).2.1)) (fun b hb hb2 => ?_) ⟨g1 1 (by decide), g1 26 (by decide)⟩⟩
    · unfold pX5_putWord
      have e1 : lX5_putWord_15 R (41 + 2 * k) 10 I2 am_fu (nI 0) L = some (I2, L') := e1
      rw [nI_0] at e1
      rw [am_let_e, am_let_e, am_upI_ne (show (10 : Nat) ≠ 41 + 2 * k by omega), hU0, hI2, e1, am_bd]
      show some (I2 10 0, I2, L') = _
      rw [iU0]
    · have e2 : lX11_keepWord_28 rM 1 (nI k) J2 am_fu (nI 0) K = some (nI n, J2, K') := e2
      rw [nI_0] at e2
      rw [am_upI_ne (show (1 : Nat) ≠ 28 by decide), hM0, hJ2, e2]
    · rw [← hJ2, am_upI_ne (by decide), am_upI_s]; rfl
    · rw [← hJ2, am_upI_s]
    · rw [← hJ2, am_upI_ne (show (28 : Nat) ≠ 29 by decide), am_upI_o hj, am_upI_o hj, am_upI_ne (show (29 : Nat) ≠ 28 by decide)]; exact ⟨rfl, rfl⟩
    · rw [← hJ2, am_upI_ne hb2, am_upI_ne hb]
  · refine st3V (v := -1) (I' := I) (L' := L) (J' := J) (K' := K) ?_ ?_ ⟨A, w, sv, tx, (n, c), rs, sh, ok, hc, hm⟩
    · rw [sh_no R hx, am_bd, if_pos rfl]
    · rw [shM_no hx, am_bd, if_pos rfl]
theorem st42 (h : Inv R I L J K) (x : Int32) : ∃ r1 r2, pX10_useWord R I L 1 x = some r1 ∧ pX11_useWord rM J K 1 x = some r2 ∧ r1.1 = r2.1 ∧ Inv R r1.2 L r2.2 K := by
  obtain ⟨A, w, sv, tx, wd, rs, sh, ok, hc, hm⟩ := h
  unfold pX10_useWord pX11_useWord
  by_cases hx : inS 4 x
  · obtain ⟨k, hk, rfl⟩ := hx
    obtain ⟨o1, o2, o3⟩ := ok.2.2.2.2.2.2 k hk
    obtain ⟨a1, a2⟩ := hc.2.2.2.2.2.2.2.1 k hk
    obtain ⟨b1, b2⟩ := hm.2.2.2.2.2.2.1 k hk
    rw [sh_yes hc.1 hk, shM_yes hk, am_bd, am_bd, if_neg (n41 k), if_neg i10]
    simp only [inb hk (show 4 < 1000000 by omega), am_ck_true, hc.1.r1_6, nIcl (show k < 1000000 by omega), rM44, rM45, a1, b1]
    by_cases h0 : (sh k).1 = 0
    · refine stI (v := -7) (I' := I) (J' := J) ?_ ?_ ⟨A, w, sv, tx, wd, rs, sh, ok, hc, hm⟩
      · rw [h0, if_pos nI_0]
      · rw [h0, if_pos nI_0]
    · have n0 : ¬ nI (sh k).1 = 0 := nI_ne0 (by omega) (by omega)
      by_cases h1 : (sh k).1 = 1
      · obtain ⟨c1, c2⟩ := o3 h1
        have n1 : nI (sh k).1 = 1 := by rw [h1]; rfl
        have n2 : ¬ nI (sh k).1 = 2 := by rw [h1]; decide
        obtain ⟨a3, a4⟩ := a2 h0
        obtain ⟨b3, b4⟩ := b2 h0
        generalize hn : (sh k).2.1 = n at a3 a4 b3 b4 c1 c2
        have hv : ∃ c : Nat → Nat, (∀ j, c j < 3) ∧ ∀ j, j < n → (sh k).2.2 j = lN (c j) := by
          refine ⟨fun j => if h : j < n then Classical.choose (c2 j h) else 0, fun j => ?_, fun j hj => ?_⟩
          · by_cases h : j < n
            · simp only [dif_pos h]; exact (Classical.choose_spec (c2 j h)).1
            · simp only [dif_neg h]; omega
          · simp only [dif_pos hj]; exact (Classical.choose_spec (c2 j hj)).2
        obtain ⟨c, hc3, hcv⟩ := hv
        have key := am_for0 (fun q i J => lX5_copyWordTo_7 R L (41 + 2 * k) 10 q (nI i) J) n (fun i I' => I' 10 0 = nI i ∧ (∀ j, j < i → I' 11 j = nI (c j)) ∧ ∀ b, b ≠ 10 → b ≠ 11 → I' b = I b) (fun J => some J) (by omega) (fun q i J hi hP => ⟨am_upI (am_upI J 10 0 (nI (i + 1))) 11 i (nI (c i)), by
            have hl : J (41 + 2 * k) 1 = nI n := by rw [hP.2.2 _ (by omega) (by omega)]; exact a3
            have he : pX5_elementAt R J L (41 + 2 * k) (nI i) = some (lN (c i)) := by
              unfold pX5_elementAt pX5_hasPosition
              rw [if_neg (nI_pos (by omega)), hl, if_neg (nIge hi (by omega)), if_neg (ng31 (by omega)), am_bd, if_neg i10, inb (show i < 31 by omega) (by omega), am_ck_true, nIcl (by omega), (hc.1.sh hk).2, a4 i hi, hcv i hi]
            simp only [lX5_copyWordTo_7, sX5_copyWordTo_7, hl, nIge hi (show n < 1000000 by omega), if_false, he, am_bd, lN_i, e_add8 hP.1 (show i < 216 by omega), hc.1.r10_1, nI_1], ⟨by rw [am_upI_ne (by decide), am_upI_s], fun j hj => by
              by_cases q : j = i
              · subst q; exact am_upI_s
              · rw [am_upI_o q, am_upI_ne (by decide)]; exact hP.2.1 j (by omega), fun b x y => by rw [am_upI_ne y, am_upI_ne x]; exact hP.2.2 b x y⟩⟩) (fun q J hP => by
            have hl : J (41 + 2 * k) 1 = nI n := by rw [hP.2.2 _ (by omega) (by omega)]; exact a3
            simp only [lX5_copyWordTo_7, sX5_copyWordTo_7, hl, nIle (show n < 1000000 by omega), if_true]) (am_upI I 10 0 0) ⟨by rw [am_upI_s]; rfl, fun j hj => absurd hj (Nat.not_lt_zero j), fun b x _ => am_upI_ne x⟩
        obtain ⟨I', e1, f1, f2, f3⟩ := key
        have e1 : lX5_copyWordTo_7 R L (41 + 2 * k) 10 am_fu (nI 0) (am_upI I 10 0 0) = some I' := e1
        rw [nI_0] at e1
        obtain ⟨J', e2, g1, g2, g3⟩ := am_fillI (fun q i J => lX11_useWord_46 rM K 1 (nI k) q (nI i) J) n 9 0 (fun j => nI (c j)) (fun J => some (nI n, J)) (am_upI J 1 16 (nI n)) (by omega) (fun q i J' hi hP _ => by
            have hl : J' 1 16 = nI n := by rw [hP 1 (by decide), am_upI_s]
            simp only [lX11_useWord_46, sX11_useWord_46, hl, nIge hi (show n < 1000000 by omega), if_false, ix31, inb (show 31 * k + i < 124 by omega) (show 124 < 1000000 by omega), inb (show i < 20 by omega) (show 20 < 1000000 by omega), am_ck_true, am_let_e, nIcl (show i < 1000000 by omega), nIcl (show 31 * k + i < 1000000 by omega), rM15, rM46, b4 i hi, hcv i hi, lN_i, nI_1, Nat.zero_add]) (fun q J' hP => by
            have hl : J' 1 16 = nI n := by rw [hP 1 (by decide), am_upI_s]
            simp only [lX11_useWord_46, sX11_useWord_46, hl, nIle (show n < 1000000 by omega), if_true])
        have e2 : lX11_useWord_46 rM K 1 (nI k) am_fu (nI 0) (am_upI J 1 16 (nI n)) = some (nI n, J') := e2
        rw [nI_0] at e2
        refine stI (v := nI n) (I' := I') (J' := J') ?_ ?_ ⟨A, w, sv, tx, (n, c), rs, sh, ⟨ok.1, ok.2.1, ok.2.2.1, ok.2.2.2.1, ⟨c1, hc3⟩, ok.2.2.2.2.2⟩, hc.word ⟨f1, f2⟩ (fun b x y _ _ => f3 b x y), hm.word ⟨?_, fun j hj => ?_⟩ (fun b x y => ?_) (fun q x y => ?_)⟩
        · rw [if_neg n0, if_pos n1]
          unfold pX5_copyWordTo
          rw [am_let_e, e1, am_bd, f1]
        · rw [if_neg n0, if_neg n2, am_let_e, b3, e2]
        · rw [g1 1 (by decide), am_upI_s]
        · have := g2 j hj; rwa [Nat.zero_add] at this
        · rw [g1 b x, am_upI_ne (fun q => by subst q; cases y)]
        · rw [g1 1 (by decide), am_upI_o x]
      · have h2 : (sh k).1 = 2 := by omega
        have n1 : ¬ nI (sh k).1 = 1 := by rw [h2]; decide
        have n2 : nI (sh k).1 = 2 := by rw [h2]; rfl
        refine stI (v := -8) (I' := I) (J' := J) ?_ ?_ ⟨A, w, sv, tx, wd, rs, sh, ok, hc, hm⟩
        · rw [if_neg n0, if_neg n1]
        · rw [if_neg n0, if_pos n2]
  · refine stI (v := -1) (I' := I) (J' := J) ?_ ?_ ⟨A, w, sv, tx, wd, rs, sh, ok, hc, hm⟩
    · rw [sh_no R hx, am_bd, if_pos rfl]
    · rw [shM_no hx, am_bd, if_pos rfl]
theorem st43 (h : Inv R I L J K) (x y : Int32) : ∃ r1 r2, pX10_shelfElement R I L 1 x y = some r1 ∧ pX11_shelfElement rM J K 1 x y = some r2 ∧ r1 = r2 := by
  obtain ⟨A, w, sv, tx, wd, rs, sh, ok, hc, hm⟩ := h
  unfold pX10_shelfElement pX11_shelfElement
  by_cases hx : inS 4 x
  · obtain ⟨k, hk, rfl⟩ := hx
    obtain ⟨o1, o2, o3⟩ := ok.2.2.2.2.2.2 k hk
    obtain ⟨a1, a2⟩ := hc.2.2.2.2.2.2.2.1 k hk
    obtain ⟨b1, b2⟩ := hm.2.2.2.2.2.2.1 k hk
    rw [sh_yes hc.1 hk, shM_yes hk, am_bd, am_bd, if_neg (n41 k), if_neg i10]
    simp only [inb hk (show 4 < 1000000 by omega), am_ck_true, nIcl (show k < 1000000 by omega), rM44, rM45, a1, b1]
    by_cases h0 : (sh k).1 = 0
    · refine ⟨-7, -7, ?_, ?_, rfl⟩
      · rw [h0, if_pos nI_0]
      · rw [h0, if_pos nI_0]
    · have n0 : ¬ nI (sh k).1 = 0 := nI_ne0 (by omega) (by omega)
      obtain ⟨a3, a4⟩ := a2 h0
      obtain ⟨b3, b4⟩ := b2 h0
      rw [if_neg n0, if_neg n0, b3]
      by_cases hy : inS (sh k).2.1 y
      · rw [show pX11_isBetween (Int32.toInt64 y) (0 : Int64) (Int32.toInt64 (nI (sh k).2.1 - 1)) = some 1 by obtain ⟨j, hj, e⟩ := hy; rw [e]; exact btw_yes (by omega) hj]
        obtain ⟨j, hj, rfl⟩ := hy
        have hh : pX5_hasPosition R I (41 + 2 * k) (nI j) = some 1 := by
          unfold pX5_hasPosition
          rw [if_neg (nI_pos (by omega)), a3, if_neg (nIge hj (by omega)), if_neg (ng31 (by omega))]
        refine ⟨(sh k).2.2 j, (sh k).2.2 j, ?_, ?_, rfl⟩
        · unfold pX5_elementAt
          rw [hh, am_bd, if_neg i10, am_bd, if_neg i10, inb (show j < 31 by omega) (by omega), am_ck_true, am_bd, nIcl (by omega), (hc.1.sh hk).2, a4 j hj]
        · rw [am_bd, if_neg i10, ix31, inb (show 31 * k + j < 124 by omega) (by omega), am_ck_true, nIcl (by omega), rM46, b4 j hj]
      · refine ⟨-1, -1, ?_, ?_, rfl⟩
        · have hh : pX5_hasPosition R I (41 + 2 * k) y = some 0 := by
            unfold pX5_hasPosition
            rw [a3]
            by_cases h1 : y < 0
            · rw [if_pos h1]
            · rw [if_neg h1, if_pos ((inS_no (by omega) hy).resolve_left h1)]
          rw [hh, am_bd, if_pos rfl]
        · rw [btw_no (by omega) hy, am_bd, if_pos rfl]
  · refine ⟨-1, -1, ?_, ?_, rfl⟩
    · rw [sh_no R hx, am_bd, if_pos rfl]
    · rw [shM_no hx, am_bd, if_pos rfl]
/-! results -/
theorem st35 (h : Inv R I L J K) : ∃ r1 r2, pX10_resultStateCount R I 1 = some r1 ∧ pX11_resultStateCount J 1 = some r2 ∧ r1 = r2 := by
  obtain ⟨A, w, sv, tx, wd, rs, sh, ok, hc, hm⟩ := h
  have c := hc.2.2.2.2.2.2.1
  have m := hm.2.2.2.2.2.1
  unfold pX10_resultStateCount pX11_resultStateCount
  cases rs with
  | none => exact ⟨-4, -4, by rw [if_pos (show I 1 17 = 0 from c)], by rw [m.1], rfl⟩
  | some r => exact ⟨nI r.1, nI r.1, by rw [c.1, if_neg i10, c.2.1], by rw [m.1], rfl⟩
theorem st36 (h : Inv R I L J K) : ∃ r1 r2, pX10_resultInitials R I L 1 = some r1 ∧ pX11_resultInitials K 1 = some r2 ∧ r1 = r2 := by
  obtain ⟨A, w, sv, tx, wd, rs, sh, ok, hc, hm⟩ := h
  have c := hc.2.2.2.2.2.2.1
  have m := hm.2.2.2.2.2.1
  unfold pX10_resultInitials pX11_resultInitials
  cases rs with
  | none => exact ⟨0, 0, by rw [if_pos (show I 1 17 = 0 from c)], by rw [m.2.1], rfl⟩
  | some r => exact ⟨r.2.1, r.2.1, by rw [c.1, if_neg i10, c.2.2.1], by rw [m.2.1], rfl⟩
theorem st37 (h : Inv R I L J K) : ∃ r1 r2, pX10_resultFinals R I L 1 = some r1 ∧ pX11_resultFinals K 1 = some r2 ∧ r1 = r2 := by
  obtain ⟨A, w, sv, tx, wd, rs, sh, ok, hc, hm⟩ := h
  have c := hc.2.2.2.2.2.2.1
  have m := hm.2.2.2.2.2.1
  unfold pX10_resultFinals pX11_resultFinals
  cases rs with
  | none => exact ⟨0, 0, by rw [if_pos (show I 1 17 = 0 from c)], by rw [m.2.2], rfl⟩
  | some r => exact ⟨r.2.2.1, r.2.2.1, by rw [c.1, if_neg i10, c.2.2.2.1], by rw [m.2.2.1], rfl⟩
theorem rt_yes {o n s a : Nat} (h0 : I o 0 = nI n) (hn : n ≤ 64) (hs : s < n) (ha : a < 3) : pX3_targetsOf R I L o (nI s) (nI a) = some (L (R o 3) (3 * s + a)) := by
  unfold pX3_targetsOf
  rw [am_jn_e, am_jn_e, if_neg (nI_pos (by omega)), h0, if_neg (nIge hs (by omega)), if_neg (ng64 (by omega)), lt_yes ha, am_bd, if_neg i10]
  simp only [i10, if_false, ix3, inb (show 3 * s + a < 192 by omega) (show 192 < 1000000 by omega), am_ck_true, nIcl (show 3 * s + a < 1000000 by omega)]
theorem rt_no {o n : Nat} {x y : Int32} (h0 : I o 0 = nI n) (hn : n ≤ 64) (h : ¬ (inS n x ∧ inS 3 y)) : pX3_targetsOf R I L o x y = some 0 := by
  unfold pX3_targetsOf
  rw [am_jn_e, am_jn_e, h0]
  by_cases hx : inS n x
  · obtain ⟨s, hs, rfl⟩ := hx
    have hy : ¬ inS 3 y := fun q => h ⟨⟨s, hs, rfl⟩, q⟩
    rw [if_neg (nI_pos (by omega)), if_neg (nIge hs (by omega)), if_neg (ng64 (by omega)), lt_no hy, am_bd, if_pos rfl]
    rfl
  · by_cases h1 : x < 0
    · rw [if_pos h1]; rfl
    · rw [if_neg h1, if_pos ((inS_no (by omega) hx).resolve_left h1)]; rfl
theorem st38 (h : Inv R I L J K) (x y : Int32) : ∃ r1 r2, pX10_resultSuccessors R I L 1 x y = some r1 ∧ pX11_resultSuccessors rM J K 1 x y = some r2 ∧ r1 = r2 := by
  obtain ⟨A, w, sv, tx, wd, rs, sh, ok, hc, hm⟩ := h
  have c := hc.2.2.2.2.2.2.1
  have m := hm.2.2.2.2.2.1
  unfold pX10_resultSuccessors pX11_resultSuccessors
  cases rs with
  | none =>
    refine ⟨0, 0, by rw [if_pos (show I 1 17 = 0 from c)], ?_, rfl⟩
    by_cases hy : inS 3 y
    · obtain ⟨a, ha, rfl⟩ := hy
      rw [ltM_yes ha, am_bd, if_neg i10, m.1, e_between (lo' := 0) (hi' := Int32.toInt64 (-4 - 1)) x 0 (-4 - 1) (by decide) rfl]
      have : ¬ (0 ≤ x ∧ x ≤ (-4 - 1 : Int32)) := fun q => by
        have h1 := Int32.le_iff_toInt_le.mp q.1
        have h2 := Int32.le_iff_toInt_le.mp q.2
        have : (-4 - 1 : Int32).toInt = -5 := by decide
        have : (0 : Int32).toInt = 0 := by decide
        omega
      rw [decide_eq_false this, am_bd, if_pos (show bI false = 0 from rfl)]
    · rw [ltM_no hy, am_bd, if_pos rfl]
  | some r =>
    have hr := (ok.2.2.2.2.2.1 r rfl).1
    have c2 : I (R 1 15) 0 = nI r.1 := c.2.1
    rw [c.1, if_neg i10, m.1]
    by_cases hy : inS 3 y
    · by_cases hx : inS r.1 x
      · obtain ⟨a, ha, rfl⟩ := hy
        obtain ⟨s, hs, rfl⟩ := hx
        refine ⟨r.2.2.2 s a, r.2.2.2 s a, ?_, ?_, rfl⟩
        · rw [rt_yes c2 hr hs ha, am_bd, c.2.2.2.2 s a hs ha]
        · rw [ltM_yes ha, am_bd, if_neg i10, btw_yes (by omega) hs, am_bd, if_neg i10, ix3', inb (show 3 * s + a < 192 by omega) (by omega), am_ck_true, nIcl (by omega), rM38, m.2.2.2 s a hs ha]
      · refine ⟨0, 0, ?_, ?_, rfl⟩
        · rw [rt_no c2 hr (fun q => hx q.1), am_bd]
        · obtain ⟨a, ha, rfl⟩ := hy
          rw [ltM_yes ha, am_bd, if_neg i10, btw_no (by omega) hx, am_bd, if_pos rfl]
    · refine ⟨0, 0, ?_, ?_, rfl⟩
      · rw [rt_no c2 hr (fun q => hy q.2), am_bd]
      · rw [ltM_no hy, am_bd, if_pos rfl]
end
