/-! call 34, both sides -/
section
variable {R : am_R} {I : am_I} {L : am_L} {J : am_I} {K : am_L}
theorem okC.st (h : okC R) : stK R (R 1 16) := by
  rcases h.2.1 with ⟨_, q⟩ | ⟨_, q⟩
  · rw [q]; exact ⟨h.r37_3, h.r37_4, h.r37_5, by omega, by omega⟩
  · rw [q]; exact ⟨h.r33_3, h.r33_4, h.r33_5, by omega, by omega⟩
theorem frC_bf (h : okC R) {I' : am_I} {L' : am_L} (f : bfK I L (R 1 16) I' L') : frC R I L I' L' := by
  have ho := h.st
  have hx : (R 1 15 < R 1 16 ∨ R 1 16 + 4 ≤ R 1 15) ∧ (R (R 1 15) 3 < R 1 16 ∨ R 1 16 + 4 ≤ R (R 1 15) 3) := by
    rcases h.2.1 with ⟨p, q⟩ | ⟨p, q⟩
    · rw [p, q, h.r33_3]; omega
    · rw [p, q, h.r37_3]; omega
  refine ⟨fun b x => (f b (by have := ho.2.2.2.1; omega)).1, fun b x _ => f b (by have := ho.2.2.2.2; omega), (f _ hx.1).1, (f _ hx.1).2, (f _ hx.2).2, fun z a ha => ?_⟩
  have := ho.2.2.2.1
  rw [(f 17 (by omega)).1, (f 18 (by omega)).1, (f 26 (by omega)).1, (f 27 (by omega)).1]
  exact z a ha
def swR (R : am_R) : am_R := am_upR (am_upR R 1 15 (R 1 16)) 1 16 (R 1 15)
theorem swR_o {a k : Nat} (h : ¬ (a = 1 ∧ 15 ≤ k ∧ k ≤ 16)) : swR R a k = R a k := by
  by_cases q : a = 1
  · have h1 : ¬ k = 15 := fun e => h ⟨q, by omega, by omega⟩
    have h2 : ¬ k = 16 := fun e => h ⟨q, by omega, by omega⟩
    simp [swR, am_upR, q, h1, h2]
  · simp [swR, am_upR, q]
theorem swR_15 : swR R 1 15 = R 1 16 := by simp [swR, am_upR]
theorem swR_16 : swR R 1 16 = R 1 15 := by simp [swR, am_upR]
theorem okC.sw (h : okC R) : okC (swR R) := by
  have e14 : swR R 1 14 = R 1 14 := swR_o (by omega)
  refine ⟨fun a k ha hk => ?_, ?_, ?_⟩
  · rw [swR_o (fun q => hk ⟨q.1, by omega, by omega⟩)]
    exact h.1 a k ha hk
  · rw [swR_15, swR_16]
    rcases h.2.1 with ⟨p, q⟩ | ⟨p, q⟩
    · exact Or.inr ⟨q, p⟩
    · exact Or.inl ⟨q, p⟩
  · rw [e14]
    rcases h.2.2 with q | ⟨q, r⟩
    · exact Or.inl q
    · right
      have n1 : R 1 14 ≠ 1 := by omega
      have e : ∀ k, swR R (R 1 14) k = R (R 1 14) k := fun k => swR_o (fun z => n1 z.1)
      rw [e, e, e, e]
      exact ⟨q, r⟩
theorem e_buildC (hR : okC R) {A : am_Au} (hw : aw A) (hA : isA I 2 3 A) (hz : cZ I) {c : Nat} (hc : c < 2) : ∃ I2 L2 ini S, st0K c A = some (ini, S) ∧ frC R I L I2 L2 ∧
    ((∃ B', bld c A 65 0 (S, fun _ => 0) = some B' ∧ pX10_build R I L 1 (nI c) = some (nI B'.1.1, swR R, am_upI I2 1 17 1, L2) ∧ KC I2 L2 (R 1 16) c A B' ini) ∨ (bld c A 65 0 (S, fun _ => 0) = none ∧ pX10_build R I L 1 (nI c) = some (-5, R, I2, L2))) := by
  obtain ⟨I1, e0, hT, f0⟩ := e_ldS hR hA hw hz
  have hA1 : isA I1 2 3 A := hA.kept (f0 2 (by decide) (by decide)) (f0 3 (by decide) (by decide))
  have hK := hR.st
  have f1 : frC R I L I1 L := frC_steps hR f0 hT (fun _ _ => rfl)
  have hne : R 1 16 ≠ 1 := by have := hK.2.2.2.1; omega
  have hc2 : c = 0 ∨ c = 1 := by omega
  have fin : ∀ {I2 : am_I} {m : Nat}, I2 (R 1 16) 0 = nI m → (am_upI I2 1 17 1) ((swR R) 1 15) 0 = nI m := fun {I2 m} h => by
    rw [swR_15, am_upI_ne hne]; exact h
  rcases hc2 with rfl | rfl
  · obtain ⟨I2, L2, ini, S, B', f2, s1, s2, s3, s4⟩ := e_makeSubsets (L := L) hR hK hw hA1 hT
    refine ⟨I2, L2, ini, S, s1, f1.trans (frC_bf hR f2), Or.inl ⟨B', s2, ?_, s4⟩⟩
    unfold pX10_build
    rw [am_jn_e, if_pos (show nI 0 = (0 : Int32) from rfl), hR.r1_10, hR.r1_0, e0, am_bd, am_jn_e, if_pos (show nI 0 = (0 : Int32) from rfl), s3, am_bd]
    dsimp only
    rw [if_neg (show ¬ (1 : Int32) = 0 by decide), am_let_e, am_let_e, am_let_e]
    show some ((am_upI I2 1 17 1) ((swR R) 1 15) 0, swR R, am_upI I2 1 17 1, L2) = _
    rw [fin s4.1]
  · obtain ⟨I2, L2, ini, S, f2, s1, s2⟩ := e_makeLeast (L := L) hR hK hw hA1 hT
    refine ⟨I2, L2, ini, S, s1, f1.trans (frC_bf hR f2), ?_⟩
    rcases s2 with ⟨B', s2, s3, s4⟩ | ⟨s2, s3⟩
    · refine Or.inl ⟨B', s2, ?_, s4⟩
      unfold pX10_build
      rw [am_jn_e, if_neg (show ¬ nI 1 = (0 : Int32) by decide), if_pos (show nI 1 = (1 : Int32) from rfl), hR.r1_10, hR.r1_0, e0, am_bd, am_jn_e, if_neg (show ¬ nI 1 = (0 : Int32) by decide), s3, am_bd]
      dsimp only
      rw [if_neg (show ¬ (1 : Int32) = 0 by decide), am_let_e, am_let_e, am_let_e]
      show some ((am_upI I2 1 17 1) ((swR R) 1 15) 0, swR R, am_upI I2 1 17 1, L2) = _
      rw [fin s4.1]
    · refine Or.inr ⟨s2, ?_⟩
      unfold pX10_build
      rw [am_jn_e, if_neg (show ¬ nI 1 = (0 : Int32) by decide), if_pos (show nI 1 = (1 : Int32) from rfl), hR.r1_10, hR.r1_0, e0, am_bd, am_jn_e, if_neg (show ¬ nI 1 = (0 : Int32) by decide), s3, am_bd]
      dsimp only
      rw [if_pos rfl]
theorem InvM.built {A : am_Au} {w : Nat → Nat} {sv : am_Sv} {tx wd : am_Tx} {rs rs' : Option am_Rs} {sh : Nat → am_Sf} {J' : am_I} {K' : am_L} (h : InvM J K A w sv tx wd rs sh) (f : frB J J') (g : K' 30 = K 30) (hr : mR J' K' rs') : InvM J' K' A w sv tx wd rs' sh := by
  obtain ⟨h1, h2, h3, h4, h5, h6, h7, h8⟩ := h
  have fb : ∀ b, b ≠ 1 → ¬ (22 ≤ b ∧ b ≤ 25) → J' b = J b := f.1
  have fk : ∀ k, k ≠ 40 → k ≠ 41 → J' 1 k = J 1 k := f.2
  exact ⟨h1.kept (fun k _ _ => fk k (by omega) (by omega)) (fb 2 (by omega) (by omega)), h2.kept (fb 4 (by omega) (by omega)), h3.kept (fk 49 (by omega) (by omega)) (fb 32 (by omega) (by omega)), h4.kept (fk 12 (by omega) (by omega)) (fb 7 (by omega) (by omega)), h5.kept (fk 16 (by omega) (by omega)) (fb 9 (by omega) (by omega)), hr, h7.kept (fb 28 (by omega) (by omega)) (fb 29 (by omega) (by omega)) g, h8.kept (fk 6 (by omega) (by omega)) (fun k _ _ => fk k (by omega) (by omega)) (fb 17 (by omega) (by omega))⟩
theorem st34 (h : Inv R I L J K) (x : Int32) : ∃ r1 r2, pX10_build R I L 1 x = some r1 ∧ pX11_build rM J K 1 x = some r2 ∧ r1.1 = r2.1 ∧ Inv r1.2.1 r1.2.2.1 r1.2.2.2 r2.2.1 r2.2.2 ∧ r1.2.1 1 14 = R 1 14 := by
  by_cases hx : inS (1 + 1) x
  · obtain ⟨A, w, sv, tx, wd, rs, sh, ok, hc, hm⟩ := h
    obtain ⟨c, hc2, rfl⟩ := hx
    have hR := hc.1
    obtain ⟨I2, L2, ini, S, s1, f1, a⟩ := e_buildC (L := L) hR ok.1 hc.2.1 hc.2.2.2.2.2.2.2.2 hc2
    obtain ⟨J', K', ini', S', s1', f2, b⟩ := e_buildM (K := K) ok.1 hm.1 hc2
    rw [s1] at s1'
    cases s1'
    have hcI := hc.kept f1
    rcases a with ⟨B, n1, n2, n3⟩ | ⟨n1, n2⟩
    · rcases b with ⟨B', m1, m2, m3, m4, m5, m6, m7⟩ | ⟨m1, _⟩
      · rw [n1] at m1
        cases m1
        obtain ⟨okS0, cov0⟩ := st0K_spec ok.1 s1
        obtain ⟨ex, hB⟩ := bld_spec ok.1 65 0 _ B (by omega) (Nat.zero_le _) ⟨okS0, fun k a' _ hlt => absurd hlt (Nat.not_lt_zero _)⟩ n1
        have hok : okRs (rsOf c A ini B) := rs_ok ok.1 hB (cov0.ex ex hB.1.1)
        have h64 : B.1.1 ≤ 64 := hB.1.2.1
        have tgv : ∀ s a, s < B.1.1 → a < 3 → (rsOf c A ini B).2.2.2 s a = B.2 (3 * s + a) := fun s a hs ha => if_pos ⟨hs, ha⟩
        have hK := hR.st
        have hne : R 1 16 ≠ 1 := by have := hK.2.2.2.1; omega
        refine ⟨_, _, n2, m2, rfl, ⟨A, w, sv, tx, wd, some (rsOf c A ini B), sh, ⟨ok.1, ok.2.1, ok.2.2.1, ok.2.2.2.1, ok.2.2.2.2.1, fun r hr => by cases hr; exact hok, ok.2.2.2.2.2.2⟩, ?_, ?_⟩, swR_o (a := 1) (k := 14) (by omega)⟩
        · obtain ⟨_, h1, h2, h3, h4, h5, h6, h7, h8⟩ := hcI
          have fi : ∀ b, b ≠ 1 → (am_upI I2 1 17 1) b = I2 b := fun b hb => am_upI_ne hb
          refine ⟨hR.sw, h1.kept (fi 2 (by omega)) (fi 3 (by omega)), h2.kept (fi 6 (by omega)), h3.kept (show am_upI I2 1 17 1 1 4 = I2 1 4 from am_upI_o (by decide)) (fi 4 (by omega)) (fi 5 (by omega)) (fi 7 (by omega)), h4.kept (fi 8 (by omega)) (fi 9 (by omega)), h5.kept (fi 10 (by omega)) (fi 11 (by omega)), ?_, h7.kept (fun b hb _ => fi b (by omega)) (fun _ _ _ => rfl), h8.kept (fi 17 (by omega)) (fi 18 (by omega)) (fi 26 (by omega)) (fi 27 (by omega))⟩
          show (am_upI I2 1 17 1) 1 17 = 1 ∧ (am_upI I2 1 17 1) (swR R 1 15) 0 = nI B.1.1 ∧ L2 (swR R 1 15) 1 = ini ∧ L2 (swR R 1 15) 2 = fns c A B.1 ∧ ∀ s a, s < B.1.1 → a < 3 → L2 (swR R (swR R 1 15) 3) (3 * s + a) = (rsOf c A ini B).2.2.2 s a
          rw [swR_15, swR_o (fun q => hne q.1), hK.1]
          refine ⟨am_upI_s, by rw [fi _ hne]; exact n3.1, n3.2.2.2.2.2.2, n3.2.2.2.2.1, fun s a hs ha => ?_⟩
          rw [tgv s a hs ha]
          exact n3.2.2.2.2.2.1 _ (by omega)
        · refine hm.built f2 (m7 30 (by decide) (by decide) (by decide)) ?_
          show J' 1 40 = nI B.1.1 ∧ K' 1 42 = ini ∧ K' 1 43 = fns c A B.1 ∧ ∀ s a, s < B.1.1 → a < 3 → K' 26 (3 * s + a) = (rsOf c A ini B).2.2.2 s a
          refine ⟨m3, m4, m5, fun s a hs ha => ?_⟩
          rw [tgv s a hs ha]
          exact m6 _ (by omega)
      · rw [n1] at m1; cases m1
    · rcases b with ⟨B', m1, _⟩ | ⟨m1, m2, m3, m4⟩
      · rw [n1] at m1; cases m1
      · exact ⟨_, _, n2, m2, rfl, ⟨A, w, sv, tx, wd, rs, sh, ok, hcI, hm.built f2 (m4 30 (by decide)) (hm.2.2.2.2.2.1.kept m3 (m4 1 (by decide)) (m4 26 (by decide)))⟩, rfl⟩
  · have rM' := rngM (n := 1) (by omega) (x := x) (M := 1) rfl (hi := 1) (by decide)
    have h0 : ¬ x = 0 := fun e => hx ⟨0, by omega, e⟩
    have h1 : ¬ x = 1 := fun e => hx ⟨1, by omega, e⟩
    refine ⟨(-1, R, I, L), (-1, J, K), ?_, ?_, rfl, h, rfl⟩
    · unfold pX10_build
      rw [am_jn_e, if_neg h0, if_neg h1]
    · unfold pX11_build
      rw [rM'.2 hx, am_bd, if_pos rfl]
/-! call 39 -/
theorem rsP_lt {r : am_Rs} (h : okRs r) (c : Nat → Nat) : ∀ n t, r.1 ≤ t → rsP r c n t = 0
  | 0, t, ht => by
    show (if btl r.2.1 t = true then 1 else 0) = 0
    rw [(h.2.1 t ht).1, if_neg (by decide)]
  | n + 1, t, ht => by
    show sumN (fun s => if btl (r.2.2.2 s (c n)) t = true then rsP r c n s else 0) r.1 = 0
    rw [sumN_congr (g := fun _ => 0) r.1 (fun s _ => by rw [h.2.2.1 s (c n) t ht, if_neg (by decide)]), sumN_zero]
/-- the states that the class reaches -/
theorem e_acc23 {o : Nat} (hK : R o 3 = o + 1) {r : am_Rs} (hok : okRs r) (h0 : I o 0 = nI r.1) (hT : ∀ s a, s < r.1 → a < 3 → L (o + 1) (3 * s + a) = r.2.2.2 s a) {wn : Nat} (hU0 : I 10 0 = nI wn) (hn : wn ≤ 20) (hR : R 10 1 = 11) {c : Nat → Nat} (hU : ∀ j, j < wn → I 11 j = nI (c j)) (hc : ∀ j, c j < 3) {k : Nat} (hk : k < wn) {v7 : Int64} (hv : ∀ t, t < 64 → (btl v7 t = true ↔ 1 ≤ rsP r c k t)) (j : Int64 → Option Int32) :
    ∃ v, lX3_accepts_23 R I L o 10 v7 (nI k) j am_fu (0 : Int64) (0 : Int32) = j v ∧ ∀ t, t < 64 → (btl v t = true ↔ 1 ≤ rsP r c (k + 1) t) := by
  have h64 := hok.1
  obtain ⟨v, e, hv2⟩ := am_for0 (fun n i (v : Int64) => lX3_accepts_23 R I L o 10 v7 (nI k) j n v (nI i)) r.1 (fun i v => ∀ t, t < 64 → (btl v t = true ↔ 1 ≤ sumN (fun s => if btl (r.2.2.2 s (c k)) t = true then rsP r c k s else 0) i)) (fun v => j v) (by omega) (fun n i v hi hP => by
    have hs : lX3_accepts_23 R I L o 10 v7 (nI k) j (n + 1) v (nI i) = lX3_accepts_23 R I L o 10 v7 (nI k) j n (v ||| (if btl v7 i = true then r.2.2.2 i (c k) else 0)) (nI (i + 1)) := by
      show sX3_accepts_23 R I L o 10 v7 (nI k) j (lX3_accepts_23 R I L o 10 v7 (nI k) j n) v (nI i) = _
      unfold sX3_accepts_23
      rw [h0, if_neg (nIge hi (by omega)), btl_shr1 _ (show i < 64 by omega), am_jn_e, e_letterAt hU0 (by omega) hk, am_bd, hR, hU k hk, rt_yes h0 h64 hi (hc k), am_bd, hK, hT i (c k) hi (hc k)]
      dsimp only
      rw [am_let_e, am_let_e, nI_1]
      by_cases q : btl v7 i = true
      · rw [if_pos q, if_pos q, if_neg (show ¬ lg_cmp 1 0 = 0 by decide +kernel)]
      · rw [if_neg q, if_neg q, if_pos (show lg_cmp 0 0 = 0 by decide +kernel)]
    refine ⟨_, hs, fun t ht => ?_⟩
    rw [btl_or, Bool.or_eq_true, hP t ht, sumN_s]
    by_cases q : btl v7 i = true
    · rw [if_pos q]
      have hp := (hv i (by omega)).mp q
      by_cases g : btl (r.2.2.2 i (c k)) t = true
      · rw [if_pos g]
        exact ⟨fun _ => by omega, fun _ => Or.inr g⟩
      · rw [if_neg g]
        exact ⟨fun h => h.elim (fun h => by omega) (fun h => absurd h g), fun h => Or.inl (by omega)⟩
    · rw [if_neg q, btl_zero]
      have hp : rsP r c k i = 0 := by
        have := mt (hv i (by omega)).mpr q
        omega
      have hz : (if btl (r.2.2.2 i (c k)) t = true then rsP r c k i else 0) = 0 := by
        rw [hp]
        by_cases g : btl (r.2.2.2 i (c k)) t = true
        · rw [if_pos g]
        · rw [if_neg g]
      rw [hz]
      exact ⟨fun h => h.elim (fun h => by omega) (fun h => by cases h), fun h => Or.inl (by omega)⟩) (fun n v _ => by
    show sX3_accepts_23 R I L o 10 v7 (nI k) j (lX3_accepts_23 R I L o 10 v7 (nI k) j n) v (nI r.1) = _
    unfold sX3_accepts_23
    rw [h0, if_pos (nIle (by omega))]) 0 (fun t _ => by rw [btl_zero, sumN_0]; exact ⟨fun h => (by cases h), fun h => (by omega)⟩)
  rw [nI_0] at e
  exact ⟨v, e, hv2⟩
theorem e_accepts {o : Nat} (hK : R o 3 = o + 1) {r : am_Rs} (hok : okRs r) (h0 : I o 0 = nI r.1) (h1 : L o 1 = r.2.1) (h2 : L o 2 = r.2.2.1) (hT : ∀ s a, s < r.1 → a < 3 → L (o + 1) (3 * s + a) = r.2.2.2 s a) {wn : Nat} (hU0 : I 10 0 = nI wn) (hn : wn ≤ 20) (hR : R 10 1 = 11) {c : Nat → Nat} (hU : ∀ j, j < wn → I 11 j = nI (c j)) (hc : ∀ j, c j < 3) : pX3_accepts R I L o 10 = some (if 1 ≤ rsF r c wn then 1 else 0) := by
  have h64 := hok.1
  unfold pX3_accepts
  rw [am_let_e, am_jn_e, h1, h2]
  obtain ⟨j2, hj2⟩ : ∃ j : Int64 → Option Int32, j = fun (v3 : Int64) => if (lg_cmp (v3 &&& r.2.2.1) (0 : Int64)) = 0 then (some (0 : Int32)) else (some (1 : Int32)) := ⟨_, rfl⟩
  rw [← hj2]
  obtain ⟨v, e, hv⟩ := am_for0 (fun n i (v : Int64) => lX3_accepts_8 R I L o 10 j2 n v (nI i)) wn (fun i v => ∀ t, t < 64 → (btl v t = true ↔ 1 ≤ rsP r c i t)) (fun v => j2 v) (by omega) (fun n i v hi hP => by
    obtain ⟨v', e1, hv'⟩ := e_acc23 hK hok h0 hT hU0 hn hR hU hc hi hP (fun (v12 : Int64) => lX3_accepts_8 R I L o 10 j2 n v12 (nI i + (1 : Int32)))
    refine ⟨v', ?_, hv'⟩
    show sX3_accepts_8 R I L o 10 j2 (lX3_accepts_8 R I L o 10 j2 n) v (nI i) = _
    unfold sX3_accepts_8
    rw [hU0, if_neg (nIge hi (by omega)), am_jn_e, e1, nI_1]) (fun n v _ => by
    show sX3_accepts_8 R I L o 10 j2 (lX3_accepts_8 R I L o 10 j2 n) v (nI wn) = _
    unfold sX3_accepts_8
    rw [hU0, if_pos (nIle (by omega))]) r.2.1 (fun t _ => by
    show _ ↔ 1 ≤ (if btl r.2.1 t = true then 1 else 0)
    by_cases q : btl r.2.1 t = true
    · rw [if_pos q]; exact ⟨fun _ => Nat.le_refl _, fun _ => q⟩
    · rw [if_neg q]; exact ⟨fun h => absurd h q, fun h => by omega⟩)
  rw [nI_0] at e
  refine e.trans ?_
  rw [hj2]
  dsimp only
  have key : v &&& r.2.2.1 = 0 ↔ ¬ 1 ≤ rsF r c wn := by
    have hF : 1 ≤ rsF r c wn ↔ ∃ s, s < r.1 ∧ btl r.2.2.1 s = true ∧ 1 ≤ rsP r c wn s := by
      show 1 ≤ sumN (fun s => if btl r.2.2.1 s = true then rsP r c wn s else 0) r.1 ↔ _
      rw [sum1]
      constructor
      · rintro ⟨s, hs, g⟩
        by_cases q : btl r.2.2.1 s = true
        · rw [if_pos q] at g; exact ⟨s, hs, q, g⟩
        · rw [if_neg q] at g; omega
      · rintro ⟨s, hs, q, g⟩
        exact ⟨s, hs, by rw [if_pos q]; exact g⟩
    rw [hF]
    constructor
    · rintro h0 ⟨s, hs, q, g⟩
      have := btl_and v r.2.2.1 s
      rw [h0, btl_zero, (hv s (by omega)).mpr g, q] at this
      cases this
    · intro h
      refine btl_ext fun k hk => ?_
      rw [btl_and, btl_zero]
      cases g : btl v k with
      | false => rfl
      | true =>
        cases q : btl r.2.2.1 k with
        | false => rfl
        | true =>
          exfalso
          refine h ⟨k, Nat.lt_of_not_le fun z => ?_, q, (hv k hk).mp g⟩
          rw [(hok.2.1 k z).2] at q
          cases q
  by_cases q : 1 ≤ rsF r c wn
  · rw [if_pos q, if_neg (fun h => key.mp (lg_cmp0.mp h) q)]
  · rw [if_neg q, if_pos (lg_cmp0.mpr (key.mpr q))]
end
