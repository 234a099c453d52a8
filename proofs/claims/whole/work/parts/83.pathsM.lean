/-! counting paths: the reference's programs -/
theorem T_out {A : am_Au} (hw : aw A) {a s t : Nat} (h : A.1 ≤ s ∨ A.1 ≤ t) : ¬ bt (A.2.2.2 a s) t = true := by
  rcases h with h | h
  · rw [hw.2.2.2.2 a s (Or.inl h), bt_zero]; decide
  · rw [hw.2.2.2.1 a s t h]; decide
theorem ind_out {n : Nat} {x : Int32} (h : lon n x) {s : Nat} (hs : n ≤ s) : ind x s = 0 := by unfold ind; rw [h s hs]; rfl
theorem bwd_out {A : am_Au} (hw : aw A) (W : Nat → Nat) {s : Nat} (hs : A.1 ≤ s) : bwd A W s = 0 := by
  unfold bwd
  refine (sumN_congr 3 fun a _ => ?_).trans (sumN_zero 3)
  refine (sumN_congr 6 fun t _ => ?_).trans (sumN_zero 6)
  exact if_neg (T_out hw (Or.inl hs))
theorem bwdN_out {A : am_Au} (hw : aw A) {s : Nat} (hs : A.1 ≤ s) : ∀ k, bwdN A k (ind A.2.2.1) s = 0
  | 0 => ind_out (fun k hk => (hw.2.2.1 k hk).2) hs
  | _ + 1 => bwd_out hw _ hs
section
variable {J : am_I} {A : am_Au}
theorem e_m2 (hA : isM J A) (x1 : Int32) (j : am_L → Option (Int64 × am_L)) (K : am_L) : ∃ K', lX11_pathsOf_2 rM J 1 x1 j am_fu (0 : Int32) K = j K' ∧ vec K' 10 (-1) 6 (ind A.2.2.1) ∧ vfr K K' 10 11 := by
  obtain ⟨K', e, h1, h2⟩ := am_for0 (fun n i K => lX11_pathsOf_2 rM J 1 x1 j n (nI i) K) 6 (fun i K' => (∀ s, s < i → K' 10 s = sat (-1) (ind A.2.2.1 s)) ∧ vfr K K' 10 11) j (by omega) (fun n i K' hi hP => by
    refine ⟨am_upL K' 10 i (sat (-1) (ind A.2.2.1 i)), ?_, fun s hs => ?_, hP.2.tr vfr.up1⟩
    · simp only [lX11_pathsOf_2, sX11_pathsOf_2, ng6 hi, if_false, hA.2.2.1, e_hb _ (show i < 32 by omega), am_bd, am_let_e, inb (show i < 64 by omega) (show 64 < 1000000 by omega), am_ck_true, nIcl (show i < 1000000 by omega), sat_ind (-1), rM17, nI_1]
    · by_cases q : s = i
      · subst q; exact am_upL_s
      · rw [am_upL_o q]; exact hP.1 s (by omega)) (fun n K' _ => by
    simp only [lX11_pathsOf_2, sX11_pathsOf_2, yg6, if_true]) K ⟨fun s hs => absurd hs (Nat.not_lt_zero s), vfr.rf _ _ _⟩
  exact ⟨K', e, h1, h2⟩
theorem e_m73 (hA : isM J A) (hw : aw A) (x1 v : Int32) (j : am_L → Option (Int64 × am_L)) {s a : Nat} (hs : s < A.1) (ha : a < 3) {W : Nat → Nat} {y : Nat} {K : am_L} (hW : vec K 10 (-1) 6 W) (hy : K 11 s = sat (-1) y) :
    ∃ K', lX11_pathsOf_73 rM J 1 x1 v (nI s) (nI a) j am_fu (0 : Int32) K = j K' ∧ vec K' 10 (-1) 6 W ∧ K' 11 s = sat (-1) (y + sumN (fun t => if bt (A.2.2.2 a s) t = true then W t else 0) A.1) ∧ (∀ s', s' ≠ s → K' 11 s' = K 11 s') ∧ vfr K K' 10 11 := by
  have h0 := hA.1
  have h6 := hw.2.1
  obtain ⟨K', e, h1, h2, h3, h4⟩ := am_for0 (fun n i K => lX11_pathsOf_73 rM J 1 x1 v (nI s) (nI a) j n (nI i) K) A.1 (fun i K' => vec K' 10 (-1) 6 W ∧ K' 11 s = sat (-1) (y + sumN (fun t => if bt (A.2.2.2 a s) t = true then W t else 0) i) ∧ (∀ s', s' ≠ s → K' 11 s' = K 11 s') ∧ vfr K K' 10 11) j (by omega) (fun n i K' hi hP => by
    obtain ⟨p1, p2, p3, p4⟩ := hP
    refine ⟨am_upL K' 11 s (sat (-1) (y + sumN (fun t => if bt (A.2.2.2 a s) t = true then W t else 0) (i + 1))), ?_, fun t ht => by rw [am_upL_n (by decide)]; exact p1 t ht, am_upL_s, fun s' h => by rw [am_upL_o h]; exact p3 s' h, p4.tr vfr.up2⟩
    by_cases hb : bt (A.2.2.2 a s) i = true
    · simp only [lX11_pathsOf_73, sX11_pathsOf_73, h0, nIge hi (show A.1 < 1000000 by omega), if_false, ix6, inb (show 6 * a + s < 18 by omega) (show 18 < 1000000 by omega), am_ck_true, nIcl (show 6 * a + s < 1000000 by omega), rM0, hA.2.2.2 a s ha (by omega), e_hb _ (show i < 32 by omega), am_bd, am_jn_e, bI0, ite_not, Bool.false_eq_true, hb, if_true, inb (show s < 64 by omega) (show 64 < 1000000 by omega), inb (show i < 64 by omega) (show 64 < 1000000 by omega), nIcl (show i < 1000000 by omega), nIcl (show s < 1000000 by omega), rM17, rM18, p2, p1 i (by omega), e_plus, am_let_e, nI_1, sumN_s, Nat.add_assoc]
    · simp only [lX11_pathsOf_73, sX11_pathsOf_73, h0, nIge hi (show A.1 < 1000000 by omega), if_false, ix6, inb (show 6 * a + s < 18 by omega) (show 18 < 1000000 by omega), am_ck_true, nIcl (show 6 * a + s < 1000000 by omega), rM0, hA.2.2.2 a s ha (by omega), e_hb _ (show i < 32 by omega), am_bd, am_jn_e, bI0, ite_not, Bool.false_eq_true, hb, inb (show s < 64 by omega) (show 64 < 1000000 by omega), nIcl (show s < 1000000 by omega), rM18, p2, am_let_e, nI_1, sumN_s, Nat.add_zero]) (fun n K' _ => by
    simp only [lX11_pathsOf_73, sX11_pathsOf_73, h0, nIle (show A.1 < 1000000 by omega), if_true]) K ⟨hW, hy, fun _ _ => rfl, vfr.rf _ _ _⟩
  exact ⟨K', e, h1, h2, h3, h4⟩
theorem e_m64 (hA : isM J A) (hw : aw A) (x1 v : Int32) (j : am_L → Option (Int64 × am_L)) {s : Nat} (hs : s < A.1) {W : Nat → Nat} {K : am_L} (hW : vec K 10 (-1) 6 W) (hy : K 11 s = sat (-1) 0) :
    ∃ K', lX11_pathsOf_64 rM J 1 x1 v (nI s) j am_fu (0 : Int32) K = j K' ∧ vec K' 10 (-1) 6 W ∧ K' 11 s = sat (-1) (bwd A W s) ∧ (∀ s', s' ≠ s → K' 11 s' = K 11 s') ∧ vfr K K' 10 11 := by
  have h6 := hw.2.1
  obtain ⟨K', e, h1, h2, h3, h4⟩ := am_for0 (fun n i K => lX11_pathsOf_64 rM J 1 x1 v (nI s) j n (nI i) K) 3 (fun i K' => vec K' 10 (-1) 6 W ∧ K' 11 s = sat (-1) (sumN (fun a => sumN (fun t => if bt (A.2.2.2 a s) t = true then W t else 0) 6) i) ∧ (∀ s', s' ≠ s → K' 11 s' = K 11 s') ∧ vfr K K' 10 11) j (by omega) (fun n i K' hi hP => by
    obtain ⟨p1, p2, p3, p4⟩ := hP
    obtain ⟨K2, e2, q1, q2, q3, q4⟩ := e_m73 hA hw x1 v (fun J48 => lX11_pathsOf_64 rM J 1 x1 v (nI s) j n (nI i + 1) J48) hs hi p1 p2
    refine ⟨K2, ?_, q1, ?_, fun s' h => by rw [q3 s' h]; exact p3 s' h, p4.tr q4⟩
    · simp only [lX11_pathsOf_64, sX11_pathsOf_64, ng3 hi, if_false, am_jn_e]
      rw [e2, nI_1]
    · rw [q2, sumN_s, sumN_ext (f := fun t => if bt (A.2.2.2 i s) t = true then W t else 0) 6 h6 (fun t ht _ => if_neg (T_out hw (Or.inr ht)))]) (fun n K' _ => by
    simp only [lX11_pathsOf_64, sX11_pathsOf_64, yg3, if_true]) K ⟨hW, hy, fun _ _ => rfl, vfr.rf _ _ _⟩
  exact ⟨K', e, h1, h2, h3, h4⟩
theorem e_m46 (hA : isM J A) (hw : aw A) (x1 v : Int32) (j : am_L → Option (Int64 × am_L)) {W : Nat → Nat} {K : am_L} (hW : vec K 10 (-1) 6 W) :
    ∃ K', lX11_pathsOf_46 rM J 1 x1 v j am_fu (0 : Int32) K = j K' ∧ vec K' 10 (-1) 6 W ∧ vec K' 11 (-1) A.1 (bwd A W) ∧ vfr K K' 10 11 := by
  have h0 := hA.1
  have h6 := hw.2.1
  obtain ⟨K', e, h1, h2, h3⟩ := am_for0 (fun n i K => lX11_pathsOf_46 rM J 1 x1 v j n (nI i) K) A.1 (fun i K' => vec K' 10 (-1) 6 W ∧ vec K' 11 (-1) i (bwd A W) ∧ vfr K K' 10 11) j (by omega) (fun n i K' hi hP => by
    obtain ⟨p1, p2, p3⟩ := hP
    obtain ⟨K2, e2, q1, q2, q3, q4⟩ := e_m64 hA hw x1 v (fun J41 => lX11_pathsOf_46 rM J 1 x1 v j n (nI i + 1) J41) hi (K := am_upL K' 11 i 0) (W := W) (fun t ht => by rw [am_upL_n (by decide)]; exact p1 t ht) (by rw [am_upL_s]; rfl)
    refine ⟨K2, ?_, q1, fun s hs => ?_, (p3.tr vfr.up2).tr q4⟩
    · simp only [lX11_pathsOf_46, sX11_pathsOf_46, h0, nIge hi (show A.1 < 1000000 by omega), if_false, inb (show i < 64 by omega) (show 64 < 1000000 by omega), am_ck_true, am_let_e, nIcl (show i < 1000000 by omega), rM18, am_jn_e]
      rw [e2, nI_1]
    · by_cases q : s = i
      · subst q; exact q2
      · rw [q3 s q, am_upL_o q]; exact p2 s (by omega)) (fun n K' _ => by
    simp only [lX11_pathsOf_46, sX11_pathsOf_46, h0, nIle (show A.1 < 1000000 by omega), if_true]) K ⟨hW, fun s hs => absurd hs (Nat.not_lt_zero s), vfr.rf _ _ _⟩
  exact ⟨K', e, h1, h2, h3⟩
theorem e_m154 (hA : isM J A) (hw : aw A) (x1 v : Int32) (j : am_L → Option (Int64 × am_L)) {W V : Nat → Nat} {K : am_L} (hW : vec K 10 (-1) 6 W) (hV : vec K 11 (-1) A.1 V) (hz : ∀ s, A.1 ≤ s → W s = V s) :
    ∃ K', lX11_pathsOf_154 rM J 1 x1 v j am_fu (0 : Int32) K = j K' ∧ vec K' 10 (-1) 6 V ∧ vfr K K' 10 11 := by
  have h0 := hA.1
  have h6 := hw.2.1
  obtain ⟨K', e, h1, h2, h3, h4⟩ := am_for0 (fun n i K => lX11_pathsOf_154 rM J 1 x1 v j n (nI i) K) A.1 (fun i K' => (∀ s, s < i → K' 10 s = sat (-1) (V s)) ∧ (∀ s, i ≤ s → K' 10 s = K 10 s) ∧ K' 11 = K 11 ∧ vfr K K' 10 11) j (by omega) (fun n i K' hi hP => by
    obtain ⟨p1, p2, p3, p4⟩ := hP
    refine ⟨am_upL K' 10 i (sat (-1) (V i)), ?_, fun s hs => ?_, fun s hs => ?_, ?_, p4.tr vfr.up1⟩
    · simp only [lX11_pathsOf_154, sX11_pathsOf_154, h0, nIge hi (show A.1 < 1000000 by omega), if_false, inb (show i < 64 by omega) (show 64 < 1000000 by omega), am_ck_true, am_let_e, nIcl (show i < 1000000 by omega), rM17, rM18, p3, hV i hi, nI_1]
    · by_cases q : s = i
      · subst q; exact am_upL_s
      · rw [am_upL_o q]; exact p1 s (by omega)
    · rw [am_upL_o (by omega)]; exact p2 s (by omega)
    · rw [am_upL_n (by decide)]; exact p3) (fun n K' _ => by
    simp only [lX11_pathsOf_154, sX11_pathsOf_154, h0, nIle (show A.1 < 1000000 by omega), if_true]) K ⟨fun s hs => absurd hs (Nat.not_lt_zero s), fun _ _ => rfl, rfl, vfr.rf _ _ _⟩
  refine ⟨K', e, fun s hs => ?_, h4⟩
  by_cases q : s < A.1
  · exact h1 s q
  · rw [h2 s (by omega), hW s hs, hz s (by omega)]
theorem e_m191 (hA : isM J A) (hw : aw A) {W : Nat → Nat} {K : am_L} (hW : vec K 10 (-1) 6 W) : lX11_pathsOf_191 rM J 1 K am_fu (0 : Int64) (0 : Int32) = some (sat (-1) (sumN (fun s => if bt A.2.1 s = true then W s else 0) 6), K) := by
  have h0 := hA.1
  have h6 := hw.2.1
  rw [← sumN_ext (f := fun s => if bt A.2.1 s = true then W s else 0) 6 h6 (fun s hs _ => if_neg (by rw [(hw.2.2.1 s hs).1]; decide))]
  refine am_forF (fun n i (y : Nat) => lX11_pathsOf_191 rM J 1 K n (sat (-1) y) (nI i)) A.1 (fun s y => y + (if bt A.2.1 s = true then W s else 0)) (fun y => some (sat (-1) y, K)) (by omega) (fun n i y hi => ?_) (fun n y => ?_) 0
  · by_cases hb : bt A.2.1 i = true
    · simp only [lX11_pathsOf_191, sX11_pathsOf_191, h0, nIge hi (show A.1 < 1000000 by omega), if_false, hA.2.1, e_hb _ (show i < 32 by omega), am_bd, am_jn_e, bI0, ite_not, Bool.false_eq_true, hb, if_true, inb (show i < 64 by omega) (show 64 < 1000000 by omega), am_ck_true, nIcl (show i < 1000000 by omega), rM17, hW i (by omega), e_plus, nI_1]
    · simp only [lX11_pathsOf_191, sX11_pathsOf_191, h0, nIge hi (show A.1 < 1000000 by omega), if_false, hA.2.1, e_hb _ (show i < 32 by omega), am_bd, am_jn_e, bI0, ite_not, Bool.false_eq_true, hb, Nat.add_zero, nI_1]
  · simp only [lX11_pathsOf_191, sX11_pathsOf_191, h0, nIle (show A.1 < 1000000 by omega), if_true]
theorem e_pathsOfM (hA : isM J A) (hw : aw A) (K : am_L) {k : Nat} (hk : k < 1000) : ∃ K', pX11_pathsOf rM J K 1 (nI k) = some (sat (-1) (pths A k), K') ∧ vfr K K' 10 11 := by
  unfold pX11_pathsOf
  simp only [am_jn_e]
  obtain ⟨K1, e1, h1, h2⟩ := e_m2 hA (nI k) (fun J2 => lX11_pathsOf_39 rM J 1 (nI k) (fun J4 => lX11_pathsOf_191 rM J 1 J4 am_fu (0 : Int64) (0 : Int32)) am_fu (0 : Int32) J2) K
  rw [e1]
  obtain ⟨K2, e2, j1, j2⟩ := am_for0 (fun n i K => lX11_pathsOf_39 rM J 1 (nI k) (fun J4 => lX11_pathsOf_191 rM J 1 J4 am_fu (0 : Int64) (0 : Int32)) n (nI i) K) k (fun i K' => vec K' 10 (-1) 6 (bwdN A i (ind A.2.2.1)) ∧ vfr K K' 10 11) (fun J4 => lX11_pathsOf_191 rM J 1 J4 am_fu (0 : Int64) (0 : Int32)) (by omega) (fun n i K' hi hI => by
    obtain ⟨i1, i2⟩ := hI
    obtain ⟨K3, e3, q1, q2, q3⟩ := e_m46 hA hw (nI k) (nI i) (fun J22 => lX11_pathsOf_154 rM J 1 (nI k) (nI i) (fun J24 => lX11_pathsOf_39 rM J 1 (nI k) (fun J4 => lX11_pathsOf_191 rM J 1 J4 am_fu (0 : Int64) (0 : Int32)) n (nI i + 1) J24) am_fu (0 : Int32) J22) i1
    obtain ⟨K4, e4, r1, r2⟩ := e_m154 hA hw (nI k) (nI i) (fun J24 => lX11_pathsOf_39 rM J 1 (nI k) (fun J4 => lX11_pathsOf_191 rM J 1 J4 am_fu (0 : Int64) (0 : Int32)) n (nI i + 1) J24) q1 q2 (fun s hs => by rw [bwdN_out hw hs, bwd_out hw _ hs])
    refine ⟨K4, ?_, r1, (i2.tr q3).tr r2⟩
    simp only [lX11_pathsOf_39, sX11_pathsOf_39, nIge hi (show k < 1000000 by omega), if_false, am_jn_e]
    rw [e3, e4, nI_1]) (fun n K' _ => by
    simp only [lX11_pathsOf_39, sX11_pathsOf_39, nIle (show k < 1000000 by omega), if_true]) K1 ⟨h1, h2⟩
  refine ⟨K2, ?_, j2⟩
  refine Eq.trans e2 ?_
  rw [e_m191 hA hw j1, pths_b]
/-! a word's accepting paths -/
def vecE (L : am_L) (p : Nat) (N : Nat) (P : Nat → Nat) : Prop := ∀ s, s < N → L p s = lN (P s)
theorem lN_ind (x : Int32) (s : Nat) : (if bI (bt x s) = 0 then (0 : Int64) else 1) = lN (ind x s) := by
  unfold ind
  cases bt x s <;> rfl
theorem e_w2 (hA : isM J A) (j : am_L → Option (Int64 × am_L)) (K : am_L) : ∃ K', lX11_wordAmbiguity_2 rM J 1 j am_fu (0 : Int32) K = j K' ∧ vecE K' 10 6 (ind A.2.1) ∧ vfr K K' 10 11 := by
  obtain ⟨K', e, h1, h2⟩ := am_for0 (fun n i K => lX11_wordAmbiguity_2 rM J 1 j n (nI i) K) 6 (fun i K' => (∀ s, s < i → K' 10 s = lN (ind A.2.1 s)) ∧ vfr K K' 10 11) j (by omega) (fun n i K' hi hP => by
    refine ⟨am_upL K' 10 i (lN (ind A.2.1 i)), ?_, fun s hs => ?_, hP.2.tr vfr.up1⟩
    · simp only [lX11_wordAmbiguity_2, sX11_wordAmbiguity_2, ng6 hi, if_false, hA.2.1, e_hb _ (show i < 32 by omega), am_bd, am_let_e, inb (show i < 64 by omega) (show 64 < 1000000 by omega), am_ck_true, nIcl (show i < 1000000 by omega), lN_ind, rM17, nI_1]
    · by_cases q : s = i
      · subst q; exact am_upL_s
      · rw [am_upL_o q]; exact hP.1 s (by omega)) (fun n K' _ => by
    simp only [lX11_wordAmbiguity_2, sX11_wordAmbiguity_2, yg6, if_true]) K ⟨fun s hs => absurd hs (Nat.not_lt_zero s), vfr.rf _ _ _⟩
  exact ⟨K', e, h1, h2⟩
theorem e_w49 (v : Int32) (j : am_L → Option (Int64 × am_L)) {P : Nat → Nat} {K : am_L} (hP : vecE K 10 6 P) : ∃ K', lX11_wordAmbiguity_49 rM J 1 v j am_fu (0 : Int32) K = j K' ∧ vecE K' 10 6 P ∧ vecE K' 11 6 (fun _ => 0) ∧ vfr K K' 10 11 := by
  obtain ⟨K', e, h1, h2, h3⟩ := am_for0 (fun n i K => lX11_wordAmbiguity_49 rM J 1 v j n (nI i) K) 6 (fun i K' => vecE K' 10 6 P ∧ (∀ s, s < i → K' 11 s = lN 0) ∧ vfr K K' 10 11) j (by omega) (fun n i K' hi hP => by
    refine ⟨am_upL K' 11 i 0, ?_, fun t ht => by rw [am_upL_n (by decide)]; exact hP.1 t ht, fun s hs => ?_, hP.2.2.tr vfr.up2⟩
    · simp only [lX11_wordAmbiguity_49, sX11_wordAmbiguity_49, ng6 hi, if_false, inb (show i < 64 by omega) (show 64 < 1000000 by omega), am_ck_true, am_let_e, nIcl (show i < 1000000 by omega), rM18, nI_1]
    · by_cases q : s = i
      · subst q; rw [am_upL_s]; rfl
      · rw [am_upL_o q]; exact hP.2.1 s (by omega)) (fun n K' _ => by
    simp only [lX11_wordAmbiguity_49, sX11_wordAmbiguity_49, yg6, if_true]) K ⟨hP, fun s hs => absurd hs (Nat.not_lt_zero s), vfr.rf _ _ _⟩
  exact ⟨K', e, h1, h2, h3⟩
theorem e_w80 (hA : isM J A) (hw : aw A) {k s a : Nat} (hk : k < 20) (ha : a < 3) (hka : J 9 k = nI a) (hs : s < A.1) (j : am_L → Option (Int64 × am_L)) {P Q : Nat → Nat} {K : am_L} (hP : vecE K 10 6 P) (hQ : vecE K 11 6 Q) :
    ∃ K', lX11_wordAmbiguity_80 rM J 1 (nI k) (nI s) j am_fu (0 : Int32) K = j K' ∧ vecE K' 10 6 P ∧ vecE K' 11 6 (fun t => Q t + if bt (A.2.2.2 a s) t = true then P s else 0) ∧ vfr K K' 10 11 := by
  have h0 := hA.1
  have h6 := hw.2.1
  obtain ⟨K', e, h1, h2, h3⟩ := am_for0 (fun n i K => lX11_wordAmbiguity_80 rM J 1 (nI k) (nI s) j n (nI i) K) A.1 (fun i K' => vecE K' 10 6 P ∧ (∀ t, t < 6 → K' 11 t = lN (Q t + if t < i ∧ bt (A.2.2.2 a s) t = true then P s else 0)) ∧ vfr K K' 10 11) j (by omega) (fun n i K' hi hI => by
    obtain ⟨i1, i2, i3⟩ := hI
    have e1 := i2 i (by omega)
    rw [if_neg (by omega), Nat.add_zero] at e1
    refine ⟨am_upL K' 11 i (lN (Q i + if bt (A.2.2.2 a s) i = true then P s else 0)), ?_, fun t ht => by rw [am_upL_n (by decide)]; exact i1 t ht, fun t ht => ?_, i3.tr vfr.up2⟩
    · have e2 : ∀ m : Nat, lN (Q i) + lN m = lN (Q i + m) := fun m => lN_add _ _
      by_cases hb : bt (A.2.2.2 a s) i = true
      · simp only [lX11_wordAmbiguity_80, sX11_wordAmbiguity_80, h0, nIge hi (show A.1 < 1000000 by omega), if_false, inb (show i < 64 by omega) (show 64 < 1000000 by omega), inb hk (show 20 < 1000000 by omega), am_ck_true, nIcl (show k < 1000000 by omega), rM15, hka, ix6, inb (show 6 * a + s < 18 by omega) (show 18 < 1000000 by omega), nIcl (show 6 * a + s < 1000000 by omega), rM0, hA.2.2.2 a s ha (by omega), e_hb _ (show i < 32 by omega), am_bd, am_jn_e, bI0, ite_not, Bool.false_eq_true, hb, if_true, inb (show s < 64 by omega) (show 64 < 1000000 by omega), nIcl (show i < 1000000 by omega), nIcl (show s < 1000000 by omega), rM17, rM18, e1, i1 s (by omega), e2, am_let_e, nI_1]
      · have e3 : lN (Q i) + 0 = lN (Q i) := lN_add (Q i) 0
        simp only [lX11_wordAmbiguity_80, sX11_wordAmbiguity_80, h0, nIge hi (show A.1 < 1000000 by omega), if_false, inb (show i < 64 by omega) (show 64 < 1000000 by omega), inb hk (show 20 < 1000000 by omega), am_ck_true, nIcl (show k < 1000000 by omega), rM15, hka, ix6, inb (show 6 * a + s < 18 by omega) (show 18 < 1000000 by omega), nIcl (show 6 * a + s < 1000000 by omega), rM0, hA.2.2.2 a s ha (by omega), e_hb _ (show i < 32 by omega), am_bd, am_jn_e, bI0, ite_not, Bool.false_eq_true, hb, nIcl (show i < 1000000 by omega), rM18, e1, e3, Nat.add_zero, am_let_e, nI_1]
    · by_cases q : t = i
      · subst q; rw [am_upL_s]; congr 2
        by_cases hb : bt (A.2.2.2 a s) t = true
        · rw [if_pos hb, if_pos ⟨by omega, hb⟩]
        · rw [if_neg hb, if_neg (fun h => hb h.2)]
      · rw [am_upL_o q, i2 t ht]
        congr 2
        by_cases c : t < i
        · simp [c, show t < i + 1 by omega]
        · simp [c, show ¬ t < i + 1 by omega]) (fun n K' _ => by
    simp only [lX11_wordAmbiguity_80, sX11_wordAmbiguity_80, h0, nIle (show A.1 < 1000000 by omega), if_true]) K ⟨hP, fun t ht => by rw [hQ t ht, if_neg (by omega)]; rfl, vfr.rf _ _ _⟩
  refine ⟨K', e, h1, fun t ht => ?_, h3⟩
  rw [h2 t ht]
  congr 2
  by_cases hb : bt (A.2.2.2 a s) t = true
  · have : t < A.1 := Nat.lt_of_not_le fun q => T_out hw (Or.inr q) hb
    rw [if_pos hb, if_pos ⟨this, hb⟩]
  · rw [if_neg hb, if_neg (fun h => hb h.2)]
theorem e_w70 (hA : isM J A) (hw : aw A) {k a : Nat} (hk : k < 20) (ha : a < 3) (hka : J 9 k = nI a) (j : am_L → Option (Int64 × am_L)) {P : Nat → Nat} {K : am_L} (hP : vecE K 10 6 P) (hQ : vecE K 11 6 (fun _ => 0)) :
    ∃ K', lX11_wordAmbiguity_70 rM J 1 (nI k) j am_fu (0 : Int32) K = j K' ∧ vecE K' 11 6 (fun t => sumN (fun s => if bt (A.2.2.2 a s) t = true then P s else 0) 6) ∧ vfr K K' 10 11 := by
  have h0 := hA.1
  have h6 := hw.2.1
  obtain ⟨K', e, h1, h2, h3⟩ := am_for0 (fun n i K => lX11_wordAmbiguity_70 rM J 1 (nI k) j n (nI i) K) A.1 (fun i K' => vecE K' 10 6 P ∧ vecE K' 11 6 (fun t => sumN (fun s => if bt (A.2.2.2 a s) t = true then P s else 0) i) ∧ vfr K K' 10 11) j (by omega) (fun n i K' hi hI => by
    obtain ⟨i1, i2, i3⟩ := hI
    obtain ⟨K2, e2, q1, q2, q3⟩ := e_w80 hA hw hk ha hka hi (fun J41 => lX11_wordAmbiguity_70 rM J 1 (nI k) j n (nI i + 1) J41) i1 i2
    refine ⟨K2, ?_, q1, q2, i3.tr q3⟩
    simp only [lX11_wordAmbiguity_70, sX11_wordAmbiguity_70, h0, nIge hi (show A.1 < 1000000 by omega), if_false, am_jn_e]
    rw [e2, nI_1]) (fun n K' _ => by
    simp only [lX11_wordAmbiguity_70, sX11_wordAmbiguity_70, h0, nIle (show A.1 < 1000000 by omega), if_true]) K ⟨hP, hQ, vfr.rf _ _ _⟩
  refine ⟨K', e, fun t ht => ?_, h3⟩
  rw [h2 t ht]
  congr 1
  exact sumN_ext 6 h6 (fun s hs _ => if_neg (T_out hw (Or.inl hs)))
theorem e_w145 (v : Int32) (j : am_L → Option (Int64 × am_L)) {Q : Nat → Nat} {K : am_L} (hQ : vecE K 11 6 Q) : ∃ K', lX11_wordAmbiguity_145 rM J 1 v j am_fu (0 : Int32) K = j K' ∧ vecE K' 10 6 Q ∧ vfr K K' 10 11 := by
  obtain ⟨K', e, h1, h2, h3⟩ := am_for0 (fun n i K => lX11_wordAmbiguity_145 rM J 1 v j n (nI i) K) 6 (fun i K' => (∀ s, s < i → K' 10 s = lN (Q s)) ∧ K' 11 = K 11 ∧ vfr K K' 10 11) j (by omega) (fun n i K' hi hP => by
    refine ⟨am_upL K' 10 i (lN (Q i)), ?_, fun s hs => ?_, by rw [am_upL_n (by decide)]; exact hP.2.1, hP.2.2.tr vfr.up1⟩
    · simp only [lX11_wordAmbiguity_145, sX11_wordAmbiguity_145, ng6 hi, if_false, inb (show i < 64 by omega) (show 64 < 1000000 by omega), am_ck_true, am_let_e, nIcl (show i < 1000000 by omega), rM17, rM18, hP.2.1, hQ i hi, nI_1]
    · by_cases q : s = i
      · subst q; exact am_upL_s
      · rw [am_upL_o q]; exact hP.1 s (by omega)) (fun n K' _ => by
    simp only [lX11_wordAmbiguity_145, sX11_wordAmbiguity_145, yg6, if_true]) K ⟨fun s hs => absurd hs (Nat.not_lt_zero s), rfl, vfr.rf _ _ _⟩
  exact ⟨K', e, h1, h3⟩
theorem e_w179 (hA : isM J A) (hw : aw A) {P : Nat → Nat} {K : am_L} (hP : vecE K 10 6 P) : lX11_wordAmbiguity_179 rM J 1 K am_fu (0 : Int64) (0 : Int32) = some (lN (sumN (fun s => if bt A.2.2.1 s = true then P s else 0) 6), K) := by
  have h0 := hA.1
  have h6 := hw.2.1
  rw [← sumN_ext (f := fun s => if bt A.2.2.1 s = true then P s else 0) 6 h6 (fun s hs _ => if_neg (by rw [(hw.2.2.1 s hs).2]; decide))]
  refine am_forF (fun n i (y : Nat) => lX11_wordAmbiguity_179 rM J 1 K n (lN y) (nI i)) A.1 (fun s y => y + (if bt A.2.2.1 s = true then P s else 0)) (fun y => some (lN y, K)) (by omega) (fun n i y hi => ?_) (fun n y => ?_) 0
  · by_cases hb : bt A.2.2.1 i = true
    · simp only [lX11_wordAmbiguity_179, sX11_wordAmbiguity_179, h0, nIge hi (show A.1 < 1000000 by omega), if_false, hA.2.2.1, e_hb _ (show i < 32 by omega), am_bd, am_jn_e, bI0, ite_not, Bool.false_eq_true, hb, if_true, inb (show i < 64 by omega) (show 64 < 1000000 by omega), am_ck_true, nIcl (show i < 1000000 by omega), rM17, hP i (by omega), lN_add, am_let_e, nI_1]
    · have e3 : lN y + 0 = lN y := lN_add y 0
      simp only [lX11_wordAmbiguity_179, sX11_wordAmbiguity_179, h0, nIge hi (show A.1 < 1000000 by omega), if_false, hA.2.2.1, e_hb _ (show i < 32 by omega), am_bd, am_jn_e, bI0, ite_not, Bool.false_eq_true, hb, e3, Nat.add_zero, am_let_e, nI_1]
  · simp only [lX11_wordAmbiguity_179, sX11_wordAmbiguity_179, h0, nIle (show A.1 < 1000000 by omega), if_true]
theorem e_wordAmbM (hA : isM J A) (hw : aw A) {n : Nat} {c : Nat → Nat} (hn : n ≤ 20) (h16 : J 1 16 = nI n) (hc : ∀ j, c j < 3) (h9 : ∀ j, j < n → J 9 j = nI (c j)) (K : am_L) : ∃ K', pX11_wordAmbiguity rM J K 1 = some (lN (wacc A c n), K') ∧ vfr K K' 10 11 := by
  unfold pX11_wordAmbiguity
  simp only [am_jn_e]
  obtain ⟨K1, e1, h1, h2⟩ := e_w2 hA (fun J2 => lX11_wordAmbiguity_39 rM J 1 (fun J4 => lX11_wordAmbiguity_179 rM J 1 J4 am_fu (0 : Int64) (0 : Int32)) am_fu (0 : Int32) J2) K
  rw [e1]
  obtain ⟨K2, e2, j1, j2⟩ := am_for0 (fun n i K => lX11_wordAmbiguity_39 rM J 1 (fun J4 => lX11_wordAmbiguity_179 rM J 1 J4 am_fu (0 : Int64) (0 : Int32)) n (nI i) K) n (fun i K' => vecE K' 10 6 (wfw A c i) ∧ vfr K K' 10 11) (fun J4 => lX11_wordAmbiguity_179 rM J 1 J4 am_fu (0 : Int64) (0 : Int32)) (by omega) (fun q i K' hi hI => by
    obtain ⟨i1, i2⟩ := hI
    obtain ⟨K3, e3, q1, q2, q3⟩ := e_w49 (J := J) (nI i) (fun J22 => lX11_wordAmbiguity_70 rM J 1 (nI i) (fun J24 => lX11_wordAmbiguity_145 rM J 1 (nI i) (fun J26 => lX11_wordAmbiguity_39 rM J 1 (fun J4 => lX11_wordAmbiguity_179 rM J 1 J4 am_fu (0 : Int64) (0 : Int32)) q (nI i + 1) J26) am_fu (0 : Int32) J24) am_fu (0 : Int32) J22) i1
    obtain ⟨K4, e4, r1, r2⟩ := e_w70 hA hw (show i < 20 by omega) (hc i) (h9 i hi) (fun J24 => lX11_wordAmbiguity_145 rM J 1 (nI i) (fun J26 => lX11_wordAmbiguity_39 rM J 1 (fun J4 => lX11_wordAmbiguity_179 rM J 1 J4 am_fu (0 : Int64) (0 : Int32)) q (nI i + 1) J26) am_fu (0 : Int32) J24) q1 q2
    obtain ⟨K5, e5, s1, s2⟩ := e_w145 (J := J) (nI i) (fun J26 => lX11_wordAmbiguity_39 rM J 1 (fun J4 => lX11_wordAmbiguity_179 rM J 1 J4 am_fu (0 : Int64) (0 : Int32)) q (nI i + 1) J26) r1
    refine ⟨K5, ?_, s1, ((i2.tr q3).tr r2).tr s2⟩
    simp only [lX11_wordAmbiguity_39, sX11_wordAmbiguity_39, h16, nIge hi (show n < 1000000 by omega), if_false, am_jn_e]
    rw [e3, e4, e5, nI_1]) (fun q K' _ => by
    simp only [lX11_wordAmbiguity_39, sX11_wordAmbiguity_39, h16, nIle (show n < 1000000 by omega), if_true]) K1 ⟨h1, h2⟩
  refine ⟨K2, ?_, j2⟩
  refine Eq.trans e2 ?_
  rw [e_w179 hA hw j1]
  rfl
end
theorem wfw_le (A : am_Au) (c : Nat → Nat) : ∀ i t, wfw A c i t ≤ 6 ^ i
  | 0, t => by show ind A.2.1 t ≤ 1; unfold ind; split <;> omega
  | i + 1, t => by
    show sumN _ 6 ≤ 6 ^ i * 6
    have := sumN_le (f := fun s => if bt (A.2.2.2 (c i) s) t = true then wfw A c i s else 0) (g := fun _ => 6 ^ i) 6 (fun s _ => by
      by_cases hb : bt (A.2.2.2 (c i) s) t = true
      · rw [if_pos hb]; exact wfw_le A c i s
      · rw [if_neg hb]; exact Nat.zero_le _)
    refine Nat.le_trans this ?_
    simp only [sumN, am_to]
    omega
theorem wacc_lt (A : am_Au) (c : Nat → Nat) {n : Nat} (hn : n ≤ 20) : wacc A c n < 2 ^ 63 := by
  have h1 : ∀ s, (if bt A.2.2.1 s = true then wfw A c n s else 0) ≤ 6 ^ n := fun s => by
    by_cases hb : bt A.2.2.1 s = true
    · rw [if_pos hb]; exact wfw_le A c n s
    · rw [if_neg hb]; exact Nat.zero_le _
  have h2 := sumN_le (f := fun s => if bt A.2.2.1 s = true then wfw A c n s else 0) (g := fun _ => 6 ^ n) 6 (fun s _ => h1 s)
  have h3 : (6 : Nat) ^ n ≤ 6 ^ 20 := Nat.pow_le_pow_right (by decide) hn
  have h4 : sumN (fun _ => 6 ^ n) 6 = 6 * 6 ^ n := by simp only [sumN, am_to]; omega
  have h5 : (6 : Nat) ^ 20 * 6 < 2 ^ 63 := by decide
  show sumN _ 6 < 2 ^ 63
  omega
