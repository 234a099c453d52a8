/-! counting paths: the class's programs -/
def vec (L : am_L) (p : Nat) (c : Int64) (N : Nat) (P : Nat → Nat) : Prop := ∀ s, s < N → L p s = sat c (P s)
def vfr (L L' : am_L) (p q : Nat) : Prop := ∀ b, b ≠ p → b ≠ q → L' b = L b
theorem vfr.rf (L : am_L) (p q : Nat) : vfr L L p q := fun _ _ _ => rfl
theorem vfr.tr {L L' L2 : am_L} {p q : Nat} (h : vfr L L' p q) (g : vfr L' L2 p q) : vfr L L2 p q := fun b x y => (g b x y).trans (h b x y)
theorem vfr.up1 {L : am_L} {p q k : Nat} {v : Int64} : vfr L (am_upL L p k v) p q := fun b x _ => am_upL_n x
theorem vfr.up2 {L : am_L} {p q k : Nat} {v : Int64} : vfr L (am_upL L q k v) p q := fun b _ y => am_upL_n y
theorem sat_ind (c : Int64) (x : Int32) (s : Nat) : (if bI (bt x s) = 0 then (0 : Int64) else 1) = sat c (ind x s) := by
  unfold ind
  cases bt x s <;> rfl
section
variable {R : am_R} {I : am_I} {L : am_L} {o u : Nat} {A : am_Au}
theorem e_startPaths (hA : isA I u (R u 3) A) (hpq : R o 0 ≠ R o 1) (L : am_L) : ∃ L', pX1_startPaths R I L o u = some L' ∧ vec L' (R o 0) (-6) 6 (ind A.2.1) ∧ vec L' (R o 1) (-6) 6 (fun _ => 0) ∧ vfr L L' (R o 0) (R o 1) := by
  unfold pX1_startPaths
  obtain ⟨L', e, h1, h2, h3⟩ := am_for0 (fun n i L => lX1_startPaths_2 R I o u n (nI i) L) 6 (fun i L' => (∀ s, s < i → L' (R o 0) s = sat (-6) (ind A.2.1 s)) ∧ (∀ s, s < i → L' (R o 1) s = sat (-6) 0) ∧ vfr L L' (R o 0) (R o 1)) (fun L => some L) (by omega) (fun n i L' hi hP => by
    refine ⟨am_upL (am_upL L' (R o 0) i (sat (-6) (ind A.2.1 i))) (R o 1) i 0, ?_, fun s hs => ?_, fun s hs => ?_, (hP.2.2.tr vfr.up1).tr vfr.up2⟩
    · simp only [lX1_startPaths_2, sX1_startPaths_2, ng6 hi, if_false, hA.2.1, e_cb _ (show i < 32 by omega), am_bd, am_let_e, inb hi (show 6 < 1000000 by omega), am_ck_true, nIcl (show i < 1000000 by omega), sat_ind (-6), nI_1]
    · rw [am_upL_n hpq]
      by_cases q : s = i
      · subst q; exact am_upL_s
      · rw [am_upL_o q]; exact hP.1 s (by omega)
    · by_cases q : s = i
      · subst q; rw [am_upL_s]; rfl
      · rw [am_upL_o q, am_upL_n (Ne.symm hpq)]; exact hP.2.1 s (by omega)) (fun n L' _ => by
    simp only [lX1_startPaths_2, sX1_startPaths_2, yg6, if_true]) L ⟨fun s hs => absurd hs (Nat.not_lt_zero s), fun s hs => absurd hs (Nat.not_lt_zero s), vfr.rf _ _ _⟩
  exact ⟨L', e, h1, h2, h3⟩
theorem e_ext19 (hpq : R o 0 ≠ R o 1) (T x2 : Int32) (j : am_L → Option am_L) {P Q : Nat → Nat} {s : Nat} (hs : s < 6) {L : am_L} (hP : vec L (R o 0) (-6) 6 P) (hQ : vec L (R o 1) (-6) 6 Q) :
    ∃ L', lX1_extendPathsBy_19 R I o u x2 (nI s) T j am_fu (0 : Int32) L = j L' ∧ vec L' (R o 0) (-6) 6 P ∧ vec L' (R o 1) (-6) 6 (fun t => Q t + if bt T t = true then P s else 0) ∧ vfr L L' (R o 0) (R o 1) := by
  obtain ⟨L', e, h1, h2, h3⟩ := am_for0 (fun n i L => lX1_extendPathsBy_19 R I o u x2 (nI s) T j n (nI i) L) 6 (fun i L' => vec L' (R o 0) (-6) 6 P ∧ (∀ t, t < 6 → L' (R o 1) t = sat (-6) (Q t + if t < i ∧ bt T t = true then P s else 0)) ∧ vfr L L' (R o 0) (R o 1)) j (by omega) (fun n i L' hi hI => by
    obtain ⟨i1, i2, i3⟩ := hI
    by_cases hb : bt T i = true
    · refine ⟨am_upL L' (R o 1) i (sat (-6) (Q i + P s)), ?_, fun t ht => by rw [am_upL_n hpq]; exact i1 t ht, fun t ht => ?_, i3.tr vfr.up2⟩
      · have e1 := i2 i hi
        rw [if_neg (by omega), Nat.add_zero] at e1
        simp only [lX1_extendPathsBy_19, sX1_extendPathsBy_19, ng6 hi, if_false, e_cb _ (show i < 32 by omega), am_bd, am_jn_e, bI0, ite_not, hb, if_true, inb hi (show 6 < 1000000 by omega), inb hs (show 6 < 1000000 by omega), am_ck_true, nIcl (show i < 1000000 by omega), nIcl (show s < 1000000 by omega), e1, i1 s hs, e_sum, am_let_e, nI_1]
      · by_cases q : t = i
        · subst q; rw [am_upL_s, if_pos ⟨by omega, hb⟩]
        · rw [am_upL_o q, i2 t ht]
          congr 2
          by_cases c : t < i
          · simp [c, show t < i + 1 by omega]
          · simp [c, show ¬ t < i + 1 by omega]
    · refine ⟨L', ?_, i1, fun t ht => ?_, i3⟩
      · simp only [lX1_extendPathsBy_19, sX1_extendPathsBy_19, ng6 hi, if_false, e_cb _ (show i < 32 by omega), am_bd, am_jn_e, bI0, ite_not, hb, Bool.false_eq_true, nI_1]
      · rw [i2 t ht]
        congr 2
        by_cases q : t = i
        · subst q; rw [if_neg (fun h => hb h.2), if_neg (fun h => hb h.2)]
        · by_cases c : t < i
          · simp [c, show t < i + 1 by omega]
          · simp [c, show ¬ t < i + 1 by omega]) (fun n L' _ => by
    simp only [lX1_extendPathsBy_19, sX1_extendPathsBy_19, yg6, if_true]) L ⟨hP, fun t ht => by rw [hQ t ht, if_neg (by omega)]; rfl, vfr.rf _ _ _⟩
  exact ⟨L', e, h1, fun t ht => by rw [h2 t ht]; simp [ht], h3⟩
theorem e_extendPathsBy (hA : isA I u (R u 3) A) (hw : aw A) (hpq : R o 0 ≠ R o 1) {a : Nat} (ha : a < 3) {P Q : Nat → Nat} {L : am_L} (hP : vec L (R o 0) (-6) 6 P) (hQ : vec L (R o 1) (-6) 6 Q) :
    ∃ L', pX1_extendPathsBy R I L o u (nI a) = some L' ∧ vec L' (R o 0) (-6) 6 P ∧ vec L' (R o 1) (-6) 6 (fun t => Q t + sumN (fun s => if bt (A.2.2.2 a s) t = true then P s else 0) 6) ∧ vfr L L' (R o 0) (R o 1) := by
  unfold pX1_extendPathsBy
  obtain ⟨L', e, h1, h2, h3⟩ := am_for0 (fun n i L => lX1_extendPathsBy_2 R I o u (nI a) n (nI i) L) 6 (fun i L' => vec L' (R o 0) (-6) 6 P ∧ vec L' (R o 1) (-6) 6 (fun t => Q t + sumN (fun s => if bt (A.2.2.2 a s) t = true then P s else 0) i) ∧ vfr L L' (R o 0) (R o 1)) (fun L => some L) (by omega) (fun n i L' hi hI => by
    obtain ⟨i1, i2, i3⟩ := hI
    obtain ⟨L2, e2, j1, j2, j3⟩ := e_ext19 (I := I) (u := u) hpq (A.2.2.2 a i) (nI a) (fun J9 => lX1_extendPathsBy_2 R I o u (nI a) n (nI i + 1) J9) hi i1 i2
    refine ⟨L2, ?_, j1, fun t ht => ?_, i3.tr j3⟩
    · simp only [lX1_extendPathsBy_2, sX1_extendPathsBy_2, ng6 hi, if_false, e_targetsOf hA hw i a (show i < 100 by omega) (show a < 100 by omega), am_bd, am_jn_e]
      rw [e2, nI_1]
    · rw [j2 t ht]
      show sat (-6) (Q t + sumN (fun s => if bt (A.2.2.2 a s) t = true then P s else 0) i + (if bt (A.2.2.2 a i) t = true then P i else 0)) = sat (-6) (Q t + sumN (fun s => if bt (A.2.2.2 a s) t = true then P s else 0) (i + 1))
      rw [sumN_s, Nat.add_assoc]) (fun n L' _ => by
    simp only [lX1_extendPathsBy_2, sX1_extendPathsBy_2, yg6, if_true]) L ⟨hP, fun t ht => by rw [hQ t ht]; rfl, vfr.rf _ _ _⟩
  exact ⟨L', e, h1, h2, h3⟩
theorem e_take (hpq : R o 0 ≠ R o 1) {P Q : Nat → Nat} {L : am_L} (hP : vec L (R o 0) (-6) 6 P) (hQ : vec L (R o 1) (-6) 6 Q) :
    ∃ L', pX1_takeNextPaths R L o = some L' ∧ vec L' (R o 0) (-6) 6 Q ∧ vec L' (R o 1) (-6) 6 (fun _ => 0) ∧ vfr L L' (R o 0) (R o 1) := by
  unfold pX1_takeNextPaths
  obtain ⟨L', e, h1, h2, h3, h4⟩ := am_for0 (fun n i L => lX1_takeNextPaths_2 R o n (nI i) L) 6 (fun i L' => (∀ s, s < i → L' (R o 0) s = sat (-6) (Q s)) ∧ (∀ s, s < i → L' (R o 1) s = sat (-6) 0) ∧ (∀ s, i ≤ s → s < 6 → L' (R o 1) s = sat (-6) (Q s)) ∧ vfr L L' (R o 0) (R o 1)) (fun L => some L) (by omega) (fun n i L' hi hI => by
    obtain ⟨i1, i2, i3, i4⟩ := hI
    refine ⟨am_upL (am_upL L' (R o 0) i (sat (-6) (Q i))) (R o 1) i 0, ?_, fun s hs => ?_, fun s hs => ?_, fun s h5 hs => ?_, (i4.tr vfr.up1).tr vfr.up2⟩
    · simp only [lX1_takeNextPaths_2, sX1_takeNextPaths_2, ng6 hi, if_false, inb hi (show 6 < 1000000 by omega), am_ck_true, am_let_e, nIcl (show i < 1000000 by omega), i3 i (Nat.le_refl i) hi, nI_1]
    · rw [am_upL_n hpq]
      by_cases q : s = i
      · subst q; exact am_upL_s
      · rw [am_upL_o q]; exact i1 s (by omega)
    · by_cases q : s = i
      · subst q; rw [am_upL_s]; rfl
      · rw [am_upL_o q, am_upL_n (Ne.symm hpq)]; exact i2 s (by omega)
    · rw [am_upL_o (by omega), am_upL_n (Ne.symm hpq)]; exact i3 s (by omega) hs) (fun n L' _ => by
    simp only [lX1_takeNextPaths_2, sX1_takeNextPaths_2, yg6, if_true]) L ⟨fun s hs => absurd hs (Nat.not_lt_zero s), fun s hs => absurd hs (Nat.not_lt_zero s), fun s _ hs => hQ s hs, vfr.rf _ _ _⟩
  exact ⟨L', e, h1, h2, h4⟩
theorem e_extendPaths (hA : isA I u (R u 3) A) (hw : aw A) (hpq : R o 0 ≠ R o 1) {P : Nat → Nat} {L : am_L} (hP : vec L (R o 0) (-6) 6 P) (hQ : vec L (R o 1) (-6) 6 (fun _ => 0)) :
    ∃ L', pX1_extendPaths R I L o u = some L' ∧ vec L' (R o 0) (-6) 6 (fwd A P) ∧ vec L' (R o 1) (-6) 6 (fun _ => 0) ∧ vfr L L' (R o 0) (R o 1) := by
  unfold pX1_extendPaths
  obtain ⟨L1, e, h1, h2, h3⟩ := am_for0 (fun n i L => lX1_extendPaths_2 R I o u (fun J2 => Option.bind (pX1_takeNextPaths R J2 o) (fun r3 => some r3)) n (nI i) L) 3 (fun i L' => vec L' (R o 0) (-6) 6 P ∧ vec L' (R o 1) (-6) 6 (fun t => sumN (fun a => sumN (fun s => if bt (A.2.2.2 a s) t = true then P s else 0) 6) i) ∧ vfr L L' (R o 0) (R o 1)) (fun J2 => Option.bind (pX1_takeNextPaths R J2 o) (fun r3 => some r3)) (by omega) (fun n i L' hi hI => by
    obtain ⟨i1, i2, i3⟩ := hI
    obtain ⟨L2, e2, j1, j2, j3⟩ := e_extendPathsBy hA hw hpq hi i1 i2
    exact ⟨L2, by simp only [lX1_extendPaths_2, sX1_extendPaths_2, ng3 hi, if_false, e2, am_bd, nI_1], j1, j2, i3.tr j3⟩) (fun n L' _ => by
    simp only [lX1_extendPaths_2, sX1_extendPaths_2, yg3, if_true]) L ⟨hP, hQ, vfr.rf _ _ _⟩
  obtain ⟨L2, e2, j1, j2, j3⟩ := e_take hpq h1 h2
  refine ⟨L2, ?_, j1, j2, h3.tr j3⟩
  refine Eq.trans e ?_
  rw [e2, am_bd]
theorem e_accepted (hA : isA I u (R u 3) A) {P : Nat → Nat} {L : am_L} (hP : vec L (R o 0) (-6) 6 P) : pX1_acceptedPaths R I L o u = some (sat (-6) (sumN (fun s => if bt A.2.2.1 s = true then P s else 0) 6)) := by
  unfold pX1_acceptedPaths
  refine am_forF (fun n i (y : Nat) => lX1_acceptedPaths_5 R I L o u n (sat (-6) y) (nI i)) 6 (fun s y => y + (if bt A.2.2.1 s = true then P s else 0)) (fun y => some (sat (-6) y)) (by omega) (fun n i y hi => ?_) (fun n y => ?_) 0
  · by_cases hb : bt A.2.2.1 i = true
    · simp only [lX1_acceptedPaths_5, sX1_acceptedPaths_5, ng6 hi, if_false, hA.2.2.1, e_cb _ (show i < 32 by omega), am_bd, am_jn_e, bI0, ite_not, hb, if_true, inb hi (show 6 < 1000000 by omega), am_ck_true, nIcl (show i < 1000000 by omega), hP i hi, e_sum, nI_1]
    · simp only [lX1_acceptedPaths_5, sX1_acceptedPaths_5, ng6 hi, if_false, hA.2.2.1, e_cb _ (show i < 32 by omega), am_bd, am_jn_e, bI0, ite_not, hb, Bool.false_eq_true, Nat.add_zero, nI_1]
  · simp only [lX1_acceptedPaths_5, sX1_acceptedPaths_5, yg6, if_true]
theorem e_countPaths (hA : isA I u (R u 3) A) (hw : aw A) (hpq : R o 0 ≠ R o 1) (L : am_L) {k : Nat} (hk : k < 1000) : ∃ L', pX1_countPaths R I L o u (nI k) = some (sat (-6) (pths A k), L') ∧ vfr L L' (R o 0) (R o 1) := by
  unfold pX1_countPaths
  obtain ⟨L1, e1, h1, h2, h3⟩ := e_startPaths hA hpq L
  rw [e1, am_bd, am_jn_e]
  obtain ⟨L2, e2, j1, j2, j3⟩ := am_for0 (fun n i L => lX1_countPaths_7 R I o u (nI k) (fun J3 => Option.bind (pX1_acceptedPaths R I J3 o u) (fun r4 => some (r4, J3))) n (nI i) L) k (fun i L' => vec L' (R o 0) (-6) 6 (fwdN A i (ind A.2.1)) ∧ vec L' (R o 1) (-6) 6 (fun _ => 0) ∧ vfr L L' (R o 0) (R o 1)) (fun J3 => Option.bind (pX1_acceptedPaths R I J3 o u) (fun r4 => some (r4, J3))) (by omega) (fun n i L' hi hI => by
    obtain ⟨i1, i2, i3⟩ := hI
    obtain ⟨L2, e2, j1, j2, j3⟩ := e_extendPaths hA hw hpq i1 i2
    exact ⟨L2, by simp only [lX1_countPaths_7, sX1_countPaths_7, nIge hi (show k < 1000000 by omega), if_false, e2, am_bd, nI_1], j1, j2, i3.tr j3⟩) (fun n L' _ => by
    simp only [lX1_countPaths_7, sX1_countPaths_7, nIle (show k < 1000000 by omega), if_true]) L1 ⟨h1, h2, h3⟩
  refine ⟨L2, ?_, j3⟩
  refine Eq.trans e2 ?_
  rw [e_accepted hA j1, am_bd]
  rfl
theorem am_cmp_ge {x : Int32} : 0 ≤ x ↔ ¬ x < 0 := by
  rw [Int32.le_iff_toInt_le, Int32.lt_iff_toInt_lt]
  omega
/-- all numbers of paths below n are longs -/
theorem e_fillCounts (hA : isA I u (R u 3) A) (hw : aw A) (hpq : R o 0 ≠ R o 1) {f : Nat} (hf0 : f ≠ R o 0) (hf1 : f ≠ R o 1) (L : am_L) {m : Nat} (hm : m ≤ 31) :
    ∃ L', (∀ b, b ≠ R o 0 → b ≠ R o 1 → b ≠ f → L' b = L b) ∧ ((pX1_fillCounts R I L o u f (nI m) = some (1, L') ∧ ∀ k, k < m → pths A k < 2 ^ 63 ∧ L' f k = lN (pths A k)) ∨ (pX1_fillCounts R I L o u f (nI m) = some (0, L') ∧ ∃ k, k < m ∧ ¬ pths A k < 2 ^ 63)) := by
  unfold pX1_fillCounts
  obtain ⟨L1, e1, h1, h2, h3⟩ := e_startPaths hA hpq L
  rw [e1, am_bd]
  have key := am_forQ (fun n i L => lX1_fillCounts_8 R I o u f (nI m) n (nI i) L) m (fun i L' => vec L' (R o 0) (-6) 6 (fwdN A i (ind A.2.1)) ∧ vec L' (R o 1) (-6) 6 (fun _ => 0) ∧ (∀ k, k < i → pths A k < 2 ^ 63 ∧ L' f k = lN (pths A k)) ∧ ∀ b, b ≠ R o 0 → b ≠ R o 1 → b ≠ f → L' b = L b)
    (fun r => ∃ L', (∀ b, b ≠ R o 0 → b ≠ R o 1 → b ≠ f → L' b = L b) ∧ ((r = some (1, L') ∧ ∀ k, k < m → pths A k < 2 ^ 63 ∧ L' f k = lN (pths A k)) ∨ (r = some ((0 : Int32), L') ∧ ∃ k, k < m ∧ ¬ pths A k < 2 ^ 63))) (by omega) (fun n i L' hi hI => by
      obtain ⟨i1, i2, i3, i4⟩ := hI
      have ea : pX1_acceptedPaths R I L' o u = some (sat (-6) (pths A i)) := e_accepted hA i1
      have hn : ¬ nI m ≤ nI i := nIge hi (by omega)
      have v1 : vec (am_upL L' f i (sat (-6) (pths A i))) (R o 0) (-6) 6 (fwdN A i (ind A.2.1)) := fun t ht => by rw [am_upL_n (Ne.symm hf0)]; exact i1 t ht
      have v2 : vec (am_upL L' f i (sat (-6) (pths A i))) (R o 1) (-6) 6 (fun _ => 0) := fun t ht => by rw [am_upL_n (Ne.symm hf1)]; exact i2 t ht
      by_cases hs : pths A i < 2 ^ 63
      · left
        obtain ⟨L2, e2, j1, j2, j3⟩ := e_extendPaths hA hw hpq v1 v2
        have hge : 0 ≤ lg_cmp (sat (-6) (pths A i)) 0 := am_cmp_ge.mpr (fun q => (sat_neg (by decide) _).mp q hs)
        refine ⟨L2, ?_, j1, j2, fun k hk => ?_, fun b x y z => ?_⟩
        · simp only [lX1_fillCounts_8, sX1_fillCounts_8, hn, if_false, ng31 (show i < 31 by omega), ea, am_bd, inb (show i < 31 by omega) (show 31 < 1000000 by omega), am_ck_true, am_let_e, nIcl (show i < 1000000 by omega), am_upL_s, hge, if_true, e2, nI_1]
        · rw [j3 f hf0 hf1]
          by_cases q : k = i
          · subst q; rw [am_upL_s]; exact ⟨hs, sat_lt hs⟩
          · rw [am_upL_o q]; exact i3 k (by omega)
        · rw [j3 b x y, am_upL_n z]; exact i4 b x y z
      · right
        have hge : ¬ 0 ≤ lg_cmp (sat (-6) (pths A i)) 0 := fun q => am_cmp_ge.mp q ((sat_neg (by decide) _).mpr hs)
        refine ⟨am_upL L' f i (sat (-6) (pths A i)), fun b x y z => by rw [am_upL_n z]; exact i4 b x y z, Or.inr ⟨?_, i, hi, hs⟩⟩
        simp only [lX1_fillCounts_8, sX1_fillCounts_8, hn, if_false, ng31 (show i < 31 by omega), ea, am_bd, inb (show i < 31 by omega) (show 31 < 1000000 by omega), am_ck_true, am_let_e, nIcl (show i < 1000000 by omega), am_upL_s, hge]) (fun n L' hI => by
      refine ⟨L', hI.2.2.2, Or.inl ⟨?_, hI.2.2.1⟩⟩
      simp only [lX1_fillCounts_8, sX1_fillCounts_8, nIle (show m < 1000000 by omega), if_true]) L1 ⟨h1, h2, fun k hk => absurd hk (Nat.not_lt_zero k), fun b x y _ => h3 b x y⟩
  exact key
/-- numbers of paths with a word, forwards -/
def wfw (A : am_Au) (c : Nat → Nat) : Nat → Nat → Nat
  | 0 => ind A.2.1
  | i + 1 => fun t => sumN (fun s => if bt (A.2.2.2 (c i) s) t = true then wfw A c i s else 0) 6
def wacc (A : am_Au) (c : Nat → Nat) (n : Nat) : Nat := sumN (fun s => if bt A.2.2.1 s = true then wfw A c n s else 0) 6
theorem e_pathsOf (hA : isA I u (R u 3) A) (hw : aw A) (hpq : R o 0 ≠ R o 1) (L : am_L) {d n : Nat} {c : Nat → Nat} (hd0 : I d 0 = nI n) (hn : n ≤ 216) (hd : ∀ j, j < n → I (R d 1) j = nI (c j)) (hc : ∀ j, c j < 3) : ∃ L', pX1_pathsOf R I L o u d = some (sat (-6) (wacc A c n), L') ∧ vfr L L' (R o 0) (R o 1) := by
  unfold pX1_pathsOf
  obtain ⟨L1, e1, h1, h2, h3⟩ := e_startPaths hA hpq L
  rw [e1, am_bd, am_jn_e]
  obtain ⟨L2, e2, j1, j2, j3⟩ := am_for0 (fun q i L => lX1_pathsOf_7 R I o u d (fun J3 => Option.bind (pX1_acceptedPaths R I J3 o u) (fun r4 => some (r4, J3))) q (nI i) L) n (fun i L' => vec L' (R o 0) (-6) 6 (wfw A c i) ∧ vec L' (R o 1) (-6) 6 (fun _ => 0) ∧ vfr L L' (R o 0) (R o 1)) (fun J3 => Option.bind (pX1_acceptedPaths R I J3 o u) (fun r4 => some (r4, J3))) (by omega) (fun q i L' hi hI => by
    obtain ⟨i1, i2, i3⟩ := hI
    obtain ⟨L2, e2, j1, j2, j3⟩ := e_extendPathsBy hA hw hpq (hc i) i1 i2
    obtain ⟨L3, e3, k1, k2, k3⟩ := e_take hpq j1 j2
    refine ⟨L3, ?_, fun t ht => ?_, k2, (i3.tr j3).tr k3⟩
    · simp only [lX1_pathsOf_7, sX1_pathsOf_7, hd0, nIge hi (show n < 1000000 by omega), if_false, e_letterAt hd0 hn hi, hd i hi, am_bd, e2, e3, nI_1]
    · rw [k1 t ht]
      show sat (-6) (0 + sumN (fun s => if bt (A.2.2.2 (c i) s) t = true then wfw A c i s else 0) 6) = sat (-6) (wfw A c (i + 1) t)
      rw [Nat.zero_add]; rfl) (fun q L' _ => by
    simp only [lX1_pathsOf_7, sX1_pathsOf_7, hd0, nIle (show n < 1000000 by omega), if_true]) L1 ⟨h1, h2, h3⟩
  refine ⟨L2, ?_, j3⟩
  refine Eq.trans e2 ?_
  rw [e_accepted hA j1, am_bd]
  rfl
end
