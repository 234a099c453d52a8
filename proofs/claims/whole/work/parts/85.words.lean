/-! counting words -/
/-- the set behind a set, as a number -/
def dl (A : am_Au) (a X : Nat) : Nat := (stp A (nI X) a).toBitVec.toNat % 64
theorem dl_e {A : am_Au} (hw : aw A) (a X : Nat) : stp A (nI X) a = nI (dl A a X) := by
  obtain ⟨n, hn, e⟩ := lon_nI ((lon_stp hw (nI X) a).le hw.2.1)
  unfold dl
  rw [e, pk_tn (by omega), Nat.mod_eq_of_lt hn]
theorem dl_lt (A : am_Au) (a X : Nat) : dl A a X < 64 := Nat.mod_lt _ (by decide)
theorem lon_lt : ∀ n, n ≤ 6 → ∀ X, X < 64 → (∀ k, k < 6 → n ≤ k → X.testBit k = false) → X < 2 ^ n := by decide +kernel
theorem dl_lt2 {A : am_Au} (hw : aw A) (a X : Nat) : dl A a X < 2 ^ A.1 := by
  refine lon_lt A.1 hw.2.1 _ (dl_lt A a X) (fun k hk hn => ?_)
  rw [← bt_nI _ (dl_lt A a X) k (by omega), ← dl_e hw]
  exact lon_stp hw _ a k hn
theorem dl_0 {A : am_Au} (hw : aw A) (a : Nat) : dl A a 0 = 0 := by
  have h := dl_e hw a 0
  rw [show nI 0 = (0 : Int32) from nI_0, stp_0, show (0 : Int32) = nI 0 from nI_0.symm] at h
  exact ((nI_eq (by omega) (by have := dl_lt A a 0; omega)).mp h).symm
def fwdW (A : am_Au) (F : Nat → Nat) (Y : Nat) : Nat := sumN (fun X => if X = 0 then 0 else sumN (fun a => if dl A a X = Y then F X else 0) 3) 64
def bwdW (A : am_Au) (V : Nat → Nat) (X : Nat) : Nat := if X = 0 then 0 else sumN (fun a => V (dl A a X)) 3
def fwdWN (A : am_Au) (k : Nat) (F : Nat → Nat) : Nat → Nat := am_to (fun _ F => fwdW A F) k F
def bwdWN (A : am_Au) (k : Nat) (V : Nat → Nat) : Nat → Nat := am_to (fun _ V => bwdW A V) k V
theorem ip_fwdW (A : am_Au) (F V : Nat → Nat) : ip 64 (fwdW A F) V = ip 64 F (bwdW A V) := by
  unfold ip fwdW
  have e1 : ∀ Y, sumN (fun X => if X = 0 then 0 else sumN (fun a => if dl A a X = Y then F X else 0) 3) 64 * V Y = sumN (fun X => if X = 0 then 0 else sumN (fun a => if dl A a X = Y then F X * V Y else 0) 3) 64 := fun Y => by
    rw [← sumN_mulr]
    refine sumN_congr 64 fun X _ => ?_
    by_cases q : X = 0
    · rw [if_pos q, if_pos q, Nat.zero_mul]
    · rw [if_neg q, if_neg q, ← sumN_mulr]
      exact sumN_congr 3 fun a _ => ite_mul _ _
  rw [sumN_congr 64 (fun Y _ => e1 Y), sumN_swap]
  refine sumN_congr 64 fun X _ => ?_
  show sumN (fun Y => if X = 0 then 0 else sumN (fun a => if dl A a X = Y then F X * V Y else 0) 3) 64 = F X * bwdW A V X
  unfold bwdW
  by_cases q : X = 0
  · simp only [q, if_true, Nat.mul_zero]
    exact sumN_zero 64
  · simp only [q, if_false]
    rw [sumN_swap, ← sumN_mul]
    refine sumN_congr 3 fun a _ => ?_
    rw [sumN_one (k := dl A a X) 64 (dl_lt A a X) (fun Y _ hY => if_neg (Ne.symm hY)), if_pos rfl]
theorem bwdWN_shift (A : am_Au) : ∀ k W, bwdWN A (k + 1) W = bwdWN A k (bwdW A W)
  | 0, _ => rfl
  | k + 1, W => by
    show bwdW A (bwdWN A (k + 1) W) = bwdW A (bwdWN A k (bwdW A W))
    rw [bwdWN_shift A k W]
theorem ip_WN (A : am_Au) (P : Nat → Nat) : ∀ k W, ip 64 (fwdWN A k P) W = ip 64 P (bwdWN A k W)
  | 0, _ => rfl
  | k + 1, W => by
    rw [bwdWN_shift, ← ip_WN A P k (bwdW A W), ← ip_fwdW]
    rfl
def iniW (x : Int32) (X : Nat) : Nat := if nI X = x then 1 else 0
def finW (x : Int32) (X : Nat) : Nat := if nI X &&& x = 0 then 0 else 1
/-- the number of accepted words of a length -/
def wrds (A : am_Au) (k : Nat) : Nat := sumN (fun X => if nI X &&& A.2.2.1 = 0 then 0 else fwdWN A k (iniW A.2.1) X) 64
theorem wrds_b {A : am_Au} (hw : aw A) {X0 : Nat} (hX : X0 < 64) (h : A.2.1 = nI X0) (k : Nat) : wrds A k = bwdWN A k (finW A.2.2.1) X0 := by
  have e1 : wrds A k = ip 64 (fwdWN A k (iniW A.2.1)) (finW A.2.2.1) := sumN_congr 64 fun X _ => by
    show _ = _ * finW A.2.2.1 X
    unfold finW
    by_cases q : nI X &&& A.2.2.1 = 0
    · rw [if_pos q, if_pos q, Nat.mul_zero]
    · rw [if_neg q, if_neg q, Nat.mul_one]
  rw [e1, ip_WN]
  show sumN (fun X => iniW A.2.1 X * bwdWN A k (finW A.2.2.1) X) 64 = _
  rw [sumN_one (k := X0) 64 hX (fun X hX' hne => by
    unfold iniW
    rw [h, if_neg (fun q => hne ((nI_eq (by omega) (by omega)).mp q)), Nat.zero_mul])]
  unfold iniW
  rw [h, if_pos rfl, Nat.one_mul]
/-- never more words than paths -/
theorem wrds_le {A : am_Au} (hw : aw A) : ∀ k X, X < 64 → bwdWN A k (finW A.2.2.1) X ≤ sumN (fun s => if bt (nI X) s = true then bwdN A k (ind A.2.2.1) s else 0) 6
  | 0, X, hX => by
    show finW A.2.2.1 X ≤ sumN (fun s => if bt (nI X) s = true then ind A.2.2.1 s else 0) 6
    unfold finW
    by_cases q : nI X &&& A.2.2.1 = 0
    · rw [if_pos q]; exact Nat.zero_le _
    · rw [if_neg q]
      obtain ⟨s, h1, h2⟩ := and_ne.mp q
      have hs : s < 6 := Nat.lt_of_not_le fun g => by
        rw [(hw.2.2.1 s (Nat.le_trans hw.2.1 g)).2] at h2; cases h2
      refine Nat.le_trans ?_ (sumN_ge (k := s) 6 hs)
      show 1 ≤ if bt (nI X) s = true then ind A.2.2.1 s else 0
      rw [if_pos h1]
      unfold ind
      rw [if_pos h2]
      exact Nat.le_refl 1
  | k + 1, X, hX => by
    show bwdW A (bwdWN A k (finW A.2.2.1)) X ≤ sumN (fun s => if bt (nI X) s = true then bwd A (bwdN A k (ind A.2.2.1)) s else 0) 6
    unfold bwdW
    by_cases q : X = 0
    · rw [if_pos q]; exact Nat.zero_le _
    · rw [if_neg q]
      generalize hB : bwdN A k (ind A.2.2.1) = B
      have e1 : ∀ s, (if bt (nI X) s = true then bwd A B s else 0) = sumN (fun a => if bt (nI X) s = true then sumN (fun t => if bt (A.2.2.2 a s) t = true then B t else 0) 6 else 0) 3 := fun s => by
        by_cases hb : bt (nI X) s = true
        · simp only [hb, if_true]; rfl
        · simp only [hb]; exact (sumN_zero 3).symm
      rw [sumN_congr 6 (fun s _ => e1 s), sumN_swap]
      refine sumN_le 3 fun a ha => ?_
      refine Nat.le_trans (wrds_le hw k (dl A a X) (dl_lt A a X)) ?_
      rw [hB, ← dl_e hw]
      have e2 : sumN (fun s => if bt (nI X) s = true then sumN (fun t => if bt (A.2.2.2 a s) t = true then B t else 0) 6 else 0) 6 = sumN (fun t => sumN (fun s => if bt (nI X) s = true then (if bt (A.2.2.2 a s) t = true then B t else 0) else 0) 6) 6 := by
        rw [← sumN_swap]
        refine sumN_congr 6 fun s _ => ?_
        by_cases hb : bt (nI X) s = true
        · simp only [hb, if_true]
        · simp only [hb]; exact (sumN_zero 6).symm
      show _ ≤ sumN (fun s => if bt (nI X) s = true then sumN (fun t => if bt (A.2.2.2 a s) t = true then B t else 0) 6 else 0) 6
      rw [e2]
      refine sumN_le 6 fun t _ => ?_
      by_cases hb : bt (stp A (nI X) a) t = true
      · rw [if_pos hb]
        obtain ⟨s, h1, h2, h3⟩ := bt_stp.mp hb
        refine Nat.le_trans ?_ (sumN_ge (k := s) 6 (by have := hw.2.1; omega))
        show B t ≤ if bt (nI X) s = true then (if bt (A.2.2.2 a s) t = true then B t else 0) else 0
        rw [if_pos h2, if_pos h3]
        exact Nat.le_refl _
      · rw [if_neg hb]; exact Nat.zero_le _
theorem wrds_le_pths {A : am_Au} (hw : aw A) (k : Nat) : wrds A k ≤ pths A k := by
  obtain ⟨X0, hX, h⟩ := lon_nI (x := A.2.1) (fun k hk => (hw.2.2.1 k (Nat.le_trans hw.2.1 hk)).1)
  rw [wrds_b hw hX h, pths_b, h]
  exact wrds_le hw k X0 hX
/-! the class's programs -/
section
variable {R : am_R} {I : am_I} {c o u : Nat} {A : am_Au}
theorem e_x2 (hd : R c 2 ≠ R c 3) (j : am_L → Option am_L) {F : Nat → Nat} {L : am_L} (hF : vec L (R c 2) (-6) 64 F) : ∃ L', lX1_extendWords_2 R I c o j am_fu (0 : Int32) L = j L' ∧ vec L' (R c 2) (-6) 64 F ∧ vec L' (R c 3) (-6) 64 (fun _ => 0) ∧ vfr L L' (R c 2) (R c 3) := by
  obtain ⟨L', e, h1, h2, h3⟩ := am_for0 (fun n i L => lX1_extendWords_2 R I c o j n (nI i) L) 64 (fun i L' => vec L' (R c 2) (-6) 64 F ∧ (∀ s, s < i → L' (R c 3) s = sat (-6) 0) ∧ vfr L L' (R c 2) (R c 3)) j (by omega) (fun n i L' hi hP => by
    refine ⟨am_upL L' (R c 3) i 0, ?_, fun t ht => by rw [am_upL_n hd]; exact hP.1 t ht, fun s hs => ?_, hP.2.2.tr vfr.up2⟩
    · simp only [lX1_extendWords_2, sX1_extendWords_2, ng64 hi, if_false, inb hi (show 64 < 1000000 by omega), am_ck_true, am_let_e, nIcl (show i < 1000000 by omega), nI_1]
    · by_cases q : s = i
      · subst q; rw [am_upL_s]; rfl
      · rw [am_upL_o q]; exact hP.2.1 s (by omega)) (fun n L' _ => by
    simp only [lX1_extendWords_2, sX1_extendWords_2, yg64, if_true]) L ⟨hF, fun s hs => absurd hs (Nat.not_lt_zero s), vfr.rf _ _ _⟩
  exact ⟨L', e, h1, h2, h3⟩
theorem e_x104 (hd : R c 2 ≠ R c 3) {G : Nat → Nat} {L : am_L} (hG : vec L (R c 3) (-6) 64 G) : ∃ L', lX1_extendWords_104 R I c am_fu (0 : Int32) L = some L' ∧ vec L' (R c 2) (-6) 64 G ∧ vfr L L' (R c 2) (R c 3) := by
  obtain ⟨L', e, h1, h2, h3⟩ := am_for0 (fun n i L => lX1_extendWords_104 R I c n (nI i) L) 64 (fun i L' => (∀ s, s < i → L' (R c 2) s = sat (-6) (G s)) ∧ L' (R c 3) = L (R c 3) ∧ vfr L L' (R c 2) (R c 3)) (fun L => some L) (by omega) (fun n i L' hi hP => by
    refine ⟨am_upL L' (R c 2) i (sat (-6) (G i)), ?_, fun s hs => ?_, by rw [am_upL_n (Ne.symm hd)]; exact hP.2.1, hP.2.2.tr vfr.up1⟩
    · simp only [lX1_extendWords_104, sX1_extendWords_104, ng64 hi, if_false, inb hi (show 64 < 1000000 by omega), am_ck_true, am_let_e, nIcl (show i < 1000000 by omega), hP.2.1, hG i hi, nI_1]
    · by_cases q : s = i
      · subst q; exact am_upL_s
      · rw [am_upL_o q]; exact hP.1 s (by omega)) (fun n L' _ => by
    simp only [lX1_extendWords_104, sX1_extendWords_104, yg64, if_true]) L ⟨fun s hs => absurd hs (Nat.not_lt_zero s), rfl, vfr.rf _ _ _⟩
  exact ⟨L', e, h1, h3⟩
theorem e_x31 (hd : R c 2 ≠ R c 3) (hT : ∀ a, a < 3 → tab I (R o 0) (R o 1) A a 64) (hw : aw A) (j : am_L → Option am_L) {X : Nat} (hX : X < 64) {F G : Nat → Nat} {L : am_L} (hF : vec L (R c 2) (-6) 64 F) (hG : vec L (R c 3) (-6) 64 G) :
    ∃ L', lX1_extendWords_31 R I c o (nI X) j am_fu (0 : Int32) L = j L' ∧ vec L' (R c 2) (-6) 64 F ∧ vec L' (R c 3) (-6) 64 (fun Y => G Y + sumN (fun a => if dl A a X = Y then F X else 0) 3) ∧ vfr L L' (R c 2) (R c 3) := by
  by_cases h0 : F X = 0
  · refine ⟨L, ?_, hF, fun Y hY => ?_, vfr.rf _ _ _⟩
    · obtain ⟨n, hn⟩ : ∃ n, am_fu = n + 1 := ⟨am_fu - 1, by have := am_fu_ge; omega⟩
      have z : lg_cmp (L (R c 2) X) 0 = 0 := by rw [hF X hX, h0]; rfl
      rw [hn]
      simp only [lX1_extendWords_31, sX1_extendWords_31, inb hX (show 64 < 1000000 by omega), am_ck_true, nIcl (show X < 1000000 by omega), z, if_true]
    · rw [hG Y hY]
      show sat (-6) (G Y) = sat (-6) (G Y + sumN (fun a => if dl A a X = Y then F X else 0) 3)
      rw [h0, sumN_congr (f := fun a => if dl A a X = Y then 0 else 0) (g := fun _ => 0) 3 (fun a _ => ite_self _), sumN_zero, Nat.add_zero]
  · obtain ⟨L', e, h1, h2, h3⟩ := am_for0 (fun n i L => lX1_extendWords_31 R I c o (nI X) j n (nI i) L) 3 (fun i L' => vec L' (R c 2) (-6) 64 F ∧ vec L' (R c 3) (-6) 64 (fun Y => G Y + sumN (fun a => if dl A a X = Y then F X else 0) i) ∧ vfr L L' (R c 2) (R c 3)) j (by omega) (fun n a L' ha hP => by
      obtain ⟨p1, p2, p3⟩ := hP
      have z : ¬ lg_cmp (L' (R c 2) X) 0 = 0 := by rw [p1 X hX, sat_eq0 (by decide)]; exact h0
      have z2 : ¬ lg_cmp (sat (-6) (F X)) 0 = 0 := by rw [sat_eq0 (by decide)]; exact h0
      have hl := dl_lt A a X
      have c0 : ¬ nI (dl A a X) < 0 := nI_pos (by omega)
      refine ⟨am_upL L' (R c 3) (dl A a X) (sat (-6) (G (dl A a X) + sumN (fun b => if dl A b X = dl A a X then F X else 0) a + F X)), ?_, fun t ht => by rw [am_upL_n hd]; exact p1 t ht, fun Y hY => ?_, p3.tr vfr.up2⟩
      · simp only [lX1_extendWords_31, sX1_extendWords_31, inb hX (show 64 < 1000000 by omega), am_ck_true, nIcl (show X < 1000000 by omega), z2, if_false, ng3 ha, e_once hT hw hX ha, dl_e hw, am_bd, am_jn_e, c0, ng64 hl, inb hl (show 64 < 1000000 by omega), nIcl (show dl A a X < 1000000 by omega), p1 X hX, p2 _ hl, e_sum, am_let_e, nI_1]
      · show am_upL L' (R c 3) (dl A a X) (sat (-6) (G (dl A a X) + sumN (fun b => if dl A b X = dl A a X then F X else 0) a + F X)) (R c 3) Y = sat (-6) (G Y + sumN (fun b => if dl A b X = Y then F X else 0) (a + 1))
        by_cases q : Y = dl A a X
        · subst q
          rw [am_upL_s, sumN_s, if_pos rfl, Nat.add_assoc]
        · rw [am_upL_o q, p2 Y hY, sumN_s, if_neg (Ne.symm q), Nat.add_zero]) (fun n L' hP => by
      have z : ¬ lg_cmp (L' (R c 2) X) 0 = 0 := by rw [hP.1 X hX, sat_eq0 (by decide)]; exact h0
      simp only [lX1_extendWords_31, sX1_extendWords_31, inb hX (show 64 < 1000000 by omega), am_ck_true, nIcl (show X < 1000000 by omega), z, if_false, yg3, if_true]) L ⟨hF, fun Y hY => by rw [hG Y hY]; rfl, vfr.rf _ _ _⟩
    exact ⟨L', e, h1, h2, h3⟩
theorem e_extendWords (hd : R c 2 ≠ R c 3) (hT : ∀ a, a < 3 → tab I (R o 0) (R o 1) A a 64) (hw : aw A) {F : Nat → Nat} {L : am_L} (hF : vec L (R c 2) (-6) 64 F) :
    ∃ L', pX1_extendWords R I L c o = some L' ∧ vec L' (R c 2) (-6) 64 (fwdW A F) ∧ vfr L L' (R c 2) (R c 3) := by
  unfold pX1_extendWords
  simp only [am_jn_e]
  obtain ⟨L1, e1, h1, h2, h3⟩ := e_x2 (I := I) (o := o) hd (fun J2 => lX1_extendWords_23 R I c o (fun J4 => lX1_extendWords_104 R I c am_fu (0 : Int32) J4) am_fu (1 : Int32) J2) hF
  rw [e1]
  obtain ⟨L2, e2, j1, j2, j3⟩ := am_fork (fun n i L => lX1_extendWords_23 R I c o (fun J4 => lX1_extendWords_104 R I c am_fu (0 : Int32) J4) n (nI i) L) 1 64 (fun i L' => vec L' (R c 2) (-6) 64 F ∧ vec L' (R c 3) (-6) 64 (fun Y => sumN (fun X => if X = 0 then 0 else sumN (fun a => if dl A a X = Y then F X else 0) 3) i) ∧ vfr L L' (R c 2) (R c 3)) (fun J4 => lX1_extendWords_104 R I c am_fu (0 : Int32) J4) (by omega) (by omega) (fun n X L' h1 hX hP => by
    obtain ⟨p1, p2, p3⟩ := hP
    obtain ⟨L3, e3, q1, q2, q3⟩ := e_x31 hd hT hw (fun J20 => lX1_extendWords_23 R I c o (fun J4 => lX1_extendWords_104 R I c am_fu (0 : Int32) J4) n (nI X + 1) J20) hX p1 p2
    refine ⟨L3, ?_, q1, fun Y hY => ?_, p3.tr q3⟩
    · simp only [lX1_extendWords_23, sX1_extendWords_23, ng64 hX, if_false, am_jn_e]
      rw [e3, nI_1]
    · rw [q2 Y hY]
      show sat (-6) (sumN (fun X => if X = 0 then 0 else sumN (fun a => if dl A a X = Y then F X else 0) 3) X + sumN (fun a => if dl A a X = Y then F X else 0) 3) = sat (-6) (sumN (fun X => if X = 0 then 0 else sumN (fun a => if dl A a X = Y then F X else 0) 3) (X + 1))
      rw [sumN_s (fun X => if X = 0 then 0 else sumN (fun a => if dl A a X = Y then F X else 0) 3) X, if_neg (show ¬ X = 0 by omega)]) (fun n L' _ => by
    simp only [lX1_extendWords_23, sX1_extendWords_23, yg64, if_true]) L1 ⟨h1, fun Y hY => by rw [h2 Y hY]; rfl, h3⟩
  obtain ⟨L3, e3, k1, k2⟩ := e_x104 (I := I) hd j2
  refine ⟨L3, ?_, k1, j3.tr k2⟩
  refine Eq.trans e2 ?_
  exact e3
theorem e_countWords (hd : R c 2 ≠ R c 3) (hT : ∀ a, a < 3 → tab I (R o 0) (R o 1) A a 64) (hA : isA I u (R u 3) A) (hw : aw A) (L : am_L) {k : Nat} (hk : k < 1000) :
    ∃ L', pX1_countWords R I L c u o (nI k) = some (sat (-6) (wrds A k), L') ∧ vfr L L' (R c 2) (R c 3) := by
  unfold pX1_countWords
  simp only [am_jn_e]
  obtain ⟨L1, e1, h1, h2⟩ := am_for0 (fun n i L => lX1_countWords_3 R I c u o (nI k) (fun J2 => lX1_countWords_40 R I c u o (nI k) (fun J4 => lX1_countWords_63 R I c u J4 am_fu (0 : Int64) (0 : Int32)) am_fu (0 : Int32) J2) n (nI i) L) 64 (fun i L' => (∀ X, X < i → L' (R c 2) X = sat (-6) (iniW A.2.1 X)) ∧ vfr L L' (R c 2) (R c 3)) (fun J2 => lX1_countWords_40 R I c u o (nI k) (fun J4 => lX1_countWords_63 R I c u J4 am_fu (0 : Int64) (0 : Int32)) am_fu (0 : Int32) J2) (by omega) (fun n i L' hi hP => by
    refine ⟨am_upL L' (R c 2) i (sat (-6) (iniW A.2.1 i)), ?_, fun s hs => ?_, hP.2.tr vfr.up1⟩
    · have e0 : (if nI i = A.2.1 then (1 : Int64) else 0) = sat (-6) (iniW A.2.1 i) := by
        unfold iniW
        by_cases q : nI i = A.2.1
        · rw [if_pos q, if_pos q]; rfl
        · rw [if_neg q, if_neg q]; rfl
      simp only [lX1_countWords_3, sX1_countWords_3, ng64 hi, if_false, hA.2.1, e0, inb hi (show 64 < 1000000 by omega), am_ck_true, am_let_e, nIcl (show i < 1000000 by omega), nI_1]
    · by_cases q : s = i
      · subst q; exact am_upL_s
      · rw [am_upL_o q]; exact hP.1 s (by omega)) (fun n L' _ => by
    simp only [lX1_countWords_3, sX1_countWords_3, yg64, if_true]) L ⟨fun s hs => absurd hs (Nat.not_lt_zero s), vfr.rf _ _ _⟩
  obtain ⟨L2, e2, j1, j2⟩ := am_for0 (fun n i L => lX1_countWords_40 R I c u o (nI k) (fun J4 => lX1_countWords_63 R I c u J4 am_fu (0 : Int64) (0 : Int32)) n (nI i) L) k (fun i L' => vec L' (R c 2) (-6) 64 (fwdWN A i (iniW A.2.1)) ∧ vfr L L' (R c 2) (R c 3)) (fun J4 => lX1_countWords_63 R I c u J4 am_fu (0 : Int64) (0 : Int32)) (by omega) (fun n i L' hi hP => by
    obtain ⟨L3, e3, q1, q2⟩ := e_extendWords hd hT hw hP.1
    exact ⟨L3, by simp only [lX1_countWords_40, sX1_countWords_40, nIge hi (show k < 1000000 by omega), if_false, e3, am_bd, nI_1], q1, hP.2.tr q2⟩) (fun n L' _ => by
    simp only [lX1_countWords_40, sX1_countWords_40, nIle (show k < 1000000 by omega), if_true]) L1 ⟨h1, h2⟩
  have e3 := am_forF (fun n i (y : Nat) => lX1_countWords_63 R I c u L2 n (sat (-6) y) (nI i)) 64 (fun X y => y + (if nI X &&& A.2.2.1 = 0 then 0 else fwdWN A k (iniW A.2.1) X)) (fun y => some (sat (-6) y, L2)) (by omega) (fun n i y hi => by
    by_cases q : nI i &&& A.2.2.1 = 0
    · simp only [lX1_countWords_63, sX1_countWords_63, ng64 hi, if_false, hA.2.2.1, am_jn_e, q, if_true, Nat.add_zero, nI_1]
    · simp only [lX1_countWords_63, sX1_countWords_63, ng64 hi, if_false, hA.2.2.1, am_jn_e, q, inb hi (show 64 < 1000000 by omega), am_ck_true, nIcl (show i < 1000000 by omega), j1 i hi, e_sum, am_bd, nI_1]) (fun n y => by
    simp only [lX1_countWords_63, sX1_countWords_63, yg64, if_true]) 0
  exact ⟨L2, (e1.trans e2).trans e3, j2⟩
end
/-! the reference's programs -/
theorem sh1' : ∀ s, s ≤ 6 → (1 : Int32) <<< (nI s &&& 31) = nI (2 ^ s) := by decide +kernel
theorem p2le6 : ∀ s, s ≤ 6 → 2 ^ s ≤ 64 ∧ 1 ≤ 2 ^ s := by decide
section
variable {J : am_I} {A : am_Au}
theorem e_y43 (hA : isM J A) (hw : aw A) (x v : Int32) (j : am_L → Option (Int64 × am_L)) {V : Nat → Nat} {K : am_L} (hV : vec K 10 (-1) (2 ^ A.1) V) (hV0 : V 0 = 0) :
    ∃ K', lX11_wordsOf_43 rM J 1 x v j am_fu (0 : Int32) K = j K' ∧ vec K' 10 (-1) (2 ^ A.1) V ∧ vec K' 11 (-1) (2 ^ A.1) (bwdW A V) ∧ vfr K K' 10 11 := by
  have h0 := hA.1
  have h6 := hw.2.1
  have l2 := p2le6 A.1 h6
  obtain ⟨K', e, h1, h2, h3⟩ := am_for0 (fun n i K => lX11_wordsOf_43 rM J 1 x v j n (nI i) K) (2 ^ A.1) (fun i K' => vec K' 10 (-1) (2 ^ A.1) V ∧ vec K' 11 (-1) i (bwdW A V) ∧ vfr K K' 10 11) j (by omega) (fun n X K' hX hP => by
    obtain ⟨p1, p2, p3⟩ := hP
    have d0 := dl_lt2 hw 0 X
    have d1 := dl_lt2 hw 1 X
    have d2 := dl_lt2 hw 2 X
    have g0 := dl_lt A 0 X
    have g1 := dl_lt A 1 X
    have g2 := dl_lt A 2 X
    have eV : bwdW A V X = V (dl A 0 X) + V (dl A 1 X) + V (dl A 2 X) := by
      unfold bwdW
      by_cases q : X = 0
      · subst q
        rw [if_pos rfl, dl_0 hw, dl_0 hw, dl_0 hw, hV0]
      · rw [if_neg q]
        show 0 + V (dl A 0 X) + V (dl A 1 X) + V (dl A 2 X) = _
        omega
    have s0 := e_step hA hw (nI X) (show 0 < 3 by omega)
    have s1 := e_step hA hw (nI X) (show 1 < 3 by omega)
    have s2 := e_step hA hw (nI X) (show 2 < 3 by omega)
    rw [dl_e hw] at s0 s1 s2
    refine ⟨am_upL K' 11 X (sat (-1) (bwdW A V X)), ?_, fun t ht => by rw [am_upL_n (by decide)]; exact p1 t ht, fun s hs => ?_, p3.tr vfr.up2⟩
    · have hc : ¬ nI (2 ^ A.1) ≤ nI X := nIge hX (by omega)
      show sX11_wordsOf_43 rM J 1 x v j (lX11_wordsOf_43 rM J 1 x v j n) (nI X) K' = _
      unfold sX11_wordsOf_43
      rw [h0, sh1' A.1 h6, if_neg hc, show (0 : Int32) = nI 0 from nI_0.symm, s0, am_bd, inb g0 (by omega), am_ck_true, show (1 : Int32) = nI 1 from rfl, s1, am_bd, inb g1 (by omega), am_ck_true, rM17, nIcl (show dl A 0 X < 1000000 by omega), nIcl (show dl A 1 X < 1000000 by omega), p1 _ d0, p1 _ d1, e_plus, am_bd, show (2 : Int32) = nI 2 from rfl, s2, am_bd, inb g2 (by omega), am_ck_true, nIcl (show dl A 2 X < 1000000 by omega), p1 _ d2, e_plus, am_bd, inb (show X < 64 by omega) (by omega), am_ck_true, am_let_e, rM18, nIcl (show X < 1000000 by omega), ← eV, nI_add]
    · by_cases q : s = X
      · subst q; exact am_upL_s
      · rw [am_upL_o q]; exact p2 s (by omega)) (fun n K' _ => by
    show sX11_wordsOf_43 rM J 1 x v j (lX11_wordsOf_43 rM J 1 x v j n) (nI (2 ^ A.1)) K' = _
    unfold sX11_wordsOf_43
    rw [h0, sh1' A.1 h6, if_pos (nIle (by omega))]) K ⟨hV, fun s hs => absurd hs (Nat.not_lt_zero s), vfr.rf _ _ _⟩
  exact ⟨K', e, h1, h2, h3⟩
theorem e_y106 (hA : isM J A) (hw : aw A) (x v : Int32) (j : am_L → Option (Int64 × am_L)) {V : Nat → Nat} {K : am_L} (hV : vec K 11 (-1) (2 ^ A.1) V) :
    ∃ K', lX11_wordsOf_106 rM J 1 x v j am_fu (0 : Int32) K = j K' ∧ vec K' 10 (-1) (2 ^ A.1) V ∧ vfr K K' 10 11 := by
  have h0 := hA.1
  have h6 := hw.2.1
  have l2 := p2le6 A.1 h6
  obtain ⟨K', e, h1, h2, h3⟩ := am_for0 (fun n i K => lX11_wordsOf_106 rM J 1 x v j n (nI i) K) (2 ^ A.1) (fun i K' => vec K' 10 (-1) i V ∧ K' 11 = K 11 ∧ vfr K K' 10 11) j (by omega) (fun n X K' hX hP => by
    obtain ⟨p1, p2, p3⟩ := hP
    refine ⟨am_upL K' 10 X (sat (-1) (V X)), ?_, fun s hs => ?_, by rw [am_upL_n (by decide)]; exact p2, p3.tr vfr.up1⟩
    · simp only [lX11_wordsOf_106, sX11_wordsOf_106, h0, sh1' A.1 h6, nIge hX (show 2 ^ A.1 < 1000000 by omega), if_false, inb (show X < 64 by omega) (show 64 < 1000000 by omega), am_ck_true, am_let_e, nIcl (show X < 1000000 by omega), rM17, rM18, p2, hV X hX, nI_1]
    · by_cases q : s = X
      · subst q; exact am_upL_s
      · rw [am_upL_o q]; exact p1 s (by omega)) (fun n K' _ => by
    simp only [lX11_wordsOf_106, sX11_wordsOf_106, h0, sh1' A.1 h6, nIle (show 2 ^ A.1 < 1000000 by omega), if_true]) K ⟨fun s hs => absurd hs (Nat.not_lt_zero s), rfl, vfr.rf _ _ _⟩
  exact ⟨K', e, h1, h3⟩
theorem bwdWN_0 (A : am_Au) : ∀ k, bwdWN A k (finW A.2.2.1) 0 = 0
  | 0 => by
    show finW A.2.2.1 0 = 0
    unfold finW
    exact if_pos (bt_ext fun k _ => by rw [bt_and, show nI 0 = (0 : Int32) from nI_0, bt_zero]; rfl)
  | k + 1 => by
    show bwdW A (bwdWN A k (finW A.2.2.1)) 0 = 0
    unfold bwdW
    rw [if_pos rfl]
theorem e_wordsOfM (hA : isM J A) (hw : aw A) (K : am_L) {k : Nat} (hk : k < 1000) : ∃ K', pX11_wordsOf rM J K 1 (nI k) = some (sat (-1) (wrds A k), K') ∧ vfr K K' 10 11 := by
  have h0 := hA.1
  have h6 := hw.2.1
  have l2 := p2le6 A.1 h6
  obtain ⟨X0, hX, hI⟩ := lon_nI (x := A.2.1) (fun k hk => (hw.2.2.1 k (Nat.le_trans h6 hk)).1)
  have hX2 : X0 < 2 ^ A.1 := lon_lt A.1 h6 X0 hX (fun k hk hn => by rw [← bt_nI X0 hX k (by omega), ← hI]; exact (hw.2.2.1 k hn).1)
  unfold pX11_wordsOf
  rw [am_jn_e]
  obtain ⟨K1, e1, h1, h2⟩ := am_for0 (fun n i K => lX11_wordsOf_2 rM J 1 (nI k) (fun J2 => lX11_wordsOf_36 rM J 1 (nI k) am_fu (0 : Int32) J2) n (nI i) K) 64 (fun i K' => (∀ X, X < i → K' 10 X = sat (-1) (finW A.2.2.1 X)) ∧ vfr K K' 10 11) (fun J2 => lX11_wordsOf_36 rM J 1 (nI k) am_fu (0 : Int32) J2) (by omega) (fun n i K' hi hP => by
    refine ⟨am_upL K' 10 i (sat (-1) (finW A.2.2.1 i)), ?_, fun s hs => ?_, hP.2.tr vfr.up1⟩
    · have e0 : (if nI i &&& A.2.2.1 = 0 then (0 : Int64) else 1) = sat (-1) (finW A.2.2.1 i) := by
        unfold finW
        by_cases q : nI i &&& A.2.2.1 = 0
        · rw [if_pos q, if_pos q]; rfl
        · rw [if_neg q, if_neg q]; rfl
      simp only [lX11_wordsOf_2, sX11_wordsOf_2, ng64 hi, if_false, hA.2.2.1, e0, inb hi (show 64 < 1000000 by omega), am_ck_true, am_let_e, nIcl (show i < 1000000 by omega), rM17, nI_1]
    · by_cases q : s = i
      · subst q; exact am_upL_s
      · rw [am_upL_o q]; exact hP.1 s (by omega)) (fun n K' _ => by
    simp only [lX11_wordsOf_2, sX11_wordsOf_2, yg64, if_true]) K ⟨fun s hs => absurd hs (Nat.not_lt_zero s), vfr.rf _ _ _⟩
  have key := am_forQ (fun n i K => lX11_wordsOf_36 rM J 1 (nI k) n (nI i) K) k (fun i K' => vec K' 10 (-1) (2 ^ A.1) (bwdWN A i (finW A.2.2.1)) ∧ vfr K K' 10 11) (fun r => ∃ K', r = some (sat (-1) (wrds A k), K') ∧ vfr K K' 10 11) (by omega) (fun n i K' hi hP => by
    left
    obtain ⟨p1, p2⟩ := hP
    obtain ⟨K2, e2, q1, q2, q3⟩ := e_y43 hA hw (nI k) (nI i) (fun J10 => lX11_wordsOf_106 rM J 1 (nI k) (nI i) (fun J12 => lX11_wordsOf_36 rM J 1 (nI k) n (nI i + 1) J12) am_fu (0 : Int32) J10) p1 (bwdWN_0 A i)
    obtain ⟨K3, e3, r1, r2⟩ := e_y106 hA hw (nI k) (nI i) (fun J12 => lX11_wordsOf_36 rM J 1 (nI k) n (nI i + 1) J12) q2
    refine ⟨K3, ?_, r1, (p2.tr q3).tr r2⟩
    simp only [lX11_wordsOf_36, sX11_wordsOf_36, nIge hi (show k < 1000000 by omega), if_false, am_jn_e]
    rw [e2, e3, nI_1]) (fun n K' hP => by
    refine ⟨K', ?_, hP.2⟩
    simp only [lX11_wordsOf_36, sX11_wordsOf_36, nIle (show k < 1000000 by omega), if_true, hA.2.1, hI, inb hX (show 64 < 1000000 by omega), am_ck_true, nIcl (show X0 < 1000000 by omega), rM17, hP.1 X0 hX2, wrds_b hw hX hI]) K1 ⟨fun X hX => h1 X (by omega), h2⟩
  obtain ⟨K', e2, h3⟩ := key
  exact ⟨K', e1.trans e2, h3⟩
end
