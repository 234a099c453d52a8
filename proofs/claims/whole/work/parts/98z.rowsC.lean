/-! the class: all rows -/
section
variable {R : am_R} {A : am_Au} {I : am_I} {L : am_L} {n : Nat}
theorem e_sumOver (hS : stR R n) {S : am_Rw} (hR : RSc I L n S) {r : Nat} (hr : r < S.1) : pX4_sumOver R L n (nI r) A.2.2.1 = some (sm A (S.2 r)) := by
  have h1 := hR.2.1
  unfold pX4_sumOver
  have e := am_forF (fun k i (v : Int64) => lX4_sumOver_5 R L n (nI r) A.2.2.1 k v (nI i)) 6 (fun s v => v + (if bt A.2.2.1 s = true then S.2 r s else 0)) (fun v => some v) (by omega) (fun k i v hi => by
    show sX4_sumOver_5 R L n (nI r) A.2.2.1 (lX4_sumOver_5 R L n (nI r) A.2.2.1 k) v (nI i) = _
    unfold sX4_sumOver_5
    rw [if_neg (ng6 hi), e_cb _ (show i < 32 by omega), am_bd, am_jn_e, e_cell (L := L) hS (show 6 * r + i < 6000 by omega), am_bd, hR.2.2.1 r i hr hi]
    dsimp only
    rw [am_let_e, am_let_e, nI_1]
    cases bt A.2.2.1 i <;> rfl) (fun k v => by
    show sX4_sumOver_5 R L n (nI r) A.2.2.1 (lX4_sumOver_5 R L n (nI r) A.2.2.1 k) v (nI 6) = _
    unfold sX4_sumOver_5
    rw [if_pos yg6]) 0
  rw [nI_0] at e
  exact e
/-- only the fresh row is touched -/
def ffL (L L' : am_L) (n : Nat) : Prop := ∀ b, b ≠ n + 2 → L' b = L b
theorem e_mf58 (hS : stR R n) {U x : Int32} {p : Int64} {L : am_L} {g : Nat → Int64} (hg : fsc L n g) (x1 x3 x4 v5 : Int32) (j : am_L → Option am_L) : ∃ L', lX4_makeFresh_58 R I n x1 2 x3 x4 v5 x p j am_fu (0 : Int32) L = j L' ∧ fsc L' n (fun t => g t + (if bt x t = true then p else 0)) ∧ ffL L L' n := by
  by_cases h0 : p = 0
  · refine ⟨L, ?_, fun t ht => ?_, fun _ _ => rfl⟩
    · obtain ⟨k, hk⟩ : ∃ k, am_fu = k + 1 := ⟨am_fu - 1, by have := am_fu_ge; omega⟩
      rw [hk]
      show sX4_makeFresh_58 R I n x1 2 x3 x4 v5 x p j (lX4_makeFresh_58 R I n x1 2 x3 x4 v5 x p j k) 0 L = _
      unfold sX4_makeFresh_58
      rw [if_pos (lg_cmp0.mpr h0)]
    · rw [hg t ht, h0]
      have : (if bt x t = true then (0 : Int64) else 0) = 0 := by by_cases q : bt x t = true <;> simp [q]
      show g t = g t + (if bt x t = true then (0 : Int64) else 0)
      rw [this, Int64.add_zero]
  · obtain ⟨L', e, g1, g2⟩ := am_for0 (fun k i J => lX4_makeFresh_58 R I n x1 2 x3 x4 v5 x p j k (nI i) J) 6 (fun i J => (∀ t, t < 6 → J (n + 2) t = if t < i then g t + (if bt x t = true then p else 0) else g t) ∧ ffL L J n) (fun J => j J) (by omega) (fun k i J hi hP => by
      obtain ⟨p1, p2⟩ := hP
      refine ⟨am_upL J (n + 2) i (g i + (if bt x i = true then p else 0)), ?_, fun t ht => ?_, fun b hb => by rw [am_upL_n hb]; exact p2 b hb⟩
      · show sX4_makeFresh_58 R I n x1 2 x3 x4 v5 x p j (lX4_makeFresh_58 R I n x1 2 x3 x4 v5 x p j k) (nI i) J = _
        unfold sX4_makeFresh_58
        have hi0 := p1 i hi
        rw [if_neg (Nat.lt_irrefl i)] at hi0
        rw [if_neg (fun q => h0 (lg_cmp0.mp q)), if_neg (ng6 hi), inb hi (by omega), am_ck_true, e_cb _ (show i < 32 by omega), am_bd, am_let_e, am_ck_true, am_let_e, hS.2.2.1, nIcl (show i < 1000000 by omega), hi0, nI_1]
        cases bt x i <;> rfl
      · by_cases q : t = i
        · rw [q, am_upL_s, if_pos (Nat.lt_succ_self i)]
        · rw [am_upL_o q, p1 t ht]
          by_cases h : t < i
          · rw [if_pos h, if_pos (show t < i + 1 by omega)]
          · rw [if_neg h, if_neg (show ¬ t < i + 1 by omega)]) (fun k J _ => by
      show sX4_makeFresh_58 R I n x1 2 x3 x4 v5 x p j (lX4_makeFresh_58 R I n x1 2 x3 x4 v5 x p j k) (nI 6) J = _
      unfold sX4_makeFresh_58
      rw [if_neg (fun q => h0 (lg_cmp0.mp q)), if_pos yg6]) L ⟨fun t ht => by rw [if_neg (Nat.not_lt_zero t)]; exact hg t ht, fun _ _ => rfl⟩
    rw [nI_0] at e
    exact ⟨L', e, fun t ht => by rw [g1 t ht, if_pos ht], g2⟩
theorem e_makeFresh (hS : stR R n) (hw : aw A) (hA : isA I 2 3 A) (h23 : R 2 3 = 3) {S : am_Rw} (hR : RSc I L n S) {r a : Nat} (hr : r < S.1) (ha : a < 3) (U : Int32) : ∃ L', pX4_makeFresh R I L n (nI r) 2 (nI a) U = some L' ∧ fsc L' n (fr A U (S.2 r) a) ∧ ffL L L' n := by
  have h1 := hR.2.1
  have hA3 : isA I 2 (R 2 3) A := by rw [h23]; exact hA
  unfold pX4_makeFresh
  rw [am_jn_e]
  obtain ⟨j1, hj1⟩ : ∃ j : am_L → Option am_L, j = fun (J2 : am_L) => lX4_makeFresh_27 R I n (nI r) 2 (nI a) U am_fu (0 : Int32) J2 := ⟨_, rfl⟩
  rw [← hj1]
  obtain ⟨L1, e1, g1, g2⟩ := am_for0 (fun k i J => lX4_makeFresh_3 R I n (nI r) 2 (nI a) U j1 k (nI i) J) 6 (fun i J => (∀ t, t < i → J (n + 2) t = 0) ∧ ffL L J n) (fun J => j1 J) (by omega) (fun k i J hi hP => by
    obtain ⟨p1, p2⟩ := hP
    refine ⟨am_upL J (n + 2) i 0, ?_, fun t ht => ?_, fun b hb => by rw [am_upL_n hb]; exact p2 b hb⟩
    · show sX4_makeFresh_3 R I n (nI r) 2 (nI a) U j1 (lX4_makeFresh_3 R I n (nI r) 2 (nI a) U j1 k) (nI i) J = _
      unfold sX4_makeFresh_3
      rw [if_neg (ng6 hi), inb hi (by omega), am_ck_true, am_let_e, hS.2.2.1, nIcl (show i < 1000000 by omega), nI_1]
    · by_cases q : t = i
      · rw [q, am_upL_s]
      · rw [am_upL_o q]; exact p1 t (by omega)) (fun k J _ => by
    show sX4_makeFresh_3 R I n (nI r) 2 (nI a) U j1 (lX4_makeFresh_3 R I n (nI r) 2 (nI a) U j1 k) (nI 6) J = _
    unfold sX4_makeFresh_3
    rw [if_pos yg6]) L ⟨fun t ht => absurd ht (Nat.not_lt_zero t), fun _ _ => rfl⟩
  rw [nI_0] at e1
  obtain ⟨L2, e2, g3, g4⟩ := am_for0 (fun k i J => lX4_makeFresh_27 R I n (nI r) 2 (nI a) U k (nI i) J) 6 (fun i J => fsc J n (fun t => am_to (fun s v => v + (if bt (A.2.2.2 a s &&& U) t = true then S.2 r s else 0)) i 0) ∧ ffL L J n) (fun J => some J) (by omega) (fun k i J hi hP => by
    obtain ⟨p1, p2⟩ := hP
    obtain ⟨J', q1, q2, q3⟩ := e_mf58 (I := I) (U := U) (x := A.2.2.2 a i &&& U) (p := S.2 r i) hS p1 (nI r) (nI a) U (nI i) (fun (J13 : am_L) => lX4_makeFresh_27 R I n (nI r) 2 (nI a) U k (nI i + (1 : Int32)) J13)
    refine ⟨J', ?_, fun t ht => q2 t ht, fun b hb => (q3 b hb).trans (p2 b hb)⟩
    show sX4_makeFresh_27 R I n (nI r) 2 (nI a) U (lX4_makeFresh_27 R I n (nI r) 2 (nI a) U k) (nI i) J = _
    unfold sX4_makeFresh_27
    have ec := e_cell (L := J) hS (show 6 * r + i < 6000 by omega)
    rw [p2 (n + 1) (by omega), hR.2.2.1 r i hr hi] at ec
    rw [if_neg (ng6 hi), e_targetsOf hA3 hw i a (by omega) (by omega), am_bd, am_let_e, ec, am_bd, am_jn_e, q1, nI_1]) (fun k J _ => by
    show sX4_makeFresh_27 R I n (nI r) 2 (nI a) U (lX4_makeFresh_27 R I n (nI r) 2 (nI a) U k) (nI 6) J = _
    unfold sX4_makeFresh_27
    rw [if_pos yg6]) L1 ⟨fun t ht => g1 t ht, g2⟩
  rw [nI_0] at e2
  refine ⟨L2, ?_, g3, g4⟩
  refine e1.trans ?_
  rw [hj1]
  exact e2
theorem RSc.fresh {S : am_Rw} (h : RSc I L n S) {L' : am_L} (f : ffL L L' n) : RSc I L' n S := ⟨h.1, h.2.1, fun r s hr hs => by rw [f (n + 1) (by omega)]; exact h.2.2.1 r s hr hs, h.2.2.2⟩
theorem kp_m {S S' : am_Rw} {f : Nat → Int64} (h : kp S f = some S') (h1 : S.1 ≤ 1000) : S.1 ≤ S'.1 ∧ S'.1 ≤ 1000 ∧ ∀ r, r < S.1 → S'.2 r = S.2 r := by
  unfold kp at h
  by_cases q : dcd (∃ r, r < S.1 ∧ eqf (S.2 r) f) = true
  · rw [if_pos q] at h
    cases h
    exact ⟨Nat.le_refl _, h1, fun _ _ => rfl⟩
  · rw [if_neg q] at h
    by_cases g : S.1 = 1000
    · rw [if_pos g] at h; cases h
    · rw [if_neg g] at h
      cases h
      exact ⟨Nat.le_succ _, by show S.1 + 1 ≤ 1000; omega, fun r hr => if_neg (by omega)⟩
theorem ltr_m {U : Int32} {r : Nat} : ∀ {k : Nat} {S S' : am_Rw}, ltr A U r k S = some S' → S.1 ≤ 1000 → S.1 ≤ S'.1 ∧ S'.1 ≤ 1000
  | 0, S, S', h, h1 => by cases h; exact ⟨Nat.le_refl _, h1⟩
  | k + 1, S, S', h, h1 => by
    have h : Option.bind (kp S (fr A U (S.2 r) (2 - k))) (fun S' => ltr A U r k S') = some S' := h
    cases e : kp S (fr A U (S.2 r) (2 - k)) with
    | none => rw [e] at h; cases h
    | some S1 =>
      rw [e, am_bd] at h
      obtain ⟨a, b, _⟩ := kp_m e h1
      obtain ⟨c, d⟩ := ltr_m h b
      exact ⟨by omega, d⟩
theorem e_h99 (hS : stR R n) (hw : aw A) (h23 : R 2 3 = 3) {U : Int32} {r : Nat} (v24 : Int64) (j : Int32 → am_I → am_L → Option (Int64 × am_I × am_L)) : ∀ (k u : Nat) (I : am_I) (L : am_L) (S : am_Rw), k ≤ 3 → k + 1 < u → isA I 2 3 A → RSc I L n S → r < S.1 →
    ∃ I' L', lX4_highestAmbiguity_99 R n 2 U v24 (nI r) j u (1 : Int32) (nI (3 - k)) I L = j (bI (ltr A U r k S).isSome) I' L' ∧ rwf I L n I' L' ∧ ∀ S', ltr A U r k S = some S' → RSc I' L' n S' := by
  intro k
  induction k with
  | zero =>
    intro u I L S _ hu hA hR hr
    obtain ⟨u, rfl⟩ : ∃ g, u = g + 1 := ⟨u - 1, by omega⟩
    refine ⟨I, L, ?_, rwf.rf I L n, fun S' e => by cases e; exact hR⟩
    show sX4_highestAmbiguity_99 R n 2 U v24 (nI r) j (lX4_highestAmbiguity_99 R n 2 U v24 (nI r) j u) (1 : Int32) (nI 3) I L = _
    unfold sX4_highestAmbiguity_99
    rw [if_neg (show ¬ (1 : Int32) = 0 by decide), if_pos yg3]
    rfl
  | succ k ih =>
    intro u I L S hk hu hA hR hr
    obtain ⟨u, rfl⟩ : ∃ g, u = g + 2 := ⟨u - 2, by omega⟩
    have e0 : 3 - (k + 1) = 2 - k := by omega
    obtain ⟨L1, e1, f1, g1⟩ := e_makeFresh hS hw hA h23 hR hr (show 2 - k < 3 by omega) U
    have hR1 := hR.fresh g1
    obtain ⟨I2, L2, e2, f2, _, g2⟩ := e_keepFresh hS hR1 f1
    have hf : rwf I L n I2 L2 := fun b hb => ⟨(f2 b hb).1, (f2 b hb).2.trans (g1 b (by omega))⟩
    have hstep : lX4_highestAmbiguity_99 R n 2 U v24 (nI r) j (u + 2) (1 : Int32) (nI (3 - (k + 1))) I L = lX4_highestAmbiguity_99 R n 2 U v24 (nI r) j (u + 1) (bI (kp S (fr A U (S.2 r) (2 - k))).isSome) (nI (3 - k)) I2 L2 := by
      show sX4_highestAmbiguity_99 R n 2 U v24 (nI r) j (lX4_highestAmbiguity_99 R n 2 U v24 (nI r) j (u + 1)) (1 : Int32) (nI (3 - (k + 1))) I L = _
      unfold sX4_highestAmbiguity_99
      rw [if_neg (show ¬ (1 : Int32) = 0 by decide), e0, if_neg (ng3 (by omega)), e1, am_bd, e2, am_bd, nI_1, show 2 - k + 1 = 3 - k by omega]
    show ∃ I' L', _ = j (bI (Option.bind (kp S (fr A U (S.2 r) (2 - k))) (fun S' => ltr A U r k S')).isSome) I' L' ∧ _ ∧ ∀ S', Option.bind (kp S (fr A U (S.2 r) (2 - k))) (fun S' => ltr A U r k S') = some S' → _
    rw [hstep]
    cases e3 : kp S (fr A U (S.2 r) (2 - k)) with
    | none =>
      refine ⟨I2, L2, ?_, hf, fun S' e => by cases e⟩
      show sX4_highestAmbiguity_99 R n 2 U v24 (nI r) j (lX4_highestAmbiguity_99 R n 2 U v24 (nI r) j u) (0 : Int32) (nI (3 - k)) I2 L2 = _
      unfold sX4_highestAmbiguity_99
      rw [if_pos rfl]
      rfl
    | some S1 =>
      obtain ⟨m1, m2, _⟩ := kp_m e3 hR.2.1
      obtain ⟨I3, L3, e4, f4, g4⟩ := ih (u + 1) I2 L2 S1 (by omega) (by omega) (hA.kept (f2 2 (by have := hS.1; omega)).1 (f2 3 (by have := hS.1; omega)).1) (g2 S1 e3) (by omega)
      exact ⟨I3, L3, e4, hf.tr f4, g4⟩
theorem e_h58 (hS : stR R n) (hw : aw A) (h23 : R 2 3 = 3) {U : Int32} (j : Int32 → Int64 → am_I → am_L → Option (Int64 × am_I × am_L)) (hj : ∀ v I L, j 0 v I L = some (-5, I, L)) (hj1 : ∀ v I L, j 1 v I L = some (v, I, L)) : ∀ (k u r : Nat) (hi : Int64) (I : am_I) (L : am_L) (S : am_Rw), k + r = 1001 → k + 1 < u → isA I 2 3 A → RSc I L n S → r ≤ S.1 →
    ∃ I' L', lX4_highestAmbiguity_58 R n 2 U j u (1 : Int32) hi (nI r) I L = some (bfs A U k S hi r, I', L') ∧ rwf I L n I' L' := by
  intro k
  induction k with
  | zero =>
    intro u r hi I L S hk hu hA hR hr
    have := hR.2.1
    omega
  | succ k ih =>
    intro u r hi I L S hk hu hA hR hr
    obtain ⟨u, rfl⟩ : ∃ g, u = g + 2 := ⟨u - 2, by omega⟩
    have hm := hR.2.1
    by_cases q : S.1 ≤ r
    · refine ⟨I, L, ?_, rwf.rf I L n⟩
      show sX4_highestAmbiguity_58 R n 2 U j (lX4_highestAmbiguity_58 R n 2 U j (u + 1)) (1 : Int32) hi (nI r) I L = _
      unfold sX4_highestAmbiguity_58
      rw [if_neg (show ¬ (1 : Int32) = 0 by decide), hR.1, if_pos (nI_le q (by omega)), hj1]
      show _ = some ((if S.1 ≤ r then hi else _), _)
      rw [if_pos q]
    · have hr' : r < S.1 := by omega
      obtain ⟨v, hv⟩ : ∃ v, v = mx hi (sm A (S.2 r)) := ⟨_, rfl⟩
      obtain ⟨I1, L1, e1, f1, g1⟩ := e_h99 (R := R) (A := A) (n := n) (U := U) (r := r) hS hw h23 v (fun (v26 : Int32) (J27 : am_I) (J28 : am_L) => lX4_highestAmbiguity_58 R n 2 U j (u + 1) v26 v (nI r + (1 : Int32)) J27 J28) 3 am_fu I L S (Nat.le_refl _) (by have := am_fu_ge; omega) hA hR hr'
      have hstep : lX4_highestAmbiguity_58 R n 2 U j (u + 2) (1 : Int32) hi (nI r) I L = lX4_highestAmbiguity_58 R n 2 U j (u + 1) (bI (ltr A U r 3 S).isSome) v (nI (r + 1)) I1 L1 := by
        show sX4_highestAmbiguity_58 R n 2 U j (lX4_highestAmbiguity_58 R n 2 U j (u + 1)) (1 : Int32) hi (nI r) I L = _
        unfold sX4_highestAmbiguity_58
        rw [if_neg (show ¬ (1 : Int32) = 0 by decide), hR.1, if_neg (nIge hr' (by omega)), if_neg (show ¬ (1000 : Int32) ≤ nI r from nI_ge (b := 1000) (by omega) (by omega)), hA.2.2.1, e_sumOver hS hR hr', am_bd, am_let_e, am_jn_e]
        have ev : (if sm A (S.2 r) < hi then hi else sm A (S.2 r)) = v := hv.symm
        rw [ev]
        have e1' := e1
        rw [show nI (3 - 3) = (0 : Int32) from rfl] at e1'
        rw [e1', nI_1]
      show ∃ I' L', _ = some ((if S.1 ≤ r then hi else _), I', L') ∧ _
      rw [if_neg q, hstep, ← hv]
      cases e3 : ltr A U r 3 S with
      | none =>
        refine ⟨I1, L1, ?_, f1⟩
        show sX4_highestAmbiguity_58 R n 2 U j (lX4_highestAmbiguity_58 R n 2 U j u) (0 : Int32) v (nI (r + 1)) I1 L1 = _
        unfold sX4_highestAmbiguity_58
        rw [if_pos rfl, hj]
      | some S1 =>
        obtain ⟨m1, m2⟩ := ltr_m e3 hm
        obtain ⟨I2, L2, e4, f4⟩ := ih (u + 1) (r + 1) v I1 L1 S1 (by omega) (by omega) (hA.kept (f1 2 (by have := hS.1; omega)).1 (f1 3 (by have := hS.1; omega)).1) (g1 S1 e3) (by omega)
        exact ⟨I2, L2, e4, f1.tr f4⟩
/-- the row of the empty word -/
def row0 (A : am_Au) (s : Nat) : Int64 := if bt (A.2.1 &&& uA A) s = true then 1 else 0
def S0 (A : am_Au) : am_Rw := (1, fun _ => row0 A)
theorem e_highest (hS : stR R n) (hw : aw A) (h23 : R 2 3 = 3) (hA : isA I 2 3 A) : ∃ I' L', pX4_highestAmbiguity R I L n 2 = some (bfs A (uA A) 1001 (S0 A) 0 0, I', L') ∧ rwf I L n I' L' := by
  have hA3 : isA I 2 (R 2 3) A := by rw [h23]; exact hA
  have h49 := hS.1
  obtain ⟨I1, e1, g1, g2, g3⟩ : ∃ I1, pX4_makeEmpty R I n = some I1 ∧ (∀ b, b < 256 → I1 (n + 3) b = -1) ∧ I1 n 4 = 0 ∧ ∀ b, b < n → I1 b = I b := by
    unfold pX4_makeEmpty
    rw [am_let_e]
    obtain ⟨I1, e, p1, p2, p3⟩ := am_for0 (fun k i J => lX4_makeEmpty_7 R n k (nI i) J) 256 (fun i J => (∀ b, b < i → J (n + 3) b = -1) ∧ J n 4 = 0 ∧ ∀ b, b < n → J b = I b) (fun J => some J) (by omega) (fun k i J hi hP => by
      obtain ⟨p1, p2, p3⟩ := hP
      refine ⟨am_upI J (n + 3) i (-1), ?_, fun b hb => ?_, by rw [am_upI_ne (by omega)]; exact p2, fun b hb => by rw [am_upI_ne (by omega)]; exact p3 b hb⟩
      · show sX4_makeEmpty_7 R n (lX4_makeEmpty_7 R n k) (nI i) J = _
        unfold sX4_makeEmpty_7
        rw [if_neg (ng256 hi), inb hi (by omega), am_ck_true, am_let_e, hS.2.2.2.1, nIcl (show i < 1000000 by omega), nI_1]
      · by_cases q : b = i
        · rw [q, am_upI_s]
        · rw [am_upI_o q]; exact p1 b (by omega)) (fun k J _ => by
      show sX4_makeEmpty_7 R n (lX4_makeEmpty_7 R n k) (nI 256) J = _
      unfold sX4_makeEmpty_7
      rw [if_pos yg256]) (am_upI I n 4 0) ⟨fun b hb => absurd hb (Nat.not_lt_zero b), am_upI_s, fun b hb => am_upI_ne (by omega)⟩
    rw [nI_0] at e
    exact ⟨I1, e, p1, p2, p3⟩
  have hA1 : isA I1 2 3 A := hA.kept (g3 2 (by omega)) (g3 3 (by omega))
  unfold pX4_highestAmbiguity
  rw [e_usefulSet hA3 hw, am_bd, e1, am_bd, am_jn_e]
  obtain ⟨j6, hj6⟩ : ∃ j : Int32 → Int64 → am_I → am_L → Option (Int64 × am_I × am_L), j = fun (v7 : Int32) (v8 : Int64) (J9 : am_I) (J10 : am_L) => if v7 = 0 then (some ((-5 : Int64), J9, J10)) else (some (v8, J9, J10)) := ⟨_, rfl⟩
  obtain ⟨j3, hj3⟩ : ∃ j : am_L → Option (Int64 × am_I × am_L), j = fun (J4 : am_L) =>
  Option.bind (pX4_keepFresh R I1 J4 n) (fun r5 =>
  am_jn j6 (fun j6 =>
  lX4_highestAmbiguity_58 R n 2 (uA A) j6 am_fu r5.1 (0 : Int64) (0 : Int32) r5.2.1 r5.2.2)) := ⟨_, rfl⟩
  rw [hj6] at hj3
  rw [← hj3]
  obtain ⟨L1, e2, p1, p2⟩ := am_for0 (fun k i J => lX4_highestAmbiguity_11 R n 2 (uA A) I1 j3 k (nI i) J) 6 (fun i J => (∀ t, t < i → J (n + 2) t = row0 A t) ∧ ffL L J n) (fun J => j3 J) (by omega) (fun k i J hi hP => by
    obtain ⟨p1, p2⟩ := hP
    refine ⟨am_upL J (n + 2) i (row0 A i), ?_, fun t ht => ?_, fun b hb => by rw [am_upL_n hb]; exact p2 b hb⟩
    · show sX4_highestAmbiguity_11 R n 2 (uA A) I1 j3 (lX4_highestAmbiguity_11 R n 2 (uA A) I1 j3 k) (nI i) J = _
      unfold sX4_highestAmbiguity_11
      rw [if_neg (ng6 hi), hA1.2.1, e_cb _ (show i < 32 by omega), am_bd, am_let_e, inb hi (by omega), am_ck_true, am_let_e, hS.2.2.1, nIcl (show i < 1000000 by omega), nI_1]
      unfold row0
      cases bt (A.2.1 &&& uA A) i <;> rfl
    · by_cases q : t = i
      · rw [q, am_upL_s]
      · rw [am_upL_o q]; exact p1 t (by omega)) (fun k J _ => by
    show sX4_highestAmbiguity_11 R n 2 (uA A) I1 j3 (lX4_highestAmbiguity_11 R n 2 (uA A) I1 j3 k) (nI 6) J = _
    unfold sX4_highestAmbiguity_11
    rw [if_pos yg6]) L ⟨fun t ht => absurd ht (Nat.not_lt_zero t), fun _ _ => rfl⟩
  rw [nI_0] at e2
  have hR0 : RSc I1 L1 n (0, fun _ => row0 A) := ⟨g2, Nat.zero_le _, fun r s hr _ => absurd hr (Nat.not_lt_zero r), fun b hb => g1 b hb, fun r hr => absurd hr (Nat.not_lt_zero r)⟩
  obtain ⟨I2, L2, e3, f3, _, g4⟩ := e_keepFresh (f := row0 A) hS hR0 (fun s hs => p1 s hs)
  have ek : kp (0, fun _ => row0 A) (row0 A) = some (S0 A) := by
    unfold kp
    rw [dcdF (fun ⟨r, hr, _⟩ => absurd hr (Nat.not_lt_zero r)), if_neg (show ¬ false = true by decide), if_neg (show ¬ (0 : Nat) = 1000 by decide)]
    unfold S0
    congr 2
    funext r
    by_cases q : r = 0
    · exact if_pos q
    · exact if_neg q
  rw [ek] at e3
  obtain ⟨I3, L3, e4, f4⟩ := e_h58 (R := R) (A := A) (n := n) (U := uA A) hS hw h23 j6 (fun v I L => by rw [hj6]; rfl) (fun v I L => by rw [hj6]; rfl) 1001 am_fu 0 0 I2 L2 (S0 A) (by omega) (by have := am_fu_ge; omega) (hA1.kept (f3 2 (by omega)).1 (f3 3 (by omega)).1) (g4 _ ek) (Nat.zero_le _)
  rw [nI_0] at e4
  refine ⟨I3, L3, ?_, fun b hb => ⟨(f4 b hb).1.trans ((f3 b hb).1.trans (g3 b hb)), (f4 b hb).2.trans ((f3 b hb).2.trans (p2 b (by omega)))⟩⟩
  refine e2.trans ?_
  rw [hj3]
  dsimp only
  rw [e3, am_bd, am_jn_e, ← hj6]
  exact e4
end
