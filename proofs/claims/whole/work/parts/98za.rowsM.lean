/-! the reference: all rows -/
section
variable {A : am_Au} {J : am_I} {K : am_L}
def RSm (K : am_L) (S : am_Rw) : Prop := S.1 ≤ 1000 ∧ ∀ r s, r < S.1 → s < 6 → K 19 (6 * r + s) = S.2 r s
def fsm (K : am_L) (f : Nat → Int64) : Prop := ∀ s, s < 6 → K 20 s = f s
theorem e_isNewRow {S : am_Rw} (hR : RSm K S) {f : Nat → Int64} (hf : fsm K f) : pX11_isNewRow rM K 1 (nI S.1) = some (bI (!dcd (∃ r, r < S.1 ∧ eqf (S.2 r) f))) := by
  have h1 := hR.1
  unfold pX11_isNewRow
  have key := am_forQ (fun k i (_ : Unit) => lX11_isNewRow_2 rM K 1 (nI S.1) k (nI i)) S.1 (fun i _ => ∀ r, r < i → ¬ eqf (S.2 r) f) (fun o => o = some (bI (!dcd (∃ r, r < S.1 ∧ eqf (S.2 r) f)))) (by omega) (fun k i _ hi hP => by
    obtain ⟨j5, hj5⟩ : ∃ j : Int32 → Option Int32, j = fun (v6 : Int32) => if v6 = (6 : Int32) then (some (0 : Int32)) else (lX11_isNewRow_2 rM K 1 (nI S.1) k (nI i + (1 : Int32))) := ⟨_, rfl⟩
    have inner := am_forQ (fun k s (_ : Unit) => lX11_isNewRow_9 rM K 1 (nI S.1) (nI i) j5 k (nI s)) 6 (fun s _ => ∀ t, t < s → S.2 i t = f t) (fun o => (eqf (S.2 i) f ∧ o = j5 (nI 6)) ∨ (¬ eqf (S.2 i) f ∧ ∃ t, t < 6 ∧ o = j5 (nI t))) (by omega) (fun k s _ hs hP => by
      have ex : (6 : Int32) * nI i + nI s = nI (6 * i + s) := by rw [show (6 : Int32) = nI 6 from rfl, pk_mul, nI_add]
      have hs0 : lX11_isNewRow_9 rM K 1 (nI S.1) (nI i) j5 (k + 1) (nI s) = if S.2 i s = f s then lX11_isNewRow_9 rM K 1 (nI S.1) (nI i) j5 k (nI (s + 1)) else j5 (nI s) := by
        show sX11_isNewRow_9 rM K 1 (nI S.1) (nI i) j5 (lX11_isNewRow_9 rM K 1 (nI S.1) (nI i) j5 k) (nI s) = _
        unfold sX11_isNewRow_9
        rw [if_neg (ng6 hs), ex, inb (show 6 * i + s < 6000 by omega) (by omega), am_ck_true, inb hs (by omega), am_ck_true, rM31, rM32, nIcl (show 6 * i + s < 1000000 by omega), nIcl (show s < 1000000 by omega), hR.2 i s hi hs, hf s hs, nI_1]
        by_cases q : S.2 i s = f s
        · rw [if_pos q, if_pos (lg_cmp0.mpr q)]
        · rw [if_neg q, if_neg (fun h => q (lg_cmp0.mp h))]
      by_cases q : S.2 i s = f s
      · left
        refine ⟨(), by rw [hs0, if_pos q], fun t ht => ?_⟩
        by_cases e : t = s
        · rw [e]; exact q
        · exact hP t (by omega)
      · right; right
        exact ⟨fun h => q (h s hs), s, hs, by rw [hs0, if_neg q]⟩) (fun k _ hP => by
      left
      refine ⟨fun t ht => hP t ht, ?_⟩
      show sX11_isNewRow_9 rM K 1 (nI S.1) (nI i) j5 (lX11_isNewRow_9 rM K 1 (nI S.1) (nI i) j5 k) (nI 6) = _
      unfold sX11_isNewRow_9
      rw [if_pos yg6]) () (fun t ht => absurd ht (Nat.not_lt_zero t))
    rw [nI_0] at inner
    have hs0 : lX11_isNewRow_2 rM K 1 (nI S.1) (k + 1) (nI i) = lX11_isNewRow_9 rM K 1 (nI S.1) (nI i) j5 am_fu (0 : Int32) := by
      show sX11_isNewRow_2 rM K 1 (nI S.1) (lX11_isNewRow_2 rM K 1 (nI S.1) k) (nI i) = _
      unfold sX11_isNewRow_2
      rw [if_neg (nIge hi (by omega)), am_jn_e, hj5]
    rcases inner with ⟨q, e⟩ | ⟨q, t, ht, e⟩
    · right
      rw [hs0, e, hj5]
      dsimp only
      rw [if_pos (show nI 6 = (6 : Int32) from rfl), dcdT ⟨i, hi, q⟩]
      rfl
    · left
      refine ⟨(), ?_, fun r hr => ?_⟩
      · rw [hs0, e, hj5]
        dsimp only
        rw [if_neg (show ¬ nI t = (6 : Int32) from fun h => by have := (nI_eq (a := t) (b := 6) (by omega) (by omega)).mp h; omega), nI_1]
      · by_cases e : r = i
        · rw [e]; exact q
        · exact hP r (by omega)) (fun k _ hP => by
    show sX11_isNewRow_2 rM K 1 (nI S.1) (lX11_isNewRow_2 rM K 1 (nI S.1) k) (nI S.1) = _
    unfold sX11_isNewRow_2
    rw [if_pos (nIle (by omega)), dcdF (fun ⟨r, hr, h⟩ => hP r hr h)]
    rfl) () (fun r hr => absurd hr (Nat.not_lt_zero r))
  rw [nI_0] at key
  exact key
theorem e_addRow {f : Nat → Int64} (hf : fsm K f) {m : Nat} (hm : m < 1000) : ∃ K', pX11_addRow rM K 1 (nI m) = some K' ∧ (∀ s, s < 6 → K' 19 (6 * m + s) = f s) ∧ (∀ x, x < 6 * m → K' 19 x = K 19 x) ∧ ∀ b, b ≠ 19 → K' b = K b := by
  unfold pX11_addRow
  obtain ⟨K', e, g1, g2, g3⟩ := am_for0 (fun k i J => lX11_addRow_2 rM 1 (nI m) k (nI i) J) 6 (fun i J => (∀ s, s < i → J 19 (6 * m + s) = f s) ∧ (∀ x, x < 6 * m → J 19 x = K 19 x) ∧ ∀ b, b ≠ 19 → J b = K b) (fun J => some J) (by omega) (fun k i J hi hP => by
    obtain ⟨p1, p2, p3⟩ := hP
    have ex : (6 : Int32) * nI m + nI i = nI (6 * m + i) := by rw [show (6 : Int32) = nI 6 from rfl, pk_mul, nI_add]
    refine ⟨am_upL J 19 (6 * m + i) (f i), ?_, fun s hs => ?_, fun x hx => ?_, fun b x => by rw [am_upL_n x]; exact p3 b x⟩
    · show sX11_addRow_2 rM 1 (nI m) (lX11_addRow_2 rM 1 (nI m) k) (nI i) J = _
      unfold sX11_addRow_2
      rw [if_neg (ng6 hi), inb hi (by omega), am_ck_true, ex, inb (show 6 * m + i < 6000 by omega) (by omega), am_ck_true, am_let_e, rM31, rM32, nIcl (show 6 * m + i < 1000000 by omega), nIcl (show i < 1000000 by omega), p3 20 (by omega), hf i hi, nI_1]
    · by_cases e : s = i
      · rw [e, am_upL_s]
      · rw [am_upL_o (by omega)]; exact p1 s (by omega)
    · rw [am_upL_o (by omega)]; exact p2 x hx) (fun k J _ => by
    show sX11_addRow_2 rM 1 (nI m) (lX11_addRow_2 rM 1 (nI m) k) (nI 6) J = _
    unfold sX11_addRow_2
    rw [if_pos yg6]) K ⟨fun s hs => absurd hs (Nat.not_lt_zero s), fun _ _ => rfl, fun _ _ => rfl⟩
  rw [nI_0] at e
  exact ⟨K', e, g1, g2, g3⟩
def ffK (K K' : am_L) : Prop := ∀ b, b ≠ 20 → K' b = K b
/-- one number of a fresh row -/
theorem e_mx172 (hw : aw A) (hA : isM J A) {S : am_Rw} {r a t : Nat} (hr : r < S.1) (ha : a < 3) (ht : t < 6) {K : am_L} (hR : RSm K S) (h0 : K 20 t = 0) (v23 : Int32) (v17 : Int64) (j : am_L → Option (Int64 × am_I × am_L)) : ∃ K', lX11_maximumAmbiguity_172 rM 1 (uA A) v23 v17 (nI r) (nI a) (nI t) J j am_fu (0 : Int32) K = j K' ∧ K' 20 t = fr A (uA A) (S.2 r) a t ∧ (∀ x, x ≠ t → K' 20 x = K 20 x) ∧ ffK K K' := by
  have h6 := hw.2.1
  have h1 := hR.1
  have band : ∀ s, bt (A.2.2.2 a s &&& uA A) t = (bt (A.2.2.2 a s) t && bt (uA A) t) := fun s => bt_and _ _ _
  by_cases hu : bt (uA A) t = true
  · obtain ⟨K', e, g1, g2, g3⟩ := am_for0 (fun k i M => lX11_maximumAmbiguity_172 rM 1 (uA A) v23 v17 (nI r) (nI a) (nI t) J j k (nI i) M) A.1 (fun i M => M 20 t = am_to (fun s v => v + (if bt (A.2.2.2 a s &&& uA A) t = true then S.2 r s else 0)) i 0 ∧ (∀ x, x ≠ t → M 20 x = K 20 x) ∧ ffK K M) (fun M => j M) (by omega) (fun k i M hi hP => by
      obtain ⟨p1, p2, p3⟩ := hP
      have ea : (6 : Int32) * nI a + nI i = nI (6 * a + i) := by rw [show (6 : Int32) = nI 6 from rfl, pk_mul, nI_add]
      have er : (6 : Int32) * nI r + nI i = nI (6 * r + i) := by rw [show (6 : Int32) = nI 6 from rfl, pk_mul, nI_add]
      refine ⟨am_upL M 20 t (am_to (fun s v => v + (if bt (A.2.2.2 a s &&& uA A) t = true then S.2 r s else 0)) (i + 1) 0), ?_, am_upL_s, fun x hx => by rw [am_upL_o hx]; exact p2 x hx, fun b hb => by rw [am_upL_n hb]; exact p3 b hb⟩
      show sX11_maximumAmbiguity_172 rM 1 (uA A) v23 v17 (nI r) (nI a) (nI t) J j (lX11_maximumAmbiguity_172 rM 1 (uA A) v23 v17 (nI r) (nI a) (nI t) J j k) (nI i) M = _
      unfold sX11_maximumAmbiguity_172
      rw [hA.1, if_neg (nIge hi (by omega)), e_hb _ (show t < 32 by omega), am_bd, hu, if_neg (show ¬ bI true = 0 by decide), inb ht (by omega), am_ck_true, ea, inb (show 6 * a + i < 18 by omega) (by omega), am_ck_true, rM0, nIcl (show 6 * a + i < 1000000 by omega), hA.2.2.2 a i ha (by omega), e_hb _ (show t < 32 by omega), am_bd, am_jn_e, er, inb (show 6 * r + i < 6000 by omega) (by omega), am_ck_true, rM31, rM32, nIcl (show 6 * r + i < 1000000 by omega), nIcl (show t < 1000000 by omega), p3 19 (by decide), hR.2 r i hr (by omega), p1]
      dsimp only
      rw [am_ck_true, am_let_e, am_ck_true, am_let_e, nI_1]
      show _ = lX11_maximumAmbiguity_172 rM 1 (uA A) v23 v17 (nI r) (nI a) (nI t) J j k (nI (i + 1)) (am_upL M 20 t (am_to (fun s v => v + (if bt (A.2.2.2 a s &&& uA A) t = true then S.2 r s else 0)) i 0 + (if bt (A.2.2.2 a i &&& uA A) t = true then S.2 r i else 0)))
      rw [band i, hu, Bool.and_true]
      cases bt (A.2.2.2 a i) t <;> rfl) (fun k M _ => by
      show sX11_maximumAmbiguity_172 rM 1 (uA A) v23 v17 (nI r) (nI a) (nI t) J j (lX11_maximumAmbiguity_172 rM 1 (uA A) v23 v17 (nI r) (nI a) (nI t) J j k) (nI A.1) M = _
      unfold sX11_maximumAmbiguity_172
      rw [hA.1, if_pos (nIle (by omega))]) K ⟨h0, fun _ _ => rfl, fun _ _ => rfl⟩
    rw [nI_0] at e
    refine ⟨K', e, ?_, g2, g3⟩
    rw [g1]
    -- the states behind A.1 add nothing
    have tail : ∀ d, A.1 + d ≤ 6 → am_to (fun s v => v + (if bt (A.2.2.2 a s &&& uA A) t = true then S.2 r s else 0)) (A.1 + d) 0 = am_to (fun s v => v + (if bt (A.2.2.2 a s &&& uA A) t = true then S.2 r s else (0 : Int64))) A.1 0 := by
      intro d
      induction d with
      | zero => intro _; rfl
      | succ d ih =>
        intro hd
        show am_to _ (A.1 + d) 0 + (if bt (A.2.2.2 a (A.1 + d) &&& uA A) t = true then S.2 r (A.1 + d) else 0) = _
        rw [hw.2.2.2.2 a (A.1 + d) (Or.inl (Nat.le_add_right _ _)), bt_and, bt_zero, Bool.false_and, if_neg (show ¬ false = true by decide), Int64.add_zero]
        exact ih (by omega)
    have := tail (6 - A.1) (by omega)
    rw [show A.1 + (6 - A.1) = 6 by omega] at this
    exact this.symm
  · refine ⟨K, ?_, ?_, fun _ _ => rfl, fun _ _ => rfl⟩
    · obtain ⟨k, hk⟩ : ∃ k, am_fu = k + 1 := ⟨am_fu - 1, by have := am_fu_ge; omega⟩
      rw [hk]
      show sX11_maximumAmbiguity_172 rM 1 (uA A) v23 v17 (nI r) (nI a) (nI t) J j (lX11_maximumAmbiguity_172 rM 1 (uA A) v23 v17 (nI r) (nI a) (nI t) J j k) (nI 0) K = _
      unfold sX11_maximumAmbiguity_172
      have hA1 := hw.1
      rw [hA.1, if_neg (nIge (a := 0) (by omega) (by omega)), e_hb _ (show t < 32 by omega), am_bd, Bool.eq_false_iff.mpr hu, if_pos (show bI false = 0 from rfl)]
    · rw [h0]
      refine (am_to_ind (fun v => v = (0 : Int64)) 6 0 (fun s v _ hv => ?_) rfl).symm
      rw [band s, Bool.eq_false_iff.mpr hu, Bool.and_false, if_neg (show ¬ false = true by decide), hv]
      rfl
theorem e_mx154 (hw : aw A) (hA : isM J A) {S : am_Rw} {r a : Nat} (hr : r < S.1) (ha : a < 3) {K : am_L} (hR : RSm K S) (v23 : Int32) (v17 : Int64) (j : am_L → Option (Int64 × am_I × am_L)) : ∃ K', lX11_maximumAmbiguity_154 rM 1 (uA A) v23 v17 (nI r) (nI a) J j am_fu (0 : Int32) K = j K' ∧ fsm K' (fr A (uA A) (S.2 r) a) ∧ ffK K K' := by
  obtain ⟨K', e, g1, g2⟩ := am_for0 (fun k i M => lX11_maximumAmbiguity_154 rM 1 (uA A) v23 v17 (nI r) (nI a) J j k (nI i) M) 6 (fun i M => (∀ t, t < i → M 20 t = fr A (uA A) (S.2 r) a t) ∧ ffK K M) (fun M => j M) (by omega) (fun k i M hi hP => by
    obtain ⟨p1, p2⟩ := hP
    obtain ⟨M', q1, q2, q3, q4⟩ := e_mx172 (K := am_upL M 20 i 0) hw hA hr ha hi ⟨hR.1, fun r s hr hs => by rw [am_upL_n (by decide), p2 19 (by decide)]; exact hR.2 r s hr hs⟩ am_upL_s v23 v17 (fun (J45 : am_L) => lX11_maximumAmbiguity_154 rM 1 (uA A) v23 v17 (nI r) (nI a) J j k (nI i + (1 : Int32)) J45)
    refine ⟨M', ?_, fun t ht => ?_, fun b hb => by rw [q4 b hb, am_upL_n hb]; exact p2 b hb⟩
    · show sX11_maximumAmbiguity_154 rM 1 (uA A) v23 v17 (nI r) (nI a) J j (lX11_maximumAmbiguity_154 rM 1 (uA A) v23 v17 (nI r) (nI a) J j k) (nI i) M = _
      unfold sX11_maximumAmbiguity_154
      rw [if_neg (ng6 hi), inb hi (by omega), am_ck_true, am_let_e, am_jn_e, rM32, nIcl (show i < 1000000 by omega), q1, nI_1]
    · by_cases e : t = i
      · rw [e]; exact q2
      · rw [q3 t e, am_upL_o e]; exact p1 t (by omega)) (fun k M _ => by
    show sX11_maximumAmbiguity_154 rM 1 (uA A) v23 v17 (nI r) (nI a) J j (lX11_maximumAmbiguity_154 rM 1 (uA A) v23 v17 (nI r) (nI a) J j k) (nI 6) M = _
    unfold sX11_maximumAmbiguity_154
    rw [if_pos yg6]) K ⟨fun t ht => absurd ht (Nat.not_lt_zero t), fun _ _ => rfl⟩
  rw [nI_0] at e
  exact ⟨K', e, g1, g2⟩
/-- only the rows and the fresh row are touched -/
def fK (K K' : am_L) : Prop := ∀ b, b ≠ 19 → b ≠ 20 → K' b = K b
theorem e_mx145 (hw : aw A) (hA : isM J A) {r : Nat} (v17 : Int64) (j : Int32 → am_L → Option (Int64 × am_I × am_L)) : ∀ (k u : Nat) (K : am_L) (S : am_Rw), k ≤ 3 → k < u → RSm K S → r < S.1 →
    ∃ K', fK K K' ∧ match ltr A (uA A) r k S with
      | none => lX11_maximumAmbiguity_145 rM 1 (uA A) v17 (nI r) J j u (nI S.1) (nI (3 - k)) K = some (-5, J, K')
      | some S' => lX11_maximumAmbiguity_145 rM 1 (uA A) v17 (nI r) J j u (nI S.1) (nI (3 - k)) K = j (nI S'.1) K' ∧ RSm K' S' := by
  intro k
  induction k with
  | zero =>
    intro u K S _ hu hR hr
    obtain ⟨u, rfl⟩ : ∃ g, u = g + 1 := ⟨u - 1, by omega⟩
    refine ⟨K, fun _ _ _ => rfl, ?_, hR⟩
    show sX11_maximumAmbiguity_145 rM 1 (uA A) v17 (nI r) J j (lX11_maximumAmbiguity_145 rM 1 (uA A) v17 (nI r) J j u) (nI S.1) (nI 3) K = _
    unfold sX11_maximumAmbiguity_145
    rw [if_pos yg3]
  | succ k ih =>
    intro u K S hk hu hR hr
    obtain ⟨u, rfl⟩ : ∃ g, u = g + 1 := ⟨u - 1, by omega⟩
    have h1 := hR.1
    have e0 : 3 - (k + 1) = 2 - k := by omega
    obtain ⟨j28, hj28⟩ : ∃ j' : am_L → Option (Int64 × am_I × am_L), j' = fun (J29 : am_L) =>
  Option.bind (pX11_isNewRow rM J29 1 (nI S.1)) (fun r30 =>
  am_jn (fun (v32 : Int32) (J33 : am_L) =>
  lX11_maximumAmbiguity_145 rM 1 (uA A) v17 (nI r) J j u v32 (nI (2 - k) + (1 : Int32)) J33) (fun j31 =>
  if r30 = 0 then (
    j31 (nI S.1) J29) else (
    if nI S.1 = (1000 : Int32) then (
      some ((-5 : Int64), J, J29)) else (
      Option.bind (pX11_addRow rM J29 1 (nI S.1)) (fun r36 =>
      j31 (nI S.1 + (1 : Int32)) r36))))) := ⟨_, rfl⟩
    obtain ⟨K1, e1, f1, g1⟩ := e_mx154 hw hA hr (show 2 - k < 3 by omega) hR (nI S.1) v17 j28
    have hR1 : RSm K1 S := ⟨h1, fun r s hr hs => by rw [g1 19 (by decide)]; exact hR.2 r s hr hs⟩
    have hn := e_isNewRow hR1 f1
    have hstep : lX11_maximumAmbiguity_145 rM 1 (uA A) v17 (nI r) J j (u + 1) (nI S.1) (nI (3 - (k + 1))) K = j28 K1 := by
      show sX11_maximumAmbiguity_145 rM 1 (uA A) v17 (nI r) J j (lX11_maximumAmbiguity_145 rM 1 (uA A) v17 (nI r) J j u) (nI S.1) (nI (3 - (k + 1))) K = _
      unfold sX11_maximumAmbiguity_145
      rw [e0, if_neg (ng3 (by omega)), am_jn_e, ← e1, hj28]
    rw [hstep]
    show ∃ K', fK K K' ∧ match Option.bind (kp S (fr A (uA A) (S.2 r) (2 - k))) (fun S' => ltr A (uA A) r k S') with
      | none => j28 K1 = some (-5, J, K')
      | some S' => j28 K1 = j (nI S'.1) K' ∧ RSm K' S'
    have e3 : 2 - k + 1 = 3 - k := by omega
    rw [hj28]
    dsimp only
    rw [hn, am_bd, am_jn_e, nI_1, nI_1, e3]
    unfold kp
    cases hd : dcd (∃ r', r' < S.1 ∧ eqf (S.2 r') (fr A (uA A) (S.2 r) (2 - k))) with
    | true =>
      rw [if_pos rfl, if_pos (show bI (!true) = 0 from rfl), am_bd]
      obtain ⟨K2, f2, q2⟩ := ih u K1 S (by omega) (by omega) hR1 hr
      exact ⟨K2, fun b x y => (f2 b x y).trans (g1 b y), q2⟩
    | false =>
      rw [if_neg (show ¬ false = true by decide), if_neg (show ¬ bI (!false) = 0 by decide)]
      by_cases hm : S.1 = 1000
      · rw [if_pos (show nI S.1 = (1000 : Int32) by rw [hm]; rfl), if_pos hm]
        exact ⟨K1, fun b x y => g1 b y, rfl⟩
      · rw [if_neg (show ¬ nI S.1 = (1000 : Int32) from fun h => hm ((nI_eq (a := S.1) (b := 1000) (by omega) (by omega)).mp h)), if_neg hm, am_bd]
        obtain ⟨K2, e4, a1, a2, a3⟩ := e_addRow f1 (m := S.1) (by omega)
        rw [e4, am_bd]
        have hR2 : RSm K2 (S.1 + 1, fun r' => if r' = S.1 then fr A (uA A) (S.2 r) (2 - k) else S.2 r') := ⟨by show S.1 + 1 ≤ 1000; omega, fun r' s hr' hs => by
          have hr'' : r' < S.1 + 1 := hr'
          show K2 19 (6 * r' + s) = (if r' = S.1 then fr A (uA A) (S.2 r) (2 - k) else S.2 r') s
          by_cases q : r' = S.1
          · rw [if_pos q, q]; exact a1 s hs
          · rw [if_neg q, a2 _ (by omega)]; exact hR1.2 r' s (by omega) hs⟩
        obtain ⟨K3, f3, q3⟩ := ih u K2 _ (by omega) (by omega) hR2 (show r < S.1 + 1 by omega)
        exact ⟨K3, fun b x y => (f3 b x y).trans ((a3 b x).trans (g1 b y)), q3⟩
theorem mx_M (v w : Int64) : (if lg_cmp w v ≤ 0 then v else w) = mx v w := by
  unfold mx
  by_cases h : w < v
  · rw [if_pos h, if_pos]
    have := lg_lt.mpr h
    have := Int32.lt_iff_toInt_lt.mp this
    rw [Int32.le_iff_toInt_le]
    omega
  · rw [if_neg h]
    by_cases g : lg_cmp w v ≤ 0
    · rw [if_pos g]
      have h2 : ¬ v < w := fun q => by
        have := Int32.lt_iff_toInt_lt.mp (lg_gt.mpr q)
        have := Int32.le_iff_toInt_le.mp g
        omega
      apply Int64.toInt.inj
      rw [Int64.lt_iff_toInt_lt] at h h2
      omega
    · rw [if_neg g]
theorem e_mx80 (hw : aw A) (hA : isM J A) {S : am_Rw} (hR : RSm K S) {r : Nat} (hr : r < S.1) (v8 : Int32) (v9 : Int64) (j : Int64 → Option (Int64 × am_I × am_L)) : lX11_maximumAmbiguity_80 rM 1 (uA A) v8 v9 (nI r) J K j am_fu (0 : Int64) (0 : Int32) = j (sm A (S.2 r)) := by
  have h1 := hR.1
  have e := am_forF (fun k i (v : Int64) => lX11_maximumAmbiguity_80 rM 1 (uA A) v8 v9 (nI r) J K j k v (nI i)) 6 (fun s v => v + (if bt A.2.2.1 s = true then S.2 r s else 0)) (fun v => j v) (by omega) (fun k i v hi => by
    have er : (6 : Int32) * nI r + nI i = nI (6 * r + i) := by rw [show (6 : Int32) = nI 6 from rfl, pk_mul, nI_add]
    show sX11_maximumAmbiguity_80 rM 1 (uA A) v8 v9 (nI r) J K j (lX11_maximumAmbiguity_80 rM 1 (uA A) v8 v9 (nI r) J K j k) v (nI i) = _
    unfold sX11_maximumAmbiguity_80
    rw [if_neg (ng6 hi), hA.2.2.1, e_hb _ (show i < 32 by omega), am_bd, am_jn_e, er, inb (show 6 * r + i < 6000 by omega) (by omega), am_ck_true, rM31, nIcl (show 6 * r + i < 1000000 by omega), hR.2 r i hr hi]
    dsimp only
    rw [am_let_e, am_let_e, nI_1]
    cases bt A.2.2.1 i <;> rfl) (fun k v => by
    show sX11_maximumAmbiguity_80 rM 1 (uA A) v8 v9 (nI r) J K j (lX11_maximumAmbiguity_80 rM 1 (uA A) v8 v9 (nI r) J K j k) v (nI 6) = _
    unfold sX11_maximumAmbiguity_80
    rw [if_pos yg6]) 0
  rw [nI_0] at e
  exact e
theorem e_mx68 (hw : aw A) (hA : isM J A) : ∀ (k u r : Nat) (hi : Int64) (K : am_L) (S : am_Rw), k + r = 1001 → k < u → RSm K S → r ≤ S.1 →
    ∃ K', lX11_maximumAmbiguity_68 rM 1 (uA A) J u (nI S.1) hi (nI r) K = some (bfs A (uA A) k S hi r, J, K') ∧ fK K K' := by
  intro k
  induction k with
  | zero =>
    intro u r hi K S hk hu hR hr
    have := hR.1
    omega
  | succ k ih =>
    intro u r hi K S hk hu hR hr
    obtain ⟨u, rfl⟩ : ∃ g, u = g + 1 := ⟨u - 1, by omega⟩
    have hm := hR.1
    by_cases q : S.1 ≤ r
    · refine ⟨K, ?_, fun _ _ _ => rfl⟩
      show sX11_maximumAmbiguity_68 rM 1 (uA A) J (lX11_maximumAmbiguity_68 rM 1 (uA A) J u) (nI S.1) hi (nI r) K = _
      unfold sX11_maximumAmbiguity_68
      rw [if_pos (nI_le q (by omega))]
      show _ = some ((if S.1 ≤ r then hi else _), _)
      rw [if_pos q]
    · have hr' : r < S.1 := by omega
      obtain ⟨v, hv⟩ : ∃ v, v = mx hi (sm A (S.2 r)) := ⟨_, rfl⟩
      obtain ⟨j19, hj19⟩ : ∃ j : Int32 → am_L → Option (Int64 × am_I × am_L), j = fun (v20 : Int32) (J21 : am_L) => lX11_maximumAmbiguity_68 rM 1 (uA A) J u v20 v (nI r + (1 : Int32)) J21 := ⟨_, rfl⟩
      obtain ⟨K1, f1, g1⟩ := e_mx145 hw hA (r := r) v j19 3 am_fu K S (Nat.le_refl _) (by have := am_fu_ge; omega) hR hr'
      have hstep : lX11_maximumAmbiguity_68 rM 1 (uA A) J (u + 1) (nI S.1) hi (nI r) K = lX11_maximumAmbiguity_145 rM 1 (uA A) v (nI r) J j19 am_fu (nI S.1) (nI (3 - 3)) K := by
        show sX11_maximumAmbiguity_68 rM 1 (uA A) J (lX11_maximumAmbiguity_68 rM 1 (uA A) J u) (nI S.1) hi (nI r) K = _
        unfold sX11_maximumAmbiguity_68
        rw [if_neg (nIge hr' (by omega)), am_jn_e, e_mx80 hw hA hR hr']
        rw [mx_M, ← hv, am_let_e, am_jn_e, hj19]
        rfl
      show ∃ K', _ = some ((if S.1 ≤ r then hi else _), J, K') ∧ _
      rw [if_neg q, hstep, ← hv]
      cases e3 : ltr A (uA A) r 3 S with
      | none =>
        rw [e3] at g1
        exact ⟨K1, g1, f1⟩
      | some S1 =>
        rw [e3] at g1
        obtain ⟨g1, g2⟩ := g1
        obtain ⟨m1, m2⟩ := ltr_m e3 hm
        obtain ⟨K2, e4, f4⟩ := ih u (r + 1) v K1 S1 (by omega) (by omega) g2 (by omega)
        refine ⟨K2, ?_, fun b x y => (f4 b x y).trans (f1 b x y)⟩
        rw [g1, hj19]
        dsimp only
        rw [nI_1]
        exact e4
theorem e_maxM (hw : aw A) (hA : isM J A) : ∃ K', Option.bind (pX11_useful rM J 1) (fun r3 =>
    am_jn (fun (J5 : am_L) =>
  Option.bind (pX11_addRow rM J5 1 (0 : Int32)) (fun r6 =>
  lX11_maximumAmbiguity_68 rM 1 r3 J am_fu (1 : Int32) (0 : Int64) (0 : Int32) r6)) (fun j4 =>
    lX11_maximumAmbiguity_19 rM 1 r3 J j4 am_fu (0 : Int32) K)) = some (bfs A (uA A) 1001 (S0 A) 0 0, J, K') ∧ fK K K' := by
  rw [e_useful hA hw, am_bd, am_jn_e]
  obtain ⟨j4, hj4⟩ : ∃ j : am_L → Option (Int64 × am_I × am_L), j = fun (J5 : am_L) =>
  Option.bind (pX11_addRow rM J5 1 (0 : Int32)) (fun r6 =>
  lX11_maximumAmbiguity_68 rM 1 (uA A) J am_fu (1 : Int32) (0 : Int64) (0 : Int32) r6) := ⟨_, rfl⟩
  rw [← hj4]
  obtain ⟨K1, e1, g1, g2⟩ := am_for0 (fun k i M => lX11_maximumAmbiguity_19 rM 1 (uA A) J j4 k (nI i) M) 6 (fun i M => (∀ t, t < i → M 20 t = row0 A t) ∧ ffK K M) (fun M => j4 M) (by omega) (fun k i M hi hP => by
    obtain ⟨p1, p2⟩ := hP
    refine ⟨am_upL M 20 i (row0 A i), ?_, fun t ht => ?_, fun b hb => by rw [am_upL_n hb]; exact p2 b hb⟩
    · show sX11_maximumAmbiguity_19 rM 1 (uA A) J j4 (lX11_maximumAmbiguity_19 rM 1 (uA A) J j4 k) (nI i) M = _
      unfold sX11_maximumAmbiguity_19
      rw [if_neg (ng6 hi), hA.2.1, e_hb _ (show i < 32 by omega), am_bd, am_let_e, inb hi (by omega), am_ck_true, am_let_e, rM32, nIcl (show i < 1000000 by omega), nI_1]
      unfold row0
      rw [bt_and, bt_and, Bool.and_comm]
      cases bt A.2.1 i && bt (uA A) i <;> rfl
    · by_cases q : t = i
      · rw [q, am_upL_s]
      · rw [am_upL_o q]; exact p1 t (by omega)) (fun k M _ => by
    show sX11_maximumAmbiguity_19 rM 1 (uA A) J j4 (lX11_maximumAmbiguity_19 rM 1 (uA A) J j4 k) (nI 6) M = _
    unfold sX11_maximumAmbiguity_19
    rw [if_pos yg6]) K ⟨fun t ht => absurd ht (Nat.not_lt_zero t), fun _ _ => rfl⟩
  rw [nI_0] at e1
  obtain ⟨K2, e2, a1, a2, a3⟩ := e_addRow (f := row0 A) (K := K1) (fun s hs => g1 s hs) (m := 0) (by omega)
  rw [nI_0] at e2
  obtain ⟨K3, e3, f3⟩ := e_mx68 hw hA 1001 am_fu 0 0 K2 (S0 A) (by omega) (by have := am_fu_ge; omega) ⟨by show 1 ≤ 1000; omega, fun r s hr hs => by
    have : r = 0 := by have hr' : r < 1 := hr; omega
    subst this
    exact a1 s hs⟩ (Nat.zero_le _)
  rw [nI_0] at e3
  refine ⟨K3, ?_, fun b x y => (f3 b x y).trans ((a3 b x).trans (g2 b y))⟩
  refine e1.trans ?_
  rw [hj4]
  dsimp only
  rw [e2, am_bd]
  exact e3
end
