/-! the reference's search: its beginning, distances of loops and splits -/
theorem src_s (A : am_Au) (a t n : Nat) : src A a t (n + 1) = src A a t n ||| (if bt (A.2.2.2 a n) t = true then (1 : Int32) <<< (nI n &&& 31) else 0) := rfl
theorem or0 (x : Int32) : x ||| (0 : Int32) = x := bt_ext fun k _ => by rw [bt_or, bt_zero, Bool.or_false]
section
variable {A : am_Au}
theorem e_fs2 (j : am_I → Option am_I) (J : am_I) : lX11_findSources_2 rM 1 j am_fu (0 : Int32) J = j (filI J 3 0 18 (fun _ => 0)) :=
  am_filI (fun n i J => lX11_findSources_2 rM 1 j n (nI i) J) 18 3 0 (fun _ => 0) j J (by omega) (fun n i J' hi hP _ => by
    simp only [lX11_findSources_2, sX11_findSources_2, ng18 hi, if_false, inb hi (show 18 < 1000000 by omega), am_ck_true, am_let_e, nIcl (show i < 1000000 by omega), rM1, nI_1, Nat.zero_add]) (fun n J' _ => by
    simp only [lX11_findSources_2, sX11_findSources_2, yg18, if_true])
theorem e_fs31 (hw : aw A) {J : am_I} (hA : isM J A) {a s : Nat} (ha : a < 3) (hs : s < 6) (j : am_I → Option am_I) (hz : ∀ t, t < 6 → J 3 (6 * a + t) = src A a t s) :
    ∃ J', lX11_findSources_31 rM 1 (nI (6 * a + s)) j am_fu (0 : Int32) J = j J' ∧ (∀ t, t < 6 → J' 3 (6 * a + t) = src A a t (s + 1)) ∧ (∀ i, i < 6 * a ∨ 6 * a + 6 ≤ i → J' 3 i = J 3 i) ∧ ∀ b, b ≠ 3 → J' b = J b := by
  have h6 := hw.2.1
  have d6 : nI (6 * a + s) / (6 : Int32) = nI a := by rw [show (6 : Int32) = nI 6 from rfl, pk_div (by omega) (by omega) (by omega)]; congr 1; omega
  have r6 : nI (6 * a + s) - nI a * (6 : Int32) = nI s := by rw [show (6 : Int32) = nI 6 from rfl, pk_mul, pk_sub (by omega)]; congr 1; omega
  obtain ⟨J', e, h1, h2, h3⟩ := am_for0 (fun n i J => lX11_findSources_31 rM 1 (nI (6 * a + s)) j n (nI i) J) A.1 (fun i J' => (∀ t, t < 6 → J' 3 (6 * a + t) = src A a t (if t < i then s + 1 else s)) ∧ (∀ i, i < 6 * a ∨ 6 * a + 6 ≤ i → J' 3 i = J 3 i) ∧ ∀ b, b ≠ 3 → J' b = J b) j (by omega) (fun n t J' ht hP => by
    obtain ⟨p1, p2, p3⟩ := hP
    have h0 : J' 1 3 = nI A.1 := by rw [p3 1 (by decide)]; exact hA.1
    have hT : J' 2 (6 * a + s) = A.2.2.2 a s := by rw [p3 2 (by decide)]; exact hA.2.2.2 a s ha hs
    have ho := p1 t (by omega)
    rw [if_neg (by omega)] at ho
    have ei : nI a * (6 : Int32) + nI t = nI (6 * a + t) := by rw [show (6 : Int32) = nI 6 from rfl, pk_mul, nI_add, Nat.mul_comm]
    refine ⟨am_upI J' 3 (6 * a + t) (src A a t (s + 1)), ?_, fun t' ht' => ?_, fun i hi => by rw [am_upI_o (by omega)]; exact p2 i hi, fun b hb => by rw [am_upI_ne hb]; exact p3 b hb⟩
    · have eb : (if bI (bt (A.2.2.2 a s) t) = 0 then (0 : Int32) else ((1 : Int32) <<< (nI s &&& 31))) = (if bt (A.2.2.2 a s) t = true then (1 : Int32) <<< (nI s &&& 31) else 0) := by
        cases bt (A.2.2.2 a s) t <;> rfl
      show sX11_findSources_31 rM 1 (nI (6 * a + s)) j (lX11_findSources_31 rM 1 (nI (6 * a + s)) j n) (nI t) J' = _
      unfold sX11_findSources_31
      rw [h0, if_neg (nIge ht (by omega)), d6, ei, inb (show 6 * a + t < 18 by omega) (by omega), am_ck_true, inb (show 6 * a + s < 18 by omega) (by omega), am_ck_true, rM0, nIcl (show 6 * a + s < 1000000 by omega), hT, e_hb _ (show t < 32 by omega), am_bd, r6, eb, am_let_e, am_ck_true, am_let_e, rM1, nIcl (show 6 * a + t < 1000000 by omega), ho, ← src_s, nI_1]
    · by_cases q : t' = t
      · subst q; rw [am_upI_s, if_pos (by omega)]
      · rw [am_upI_o (by omega), p1 t' ht']
        congr 1
        by_cases c : t' < t
        · rw [if_pos c, if_pos (by omega)]
        · rw [if_neg c, if_neg (by omega)]) (fun n J' hP => by
    have h0 : J' 1 3 = nI A.1 := by rw [hP.2.2 1 (by decide)]; exact hA.1
    show sX11_findSources_31 rM 1 (nI (6 * a + s)) j (lX11_findSources_31 rM 1 (nI (6 * a + s)) j n) (nI A.1) J' = _
    unfold sX11_findSources_31
    rw [h0, if_pos (nIle (by omega))]) J ⟨fun t ht => by rw [if_neg (Nat.not_lt_zero t)]; exact hz t ht, fun _ _ => rfl, fun _ _ => rfl⟩
  refine ⟨J', e, fun t ht => ?_, h2, h3⟩
  rw [h1 t ht]
  by_cases c : t < A.1
  · rw [if_pos c]
  · rw [if_neg c, src_s, if_neg (T_out hw (Or.inr (by omega))), or0]
theorem e_findSources (hw : aw A) {J : am_I} (hA : isM J A) : ∃ J', pX11_findSources rM J 1 = some J' ∧ (∀ a t, a < 3 → t < 6 → J' 3 (6 * a + t) = src A a t 6) ∧ ∀ b, b ≠ 3 → J' b = J b := by
  unfold pX11_findSources
  rw [am_jn_e, e_fs2]
  generalize hJ0 : filI J 3 0 18 (fun _ => 0) = J0
  have f0 : ∀ b, b ≠ 3 → J0 b = J b := fun b hb => by rw [← hJ0, filI_ne hb]
  have z0 : ∀ i, i < 18 → J0 3 i = 0 := fun i hi => by rw [← hJ0, filI_at hi]
  obtain ⟨J', e, h1, h2⟩ := am_for0 (fun n i J => lX11_findSources_23 rM 1 n (nI i) J) 18 (fun i J' => (∀ a t, a < 3 → t < 6 → J' 3 (6 * a + t) = src A a t (min 6 (i - 6 * a))) ∧ ∀ b, b ≠ 3 → J' b = J b) (fun J => some J) (by omega) (fun n k J' hk hP => by
    obtain ⟨p1, p2⟩ := hP
    obtain ⟨a, s, ha, hs, rfl⟩ : ∃ a s, a < 3 ∧ s < 6 ∧ k = 6 * a + s := ⟨k / 6, k % 6, by omega, by omega, by omega⟩
    obtain ⟨J2, e2, q1, q2, q3⟩ := e_fs31 hw (hA.kept (fun k _ _ => by rw [p2 1 (by decide)]) (p2 2 (by decide))) ha hs (fun J9 => lX11_findSources_23 rM 1 n (nI (6 * a + s) + 1) J9) (fun t ht => by
      rw [p1 a t ha ht]; congr 1; omega)
    refine ⟨J2, ?_, fun a' t ha' ht => ?_, fun b hb => (q3 b hb).trans (p2 b hb)⟩
    · simp only [lX11_findSources_23, sX11_findSources_23, ng18 hk, if_false, am_jn_e]
      rw [e2, nI_1]
    · by_cases q : a' = a
      · subst q; rw [q1 t ht]; congr 1; omega
      · rw [q2 _ (by omega), p1 a' t ha' ht]
        congr 1
        omega) (fun n J' _ => by
    simp only [lX11_findSources_23, sX11_findSources_23, yg18, if_true]) J0 ⟨fun a t ha ht => by
      rw [z0 _ (by omega), show min 6 (0 - 6 * a) = 0 by omega]; rfl, f0⟩
  refine ⟨J', e, fun a t ha ht => ?_, h2⟩
  rw [h1 a t ha ht]
  congr 1
  omega
theorem e_begins (hw : aw A) {J : am_I} (hA : isM J A) : ∃ J', pX11_beginsSearch rM J 1 = some J' ∧ srM J' A (fun _ => 1000, fun _ => 0, 0) ∧ sfr J J' := by
  obtain ⟨J1, e1, h1, h2⟩ := e_findSources hw hA
  unfold pX11_beginsSearch
  rw [e1, am_bd, am_let_e]
  have e2 := am_filI (fun n i J => lX11_beginsSearch_11 rM 1 n (nI i) J) 216 12 0 (fun _ => 1000) (fun J => some J) (am_upI J1 1 21 0) (by omega) (fun n i J' hi hP _ => by
    simp only [lX11_beginsSearch_11, sX11_beginsSearch_11, ng216 hi, if_false, inb hi (show 216 < 1000000 by omega), am_ck_true, am_let_e, nIcl (show i < 1000000 by omega), rM19, nI_1, Nat.zero_add]) (fun n J' _ => by
    simp only [lX11_beginsSearch_11, sX11_beginsSearch_11, yg216, if_true])
  generalize hJ2 : filI (am_upI J1 1 21 0) 12 0 216 (fun _ => 1000) = J2 at e2
  have c1 : ∀ k, k ≠ 21 → J2 1 k = J 1 k := fun k hk => by rw [← hJ2, filI_ne (by decide), am_upI_o hk, h2 1 (by decide)]
  have c2 : ∀ b, b ≠ 1 → b ≠ 12 → J2 b = J1 b := fun b x y => by rw [← hJ2, filI_ne y, am_upI_ne x]
  refine ⟨J2, e2, ⟨hA.kept (fun k x y => c1 k (by omega)) (by rw [c2 2 (by decide) (by decide), h2 2 (by decide)]), fun a t ha ht => ?_, fun x hx => ?_, fun i hi => absurd hi (Nat.not_lt_zero i), ?_, fun _ => Nat.le_refl _⟩, ⟨fun b x y z _ => by rw [c2 b x z, h2 b y], c1⟩⟩
  · rw [c2 3 (by decide) (by decide)]; exact h1 a t ha ht
  · rw [← hJ2, filI_at hx]; rfl
  · rw [← hJ2, filI_ne (by decide), am_upI_s]; rfl
/-- the ends are reached first -/
def B0 (N : Nat) (F : Nat → Prop) (Dn : Nat → Prop) (s : am_Bs) : Prop := (∀ i, i < s.2.2 → s.2.1 i < N ∧ F (s.2.1 i) ∧ s.1 (s.2.1 i) = 0) ∧ (∀ x, x < N → s.1 x < 1000 → ∃ i, i < s.2.2 ∧ s.2.1 i = x) ∧ s.2.2 = sumN (fun x => if s.1 x < 1000 then 1 else 0) N ∧ ∀ x, Dn x → s.1 x < 1000
theorem B0.init (N : Nat) (F : Nat → Prop) : B0 N F (fun _ => False) (fun _ => 1000, fun _ => 0, 0) :=
  ⟨fun i hi => absurd hi (Nat.not_lt_zero i), fun x _ h => absurd h (Nat.lt_irrefl _), (sumN_zero N).symm, fun _ h => h.elim⟩
theorem B0.mono {N : Nat} {F : Nat → Prop} {Dn Dn' : Nat → Prop} {s : am_Bs} (h : B0 N F Dn s) (g : ∀ x, Dn' x → Dn x) : B0 N F Dn' s := ⟨h.1, h.2.1, h.2.2.1, fun x hx => h.2.2.2 x (g x hx)⟩
theorem B0.put {N : Nat} {F : Nat → Prop} {Dn : Nat → Prop} {s : am_Bs} (h : B0 N F Dn s) {x : Nat} (hx : x < N) (hF : F x) : B0 N F (fun y => Dn y ∨ y = x) (rea 0 x s) ∧ (¬ s.1 x < 1000 → s.2.2 < N) := by
  obtain ⟨h1, h2, h3, h4⟩ := h
  unfold rea
  by_cases q : s.1 x < 1000
  · rw [if_pos q]
    refine ⟨⟨h1, h2, h3, fun y hy => ?_⟩, fun g => absurd q g⟩
    rcases hy with hy | rfl
    · exact h4 y hy
    · exact q
  · rw [if_neg q]
    have hsum := sum_upd (f := fun y => if s.1 y < 1000 then 1 else 0) (x := x) (v := 1) N hx
    rw [if_neg q] at hsum
    have dq : ∀ i, i < s.2.2 → s.2.1 i ≠ x := fun i hi e => q (by rw [← e, (h1 i hi).2.2]; decide)
    refine ⟨⟨fun i hi => ?_, fun y hy hd => ?_, ?_, fun y hy => ?_⟩, fun _ => ?_⟩
    · have hi : i < s.2.2 + 1 := hi
      show updN s.2.1 s.2.2 x i < N ∧ F (updN s.2.1 s.2.2 x i) ∧ updN s.1 x 0 (updN s.2.1 s.2.2 x i) = 0
      by_cases e : i = s.2.2
      · subst e; rw [updN_s, updN_s]; exact ⟨hx, hF, rfl⟩
      · rw [updN_o e, updN_o (dq i (by omega))]; exact h1 i (by omega)
    · have hd : updN s.1 x 0 y < 1000 := hd
      show ∃ i, i < s.2.2 + 1 ∧ updN s.2.1 s.2.2 x i = y
      by_cases e : y = x
      · exact ⟨s.2.2, by omega, by rw [updN_s]; exact e.symm⟩
      · rw [updN_o e] at hd
        obtain ⟨i, hi, g⟩ := h2 y hy hd
        exact ⟨i, by omega, by rw [updN_o (by omega)]; exact g⟩
    · show s.2.2 + 1 = sumN (fun y => if updN s.1 x 0 y < 1000 then 1 else 0) N
      have hs : sumN (fun y => if updN s.1 x 0 y < 1000 then 1 else 0) N = sumN (updN (fun y => if s.1 y < 1000 then 1 else 0) x 1) N := sumN_congr N fun y _ => by
        by_cases e : y = x
        · subst e; rw [updN_s, updN_s]; rfl
        · rw [updN_o e, updN_o e]
      rw [hs]; omega
    · show updN s.1 x 0 y < 1000
      by_cases e : y = x
      · subst e; rw [updN_s]; decide
      · rw [updN_o e]
        rcases hy with hy | hy
        · exact h4 y hy
        · exact absurd hy e
    · have h9 := sumN_le (f := updN (fun y => if s.1 y < 1000 then 1 else 0) x 1) (g := fun _ => 1) N (fun y _ => by
        by_cases e : y = x
        · subst e; rw [updN_s]; exact Nat.le_refl _
        · rw [updN_o e]
          by_cases q : s.1 y < 1000
          · rw [if_pos q]; exact Nat.le_refl _
          · rw [if_neg q]; exact Nat.zero_le _)
      have h10 : ∀ n, sumN (fun _ => 1) n = n := fun n => by
        induction n with
        | zero => rfl
        | succ n ih => rw [sumN_s, ih]
      rw [h10] at h9
      omega
theorem B0.BQ {N : Nat} {ed : Nat → Nat → Nat → Prop} {F : Nat → Prop} {s : am_Bs} (h : B0 N F (fun x => x < N ∧ F x) s) : BQ N ed F s.1 s.2.1 s.2.2 0 := by
  obtain ⟨h1, h2, h3, h4⟩ := h
  refine ⟨fun i hi => ?_, h2, fun i i' _ hi' => ?_, fun i hi h0 => ?_, fun j hj => absurd hj (Nat.not_lt_zero j), fun x hx hF => ?_, h3, Nat.zero_le _⟩
  · obtain ⟨a, b, c⟩ := h1 i hi
    exact ⟨a, by rw [c]; decide, ⟨[], wdl_nil, c.symm, b⟩, by rw [c]; exact Nat.zero_le _⟩
  · rw [(h1 i (by omega)).2.2]; exact Nat.zero_le _
  · rw [(h1 i hi).2.2]; exact Nat.zero_le _
  · obtain ⟨i, hi, e⟩ := h2 x hx (h4 x ⟨hx, hF⟩)
    rw [← e]; exact (h1 i hi).2.2
/-- a state's first loop word: how far -/
def fin1 (s : Nat) : Nat → Bool := fun x => decide (x = s)
theorem e_loopOf (hw : aw A) {J : am_I} (hA : isM J A) {s : Nat} (hs : s < 6) : ∃ J' s', pX11_loopOf rM J 1 (nI s) = some (nI (s'.1 (nP s s false)), J') ∧ srM J' A s' ∧ isDst 72 (edP A) (fiP (fin1 s)) s'.1 ∧ sfr J J' := by
  obtain ⟨J1, e1, h1, f1⟩ := e_begins hw hA
  have hx := nP_lt hs hs true
  obtain ⟨v1, v2, v3⟩ := nP_v (p := s) hs true
  have hF : fiP (fin1 s) (nP s s true) := by
    unfold fiP fin1
    rw [v1, v2, v3]
    simp
  obtain ⟨hB, hr⟩ := (B0.init 72 (fiP (fin1 s))).put hx hF
  obtain ⟨J2, e2, h2, f2⟩ := e_reaches h1 (x := nP s s true) (f := 0) (by omega) (by omega) (fun _ => by show 0 < 216; omega)
  have hB2 : BQ 72 (edP A) (fiP (fin1 s)) _ _ _ 0 := B0.BQ (hB.mono (fun x ⟨hx, g⟩ => by
    right
    obtain ⟨p, q, b, hp, hq, rfl⟩ := nP_of hx
    obtain ⟨w1, w2, w3⟩ := nP_v (p := p) hq b
    unfold fiP fin1 at g
    rw [w1, w2, w3, decide_eq_true_eq, decide_eq_true_eq] at g
    obtain ⟨g1, rfl, rfl⟩ := g
    cases b
    · cases g1
    · rfl))
  obtain ⟨J3, s3, e3, h3, d3, f3⟩ := e_spreads hw h2 hB2
  have hy := nP_lt hs hs false
  refine ⟨J3, s3, ?_, h3, d3, (f1.tr f2).tr f3⟩
  unfold pX11_loopOf
  have p1 := e_pN (show s < 1000 by omega) (show s < 1000 by omega) true
  have p0 := e_pN (show s < 1000 by omega) (show s < 1000 by omega) false
  rw [e1, am_bd]
  show Option.bind (pX11_pairNode (nI s) (nI s) (bI true)) _ = _
  rw [p1, am_bd]
  show Option.bind (pX11_reaches rM J1 1 (nI (nP s s true)) (nI 0)) _ = _
  rw [e2, am_bd, e3, am_bd]
  show Option.bind (pX11_pairNode (nI s) (nI s) (bI false)) _ = _
  rw [p0, am_bd, inb (show nP s s false < 216 by omega) (by omega), am_ck_true, rM19, nIcl (show nP s s false < 1000000 by omega), h3.2.2.1 _ (by omega)]
/-! triples -/
theorem e_tri {p q r : Nat} : pX11_triple (nI p) (nI q) (nI r) = some (nI (36 * p + 6 * q + r)) := by
  unfold pX11_triple
  rw [show (36 : Int32) = nI 36 from rfl, show (6 : Int32) = nI 6 from rfl, pk_mul, pk_mul, nI_add, nI_add]
theorem e_sq113 (hw : aw A) {F : Nat → Prop} {J : am_I} {s0 : am_Bs} {k v dl a : Nat} {Dn : Nat → Prop} (hS : srM J A s0) (hB : BI 216 (edT A) F k v dl Dn s0) (hv : v < 216) (ha : a < 3) (x1 x2 x9 : Int32) (j : am_I → Option (Int32 × am_I)) :
    ∃ J' s', lX11_splitOf_113 rM 1 x1 x2 x9 (nI v) (nI (dl + 1)) (nI a) (src A a (v / 36) 6) (src A a (v / 6 % 6) 6) (src A a (v % 6) 6) j am_fu (0 : Int32) J = j J' ∧ srM J' A s' ∧ BI 216 (edT A) F k v dl (fun y => Dn y ∨ (y < 216 ∧ edT A a y v)) s' ∧ sfr J J' := by
  have hdl : dl + 1 ≤ 1000 := by
    have := hB.1.1 k hB.2.1
    rw [hB.2.2.1, hB.2.2.2.1] at this
    have := hB.1.m_le
    omega
  obtain ⟨⟨J', s'⟩, e, h1, h2, h3⟩ := am_for0 (fun n i (M : am_I × am_Bs) => lX11_splitOf_113 rM 1 x1 x2 x9 (nI v) (nI (dl + 1)) (nI a) (src A a (v / 36) 6) (src A a (v / 6 % 6) 6) (src A a (v % 6) 6) j n (nI i) M.1) 216 (fun i M => srM M.1 A M.2 ∧ BI 216 (edT A) F k v dl (fun y => Dn y ∨ (y < i ∧ edT A a y v)) M.2 ∧ sfr J M.1) (fun M => j M.1) (by omega) (fun n x M hx hP => by
    obtain ⟨p1, p2, p3⟩ := hP
    have d36 : nI x / (36 : Int32) = nI (x / 36) := by rw [show (36 : Int32) = nI 36 from rfl, pk_div (by omega) (by omega) (by omega)]
    have d6 : nI x / (6 : Int32) - nI x / (6 : Int32) / (6 : Int32) * (6 : Int32) = nI (x / 6 % 6) := by
      rw [show (6 : Int32) = nI 6 from rfl, pk_div (by omega) (by omega) (by omega), pk_rem (by omega) (by omega) (by omega)]
    have m6 : nI x - nI x / (6 : Int32) * (6 : Int32) = nI (x % 6) := by rw [show (6 : Int32) = nI 6 from rfl, pk_rem (by omega) (by omega) (by omega)]
    by_cases he : edT A a x v
    · obtain ⟨g1, g2, g3⟩ := he
      obtain ⟨J2, e2, q1, q2⟩ := e_reaches p1 (x := x) (f := dl + 1) hx hdl (fun hd => p2.room hx hd)
      refine ⟨(J2, rea (dl + 1) x M.2), ?_, q1, (p2.put (by omega) hx ⟨a, ha, g1, g2, g3⟩).mono (fun y hy => ?_), p3.tr q2⟩
      · have b1 : bt (src A a (v / 36) 6) (x / 36) = true := (bt_src (Nat.le_refl 6)).mpr ⟨by omega, g1⟩
        have b2 : bt (src A a (v / 6 % 6) 6) (x / 6 % 6) = true := (bt_src (Nat.le_refl 6)).mpr ⟨by omega, g2⟩
        have b3 : bt (src A a (v % 6) 6) (x % 6) = true := (bt_src (Nat.le_refl 6)).mpr ⟨by omega, g3⟩
        show sX11_splitOf_113 rM 1 x1 x2 x9 (nI v) (nI (dl + 1)) (nI a) _ _ _ j (lX11_splitOf_113 rM 1 x1 x2 x9 (nI v) (nI (dl + 1)) (nI a) _ _ _ j n) (nI x) M.1 = _
        unfold sX11_splitOf_113
        rw [if_neg (ng216 hx), d36, e_hb _ (show x / 36 < 32 by omega), am_bd, am_jn_e, b1, if_neg (show ¬ bI true = 0 by decide), d6, e_hb _ (show x / 6 % 6 < 32 by omega), am_bd, b2, if_neg (show ¬ bI true = 0 by decide), m6, e_hb _ (show x % 6 < 32 by omega), am_bd, b3, if_neg (show ¬ bI true = 0 by decide), e2, am_bd, nI_1]
      · rcases hy with hy | ⟨y1, y2⟩
        · exact Or.inl (Or.inl hy)
        · by_cases e : y = x
          · exact Or.inr e
          · exact Or.inl (Or.inr ⟨by omega, y2⟩)
    · refine ⟨M, ?_, p1, p2.mono (fun y hy => ?_), p3⟩
      · show sX11_splitOf_113 rM 1 x1 x2 x9 (nI v) (nI (dl + 1)) (nI a) _ _ _ j (lX11_splitOf_113 rM 1 x1 x2 x9 (nI v) (nI (dl + 1)) (nI a) _ _ _ j n) (nI x) M.1 = _
        unfold sX11_splitOf_113
        rw [if_neg (ng216 hx), d36, e_hb _ (show x / 36 < 32 by omega), am_bd, am_jn_e]
        by_cases b1 : bt (src A a (v / 36) 6) (x / 36) = true
        · rw [b1, if_neg (show ¬ bI true = 0 by decide), d6, e_hb _ (show x / 6 % 6 < 32 by omega), am_bd]
          by_cases b2 : bt (src A a (v / 6 % 6) 6) (x / 6 % 6) = true
          · rw [b2, if_neg (show ¬ bI true = 0 by decide), m6, e_hb _ (show x % 6 < 32 by omega), am_bd]
            by_cases b3 : bt (src A a (v % 6) 6) (x % 6) = true
            · exact absurd ⟨((bt_src (Nat.le_refl 6)).mp b1).2, ((bt_src (Nat.le_refl 6)).mp b2).2, ((bt_src (Nat.le_refl 6)).mp b3).2⟩ he
            · rw [Bool.eq_false_iff.mpr b3, if_pos (show bI false = 0 from rfl), nI_1]
          · rw [Bool.eq_false_iff.mpr b2, if_pos (show bI false = 0 from rfl), nI_1]
        · rw [Bool.eq_false_iff.mpr b1, if_pos (show bI false = 0 from rfl), nI_1]
      · rcases hy with hy | ⟨y1, y2⟩
        · exact Or.inl hy
        · by_cases e : y = x
          · subst e; exact absurd y2 he
          · exact Or.inr ⟨by omega, y2⟩) (fun n M hP => by
    show sX11_splitOf_113 rM 1 x1 x2 x9 (nI v) (nI (dl + 1)) (nI a) _ _ _ j (lX11_splitOf_113 rM 1 x1 x2 x9 (nI v) (nI (dl + 1)) (nI a) _ _ _ j n) (nI 216) M.1 = _
    unfold sX11_splitOf_113
    rw [if_pos yg216]) (J, s0) ⟨hS, hB.mono (fun y hy => hy.elim id (fun ⟨h, _⟩ => absurd h (Nat.not_lt_zero y))), sfr.rf J⟩
  exact ⟨J', s', e, h1, h2, h3⟩
theorem e_splitOf (hw : aw A) {J : am_I} (hA : isM J A) {p q : Nat} (hp : p < 6) (hq : q < 6) : ∃ J' s', pX11_splitOf rM J 1 (nI p) (nI q) = some (nI (s'.1 (36 * p + 6 * p + q)), J') ∧ srM J' A s' ∧ isDst 216 (edT A) (fun x => x = 36 * p + 6 * q + q) s'.1 ∧ sfr J J' := by
  obtain ⟨J1, e1, h1, f1⟩ := e_begins hw hA
  have hx : 36 * p + 6 * q + q < 216 := by omega
  obtain ⟨hB, hr⟩ := (B0.init 216 (fun x => x = 36 * p + 6 * q + q)).put hx rfl
  obtain ⟨J2, e2, h2, f2⟩ := e_reaches h1 (x := 36 * p + 6 * q + q) (f := 0) hx (by omega) (fun _ => by show 0 < 216; omega)
  have hB2 : BQ 216 (edT A) (fun x => x = 36 * p + 6 * q + q) _ _ _ 0 := B0.BQ (hB.mono (fun x ⟨_, g⟩ => Or.inr g))
  have hj : (fun (J5 : am_I) => Option.bind (pX11_triple (nI p) (nI p) (nI q)) (fun r7 => am_ck (am_inb r7 216) (some ((J5 (rM 1 19) (Int32.toNatClampNeg r7)), J5)))) = fun (J5 : am_I) => some (J5 12 (36 * p + 6 * p + q), J5) := by
    funext J5
    rw [e_tri, am_bd, inb (show 36 * p + 6 * p + q < 216 by omega) (by omega), am_ck_true, rM19, nIcl (show 36 * p + 6 * p + q < 1000000 by omega)]
  have key := am_forQ (fun n i (M : am_I × am_Bs) => lX11_splitOf_17 rM 1 (nI p) (nI q) (fun (J5 : am_I) => some (J5 12 (36 * p + 6 * p + q), J5)) n (nI i) M.1) 217 (fun k M => srM M.1 A M.2 ∧ BQ 216 (edT A) (fun x => x = 36 * p + 6 * q + q) M.2.1 M.2.2.1 M.2.2.2 k ∧ sfr J M.1) (fun r => ∃ J' s', r = some (nI (s'.1 (36 * p + 6 * p + q)), J') ∧ srM J' A s' ∧ isDst 216 (edT A) (fun x => x = 36 * p + 6 * q + q) s'.1 ∧ sfr J J') (by omega) (fun n k M hk hP => by
    obtain ⟨p1, p2, p3⟩ := hP
    have h21 := p1.2.2.2.2.1
    have hmN := p2.m_le
    by_cases g : k < M.2.2.2
    · left
      have hv := p2.1 k g
      have hx13 := p1.2.2.2.1 k g
      generalize ev : M.2.2.1 k = v at hv hx13
      have hB2 : BI 216 (edT A) (fun x => x = 36 * p + 6 * q + q) k v (M.2.1 v) (fun _ => False) M.2 := ⟨p2, g, ev, rfl, fun _ h => h.elim⟩
      have hx12 := p1.2.2.1 v hv.1
      have d36 : nI v / (36 : Int32) = nI (v / 36) := by rw [show (36 : Int32) = nI 36 from rfl, pk_div (by omega) (by omega) (by omega)]
      have d6 : nI v / (6 : Int32) - nI v / (6 : Int32) / (6 : Int32) * (6 : Int32) = nI (v / 6 % 6) := by
        rw [show (6 : Int32) = nI 6 from rfl, pk_div (by omega) (by omega) (by omega), pk_rem (by omega) (by omega) (by omega)]
      have m6 : nI v - nI v / (6 : Int32) * (6 : Int32) = nI (v % 6) := by rw [show (6 : Int32) = nI 6 from rfl, pk_rem (by omega) (by omega) (by omega)]
      obtain ⟨⟨J2, s2⟩, e2, q1, q2, q3⟩ := am_for0 (fun n2 i (M2 : am_I × am_Bs) => lX11_splitOf_47 rM 1 (nI p) (nI q) (nI k) (nI v) (nI (M.2.1 v + 1)) (fun J18 => lX11_splitOf_17 rM 1 (nI p) (nI q) (fun (J5 : am_I) => some (J5 12 (36 * p + 6 * p + q), J5)) n (nI k + 1) J18) n2 (nI i) M2.1) 3 (fun i M2 => srM M2.1 A M2.2 ∧ BI 216 (edT A) (fun x => x = 36 * p + 6 * q + q) k v (M.2.1 v) (fun y => ∃ a, a < i ∧ y < 216 ∧ edT A a y v) M2.2 ∧ sfr M.1 M2.1) (fun M2 => lX11_splitOf_17 rM 1 (nI p) (nI q) (fun (J5 : am_I) => some (J5 12 (36 * p + 6 * p + q), J5)) n (nI k + 1) M2.1) (by omega) (fun n2 a M2 ha hP2 => by
        obtain ⟨r1, r2, r3⟩ := hP2
        obtain ⟨J3, s3, e3, t1, t2, t3⟩ := e_sq113 hw r1 r2 hv.1 ha (nI p) (nI q) (nI k) (fun J31 => lX11_splitOf_47 rM 1 (nI p) (nI q) (nI k) (nI v) (nI (M.2.1 v + 1)) (fun J18 => lX11_splitOf_17 rM 1 (nI p) (nI q) (fun (J5 : am_I) => some (J5 12 (36 * p + 6 * p + q), J5)) n (nI k + 1) J18) n2 (nI a + 1) J31)
        refine ⟨(J3, s3), ?_, t1, t2.mono (fun y hy => ?_), r3.tr t3⟩
        · show sX11_splitOf_47 rM 1 (nI p) (nI q) (nI k) (nI v) (nI (M.2.1 v + 1)) _ (lX11_splitOf_47 rM 1 (nI p) (nI q) (nI k) (nI v) (nI (M.2.1 v + 1)) _ n2) (nI a) M2.1 = _
          unfold sX11_splitOf_47
          rw [if_neg (ng3 ha), d36, ix6, inb (show 6 * a + v / 36 < 18 by omega) (by omega), am_ck_true, am_let_e, rM1, nIcl (show 6 * a + v / 36 < 1000000 by omega), r1.2.1 a (v / 36) ha (by omega), d6, ix6, inb (show 6 * a + v / 6 % 6 < 18 by omega) (by omega), am_ck_true, am_let_e, nIcl (show 6 * a + v / 6 % 6 < 1000000 by omega), r1.2.1 a (v / 6 % 6) ha (by omega), m6, ix6, inb (show 6 * a + v % 6 < 18 by omega) (by omega), am_ck_true, am_let_e, nIcl (show 6 * a + v % 6 < 1000000 by omega), r1.2.1 a (v % 6) ha (by omega), am_jn_e, e3, nI_1, nI_1]
        · obtain ⟨a', g1, g2⟩ := hy
          by_cases e : a' = a
          · subst e; exact Or.inr g2
          · exact Or.inl ⟨a', by omega, g2⟩) (fun n2 M2 hP2 => by
        show sX11_splitOf_47 rM 1 (nI p) (nI q) (nI k) (nI v) (nI (M.2.1 v + 1)) _ (lX11_splitOf_47 rM 1 (nI p) (nI q) (nI k) (nI v) (nI (M.2.1 v + 1)) _ n2) (nI 3) M2.1 = _
        unfold sX11_splitOf_47
        rw [if_pos yg3]) M ⟨p1, hB2.mono (fun y ⟨a, ha, _⟩ => absurd ha (Nat.not_lt_zero a)), sfr.rf _⟩
      refine ⟨(J2, s2), ?_, q1, q2.1.next q2.2.1 (fun a ha x hx he => q2.2.2.2.2 x ⟨a, ha, hx, by rw [q2.2.2.1] at he; exact he⟩), p3.tr q3⟩
      show sX11_splitOf_17 rM 1 (nI p) (nI q) _ (lX11_splitOf_17 rM 1 (nI p) (nI q) _ n) (nI k) M.1 = _
      unfold sX11_splitOf_17
      rw [h21, if_neg (nIge g (by omega)), inb (show k < 216 by omega) (by omega), am_ck_true, rM20, nIcl (show k < 1000000 by omega), hx13, am_let_e, inb hv.1 (by omega), am_ck_true, rM19, nIcl (show v < 1000000 by omega), hx12, nI_1, am_let_e, am_jn_e]
      refine Eq.trans e2 ?_
      rw [nI_1]
    · right
      have hkm : k = M.2.2.2 := by have := p2.2.2.2.2.2.2.2; omega
      subst hkm
      refine ⟨M.1, M.2, ?_, p1, p2.done (by omega) (fun _ _ _ _ _ _ _ => trivial) (fun x _ => p1.2.2.2.2.2 x), p3⟩
      show sX11_splitOf_17 rM 1 (nI p) (nI q) _ (lX11_splitOf_17 rM 1 (nI p) (nI q) _ n) (nI M.2.2.2) M.1 = _
      unfold sX11_splitOf_17
      rw [h21, if_pos (nIle (by omega))]
      dsimp only
      rw [p1.2.2.1 _ (by omega)]) (fun n M hP => by
    exfalso
    have := hP.2.1.m_le
    have := hP.2.1.2.2.2.2.2.2.2
    omega) (J2, rea 0 (36 * p + 6 * q + q) (fun _ => 1000, fun _ => 0, 0)) ⟨h2, hB2, f1.tr f2⟩
  obtain ⟨J', s', e3, k1, k2, k3⟩ := key
  refine ⟨J', s', ?_, k1, k2, k3⟩
  unfold pX11_splitOf
  rw [e1, am_bd, e_tri, am_bd]
  show Option.bind (pX11_reaches rM J1 1 (nI (36 * p + 6 * q + q)) (nI 0)) _ = _
  rw [e2, am_bd, am_jn_e, hj]
  exact e3
end
