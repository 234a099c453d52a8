/-! the class: the lightest word, letter by letter -/
section
variable {R : am_R} {A : am_Au} {I : am_I} {L : am_L} {w : Nat → Nat}
theorem e_image (hR : okC R) (hw : aw A) (hA : isA I 2 3 A) (X : Int32) {a : Nat} (ha : a < 3) : ∃ Y, pX2_image R I 2 X (nI a) = some Y ∧ ∀ y, bt Y y = true ↔ ∃ s, s < 6 ∧ bt X s = true ∧ bt (A.2.2.2 a s) y = true := by
  have hA3 : isA I 2 (R 2 3) A := by rw [hR.r2_3]; exact hA
  have e := am_forF (fun n i (v : Int32) => lX2_image_5 R I 2 X (nI a) n v (nI i)) 6 (fun i v => v ||| (if bt X i = true then A.2.2.2 a i else 0)) (fun v => some v) (by omega) (fun n i v hi => by
    show sX2_image_5 R I 2 X (nI a) (lX2_image_5 R I 2 X (nI a) n) v (nI i) = _
    unfold sX2_image_5
    rw [if_neg (ng6 hi), e_cb _ (show i < 32 by omega), am_bd, am_jn_e, e_targetsOf hA3 hw i a (by omega) (by omega), am_bd]
    dsimp only
    rw [am_let_e, am_let_e, nI_1]
    cases bt X i <;> rfl) (fun n v => by
    show sX2_image_5 R I 2 X (nI a) (lX2_image_5 R I 2 X (nI a) n) v (nI 6) = _
    unfold sX2_image_5
    rw [if_pos yg6]) 0
  rw [nI_0] at e
  refine ⟨_, e, fun y => ?_⟩
  rw [bt_to_or]
  constructor
  · rintro (h | ⟨s, hs, h⟩)
    · rw [bt_zero] at h; cases h
    · by_cases q : bt X s = true
      · rw [if_pos q] at h; exact ⟨s, hs, q, h⟩
      · rw [if_neg q, bt_zero] at h; cases h
  · rintro ⟨s, hs, q, h⟩
    exact Or.inr ⟨s, hs, by rw [if_pos q]; exact h⟩
theorem e_soc (hR : okC R) {c : Nat → Nat} (hc : csM I 32 c) (X x2 : Int32) : ∃ Y, pX2_statesOfCost R I 31 X x2 = some Y ∧ ∀ y, bt Y y = true ↔ y < 6 ∧ bt X y = true ∧ nI (c y) = x2 := by
  have e := am_forF (fun n i (v : Int32) => lX2_statesOfCost_5 R I 31 X x2 n v (nI i)) 6 (fun i v => v ||| (if bt X i = true ∧ nI (c i) = x2 then (1 : Int32) <<< (nI i &&& 31) else 0)) (fun v => some v) (by omega) (fun n i v hi => by
    show sX2_statesOfCost_5 R I 31 X x2 (lX2_statesOfCost_5 R I 31 X x2 n) v (nI i) = _
    unfold sX2_statesOfCost_5
    rw [if_neg (ng6 hi), e_cb _ (show i < 32 by omega), am_bd, am_jn_e, am_jn_e, inb hi (by omega), am_ck_true, hR.r31_0, nIcl (show i < 1000000 by omega), hc i hi]
    dsimp only
    rw [am_let_e, am_let_e, nI_1]
    by_cases q : bt X i = true
    · by_cases g : nI (c i) = x2
      · rw [if_pos (show bt X i = true ∧ nI (c i) = x2 from ⟨q, g⟩), if_neg (show ¬ bI (bt X i) = 0 by rw [q]; decide), if_pos g]
      · rw [if_neg (show ¬ (bt X i = true ∧ nI (c i) = x2) from fun h => g h.2), if_neg (show ¬ bI (bt X i) = 0 by rw [q]; decide), if_neg g]
    · rw [if_neg (show ¬ (bt X i = true ∧ nI (c i) = x2) from fun h => q h.1), if_pos (show bI (bt X i) = 0 by rw [Bool.eq_false_iff.mpr q]; rfl)]) (fun n v => by
    show sX2_statesOfCost_5 R I 31 X x2 (lX2_statesOfCost_5 R I 31 X x2 n) v (nI 6) = _
    unfold sX2_statesOfCost_5
    rw [if_pos yg6]) 0
  rw [nI_0] at e
  refine ⟨_, e, fun y => ?_⟩
  rw [bt_to_or]
  constructor
  · rintro (h | ⟨s, hs, h⟩)
    · rw [bt_zero] at h; cases h
    · by_cases q : bt X s = true ∧ nI (c s) = x2
      · rw [if_pos q, bt_1s (by omega)] at h
        rw [of_decide_eq_true h]; exact ⟨hs, q⟩
      · rw [if_neg q, bt_zero] at h; cases h
  · rintro ⟨hy, q⟩
    exact Or.inr ⟨y, hy, by rw [if_pos q, bt_1s (by omega)]; exact decide_eq_true rfl⟩
/-- the states of a set -/
def hX (X : Int32) (x : Nat) : Prop := x < 6 ∧ bt X x = true
theorem bt_ne0 {X : Int32} (h : ∀ y, bt X y = true → y < 6) : X = 0 ↔ ∀ y, ¬ hX X y := by
  constructor
  · intro e y hy
    rw [e] at hy
    have := hy.2
    rw [bt_zero] at this
    cases this
  · intro g
    refine bt_ext fun k _ => ?_
    rw [bt_zero]
    cases e : bt X k with
    | false => rfl
    | true => exact absurd ⟨h k e, e⟩ (g k)
/-- costs of targets against the rest -/
theorem cs_next (hw : aw A) (hk : okW w) {u : Nat} (hu : u = 64 ∨ u = 16) {c : Nat → Nat} (hD : csD A w u c) {W n b y : Nat} (hW : W ≤ 500) (hn : n ≤ 5) (hb : b < 3) (hy : y < 6) : nI (c y) = nI (u * W + (n + 1)) - nI (u * w b + 1) ↔ w b ≤ W ∧ dst A w y (W - w b) n := by
  have hwb := hk b hb
  have hcb : c y ≤ 1000000 := by
    rcases hD y hy with ⟨e, _⟩ | ⟨W', n', z, e⟩
    · omega
    · have := z.w5 hw hk
      have := z.n5 hw
      rcases hu with rfl | rfl <;> omega
  rw [nI_sub_eq (by omega) (by rcases hu with rfl | rfl <;> omega) (by rcases hu with rfl | rfl <;> omega)]
  constructor
  · intro e
    rcases hD y hy with ⟨e2, _⟩ | ⟨W', n', z, e2⟩
    · exfalso
      rcases hu with rfl | rfl <;> omega
    · have h1 := z.w5 hw hk
      have h2 := z.n5 hw
      have g : W' + w b = W ∧ n' = n := by rcases hu with rfl | rfl <;> omega
      refine ⟨by omega, ?_⟩
      rw [show W - w b = W' by omega, ← g.2]
      exact z
  · rintro ⟨q, z⟩
    rcases hD y hy with ⟨_, e2⟩ | ⟨W', n', z', e2⟩
    · obtain ⟨⟨v, b1, b2, _⟩, _⟩ := z
      exact absurd b2 (e2 v b1)
    · obtain ⟨g1, g2⟩ := z.uniq z'
      rw [e2, ← g1, ← g2]
      rcases hu with rfl | rfl <;> omega
theorem e_scC (hR : okC R) (hw : aw A) (hk : okW w) (hA : isA I 2 3 A) {c : Nat → Nat} (hc : csM I 32 c) (hD : csD A w 64 c) {W n b : Nat} (hW : W ≤ 500) (hn : n ≤ 5) (hb : b < 3) (X : Int32) : ∃ Z Y, pX2_image R I 2 X (nI b) = some Z ∧ pX2_statesOfCost R I 31 Z (nI (64 * W + (n + 1)) - nI (64 * w b + 1)) = some Y ∧ (∀ y, bt Y y = true → y < 6) ∧ ∀ y, hX Y y ↔ w b ≤ W ∧ nl A w (hX X) b (W - w b) n y := by
  obtain ⟨Z, e1, h1⟩ := e_image hR hw hA X hb
  obtain ⟨Y, e2, h2⟩ := e_soc hR hc Z (nI (64 * W + (n + 1)) - nI (64 * w b + 1))
  refine ⟨Z, Y, e1, e2, fun y hy => ((h2 y).mp hy).1, fun y => ?_⟩
  constructor
  · rintro ⟨hy, g⟩
    obtain ⟨_, g2, g3⟩ := (h2 y).mp g
    obtain ⟨s, q1, q2, q3⟩ := (h1 y).mp g2
    obtain ⟨z1, z2⟩ := (cs_next hw hk (Or.inl rfl) hD hW hn hb hy).mp g3
    exact ⟨z1, hy, ⟨s, q1, ⟨q1, q2⟩, q3⟩, z2⟩
  · rintro ⟨z1, hy, ⟨s, q1, ⟨_, q2⟩, q3⟩, z2⟩
    exact ⟨hy, (h2 y).mpr ⟨hy, (h1 y).mpr ⟨s, q1, q2, q3⟩, (cs_next hw hk (Or.inl rfl) hD hW hn hb hy).mpr ⟨z1, z2⟩⟩⟩
theorem e_firstLetter (hR : okC R) (hw : aw A) (hk : okW w) (hA : isA I 2 3 A) (hWt : cW I w) {c : Nat → Nat} (hc : csM I 32 c) (hD : csD A w 64 c) {W n : Nat} (hW : W ≤ 500) (hn : n ≤ 5) {X : Int32} {x : Nat} (hx : hX X x) (hdx : dst A w x W (n + 1)) :
    ∃ a, a < 3 ∧ pX2_firstLetter R I 31 2 6 X (nI (64 * W + (n + 1))) = some (nI a) ∧ w a ≤ W ∧ (∃ y, nl A w (hX X) a (W - w a) n y) ∧ ∀ b, b < a → w b ≤ W → ∀ y, ¬ nl A w (hX X) b (W - w b) n y := by
  unfold pX2_firstLetter
  obtain ⟨f, hf⟩ : ∃ f, am_fu = f + 3 := ⟨am_fu - 3, by have := am_fu_ge; omega⟩
  rw [hf]
  obtain ⟨Z0, Y0, i0, s0, l0, g0⟩ := e_scC (b := 0) hR hw hk hA hc hD hW hn (by omega) X
  obtain ⟨Z1, Y1, i1, s1, l1, g1⟩ := e_scC (b := 1) hR hw hk hA hc hD hW hn (by omega) X
  have a0 : lX2_firstLetter_3 R I 31 2 6 X (nI (64 * W + (n + 1))) (f + 3) 0 = if Y0 = 0 then lX2_firstLetter_3 R I 31 2 6 X (nI (64 * W + (n + 1))) (f + 2) (nI 1) else some (nI 0) := by
    show sX2_firstLetter_3 R I 31 2 6 X (nI (64 * W + (n + 1))) (lX2_firstLetter_3 R I 31 2 6 X (nI (64 * W + (n + 1))) (f + 2)) (nI 0) = _
    unfold sX2_firstLetter_3
    rw [if_neg (show ¬ (2 : Int32) ≤ nI 0 by decide), e_price hWt hk (show 0 < 3 by omega), am_bd, am_let_e, i0, am_bd, s0, am_bd]
    rfl
  have a1 : lX2_firstLetter_3 R I 31 2 6 X (nI (64 * W + (n + 1))) (f + 2) (nI 1) = if Y1 = 0 then some (nI 2) else some (nI 1) := by
    show sX2_firstLetter_3 R I 31 2 6 X (nI (64 * W + (n + 1))) (lX2_firstLetter_3 R I 31 2 6 X (nI (64 * W + (n + 1))) (f + 1)) (nI 1) = _
    unfold sX2_firstLetter_3
    rw [if_neg (show ¬ (2 : Int32) ≤ nI 1 by decide), e_price hWt hk (show 1 < 3 by omega), am_bd, am_let_e, i1, am_bd, s1, am_bd]
    by_cases q : Y1 = 0
    · rw [if_pos q, if_pos q]
      show sX2_firstLetter_3 R I 31 2 6 X (nI (64 * W + (n + 1))) (lX2_firstLetter_3 R I 31 2 6 X (nI (64 * W + (n + 1))) f) (nI 2) = _
      unfold sX2_firstLetter_3
      rw [if_pos (show (2 : Int32) ≤ nI 2 by decide)]
      rfl
    · rw [if_neg q, if_neg q]
  have no : ∀ {Y : Int32} {b : Nat}, (∀ y, hX Y y ↔ w b ≤ W ∧ nl A w (hX X) b (W - w b) n y) → Y = 0 → w b ≤ W → ∀ y, ¬ nl A w (hX X) b (W - w b) n y := fun {Y b} g e hb y hy => by
    have := (g y).mpr ⟨hb, hy⟩
    rw [e] at this
    have := this.2
    rw [bt_zero] at this
    cases this
  have yes : ∀ {Y : Int32} {b : Nat}, (∀ y, bt Y y = true → y < 6) → (∀ y, hX Y y ↔ w b ≤ W ∧ nl A w (hX X) b (W - w b) n y) → ¬ Y = 0 → w b ≤ W ∧ ∃ y, nl A w (hX X) b (W - w b) n y := fun {Y b} l g e => by
    apply Classical.byContradiction
    intro h
    apply e
    refine (bt_ne0 l).mpr fun y hy => h ?_
    have := (g y).mp hy
    exact ⟨this.1, y, this.2⟩
  by_cases q0 : Y0 = 0
  · have n0 := no g0 q0
    by_cases q1 : Y1 = 0
    · have n1 := no g1 q1
      obtain ⟨a, ha, hwa, y, hy⟩ := LSp_go (here := hX X) hx hx.1 hdx
      have : a = 2 := by
        have e0 : a ≠ 0 := fun e => by subst e; exact n0 hwa y hy
        have e1 : a ≠ 1 := fun e => by subst e; exact n1 hwa y hy
        omega
      subst this
      refine ⟨2, by omega, by rw [a0, if_pos q0, a1, if_pos q1], hwa, ⟨y, hy⟩, fun b hb => ?_⟩
      have hb2 : b = 0 ∨ b = 1 := by omega
      rcases hb2 with rfl | rfl
      · exact n0
      · exact n1
    · obtain ⟨y1, y2⟩ := yes l1 g1 q1
      refine ⟨1, by omega, by rw [a0, if_pos q0, a1, if_neg q1], y1, y2, fun b hb => ?_⟩
      have hb2 : b = 0 := by omega
      subst hb2
      exact n0
  · obtain ⟨y1, y2⟩ := yes l0 g0 q0
    exact ⟨0, by omega, by rw [a0, if_neg q0], y1, y2, fun b hb => absurd hb (Nat.not_lt_zero b)⟩
theorem dst.w0 {s W : Nat} (h : dst A w s W 0) : W = 0 := by
  obtain ⟨⟨v, _, _, a3, a4⟩, _⟩ := h
  cases v with
  | nil => exact a3.symm
  | cons a v => cases a4
theorem e_fd45 (hR : okC R) (hw : aw A) (hk : okW w) {c : Nat → Nat} (hD : csD A w 64 c) : ∀ (n f i W : Nat) (X : Int32) (J : am_I), isA J 2 3 A → cW J w → csM J 32 c → J 12 0 = nI i → i + n ≤ 5 → W ≤ 500 → n < f → (∃ x, hX X x) → (∀ x, hX X x → dst A w x W n) →
    ∃ v J', lX2_find_45 R 31 2 6 12 f (nI (64 * W + n)) X (nI i) J = some (1, J') ∧ v.length = n ∧ LSp A w (hX X) W v ∧ J' 12 0 = nI (i + n) ∧ (∀ j, j < n → J' 13 (i + j) = nI (v.getD j 0)) ∧ (∀ j, j < i → J' 13 j = J 13 j) ∧ ∀ b, b ≠ 12 → b ≠ 13 → J' b = J b := by
  intro n
  induction n with
  | zero =>
    intro f i W X J hA hWt hc h0 hi hW hf ⟨x, hx⟩ hh
    obtain ⟨f, rfl⟩ : ∃ g, f = g + 1 := ⟨f - 1, by omega⟩
    have e0 := (hh x hx).w0
    subst e0
    refine ⟨[], J, ?_, rfl, trivial, h0, fun j hj => absurd hj (Nat.not_lt_zero j), fun _ _ => rfl, fun _ _ _ => rfl⟩
    show sX2_find_45 R 31 2 6 12 (lX2_find_45 R 31 2 6 12 f) (nI (64 * 0 + 0)) X (nI i) J = _
    unfold sX2_find_45
    rw [if_neg (ng6 (by omega)), if_pos (show nI (64 * 0 + 0) ≤ 0 by decide)]
  | succ n ih =>
    intro f i W X J hA hWt hc h0 hi hW hf ⟨x, hx⟩ hh
    obtain ⟨f, rfl⟩ : ∃ g, f = g + 1 := ⟨f - 1, by omega⟩
    obtain ⟨a, ha, e1, a2, a3, a4⟩ := e_firstLetter hR hw hk hA hWt hc hD hW (show n ≤ 5 by omega) hx (hh x hx)
    obtain ⟨Z, Y, e2, e3, _, g⟩ := e_scC hR hw hk hA hc hD hW (show n ≤ 5 by omega) ha X
    have hwa := hk a ha
    have eH : hX Y = nl A w (hX X) a (W - w a) n := funext fun y => propext ((g y).trans ⟨fun q => q.2, fun q => ⟨a2, q⟩⟩)
    have es : nI (64 * W + (n + 1)) - nI (64 * w a + 1) = nI (64 * (W - w a) + n) := ((nI_sub_eq (by omega) (by omega) (by omega)).mpr (by omega)).symm
    have hJ := e_add8 (R := R) (I := J) (o := 12) h0 (by omega) (nI a)
    rw [hR.r12_1] at hJ
    obtain ⟨v, J', q1, q2, q3, q4, q5, q6, q7⟩ := ih f (i + 1) (W - w a) Y (am_upI (am_upI J 12 0 (nI (i + 1))) 13 i (nI a)) (hA.kept (by rw [am_upI_ne (by decide), am_upI_ne (by decide)]) (by rw [am_upI_ne (by decide), am_upI_ne (by decide)])) (hWt.kept (by rw [am_upI_ne (by decide), am_upI_ne (by decide)])) (by unfold csM; rw [am_upI_ne (by decide), am_upI_ne (by decide)]; exact hc) (by rw [am_upI_ne (by decide), am_upI_s]) (by omega) (by omega) (by omega) (by rw [eH]; exact a3) (by rw [eH]; exact fun y hy => hy.2.2)
    have q2' : v.length = n := q2
    refine ⟨a :: v, J', ?_, by rw [List.length_cons, q2], ⟨ha, a2, ?_, ?_, ?_⟩, by rw [q4]; congr 1; omega, fun j hj => ?_, fun j hj => ?_, fun b x y => ?_⟩
    · show sX2_find_45 R 31 2 6 12 (lX2_find_45 R 31 2 6 12 f) (nI (64 * W + (n + 1))) X (nI i) J = _
      unfold sX2_find_45
      rw [if_neg (ng6 (by omega)), if_neg (show ¬ nI (64 * W + (n + 1)) ≤ 0 from nIge (a := 0) (b := 64 * W + (n + 1)) (by omega) (by omega)), e1, am_bd, e_price hWt hk ha, am_bd, am_let_e, e2, am_bd, e3, am_bd, hJ, am_bd, es, nI_1]
      exact q1
    · rw [q2']; exact a3
    · rw [q2']; exact a4
    · rw [q2', ← eH]; exact q3
    · cases j with
      | zero =>
        rw [Nat.add_zero, q6 i (by omega), am_upI_s]
        rfl
      | succ j =>
        rw [show i + (j + 1) = i + 1 + j by omega, q5 j (by omega)]
        rfl
    · rw [q6 j (by omega), am_upI_o (by omega), am_upI_ne (by decide)]
    · rw [q7 b x y, am_upI_ne y, am_upI_ne x]
/-- the class finds the lightest word -/
theorem e_find2 (hR : okC R) (hw : aw A) (hk : okW w) (hA : isA I 2 3 A) (hWt : cW I w) : ∃ (b : Bool) (I' : am_I), pX2_find R I 31 2 6 12 = some (bI b, I') ∧ (∀ x, x ≠ 12 → x ≠ 13 → x ≠ 32 → I' x = I x) ∧ ((b = false ∧ NL A) ∨ (b = true ∧ ∃ W v, LW A w W v ∧ v.length ≤ 5 ∧ I' 12 0 = nI v.length ∧ ∀ j, j < v.length → I' 13 j = nI (v.getD j 0))) := by
  obtain ⟨I1, c, e1, h1, h2, h3, h4⟩ := e_computeCosts hR hw hk hA hWt
  obtain ⟨m, e2, m1, m2, m3⟩ := e_cheapest hR h1 h3 A.2.1
  have hA1 : isA I1 2 3 A := hA.kept (h4 2 (by decide)) (h4 3 (by decide))
  unfold pX2_find
  rw [e1, am_bd, hA1.2.1, e2, am_bd, show (1000000 : Int32) = nI 1000000 from rfl]
  rcases mn_of hw hk (Or.inl rfl) h2 (m2.imp id (fun ⟨s, a, b, d⟩ => ⟨s, a, b, d⟩)) m3 with ⟨rfl, hn⟩ | ⟨W, n, rfl, hm, hW, hn5⟩
  · rw [if_neg (fun h => absurd ((nI_ltD (by omega) (by omega)).mp h) (Nat.lt_irrefl _))]
    exact ⟨false, I1, rfl, fun x _ _ z => h4 x z, Or.inl ⟨rfl, hn⟩⟩
  · rw [if_pos ((nI_ltD (by omega) (by omega)).mpr (by omega)), am_let_e]
    have hc4 : csM (am_upI I1 12 0 (0 : Int32)) 32 c := by unfold csM; rw [am_upI_ne (by decide)]; exact h1
    obtain ⟨Y, e3, g⟩ := e_soc hR hc4 A.2.1 (nI (64 * W + n))
    have hA4 : isA (am_upI I1 12 0 (0 : Int32)) 2 3 A := hA1.kept (am_upI_ne (by decide)) (am_upI_ne (by decide))
    have eY : hX Y = hr0 A w W n := funext fun x => propext ⟨fun ⟨hx, q⟩ => by
      obtain ⟨_, q2, q3⟩ := (g x).mp q
      have q4 : c x = 64 * W + n := (nI_eq (by have := h3 x hx; omega) (by omega)).mp q3
      rcases h2 x hx with ⟨z, _⟩ | ⟨W', n', z, z2⟩
      · omega
      · have a1 := z.w5 hw hk
        have a2 := z.n5 hw
        have a3 : W' = W ∧ n' = n := by omega
        rw [a3.1, a3.2] at z
        exact ⟨hx, q2, z⟩, fun ⟨hx, q2, z⟩ => by
      refine ⟨hx, (g x).mpr ⟨hx, q2, ?_⟩⟩
      rcases h2 x hx with ⟨_, z'⟩ | ⟨W', n', z', z2⟩
      · obtain ⟨⟨v, b1, b2, _⟩, _⟩ := z
        exact absurd b2 (z' v b1)
      · obtain ⟨a1, a2⟩ := z.uniq z'
        rw [z2, a1, a2]⟩
    obtain ⟨v, J', q1, q2, q3, q4, q5, _, q7⟩ := e_fd45 hR hw hk h2 n am_fu 0 W Y (am_upI I1 12 0 (0 : Int32)) hA4 (hWt.kept (by rw [am_upI_ne (by decide)]; exact h4 6 (by decide))) hc4 (by rw [am_upI_s]; rfl) (by omega) hW (by have := am_fu_ge; omega) (by
      rw [eY]
      obtain ⟨⟨x, a⟩, _⟩ := hm
      exact ⟨x, a⟩) (by rw [eY]; exact fun x hx => hx.2.2)
    refine ⟨true, J', ?_, fun x y1 y2 y3 => by rw [q7 x y1 y2, am_upI_ne y1]; exact h4 x y3, Or.inr ⟨rfl, W, v, ⟨?_, ?_⟩, by omega, by rw [q4, q2, Nat.zero_add], fun j hj => ?_⟩⟩
    · rw [hA4.2.1, e3, am_bd]
      rw [nI_0] at q1
      exact q1
    · rw [q2]; exact hm
    · rw [q2, ← eY]; exact q3
    · have := q5 j (by omega)
      rw [Nat.zero_add] at this
      exact this
end
