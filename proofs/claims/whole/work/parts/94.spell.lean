/-! the reference spells a witness -/
noncomputable def dcd (p : Prop) : Bool := @decide p (Classical.propDecidable p)
theorem dcd_t {p : Prop} : dcd p = true ↔ p := @decide_eq_true_iff p (Classical.propDecidable p)
theorem dcd_pos {p : Prop} (h : p) : dcd p = true := dcd_t.mpr h
theorem dcd_neg {p : Prop} (h : ¬ p) : dcd p = false := by
  cases e : dcd p with
  | false => rfl
  | true => exact absurd (dcd_t.mp e) h
/-- the graph's size and edges: pairs or triples -/
def gN (tr : Bool) : Nat := if tr = true then 216 else 72
def gE (A : am_Au) (tr : Bool) : Nat → Nat → Nat → Prop := if tr = true then edT A else edP A
theorem gN_le (tr : Bool) : gN tr ≤ 216 := by cases tr <;> decide
section
variable {A : am_Au}
theorem e_leadsPair (hw : aw A) {J : am_I} (hA : isM J A) {x y a : Nat} (hx : x < 72) (hy : y < 72) (ha : a < 3) (hv : x % 2 = 1 ∨ x / 12 = x / 2 % 6) : pX11_leadsPair rM J 1 (nI x) (nI a) (nI y) = some (bI (dcd (edP A a x y))) := by
  unfold pX11_leadsPair
  have d12 : ∀ z, z < 72 → nI z / (12 : Int32) = nI (z / 12) := fun z hz => by rw [show (12 : Int32) = nI 12 from rfl, pk_div (by omega) (by omega) (by omega)]
  have d6 : ∀ z, z < 72 → nI z / (2 : Int32) - nI z / (2 : Int32) / (6 : Int32) * (6 : Int32) = nI (z / 2 % 6) := fun z hz => by
    rw [show (2 : Int32) = nI 2 from rfl, show (6 : Int32) = nI 6 from rfl, pk_div (by omega) (by omega) (by omega), pk_rem (by omega) (by omega) (by omega)]
  have m2 : ∀ z, z < 72 → nI z - nI z / (2 : Int32) * (2 : Int32) = nI (z % 2) := fun z hz => by rw [show (2 : Int32) = nI 2 from rfl, pk_rem (by omega) (by omega) (by omega)]
  have e1 : ∀ z, z < 72 → (nI (z % 2) = (1 : Int32) ↔ z % 2 = 1) := fun z hz => nI_eq (b := 1) (by omega) (by omega)
  have e2 : (nI (y / 12) = nI (y / 2 % 6)) ↔ y / 12 = y / 2 % 6 := nI_eq (by omega) (by omega)
  rw [d12 x hx, am_let_e, d6 x hx, am_let_e, d12 y hy, am_let_e, d6 y hy, am_let_e, m2 x hx, m2 y hy]
  have eb : (if nI (x % 2) = (1 : Int32) then (1 : Int32) else if nI (y / 12) = nI (y / 2 % 6) then 0 else 1) = bI (decide (x % 2 = 1 ∨ y / 12 ≠ y / 2 % 6)) := by
    by_cases g : x % 2 = 1
    · rw [if_pos ((e1 x hx).mpr g), decide_eq_true (Or.inl g)]; rfl
    · rw [if_neg (fun h => g ((e1 x hx).mp h))]
      by_cases g2 : y / 12 = y / 2 % 6
      · rw [if_pos (e2.mpr g2), decide_eq_false (fun h => h.elim g (fun k => k g2))]; rfl
      · rw [if_neg (fun h => g2 (e2.mp h)), decide_eq_true (Or.inr g2)]; rfl
  have ec : (if nI (y % 2) = (1 : Int32) then (1 : Int32) else 0) = bI (decide (y % 2 = 1)) := by
    by_cases g : y % 2 = 1
    · rw [if_pos ((e1 y hy).mpr g), decide_eq_true g]; rfl
    · rw [if_neg (fun h => g ((e1 y hy).mp h)), decide_eq_false g]; rfl
  have ebb : ∀ c d : Bool, bI c = bI d ↔ c = d := by decide
  rw [eb, am_let_e, ec, am_let_e]
  by_cases g : decide (x % 2 = 1 ∨ y / 12 ≠ y / 2 % 6) = decide (y % 2 = 1)
  · have g' : (y % 2 = 1 ↔ (x % 2 = 1 ∨ y / 12 ≠ y / 2 % 6)) := by
      rw [← decide_eq_true_iff (p := y % 2 = 1), ← g, decide_eq_true_iff]
    rw [if_pos ((ebb _ _).mpr g), ix6, inb (show 6 * a + x / 12 < 18 by omega) (by omega), am_ck_true, rM0, nIcl (show 6 * a + x / 12 < 1000000 by omega), hA.2.2.2 a (x / 12) ha (by omega), e_hb _ (show y / 12 < 32 by omega), am_bd]
    by_cases b1 : bt (A.2.2.2 a (x / 12)) (y / 12) = true
    · rw [b1, if_neg (show ¬ bI true = 0 by decide), ix6, inb (show 6 * a + x / 2 % 6 < 18 by omega) (by omega), am_ck_true, nIcl (show 6 * a + x / 2 % 6 < 1000000 by omega), hA.2.2.2 a (x / 2 % 6) ha (by omega), e_hb _ (show y / 2 % 6 < 32 by omega), am_bd]
      by_cases b2 : bt (A.2.2.2 a (x / 2 % 6)) (y / 2 % 6) = true
      · rw [b2, if_neg (show ¬ bI true = 0 by decide), dcd_pos ⟨hv, g', b1, b2⟩]; rfl
      · rw [Bool.eq_false_iff.mpr b2, if_pos (show bI false = 0 from rfl), dcd_neg (fun h => b2 h.2.2.2)]; rfl
    · rw [Bool.eq_false_iff.mpr b1, if_pos (show bI false = 0 from rfl), dcd_neg (fun h => b1 h.2.2.1)]; rfl
  · rw [if_neg (fun h => g ((ebb _ _).mp h)), dcd_neg (fun h => g (by
      have := h.2.1
      by_cases q : y % 2 = 1
      · rw [decide_eq_true q, decide_eq_true (this.mp q)]
      · rw [decide_eq_false q, decide_eq_false (fun k => q (this.mpr k))]))]
    rfl
theorem e_leadsTriple {J : am_I} (hA : isM J A) {x y a : Nat} (hx : x < 216) (hy : y < 216) (ha : a < 3) : pX11_leadsTriple rM J 1 (nI x) (nI a) (nI y) = some (bI (dcd (edT A a x y))) := by
  unfold pX11_leadsTriple
  have d36 : ∀ z, z < 216 → nI z / (36 : Int32) = nI (z / 36) := fun z hz => by rw [show (36 : Int32) = nI 36 from rfl, pk_div (by omega) (by omega) (by omega)]
  have d6 : ∀ z, z < 216 → nI z / (6 : Int32) - nI z / (6 : Int32) / (6 : Int32) * (6 : Int32) = nI (z / 6 % 6) := fun z hz => by
    rw [show (6 : Int32) = nI 6 from rfl, pk_div (by omega) (by omega) (by omega), pk_rem (by omega) (by omega) (by omega)]
  have m6 : ∀ z, z < 216 → nI z - nI z / (6 : Int32) * (6 : Int32) = nI (z % 6) := fun z hz => by rw [show (6 : Int32) = nI 6 from rfl, pk_rem (by omega) (by omega) (by omega)]
  rw [am_let_e, d36 x hx, d36 y hy, d6 x hx, d6 y hy, m6 x hx, m6 y hy, ix6, ix6, ix6, inb (show 6 * a + x / 36 < 18 by omega) (by omega), am_ck_true, rM0, nIcl (show 6 * a + x / 36 < 1000000 by omega), hA.2.2.2 a (x / 36) ha (by omega), e_hb _ (show y / 36 < 32 by omega), am_bd]
  by_cases b1 : bt (A.2.2.2 a (x / 36)) (y / 36) = true
  · rw [b1, if_neg (show ¬ bI true = 0 by decide), inb (show 6 * a + x / 6 % 6 < 18 by omega) (by omega), am_ck_true, nIcl (show 6 * a + x / 6 % 6 < 1000000 by omega), hA.2.2.2 a (x / 6 % 6) ha (by omega), e_hb _ (show y / 6 % 6 < 32 by omega), am_bd]
    by_cases b2 : bt (A.2.2.2 a (x / 6 % 6)) (y / 6 % 6) = true
    · rw [b2, if_neg (show ¬ bI true = 0 by decide), inb (show 6 * a + x % 6 < 18 by omega) (by omega), am_ck_true, nIcl (show 6 * a + x % 6 < 1000000 by omega), hA.2.2.2 a (x % 6) ha (by omega), e_hb _ (show y % 6 < 32 by omega), am_bd]
      by_cases b3 : bt (A.2.2.2 a (x % 6)) (y % 6) = true
      · rw [b3, if_neg (show ¬ bI true = 0 by decide), dcd_pos ⟨b1, b2, b3⟩]; rfl
      · rw [Bool.eq_false_iff.mpr b3, if_pos (show bI false = 0 from rfl), dcd_neg (fun h => b3 h.2.2)]; rfl
    · rw [Bool.eq_false_iff.mpr b2, if_pos (show bI false = 0 from rfl), dcd_neg (fun h => b2 h.2.1)]; rfl
  · rw [Bool.eq_false_iff.mpr b1, if_pos (show bI false = 0 from rfl), dcd_neg (fun h => b1 h.1)]; rfl
/-- either graph's edge -/
noncomputable def leadsG (tr : Bool) (J : am_I) (x a y : Int32) : Option Int32 := if bI tr = 0 then pX11_leadsPair rM J 1 x a y else pX11_leadsTriple rM J 1 x a y
theorem e_leadsG (hw : aw A) {J : am_I} (hA : isM J A) {tr : Bool} {x y a : Nat} (hx : x < gN tr) (hy : y < gN tr) (ha : a < 3) (hv : tr = false → x % 2 = 1 ∨ x / 12 = x / 2 % 6) : leadsG tr J (nI x) (nI a) (nI y) = some (bI (dcd (gE A tr a x y))) := by
  cases tr with
  | false => exact e_leadsPair hw hA hx hy ha (hv rfl)
  | true => exact e_leadsTriple hA hx hy ha
/-- the memory while it spells: distances, who is here -/
def spM (J : am_I) (A : am_Au) (d : Nat → Nat) (tr : Bool) (hr : Nat → Bool) : Prop := isM J A ∧ (∀ x, x < 216 → J 12 x = nI (d x)) ∧ (∀ x, x < 216 → J 15 x = bI (hr x)) ∧ (∀ x, hr x = true → x < gN tr ∧ (tr = false → x % 2 = 1 ∨ x / 12 = x / 2 % 6)) ∧ ∀ x, d x ≤ 1000
theorem spM.kept {J J' : am_I} {d : Nat → Nat} {tr : Bool} {hr : Nat → Bool} (h : spM J A d tr hr) (e : ∀ b, b ≠ 14 → b ≠ 16 → J' b = J b) : spM J' A d tr hr := by
  obtain ⟨h1, h2, h3, h4⟩ := h
  exact ⟨h1.kept (fun k _ _ => by rw [e 1 (by decide) (by decide)]) (e 2 (by decide) (by decide)), fun x hx => by rw [e 12 (by decide) (by decide)]; exact h2 x hx, fun x hx => by rw [e 15 (by decide) (by decide)]; exact h3 x hx, h4⟩
def nxH (A : am_Au) (d : Nat → Nat) (tr : Bool) (hr : Nat → Bool) (a left y : Nat) : Prop := nxt (gN tr) (gE A tr) d (fun x => hr x = true) a left y
theorem isb_bI (b : Bool) : am_isb (bI b) = true := by cases b <;> rfl
theorem isb_0 : am_isb (0 : Int32) = true := rfl
theorem isb_1 : am_isb (1 : Int32) = true := rfl
theorem e_goes38 (hw : aw A) {J : am_I} {d : Nat → Nat} {tr : Bool} {hr : Nat → Bool} (hS : spM J A d tr hr) {a left y : Nat} (ha : a < 3) (hl : left < 1000) (hy : y < gN tr) (v4 : Int32) (j : am_I → Option (Int32 × am_I)) (hy0 : J 16 y = 0) :
    ∃ J', lX11_goes_38 rM 1 (nI a) (nI left) (bI tr) v4 (nI (gN tr)) (nI y) j am_fu (0 : Int32) J = j J' ∧ J' 16 y = bI (dcd (nxH A d tr hr a left y)) ∧ (∀ z, z ≠ y → J' 16 z = J 16 z) ∧ ∀ b, b ≠ 16 → J' b = J b := by
  have hN := gN_le tr
  have key := am_forQ (fun n i J' => lX11_goes_38 rM 1 (nI a) (nI left) (bI tr) v4 (nI (gN tr)) (nI y) j n (nI i) J') (gN tr) (fun i J' => ((J' 16 y = 0 ∧ ∀ x, x < i → ¬ (d y = left ∧ hr x = true ∧ gE A tr a x y)) ∨ (J' 16 y = 1 ∧ ∃ x, x < gN tr ∧ d y = left ∧ hr x = true ∧ gE A tr a x y)) ∧ (∀ z, z ≠ y → J' 16 z = J 16 z) ∧ ∀ b, b ≠ 16 → J' b = J b)
    (fun r => ∃ J', r = j J' ∧ J' 16 y = bI (dcd (nxH A d tr hr a left y)) ∧ (∀ z, z ≠ y → J' 16 z = J 16 z) ∧ ∀ b, b ≠ 16 → J' b = J b) (by omega) (fun n x J' hx hP => by
      obtain ⟨p1, p2, p3⟩ := hP
      have hS' : spM J' A d tr hr := hS.kept (fun b _ g => p3 b g)
      obtain ⟨s1, s2, s3, s4, s5⟩ := hS'
      have h12 := s2 y (by omega)
      by_cases g : d y = left
      · rcases p1 with ⟨q1, q2⟩ | ⟨q1, q2⟩
        · left
          have val : ∀ c : Bool, (c = true ↔ hr x = true ∧ gE A tr a x y) → ((am_upI J' 16 y (bI c)) 16 y = 0 ∧ ∀ x', x' < x + 1 → ¬ (d y = left ∧ hr x' = true ∧ gE A tr a x' y)) ∨ ((am_upI J' 16 y (bI c)) 16 y = 1 ∧ ∃ x, x < gN tr ∧ d y = left ∧ hr x = true ∧ gE A tr a x y) := fun c hc => by
            rw [am_upI_s]
            cases c with
            | false =>
              left
              refine ⟨rfl, fun x' hx' hh => ?_⟩
              by_cases e : x' = x
              · subst e; have := hc.mpr hh.2; cases this
              · exact q2 x' (by omega) hh
            | true => right; exact ⟨rfl, x, hx, g, hc.mp rfl⟩
          have go : ∀ c : Bool, (hr x = true → leadsG tr J' (nI x) (nI a) (nI y) = some (bI c)) → (hr x = false → c = false) → lX11_goes_38 rM 1 (nI a) (nI left) (bI tr) v4 (nI (gN tr)) (nI y) j (n + 1) (nI x) J' = lX11_goes_38 rM 1 (nI a) (nI left) (bI tr) v4 (nI (gN tr)) (nI y) j n (nI (x + 1)) (am_upI J' 16 y (bI c)) := fun c h1 h2 => by
            show sX11_goes_38 rM 1 (nI a) (nI left) (bI tr) v4 (nI (gN tr)) (nI y) j (lX11_goes_38 rM 1 (nI a) (nI left) (bI tr) v4 (nI (gN tr)) (nI y) j n) (nI x) J' = _
            unfold sX11_goes_38
            rw [if_neg (nIge hx (by omega)), inb (show y < 216 by omega) (by omega), am_ck_true, rM19, rM24, rM23, nIcl (show y < 1000000 by omega), h12, g, if_pos rfl, am_ck_true, q1, if_pos rfl, inb (show x < 216 by omega) (by omega), am_ck_true, nIcl (show x < 1000000 by omega), s3 x (by omega)]
            simp only [am_jn_e, isb_0, isb_1, am_ck_true, am_let_e, nI_1]
            cases hh : hr x with
            | false =>
              rw [if_pos (show bI false = 0 from rfl), h2 hh]; rfl
            | true =>
              rw [if_neg (show ¬ bI true = 0 by decide)]
              have h1 := h1 hh
              unfold leadsG at h1
              cases tr with
              | false =>
                rw [if_pos (show bI false = 0 from rfl)] at h1
                rw [if_pos (show bI false = 0 from rfl), h1, am_bd]
                cases c <;> rfl
              | true =>
                rw [if_neg (show ¬ bI true = 0 by decide)] at h1
                rw [if_neg (show ¬ bI true = 0 by decide), h1, am_bd]
                cases c <;> rfl
          cases hh : hr x with
          | false => exact ⟨_, go false (fun h => by rw [hh] at h; cases h) (fun _ => rfl), val false ⟨fun h => (by cases h), fun h => (by rw [hh] at h; exact absurd h.1 (by decide))⟩, fun z hz => by rw [am_upI_o hz]; exact p2 z hz, fun b hb => by rw [am_upI_ne hb]; exact p3 b hb⟩
          | true => exact ⟨_, go (dcd (gE A tr a x y)) (fun _ => e_leadsG hw s1 hx hy ha (s4 x hh).2) (fun h => by rw [hh] at h; cases h), val _ (by rw [dcd_t]; exact ⟨fun h => ⟨hh, h⟩, fun h => h.2⟩), fun z hz => by rw [am_upI_o hz]; exact p2 z hz, fun b hb => by rw [am_upI_ne hb]; exact p3 b hb⟩
        · right
          refine ⟨J', ?_, ?_, p2, p3⟩
          · show sX11_goes_38 rM 1 (nI a) (nI left) (bI tr) v4 (nI (gN tr)) (nI y) j (lX11_goes_38 rM 1 (nI a) (nI left) (bI tr) v4 (nI (gN tr)) (nI y) j n) (nI x) J' = _
            unfold sX11_goes_38
            rw [if_neg (nIge hx (by omega)), inb (show y < 216 by omega) (by omega), am_ck_true, rM19, rM24, nIcl (show y < 1000000 by omega), h12, g, if_pos rfl, am_ck_true, q1, if_neg i10]
          · obtain ⟨x', r1, r2, r3, r4⟩ := q2
            rw [q1, dcd_pos (show nxH A d tr hr a left y from ⟨hy, g, x', r1, r3, r4⟩)]; rfl
      · right
        have hy1 : J' 16 y = 0 := by
          rcases p1 with ⟨q1, _⟩ | ⟨_, x', _, q3, _⟩
          · exact q1
          · exact absurd q3 g
        refine ⟨J', ?_, ?_, p2, p3⟩
        · show sX11_goes_38 rM 1 (nI a) (nI left) (bI tr) v4 (nI (gN tr)) (nI y) j (lX11_goes_38 rM 1 (nI a) (nI left) (bI tr) v4 (nI (gN tr)) (nI y) j n) (nI x) J' = _
          unfold sX11_goes_38
          rw [if_neg (nIge hx (by omega)), inb (show y < 216 by omega) (by omega), am_ck_true, rM19, nIcl (show y < 1000000 by omega), h12, if_neg (fun e => g ((nI_eq (by have := s5 y; omega) (by omega)).mp e))]
        · rw [hy1, dcd_neg (fun h : nxH A d tr hr a left y => g h.2.1)]; rfl) (fun n J' hP => by
      obtain ⟨p1, p2, p3⟩ := hP
      refine ⟨J', ?_, ?_, p2, p3⟩
      · show sX11_goes_38 rM 1 (nI a) (nI left) (bI tr) v4 (nI (gN tr)) (nI y) j (lX11_goes_38 rM 1 (nI a) (nI left) (bI tr) v4 (nI (gN tr)) (nI y) j n) (nI (gN tr)) J' = _
        unfold sX11_goes_38
        rw [if_pos (nIle (by omega))]
      · rcases p1 with ⟨q1, q2⟩ | ⟨q1, x', r1, r2, r3, r4⟩
        · rw [q1, dcd_neg (fun h : nxH A d tr hr a left y => by
            obtain ⟨_, h2, x', h3, h4, h5⟩ := h
            exact q2 x' h3 ⟨h2, h4, h5⟩)]
          rfl
        · rw [q1, dcd_pos (show nxH A d tr hr a left y from ⟨hy, r2, x', r1, r3, r4⟩)]; rfl) J ⟨Or.inl ⟨hy0, fun x hx => absurd hx (Nat.not_lt_zero x)⟩, fun _ _ => rfl, fun _ _ => rfl⟩
  exact key
theorem e_goes (hw : aw A) {J : am_I} {d : Nat → Nat} {tr : Bool} {hr : Nat → Bool} (hS : spM J A d tr hr) {a left : Nat} (ha : a < 3) (hl : left < 1000) :
    ∃ J', pX11_goes rM J 1 (nI a) (nI left) (bI tr) = some (bI (dcd (∃ y, nxH A d tr hr a left y)), J') ∧ (∀ y, y < gN tr → J' 16 y = bI (dcd (nxH A d tr hr a left y))) ∧ (∀ y, gN tr ≤ y → J' 16 y = J 16 y) ∧ ∀ b, b ≠ 16 → J' b = J b := by
  have hN := gN_le tr
  have e0 : (if bI tr = 0 then (72 : Int32) else 216) = nI (gN tr) := by cases tr <;> rfl
  unfold pX11_goes
  rw [e0, am_let_e]
  obtain ⟨⟨c, J'⟩, e, h1, h2, h3, h4⟩ := am_for0 (fun n i (M : Bool × am_I) => lX11_goes_20 rM 1 (nI a) (nI left) (bI tr) (nI (gN tr)) n (bI M.1) (nI i) M.2) (gN tr) (fun i M => (M.1 = true ↔ ∃ y, y < i ∧ nxH A d tr hr a left y) ∧ (∀ y, y < i → M.2 16 y = bI (dcd (nxH A d tr hr a left y))) ∧ (∀ y, i ≤ y → M.2 16 y = J 16 y) ∧ ∀ b, b ≠ 16 → M.2 b = J b) (fun M => some (bI M.1, M.2)) (by omega) (fun n y M hy hP => by
    obtain ⟨p1, p2, p3, p4⟩ := hP
    have hS1 : spM (am_upI M.2 16 y 0) A d tr hr := hS.kept (fun b _ g => by rw [am_upI_ne g]; exact p4 b g)
    have hpc : ∃ J2, (∀ jj : am_I → Option (Int32 × am_I), lX11_goes_38 rM 1 (nI a) (nI left) (bI tr) (bI M.1) (nI (gN tr)) (nI y) jj am_fu (0 : Int32) (am_upI M.2 16 y 0) = jj J2 ∨ True) := ⟨M.2, fun _ => Or.inr trivial⟩
    obtain ⟨J2, e2, q1, q2, q3⟩ := e_goes38 hw hS1 ha hl hy (bI M.1) (fun (J13 : am_I) => if bI M.1 = 0 then am_ck (am_inb (nI y) 216) (if (J13 (rM 1 24) (Int32.toNatClampNeg (nI y))) = 0 then lX11_goes_20 rM 1 (nI a) (nI left) (bI tr) (nI (gN tr)) n (0 : Int32) (nI y + (1 : Int32)) J13 else lX11_goes_20 rM 1 (nI a) (nI left) (bI tr) (nI (gN tr)) n (1 : Int32) (nI y + (1 : Int32)) J13) else lX11_goes_20 rM 1 (nI a) (nI left) (bI tr) (nI (gN tr)) n (1 : Int32) (nI y + (1 : Int32)) J13) am_upI_s
    refine ⟨(M.1 || dcd (nxH A d tr hr a left y), J2), ?_, ?_, fun z hz => ?_, fun z hz => ?_, fun b hb => ?_⟩
    · show sX11_goes_20 rM 1 (nI a) (nI left) (bI tr) (nI (gN tr)) (lX11_goes_20 rM 1 (nI a) (nI left) (bI tr) (nI (gN tr)) n) (bI M.1) (nI y) M.2 = _
      unfold sX11_goes_20
      rw [if_neg (nIge hy (by omega)), inb (show y < 216 by omega) (by omega), am_ck_true, am_let_e, rM24, nIcl (show y < 1000000 by omega)]
      simp only [am_jn_e]
      rw [rM24, nIcl (show y < 1000000 by omega)] at e2
      rw [inb (show y < 216 by omega) (by omega)] at e2
      simp only [am_ck_true] at e2 ⊢
      rw [e2, q1, nI_1]
      cases M.1
      · rw [if_pos (show bI false = 0 from rfl), Bool.false_or]
        cases dcd (nxH A d tr hr a left y) <;> rfl
      · rw [if_neg (show ¬ bI true = 0 by decide), Bool.true_or]; rfl
    · rw [Bool.or_eq_true, p1, dcd_t]
      constructor
      · rintro (⟨z, hz, g⟩ | g)
        · exact ⟨z, by omega, g⟩
        · exact ⟨y, by omega, g⟩
      · rintro ⟨z, hz, g⟩
        by_cases e : z = y
        · subst e; exact Or.inr g
        · exact Or.inl ⟨z, by omega, g⟩
    · by_cases e : z = y
      · subst e; exact q1
      · dsimp only; rw [q2 z e, am_upI_o e]; exact p2 z (by omega)
    · dsimp only; rw [q2 z (by omega), am_upI_o (by omega)]; exact p3 z (by omega)
    · dsimp only; rw [q3 b hb, am_upI_ne hb]; exact p4 b hb) (fun n M _ => by
    show sX11_goes_20 rM 1 (nI a) (nI left) (bI tr) (nI (gN tr)) (lX11_goes_20 rM 1 (nI a) (nI left) (bI tr) (nI (gN tr)) n) (bI M.1) (nI (gN tr)) M.2 = _
    unfold sX11_goes_20
    rw [if_pos (nIle (by omega)), isb_bI, am_ck_true]) (false, J) ⟨⟨fun h => (by cases h), fun ⟨y, hy, _⟩ => absurd hy (Nat.not_lt_zero y)⟩, fun y hy => absurd hy (Nat.not_lt_zero y), fun _ _ => rfl, fun _ _ => rfl⟩
  refine ⟨J', ?_, h2, h3, h4⟩
  refine Eq.trans e ?_
  have : c = dcd (∃ y, nxH A d tr hr a left y) := by
    have h1 : c = true ↔ ∃ y, y < gN tr ∧ nxH A d tr hr a left y := h1
    cases hc : c with
    | true =>
      obtain ⟨y, _, g⟩ := h1.mp hc
      exact (dcd_pos ⟨y, g⟩).symm
    | false => exact (dcd_neg (fun ⟨y, g⟩ => by have := h1.mpr ⟨y, g.1, g⟩; rw [hc] at this; cases this)).symm
  rw [← this]
theorem e_spells15 (hw : aw A) {J : am_I} {d : Nat → Nat} {tr : Bool} {hr : Nat → Bool} (hS : spM J A d tr hr) {len k left : Nat} (hk : len = left + 1 + k) (hl : len < 1000) (hex : ∃ a, a < 3 ∧ ∃ y, nxH A d tr hr a left y) (j : Int32 → am_I → Option am_I) :
    ∃ a J', lX11_spells_15 rM 1 (nI len) (bI tr) (nI k) j am_fu (0 : Int32) J = j (nI a) J' ∧ a < 3 ∧ (∃ y, nxH A d tr hr a left y) ∧ (∀ b, b < a → ∀ y, ¬ nxH A d tr hr b left y) ∧ (∀ y, y < gN tr → J' 16 y = bI (dcd (nxH A d tr hr a left y))) ∧ (∀ y, gN tr ≤ y → J' 16 y = J 16 y) ∧ ∀ b, b ≠ 16 → J' b = J b := by
  have el : nI len - (1 : Int32) - nI k = nI left := by
    rw [show (1 : Int32) = nI 1 from rfl, pk_sub (by omega), pk_sub (by omega)]; congr 1; omega
  have key := am_forQ (fun n i J' => lX11_spells_15 rM 1 (nI len) (bI tr) (nI k) j n (nI i) J') 3 (fun i J' => (∀ b, b < i → ∀ y, ¬ nxH A d tr hr b left y) ∧ (∀ y, gN tr ≤ y → J' 16 y = J 16 y) ∧ ∀ b, b ≠ 16 → J' b = J b) (fun r => ∃ a J', r = j (nI a) J' ∧ a < 3 ∧ (∃ y, nxH A d tr hr a left y) ∧ (∀ b, b < a → ∀ y, ¬ nxH A d tr hr b left y) ∧ (∀ y, y < gN tr → J' 16 y = bI (dcd (nxH A d tr hr a left y))) ∧ (∀ y, gN tr ≤ y → J' 16 y = J 16 y) ∧ ∀ b, b ≠ 16 → J' b = J b) (by omega) (fun n a J' ha hP => by
    obtain ⟨p1, p2, p3⟩ := hP
    obtain ⟨J2, e2, q1, q2, q3⟩ := e_goes hw (hS.kept (J' := J') (fun b _ g => p3 b g)) ha (show left < 1000 by omega)
    have step : lX11_spells_15 rM 1 (nI len) (bI tr) (nI k) j (n + 1) (nI a) J' = if bI (dcd (∃ y, nxH A d tr hr a left y)) = 0 then lX11_spells_15 rM 1 (nI len) (bI tr) (nI k) j n (nI (a + 1)) J2 else j (nI a) J2 := by
      show sX11_spells_15 rM 1 (nI len) (bI tr) (nI k) j (lX11_spells_15 rM 1 (nI len) (bI tr) (nI k) j n) (nI a) J' = _
      unfold sX11_spells_15
      rw [el, e2, am_bd, nI_1]
    by_cases g : ∃ y, nxH A d tr hr a left y
    · right
      refine ⟨a, J2, ?_, ha, g, p1, q1, fun y hy => (q2 y hy).trans (p2 y hy), fun b hb => (q3 b hb).trans (p3 b hb)⟩
      show lX11_spells_15 rM 1 (nI len) (bI tr) (nI k) j (n + 1) (nI a) J' = _
      rw [step, dcd_pos g, if_neg (show ¬ bI true = 0 by decide)]
    · left
      refine ⟨J2, ?_, fun b hb y hy => ?_, fun y hy => (q2 y hy).trans (p2 y hy), fun b hb => (q3 b hb).trans (p3 b hb)⟩
      · show lX11_spells_15 rM 1 (nI len) (bI tr) (nI k) j (n + 1) (nI a) J' = _
        rw [step, dcd_neg g, if_pos (show bI false = 0 from rfl)]
      · by_cases e : b = a
        · subst e; exact g ⟨y, hy⟩
        · exact p1 b (by omega) y hy) (fun n J' hP => by
    exfalso
    obtain ⟨a, ha, y, hy⟩ := hex
    exact hP.1 a ha y hy) J ⟨fun b hb => absurd hb (Nat.not_lt_zero b), fun _ _ => rfl, fun _ _ => rfl⟩
  exact key
theorem e_spells47 (x1 x2 v3 : Int32) (j : am_I → Option am_I) {J : am_I} (hb : ∀ x, x < 216 → ∃ b, J 16 x = bI b) : lX11_spells_47 rM 1 x1 x2 v3 j am_fu (0 : Int32) J = j (filI J 15 0 216 (fun i => J 16 i)) :=
  am_filI (fun n i J => lX11_spells_47 rM 1 x1 x2 v3 j n (nI i) J) 216 15 0 (fun i => J 16 i) j J (by omega) (fun n i J' hi hP _ => by
    obtain ⟨b, eb⟩ := hb i hi
    simp only [lX11_spells_47, sX11_spells_47, ng216 hi, if_false, inb hi (show 216 < 1000000 by omega), am_ck_true, am_let_e, nIcl (show i < 1000000 by omega), rM23, rM24, hP 16 (by decide), eb, isb_bI, nI_1, Nat.zero_add]) (fun n J' _ => by
    simp only [lX11_spells_47, sX11_spells_47, yg216, if_true])
theorem e_spells (hw : aw A) {F : Nat → Prop} {J : am_I} {d : Nat → Nat} {tr : Bool} {hr : Nat → Bool} (hS : spM J A d tr hr) (hD : isDst (gN tr) (gE A tr) F d) (hval : ∀ a x y, gE A tr a x y → y < gN tr → d y < 1000 → tr = false → y % 2 = 1 ∨ y / 12 = y / 2 % 6) {len : Nat} (hl : len ≤ 216) (hh : ∀ x, hr x = true → d x = len) (hex : ∃ x, hr x = true) (h16 : ∀ y, gN tr ≤ y → y < 216 → J 16 y = 0) :
    ∃ w J', pX11_spells rM J 1 (nI len) (bI tr) = some J' ∧ w.length = len ∧ Spl (gN tr) (gE A tr) d (fun x => hr x = true) w ∧ (∀ i, i < len → J' 14 i = nI (w.getD i 0)) ∧ (∀ b, b ≠ 1 → b ≠ 14 → b ≠ 15 → b ≠ 16 → J' b = J b) ∧ ∀ k, k ≠ 25 → J' 1 k = J 1 k := by
  have hN := gN_le tr
  unfold pX11_spells
  rw [am_let_e]
  obtain ⟨⟨J', hk, pre⟩, e, h1, h2, h3, h4, h5, h6, h7, h8, h9⟩ := am_for0 (fun n i (M : am_I × (Nat → Bool) × List Nat) => lX11_spells_7 rM 1 (nI len) (bI tr) n (nI i) M.1) len (fun k M => spM M.1 A d tr M.2.1 ∧ (∀ x, M.2.1 x = true → d x = len - k) ∧ (∃ x, M.2.1 x = true) ∧ M.2.2.length = k ∧ (∀ i, i < k → M.1 14 i = nI (M.2.2.getD i 0)) ∧ (∀ rest, rest.length = len - k → Spl (gN tr) (gE A tr) d (fun x => M.2.1 x = true) rest → Spl (gN tr) (gE A tr) d (fun x => hr x = true) (M.2.2 ++ rest)) ∧ (∀ y, gN tr ≤ y → y < 216 → M.1 16 y = 0) ∧ (∀ b, b ≠ 1 → b ≠ 14 → b ≠ 15 → b ≠ 16 → M.1 b = J b) ∧ ∀ k, k ≠ 25 → M.1 1 k = J 1 k) (fun M => some M.1) (by omega) (fun n k M hk hP => by
    obtain ⟨p1, p2, p3, p4, p5, p6, p7, p8, p9⟩ := hP
    obtain ⟨x, hx⟩ := p3
    have hdx := p2 x hx
    have hex2 : ∃ a, a < 3 ∧ ∃ y, nxH A d tr M.2.1 a (len - k - 1) y := Spl_go hD (here := fun x => M.2.1 x = true) (left := len - k - 1) (by omega) hx (p1.2.2.2.1 x hx).1 (by omega)
    obtain ⟨a, J2, e2, ha, hy, hmin, q1, q2, q3⟩ := e_spells15 hw p1 (len := len) (k := k) (left := len - k - 1) (by omega) (by omega) hex2 (fun (v8 : Int32) (J9 : am_I) => am_ck (am_inb (nI k) 216) (am_let (am_upI J9 (rM 1 22) (Int32.toNatClampNeg (nI k)) v8) (fun J11 => lX11_spells_47 rM 1 (nI len) (bI tr) (nI k) (fun (J13 : am_I) => lX11_spells_7 rM 1 (nI len) (bI tr) n (nI k + (1 : Int32)) J13) am_fu (0 : Int32) J11)))
    generalize hJ3 : am_upI J2 14 k (nI a) = J3
    have c16 : J3 16 = J2 16 := by rw [← hJ3, am_upI_ne (by decide)]
    have hb : ∀ x, x < 216 → ∃ b, J3 16 x = bI b := fun x hx => by
      rw [c16]
      by_cases g : x < gN tr
      · exact ⟨_, q1 x g⟩
      · exact ⟨false, by rw [q2 x (by omega), p7 x (by omega) hx]; rfl⟩
    have e47 := e_spells47 (nI len) (bI tr) (nI k) (fun (J13 : am_I) => lX11_spells_7 rM 1 (nI len) (bI tr) n (nI k + (1 : Int32)) J13) hb
    generalize hJ4 : filI J3 15 0 216 (fun i => J3 16 i) = J4 at e47
    have f15 : ∀ x, x < 216 → J4 15 x = J2 16 x := fun x hx => by rw [← hJ4, filI_at hx, c16]
    have fo : ∀ b, b ≠ 14 → b ≠ 15 → b ≠ 16 → J4 b = M.1 b := fun b x y z => by rw [← hJ4, filI_ne y, ← hJ3, am_upI_ne x]; exact q3 b z
    have f16 : J4 16 = J2 16 := by rw [← hJ4, filI_ne (by decide), c16]
    have f14 : ∀ i, J4 14 i = if i = k then nI a else M.1 14 i := fun i => by
      rw [← hJ4, filI_ne (by decide), ← hJ3]
      by_cases g : i = k
      · rw [if_pos g, g, am_upI_s]
      · rw [if_neg g, am_upI_o g, q3 14 (by decide)]
    obtain ⟨s1, s2, s3, s4, s5⟩ := p1
    refine ⟨(J4, (fun y => if y < 216 then dcd (nxH A d tr M.2.1 a (len - k - 1) y) else false), M.2.2 ++ [a]), ?_, ⟨?_, ?_, ?_, ?_, s5⟩, ?_, ?_, ?_, ?_, ?_, ?_, ?_, ?_⟩
    · show sX11_spells_7 rM 1 (nI len) (bI tr) (lX11_spells_7 rM 1 (nI len) (bI tr) n) (nI k) M.1 = _
      unfold sX11_spells_7
      rw [if_neg (nIge hk (by omega))]
      simp only [am_jn_e]
      refine Eq.trans e2 ?_
      rw [inb (show k < 216 by omega) (by omega), am_ck_true, am_let_e, rM22, nIcl (show k < 1000000 by omega), hJ3, e47, nI_1]
    · exact s1.kept (fun q _ _ => by dsimp only; rw [fo 1 (by decide) (by decide) (by decide)]) (fo 2 (by decide) (by decide) (by decide))
    · intro x hx; dsimp only; rw [fo 12 (by decide) (by decide) (by decide)]; exact s2 x hx
    · intro x hx
      show J4 15 x = bI (if x < 216 then dcd (nxH A d tr M.2.1 a (len - k - 1) x) else false)
      rw [if_pos hx, f15 x hx]
      by_cases g : x < gN tr
      · exact q1 x g
      · rw [q2 x (by omega), p7 x (by omega) hx, dcd_neg (fun h : nxH A d tr M.2.1 a (len - k - 1) x => g h.1)]; rfl
    · intro x hx
      have hx : (if x < 216 then dcd (nxH A d tr M.2.1 a (len - k - 1) x) else false) = true := hx
      by_cases g : x < 216
      · rw [if_pos g] at hx
        obtain ⟨g1, g2, z, g3, g4, g5⟩ := dcd_t.mp hx
        exact ⟨g1, fun ht => hval a z x g5 g1 (by omega) ht⟩
      · rw [if_neg g] at hx; cases hx
    · intro x hx
      have hx : (if x < 216 then dcd (nxH A d tr M.2.1 a (len - k - 1) x) else false) = true := hx
      by_cases g : x < 216
      · rw [if_pos g] at hx
        have := (dcd_t.mp hx).2.1
        omega
      · rw [if_neg g] at hx; cases hx
    · obtain ⟨y, hy⟩ := hy
      refine ⟨y, ?_⟩
      show (if y < 216 then dcd (nxH A d tr M.2.1 a (len - k - 1) y) else false) = true
      rw [if_pos (by have := hy.1; omega)]
      exact dcd_pos hy
    · show (M.2.2 ++ [a]).length = k + 1
      rw [List.length_append, p4]; rfl
    · intro i hi
      show J4 14 i = nI ((M.2.2 ++ [a]).getD i 0)
      rw [f14 i]
      by_cases g : i = k
      · rw [if_pos g, g]
        congr 1
        rw [List.getD_eq_getElem?_getD, List.getElem?_append_right (by omega), p4, Nat.sub_self]; rfl
      · rw [if_neg g, p5 i (by omega)]
        congr 1
        rw [List.getD_eq_getElem?_getD, List.getD_eq_getElem?_getD, List.getElem?_append_left (by omega)]
    · intro rest hrl hsp
      show Spl (gN tr) (gE A tr) d (fun x => hr x = true) ((M.2.2 ++ [a]) ++ rest)
      rw [List.append_assoc]
      refine p6 (a :: rest) (by rw [List.length_cons]; omega) ?_
      have hrl2 : rest.length = len - k - 1 := by omega
      refine ⟨ha, ?_, ?_, ?_⟩
      · rw [hrl2]; exact hy
      · rw [hrl2]; exact hmin
      · rw [hrl2]
        have : (fun x => (if x < 216 then dcd (nxH A d tr M.2.1 a (len - k - 1) x) else false) = true) = nxt (gN tr) (gE A tr) d (fun x => M.2.1 x = true) a (len - k - 1) := by
          funext x
          apply propext
          by_cases g : x < 216
          · rw [if_pos g, dcd_t]; exact Iff.rfl
          · rw [if_neg g]
            exact ⟨fun h => (by cases h), fun h => (by have h2 : x < gN tr := h.1; omega)⟩
        rw [← this]; exact hsp
    · intro y hy1 hy2
      show J4 16 y = 0
      rw [f16, q2 y hy1]; exact p7 y hy1 hy2
    · intro b x y z t
      dsimp only
      rw [fo b y z t]; exact p8 b x y z t
    · intro q hq
      dsimp only
      rw [fo 1 (by decide) (by decide) (by decide)]; exact p9 q hq) (fun n M _ => by
    show sX11_spells_7 rM 1 (nI len) (bI tr) (lX11_spells_7 rM 1 (nI len) (bI tr) n) (nI len) M.1 = _
    unfold sX11_spells_7
    rw [if_pos (nIle (by omega))]) (am_upI J 1 25 (nI len), hr, []) ⟨⟨isM_1 hS.1 (by omega) _, fun x hx => by dsimp only; rw [am_upI_ne (by decide)]; exact hS.2.1 x hx, fun x hx => by dsimp only; rw [am_upI_ne (by decide)]; exact hS.2.2.1 x hx, hS.2.2.2.1, hS.2.2.2.2⟩, hh, hex, rfl, fun i hi => absurd hi (Nat.not_lt_zero i), fun rest _ h => h, fun y a b => by dsimp only; rw [am_upI_ne (by decide)]; exact h16 y a b, fun b x _ _ _ => by dsimp only; exact am_upI_ne x, fun k hk => by dsimp only; exact am_upI_o hk⟩
  refine ⟨pre, J', e, h4, ?_, h5, h8, h9⟩
  have := h6 [] (by simp) trivial
  rwa [List.append_nil] at this
end
