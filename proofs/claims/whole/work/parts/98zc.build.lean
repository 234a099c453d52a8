/-! constructions: what both sides make -/
section
variable {A : am_Au}
abbrev am_Ky : Type := Nat × Int32
abbrev am_Kt : Type := Nat × (Nat → Nat × Int32)
abbrev am_Bd : Type := am_Kt × (Nat → Int64)
def addK (S : am_Kt) (y : am_Ky) : am_Kt := (S.1 + 1, fun k => if k = S.1 then y else S.2 k)
noncomputable def idx (S : am_Kt) (y : am_Ky) : Nat := @dite _ (∃ k, k < S.1 ∧ S.2 k = y) (Classical.propDecidable _) (fun h => Classical.choose h) (fun _ => 0)
noncomputable def nmb (S : am_Kt) (y : am_Ky) : Option (Nat × am_Kt) := if dcd (∃ k, k < S.1 ∧ S.2 k = y) = true then some (idx S y, S) else if S.1 = 64 then none else some (S.1, addK S y)
def dj (S : am_Kt) : Prop := ∀ j k, j < S.1 → k < S.1 → S.2 j = S.2 k → j = k
def okY (y : am_Ky) : Prop := y.1 < 6 ∧ lon 6 y.2
def okT (S : am_Kt) : Prop := dj S ∧ S.1 ≤ 64 ∧ ∀ k, k < S.1 → okY (S.2 k)
def exK (S S' : am_Kt) : Prop := S.1 ≤ S'.1 ∧ ∀ k, k < S.1 → S'.2 k = S.2 k
theorem exK.rf (S : am_Kt) : exK S S := ⟨Nat.le_refl _, fun _ _ => rfl⟩
theorem exK.tr {S S1 S2 : am_Kt} (h : exK S S1) (g : exK S1 S2) : exK S S2 := ⟨Nat.le_trans h.1 g.1, fun k hk => (g.2 k (Nat.lt_of_lt_of_le hk h.1)).trans (h.2 k hk)⟩
theorem exK.add (S : am_Kt) (y : am_Ky) : exK S (addK S y) := ⟨Nat.le_succ _, fun k hk => if_neg (by omega)⟩
theorem nmb_old {S : am_Kt} {y : am_Ky} {k : Nat} (hd : dj S) (hk : k < S.1) (e : S.2 k = y) : nmb S y = some (k, S) := by
  have h : ∃ k, k < S.1 ∧ S.2 k = y := ⟨k, hk, e⟩
  unfold nmb
  rw [dcdT h, if_pos rfl]
  have hi : idx S y = k := by
    unfold idx
    rw [dif_pos h]
    obtain ⟨a, b⟩ := Classical.choose_spec h
    exact hd _ _ a hk (b.trans e.symm)
  rw [hi]
theorem nmb_new {S : am_Kt} {y : am_Ky} (h : ∀ k, k < S.1 → S.2 k ≠ y) (h64 : S.1 ≠ 64) : nmb S y = some (S.1, addK S y) := by
  unfold nmb
  rw [dcdF (fun ⟨k, a, b⟩ => h k a b), if_neg (show ¬ false = true by decide), if_neg h64]
theorem nmb_full {S : am_Kt} {y : am_Ky} (h : ∀ k, k < S.1 → S.2 k ≠ y) (h64 : S.1 = 64) : nmb S y = none := by
  unfold nmb
  rw [dcdF (fun ⟨k, a, b⟩ => h k a b), if_neg (show ¬ false = true by decide), if_pos h64]
theorem okT.add {S : am_Kt} {y : am_Ky} (h : okT S) (hn : ∀ k, k < S.1 → S.2 k ≠ y) (h64 : S.1 ≠ 64) (hy : okY y) : okT (addK S y) := by
  obtain ⟨h1, h2, h3⟩ := h
  have val : ∀ k, (addK S y).2 k = if k = S.1 then y else S.2 k := fun _ => rfl
  refine ⟨fun j k hj hk e => ?_, by show S.1 + 1 ≤ 64; omega, fun k hk => ?_⟩
  · have hj : j < S.1 + 1 := hj
    have hk : k < S.1 + 1 := hk
    rw [val, val] at e
    by_cases q : j = S.1
    · by_cases g : k = S.1
      · omega
      · rw [if_pos q, if_neg g] at e
        exact absurd e.symm (hn k (by omega))
    · by_cases g : k = S.1
      · rw [if_neg q, if_pos g] at e
        exact absurd e (hn j (by omega))
      · rw [if_neg q, if_neg g] at e
        exact h1 j k (by omega) (by omega) e
  · have hk : k < S.1 + 1 := hk
    rw [val]
    by_cases q : k = S.1
    · rw [if_pos q]; exact hy
    · rw [if_neg q]; exact h3 k (by omega)
theorem nmb_cases {S : am_Kt} {y : am_Ky} (h : okT S) (hy : okY y) : (∃ k, k < S.1 ∧ S.2 k = y ∧ nmb S y = some (k, S)) ∨ ((∀ k, k < S.1 → S.2 k ≠ y) ∧ S.1 < 64 ∧ nmb S y = some (S.1, addK S y) ∧ okT (addK S y)) ∨ ((∀ k, k < S.1 → S.2 k ≠ y) ∧ S.1 = 64 ∧ nmb S y = none) := by
  by_cases q : ∃ k, k < S.1 ∧ S.2 k = y
  · obtain ⟨k, a, b⟩ := q
    exact Or.inl ⟨k, a, b, nmb_old h.1 a b⟩
  · have hn : ∀ k, k < S.1 → S.2 k ≠ y := fun k a b => q ⟨k, a, b⟩
    have := h.2.1
    by_cases g : S.1 = 64
    · exact Or.inr (Or.inr ⟨hn, g, nmb_full hn g⟩)
    · exact Or.inr (Or.inl ⟨hn, by omega, nmb_new hn g, h.add hn g hy⟩)
def bit1 (i : Nat) : Int64 := (1 : Int64) <<< (Int32.toInt64 (nI i) &&& 63)
theorem btl_bit1 {i j : Nat} (hi : i < 64) (hj : j < 64) : btl (bit1 i) j = decide (j = i) := btl_1s i hi j hj
theorem bit1_ne {i : Nat} (hi : i < 64) : ¬ lg_cmp (bit1 i) 0 = 0 := fun h => by
  have h := lg_cmp0.mp h
  have h2 := btl_bit1 hi hi
  rw [h, btl_zero] at h2
  rw [decide_eq_true rfl] at h2
  cases h2
def blw (x : Int32) (r : Nat) : Int32 := x &&& (((1 : Int32) <<< (nI r &&& 31)) - (1 : Int32))
theorem blw_bit : ∀ r, r < 6 → ∀ k, k < 32 → bt (((1 : Int32) <<< (nI r &&& 31)) - (1 : Int32)) k = decide (k < r) := by decide +kernel
theorem bt_blw {x : Int32} {r k : Nat} (hr : r < 6) : bt (blw x r) k = true ↔ bt x k = true ∧ k < r := by
  unfold blw
  rw [bt_and, Bool.and_eq_true]
  by_cases hk : k < 32
  · rw [blw_bit r hr k hk, decide_eq_true_iff]
  · rw [bt_ge x (by omega)]
    exact ⟨fun h => (by cases h.1), fun h => (by cases h.1)⟩
theorem lon_blw {x : Int32} {r : Nat} (h : lon 6 x) : lon 6 (blw x r) := fun k hk => by
  unfold blw
  rw [bt_and, h k hk]; rfl
/-- the pairs of the targets from 6 - k on -/
noncomputable def prs (to l : Int32) : Nat → Int64 → am_Kt → Option (Int64 × am_Kt)
  | 0, b, S => some (b, S)
  | k + 1, b, S => if bt to (5 - k) = true then Option.bind (nmb S (5 - k, l ||| blw to (5 - k))) (fun p => prs to l k (b ||| bit1 p.1) p.2) else prs to l k b S
noncomputable def oneK (c : Nat) (A : am_Au) (y : am_Ky) (a : Nat) (S : am_Kt) : Option (Int64 × am_Kt) :=
  if c = 0 then (if stp A y.2 a = 0 then some (0, S) else Option.bind (nmb S (0, stp A y.2 a)) (fun p => some (bit1 p.1, p.2)))
  else prs (A.2.2.2 a y.1) (stp A y.2 a) 6 0 S
def updT (t : Nat → Int64) (k : Nat) (v : Int64) : Nat → Int64 := fun x => if x = k then v else t x
noncomputable def ltb (c : Nat) (A : am_Au) (r : Nat) : Nat → am_Bd → Option am_Bd
  | 0, B => some B
  | k + 1, B => Option.bind (oneK c A (B.1.2 r) (2 - k) B.1) (fun p => ltb c A r k (p.2, updT B.2 (3 * r + (2 - k)) p.1))
noncomputable def bld (c : Nat) (A : am_Au) : Nat → Nat → am_Bd → Option am_Bd
  | 0, _, B => some B
  | k + 1, r, B => if B.1.1 ≤ r then some B else Option.bind (ltb c A r 3 B) (fun B' => bld c A k (r + 1) B')
def noK : am_Kt := (0, fun _ => (0, 0))
noncomputable def st0K (c : Nat) (A : am_Au) : Option (Int64 × am_Kt) := if c = 0 then (if A.2.1 = 0 then some (0, noK) else some (bit1 0, addK noK (0, A.2.1))) else prs A.2.1 0 6 0 noK
def fkey (c : Nat) (A : am_Au) (y : am_Ky) : Bool := if c = 0 then !decide (y.2 &&& A.2.2.1 = 0) else (bt A.2.2.1 y.1 && decide (y.2 &&& A.2.2.1 = 0))
def fns (c : Nat) (A : am_Au) (S : am_Kt) : Int64 := am_to (fun k v => v ||| (if fkey c A (S.2 k) = true then bit1 k else 0)) S.1 0
/-! which keys a set of bits tells -/
def covK (S : am_Kt) (P : am_Ky → Prop) (b : Int64) : Prop := (∀ j, j < 64 → (btl b j = true ↔ j < S.1 ∧ P (S.2 j))) ∧ ∀ y, P y → ∃ j, j < S.1 ∧ S.2 j = y
theorem covK.ex {S S' : am_Kt} {P : am_Ky → Prop} {b : Int64} (h : covK S P b) (e : exK S S') (hd : dj S') : covK S' P b := by
  refine ⟨fun j hj => (h.1 j hj).trans ⟨fun ⟨a, p⟩ => ⟨Nat.lt_of_lt_of_le a e.1, by rw [e.2 j a]; exact p⟩, fun ⟨a, p⟩ => ?_⟩, fun y hy => ?_⟩
  · obtain ⟨i, hi, q⟩ := h.2 _ p
    have : j = i := hd j i a (Nat.lt_of_lt_of_le hi e.1) (by rw [e.2 i hi]; exact q.symm)
    subst this
    refine ⟨hi, ?_⟩
    rw [← e.2 j hi]; exact p
  · obtain ⟨i, hi, q⟩ := h.2 y hy
    exact ⟨i, Nat.lt_of_lt_of_le hi e.1, by rw [e.2 i hi]; exact q⟩
theorem covK.cg {S : am_Kt} {P Q : am_Ky → Prop} {b : Int64} (h : covK S P b) (e : ∀ y, P y ↔ Q y) : covK S Q b := ⟨fun j hj => (h.1 j hj).trans ⟨fun ⟨a, p⟩ => ⟨a, (e _).mp p⟩, fun ⟨a, p⟩ => ⟨a, (e _).mpr p⟩⟩, fun y hy => h.2 y ((e y).mpr hy)⟩
/-- one key more -/
theorem covK.nmb {S : am_Kt} {P : am_Ky → Prop} {b : Int64} {y : am_Ky} {i : Nat} {S' : am_Kt} (h : covK S P b) (ok : okT S) (hy : okY y) (e : nmb S y = some (i, S')) : exK S S' ∧ okT S' ∧ i < S'.1 ∧ i < 64 ∧ covK S' (fun z => P z ∨ z = y) (b ||| bit1 i) := by
  have fin : ∀ {S' : am_Kt} {i : Nat}, exK S S' → okT S' → i < S'.1 → S'.2 i = y → covK S' (fun z => P z ∨ z = y) (b ||| bit1 i) := fun {S' i} ex ok' hi hiy => by
    have h' := h.ex ex ok'.1
    have h64 := ok'.2.1
    refine ⟨fun j hj => ?_, fun z hz => ?_⟩
    · rw [btl_or, Bool.or_eq_true, h'.1 j hj, btl_bit1 (show i < 64 by omega) hj, decide_eq_true_iff]
      constructor
      · rintro (⟨a, p⟩ | rfl)
        · exact ⟨a, Or.inl p⟩
        · exact ⟨hi, Or.inr hiy⟩
      · rintro ⟨a, p | p⟩
        · exact Or.inl ⟨a, p⟩
        · exact Or.inr (ok'.1 j i a hi (p.trans hiy.symm))
    · rcases hz with hz | rfl
      · exact h'.2 z hz
      · exact ⟨i, hi, hiy⟩
  have h64 := ok.2.1
  rcases nmb_cases ok hy with ⟨k, a1, a2, a3⟩ | ⟨a1, a2, a3, a4⟩ | ⟨_, _, a3⟩
  · rw [a3] at e
    cases e
    exact ⟨exK.rf S, ok, a1, by omega, fin (exK.rf S) ok a1 a2⟩
  · rw [a3] at e
    cases e
    exact ⟨exK.add S y, a4, Nat.lt_succ_self _, by omega, fin (exK.add S y) a4 (Nat.lt_succ_self _) (if_pos rfl)⟩
  · rw [a3] at e; cases e
theorem prs_spec {to l : Int32} (hto : lon 6 to) (hl : lon 6 l) : ∀ (k : Nat) (b : Int64) (S : am_Kt) (b' : Int64) (S' : am_Kt), k ≤ 6 → okT S → covK S (fun y => ∃ r, r < 6 - k ∧ bt to r = true ∧ y = (r, l ||| blw to r)) b → prs to l k b S = some (b', S') →
    exK S S' ∧ okT S' ∧ covK S' (fun y => ∃ r, r < 6 ∧ bt to r = true ∧ y = (r, l ||| blw to r)) b'
  | 0, b, S, b', S', _, ok, h, e => by
    cases e
    exact ⟨exK.rf S, ok, h⟩
  | k + 1, b, S, b', S', hk, ok, h, e => by
    have e : (if bt to (5 - k) = true then Option.bind (nmb S (5 - k, l ||| blw to (5 - k))) (fun p => prs to l k (b ||| bit1 p.1) p.2) else prs to l k b S) = some (b', S') := e
    by_cases q : bt to (5 - k) = true
    · rw [if_pos q] at e
      cases e2 : nmb S (5 - k, l ||| blw to (5 - k)) with
      | none => rw [e2] at e; cases e
      | some p =>
        obtain ⟨i, S1⟩ := p
        rw [e2, am_bd] at e
        obtain ⟨x1, x2, _, _, x3⟩ := h.nmb ok (show okY (5 - k, l ||| blw to (5 - k)) from ⟨by show 5 - k < 6; omega, lon_or hl (lon_blw hto)⟩) e2
        obtain ⟨y1, y2, y3⟩ := prs_spec hto hl k _ S1 b' S' (by omega) x2 (x3.cg (fun y => by
          constructor
          · rintro (⟨r, a1, a2⟩ | rfl)
            · exact ⟨r, by omega, a2⟩
            · exact ⟨5 - k, by omega, q, rfl⟩
          · rintro ⟨r, a1, a2, a3⟩
            by_cases g : r = 5 - k
            · subst g; exact Or.inr a3
            · exact Or.inl ⟨r, by omega, a2, a3⟩)) e
        exact ⟨x1.tr y1, y2, y3⟩
    · rw [if_neg q] at e
      exact prs_spec hto hl k b S b' S' (by omega) ok (h.cg (fun y => by
        constructor
        · rintro ⟨r, a1, a2⟩
          exact ⟨r, by omega, a2⟩
        · rintro ⟨r, a1, a2, a3⟩
          by_cases g : r = 5 - k
          · subst g; exact absurd a2 q
          · exact ⟨r, by omega, a2, a3⟩)) e
theorem covK.no (S : am_Kt) : covK S (fun _ => False) 0 := ⟨fun j _ => by rw [btl_zero]; exact ⟨fun h => (by cases h), fun h => h.2.elim⟩, fun _ h => h.elim⟩
/-- the keys behind a key -/
def sucK (c : Nat) (A : am_Au) (y : am_Ky) (a : Nat) (z : am_Ky) : Prop := if c = 0 then stp A y.2 a ≠ 0 ∧ z = (0, stp A y.2 a) else ∃ r, r < 6 ∧ bt (A.2.2.2 a y.1) r = true ∧ z = (r, stp A y.2 a ||| blw (A.2.2.2 a y.1) r)
def iniK (c : Nat) (A : am_Au) (z : am_Ky) : Prop := if c = 0 then A.2.1 ≠ 0 ∧ z = (0, A.2.1) else ∃ r, r < 6 ∧ bt A.2.1 r = true ∧ z = (r, 0 ||| blw A.2.1 r)
theorem lon_T6 (hw : aw A) (a s : Nat) : lon 6 (A.2.2.2 a s) := fun k hk => hw.2.2.2.1 a s k (Nat.le_trans hw.2.1 hk)
theorem lon_ini (hw : aw A) : lon 6 A.2.1 := fun k hk => (hw.2.2.1 k (Nat.le_trans hw.2.1 hk)).1
theorem lon_fin (hw : aw A) : lon 6 A.2.2.1 := fun k hk => (hw.2.2.1 k (Nat.le_trans hw.2.1 hk)).2
theorem lon_st (hw : aw A) (x : Int32) (a : Nat) : lon 6 (stp A x a) := (lon_stp hw x a).le hw.2.1
theorem oneK_spec (hw : aw A) {c a : Nat} {y : am_Ky} {S S' : am_Kt} {b : Int64} (ok : okT S) (e : oneK c A y a S = some (b, S')) : exK S S' ∧ okT S' ∧ covK S' (sucK c A y a) b := by
  unfold oneK at e
  by_cases hc : c = 0
  · rw [if_pos hc] at e
    by_cases q : stp A y.2 a = 0
    · rw [if_pos q] at e
      cases e
      exact ⟨exK.rf S, ok, (covK.no S).cg (fun z => by
        unfold sucK
        rw [if_pos hc]
        exact ⟨fun h => h.elim, fun h => h.1 q⟩)⟩
    · rw [if_neg q] at e
      cases e2 : nmb S (0, stp A y.2 a) with
      | none => rw [e2] at e; cases e
      | some p =>
        obtain ⟨i, S1⟩ := p
        rw [e2, am_bd] at e
        cases e
        obtain ⟨x1, x2, _, _, x3⟩ := (covK.no S).nmb ok (show okY (0, stp A y.2 a) from ⟨(show (0 : Nat) < 6 by omega), lon_st hw _ _⟩) e2
        refine ⟨x1, x2, ?_⟩
        rw [show (0 : Int64) ||| bit1 i = bit1 i from Int64.zero_or] at x3
        exact x3.cg (fun z => by
          unfold sucK
          rw [if_pos hc]
          exact ⟨fun h => ⟨q, h.resolve_left id⟩, fun h => Or.inr h.2⟩)
  · rw [if_neg hc] at e
    obtain ⟨x1, x2, x3⟩ := prs_spec (lon_T6 hw a y.1) (lon_st hw y.2 a) 6 0 S b S' (Nat.le_refl _) ok ((covK.no S).cg (fun z => ⟨fun h => h.elim, fun ⟨r, hr, _⟩ => absurd hr (Nat.not_lt_zero r)⟩)) e
    refine ⟨x1, x2, x3.cg (fun z => ?_)⟩
    unfold sucK
    rw [if_neg hc]
theorem okT_no : okT noK := ⟨fun j k hj => absurd hj (Nat.not_lt_zero j), Nat.zero_le _, fun k hk => absurd hk (Nat.not_lt_zero k)⟩
theorem st0K_spec (hw : aw A) {c : Nat} {S : am_Kt} {b : Int64} (e : st0K c A = some (b, S)) : okT S ∧ covK S (iniK c A) b := by
  unfold st0K at e
  by_cases hc : c = 0
  · rw [if_pos hc] at e
    by_cases q : A.2.1 = 0
    · rw [if_pos q] at e
      cases e
      exact ⟨okT_no, (covK.no noK).cg (fun z => by
        unfold iniK
        rw [if_pos hc]
        exact ⟨fun h => h.elim, fun h => h.1 q⟩)⟩
    · rw [if_neg q] at e
      cases e
      have hn : ∀ k, k < noK.1 → noK.2 k ≠ (0, A.2.1) := fun k hk => absurd hk (Nat.not_lt_zero k)
      have e2 : nmb noK (0, A.2.1) = some (0, addK noK (0, A.2.1)) := nmb_new hn (by decide)
      obtain ⟨_, x2, _, _, x3⟩ := (covK.no noK).nmb okT_no (show okY (0, A.2.1) from ⟨(show (0 : Nat) < 6 by omega), lon_ini hw⟩) e2
      rw [show (0 : Int64) ||| bit1 0 = bit1 0 from Int64.zero_or] at x3
      exact ⟨x2, x3.cg (fun z => by
        unfold iniK
        rw [if_pos hc]
        exact ⟨fun h => ⟨q, h.resolve_left id⟩, fun h => Or.inr h.2⟩)⟩
  · rw [if_neg hc] at e
    obtain ⟨_, x2, x3⟩ := prs_spec (lon_ini hw) (lon0 6) 6 0 noK b S (Nat.le_refl _) okT_no ((covK.no noK).cg (fun z => ⟨fun h => h.elim, fun ⟨r, hr, _⟩ => absurd hr (Nat.not_lt_zero r)⟩)) e
    refine ⟨x2, x3.cg (fun z => ?_)⟩
    unfold iniK
    rw [if_neg hc]
/-- the targets below w are right -/
def BIK (c : Nat) (A : am_Au) (B : am_Bd) (w : Nat) : Prop := okT B.1 ∧ ∀ k a, a < 3 → 3 * k + a < w → k < B.1.1 ∧ covK B.1 (sucK c A (B.1.2 k) a) (B.2 (3 * k + a))
theorem ltb_spec (hw : aw A) {c r : Nat} : ∀ (k : Nat) (B B' : am_Bd), k ≤ 3 → r < B.1.1 → BIK c A B (3 * r + (3 - k)) → ltb c A r k B = some B' → exK B.1 B'.1 ∧ BIK c A B' (3 * r + 3) ∧ ∀ x, x < 3 * r + (3 - k) → B'.2 x = B.2 x
  | 0, B, B', _, _, h, e => by cases e; exact ⟨exK.rf _, h, fun _ _ => rfl⟩
  | k + 1, B, B', hk, hr, h, e => by
    have e : Option.bind (oneK c A (B.1.2 r) (2 - k) B.1) (fun p => ltb c A r k (p.2, updT B.2 (3 * r + (2 - k)) p.1)) = some B' := e
    cases e2 : oneK c A (B.1.2 r) (2 - k) B.1 with
    | none => rw [e2] at e; cases e
    | some p =>
      obtain ⟨b, S1⟩ := p
      rw [e2, am_bd] at e
      obtain ⟨x1, x2, x3⟩ := oneK_spec hw h.1 e2
      obtain ⟨y1, y2, y3⟩ := ltb_spec hw k (S1, updT B.2 (3 * r + (2 - k)) b) B' (by omega) (Nat.lt_of_lt_of_le hr x1.1) ⟨x2, fun k' a ha hlt => by
        show k' < S1.1 ∧ covK S1 (sucK c A (S1.2 k') a) (updT B.2 (3 * r + (2 - k)) b (3 * k' + a))
        by_cases q : 3 * k' + a = 3 * r + (2 - k)
        · have qk : k' = r := by omega
          have qa : a = 2 - k := by omega
          have : updT B.2 (3 * r + (2 - k)) b (3 * k' + a) = b := if_pos q
          rw [this, qk, qa, x1.2 r hr]
          exact ⟨Nat.lt_of_lt_of_le hr x1.1, x3⟩
        · have : updT B.2 (3 * r + (2 - k)) b (3 * k' + a) = B.2 (3 * k' + a) := if_neg q
          obtain ⟨z1, z2⟩ := h.2 k' a ha (by omega)
          rw [this, x1.2 k' z1]
          exact ⟨Nat.lt_of_lt_of_le z1 x1.1, z2.ex x1 x2.1⟩⟩ e
      refine ⟨x1.tr y1, y2, fun x hx => (y3 x (by omega)).trans (if_neg (by omega))⟩
theorem bld_spec (hw : aw A) {c : Nat} : ∀ (k r : Nat) (B B' : am_Bd), k + r = 65 → r ≤ B.1.1 → BIK c A B (3 * r) → bld c A k r B = some B' → exK B.1 B'.1 ∧ BIK c A B' (3 * B'.1.1)
  | 0, r, B, B', hk, hr, h, _ => by
    have := h.1.2.1
    omega
  | k + 1, r, B, B', hk, hr, h, e => by
    have e : (if B.1.1 ≤ r then some B else Option.bind (ltb c A r 3 B) (fun B' => bld c A k (r + 1) B')) = some B' := e
    by_cases q : B.1.1 ≤ r
    · rw [if_pos q] at e
      cases e
      have : r = B.1.1 := by omega
      rw [this] at h
      exact ⟨exK.rf _, h⟩
    · rw [if_neg q] at e
      cases e2 : ltb c A r 3 B with
      | none => rw [e2] at e; cases e
      | some B1 =>
        rw [e2, am_bd] at e
        obtain ⟨x1, x2, _⟩ := ltb_spec hw 3 B B1 (Nat.le_refl _) (by omega) h e2
        obtain ⟨y1, y2⟩ := bld_spec hw k (r + 1) B1 B' (by omega) (by have := x1.1; omega) (by rw [show 3 * (r + 1) = 3 * r + 3 by omega]; exact x2) e
        exact ⟨x1.tr y1, y2⟩
end
