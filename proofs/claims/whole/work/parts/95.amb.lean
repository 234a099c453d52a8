/-! the reference: the first ambiguous word -/
def finA (A : am_Au) (s : Nat) : Bool := bt A.2.2.1 s
theorem finA_lt {A : am_Au} (hw : aw A) {t : Nat} (h : finA A t = true) : t < A.1 := Nat.lt_of_not_le fun g => by
  rw [show finA A t = bt A.2.2.1 t from rfl, (hw.2.2.1 t g).2] at h
  cases h
theorem iniA_lt {A : am_Au} (hw : aw A) {t : Nat} (h : bt A.2.1 t = true) : t < A.1 := Nat.lt_of_not_le fun g => by
  rw [(hw.2.2.1 t g).1] at h
  cases h
theorem fpN_sum {A : am_Au} {fin : Nat → Bool} (hf : ∀ t, fin t = true → t < A.1) : ∀ w s, fpN A fin w s = sumN (fun t => if fin t = true then pn A w s t else 0) A.1
  | [], s => by
    show (if fin s = true then 1 else 0) = sumN (fun t => if fin t = true then (if s = t then 1 else 0) else 0) A.1
    by_cases h : fin s = true
    · rw [if_pos h, sumN_one (k := s) A.1 (hf s h) (fun i _ hi => by
        by_cases g : fin i = true
        · rw [if_pos g, if_neg (fun e => hi e.symm)]
        · rw [if_neg g]), if_pos h, if_pos rfl]
    · rw [if_neg h]
      refine Eq.symm (Eq.trans (sumN_congr (g := fun _ => 0) A.1 fun i _ => ?_) (sumN_zero A.1))
      by_cases g : fin i = true
      · rw [if_pos g, if_neg (fun e => h (by rw [e]; exact g))]
      · rw [if_neg g]
  | a :: w, s => by
    show sumN (fun u => if bt (A.2.2.2 a s) u = true then fpN A fin w u else 0) A.1 = sumN (fun t => if fin t = true then sumN (fun u => if bt (A.2.2.2 a s) u = true then pn A w u t else 0) A.1 else 0) A.1
    have e1 : ∀ u, u < A.1 → (if bt (A.2.2.2 a s) u = true then fpN A fin w u else 0) = sumN (fun t => if fin t = true then (if bt (A.2.2.2 a s) u = true then pn A w u t else 0) else 0) A.1 := fun u _ => by
      by_cases h : bt (A.2.2.2 a s) u = true
      · rw [if_pos h, fpN_sum hf w u]
        exact sumN_congr A.1 fun t _ => by rw [if_pos h]
      · rw [if_neg h]
        refine Eq.symm (Eq.trans (sumN_congr (g := fun _ => 0) A.1 fun t _ => ?_) (sumN_zero A.1))
        rw [if_neg h, ite_self]
    rw [sumN_congr A.1 e1, sumN_swap]
    refine sumN_congr A.1 fun t _ => ?_
    by_cases h : fin t = true
    · rw [if_pos h]
      exact sumN_congr A.1 fun u _ => by rw [if_pos h]
    · rw [if_neg h]
      refine Eq.trans (sumN_congr (g := fun _ => 0) A.1 fun u _ => ?_) (sumN_zero A.1)
      rw [if_neg h]
theorem acn_fp {A : am_Au} (hw : aw A) (w : List Nat) : acn A w = sumN (fun s => if bt A.2.1 s = true then fpN A (finA A) w s else 0) A.1 := by
  show sumN (fun s => if bt A.2.1 s = true then sumN (fun t => if bt A.2.2.1 t = true then pn A w s t else 0) A.1 else 0) A.1 = _
  refine sumN_congr A.1 fun s _ => ?_
  rw [fpN_sum (fin := finA A) (fun t h => finA_lt hw h) w s]
  rfl
def stA (A : am_Au) (x : Nat) : Prop := ∃ p q, p < A.1 ∧ q < A.1 ∧ bt A.2.1 p = true ∧ bt A.2.1 q = true ∧ x = nP p q (decide (p ≠ q))
theorem dne_f (p : Nat) : decide (p ≠ p) = false := decide_eq_false (fun h => h rfl)
theorem dne_t {p q : Nat} (h : p ≠ q) : decide (p ≠ q) = true := decide_eq_true h
theorem stA_lt {A : am_Au} (hw : aw A) {x : Nat} (h : stA A x) : x < 72 := by
  have h6 := hw.2.1
  obtain ⟨p, q, hp, hq, _, _, rfl⟩ := h
  exact nP_lt (by omega) (by omega) _
theorem acn_ac {A : am_Au} (hw : aw A) {w : List Nat} (hwd : wdl w) : 2 ≤ acn A w ↔ ∃ x, stA A x ∧ acw 72 (edP A) (fiP (finA A)) x w := by
  have h6 := hw.2.1
  rw [acn_fp hw, sum2]
  constructor
  · rintro (⟨k, hk, g⟩ | ⟨k, l, hk, hl, hne, g1, g2⟩)
    · obtain ⟨e1, g⟩ := (ite1 (by decide)).mp g
      refine ⟨nP k k false, ⟨k, k, hk, hk, e1, e1, by rw [dne_f]⟩, ?_⟩
      exact ((acw_P hw _ w hwd k k (by omega) (by omega)).2).mpr g
    · obtain ⟨e1, g1⟩ := (ite1 (Nat.le_refl 1)).mp g1
      obtain ⟨e2, g2⟩ := (ite1 (Nat.le_refl 1)).mp g2
      refine ⟨nP k l true, ⟨k, l, hk, hl, e1, e2, by rw [dne_t hne]⟩, ?_⟩
      exact ((acw_P hw _ w hwd k l (by omega) (by omega)).1).mpr ⟨g1, g2⟩
  · rintro ⟨x, ⟨p, q, hp, hq, e1, e2, rfl⟩, hx⟩
    by_cases h : p = q
    · subst h
      rw [dne_f] at hx
      exact Or.inl ⟨p, hp, (ite1 (by decide)).mpr ⟨e1, ((acw_P hw _ w hwd p p (by omega) (by omega)).2).mp hx⟩⟩
    · rw [dne_t h] at hx
      obtain ⟨g1, g2⟩ := ((acw_P hw _ w hwd p q (by omega) (by omega)).1).mp hx
      exact Or.inr ⟨p, q, hp, hq, h, (ite1 (Nat.le_refl 1)).mpr ⟨e1, g1⟩, (ite1 (Nat.le_refl 1)).mpr ⟨e2, g2⟩⟩
/-- a node from which a word leads to an end isn't far from one -/
theorem isDst.lt {N : Nat} {ed : Nat → Nat → Nat → Prop} {F : Nat → Prop} {d : Nat → Nat} (hD : isDst N ed F d) (hN : N ≤ 900) : ∀ w x, x < N → wdl w → acw N ed F x w → d x < 1000
  | [], x, hx, hw, h => by
    have := hD.2 x hx [] hw h
    rw [List.length_nil] at this; omega
  | a :: w, x, hx, hw, ⟨y, hy, he, hF⟩ => by
    obtain ⟨ha, hw2⟩ := wdl_cons.mp hw
    obtain ⟨h1, v, h2, h3, h4⟩ := hD.1 y hy (isDst.lt hD hN w y hy hw2 hF)
    have := hD.2 x hx (a :: v) (wdl_cons.mpr ⟨ha, h2⟩) ⟨y, hy, he, h4⟩
    rw [List.length_cons] at this; omega
/-- the first word from a set of nodes -/
theorem fst_of {N : Nat} {ed : Nat → Nat → Nat → Prop} {F : Nat → Prop} {d : Nat → Nat} (hD : isDst N ed F d) {S here : Nat → Prop} (hS : ∀ x, S x → x < N) {best : Nat} (hb : ∀ x, S x → best ≤ d x) (hh : ∀ x, here x ↔ S x ∧ d x = best) (hex : ∃ x, here x) (hl : best < 1000) {w : List Nat} (hw : w.length = best) (hs : Spl N ed d here w) : isFst (fun v => wdl v ∧ ∃ x, S x ∧ acw N ed F x v) w := by
  obtain ⟨⟨h1, x, h2, h3⟩, h4⟩ := Spl_fst hD w here (by omega) (fun x hx => ⟨hS x ((hh x).mp hx).1, by rw [((hh x).mp hx).2, hw]⟩) hex hs
  refine ⟨⟨h1, x, ((hh x).mp h2).1, h3⟩, fun v hv => ?_⟩
  obtain ⟨g1, y, g2, g3⟩ := hv
  have u1 := hb y g2
  have u2 := hD.2 y (hS y g2) v g1 g3
  by_cases e : v.length = best
  · exact Or.inr ⟨by omega, h4 v g1 (by omega) ⟨y, (hh y).mpr ⟨g2, by omega⟩, g3⟩⟩
  · exact Or.inl (by omega)
section
variable {A : am_Au}
theorem e_pN1 {p q : Nat} (hp : p < 1000) (hq : q < 1000) : pX11_pairNode (nI p) (nI q) (1 : Int32) = some (nI (nP p q true)) := e_pN hp hq true
theorem e_pN0 {p q : Nat} (hp : p < 1000) (hq : q < 1000) : pX11_pairNode (nI p) (nI q) (0 : Int32) = some (nI (nP p q false)) := e_pN hp hq false
theorem e_epq {p q : Nat} (hp : p < 1000) (hq : q < 1000) : (if nI p = nI q then (0 : Int32) else 1) = bI (decide (p ≠ q)) := by
  by_cases g : p = q
  · rw [if_pos (by rw [g]), decide_eq_false (fun h => h g)]; rfl
  · rw [if_neg (fun h => g ((nI_eq (by omega) (by omega)).mp h)), decide_eq_true g]; rfl
theorem e_sA16 (hw : aw A) {p : Nat} (hp : p < A.1) {J : am_I} {s0 : am_Bs} {Dn : Nat → Prop} (hS : srM J A s0) (hB : B0 72 (fiP (finA A)) Dn s0) (j : am_I → Option (Int32 × am_I)) :
    ∃ J' s', lX11_spellAmbiguous_16 rM 1 (nI p) j am_fu (0 : Int32) J = j J' ∧ srM J' A s' ∧ B0 72 (fiP (finA A)) (fun y => Dn y ∨ ∃ q, q < A.1 ∧ finA A p = true ∧ finA A q = true ∧ y = nP p q true) s' ∧ sfr J J' := by
  have h6 := hw.2.1
  obtain ⟨⟨J', s'⟩, e, h1, h2, h3⟩ := am_for0 (fun n i (M : am_I × am_Bs) => lX11_spellAmbiguous_16 rM 1 (nI p) j n (nI i) M.1) A.1 (fun i M => srM M.1 A M.2 ∧ B0 72 (fiP (finA A)) (fun y => Dn y ∨ ∃ q, q < i ∧ finA A p = true ∧ finA A q = true ∧ y = nP p q true) M.2 ∧ sfr J M.1) (fun M => j M.1) (by omega) (fun n q M hq hP => by
    obtain ⟨p1, p2, p3⟩ := hP
    have h0 := p1.1.1
    have h5 := p1.1.2.2.1
    obtain ⟨v1, v2, v3⟩ := nP_v (p := p) (show q < 6 by omega) true
    have hx := nP_lt (show p < 6 by omega) (show q < 6 by omega) true
    have step : lX11_spellAmbiguous_16 rM 1 (nI p) j (n + 1) (nI q) M.1 = if finA A p = true then (if finA A q = true then Option.bind (pX11_reaches rM M.1 1 (nI (nP p q true)) (0 : Int32)) (fun r91 => lX11_spellAmbiguous_16 rM 1 (nI p) j n (nI (q + 1)) r91) else lX11_spellAmbiguous_16 rM 1 (nI p) j n (nI (q + 1)) M.1) else lX11_spellAmbiguous_16 rM 1 (nI p) j n (nI (q + 1)) M.1 := by
      show sX11_spellAmbiguous_16 rM 1 (nI p) j (lX11_spellAmbiguous_16 rM 1 (nI p) j n) (nI q) M.1 = _
      unfold sX11_spellAmbiguous_16 finA
      rw [h0, if_neg (nIge hq (by omega)), h5]
      simp only [e_hb _ (show p < 32 by omega), e_hb _ (show q < 32 by omega), am_bd, am_jn_e, bI0, ite_not, e_pN1 (show p < 1000 by omega) (show q < 1000 by omega), nI_1]
    by_cases g : finA A p = true ∧ finA A q = true
    · have hF : fiP (finA A) (nP p q true) := ⟨v3, by rw [v1]; exact g.1, by rw [v2]; exact g.2⟩
      obtain ⟨q1, q2⟩ := p2.put hx hF
      obtain ⟨J2, e2, q3, q4⟩ := e_reaches p1 (x := nP p q true) (f := 0) (by omega) (by omega) (fun hd => by have := q2 hd; omega)
      rw [nI_0] at e2
      refine ⟨(J2, rea 0 (nP p q true) M.2), ?_, q3, q1.mono (fun y hy => ?_), p3.tr q4⟩
      · show lX11_spellAmbiguous_16 rM 1 (nI p) j (n + 1) (nI q) M.1 = _
        rw [step, if_pos g.1, if_pos g.2, e2, am_bd]
      · rcases hy with hy | ⟨q', a, b, c, d⟩
        · exact Or.inl (Or.inl hy)
        · by_cases e : q' = q
          · subst e; exact Or.inr d
          · exact Or.inl (Or.inr ⟨q', by omega, b, c, d⟩)
    · refine ⟨M, ?_, p1, p2.mono (fun y hy => ?_), p3⟩
      · show lX11_spellAmbiguous_16 rM 1 (nI p) j (n + 1) (nI q) M.1 = _
        rw [step]
        by_cases g1 : finA A p = true
        · rw [if_pos g1, if_neg (fun g2 => g ⟨g1, g2⟩)]
        · rw [if_neg g1]
      · rcases hy with hy | ⟨q', a, b, c, d⟩
        · exact Or.inl hy
        · by_cases e : q' = q
          · subst e; exact absurd ⟨b, c⟩ g
          · exact Or.inr ⟨q', by omega, b, c, d⟩) (fun n M hP => by
    simp only [lX11_spellAmbiguous_16, sX11_spellAmbiguous_16, hP.1.1.1, nIle (show A.1 < 1000000 by omega), if_true]) (J, s0) ⟨hS, hB.mono (fun y hy => hy.elim id (fun ⟨q, h, _⟩ => absurd h (Nat.not_lt_zero q))), sfr.rf J⟩
  exact ⟨J', s', e, h1, h2, h3⟩
theorem e_sA6 (hw : aw A) {J : am_I} {s0 : am_Bs} (hS : srM J A s0) (hB : B0 72 (fiP (finA A)) (fun _ => False) s0) (j : am_I → Option (Int32 × am_I)) :
    ∃ J' s', lX11_spellAmbiguous_6 rM 1 j am_fu (0 : Int32) J = j J' ∧ srM J' A s' ∧ B0 72 (fiP (finA A)) (fun x => x < 72 ∧ fiP (finA A) x) s' ∧ sfr J J' := by
  have h6 := hw.2.1
  obtain ⟨⟨J', s'⟩, e, h1, h2, h3⟩ := am_for0 (fun n i (M : am_I × am_Bs) => lX11_spellAmbiguous_6 rM 1 j n (nI i) M.1) A.1 (fun i M => srM M.1 A M.2 ∧ B0 72 (fiP (finA A)) (fun y => ∃ p q, p < i ∧ q < A.1 ∧ finA A p = true ∧ finA A q = true ∧ y = nP p q true) M.2 ∧ sfr J M.1) (fun M => j M.1) (by omega) (fun n p M hp hP => by
    obtain ⟨p1, p2, p3⟩ := hP
    obtain ⟨J2, s2, e2, q1, q2, q3⟩ := e_sA16 hw hp p1 p2 (fun J78 => lX11_spellAmbiguous_6 rM 1 j n (nI p + 1) J78)
    refine ⟨(J2, s2), ?_, q1, q2.mono (fun y hy => ?_), p3.tr q3⟩
    · show sX11_spellAmbiguous_6 rM 1 j (lX11_spellAmbiguous_6 rM 1 j n) (nI p) M.1 = _
      unfold sX11_spellAmbiguous_6
      rw [p1.1.1, if_neg (nIge hp (by omega)), am_jn_e, e2, nI_1]
    · obtain ⟨p', q', a, b, c, d, f⟩ := hy
      by_cases e : p' = p
      · subst e; exact Or.inr ⟨q', b, c, d, f⟩
      · exact Or.inl ⟨p', q', by omega, b, c, d, f⟩) (fun n M hP => by
    simp only [lX11_spellAmbiguous_6, sX11_spellAmbiguous_6, hP.1.1.1, nIle (show A.1 < 1000000 by omega), if_true]) (J, s0) ⟨hS, hB.mono (fun y ⟨p, q, h, _⟩ => absurd h (Nat.not_lt_zero p)), sfr.rf J⟩
  refine ⟨J', s', e, h1, h2.mono (fun x ⟨hx, g⟩ => ?_), h3⟩
  obtain ⟨p, q, b, hp, hq, rfl⟩ := nP_of hx
  obtain ⟨v1, v2, v3⟩ := nP_v (p := p) hq b
  obtain ⟨g1, g2, g3⟩ := g
  rw [v3] at g1
  rw [v1] at g2
  rw [v2] at g3
  cases b
  · cases g1
  · exact ⟨p, q, finA_lt hw g2, finA_lt hw g3, g2, g3, rfl⟩
/-- the least distance of a set of nodes -/
def mB (d : Nat → Nat) (D : Nat → Prop) (b : Nat) : Prop := (∀ x, D x → b ≤ d x) ∧ (b = 1000 ∨ ∃ x, D x ∧ d x = b) ∧ b ≤ 1000
theorem mB.up {d : Nat → Nat} {D : Nat → Prop} {b x : Nat} (h : mB d D b) (hd : d x ≤ 1000) {D' : Nat → Prop} (hD : ∀ y, D' y ↔ D y ∨ y = x) : mB d D' (if b ≤ d x then b else d x) := by
  obtain ⟨h1, h2, h3⟩ := h
  by_cases g : b ≤ d x
  · rw [if_pos g]
    refine ⟨fun y hy => ?_, h2.imp id (fun ⟨y, a, c⟩ => ⟨y, (hD y).mpr (Or.inl a), c⟩), h3⟩
    rcases (hD y).mp hy with hy | rfl
    · exact h1 y hy
    · exact g
  · rw [if_neg g]
    refine ⟨fun y hy => ?_, Or.inr ⟨x, (hD x).mpr (Or.inr rfl), rfl⟩, hd⟩
    rcases (hD y).mp hy with hy | rfl
    · have := h1 y hy; omega
    · exact Nat.le_refl _
theorem mB.same {d : Nat → Nat} {D D' : Nat → Prop} {b : Nat} (h : mB d D b) (hD : ∀ y, D' y ↔ D y) : mB d D' b :=
  ⟨fun x hx => h.1 x ((hD x).mp hx), h.2.1.imp id (fun ⟨y, a, c⟩ => ⟨y, (hD y).mpr a, c⟩), h.2.2⟩
/-- the starts gone through: rows below p, and in row p those below q -/
def stD (A : am_Au) (p q : Nat) (x : Nat) : Prop := ∃ p' q', (p' < p ∨ (p' = p ∧ q' < q)) ∧ p' < A.1 ∧ q' < A.1 ∧ bt A.2.1 p' = true ∧ bt A.2.1 q' = true ∧ x = nP p' q' (decide (p' ≠ q'))
theorem stD_row {p x : Nat} : stD A (p + 1) 0 x ↔ stD A p A.1 x := by
  constructor
  · rintro ⟨p', q', h, r⟩
    rcases h with h | ⟨_, h⟩
    · refine ⟨p', q', ?_, r⟩
      have := r.2.1
      omega
    · exact absurd h (Nat.not_lt_zero q')
  · rintro ⟨p', q', h, r⟩
    exact ⟨p', q', by omega, r⟩
theorem stD_end {x : Nat} : stD A A.1 0 x ↔ stA A x := by
  constructor
  · rintro ⟨p', q', _, r⟩
    exact ⟨p', q', r⟩
  · rintro ⟨p', q', r⟩
    exact ⟨p', q', Or.inl r.1, r⟩
theorem stD_0 {x : Nat} : ¬ stD A 0 0 x := by
  rintro ⟨p', q', h, _⟩
  omega
theorem stD_s {p q x : Nat} (hp : p < A.1) (hq : q < A.1) (h1 : bt A.2.1 p = true) (h2 : bt A.2.1 q = true) : stD A p (q + 1) x ↔ stD A p q x ∨ x = nP p q (decide (p ≠ q)) := by
  constructor
  · rintro ⟨p', q', h, r⟩
    by_cases e : p' = p ∧ q' = q
    · obtain ⟨rfl, rfl⟩ := e
      exact Or.inr r.2.2.2.2
    · exact Or.inl ⟨p', q', by omega, r⟩
  · rintro (⟨p', q', h, r⟩ | rfl)
    · exact ⟨p', q', by omega, r⟩
    · exact ⟨p, q, by omega, hp, hq, h1, h2, rfl⟩
theorem stD_n {p q x : Nat} (h : ¬ (bt A.2.1 p = true ∧ bt A.2.1 q = true)) : stD A p (q + 1) x ↔ stD A p q x := by
  constructor
  · rintro ⟨p', q', g, r⟩
    by_cases e : p' = p ∧ q' = q
    · obtain ⟨rfl, rfl⟩ := e
      exact absurd ⟨r.2.2.1, r.2.2.2.1⟩ h
    · exact ⟨p', q', by omega, r⟩
  · rintro ⟨p', q', g, r⟩
    exact ⟨p', q', by omega, r⟩
theorem e_sA91 (hw : aw A) {p : Nat} (hp : p < A.1) {J : am_I} {s0 : am_Bs} (hS : srM J A s0) {b : Nat} (hb : mB s0.1 (stD A p 0) b) (j : Int32 → Option (Int32 × am_I)) :
    ∃ b', lX11_spellAmbiguous_91 rM 1 (nI p) J j am_fu (nI b) (0 : Int32) = j (nI b') ∧ mB s0.1 (stD A p A.1) b' := by
  have h6 := hw.2.1
  have h0 := hS.1.1
  have h4 := hS.1.2.1
  exact am_for0 (fun n i (b : Nat) => lX11_spellAmbiguous_91 rM 1 (nI p) J j n (nI b) (nI i)) A.1 (fun i b => mB s0.1 (stD A p i) b) (fun b => j (nI b)) (by omega) (fun n q b hq hP => by
    have hx := nP_lt (show p < 6 by omega) (show q < 6 by omega) (decide (p ≠ q))
    have hd := hS.2.2.2.2.2 (nP p q (decide (p ≠ q)))
    have hb3 := hP.2.2
    have h12 := hS.2.2.1 (nP p q (decide (p ≠ q))) (by omega)
    have epn := e_pN (show p < 1000 by omega) (show q < 1000 by omega) (decide (p ≠ q))
    have step : lX11_spellAmbiguous_91 rM 1 (nI p) J j (n + 1) (nI b) (nI q) = if bt A.2.1 p = true then (if bt A.2.1 q = true then (if nI b ≤ nI (s0.1 (nP p q (decide (p ≠ q)))) then lX11_spellAmbiguous_91 rM 1 (nI p) J j n (nI b) (nI (q + 1)) else lX11_spellAmbiguous_91 rM 1 (nI p) J j n (nI (s0.1 (nP p q (decide (p ≠ q))))) (nI (q + 1))) else lX11_spellAmbiguous_91 rM 1 (nI p) J j n (nI b) (nI (q + 1))) else lX11_spellAmbiguous_91 rM 1 (nI p) J j n (nI b) (nI (q + 1)) := by
      show sX11_spellAmbiguous_91 rM 1 (nI p) J j (lX11_spellAmbiguous_91 rM 1 (nI p) J j n) (nI b) (nI q) = _
      unfold sX11_spellAmbiguous_91
      rw [h0, if_neg (nIge hq (by omega)), h4]
      simp only [e_hb _ (show p < 32 by omega), e_hb _ (show q < 32 by omega), am_bd, am_jn_e, am_let_e, bI0, ite_not, e_epq (show p < 1000 by omega) (show q < 1000 by omega), epn, inb (show nP p q (decide (p ≠ q)) < 216 by omega) (show 216 < 1000000 by omega), am_ck_true, rM19, nIcl (show nP p q (decide (p ≠ q)) < 1000000 by omega), h12, nI_1]
    show ∃ b', lX11_spellAmbiguous_91 rM 1 (nI p) J j (n + 1) (nI b) (nI q) = lX11_spellAmbiguous_91 rM 1 (nI p) J j n (nI b') (nI (q + 1)) ∧ _
    rw [step]
    by_cases g : bt A.2.1 p = true ∧ bt A.2.1 q = true
    · refine ⟨if b ≤ s0.1 (nP p q (decide (p ≠ q))) then b else s0.1 (nP p q (decide (p ≠ q))), ?_, hP.up hd (fun y => stD_s hp hq g.1 g.2)⟩
      rw [if_pos g.1, if_pos g.2]
      by_cases c : b ≤ s0.1 (nP p q (decide (p ≠ q)))
      · rw [if_pos c, if_pos (nI_le c (by omega))]
      · rw [if_neg c, if_neg (nI_ge (by omega) (by omega))]
    · refine ⟨b, ?_, hP.same (fun y => stD_n g)⟩
      by_cases g1 : bt A.2.1 p = true
      · rw [if_pos g1, if_neg (fun g2 => g ⟨g1, g2⟩)]
      · rw [if_neg g1]) (fun n b hP => by
    simp only [lX11_spellAmbiguous_91, sX11_spellAmbiguous_91, h0, nIle (show A.1 < 1000000 by omega), if_true]) b hb
theorem e_sA81 (hw : aw A) {J : am_I} {s0 : am_Bs} (hS : srM J A s0) (j : Int32 → Option (Int32 × am_I)) :
    ∃ b, lX11_spellAmbiguous_81 rM 1 J j am_fu (1000 : Int32) (0 : Int32) = j (nI b) ∧ mB s0.1 (stA A) b := by
  have h6 := hw.2.1
  have h0 := hS.1.1
  obtain ⟨b, e, h⟩ := am_for0 (fun n i (b : Nat) => lX11_spellAmbiguous_81 rM 1 J j n (nI b) (nI i)) A.1 (fun i b => mB s0.1 (stD A i 0) b) (fun b => j (nI b)) (by omega) (fun n p b hp hP => by
    obtain ⟨b', e, h⟩ := e_sA91 hw hp hS hP (fun v48 => lX11_spellAmbiguous_81 rM 1 J j n v48 (nI p + 1))
    refine ⟨b', ?_, h.same (fun y => stD_row)⟩
    show sX11_spellAmbiguous_81 rM 1 J j (lX11_spellAmbiguous_81 rM 1 J j n) (nI b) (nI p) = _
    unfold sX11_spellAmbiguous_81
    rw [h0, if_neg (nIge hp (by omega)), am_jn_e, e, nI_1]) (fun n b hP => by
    simp only [lX11_spellAmbiguous_81, sX11_spellAmbiguous_81, h0, nIle (show A.1 < 1000000 by omega), if_true]) 1000 ⟨fun x hx => absurd hx stD_0, Or.inl rfl, Nat.le_refl _⟩
  exact ⟨b, e, h.same (fun y => stD_end.symm)⟩
/-! marks -/
theorem e_nobody (J : am_I) : ∃ J', pX11_nobodyIsHere rM J 1 = some J' ∧ (∀ x, x < 216 → J' 15 x = 0 ∧ J' 16 x = 0) ∧ ∀ b, b ≠ 15 → b ≠ 16 → J' b = J b := by
  unfold pX11_nobodyIsHere
  obtain ⟨J', e, h1, h2⟩ := am_for0 (fun n i J => lX11_nobodyIsHere_2 rM 1 n (nI i) J) 216 (fun i J' => (∀ x, x < i → J' 15 x = 0 ∧ J' 16 x = 0) ∧ ∀ b, b ≠ 15 → b ≠ 16 → J' b = J b) (fun J => some J) (by omega) (fun n i J' hi hP => by
    refine ⟨am_upI (am_upI J' 15 i 0) 16 i 0, ?_, fun x hx => ?_, fun b x y => by rw [am_upI_ne y, am_upI_ne x]; exact hP.2 b x y⟩
    · simp only [lX11_nobodyIsHere_2, sX11_nobodyIsHere_2, ng216 hi, if_false, inb hi (show 216 < 1000000 by omega), am_ck_true, am_let_e, nIcl (show i < 1000000 by omega), rM23, rM24, nI_1]
    · by_cases g : x = i
      · subst g
        exact ⟨by rw [am_upI_ne (by decide), am_upI_s], am_upI_s⟩
      · obtain ⟨a, b⟩ := hP.1 x (by omega)
        exact ⟨by rw [am_upI_ne (by decide), am_upI_o g]; exact a, by rw [am_upI_o g, am_upI_ne (by decide)]; exact b⟩) (fun n J' _ => by
    simp only [lX11_nobodyIsHere_2, sX11_nobodyIsHere_2, yg216, if_true]) J ⟨fun x hx => absurd hx (Nat.not_lt_zero x), fun _ _ _ => rfl⟩
  exact ⟨J', e, h1, h2⟩
/-- the marks are those nodes of D that are just as far -/
def mkM (J : am_I) (d : Nat → Nat) (D : Nat → Prop) (best : Nat) (hr : Nat → Bool) : Prop := (∀ x, x < 216 → J 15 x = bI (hr x)) ∧ ∀ x, hr x = true ↔ D x ∧ d x = best
def updB (hr : Nat → Bool) (x : Nat) : Nat → Bool := fun y => if y = x then true else hr y
theorem mkM.up {J : am_I} {d : Nat → Nat} {D : Nat → Prop} {best : Nat} {hr : Nat → Bool} (h : mkM J d D best hr) {x : Nat} (hx : d x = best) {D' : Nat → Prop} (hD : ∀ y, D' y ↔ D y ∨ y = x) : mkM (am_upI J 15 x 1) d D' best (updB hr x) := by
  refine ⟨fun y hy => ?_, fun y => ?_⟩
  · unfold updB
    by_cases e : y = x
    · rw [if_pos e, e, am_upI_s]; rfl
    · rw [if_neg e, am_upI_o e]; exact h.1 y hy
  · unfold updB
    by_cases e : y = x
    · rw [if_pos e]
      exact ⟨fun _ => ⟨(hD y).mpr (Or.inr e), by rw [e]; exact hx⟩, fun _ => rfl⟩
    · rw [if_neg e, h.2 y]
      exact ⟨fun ⟨a, b⟩ => ⟨(hD y).mpr (Or.inl a), b⟩, fun ⟨a, b⟩ => ⟨((hD y).mp a).elim id (fun c => absurd c e), b⟩⟩
theorem mkM.skip {J : am_I} {d : Nat → Nat} {D : Nat → Prop} {best : Nat} {hr : Nat → Bool} (h : mkM J d D best hr) {x : Nat} (hx : d x ≠ best) {D' : Nat → Prop} (hD : ∀ y, D' y ↔ D y ∨ y = x) : mkM J d D' best hr := by
  refine ⟨h.1, fun y => ?_⟩
  rw [h.2 y]
  exact ⟨fun ⟨a, b⟩ => ⟨(hD y).mpr (Or.inl a), b⟩, fun ⟨a, b⟩ => ⟨((hD y).mp a).elim id (fun c => absurd (c ▸ b) hx), b⟩⟩
theorem mkM.same {J : am_I} {d : Nat → Nat} {D D' : Nat → Prop} {best : Nat} {hr : Nat → Bool} (h : mkM J d D best hr) (hD : ∀ y, D' y ↔ D y) : mkM J d D' best hr := ⟨h.1, fun y => by rw [h.2 y, hD y]⟩
theorem e_sA206 (hw : aw A) {p : Nat} (hp : p < A.1) {J : am_I} {d : Nat → Nat} (hA : isM J A) (h12 : ∀ x, x < 216 → J 12 x = nI (d x)) (hd : ∀ x, d x ≤ 1000) {best : Nat} (hb : best ≤ 1000) {hr : Nat → Bool} (hM : mkM J d (stD A p 0) best hr) (j : am_I → Option (Int32 × am_I)) :
    ∃ J' hr', lX11_spellAmbiguous_206 rM 1 (nI best) (nI p) j am_fu (0 : Int32) J = j J' ∧ mkM J' d (stD A p A.1) best hr' ∧ ∀ b, b ≠ 15 → J' b = J b := by
  have h6 := hw.2.1
  obtain ⟨⟨J', hr'⟩, e, h1, h2⟩ := am_for0 (fun n i (M : am_I × (Nat → Bool)) => lX11_spellAmbiguous_206 rM 1 (nI best) (nI p) j n (nI i) M.1) A.1 (fun i M => mkM M.1 d (stD A p i) best M.2 ∧ ∀ b, b ≠ 15 → M.1 b = J b) (fun M => j M.1) (by omega) (fun n q M hq hP => by
    obtain ⟨p1, p2⟩ := hP
    have hx := nP_lt (show p < 6 by omega) (show q < 6 by omega) (decide (p ≠ q))
    have h0 : M.1 1 3 = nI A.1 := by rw [p2 1 (by decide)]; exact hA.1
    have h4 : M.1 1 4 = A.2.1 := by rw [p2 1 (by decide)]; exact hA.2.1
    have h12' : M.1 12 (nP p q (decide (p ≠ q))) = nI (d (nP p q (decide (p ≠ q)))) := by rw [p2 12 (by decide)]; exact h12 _ (by omega)
    have epn := e_pN (show p < 1000 by omega) (show q < 1000 by omega) (decide (p ≠ q))
    have step : lX11_spellAmbiguous_206 rM 1 (nI best) (nI p) j (n + 1) (nI q) M.1 = if bt A.2.1 p = true then (if bt A.2.1 q = true then (if nI (d (nP p q (decide (p ≠ q)))) = nI best then lX11_spellAmbiguous_206 rM 1 (nI best) (nI p) j n (nI (q + 1)) (am_upI M.1 15 (nP p q (decide (p ≠ q))) 1) else lX11_spellAmbiguous_206 rM 1 (nI best) (nI p) j n (nI (q + 1)) M.1) else lX11_spellAmbiguous_206 rM 1 (nI best) (nI p) j n (nI (q + 1)) M.1) else lX11_spellAmbiguous_206 rM 1 (nI best) (nI p) j n (nI (q + 1)) M.1 := by
      show sX11_spellAmbiguous_206 rM 1 (nI best) (nI p) j (lX11_spellAmbiguous_206 rM 1 (nI best) (nI p) j n) (nI q) M.1 = _
      unfold sX11_spellAmbiguous_206
      rw [h0, if_neg (nIge hq (by omega)), h4]
      simp only [e_hb _ (show p < 32 by omega), e_hb _ (show q < 32 by omega), am_bd, am_jn_e, am_let_e, bI0, ite_not, e_epq (show p < 1000 by omega) (show q < 1000 by omega), epn, inb (show nP p q (decide (p ≠ q)) < 216 by omega) (show 216 < 1000000 by omega), am_ck_true, rM19, rM23, nIcl (show nP p q (decide (p ≠ q)) < 1000000 by omega), h12', nI_1]
    have eqI : nI (d (nP p q (decide (p ≠ q)))) = nI best ↔ d (nP p q (decide (p ≠ q))) = best := nI_eq (by have := hd (nP p q (decide (p ≠ q))); omega) (by omega)
    by_cases g : bt A.2.1 p = true ∧ bt A.2.1 q = true
    · by_cases c : d (nP p q (decide (p ≠ q))) = best
      · refine ⟨(am_upI M.1 15 (nP p q (decide (p ≠ q))) 1, updB M.2 (nP p q (decide (p ≠ q)))), ?_, p1.up c (fun y => stD_s hp hq g.1 g.2), fun b hb => by dsimp only; rw [am_upI_ne hb]; exact p2 b hb⟩
        show lX11_spellAmbiguous_206 rM 1 (nI best) (nI p) j (n + 1) (nI q) M.1 = _
        rw [step, if_pos g.1, if_pos g.2, if_pos (eqI.mpr c)]
      · refine ⟨M, ?_, p1.skip c (fun y => stD_s hp hq g.1 g.2), p2⟩
        show lX11_spellAmbiguous_206 rM 1 (nI best) (nI p) j (n + 1) (nI q) M.1 = _
        rw [step, if_pos g.1, if_pos g.2, if_neg (fun h => c (eqI.mp h))]
    · refine ⟨M, ?_, p1.same (fun y => stD_n g), p2⟩
      show lX11_spellAmbiguous_206 rM 1 (nI best) (nI p) j (n + 1) (nI q) M.1 = _
      rw [step]
      by_cases g1 : bt A.2.1 p = true
      · rw [if_pos g1, if_neg (fun g2 => g ⟨g1, g2⟩)]
      · rw [if_neg g1]) (fun n M hP => by
    have h0 : M.1 1 3 = nI A.1 := by rw [hP.2 1 (by decide)]; exact hA.1
    simp only [lX11_spellAmbiguous_206, sX11_spellAmbiguous_206, h0, nIle (show A.1 < 1000000 by omega), if_true]) (J, hr) ⟨hM, fun _ _ => rfl⟩
  exact ⟨J', hr', e, h1, h2⟩
theorem e_sA196 (hw : aw A) {J : am_I} {d : Nat → Nat} (hA : isM J A) (h12 : ∀ x, x < 216 → J 12 x = nI (d x)) (hd : ∀ x, d x ≤ 1000) {best : Nat} (hb : best ≤ 1000) (h15 : ∀ x, x < 216 → J 15 x = 0) (j : am_I → Option (Int32 × am_I)) :
    ∃ J' hr', lX11_spellAmbiguous_196 rM 1 (nI best) j am_fu (0 : Int32) J = j J' ∧ mkM J' d (stA A) best hr' ∧ ∀ b, b ≠ 15 → J' b = J b := by
  have h6 := hw.2.1
  obtain ⟨⟨J', hr'⟩, e, h1, h2⟩ := am_for0 (fun n i (M : am_I × (Nat → Bool)) => lX11_spellAmbiguous_196 rM 1 (nI best) j n (nI i) M.1) A.1 (fun i M => mkM M.1 d (stD A i 0) best M.2 ∧ ∀ b, b ≠ 15 → M.1 b = J b) (fun M => j M.1) (by omega) (fun n p M hp hP => by
    obtain ⟨p1, p2⟩ := hP
    have hA' : isM M.1 A := hA.kept (fun k _ _ => by rw [p2 1 (by decide)]) (p2 2 (by decide))
    obtain ⟨J2, hr2, e2, q1, q2⟩ := e_sA206 hw hp hA' (d := d) (fun x hx => by rw [p2 12 (by decide)]; exact h12 x hx) hd hb p1 (fun J18 => lX11_spellAmbiguous_196 rM 1 (nI best) j n (nI p + 1) J18)
    refine ⟨(J2, hr2), ?_, q1.same (fun y => stD_row), fun b hb => (q2 b hb).trans (p2 b hb)⟩
    show sX11_spellAmbiguous_196 rM 1 (nI best) j (lX11_spellAmbiguous_196 rM 1 (nI best) j n) (nI p) M.1 = _
    unfold sX11_spellAmbiguous_196
    rw [hA'.1, if_neg (nIge hp (by omega)), am_jn_e, e2, nI_1]) (fun n M hP => by
    have h0 : M.1 1 3 = nI A.1 := by rw [hP.2 1 (by decide)]; exact hA.1
    simp only [lX11_spellAmbiguous_196, sX11_spellAmbiguous_196, h0, nIle (show A.1 < 1000000 by omega), if_true]) (J, fun _ => false) ⟨⟨fun x hx => by dsimp only; rw [h15 x hx]; rfl, fun x => ⟨fun h => (by cases h), fun h => absurd h.1 stD_0⟩⟩, fun _ _ => rfl⟩
  exact ⟨J', hr', e, h1.same (fun y => stD_end.symm), h2⟩
/-- what the search for a word may write -/
def wfr (J J' : am_I) : Prop := (∀ b, b ≠ 1 → b ≠ 3 → b ≠ 12 → b ≠ 13 → b ≠ 14 → b ≠ 15 → b ≠ 16 → J' b = J b) ∧ ∀ k, k ≠ 21 → k ≠ 25 → J' 1 k = J 1 k
theorem wfr.rf (J : am_I) : wfr J J := ⟨fun _ _ _ _ _ _ _ _ => rfl, fun _ _ _ => rfl⟩
theorem wfr.tr {J J1 J2 : am_I} (h : wfr J J1) (g : wfr J1 J2) : wfr J J2 := ⟨fun b a1 a2 a3 a4 a5 a6 a7 => (g.1 b a1 a2 a3 a4 a5 a6 a7).trans (h.1 b a1 a2 a3 a4 a5 a6 a7), fun k a b => (g.2 k a b).trans (h.2 k a b)⟩
theorem sfr.w {J J' : am_I} (h : sfr J J') : wfr J J' := ⟨fun b a1 a2 a3 a4 _ _ _ => h.1 b a1 a2 a3 a4, fun k a _ => h.2 k a⟩
/-- nodes that lead on are right -/
theorem edP_val {F : Nat → Prop} {d : Nat → Nat} {fin : Nat → Bool} (hF : F = fiP fin) (hD : isDst 72 (edP A) F d) {y : Nat} (hy : y < 72) (h : d y < 1000) : y % 2 = 1 ∨ y / 12 = y / 2 % 6 := by
  obtain ⟨_, w, _, _, h3⟩ := hD.1 y hy h
  cases w with
  | nil =>
    have h3 : F y := h3
    rw [hF] at h3
    exact Or.inl h3.1
  | cons a w =>
    obtain ⟨z, _, he, _⟩ := h3
    exact he.1
theorem e_spellAmb (hw : aw A) {J : am_I} (hA : isM J A) : ∃ r J', pX11_spellAmbiguous rM J 1 = some (r, J') ∧ ((r = -4 ∧ ¬ isAmb A) ∨ ∃ w, r = nI w.length ∧ w.length < 72 ∧ isFst (gAmb A) w ∧ ∀ i, i < w.length → J' 14 i = nI (w.getD i 0)) ∧ isM J' A ∧ wfr J J' := by
  obtain ⟨J1, e1, h1, f1⟩ := e_begins hw hA
  obtain ⟨J2, s2, e2, h2, b2, f2⟩ := e_sA6 hw h1 (B0.init 72 (fiP (finA A))) (fun J3 => Option.bind (pX11_spreadsPairs rM J3 1) (fun r4 => am_jn (fun (v6 : Int32) => if v6 = (1000 : Int32) then some ((-4 : Int32), r4) else Option.bind (pX11_nobodyIsHere rM r4 1) (fun r8 => am_jn (fun (J10 : am_I) => Option.bind (pX11_spells rM J10 1 v6 (0 : Int32)) (fun r11 => some (v6, r11))) (fun j9 => lX11_spellAmbiguous_196 rM 1 v6 j9 am_fu (0 : Int32) r8))) (fun j5 => lX11_spellAmbiguous_81 rM 1 r4 j5 am_fu (1000 : Int32) (0 : Int32))))
  obtain ⟨J4, s4, e4, h4, d4, f4⟩ := e_spreads hw h2 (B0.BQ b2)
  obtain ⟨b, e5, hb⟩ := e_sA81 hw h4 (fun (v6 : Int32) => if v6 = (1000 : Int32) then some ((-4 : Int32), J4) else Option.bind (pX11_nobodyIsHere rM J4 1) (fun r8 => am_jn (fun (J10 : am_I) => Option.bind (pX11_spells rM J10 1 v6 (0 : Int32)) (fun r11 => some (v6, r11))) (fun j9 => lX11_spellAmbiguous_196 rM 1 v6 j9 am_fu (0 : Int32) r8)))
  have f14 : sfr J J4 := (f1.tr f2).tr f4
  unfold pX11_spellAmbiguous
  rw [e1, am_bd, am_jn_e, e2, e4, am_bd, am_jn_e, e5]
  have e1000 : nI b = (1000 : Int32) ↔ b = 1000 := by
    rw [show (1000 : Int32) = nI 1000 from rfl]
    exact nI_eq (by have := hb.2.2; omega) (by omega)
  by_cases g : b = 1000
  · rw [if_pos (e1000.mpr g)]
    refine ⟨_, _, rfl, Or.inl ⟨rfl, ?_⟩, h4.1, f14.w⟩
    rintro ⟨w, hwd, h⟩
    obtain ⟨x, hx, hac⟩ := (acn_ac hw hwd).mp h
    have := d4.lt (by omega) w x (stA_lt hw hx) hwd hac
    have := hb.1 x hx
    omega
  · rw [if_neg (fun h => g (e1000.mp h))]
    obtain ⟨x0, hx0, hdx0⟩ : ∃ x, stA A x ∧ s4.1 x = b := hb.2.1.resolve_left g
    have hlt : b < 72 := by
      have := hb.2.2
      have := (d4.1 x0 (stA_lt hw hx0) (by omega)).1
      omega
    obtain ⟨J5, e6, z5, f5⟩ := e_nobody J4
    rw [e6, am_bd, am_jn_e]
    have hA5 : isM J5 A := h4.1.kept (fun k _ _ => by rw [f5 1 (by decide) (by decide)]) (f5 2 (by decide) (by decide))
    obtain ⟨J6, hr, e7, m6, f6⟩ := e_sA196 hw hA5 (d := s4.1) (fun x hx => by rw [f5 12 (by decide) (by decide)]; exact h4.2.2.1 x hx) h4.2.2.2.2.2 (best := b) (by omega) (fun x hx => (z5 x hx).1) (fun (J10 : am_I) => Option.bind (pX11_spells rM J10 1 (nI b) (0 : Int32)) (fun r11 => some (nI b, r11)))
    rw [e7]
    have hA6 : isM J6 A := hA5.kept (fun k _ _ => by rw [f6 1 (by decide)]) (f6 2 (by decide))
    have sp : spM J6 A s4.1 false hr := ⟨hA6, fun x hx => by rw [f6 12 (by decide), f5 12 (by decide) (by decide)]; exact h4.2.2.1 x hx, m6.1, fun x hx => by
      obtain ⟨a, c⟩ := (m6.2 x).mp hx
      have hx72 := stA_lt hw a
      exact ⟨hx72, fun _ => edP_val rfl d4 hx72 (by omega)⟩, h4.2.2.2.2.2⟩
    obtain ⟨w, J7, e8, l8, s8, w8, f8, k8⟩ := e_spells hw (F := fiP (finA A)) sp (show isDst (gN false) (gE A false) (fiP (finA A)) s4.1 from d4) (fun a x y _ hy hd _ => edP_val rfl d4 hy hd) (len := b) (by omega) (fun x hx => ((m6.2 x).mp hx).2) ⟨x0, (m6.2 x0).mpr ⟨hx0, hdx0⟩⟩ (fun y _ hy => by rw [f6 16 (by decide)]; exact (z5 y hy).2)
    have e8' : pX11_spells rM J6 1 (nI b) (0 : Int32) = some J7 := e8
    rw [e8', am_bd]
    have ff : wfr J J7 := f14.w.tr ⟨fun b a1 a2 a3 a4 a5 a6 a7 => by rw [f8 b a1 a5 a6 a7, f6 b a6, f5 b a6 a7], fun k a c => by rw [k8 k c, f6 1 (by decide), f5 1 (by decide) (by decide)]⟩
    refine ⟨_, _, rfl, Or.inr ⟨w, by rw [l8], by omega, ?_, fun i hi => w8 i (by omega)⟩, hA.kept (fun k a c => ff.2 k (by omega) (by omega)) (ff.1 2 (by decide) (by decide) (by decide) (by decide) (by decide) (by decide) (by decide)), ff⟩
    have hf := fst_of d4 (S := stA A) (here := fun x => hr x = true) (fun x hx => stA_lt hw hx) (best := b) hb.1 m6.2 ⟨x0, (m6.2 x0).mpr ⟨hx0, hdx0⟩⟩ (by omega) l8 s8
    refine hf.congr (fun v => ?_)
    constructor
    · rintro ⟨a, c⟩; exact ⟨a, (acn_ac hw a).mpr c⟩
    · rintro ⟨a, c⟩; exact ⟨a, (acn_ac hw a).mp c⟩
end
