/-! calls 29 to 31: witnesses 0 to 2 -/
section
variable {A : am_Au}
theorem wfr.g {J J' : am_I} (h : wfr J J') : gfr J J' := ⟨fun b a1 a2 a3 a4 a5 a6 a7 _ => h.1 b a1 a2 a3 a4 a5 a6 a7, fun k _ a2 a3 _ _ _ => h.2 k a2 a3⟩
theorem gfr.tr {J J1 J2 : am_I} (h : gfr J J1) (g : gfr J1 J2) : gfr J J2 := ⟨fun b a1 a2 a3 a4 a5 a6 a7 a8 => (g.1 b a1 a2 a3 a4 a5 a6 a7 a8).trans (h.1 b a1 a2 a3 a4 a5 a6 a7 a8), fun k a1 a2 a3 a4 a5 a6 => (g.2 k a1 a2 a3 a4 a5 a6).trans (h.2 k a1 a2 a3 a4 a5 a6)⟩
theorem wfr.k {J J' : am_I} (h : wfr J J') (g : okK J A) : okK J' A := g.kept (fun k a b => h.2 k (by omega) (by omega)) (h.1 17 (by decide) (by decide) (by decide) (by decide) (by decide) (by decide) (by decide))
theorem wfr.six {J J' : am_I} (h : wfr J J') : J' 1 6 = J 1 6 := h.2 6 (by decide) (by decide)
/-- the first word from one node -/
theorem e_spellOne (hw : aw A) {F : Nat → Prop} {J : am_I} {s : am_Bs} {tr : Bool} {x : Nat} (hS : srM J A s) (hz : ∀ y, y < 216 → J 15 y = 0 ∧ J 16 y = 0) (hD : isDst (gN tr) (gE A tr) F s.1) (hval : tr = false → ∀ y, y < 72 → s.1 y < 1000 → y % 2 = 1 ∨ y / 12 = y / 2 % 6) (hx : x < gN tr) (hd : s.1 x < 1000) :
    ∃ w J', pX11_spells rM (am_upI J 15 x 1) 1 (nI (s.1 x)) (bI tr) = some J' ∧ w.length = s.1 x ∧ w.length < 216 ∧ isFst (fun v => wdl v ∧ acw (gN tr) (gE A tr) F x v) w ∧ (∀ i, i < w.length → J' 14 i = nI (w.getD i 0)) ∧ isM J' A ∧ wfr J J' := by
  have hN := gN_le tr
  have hlt := (hD.1 x hx hd).1
  have hval' : ∀ y, y < gN tr → s.1 y < 1000 → tr = false → y % 2 = 1 ∨ y / 12 = y / 2 % 6 := fun y hy hdy ht => by
    subst ht
    exact hval rfl y hy hdy
  have hA1 : isM (am_upI J 15 x 1) A := hS.1.kept (fun k _ _ => by rw [am_upI_ne (by decide)]) (am_upI_ne (by decide))
  have sp : spM (am_upI J 15 x 1) A s.1 tr (fun y => decide (y = x)) := ⟨hA1, fun y hy => by rw [am_upI_ne (by decide)]; exact hS.2.2.1 y hy, fun y hy => by
    dsimp only
    by_cases e : y = x
    · rw [e, am_upI_s, decide_eq_true rfl]; rfl
    · rw [am_upI_o e, decide_eq_false e, (hz y hy).1]; rfl, fun y hy => by
    have e : y = x := of_decide_eq_true hy
    rw [e]
    exact ⟨hx, hval' x hx hd⟩, hS.2.2.2.2.2⟩
  obtain ⟨w, J', e1, l1, s1, g1, f1, k1⟩ := e_spells hw (F := F) sp hD (fun a y z _ hy hd ht => hval' z hy hd ht) (len := s.1 x) (by omega) (fun y hy => by rw [of_decide_eq_true hy]) ⟨x, decide_eq_true rfl⟩ (fun y _ hy => by rw [am_upI_ne (by decide)]; exact (hz y hy).2)
  have ff : wfr J J' := ⟨fun b a1 a2 a3 a4 a5 a6 a7 => by rw [f1 b a1 a5 a6 a7, am_upI_ne a6], fun k a c => by rw [k1 k c, am_upI_ne (by decide)]⟩
  refine ⟨w, J', e1, l1, by omega, ?_, fun i hi => g1 i (by omega), hS.1.kept (fun k a c => ff.2 k (by omega) (by omega)) (ff.1 2 (by decide) (by decide) (by decide) (by decide) (by decide) (by decide) (by decide)), ff⟩
  have hf := fst_of hD (S := fun y => y = x) (here := fun y => decide (y = x) = true) (fun y hy => by rw [hy]; exact hx) (best := s.1 x) (fun y hy => by rw [hy]; exact Nat.le_refl _) (fun y => by
    rw [decide_eq_true_eq]
    exact ⟨fun h => ⟨h, by rw [h]⟩, fun h => h.1⟩) ⟨x, decide_eq_true rfl⟩ (by omega) l1 s1
  refine hf.congr (fun v => ?_)
  constructor
  · rintro ⟨a, y, rfl, b⟩; exact ⟨a, b⟩
  · rintro ⟨a, b⟩; exact ⟨a, x, rfl, b⟩
/-- there is no witness of the kind; the witness of the kind -/
def WN (A : am_Au) (t : Nat) : Prop := if t = 0 then ¬ isAmb A else if t = 1 then ∀ s, ¬ isLop A s else ∀ p q, ¬ isSpl A p q
def WF (A : am_Au) (t : Nat) (w : List Nat) : Prop := if t = 0 then isFst (gAmb A) w else if t = 1 then ∃ s, isLop A s ∧ (∀ s', s' < s → ¬ isLop A s') ∧ isFst (gLop A s) w else ∃ p q, isSpl A p q ∧ (∀ p' q', bef p q p' q' → ¬ isSpl A p' q') ∧ isFst (gSpl A p q) w
theorem WF.uniq {t : Nat} {w v : List Nat} (h : WF A t w) (g : WF A t v) : w = v := by
  unfold WF at h g
  by_cases t0 : t = 0
  · rw [if_pos t0] at h g; exact h.uniq g
  · rw [if_neg t0] at h g
    by_cases t1 : t = 1
    · rw [if_pos t1] at h g
      obtain ⟨s, a1, a2, a3⟩ := h
      obtain ⟨s', b1, b2, b3⟩ := g
      have : s = s' := by
        rcases Nat.lt_trichotomy s s' with c | c | c
        · exact absurd a1 (b2 s c)
        · exact c
        · exact absurd b1 (a2 s' c)
      subst this
      exact a3.uniq b3
    · rw [if_neg t1] at h g
      obtain ⟨p, q, a1, a2, a3⟩ := h
      obtain ⟨p', q', b1, b2, b3⟩ := g
      have c1 : ¬ bef p' q' p q := fun c => b2 p q c a1
      have c2 : ¬ bef p q p' q' := fun c => a2 p' q' c b1
      unfold bef at c1 c2
      have e1 : p = p' := by omega
      have e2 : q = q' := by omega
      subst e1
      subst e2
      exact a3.uniq b3
theorem WF.not {t : Nat} {w : List Nat} (h : WF A t w) (g : WN A t) : False := by
  unfold WF at h
  unfold WN at g
  by_cases t0 : t = 0
  · rw [if_pos t0] at h g; exact g ⟨w, h.1⟩
  · rw [if_neg t0] at h g
    by_cases t1 : t = 1
    · rw [if_pos t1] at h g
      obtain ⟨s, a, _⟩ := h
      exact g s a
    · rw [if_neg t1] at h g
      obtain ⟨p, q, a, _⟩ := h
      exact g p q a
/-- the reference spells the witness -/
def spR (A : am_Au) (J' : am_I) (t : Nat) (r : Int32) : Prop := (r = -4 ∧ WN A t) ∨ ∃ w, r = nI w.length ∧ w.length < 216 ∧ WF A t w ∧ ∀ i, i < w.length → J' 14 i = nI (w.getD i 0)
theorem e_spellM (hw : aw A) {J : am_I} (hA : isM J A) (hK : mK J A) {t : Nat} (ht : t < 3) : ∃ r J', pX11_spell rM J 1 (nI t) = some (r, J') ∧ spR A J' t r ∧ J' 1 6 = 1 ∧ okK J' A ∧ gfr J J' := by
  have h6 := hw.2.1
  obtain ⟨J1, e1, k6, kk, hA1, f1⟩ := e_finds hw hA hK
  have ht3 : t = 0 ∨ t = 1 ∨ t = 2 := by omega
  unfold pX11_spell
  rw [e1, am_bd]
  rcases ht3 with rfl | rfl | rfl
  · rw [if_pos nI_0]
    obtain ⟨r, J2, e2, r2, _, f2⟩ := e_spellAmb hw hA1
    rw [e2, am_bd]
    refine ⟨r, J2, rfl, ?_, by rw [f2.six]; exact k6, f2.k kk, f1.tr f2.g⟩
    rcases r2 with ⟨a, b⟩ | ⟨w, a, b, c, d⟩
    · exact Or.inl ⟨a, by unfold WN; rw [if_pos rfl]; exact b⟩
    · exact Or.inr ⟨w, a, by omega, by unfold WF; rw [if_pos rfl]; exact c, d⟩
  · have c0 : ¬ nI 1 = (0 : Int32) := by decide
    have c3 : ¬ nI 1 = (3 : Int32) := by decide
    have c1 : nI 1 = (1 : Int32) := rfl
    rw [if_neg c0, if_neg c3, am_jn_e, if_pos c1]
    by_cases g : J1 1 27 = 0
    · rw [if_pos g]
      exact ⟨-4, J1, rfl, Or.inl ⟨rfl, by unfold WN; rw [if_neg (by decide), if_pos rfl]; exact (okK_no27 kk).mp g⟩, k6, kk, f1⟩
    · rw [if_neg g]
      obtain ⟨s, hl, hn⟩ : ∃ s, isLop A s ∧ ∀ s', s' < s → ¬ isLop A s' := pk_least (isLop A) (Classical.byContradiction fun h => g ((okK_no27 kk).mpr fun s hs => h ⟨s, hs⟩))
      have hsA := hl.1
      obtain ⟨J2, e2, z2, g2⟩ := e_nobody J1
      have hA2 : isM J2 A := hA1.kept (fun k _ _ => by rw [g2 1 (by decide) (by decide)]) (g2 2 (by decide) (by decide))
      rw [e2, am_bd, if_pos c1, g2 1 (by decide) (by decide), e_lowestM (show s < 32 by omega) ((kk.2.1 s).mpr hl) (fun s' h g => hn s' h ((kk.2.1 s').mp g)), am_bd]
      obtain ⟨J3, s3, e3, h3, d3, f3⟩ := e_loopOf hw hA2 (show s < 6 by omega)
      have hx := nP_lt (show s < 6 by omega) (show s < 6 by omega) false
      have hd := (lop_iff hw (show s < 6 by omega) d3).mpr hl.2.2
      obtain ⟨w, J4, e4, l4, l5, w4, g4, _, f4⟩ := e_spellOne hw (tr := false) (F := fiP (fin1 s)) h3 (fun y hy => by
        rw [f3.1 15 (by decide) (by decide) (by decide) (by decide), f3.1 16 (by decide) (by decide) (by decide) (by decide)]
        exact z2 y hy) d3 (fun _ y hy hdy => edP_val rfl d3 hy hdy) (show nP s s false < gN false from hx) hd
      have e4' : pX11_spells rM (am_upI J3 15 (nP s s false) 1) 1 (nI (s3.1 (nP s s false))) (0 : Int32) = some J4 := e4
      rw [e3, am_bd]
      dsimp only
      rw [e_pN0 (by omega) (by omega), am_bd, inb (show nP s s false < 216 by omega) (by omega), am_ck_true, rM23, nIcl (show nP s s false < 1000000 by omega), am_let_e, e4', am_bd]
      have ff : wfr J1 J4 := (wfr.tr (J1 := J2) ⟨fun b a1 a2 a3 a4 a5 a6 a7 => g2 b a6 a7, fun k _ _ => by rw [g2 1 (by decide) (by decide)]⟩ (f3.w.tr f4))
      refine ⟨_, J4, rfl, Or.inr ⟨w, by rw [l4], l5, ?_, g4⟩, by rw [ff.six]; exact k6, ff.k kk, f1.tr ff.g⟩
      unfold WF
      rw [if_neg (by decide), if_pos rfl]
      refine ⟨s, hl, hn, w4.congr (fun v => ?_)⟩
      unfold gLop
      exact ⟨fun ⟨a, b⟩ => ⟨a, (gLop_ac hw (by omega) a).mp b⟩, fun ⟨a, b⟩ => ⟨a, (gLop_ac hw (by omega) a).mpr b⟩⟩
  · have c0 : ¬ nI 2 = (0 : Int32) := by decide
    have c3 : ¬ nI 2 = (3 : Int32) := by decide
    have c1 : ¬ nI 2 = (1 : Int32) := by decide
    rw [if_neg c0, if_neg c3, am_jn_e, if_neg c1]
    by_cases g : J1 1 28 = 0
    · rw [if_pos g]
      exact ⟨-4, J1, rfl, Or.inl ⟨rfl, by unfold WN; rw [if_neg (by decide), if_neg (by decide)]; exact (okK_no28 kk).mp g⟩, k6, kk, f1⟩
    · rw [if_neg g]
      obtain ⟨i, ⟨hi, hl⟩, hn⟩ : ∃ i, (i < 36 ∧ isSpl A (i / 6) (i % 6)) ∧ ∀ j, j < i → ¬ (j < 36 ∧ isSpl A (j / 6) (j % 6)) := pk_least (fun i => i < 36 ∧ isSpl A (i / 6) (i % 6)) (Classical.byContradiction fun h => g ((okK_no28 kk).mpr fun p q hs => h ⟨6 * p + q, by
        have hp := hs.2.1
        have hq := hs.2.2.1
        have u1 : (6 * p + q) / 6 = p := by omega
        have u2 : (6 * p + q) % 6 = q := by omega
        rw [u1, u2]
        exact ⟨by omega, hs⟩⟩))
      obtain ⟨p, hp⟩ : ∃ p, p = i / 6 := ⟨_, rfl⟩
      obtain ⟨q, hq⟩ : ∃ q, q = i % 6 := ⟨_, rfl⟩
      rw [← hp, ← hq] at hl
      have hpA := hl.2.1
      have hqA := hl.2.2.1
      have hn2 : ∀ p' q', bef p q p' q' → ¬ isSpl A p' q' := fun p' q' hb hs => by
        have hp' := hs.2.1
        have hq' := hs.2.2.1
        unfold bef at hb
        refine hn (6 * p' + q') (by omega) ?_
        rw [show (6 * p' + q') / 6 = p' by omega, show (6 * p' + q') % 6 = q' by omega]
        exact ⟨by omega, hs⟩
      obtain ⟨J2, e2, z2, g2⟩ := e_nobody J1
      have hA2 : isM J2 A := hA1.kept (fun k _ _ => by rw [g2 1 (by decide) (by decide)]) (g2 2 (by decide) (by decide))
      have kk2 : okK J2 A := kk.kept (fun k _ _ => by rw [g2 1 (by decide) (by decide)]) (g2 17 (by decide) (by decide))
      have ed : nI (6 * p + q) / (6 : Int32) = nI p := by
        rw [show (6 : Int32) = nI 6 from rfl, pk_div (by omega) (by omega) (by omega)]
        congr 1
        omega
      have er : nI (6 * p + q) - nI p * (6 : Int32) = nI q := by
        rw [show (6 : Int32) = nI 6 from rfl, pk_mul, pk_sub (by omega)]
        congr 1
        omega
      have eS := e_firstSplitM kk2 (show p < 6 by omega) (show q < 6 by omega) hl hn2
      rw [e2, am_bd, if_neg c1, eS, am_bd, ed, am_let_e, am_bd, ed, er, am_let_e]
      obtain ⟨J3, s3, e3, h3, d3, f3⟩ := e_splitOf hw hA2 (show p < 6 by omega) (show q < 6 by omega)
      have hx : 36 * p + 6 * p + q < 216 := by omega
      have hd := (spl_iff hw (show p < 6 by omega) (show q < 6 by omega) d3).mpr hl.2.2.2.2.2
      obtain ⟨w, J4, e4, l4, l5, w4, g4, _, f4⟩ := e_spellOne hw (tr := true) (F := fun x => x = 36 * p + 6 * q + q) h3 (fun y hy => by
        rw [f3.1 15 (by decide) (by decide) (by decide) (by decide), f3.1 16 (by decide) (by decide) (by decide) (by decide)]
        exact z2 y hy) d3 (fun h => by cases h) (show 36 * p + 6 * p + q < gN true from hx) hd
      have e4' : pX11_spells rM (am_upI J3 15 (36 * p + 6 * p + q) 1) 1 (nI (s3.1 (36 * p + 6 * p + q))) (1 : Int32) = some J4 := e4
      rw [e3, am_bd]
      dsimp only
      rw [e_tri, am_bd, inb hx (by omega), am_ck_true, rM23, nIcl (show 36 * p + 6 * p + q < 1000000 by omega), am_let_e, e4', am_bd]
      have ff : wfr J1 J4 := (wfr.tr (J1 := J2) ⟨fun b a1 a2 a3 a4 a5 a6 a7 => g2 b a6 a7, fun k _ _ => by rw [g2 1 (by decide) (by decide)]⟩ (f3.w.tr f4))
      refine ⟨_, J4, rfl, Or.inr ⟨w, by rw [l4], l5, ?_, g4⟩, by rw [ff.six]; exact k6, ff.k kk, f1.tr ff.g⟩
      unfold WF
      rw [if_neg (by decide), if_neg (by decide)]
      refine ⟨p, q, hl, hn2, w4.congr (fun v => ?_)⟩
      unfold gSpl
      exact ⟨fun ⟨a, b⟩ => ⟨a, (gSpl_ac hw (by omega) (by omega) a).mp b⟩, fun ⟨a, b⟩ => ⟨a, (gSpl_ac hw (by omega) (by omega) a).mpr b⟩⟩
end
