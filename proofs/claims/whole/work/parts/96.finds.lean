/-! the reference: what it finds of an automaton -/
section
variable {A : am_Au}
theorem gLop_ac (hw : aw A) {s : Nat} (hs : s < 6) {w : List Nat} (hwd : wdl w) : acw 72 (edP A) (fiP (fin1 s)) (nP s s false) w ↔ 2 ≤ pn A w s s := by
  rw [(acw_P hw (fin1 s) w hwd s s hs hs).2, show fpN A (fin1 s) w s = pn A w s s from fpN_pn w s s]
theorem tri_v {p q r : Nat} (hp : p < 6) (hq : q < 6) (hr : r < 6) : (36 * p + 6 * q + r) / 36 = p ∧ (36 * p + 6 * q + r) / 6 % 6 = q ∧ (36 * p + 6 * q + r) % 6 = r := by
  have e : (36 * p + 6 * q + r) / 6 = 6 * p + q := by omega
  rw [e]
  omega
theorem gSpl_ac (hw : aw A) {p q : Nat} (hp : p < 6) (hq : q < 6) {w : List Nat} (hwd : wdl w) : acw 216 (edT A) (fun x => x = 36 * p + 6 * q + q) (36 * p + 6 * p + q) w ↔ 1 ≤ pn A w p p ∧ 1 ≤ pn A w p q ∧ 1 ≤ pn A w q q := by
  have h := acw_T hw hp hq w hwd (36 * p + 6 * p + q) (by omega)
  obtain ⟨a, b, c⟩ := tri_v hp hp hq
  rw [a, b, c] at h
  exact h
theorem lop_iff (hw : aw A) {s : Nat} (hs : s < 6) {d : Nat → Nat} (hD : isDst 72 (edP A) (fiP (fin1 s)) d) : d (nP s s false) < 1000 ↔ ∃ w, gLop A s w := by
  have hx := nP_lt hs hs false
  constructor
  · intro h
    obtain ⟨_, w, h1, _, h3⟩ := hD.1 _ hx h
    exact ⟨w, h1, (gLop_ac hw hs h1).mp h3⟩
  · rintro ⟨w, h1, h2⟩
    exact hD.lt (by omega) w _ hx h1 ((gLop_ac hw hs h1).mpr h2)
theorem spl_iff (hw : aw A) {p q : Nat} (hp : p < 6) (hq : q < 6) {d : Nat → Nat} (hD : isDst 216 (edT A) (fun x => x = 36 * p + 6 * q + q) d) : d (36 * p + 6 * p + q) < 1000 ↔ ∃ w, gSpl A p q w := by
  have hx : 36 * p + 6 * p + q < 216 := by omega
  constructor
  · intro h
    obtain ⟨_, w, h1, _, h3⟩ := hD.1 _ hx h
    exact ⟨w, h1, (gSpl_ac hw hp hq h1).mp h3⟩
  · rintro ⟨w, h1, h2⟩
    exact hD.lt (by omega) w _ hx h1 ((gSpl_ac hw hp hq h1).mpr h2)
/-- the pairs before (p, q) -/
def bef (p q p' q' : Nat) : Prop := p' < p ∨ (p' = p ∧ q' < q)
theorem bef_s {p q p' q' : Nat} : bef p (q + 1) p' q' ↔ bef p q p' q' ∨ (p' = p ∧ q' = q) := by unfold bef; omega
def fnM (J : am_I) (A : am_Au) (p q : Nat) : Prop :=
  (∀ p' q', bef p q p' q' → p' < 6 → q' < 6 → (J 17 (6 * p' + q') = 1 ∧ isSpl A p' q') ∨ (J 17 (6 * p' + q') = 0 ∧ ¬ isSpl A p' q')) ∧
  ∃ k, k ≤ 6 * p + q ∧ J 1 28 = nI k ∧ (k = 0 ↔ ∀ p' q', bef p q p' q' → p' < 6 → q' < 6 → ¬ isSpl A p' q')
theorem fnM.step {J J2 : am_I} {p q : Nat} (h : fnM J A p q) (hp : p < 6) (hq : q < 6) (e17 : J2 17 = J 17) (e28 : J2 1 28 = J 1 28) : fnM (am_upI (am_upI J2 17 (6 * p + q) (bI (dcd (isSpl A p q)))) 1 28 (J2 1 28 + bI (dcd (isSpl A p q)))) A p (q + 1) := by
  obtain ⟨h1, k, h2, h3, h4⟩ := h
  refine ⟨fun p' q' hb hp' hq' => ?_, ?_⟩
  · rw [am_upI_ne (by decide)]
    by_cases e : p' = p ∧ q' = q
    · obtain ⟨rfl, rfl⟩ := e
      rw [am_upI_s]
      by_cases g : isSpl A p' q'
      · exact Or.inl ⟨by rw [dcd_pos g]; rfl, g⟩
      · exact Or.inr ⟨by rw [dcd_neg g]; rfl, g⟩
    · rw [am_upI_o (by omega), e17]
      exact h1 p' q' ((bef_s.mp hb).resolve_right e) hp' hq'
  · rw [am_upI_s, e28, h3]
    by_cases g : isSpl A p q
    · refine ⟨k + 1, by omega, by rw [dcd_pos g]; exact nI_1 k, ⟨fun h => by omega, fun h => ?_⟩⟩
      exact absurd g (h p q (bef_s.mpr (Or.inr ⟨rfl, rfl⟩)) hp hq)
    · refine ⟨k, by omega, by rw [dcd_neg g]; exact nI_add k 0, h4.trans ⟨fun h p' q' hb a b => ?_, fun h p' q' hb a b => h p' q' (bef_s.mpr (Or.inl hb)) a b⟩⟩
      rcases bef_s.mp hb with hb | ⟨rfl, rfl⟩
      · exact h p' q' hb a b
      · exact g
theorem fnM.next {J : am_I} {p : Nat} (h : fnM J A p 6) : fnM J A (p + 1) 0 := by
  obtain ⟨h1, k, h2, h3, h4⟩ := h
  have e : ∀ p' q', q' < 6 → (bef (p + 1) 0 p' q' ↔ bef p 6 p' q') := fun p' q' hq => by unfold bef; omega
  refine ⟨fun p' q' hb a b => h1 p' q' ((e p' q' b).mp hb) a b, k, by omega, h3, h4.trans ⟨fun h p' q' hb a b => h p' q' ((e p' q' b).mp hb) a b, fun h p' q' hb a b => h p' q' ((e p' q' b).mpr hb) a b⟩⟩
theorem fnM.kept {J J' : am_I} {p q : Nat} (h : fnM J A p q) (e1 : J' 17 = J 17) (e2 : J' 1 28 = J 1 28) : fnM J' A p q := by
  unfold fnM at *
  rw [e1, e2]; exact h
/-- what the reference's look may write -/
def ffr (J J' : am_I) : Prop := (∀ b, b ≠ 1 → b ≠ 3 → b ≠ 12 → b ≠ 13 → b ≠ 17 → J' b = J b) ∧ ∀ k, k ≠ 21 → k ≠ 27 → k ≠ 28 → J' 1 k = J 1 k
theorem ffr.rf (J : am_I) : ffr J J := ⟨fun _ _ _ _ _ _ => rfl, fun _ _ _ _ => rfl⟩
theorem ffr.tr {J J1 J2 : am_I} (h : ffr J J1) (g : ffr J1 J2) : ffr J J2 := ⟨fun b a1 a2 a3 a4 a5 => (g.1 b a1 a2 a3 a4 a5).trans (h.1 b a1 a2 a3 a4 a5), fun k a b c => (g.2 k a b c).trans (h.2 k a b c)⟩
theorem sfr.f {J J' : am_I} (h : sfr J J') : ffr J J' := ⟨fun b a1 a2 a3 a4 _ => h.1 b a1 a2 a3 a4, fun k a _ _ => h.2 k a⟩
theorem ffr.isM {J J' : am_I} (h : ffr J J') (hA : isM J A) : isM J' A := hA.kept (fun k a b => h.2 k (by omega) (by omega) (by omega)) (h.1 2 (by decide) (by decide) (by decide) (by decide) (by decide))
theorem e_fi86 (hw : aw A) {p : Nat} (hp : p < 6) {J : am_I} (hA : isM J A) (hF : fnM J A p 0) (j : am_I → Option am_I) :
    ∃ J', lX11_finds_86 rM 1 (uA A) (nI p) j am_fu (0 : Int32) J = j J' ∧ fnM J' A p 6 ∧ J' 1 27 = J 1 27 ∧ ffr J J' := by
  obtain ⟨J', e, h1, h2, h3⟩ := am_for0 (fun n i J => lX11_finds_86 rM 1 (uA A) (nI p) j n (nI i) J) 6 (fun q J' => fnM J' A p q ∧ J' 1 27 = J 1 27 ∧ ffr J J') j (by omega) (fun n q J1 hq hP => by
    obtain ⟨p1, p2, p3⟩ := hP
    have hA1 : isM J1 A := p3.isM hA
    have key : ∃ J2, sfr J1 J2 ∧ lX11_finds_86 rM 1 (uA A) (nI p) j (n + 1) (nI q) J1 = lX11_finds_86 rM 1 (uA A) (nI p) j n (nI (q + 1)) (am_upI (am_upI J2 17 (6 * p + q) (bI (dcd (isSpl A p q)))) 1 28 (J2 1 28 + bI (dcd (isSpl A p q)))) := by
      have fin : ∀ (c : Bool) (J2 : am_I), (am_ck (am_isb (bI c)) (am_ck (am_inb ((6 : Int32) * nI p + nI q) 36) (am_let (am_upI J2 (rM 1 26) (Int32.toNatClampNeg ((6 : Int32) * nI p + nI q)) (bI c)) (fun J31 => am_let (if bI c = 0 then (0 : Int32) else (1 : Int32)) (fun v32 => am_let (am_upI J31 1 28 ((J31 1 28) + v32)) (fun J34 => lX11_finds_86 rM 1 (uA A) (nI p) j n (nI q + (1 : Int32)) J34)))))) = lX11_finds_86 rM 1 (uA A) (nI p) j n (nI (q + 1)) (am_upI (am_upI J2 17 (6 * p + q) (bI c)) 1 28 (J2 1 28 + bI c)) := fun c J2 => by
        have e1 : (if bI c = 0 then (0 : Int32) else 1) = bI c := by cases c <;> rfl
        rw [isb_bI, am_ck_true, ix6, inb (show 6 * p + q < 36 by omega) (by omega), am_ck_true, am_let_e, rM26, nIcl (show 6 * p + q < 1000000 by omega), e1, am_let_e, am_let_e, am_upI_ne (show (1 : Nat) ≠ 17 by decide), nI_1]
      have hs : lX11_finds_86 rM 1 (uA A) (nI p) j (n + 1) (nI q) J1 = sX11_finds_86 rM 1 (uA A) (nI p) j (lX11_finds_86 rM 1 (uA A) (nI p) j n) (nI q) J1 := rfl
      rw [hs]
      unfold sX11_finds_86
      rw [if_neg (ng6 hq)]
      simp only [am_jn_e]
      by_cases g1 : p = q
      · refine ⟨J1, sfr.rf J1, ?_⟩
        rw [if_pos (by rw [g1]), dcd_neg (fun h : isSpl A p q => h.1 g1)]
        exact fin false J1
      · rw [if_neg (fun h => g1 ((nI_eq (by omega) (by omega)).mp h)), e_hb _ (show p < 32 by omega), am_bd]
        by_cases g2 : bt (uA A) p = true
        · rw [g2, if_neg (show ¬ bI true = 0 by decide), e_hb _ (show q < 32 by omega), am_bd]
          by_cases g3 : bt (uA A) q = true
          · rw [g3, if_neg (show ¬ bI true = 0 by decide)]
            obtain ⟨J2, s2, e2, h2, d2, f2⟩ := e_splitOf hw hA1 hp hq
            have hiff := spl_iff hw hp hq d2
            have hle := h2.2.2.2.2.2 (36 * p + 6 * p + q)
            rw [e2, am_bd]
            refine ⟨J2, f2, ?_⟩
            have hpA : p < A.1 := Nat.lt_of_not_le fun g => by rw [lon_uA hw p g] at g2; cases g2
            have hqA : q < A.1 := Nat.lt_of_not_le fun g => by rw [lon_uA hw q g] at g3; cases g3
            by_cases g4 : s2.1 (36 * p + 6 * p + q) < 1000
            · have c : ¬ (1000 : Int32) ≤ nI (s2.1 (36 * p + 6 * p + q)) := nI_ge (b := 1000) g4 (by omega)
              rw [dcd_pos (show isSpl A p q from ⟨g1, hpA, hqA, g2, g3, hiff.mp g4⟩)]
              dsimp only
              rw [if_neg c]
              exact fin true J2
            · have c : (1000 : Int32) ≤ nI (s2.1 (36 * p + 6 * p + q)) := nI_le (a := 1000) (by omega) (by omega)
              rw [dcd_neg (fun h : isSpl A p q => g4 (hiff.mpr h.2.2.2.2.2))]
              dsimp only
              rw [if_pos c]
              exact fin false J2
          · rw [Bool.eq_false_iff.mpr g3, if_pos (show bI false = 0 from rfl)]
            refine ⟨J1, sfr.rf J1, ?_⟩
            rw [dcd_neg (fun h : isSpl A p q => g3 h.2.2.2.2.1)]
            exact fin false J1
        · rw [Bool.eq_false_iff.mpr g2, if_pos (show bI false = 0 from rfl)]
          refine ⟨J1, sfr.rf J1, ?_⟩
          rw [dcd_neg (fun h : isSpl A p q => g2 h.2.2.2.1)]
          exact fin false J1
    obtain ⟨J2, f2, e2⟩ := key
    refine ⟨_, e2, p1.step hp hq (f2.1 17 (by decide) (by decide) (by decide) (by decide)) (f2.2 28 (by decide)), ?_, p3.tr (f2.f.tr ⟨fun b a1 a2 a3 a4 a5 => ?_, fun k a b c => ?_⟩)⟩
    · rw [am_upI_o (by decide), am_upI_ne (by decide), f2.2 27 (by decide)]; exact p2
    · rw [am_upI_ne a1, am_upI_ne a5]
    · rw [am_upI_o c, am_upI_ne (by decide)]) (fun n J' _ => by
    simp only [lX11_finds_86, sX11_finds_86, yg6, if_true]) J ⟨hF, rfl, ffr.rf J⟩
  exact ⟨J', e, h1, h2, h3⟩
theorem e_fi46 (hw : aw A) {J : am_I} (hA : isM J A) (h27 : J 1 27 = 0) (h28 : J 1 28 = 0) :
    ∃ J', lX11_finds_46 rM 1 (uA A) am_fu (0 : Int32) J = some J' ∧ fnM J' A 6 0 ∧ (∀ s, bt (J' 1 27) s = true ↔ isLop A s) ∧ ffr J J' := by
  have h6 := hw.2.1
  obtain ⟨J', e, h1, h2, h3⟩ := am_for0 (fun n i J => lX11_finds_46 rM 1 (uA A) n (nI i) J) 6 (fun p J' => fnM J' A p 0 ∧ (∀ s, bt (J' 1 27) s = true ↔ s < p ∧ isLop A s) ∧ ffr J J') (fun J => some J) (by omega) (fun n p J1 hp hP => by
    obtain ⟨p1, p2, p3⟩ := hP
    have hA1 : isM J1 A := p3.isM hA
    -- the loop state
    have key : ∃ J2, lX11_finds_46 rM 1 (uA A) (n + 1) (nI p) J1 = lX11_finds_86 rM 1 (uA A) (nI p) (fun J20 => lX11_finds_46 rM 1 (uA A) n (nI p + (1 : Int32)) J20) am_fu (0 : Int32) J2 ∧ fnM J2 A p 0 ∧ (∀ s, bt (J2 1 27) s = true ↔ s < p + 1 ∧ isLop A s) ∧ ffr J1 J2 := by
      have hs : lX11_finds_46 rM 1 (uA A) (n + 1) (nI p) J1 = sX11_finds_46 rM 1 (uA A) (lX11_finds_46 rM 1 (uA A) n) (nI p) J1 := rfl
      rw [hs]
      unfold sX11_finds_46
      rw [if_neg (ng6 hp), e_hb _ (show p < 32 by omega), am_bd]
      simp only [am_jn_e]
      have nolop : ¬ isLop A p → ∀ s, (s < p ∧ isLop A s) ↔ (s < p + 1 ∧ isLop A s) := fun hn s => by
        constructor
        · rintro ⟨a, b⟩; exact ⟨by omega, b⟩
        · rintro ⟨a, b⟩
          refine ⟨?_, b⟩
          have : s ≠ p := fun e => hn (e ▸ b)
          omega
      by_cases g1 : bt (uA A) p = true
      · have hpA : p < A.1 := Nat.lt_of_not_le fun g => by rw [lon_uA hw p g] at g1; cases g1
        obtain ⟨J2, s2, e2, h2, d2, f2⟩ := e_loopOf hw hA1 hp
        have hiff := lop_iff hw hp d2
        have hle := h2.2.2.2.2.2 (nP p p false)
        have e27 := f2.2 27 (by decide)
        have k2 : fnM J2 A p 0 := p1.kept (f2.1 17 (by decide) (by decide) (by decide) (by decide)) (f2.2 28 (by decide))
        rw [g1, if_neg (show ¬ bI true = 0 by decide), e2, am_bd]
        dsimp only
        by_cases g4 : s2.1 (nP p p false) < 1000
        · have c : ¬ (1000 : Int32) ≤ nI (s2.1 (nP p p false)) := nI_ge (b := 1000) g4 (by omega)
          rw [if_neg c, am_let_e]
          refine ⟨_, rfl, k2.kept (am_upI_ne (by decide)) (am_upI_o (by decide)), fun s => ?_, f2.f.tr ⟨fun b a _ _ _ _ => am_upI_ne a, fun k _ b _ => am_upI_o b⟩⟩
          rw [am_upI_s, bt_or, Bool.or_eq_true, bt_1s (by omega), decide_eq_true_eq, e27, p2 s]
          constructor
          · rintro (⟨a, b⟩ | rfl)
            · exact ⟨by omega, b⟩
            · exact ⟨by omega, hpA, g1, hiff.mp g4⟩
          · rintro ⟨a, b⟩
            by_cases e : s = p
            · exact Or.inr e
            · exact Or.inl ⟨by omega, b⟩
        · have c : (1000 : Int32) ≤ nI (s2.1 (nP p p false)) := nI_le (a := 1000) (by omega) (by omega)
          rw [if_pos c]
          refine ⟨J2, rfl, k2, fun s => ?_, f2.f⟩
          rw [e27, p2 s]
          exact nolop (fun h => g4 (hiff.mpr h.2.2)) s
      · rw [Bool.eq_false_iff.mpr g1, if_pos (show bI false = 0 from rfl)]
        refine ⟨J1, rfl, p1, fun s => ?_, ffr.rf J1⟩
        rw [p2 s]
        exact nolop (fun h => g1 h.2.1) s
    obtain ⟨J2, e2, q1, q2, q3⟩ := key
    obtain ⟨J3, e3, r1, r2, r3⟩ := e_fi86 hw hp ((p3.tr q3).isM hA) q1 (fun J20 => lX11_finds_46 rM 1 (uA A) n (nI p + (1 : Int32)) J20)
    refine ⟨J3, ?_, r1.next, fun s => by rw [r2]; exact q2 s, (p3.tr q3).tr r3⟩
    rw [e2, e3, nI_1]) (fun n J' _ => by
    simp only [lX11_finds_46, sX11_finds_46, yg6, if_true]) J ⟨⟨fun p' q' hb => by unfold bef at hb; omega, 0, Nat.zero_le _, h28, ⟨fun _ p' q' hb => by unfold bef at hb; omega, fun _ => rfl⟩⟩, fun s => by rw [h27, bt_zero]; exact ⟨fun h => (by cases h), fun h => absurd h.1 (Nat.not_lt_zero s)⟩, ffr.rf J⟩
  refine ⟨J', e, h1, fun s => (h2 s).trans ⟨fun h => h.2, fun h => ⟨?_, h⟩⟩, h3⟩
  have := h.1
  omega
/-- the frame of the whole look -/
def gfr (J J' : am_I) : Prop := (∀ b, b ≠ 1 → b ≠ 3 → b ≠ 12 → b ≠ 13 → b ≠ 14 → b ≠ 15 → b ≠ 16 → b ≠ 17 → J' b = J b) ∧ ∀ k, k ≠ 6 → k ≠ 21 → k ≠ 25 → k ≠ 27 → k ≠ 28 → k ≠ 29 → J' 1 k = J 1 k
theorem e_finds (hw : aw A) {J : am_I} (hA : isM J A) (hK : mK J A) : ∃ J', pX11_finds rM J 1 = some J' ∧ J' 1 6 = 1 ∧ okK J' A ∧ isM J' A ∧ gfr J J' := by
  unfold pX11_finds
  rcases hK with h0 | ⟨h0, hK⟩
  · rw [h0, if_pos rfl, am_let_e]
    have hA1 : isM (am_upI J 1 6 1) A := isM_1 hA (by omega) 1
    obtain ⟨r, J4, e4, h4, hA4, f4⟩ := e_spellAmb hw hA1
    rw [e_useful hA1 hw, am_bd, e4, am_bd]
    have hr : ∃ c : Bool, (if r < 0 then (0 : Int32) else 1) = bI c ∧ (c = true ↔ isAmb A) := by
      rcases h4 with ⟨rfl, hn⟩ | ⟨w, rfl, _, hf, _⟩
      · exact ⟨false, rfl, ⟨fun h => (by cases h), fun h => absurd h hn⟩⟩
      · refine ⟨true, ?_, ⟨fun _ => ⟨w, hf.1⟩, fun _ => rfl⟩⟩
        rw [if_neg (nI_pos (by omega))]; rfl
    obtain ⟨c, ec, hc⟩ := hr
    dsimp only
    rw [ec, am_let_e, isb_bI, am_ck_true, am_let_e, am_let_e, am_let_e]
    generalize hJ5 : am_upI (am_upI (am_upI J4 1 29 (bI c)) 1 27 0) 1 28 0 = J5
    have k5 : ∀ k, k ≠ 27 → k ≠ 28 → k ≠ 29 → J5 1 k = J4 1 k := fun k a b c => by rw [← hJ5, am_upI_o b, am_upI_o a, am_upI_o c]
    have b5 : ∀ b, b ≠ 1 → J5 b = J4 b := fun b h => by rw [← hJ5, am_upI_ne h, am_upI_ne h, am_upI_ne h]
    have z27 : J5 1 27 = 0 := by rw [← hJ5, am_upI_o (by decide), am_upI_s]
    have z28 : J5 1 28 = 0 := by rw [← hJ5, am_upI_s]
    have z29 : J5 1 29 = bI c := by rw [← hJ5, am_upI_o (by decide), am_upI_o (by decide), am_upI_s]
    have hA5 : isM J5 A := hA4.kept (fun k a b => k5 k (by omega) (by omega) (by omega)) (b5 2 (by decide))
    obtain ⟨J6, e6, g1, g2, g3⟩ := e_fi46 hw hA5 z27 z28
    refine ⟨J6, e6, ?_, ⟨?_, g2, ?_, ?_⟩, g3.isM hA5, fun b a1 a2 a3 a4 a5 a6 a7 a8 => ?_, fun k a1 a2 a3 a4 a5 a6 => ?_⟩
    · rw [g3.2 6 (by decide) (by decide) (by decide), k5 6 (by decide) (by decide) (by decide), f4.2 6 (by decide) (by decide), am_upI_s]
    · rw [g3.2 29 (by decide) (by decide) (by decide), z29]
      by_cases h : isAmb A
      · exact Or.inl ⟨by rw [hc.mpr h]; rfl, h⟩
      · refine Or.inr ⟨?_, h⟩
        cases c with
        | false => rfl
        | true => exact absurd (hc.mp rfl) h
    · intro p q hp hq
      exact g1.1 p q (Or.inl hp) hp hq
    · obtain ⟨k, h1, h2, h3⟩ := g1.2
      refine ⟨k, by omega, h2, h3.trans ⟨fun h p q hs => ?_, fun h p q _ _ _ => h p q⟩⟩
      have h6 := hw.2.1
      have hp := hs.2.1
      have hq := hs.2.2.1
      exact h p q (Or.inl (by omega)) (by omega) (by omega) hs
    · rw [g3.1 b a1 a2 a3 a4 a8, b5 b a1, f4.1 b a1 a2 a3 a4 a5 a6 a7, am_upI_ne a1]
    · rw [g3.2 k a2 a4 a5, k5 k a4 a5 a6, f4.2 k a2 a3, am_upI_o a1]
  · rw [h0, if_neg (by decide)]
    exact ⟨J, rfl, h0, hK, hA, fun _ _ _ _ _ _ _ _ _ => rfl, fun _ _ _ _ _ _ _ => rfl⟩
/-- the kind of an automaton: 0 one way, 1 finite, 2 polynomial, 3 exponential -/
noncomputable def kinA (A : am_Au) : Int32 := if dcd (isAmb A) = true then (if dcd (∃ s, isLop A s) = true then 3 else (if dcd (∃ p q, isSpl A p q) = true then 2 else 1)) else 0
theorem e_kindOf (hw : aw A) {J : am_I} (hA : isM J A) (hK : mK J A) : ∃ J', pX11_kindOf rM J 1 = some (kinA A, J') ∧ J' 1 6 = 1 ∧ okK J' A ∧ isM J' A ∧ gfr J J' := by
  obtain ⟨J', e, h1, h2, h3, h4⟩ := e_finds hw hA hK
  unfold pX11_kindOf
  rw [e, am_bd]
  refine ⟨J', ?_, h1, h2, h3, h4⟩
  obtain ⟨k1, k2, k3, k, k4, k5, k6⟩ := h2
  unfold kinA
  rcases k1 with ⟨a, b⟩ | ⟨a, b⟩
  · rw [a, if_neg (by decide), if_pos (dcd_pos b)]
    by_cases g : ∃ s, isLop A s
    · have hn : ¬ J' 1 27 = 0 := fun h => by
        obtain ⟨s, hs⟩ := g
        have := (k2 s).mpr hs
        rw [h, bt_zero] at this; cases this
      rw [if_neg hn, if_pos (dcd_pos g)]
    · have hn : J' 1 27 = 0 := bt_ext fun s _ => by
        rw [bt_zero]
        cases e : bt (J' 1 27) s with
        | false => rfl
        | true => exact absurd ⟨s, (k2 s).mp e⟩ g
      rw [if_pos hn, k5, dcd_neg g, if_neg (show ¬ false = true by decide)]
      by_cases g2 : ∃ p q, isSpl A p q
      · have hk : k ≠ 0 := fun h => by
          obtain ⟨p, q, hs⟩ := g2
          exact (k6.mp h) p q hs
        have c : ¬ nI k ≤ (0 : Int32) := by
          rw [show (0 : Int32) = nI 0 from nI_0.symm]
          exact nI_ge (by omega) (by omega)
        rw [if_neg c, if_pos (dcd_pos g2)]
      · have hk : k = 0 := k6.mpr (fun p q hs => g2 ⟨p, q, hs⟩)
        have c : nI k ≤ (0 : Int32) := by
          rw [show (0 : Int32) = nI 0 from nI_0.symm]
          exact nI_le (by omega) (by omega)
        rw [if_pos c, dcd_neg g2, if_neg (show ¬ false = true by decide)]
  · rw [a, if_pos rfl, if_neg (by rw [dcd_neg b]; decide)]
end
section
variable {K : am_L}
theorem InvM.found {J J' : am_I} {A : am_Au} {w : Nat → Nat} {sv : am_Sv} {tx wd : am_Tx} {rs : Option am_Rs} {sh : Nat → am_Sf} (h : InvM J K A w sv tx wd rs sh) (f : gfr J J') (hK : mK J' A) : InvM J' K A w sv tx wd rs sh := by
  obtain ⟨h1, h2, h3, h4, h5, h6, h7, h8⟩ := h
  obtain ⟨f1, f2⟩ := f
  have b : ∀ c, c ≠ 1 → c ≠ 3 → ¬ (12 ≤ c ∧ c ≤ 17) → J' c = J c := fun c x y z => f1 c x y (by omega) (by omega) (by omega) (by omega) (by omega) (by omega)
  have k : ∀ c, c ≠ 6 → c ≠ 21 → ¬ (25 ≤ c ∧ c ≤ 29) → J' 1 c = J 1 c := fun c x y z => f2 c x y (by omega) (by omega) (by omega) (by omega)
  exact ⟨h1.kept (fun c x y => k c (by omega) (by omega) (by omega)) (b 2 (by omega) (by omega) (by omega)), h2.kept (b 4 (by omega) (by omega) (by omega)), h3.kept (k 49 (by omega) (by omega) (by omega)) (b 32 (by omega) (by omega) (by omega)), h4.kept (k 12 (by omega) (by omega) (by omega)) (b 7 (by omega) (by omega) (by omega)), h5.kept (k 16 (by omega) (by omega) (by omega)) (b 9 (by omega) (by omega) (by omega)), h6.kept (k 40 (by omega) (by omega) (by omega)) rfl rfl, h7.kept (b 28 (by omega) (by omega) (by omega)) (b 29 (by omega) (by omega) (by omega)) rfl, hK⟩
end
