/-! the class's search: running it -/
section
variable {R : am_R} {A : am_Au}
theorem tab.kept {I I' : am_I} (hT : ∀ a, a < 3 → tab I 26 27 A a 64) (e1 : I' 26 = I 26) (e2 : I' 27 = I 27) : ∀ a, a < 3 → tab I' 26 27 A a 64 := fun a ha X hX => by rw [e1, e2]; exact hT a ha X hX
/-- a found word -/
def fdW (A : am_Au) (sp : Bool) (I : am_I) (w : List Nat) : Prop := ∃ L z0 mt q pr lt W m k, seM I L mt q pr lt m ∧ SI (nxS A sp) z0 mt q pr lt W m k 0 ∧ k < m ∧ I 24 10 = nI k ∧ W k = w
theorem e_run84 (hR : okC R) (hw : aw A) {sp : Bool} {I0 : am_I} {L0 : am_L} (hmd : I0 24 5 = 2 ↔ sp = true) (hT : ∀ a, a < 3 → tab I0 26 27 A a 64) {z0 k : Nat} {G : Nat → Prop} (j : am_I → am_L → Option (Int32 × am_I × am_L)) {I : am_I} {L : am_L} (h0 : ∃ mt q pr lt W m, seM I L mt q pr lt m ∧ SI (nxS A sp) z0 mt q pr lt W m k 0 ∧ k < m ∧ (∀ i, i ≤ k → ¬ G (q i)) ∧ sef I0 L0 I L) :
    ∃ I' L', lX9_run_84 R 24 (nI k) j am_fu (0 : Int32) I L = j I' L' ∧ ∃ mt q pr lt W m, seM I' L' mt q pr lt m ∧ SI (nxS A sp) z0 mt q pr lt W m (k + 1) 0 ∧ (∀ i, i < k + 1 → ¬ G (q i)) ∧ sef I0 L0 I' L' := by
  obtain ⟨⟨I', L'⟩, e, mt, q, pr, lt, W, m, g1, g2, g3, g4, g5⟩ := am_for0 (fun n i (s : am_I × am_L) => lX9_run_84 R 24 (nI k) j n (nI i) s.1 s.2) 3 (fun a s => ∃ mt q pr lt W m, seM s.1 s.2 mt q pr lt m ∧ SI (nxS A sp) z0 mt q pr lt W m k a ∧ k < m ∧ (∀ i, i ≤ k → ¬ G (q i)) ∧ sef I0 L0 s.1 s.2) (fun s => j s.1 s.2) (by omega) (fun n a s ha hP => by
    obtain ⟨mt, q, pr, lt, W, m, g1, g2, g3, g4, g5⟩ := hP
    have hmd' : s.1 24 5 = 2 ↔ sp = true := by rw [g5.2.1 5 (by decide) (by decide)]; exact hmd
    obtain ⟨I1, L1, mt', q', pr', lt', W', m', e1, r1, r2, r3, r4, r5⟩ := e_goOn hR hw hmd' (tab.kept hT (g5.1 26 (by decide) (by decide)) (g5.1 27 (by decide) (by decide))) g1 g2 g3 ha
    refine ⟨(I1, L1), ?_, mt', q', pr', lt', W', m', r1, r2, by omega, fun i hi => by rw [r3 i (by omega)]; exact g4 i hi, g5.tr r5⟩
    show sX9_run_84 R 24 (nI k) j (lX9_run_84 R 24 (nI k) j n) (nI a) s.1 s.2 = _
    unfold sX9_run_84
    rw [if_neg (ng3 ha), e1, am_bd, nI_1]) (fun n s _ => by
    show sX9_run_84 R 24 (nI k) j (lX9_run_84 R 24 (nI k) j n) (nI 3) s.1 s.2 = _
    unfold sX9_run_84
    rw [if_pos yg3]) (I, L) h0
  exact ⟨I', L', e, mt, q, pr, lt, W, m, g1, g2.next g3, fun i hi => g4 i (by omega), g5⟩
theorem e_run40 (hR : okC R) (hw : aw A) {sp : Bool} {I0 : am_I} {L0 : am_L} (hmd : I0 24 5 = 2 ↔ sp = true) (hT : ∀ a, a < 3 → tab I0 26 27 A a 64) {z0 : Nat} {G : Nat → Prop} (hG : ∀ I' : am_I, (∀ k, k ≠ 9 → k ≠ 10 → I' 24 k = I0 24 k) → ∀ X, X < 64 → ∀ Y, Y < 64 → pX9_isGoal I' 24 (nI X) (nI Y) = some (bI (dcd (G (64 * X + Y))))) {I : am_I} {L : am_L} (h0 : ∃ mt q pr lt W m, seM I L mt q pr lt m ∧ SI (nxS A sp) z0 mt q pr lt W m 0 0 ∧ sef I0 L0 I L) :
    ∃ c I' L', lX9_run_40 R 24 am_fu (0 : Int32) I L = some (bI c, I', L') ∧ sef I0 L0 I' L' ∧ (c = true → ∃ w, isFst (fun v => wdl v ∧ G (rn (nxS A sp) z0 v)) w ∧ fdW A sp I' w) ∧ (c = false → ∀ v, wdl v → ¬ G (rn (nxS A sp) z0 v)) := by
  have key := am_forQ (fun n i (s : am_I × am_L) => lX9_run_40 R 24 n (nI i) s.1 s.2) 4096 (fun k s => ∃ mt q pr lt W m, seM s.1 s.2 mt q pr lt m ∧ SI (nxS A sp) z0 mt q pr lt W m k 0 ∧ (∀ i, i < k → ¬ G (q i)) ∧ sef I0 L0 s.1 s.2) (fun r => ∃ c I' L', r = some (bI c, I', L') ∧ sef I0 L0 I' L' ∧ (c = true → ∃ w, isFst (fun v => wdl v ∧ G (rn (nxS A sp) z0 v)) w ∧ fdW A sp I' w) ∧ (c = false → ∀ v, wdl v → ¬ G (rn (nxS A sp) z0 v))) (by omega) (fun n k s hk hP => by
    obtain ⟨mt, q, pr, lt, W, m, g1, g2, g4, g5⟩ := hP
    have hm := g2.m_le
    have hs : lX9_run_40 R 24 (n + 1) (nI k) s.1 s.2 = sX9_run_40 R 24 (lX9_run_40 R 24 n) (nI k) s.1 s.2 := rfl
    by_cases hkm : k < m
    · have hpk : pr k < 4096 ∧ lt k < 3 := by
        by_cases e : k = 0
        · rw [e, g2.1.2.2.2.1, g2.1.2.2.2.2]; exact ⟨by omega, by omega⟩
        · obtain ⟨a1, a2, _⟩ := g2.2.1 k (by omega) hkm
          exact ⟨by omega, a2⟩
      have hq := (g2.2.2.1 k hkm).2.2
      have hgk := hG s.1 (fun k x y => g5.2.1 k x y) (q k / 64) (by omega) (q k % 64) (by omega)
      rw [show 64 * (q k / 64) + q k % 64 = q k by omega] at hgk
      have c1 : ¬ nI m ≤ nI k := nIge hkm (by omega)
      have c2 : ¬ (4096 : Int32) ≤ nI k := nI_ge (b := 4096) (by omega) (by omega)
      by_cases g : G (q k)
      · right
        rw [dcd_pos g] at hgk
        refine ⟨true, am_upI s.1 24 10 (nI k), s.2, ?_, g5.tr ⟨fun b x y => am_upI_ne x, fun j x y => am_upI_o y, fun _ _ => rfl⟩, fun _ => ⟨W k, g2.found hkm g g4, s.2, z0, mt, q, pr, lt, W, m, k, ⟨by rw [am_upI_o (by decide)]; exact g1.1, fun i hi => by rw [am_upI_ne (by decide)]; exact g1.2.1 i hi, g1.2.2⟩, g2, hkm, am_upI_s, rfl⟩, fun h => (by cases h)⟩
        show lX9_run_40 R 24 (n + 1) (nI k) s.1 s.2 = _
        rw [hs]
        unfold sX9_run_40
        rw [g1.1, if_neg c1, if_neg c2, e_firstSet hR g1 hm hkm hpk.1 hpk.2 hq, am_bd, e_secondSet hR g1 hm hkm hpk.1 hpk.2 hq, am_bd, hgk, am_bd, if_neg (show ¬ bI true = 0 by decide), am_let_e]
        rfl
      · left
        rw [dcd_neg g] at hgk
        obtain ⟨I1, L1, e1, r1⟩ := e_run84 hR hw hmd hT (G := G) (fun (J19 : am_I) (J20 : am_L) => lX9_run_40 R 24 n (nI k + (1 : Int32)) J19 J20) (I := s.1) (L := s.2) ⟨mt, q, pr, lt, W, m, g1, g2, hkm, fun i hi => by
          by_cases e : i = k
          · rw [e]; exact g
          · exact g4 i (by omega), g5⟩
        refine ⟨(I1, L1), ?_, r1⟩
        show lX9_run_40 R 24 (n + 1) (nI k) s.1 s.2 = _
        rw [hs]
        unfold sX9_run_40
        rw [g1.1, if_neg c1, if_neg c2, e_firstSet hR g1 hm hkm hpk.1 hpk.2 hq, am_bd, e_secondSet hR g1 hm hkm hpk.1 hpk.2 hq, am_bd, hgk, am_bd, if_pos (show bI false = 0 from rfl), am_jn_e, e1, nI_1]
    · right
      have hmk : k = m := by have := g2.2.2.2.2.2.2.2; omega
      subst hmk
      refine ⟨false, s.1, s.2, ?_, g5, fun h => (by cases h), fun _ => g2.none g4⟩
      show lX9_run_40 R 24 (n + 1) (nI k) s.1 s.2 = _
      rw [hs]
      unfold sX9_run_40
      rw [g1.1, if_pos (nIle (by omega))]
      rfl) (fun n s hP => by
    obtain ⟨mt, q, pr, lt, W, m, g1, g2, g4, g5⟩ := hP
    have hm := g2.m_le
    have hmk : m = 4096 := by have := g2.2.2.2.2.2.2.2; omega
    subst hmk
    refine ⟨false, s.1, s.2, ?_, g5, fun h => (by cases h), fun _ => g2.none g4⟩
    have hs : lX9_run_40 R 24 (n + 1) (nI 4096) s.1 s.2 = sX9_run_40 R 24 (lX9_run_40 R 24 n) (nI 4096) s.1 s.2 := rfl
    show lX9_run_40 R 24 (n + 1) (nI 4096) s.1 s.2 = _
    rw [hs]
    unfold sX9_run_40
    rw [g1.1, if_pos (nIle (by omega))]
    rfl) (I, L) (by
    obtain ⟨mt, q, pr, lt, W, m, g1, g2, g3⟩ := h0
    exact ⟨mt, q, pr, lt, W, m, g1, g2, fun i hi => absurd hi (Nat.not_lt_zero i), g3⟩)
  exact key
theorem e_run (hR : okC R) (hw : aw A) {sp : Bool} {I : am_I} {L : am_L} (hmd : I 24 5 = 2 ↔ sp = true) (hT : ∀ a, a < 3 → tab I 26 27 A a 64) {X Y : Nat} (hX : X < 64) (hY : Y < 64) {G : Nat → Prop} (hG : ∀ I' : am_I, (∀ k, k ≠ 9 → k ≠ 10 → I' 24 k = I 24 k) → ∀ X, X < 64 → ∀ Y, Y < 64 → pX9_isGoal I' 24 (nI X) (nI Y) = some (bI (dcd (G (64 * X + Y))))) :
    ∃ c I' L', pX9_run R I L 24 (nI X) (nI Y) = some (bI c, I', L') ∧ sef I L I' L' ∧ (c = true → ∃ w, isFst (fun v => wdl v ∧ G (rn (nxS A sp) (64 * X + Y) v)) w ∧ fdW A sp I' w) ∧ (c = false → ∀ v, wdl v → ¬ G (rn (nxS A sp) (64 * X + Y) v)) := by
  unfold pX9_run
  rw [am_jn_e]
  have r11 := hR.s24.2.2.1
  obtain ⟨L1, e1, h1, h2⟩ := am_for0 (fun n i (L' : am_L) => lX9_run_2 R I 24 (nI X) (nI Y) (fun (J2 : am_L) => am_let (am_upI I 24 9 (0 : Int32)) (fun J3 => am_let (am_upI J3 24 10 (-1 : Int32)) (fun J4 => Option.bind (pX9_meet R J4 J2 24 (nI X) (nI Y) (0 : Int32)) (fun r5 => lX9_run_40 R 24 am_fu (0 : Int32) r5.1 r5.2)))) n (nI i) L') 64 (fun i L' => (∀ s, s < i → L' 29 s = 0) ∧ ∀ b, b ≠ 29 → L' b = L b) (fun J2 => am_let (am_upI I 24 9 (0 : Int32)) (fun J3 => am_let (am_upI J3 24 10 (-1 : Int32)) (fun J4 => Option.bind (pX9_meet R J4 J2 24 (nI X) (nI Y) (0 : Int32)) (fun r5 => lX9_run_40 R 24 am_fu (0 : Int32) r5.1 r5.2)))) (by omega) (fun n i L' hi hP => by
    refine ⟨am_upL L' 29 i 0, ?_, fun s hs => ?_, fun b hb => by rw [am_upL_n hb]; exact hP.2 b hb⟩
    · simp only [lX9_run_2, sX9_run_2, ng64 hi, if_false, inb hi (show 64 < 1000000 by omega), am_ck_true, r11, nIcl (show i < 1000000 by omega), nI_1]
      rfl
    · by_cases q : s = i
      · rw [q, am_upL_s]
      · rw [am_upL_o q]; exact hP.1 s (by omega)) (fun n L' _ => by
    simp only [lX9_run_2, sX9_run_2, yg64, if_true]) L ⟨fun s hs => absurd hs (Nat.not_lt_zero s), fun _ _ => rfl⟩
  rw [nI_0] at e1
  rw [e1, am_let_e, am_let_e]
  generalize hI1 : am_upI (am_upI I 24 9 (0 : Int32)) 24 10 (-1 : Int32) = I1
  have f1 : sef I L I1 L1 := ⟨fun b x _ => by rw [← hI1, am_upI_ne x, am_upI_ne x], fun k x y => by rw [← hI1, am_upI_o y, am_upI_o x], h2⟩
  have s1 : seM I1 L1 (fun _ => false) (fun _ => 64 * X + Y) (fun _ => 0) (fun _ => 0) 0 := ⟨by rw [← hI1, am_upI_o (by decide), am_upI_s]; rfl, fun i hi => absurd hi (Nat.not_lt_zero i), fun X' hX' Y' _ => by rw [h1 X' hX', btl_zero]⟩
  obtain ⟨I2, L2, e2, _, g2, f2⟩ := e_meet hR s1 (by omega) hX hY (k := 0) (a := 0) (by omega) (by omega) (fun _ => by omega)
  have e2 : pX9_meet R I1 L1 24 (nI X) (nI Y) (0 : Int32) = some (I2, L2) := e2
  rw [e2, am_bd]
  have g2 := g2 rfl
  have u0 : ∀ v : Nat, updN (fun _ => v) 0 v = fun _ => v := fun v => by
    funext i
    by_cases e : i = 0
    · rw [e, updN_s]
    · rw [updN_o e]
  rw [u0, u0] at g2
  obtain ⟨c, I3, L3, e3, f3, r1, r2⟩ := e_run40 hR hw (I0 := I) (L0 := L) hmd hT hG (I := I2) (L := L2) ⟨_, _, _, _, _, _, g2, SI.init (nxS A sp) (show 64 * X + Y < 4096 by omega), f1.tr f2⟩
  exact ⟨c, I3, L3, e3, f3, r1, r2⟩
end
