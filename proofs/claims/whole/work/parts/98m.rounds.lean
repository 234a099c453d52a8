/-! the class: rounds of the longest chain -/
section
variable {R : am_R} {A : am_Au} {I : am_I} {L : am_L}
def chM (I : am_I) (c : Nat → Nat) : Prop := ∀ s, s < 6 → I 30 s = nI (c s)
theorem nI_ltd {a b : Nat} (ha : a < 1000000) (hb : b < 1000000) : nI a < nI b ↔ a < b := by
  rw [Int32.lt_iff_toInt_lt, nI_toInt (by omega), nI_toInt (by omega)]
  omega
theorem e_pr33 (hR : okC R) (x : Int32) {m : Nat} (hm : m < 1000) {c : Nat → Nat} (hc : chM I c) (hcl : ∀ s, s < 6 → c s < 1000) : ∃ I', lX9_prolongChains_33 R 24 (nI m) x am_fu (0 : Int32) I = some I' ∧ chM I' (fun s => if bt x s = true then (if c s < m then m else c s) else c s) ∧ ∀ b, b ≠ 30 → I' b = I b := by
  obtain ⟨I', e, h1, h2⟩ := am_for0 (fun n i J => lX9_prolongChains_33 R 24 (nI m) x n (nI i) J) 6 (fun i J => (∀ s, s < 6 → J 30 s = if s < i then nI (if bt x s = true then (if c s < m then m else c s) else c s) else nI (c s)) ∧ ∀ b, b ≠ 30 → J b = I b) (fun J => some J) (by omega) (fun n i J hi hP => by
    obtain ⟨p1, p2⟩ := hP
    have hs : lX9_prolongChains_33 R 24 (nI m) x (n + 1) (nI i) J = sX9_prolongChains_33 R 24 (nI m) x (lX9_prolongChains_33 R 24 (nI m) x n) (nI i) J := rfl
    have hi0 := p1 i hi
    rw [if_neg (Nat.lt_irrefl i)] at hi0
    by_cases hb : bt x i = true
    · refine ⟨am_upI J 30 i (nI (if c i < m then m else c i)), ?_, fun s hs6 => ?_, fun b x => by rw [am_upI_ne x]; exact p2 b x⟩
      · rw [hs]
        unfold sX9_prolongChains_33
        rw [if_neg (ng6 hi), e_cb _ (show i < 32 by omega), am_bd, am_jn_e, hb, if_neg (show ¬ bI true = 0 by decide), inb hi (by omega), am_ck_true, am_ck_true, am_let_e, hR.r24_12, nIcl (show i < 1000000 by omega), hi0, nI_1]
        have hci := hcl i hi
        by_cases g : c i < m
        · rw [if_pos g, if_pos ((nI_ltd (by omega) (by omega)).mpr g)]
        · rw [if_neg g, if_neg (fun h => g ((nI_ltd (by omega) (by omega)).mp h))]
      · by_cases e : s = i
        · rw [e, am_upI_s, if_pos (show i < i + 1 by omega), if_pos hb]
        · rw [am_upI_o e, p1 s hs6]
          by_cases g : s < i
          · rw [if_pos g, if_pos (show s < i + 1 by omega)]
          · rw [if_neg g, if_neg (show ¬ s < i + 1 by omega)]
    · refine ⟨J, ?_, fun s hs6 => ?_, p2⟩
      · rw [hs]
        unfold sX9_prolongChains_33
        rw [if_neg (ng6 hi), e_cb _ (show i < 32 by omega), am_bd, am_jn_e, Bool.eq_false_iff.mpr hb, if_pos (show bI false = 0 from rfl), nI_1]
      · rw [p1 s hs6]
        by_cases e : s = i
        · rw [e, if_neg (Nat.lt_irrefl i), if_pos (show i < i + 1 by omega), if_neg hb]
        · by_cases g : s < i
          · rw [if_pos g, if_pos (show s < i + 1 by omega)]
          · rw [if_neg g, if_neg (show ¬ s < i + 1 by omega)]) (fun n J _ => by
    show sX9_prolongChains_33 R 24 (nI m) x (lX9_prolongChains_33 R 24 (nI m) x n) (nI 6) J = _
    unfold sX9_prolongChains_33
    rw [if_pos yg6]) I ⟨fun s hs => by rw [if_neg (Nat.not_lt_zero s)]; exact hc s hs, fun _ _ => rfl⟩
  refine ⟨I', e, fun s hs => ?_, h2⟩
  rw [h1 s hs, if_pos hs]
theorem e_prolong (hR : okC R) (hw : aw A) (hA : isA I 2 3 A) {p q : Nat} (hp : p < 6) {c : Nat → Nat} (hc : chM I c) (hcl : ∀ s, s < 6 → c s < 900) : ∃ I', pX9_prolongChains R I 24 2 (nI p) (nI q) = some I' ∧ chM I' (prl A p q c) ∧ ∀ b, b ≠ 30 → I' b = I b := by
  have hA3 : isA I 2 (R 2 3) A := by rw [hR.r2_3]; exact hA
  have c6 : nI p < (6 : Int32) := nI_lt0 (b := 6) hp (by omega)
  have hcp := hcl p hp
  obtain ⟨I', e, h1, h2⟩ := e_pr33 (I := I) hR (rc A q) (m := c p + 1) (by omega) hc (fun s hs => by have := hcl s hs; omega)
  refine ⟨I', ?_, h1, h2⟩
  unfold pX9_prolongChains
  rw [if_neg (nI_pos (by omega)), if_pos c6, inb hp (by omega), am_ck_true, hR.r24_12, nIcl (show p < 1000000 by omega), hc p hp, nI_1, am_let_e, e_reachedFrom hA3 hw, am_bd]
  exact e
/-- the chains through the pairs below i are right in this round -/
def cpP (A : am_Au) (c : Nat → Nat) (r i : Nat) : Prop := ∀ k p q, k < r + 1 → 6 * p + q < i → q < 6 → CH A k p q → ∀ s, s < 6 → bt (rc A q) s = true → k + 1 ≤ c s
theorem cpP.step {c : Nat → Nat} {r p q : Nat} (hw : aw A) (hq : q < 6) (h : cpP A c r (6 * p + q)) (hr : cpC A c r) : cpP A (prl A p q c) r (6 * p + q + 1) := by
  intro k p' q' hk hi hq' hC s hs hb
  by_cases e : p' = p ∧ q' = q
  · obtain ⟨rfl, rfl⟩ := e
    have h6 := hw.2.1
    have hp := hC.spl.2.1
    have hk1 : k ≤ c p' := by
      cases k with
      | zero => exact Nat.zero_le _
      | succ k =>
        obtain ⟨_, p2, q2, a, b⟩ := hC
        exact hr k p2 q2 (by omega) a p' (by omega) b
    unfold prl
    rw [if_pos hb]
    by_cases g : c s < c p' + 1
    · rw [if_pos g]; omega
    · rw [if_neg g]; omega
  · exact Nat.le_trans (h k p' q' hk (by omega) hq' hC s hs hb) (prl_le p q c s)
theorem cpP.skip {c : Nat → Nat} {r p q : Nat} (hq : q < 6) (h : cpP A c r (6 * p + q)) (hn : ¬ isSpl A p q) : cpP A c r (6 * p + q + 1) := by
  intro k p' q' hk hi hq' hC s hs hb
  by_cases e : p' = p ∧ q' = q
  · obtain ⟨rfl, rfl⟩ := e
    exact absurd hC.spl hn
  · exact h k p' q' hk (by omega) hq' hC s hs hb
theorem cpC.up {c c' : Nat → Nat} {r : Nat} (h : cpC A c r) (g : ∀ s, c s ≤ c' s) : cpC A c' r := fun k p q hk hC s hs hb => Nat.le_trans (h k p q hk hC s hs hb) (g s)
theorem cpP.done (hw : aw A) {c : Nat → Nat} {r : Nat} (h : cpP A c r 36) : cpC A c (r + 1) := fun k p q hk hC s hs hb => by
  have h6 := hw.2.1
  have hp := hC.spl.2.1
  have hq := hC.spl.2.2.1
  exact h k p q hk (by omega) (by omega) hC s hs hb
end
