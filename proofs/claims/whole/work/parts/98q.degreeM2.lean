/-! the reference: the degree, rounds -/
section
variable {A : am_Au}
theorem e_rfM {J : am_I} (hA : isM J A) (hw : aw A) (x : Int32) : pX11_reachedFrom rM J 1 x = some (clM A x) := by
  unfold pX11_reachedFrom
  refine am_forF (fun n i y => lX11_reachedFrom_4 rM J 1 n y (nI i)) 6 (fun _ y => y ||| ((stp A y 0 ||| stp A y 1) ||| stp A y 2)) some (by omega) (fun n i y hi => ?_) (fun n y => ?_) x
  · have s0 := e_step hA hw y (show 0 < 3 by omega)
    have s1 := e_step hA hw y (show 1 < 3 by omega)
    have s2 := e_step hA hw y (show 2 < 3 by omega)
    have s0' : pX11_step rM J 1 y (0 : Int32) = some (stp A y 0) := s0
    have s1' : pX11_step rM J 1 y (1 : Int32) = some (stp A y 1) := s1
    have s2' : pX11_step rM J 1 y (2 : Int32) = some (stp A y 2) := s2
    simp only [lX11_reachedFrom_4, sX11_reachedFrom_4, ng6 hi, if_false, s0', s1', s2', am_bd, am_let_e, nI_1]
  · simp only [lX11_reachedFrom_4, sX11_reachedFrom_4, yg6, if_true]
theorem e_dg90 (hw : aw A) (hno : ∀ s, ¬ isLop A s) {J : am_I} (hK : okK J A) {i : Nat} (hi : i < 36) {r : Nat} (x : Int32) {y : Int32} (hy : spi A i → y = rc A (i % 6)) (j : am_I → Option (Int32 × am_I)) (h0 : ∃ c, wyM J c ∧ snW A c ∧ cpW A c r ∧ ldW A c r i 0) :
    ∃ J', lX11_degree_90 rM 1 x (nI i) y j am_fu (0 : Int32) J = j J' ∧ (∃ c, wyM J' c ∧ snW A c ∧ cpW A c r ∧ ldW A c r (i + 1) 0) ∧ ∀ b, b ≠ 18 → J' b = J b := by
  have h6 := hw.2.1
  by_cases gi : spi A i
  · have hz : J 17 i = 1 := by
      rcases J17_s hK hi with ⟨a, _⟩ | ⟨_, b⟩
      · exact a
      · exact absurd gi b
    have hyc := hy gi
    subst hyc
    have hq := gi.2.2.1
    obtain ⟨J', e, ⟨c, h1, h2, h3, h4⟩, h5⟩ := am_for0 (fun n k J => lX11_degree_90 rM 1 x (nI i) (rc A (i % 6)) j n (nI k) J) 36 (fun k J' => (∃ c, wyM J' c ∧ snW A c ∧ cpW A c r ∧ ldW A c r i k) ∧ ∀ b, b ≠ 18 → J' b = J b) j (by omega) (fun n k J1 hk hP => by
      obtain ⟨⟨c, p1, p2, p3, p4⟩, p5⟩ := hP
      have hs : lX11_degree_90 rM 1 x (nI i) (rc A (i % 6)) j (n + 1) (nI k) J1 = sX11_degree_90 rM 1 x (nI i) (rc A (i % 6)) j (lX11_degree_90 rM 1 x (nI i) (rc A (i % 6)) j n) (nI k) J1 := rfl
      have c36 : ¬ (36 : Int32) ≤ nI k := nI_ge (b := 36) hk (by omega)
      have zi : J1 17 i = 1 := by rw [p5 17 (by decide)]; exact hz
      have hci := p2.lt hw hno hi
      have hck := p2.lt hw hno hk
      have ed : nI k / (6 : Int32) = nI (k / 6) := by rw [show (6 : Int32) = nI 6 from rfl, pk_div (by omega) (by omega) (by omega)]
      rcases J17_s hK hk with ⟨zk, gk⟩ | ⟨zk, gk⟩
      · have zk : J1 17 k = 1 := by rw [p5 17 (by decide)]; exact zk
        by_cases gb : bt (rc A (i % 6)) (k / 6) = true
        · by_cases gc : c i + 1 ≤ c k
          · refine ⟨J1, ?_, ⟨c, p1, p2, p3, ?_⟩, p5⟩
            · rw [hs]
              unfold sX11_degree_90
              rw [if_neg c36, inb hi (by omega), am_ck_true, rM26, rM30, nIcl (show i < 1000000 by omega), zi, if_neg i10, inb hk (by omega), am_ck_true, am_jn_e, nIcl (show k < 1000000 by omega), zk, if_neg i10, ed, e_hb _ (show k / 6 < 32 by omega), am_bd, gb, if_neg (show ¬ bI true = 0 by decide), am_ck_true, am_ck_true, p1 i hi, p1 k hk, nI_1, if_pos (nI_le gc (by omega)), nI_1]
            · intro k' i' j' hk' hi' hj' hb hC hsp ht
              rcases bef_s.mp hb with hb | ⟨rfl, rfl⟩
              · exact p4 k' i' j' hk' hi' hj' hb hC hsp ht
              · have := p3 k' i' hk' hi' hC; omega
          · have hne : k ≠ i := fun e => by
              subst e
              obtain ⟨u, hu, g⟩ := (cl_reach hw hq (k / 6)).mp gb
              exact hno _ (spl_cyc hw gi hu g)
            have hup : ∀ s, s < 36 → c s ≤ updN c k (c i + 1) s := fun s _ => by
              by_cases e : s = k
              · rw [e, updN_s]; omega
              · rw [updN_o e]; exact Nat.le_refl _
            refine ⟨am_upI J1 18 k (nI (c i + 1)), ?_, ⟨updN c k (c i + 1), fun s hs' => ?_, fun s hs' => ?_, fun k' s hk' hs' hC => Nat.le_trans (p3 k' s hk' hs' hC) (hup s hs'), ?_⟩, fun b hb => by rw [am_upI_ne hb]; exact p5 b hb⟩
            · rw [hs]
              unfold sX11_degree_90
              rw [if_neg c36, inb hi (by omega), am_ck_true, rM26, rM30, nIcl (show i < 1000000 by omega), zi, if_neg i10, inb hk (by omega), am_ck_true, am_jn_e, nIcl (show k < 1000000 by omega), zk, if_neg i10, ed, e_hb _ (show k / 6 < 32 by omega), am_bd, gb, if_neg (show ¬ bI true = 0 by decide), am_ck_true, am_ck_true, p1 i hi, p1 k hk, nI_1, if_neg (nI_ge (by omega) (by omega)), am_ck_true, am_ck_true, am_let_e, nI_1]
            · by_cases e : s = k
              · rw [e, am_upI_s, updN_s]
              · rw [am_upI_o e, updN_o e]; exact p1 s hs'
            · by_cases e : s = k
              · right
                rw [e, updN_s]
                refine ⟨c i, rfl, ?_⟩
                rcases p2 i hi with ⟨_, b⟩ | ⟨k', a, b⟩
                · exact absurd gi b
                · rw [a]
                  exact ⟨gk, i / 6, i % 6, b, gb⟩
              · rw [updN_o e]; exact p2 s hs'
            · intro k' i' j' hk' hi' hj' hb hC hsp ht
              rcases bef_s.mp hb with hb | ⟨rfl, rfl⟩
              · exact Nat.le_trans (p4 k' i' j' hk' hi' hj' hb hC hsp ht) (hup j' hj')
              · rw [updN_s]
                have := p3 k' i' hk' hi' hC; omega
        · refine ⟨J1, ?_, ⟨c, p1, p2, p3, p4.same (fun h => gb h.2.2)⟩, p5⟩
          rw [hs]
          unfold sX11_degree_90
          rw [if_neg c36, inb hi (by omega), am_ck_true, rM26, rM30, nIcl (show i < 1000000 by omega), zi, if_neg i10, inb hk (by omega), am_ck_true, am_jn_e, nIcl (show k < 1000000 by omega), zk, if_neg i10, ed, e_hb _ (show k / 6 < 32 by omega), am_bd, Bool.eq_false_iff.mpr gb, if_pos (show bI false = 0 from rfl), nI_1]
      · have zk : J1 17 k = 0 := by rw [p5 17 (by decide)]; exact zk
        refine ⟨J1, ?_, ⟨c, p1, p2, p3, p4.same (fun h => gk h.2.1)⟩, p5⟩
        rw [hs]
        unfold sX11_degree_90
        rw [if_neg c36, inb hi (by omega), am_ck_true, rM26, rM30, nIcl (show i < 1000000 by omega), zi, if_neg i10, inb hk (by omega), am_ck_true, am_jn_e, nIcl (show k < 1000000 by omega), zk, if_pos rfl, nI_1]) (fun n J1 _ => by
      show sX11_degree_90 rM 1 x (nI i) (rc A (i % 6)) j (lX11_degree_90 rM 1 x (nI i) (rc A (i % 6)) j n) (nI 36) J1 = _
      unfold sX11_degree_90
      rw [if_pos (show (36 : Int32) ≤ nI 36 by decide)]) J ⟨h0, fun _ _ => rfl⟩
    exact ⟨J', e, ⟨c, h1, h2, h3, h4.row⟩, h5⟩
  · have hz : J 17 i = 0 := by
      rcases J17_s hK hi with ⟨_, b⟩ | ⟨a, _⟩
      · exact absurd b gi
      · exact a
    obtain ⟨c, h1, h2, h3, h4⟩ := h0
    obtain ⟨n, hn⟩ : ∃ n, am_fu = n + 1 := ⟨am_fu - 1, by have := am_fu_ge; omega⟩
    refine ⟨J, ?_, ⟨c, h1, h2, h3, fun k i' j' hk hi' hj' hb hC hsp ht => ?_⟩, fun _ _ => rfl⟩
    · rw [hn]
      show sX11_degree_90 rM 1 x (nI i) y j (lX11_degree_90 rM 1 x (nI i) y j n) (0 : Int32) J = _
      unfold sX11_degree_90
      rw [if_neg (show ¬ (36 : Int32) ≤ 0 by decide), inb hi (by omega), am_ck_true, rM26, nIcl (show i < 1000000 by omega), hz, if_pos rfl]
    · by_cases e : i' = i
      · subst e
        exact absurd hC.spl gi
      · exact h4 k i' j' hk hi' hj' (by unfold bef at *; omega) hC hsp ht
end
