/-! calls 29 to 31: both sides of a witness -/
section
variable {R : am_R} {I : am_I} {L : am_L} {J : am_I} {K : am_L}
/-- both sides find the same witness -/
def WitOK (R : am_R) (I : am_I) (L : am_L) (J : am_I) (K : am_L) (x : Int32) : Prop := ∃ c I' L' r J', pX10_findWitness R I L 1 x = some (bI c, I', L') ∧ pX11_spell rM J 1 x = some (r, J') ∧ Inv R I' L' J' K ∧ ((c = false ∧ r = -4) ∨ (c = true ∧ ∃ (n : Nat) (f : Nat → Nat), n ≤ 216 ∧ r = nI n ∧ I' 12 0 = nI n ∧ (∀ j, j < n → I' 13 j = nI (f j)) ∧ (∀ j, j < n → J' 14 j = nI (f j)) ∧ ∀ j, f j < 3))
theorem WF.wdl {A : am_Au} {t : Nat} {w : List Nat} (h : WF A t w) : wdl w := by
  unfold WF at h
  by_cases t0 : t = 0
  · rw [if_pos t0] at h; exact h.1.1
  · rw [if_neg t0] at h
    by_cases t1 : t = 1
    · rw [if_pos t1] at h
      obtain ⟨s, _, _, a⟩ := h
      exact a.1.1
    · rw [if_neg t1] at h
      obtain ⟨p, q, _, _, a⟩ := h
      exact a.1.1
theorem getD3 {w : List Nat} (h : wdl w) (j : Nat) : w.getD j 0 < 3 := by
  rw [List.getD_eq_getElem?_getD]
  cases e : w[j]? with
  | none => exact Nat.succ_pos 2
  | some a => exact h a (List.mem_of_getElem? e)
theorem frC_word (hR : okC R) {I' : am_I} {L' : am_L} {I2 : am_I} (h : frC R I L I' L') (g : ∀ b, b ≠ 12 → b ≠ 13 → I2 b = I' b) : frC R I L I2 L' := by
  have hr := hR.res
  refine h.trans ⟨fun b x => g b (by omega) (by omega), fun b x _ => ⟨g b (by omega) (by omega), rfl⟩, g _ (by omega) (by omega), rfl, rfl, fun z a ha => ?_⟩
  rw [g 17 (by decide) (by decide), g 18 (by decide) (by decide), g 26 (by decide) (by decide), g 27 (by decide) (by decide)]
  exact z a ha
theorem e_wit012 (h : Inv R I L J K) {t : Nat} (ht : t < 3) : WitOK R I L J K (nI t) := by
  obtain ⟨A, w, sv, tx, wd, rs, sh, ok, hc, hm⟩ := h
  have h6 := ok.1.2.1
  obtain ⟨r, J1, e3, r3, m1, m2, m4⟩ := e_spellM ok.1 hm.1 hm.2.2.2.2.2.2.2 ht
  obtain ⟨I1, e1, k1, f1⟩ := e_fresh hc.1 ok.1 hc.2.1 hc.2.2.2.2.2.2.2.2
  -- how it ends
  have done : ∀ {I2 : am_I} {L2 : am_L}, lkf I1 L I2 L2 → frC R I L I2 L2 := fun f2 => frC_search hc.1 f1 k1 f2
  have inv : ∀ {I2 : am_I} {L2 : am_L}, frC R I L I2 L2 → Inv R I2 L2 J1 K := fun f2 => ⟨A, w, sv, tx, wd, rs, sh, ok, hc.kept f2, hm.found m4 (Or.inr ⟨m1, m2⟩)⟩
  have no : ∀ {I2 : am_I} {L2 : am_L}, lkf I1 L I2 L2 → WN A t → pX10_findWitness R I L 1 (nI t) = some (bI false, I2, L2) → WitOK R I L J K (nI t) := fun f2 hn e => by
    refine ⟨false, _, _, r, J1, e, e3, inv (done f2), Or.inl ⟨rfl, ?_⟩⟩
    rcases r3 with ⟨a, _⟩ | ⟨v, _, _, b, _⟩
    · exact a
    · exact (b.not hn).elim
  have yes : ∀ {sp : Bool} {I2 : am_I} {L2 : am_L} {v : List Nat}, lkf I1 L I2 L2 → WF A t v → fdW A sp I2 v → (∀ I3, pX9_copyFoundWordTo R I2 24 12 = some I3 → pX10_findWitness R I L 1 (nI t) = some (bI true, I3, L2)) → WitOK R I L J K (nI t) := fun {sp I2 L2 v} f2 hv hf e => by
    rcases r3 with ⟨_, b⟩ | ⟨u, ru, lu, hu, gu⟩
    · exact (hv.not b).elim
    · have := hu.uniq hv
      subst this
      obtain ⟨I3, c1, c2, c3, c4, _⟩ := e_copyFound hc.1 hf (by omega)
      exact ⟨true, I3, L2, r, J1, e I3 c1, e3, inv (frC_word hc.1 (done f2) c4), Or.inr ⟨rfl, u.length, fun j => u.getD j 0, by omega, ru, c2, c3, gu, getD3 hu.wdl⟩⟩
  have ht3 : t = 0 ∨ t = 1 ∨ t = 2 := by omega
  have hr7 := hc.1.r1_7
  have hr12 := hc.1.r1_12
  rcases ht3 with rfl | rfl | rfl
  · obtain ⟨c, I2, L2, e2, f2, w2, n2⟩ := e_findAmb hc.1 ok.1 k1 (L := L)
    have hgo : pX10_findWitness R I L 1 (nI 0) = (if bI c = 0 then am_ck (am_isb (bI c)) (some (bI c, I2, L2)) else Option.bind (pX9_copyFoundWordTo R I2 24 12) (fun r11 => am_ck (am_isb (bI c)) (some (bI c, r11, L2)))) := by
      unfold pX10_findWitness
      rw [if_neg (show ¬ nI 0 = (3 : Int32) by decide), e1, am_bd, am_jn_e, if_pos nI_0, hr12, e2, am_bd, hr7]
    cases c with
    | false => exact no f2 (by unfold WN; rw [if_pos rfl]; exact n2 rfl) (by rw [hgo, if_pos (show bI false = 0 from rfl), isb_bI, am_ck_true])
    | true =>
      obtain ⟨v, g1, g2⟩ := w2 rfl
      exact yes f2 (by unfold WF; rw [if_pos rfl]; exact g1) g2 (fun I3 e => by rw [hgo, if_neg (show ¬ bI true = 0 by decide), e, am_bd, isb_bI, am_ck_true])
  · obtain ⟨y, I2, L2, e2, f2, w2⟩ := e_lowestLoop hc.1 ok.1 k1 (L := L)
    have hgo : ∀ c : Bool, (if y = (-1 : Int32) then (0 : Int32) else 1) = bI c → pX10_findWitness R I L 1 (nI 1) = (if bI c = 0 then am_ck (am_isb (bI c)) (some (bI c, I2, L2)) else Option.bind (pX9_copyFoundWordTo R I2 24 12) (fun r11 => am_ck (am_isb (bI c)) (some (bI c, r11, L2)))) := fun c hcc => by
      unfold pX10_findWitness
      rw [if_neg (show ¬ nI 1 = (3 : Int32) by decide), e1, am_bd, am_jn_e, if_neg (show ¬ nI 1 = (0 : Int32) by decide), if_pos (show nI 1 = (1 : Int32) from rfl), hr12, e2, am_bd, hr7]
      dsimp only
      rw [hcc, am_let_e]
    rcases w2 with ⟨rfl, n2⟩ | ⟨s, rfl, hs, hl, hn, v, g1, g2⟩
    · exact no f2 (by unfold WN; rw [if_neg (by decide), if_pos rfl]; exact n2) (by rw [hgo false (by rw [if_pos rfl]; rfl), if_pos (show bI false = 0 from rfl), isb_bI, am_ck_true])
    · exact yes f2 (by unfold WF; rw [if_neg (by decide), if_pos rfl]; exact ⟨s, hl, hn, g1⟩) g2 (fun I3 e => by rw [hgo true (by rw [if_neg (nI_m1 (by omega))]; rfl), if_neg (show ¬ bI true = 0 by decide), e, am_bd, isb_bI, am_ck_true])
  · obtain ⟨y, I2, L2, e2, f2, w2⟩ := e_firstSplitC hc.1 ok.1 k1 (L := L)
    have hgo : ∀ c : Bool, (if y = (-1 : Int32) then (0 : Int32) else 1) = bI c → pX10_findWitness R I L 1 (nI 2) = (if bI c = 0 then am_ck (am_isb (bI c)) (some (bI c, I2, L2)) else Option.bind (pX9_copyFoundWordTo R I2 24 12) (fun r11 => am_ck (am_isb (bI c)) (some (bI c, r11, L2)))) := fun c hcc => by
      unfold pX10_findWitness
      rw [if_neg (show ¬ nI 2 = (3 : Int32) by decide), e1, am_bd, am_jn_e, if_neg (show ¬ nI 2 = (0 : Int32) by decide), if_neg (show ¬ nI 2 = (1 : Int32) by decide), if_pos (show nI 2 = (2 : Int32) from rfl), hr12, e2, am_bd, hr7]
      dsimp only
      rw [hcc, am_let_e]
    rcases w2 with ⟨rfl, n2⟩ | ⟨p, q, rfl, hp, hq, hl, hn, v, g1, g2⟩
    · exact no f2 (by unfold WN; rw [if_neg (by decide), if_neg (by decide)]; exact n2) (by rw [hgo false (by rw [if_pos rfl]; rfl), if_pos (show bI false = 0 from rfl), isb_bI, am_ck_true])
    · exact yes f2 (by unfold WF; rw [if_neg (by decide), if_neg (by decide)]; exact ⟨p, q, hl, hn, g1⟩) g2 (fun I3 e => by rw [hgo true (by rw [if_neg (nI_m1 (by omega))]; rfl), if_neg (show ¬ bI true = 0 by decide), e, am_bd, isb_bI, am_ck_true])
end
