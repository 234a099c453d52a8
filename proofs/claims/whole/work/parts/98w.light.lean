/-! witness 3 and the weight: calls 29 to 31, 33 -/
section
variable {R : am_R} {I : am_I} {L : am_L} {J : am_I} {K : am_L}
theorem frC_light (hR : okC R) {I' : am_I} (h : ∀ x, x ≠ 12 → x ≠ 13 → x ≠ 32 → I' x = I x) : frC R I L I' L := by
  have hr := hR.res
  refine ⟨fun b x => h b (by omega) (by omega) (by omega), fun b x _ => ⟨h b (by omega) (by omega) (by omega), rfl⟩, h _ (by omega) (by omega) (by omega), rfl, rfl, fun z a ha => ?_⟩
  rw [h 17 (by decide) (by decide) (by decide), h 18 (by decide) (by decide) (by decide), h 26 (by decide) (by decide) (by decide), h 27 (by decide) (by decide) (by decide)]
  exact z a ha
theorem e_wit3 (h : Inv R I L J K) : WitOK R I L J K (nI 3) := by
  obtain ⟨A, w, sv, tx, wd, rs, sh, ok, hc, hm⟩ := h
  have hw := ok.1
  have hk := ok.2.1
  obtain ⟨b, I', e1, f1, q1⟩ := e_find2 hc.1 hw hk hc.2.1 hc.2.2.1
  obtain ⟨J1, e2, k6, kk, hA1, g1⟩ := e_finds hw hm.1 hm.2.2.2.2.2.2.2
  have hm1 : InvM J1 K A w sv tx wd rs sh := hm.found g1 (Or.inr ⟨k6, kk⟩)
  obtain ⟨r, J2, e3, f3, f4, q3⟩ := e_spellLightest hw hk hA1 hm1.2.1
  have hI : Inv R I' L J2 K := ⟨A, w, sv, tx, wd, rs, sh, ok, hc.kept (frC_light hc.1 f1), hm1.kept ⟨fun k hk => f4 k (fun e => by subst e; cases hk), fun c hc => f3 c (fun e => by subst e; cases hc) (fun e => by subst e; cases hc) (fun e => by subst e; cases hc), rfl, rfl, rfl⟩⟩
  have a1 : pX10_findWitness R I L 1 (nI 3) = some (bI b, I', L) := by
    unfold pX10_findWitness
    rw [if_pos (show nI 3 = (3 : Int32) from rfl), hc.1.r1_13, hc.1.r1_0, hc.1.r1_2, hc.1.r1_7, e1, am_bd]
    dsimp only
    rw [isb_bI, am_ck_true]
  have a2 : pX11_spell rM J 1 (nI 3) = some (r, J2) := by
    unfold pX11_spell
    rw [e2, am_bd, if_neg (show ¬ nI 3 = (0 : Int32) by decide), if_pos (show nI 3 = (3 : Int32) from rfl), e3, am_bd]
  refine ⟨b, I', L, r, J2, a1, a2, hI, ?_⟩
  rcases q1 with ⟨rfl, hn⟩ | ⟨rfl, W, v, hv, hl, i1, i2⟩
  · rcases q3 with ⟨rfl, _⟩ | ⟨W', v', hv', _⟩
    · exact Or.inl ⟨rfl, rfl⟩
    · exact (hv'.1.not hn).elim
  · rcases q3 with ⟨rfl, hn⟩ | ⟨W', v', hv', rfl, hl', j2⟩
    · exact (hv.1.not hn).elim
    · obtain ⟨rfl, rfl⟩ := hv.uniq hv'
      exact Or.inr ⟨rfl, v.length, fun j => v.getD j 0, by omega, rfl, i1, i2, j2, getD3 (LSp.wd hv.2)⟩
theorem e_witAll (h : Inv R I L J K) : ∀ t, t < 4 → WitOK R I L J K (nI t) := fun t ht => by
  by_cases q : t < 3
  · exact e_wit012 h q
  · have : t = 3 := by omega
    subst this
    exact e_wit3 h
theorem st29 (h : Inv R I L J K) (x : Int32) : ∃ r1 r2, pX10_witnessLength R I L 1 x = some r1 ∧ pX11_witnessLength rM J 1 x = some r2 ∧ r1.1 = r2.1 ∧ Inv R r1.2.1 r1.2.2 r2.2 K := st29W h (e_witAll h) x
theorem st30 (h : Inv R I L J K) (x y : Int32) : ∃ r1 r2, pX10_witnessLetter R I L 1 x y = some r1 ∧ pX11_witnessLetter rM J 1 x y = some r2 ∧ r1.1 = r2.1 ∧ Inv R r1.2.1 r1.2.2 r2.2 K := st30W h (e_witAll h) x y
theorem st31 (h : Inv R I L J K) (x : Int32) : ∃ r1 r2, pX10_takeWitness R I L 1 x = some r1 ∧ pX11_takeWitness rM J 1 x = some r2 ∧ r1.1 = r2.1 ∧ Inv R r1.2.1 r1.2.2 r2.2 K := st31W h (e_witAll h) x
theorem wtv_app (w : Nat → Nat) : ∀ (u v : List Nat), wtv w (u ++ v) = wtv w u + wtv w v
  | [], v => (Nat.zero_add _).symm
  | a :: u, v => by
    show w a + wtv w (u ++ v) = w a + wtv w u + wtv w v
    rw [wtv_app w u v, Nat.add_assoc]
theorem take_s {v : List Nat} {i : Nat} (h : i < v.length) : v.take (i + 1) = v.take i ++ [v.getD i 0] := by
  rw [List.take_add_one, List.getD_eq_getElem?_getD, List.getElem?_eq_getElem h]
  rfl
theorem st33 (h : Inv R I L J K) : ∃ r1 r2, pX10_lightestWeight R I L 1 = some r1 ∧ pX11_lightestWeight rM J 1 = some r2 ∧ r1.1 = r2.1 ∧ Inv R r1.2.1 r1.2.2 r2.2 K := by
  obtain ⟨A, w, sv, tx, wd, rs, sh, ok, hc, hm⟩ := h
  have hw := ok.1
  have hk := ok.2.1
  obtain ⟨b, I', e1, f1, q1⟩ := e_find2 hc.1 hw hk hc.2.1 hc.2.2.1
  obtain ⟨m, J2, c, e3, _, _, _, f3, q3⟩ := e_findLightest hw hk hm.1 hm.2.1
  have hI : Inv R I' L J2 K := ⟨A, w, sv, tx, wd, rs, sh, ok, hc.kept (frC_light hc.1 f1), hm.kept ⟨fun k _ => by rw [f3 1 (by decide)], fun c hc => f3 c (fun e => by subst e; cases hc), rfl, rfl, rfl⟩⟩
  have a1 : pX10_findWitness R I L 1 (3 : Int32) = some (bI b, I', L) := by
    unfold pX10_findWitness
    rw [if_pos rfl, hc.1.r1_13, hc.1.r1_0, hc.1.r1_2, hc.1.r1_7, e1, am_bd]
    dsimp only
    rw [isb_bI, am_ck_true]
  unfold pX10_lightestWeight pX11_lightestWeight
  rw [a1, e3, am_bd, am_bd]
  dsimp only
  rw [show (1000000 : Int32) = nI 1000000 from rfl]
  rcases q1 with ⟨rfl, hn⟩ | ⟨rfl, W, v, hv, hl, i1, i2⟩
  · rcases q3 with ⟨rfl, _⟩ | ⟨W', n', _, hv', _⟩
    · rw [if_pos (show bI false = 0 from rfl), if_pos rfl]
      exact ⟨_, _, rfl, rfl, rfl, hI⟩
    · exact (hv'.not hn).elim
  · rcases q3 with ⟨rfl, hn⟩ | ⟨W', n', rfl, hv', hW, hn5⟩
    · exact (hv.1.not hn).elim
    · obtain ⟨rfl, hl2⟩ := hv.1.uniq hv'
      have hvd := LSp.wd hv.2
      have hW6 : cW I' w := hc.2.2.1.kept (f1 6 (by decide) (by decide) (by decide))
      have e := am_for0 (fun n i (s : Int32) => lX10_lightestWeight_15 R 1 I' L n s (nI i)) v.length (fun i s => s = nI (wtv w (v.take i))) (fun s => some (s, I', L)) (by omega) (fun n i s hi hP => by
        refine ⟨_, ?_, rfl⟩
        have ha : v.getD i 0 < 3 := getD3 hvd i
        show sX10_lightestWeight_15 R 1 I' L (lX10_lightestWeight_15 R 1 I' L n) s (nI i) = _
        unfold sX10_lightestWeight_15
        rw [hc.1.r1_7, i1, if_neg (nIge hi (by omega)), e_letterAt i1 (by omega) hi, am_bd, hc.1.r12_1, i2 i hi]
        rcases e_isLetter (nI (v.getD i 0)) with ⟨_, z⟩ | ⟨a, ha', z1, z2⟩
        · exfalso
          rcases z with z | z
          · exact nI_pos (by omega) z
          · exact ng3 ha z
        · rw [z2, am_bd, am_jn_e, if_neg (show ¬ (1 : Int32) = 0 by decide), inb ha (by omega), am_ck_true, hc.1.r1_2, nIcl (show v.getD i 0 < 1000000 by omega), hW6 _ ha]
          dsimp only
          rw [am_let_e, hP, nI_add, nI_1, take_s hi, wtv_app]
          rfl) (fun n s _ => by
        show sX10_lightestWeight_15 R 1 I' L (lX10_lightestWeight_15 R 1 I' L n) s (nI v.length) = _
        unfold sX10_lightestWeight_15
        rw [hc.1.r1_7, i1, if_pos (nIle (by omega))]) 0 rfl
      obtain ⟨s, e, hs⟩ := e
      rw [nI_0] at e
      try dsimp only at e
      rw [List.take_length, hv.wt] at hs
      rw [if_neg (show ¬ bI true = 0 by decide), e, hs, if_neg (fun h => by have := (nI_eq (by omega) (by omega)).mp h; omega), show (16 : Int32) = nI 16 from rfl, pk_div (by omega) (by omega) (by omega), show (16 * W + n') / 16 = W by omega]
      exact ⟨_, _, rfl, rfl, rfl, hI⟩
end
