/-! call 28: states of witnesses; copying a found word -/
section
variable {A : am_Au} {J : am_I}
theorem e_lowestM {x : Int32} {s : Nat} (hs : s < 32) (h : bt x s = true) (hn : ∀ s', s' < s → ¬ bt x s' = true) : pX11_lowest x = some (nI s) := by
  unfold pX11_lowest
  obtain ⟨_, e, _⟩ := am_for0 (fun n i (_ : Unit) => lX11_lowest_2 x n (nI i)) s (fun _ _ => True) (fun _ => some (nI s)) (by omega) (fun n i _ hi _ => by
    refine ⟨(), ?_, trivial⟩
    show sX11_lowest_2 x (lX11_lowest_2 x n) (nI i) = _
    unfold sX11_lowest_2
    rw [e_hb _ (show i < 32 by omega), am_bd, Bool.eq_false_iff.mpr (hn i hi), if_pos (show bI false = 0 from rfl), nI_1]) (fun n _ _ => by
    show sX11_lowest_2 x (lX11_lowest_2 x n) (nI s) = _
    unfold sX11_lowest_2
    rw [e_hb _ hs, am_bd, h, if_neg (show ¬ bI true = 0 by decide)]) () trivial
  rw [nI_0] at e
  exact e
theorem e_firstSplitM (hK : okK J A) {p q : Nat} (hp : p < 6) (hq : q < 6) (h : isSpl A p q) (hn : ∀ p' q', bef p q p' q' → ¬ isSpl A p' q') : pX11_firstSplit rM J 1 = some (nI (6 * p + q)) := by
  unfold pX11_firstSplit
  obtain ⟨_, e, _⟩ := am_for0 (fun n i (_ : Unit) => lX11_firstSplit_2 rM J 1 n (nI i)) (6 * p + q) (fun _ _ => True) (fun _ => some (nI (6 * p + q))) (by omega) (fun n i _ hi _ => by
    refine ⟨(), ?_, trivial⟩
    have z : J 17 i = 0 := by
      have hi6 : i = 6 * (i / 6) + i % 6 := by omega
      rcases hK.2.2.1 (i / 6) (i % 6) (by omega) (by omega) with ⟨_, b⟩ | ⟨a, _⟩
      · exact absurd b (hn _ _ (by unfold bef; omega))
      · rw [← hi6] at a; exact a
    show sX11_firstSplit_2 rM J 1 (lX11_firstSplit_2 rM J 1 n) (nI i) = _
    unfold sX11_firstSplit_2
    rw [inb (show i < 36 by omega) (by omega), am_ck_true, rM26, nIcl (show i < 1000000 by omega), z, if_pos rfl, nI_1]) (fun n _ _ => by
    have z : J 17 (6 * p + q) = 1 := by
      rcases hK.2.2.1 p q hp hq with ⟨a, _⟩ | ⟨_, b⟩
      · exact a
      · exact absurd h b
    show sX11_firstSplit_2 rM J 1 (lX11_firstSplit_2 rM J 1 n) (nI (6 * p + q)) = _
    unfold sX11_firstSplit_2
    rw [inb (show 6 * p + q < 36 by omega) (by omega), am_ck_true, rM26, nIcl (show 6 * p + q < 1000000 by omega), z, if_neg i10]) () trivial
  rw [nI_0] at e
  exact e
theorem okK_no27 (hK : okK J A) : J 1 27 = 0 ↔ ∀ s, ¬ isLop A s := by
  constructor
  · intro h s hs
    have := (hK.2.1 s).mpr hs
    rw [h, bt_zero] at this; cases this
  · intro h
    refine bt_ext fun s _ => ?_
    rw [bt_zero]
    cases e : bt (J 1 27) s with
    | false => rfl
    | true => exact absurd ((hK.2.1 s).mp e) (h s)
theorem okK_no28 (hK : okK J A) : J 1 28 = 0 ↔ ∀ p q, ¬ isSpl A p q := by
  obtain ⟨k, h1, h2, h3⟩ := hK.2.2.2
  rw [h2, ← h3, show (0 : Int32) = nI 0 from nI_0.symm]
  exact nI_eq (by omega) (by omega)
end
theorem btw12 (x : Int32) : pX11_isBetween (Int32.toInt64 x) (1 : Int64) (2 : Int64) = some (bI (decide (x = 1 ∨ x = 2))) := by
  rw [e_between (lo' := 1) (hi' := 2) x 1 2 (by decide) (by decide)]
  congr 2
  have e : (1 ≤ x ∧ x ≤ 2) ↔ (x = 1 ∨ x = 2) := by
    rw [Int32.le_iff_toInt_le, Int32.le_iff_toInt_le, show (1 : Int32).toInt = 1 by decide, show (2 : Int32).toInt = 2 by decide]
    constructor
    · intro h
      have : x.toInt = 1 ∨ x.toInt = 2 := by omega
      rcases this with h | h
      · exact Or.inl (Int32.toInt_inj.mp (h.trans (by decide)))
      · exact Or.inr (Int32.toInt_inj.mp (h.trans (by decide)))
    · rintro (rfl | rfl) <;> decide
  by_cases h : x = 1 ∨ x = 2
  · rw [decide_eq_true h, decide_eq_true (e.mpr h)]
  · rw [decide_eq_false h, decide_eq_false (fun g => h (e.mp g))]
section
variable {R : am_R} {I : am_I} {L : am_L} {J : am_I} {K : am_L}
theorem st28 (h : Inv R I L J K) (x : Int32) : ∃ r1 r2, pX10_witnessState R I L 1 x = some r1 ∧ pX11_witnessState rM J 1 x = some r2 ∧ r1.1 = r2.1 ∧ Inv R r1.2.1 r1.2.2 r2.2 K := by
  have h' := h
  obtain ⟨A, w, sv, tx, wd, rs, sh, ok, hc, hm⟩ := h'
  have h6 := ok.1.2.1
  unfold pX10_witnessState pX11_witnessState
  simp only [am_jn_e]
  rw [btw12, am_bd]
  obtain ⟨I1, e1, k1, f1⟩ := e_fresh hc.1 ok.1 hc.2.1 hc.2.2.2.2.2.2.2.2
  obtain ⟨J1, e3, m1, m2, m3, m4⟩ := e_finds ok.1 hm.1 hm.2.2.2.2.2.2.2
  have fin : ∀ {I2 : am_I} {L2 : am_L}, lkf I1 L I2 L2 → Inv R I2 L2 J1 K := fun f2 => ⟨A, w, sv, tx, wd, rs, sh, ok, hc.kept (frC_search hc.1 f1 k1 f2), hm.found m4 (Or.inr ⟨m1, m2⟩)⟩
  by_cases x1 : x = 1
  · subst x1
    rw [if_pos rfl, e1, am_bd, if_pos rfl, hc.1.r1_12, decide_eq_true (Or.inl rfl), if_neg (show ¬ bI true = 0 by decide), e3, am_bd, if_pos rfl]
    obtain ⟨y, I2, L2, e2, f2, r2⟩ := e_lowestLoop hc.1 ok.1 k1 (L := L)
    rw [e2, am_bd]
    dsimp only
    rcases r2 with ⟨rfl, no⟩ | ⟨s, rfl, hs, hl, hn, _⟩
    · rw [if_pos rfl, if_pos ((okK_no27 m2).mpr no)]
      exact ⟨_, _, rfl, rfl, rfl, fin f2⟩
    · rw [if_neg (nI_m1 (by omega)), if_neg (fun g => (okK_no27 m2).mp g s hl), e_lowestM (show s < 32 by omega) ((m2.2.1 s).mpr hl) (fun s' h g => hn s' h ((m2.2.1 s').mp g)), am_bd]
      exact ⟨_, _, rfl, rfl, rfl, fin f2⟩
  · by_cases x2 : x = 2
    · subst x2
      rw [if_neg x1, if_pos rfl, e1, am_bd, if_neg x1, hc.1.r1_12, decide_eq_true (Or.inr rfl), if_neg (show ¬ bI true = 0 by decide), e3, am_bd, if_neg x1]
      obtain ⟨y, I2, L2, e2, f2, r2⟩ := e_firstSplitC hc.1 ok.1 k1 (L := L)
      rw [e2, am_bd]
      dsimp only
      rcases r2 with ⟨rfl, no⟩ | ⟨p, q, rfl, hp, hq, hl, hn, _⟩
      · rw [if_pos rfl, if_pos ((okK_no28 m2).mpr no)]
        exact ⟨_, _, rfl, rfl, rfl, fin f2⟩
      · have ed : nI (6 * p + q) / (6 : Int32) * (8 : Int32) + (nI (6 * p + q) - nI (6 * p + q) / (6 : Int32) * (6 : Int32)) = nI (8 * p + q) := by
          rw [show (6 : Int32) = nI 6 from rfl, show (8 : Int32) = nI 8 from rfl, pk_rem (by omega) (by omega) (by omega), pk_div (by omega) (by omega) (by omega), pk_mul, nI_add]
          congr 1
          omega
        rw [if_neg (nI_m1 (by omega)), if_neg (fun g => (okK_no28 m2).mp g p q hl), e_firstSplitM m2 (show p < 6 by omega) (show q < 6 by omega) hl hn, am_bd, am_bd, ed]
        exact ⟨_, _, rfl, rfl, rfl, fin f2⟩
    · rw [if_neg x1, if_neg x2, decide_eq_false (fun g => g.elim x1 x2), if_pos (show bI false = 0 from rfl)]
      exact ⟨_, _, rfl, rfl, rfl, h⟩
end
/-! copying a found word -/
def vI (c : Nat) : Int32 := if c = 0 then -1 else nI (c - 1)
theorem vI_s (c : Nat) : vI (c + 1) = nI c := by unfold vI; rw [if_neg (by omega)]; rfl
theorem vI_d (c : Nat) : vI (c + 1) + (-1) = vI c := by
  rw [vI_s]
  cases c with
  | zero => rfl
  | succ c => rw [vI_s, pk_m1]
section
variable {R : am_R} {A : am_Au} {L : am_L} {mt : Nat → Bool} {q pr lt : Nat → Nat} {W : Nat → List Nat} {m k z0 : Nat} {sp : Bool}
theorem SI.back (hI : SI (nxS A sp) z0 mt q pr lt W m k 0) {i : Nat} (hi : i < m) : (i = 0 ∧ W i = []) ∨ (0 < i ∧ pr i < m ∧ lt i < 3 ∧ W i = W (pr i) ++ [lt i]) := by
  by_cases e : i = 0
  · exact Or.inl ⟨e, by rw [e]; exact hI.1.2.2.1⟩
  · obtain ⟨a1, a2, a3, _⟩ := hI.2.1 i (by omega) hi
    exact Or.inr ⟨by omega, by omega, a2, a3⟩
theorem nd_up {a b c : Nat} (hb : b < 3) (hc : c < 4096) (ha : a < 4096) : nI (a * 16384 + b * 4096 + c) >>> ((14 : Int32) &&& 31) = nI a ∧ (nI (a * 16384 + b * 4096 + c) >>> ((12 : Int32) &&& 31)) &&& (3 : Int32) = nI b := by
  constructor
  · rw [pk_shrN (show a * 16384 + b * 4096 + c < 2 ^ 31 by omega) ((14 : Int32) &&& 31) 14 (by decide)]
    congr 1
    omega
  · rw [pk_shrN (show a * 16384 + b * 4096 + c < 2 ^ 31 by omega) ((12 : Int32) &&& 31) 12 (by decide), pk_andN (by omega) (m := 3) 2 (by decide)]
    congr 1
    omega
theorem e_cp48 (hR : okC R) (hI : SI (nxS A sp) z0 mt q pr lt W m k 0) {len : Nat} (hl : len ≤ 216) : ∀ c n i (J : am_I), c < n → i < m → (W i).length = c → c ≤ len → seM J L mt q pr lt m → J 12 0 = nI len →
    ∃ J', lX9_copyFoundWordTo_48 R 24 12 n (nI i) (vI c) J = some J' ∧ (∀ j, j < c → J' 13 j = nI ((W i).getD j 0)) ∧ (∀ j, c ≤ j → J' 13 j = J 13 j) ∧ ∀ b, b ≠ 13 → J' b = J b := by
  have hm := hI.m_le
  intro c
  induction c with
  | zero =>
    intro n i J hn hi hw _ _ _
    obtain ⟨n, rfl⟩ : ∃ n', n = n' + 1 := ⟨n - 1, by omega⟩
    refine ⟨J, ?_, fun j hj => absurd hj (Nat.not_lt_zero j), fun _ _ => rfl, fun _ _ => rfl⟩
    show sX9_copyFoundWordTo_48 R 24 12 (lX9_copyFoundWordTo_48 R 24 12 n) (nI i) (vI 0) J = _
    unfold sX9_copyFoundWordTo_48
    rw [if_pos (show vI 0 < 0 by decide)]
  | succ c ih =>
    intro n i J hn hi hw hcl hS h0
    obtain ⟨n, rfl⟩ : ∃ n', n = n' + 1 := ⟨n - 1, by omega⟩
    rcases hI.back hi with ⟨_, e⟩ | ⟨_, hp, hlt, e⟩
    · rw [e] at hw; cases hw
    · have hq := (hI.2.2.1 i hi).2.2
      obtain ⟨u1, u2⟩ := nd_up (a := pr i) hlt hq (show pr i < 4096 by omega)
      have hlen : (W (pr i)).length = c := by rw [e, len_snoc] at hw; omega
      have hS1 : seM (am_upI J 13 c (nI (lt i))) L mt q pr lt m := ⟨by rw [am_upI_ne (by decide)]; exact hS.1, fun i hi => by rw [am_upI_ne (by decide)]; exact hS.2.1 i hi, hS.2.2⟩
      obtain ⟨J', e', g1, g2, g3⟩ := ih n (pr i) (am_upI J 13 c (nI (lt i))) (by omega) hp hlen (by omega) hS1 (by rw [am_upI_ne (by decide)]; exact h0)
      refine ⟨J', ?_, fun j hj => ?_, fun j hj => by rw [g2 j (by omega), am_upI_o (by omega)], fun b hb => by rw [g3 b hb, am_upI_ne hb]⟩
      · show sX9_copyFoundWordTo_48 R 24 12 (lX9_copyFoundWordTo_48 R 24 12 n) (nI i) (vI (c + 1)) J = _
        unfold sX9_copyFoundWordTo_48
        rw [vI_d, vI_s, if_neg (nI_pos (by omega)), e_nodeAt hR hS hm hi, am_bd, u2]
        unfold pX8_setLetter
        rw [hp_yes h0 hl (by omega), am_bd, if_neg i10, inb (show c < 216 by omega) (by omega), am_ck_true, am_let_e, am_bd, hR.r12_1, nIcl (show c < 1000000 by omega), e_nodeAt hR hS1 hm hi, am_bd, u1, am_let_e, e']
      · rw [e]
        by_cases d : j < c
        · rw [g1 j d, List.getD_eq_getElem?_getD, List.getD_eq_getElem?_getD, List.getElem?_append_left (by omega)]
        · have : j = c := by omega
          subst this
          rw [g2 j (Nat.le_refl j), am_upI_s, List.getD_eq_getElem?_getD, List.getElem?_append_right (by omega), hlen, Nat.sub_self]
          rfl
theorem e_copyFound {I : am_I} {w : List Nat} (hR : okC R) (hf : fdW A sp I w) (hl : w.length ≤ 216) : ∃ I', pX9_copyFoundWordTo R I 24 12 = some I' ∧ I' 12 0 = nI w.length ∧ (∀ j, j < w.length → I' 13 j = nI (w.getD j 0)) ∧ (∀ b, b ≠ 12 → b ≠ 13 → I' b = I b) ∧ ∀ j, j ≠ 0 → I' 12 j = I 12 j := by
  obtain ⟨L, z0, mt, q, pr, lt, W, m, k, hS, hI, hk, h10, rfl⟩ := hf
  have hm := hI.m_le
  unfold pX9_copyFoundWordTo
  rw [h10, am_let_e, am_jn_e]
  obtain ⟨i, e1, hi, hwi⟩ := am_for0 (fun n c (i : Nat) => lX9_copyFoundWordTo_7 R I 24 12 (fun (v3 : Int32) => am_let (am_upI I 12 0 v3) (fun J4 => am_let (J4 24 10) (fun v5 => am_let (v3 - (1 : Int32)) (fun v6 => lX9_copyFoundWordTo_48 R 24 12 am_fu v5 v6 J4)))) n (nI c) (nI i)) (W k).length (fun c i => i < m ∧ (W i).length = (W k).length - c) (fun _ => am_let (am_upI I 12 0 (nI (W k).length)) (fun J4 => am_let (J4 24 10) (fun v5 => am_let (nI (W k).length - (1 : Int32)) (fun v6 => lX9_copyFoundWordTo_48 R 24 12 am_fu v5 v6 J4)))) (by omega) (fun n c i hc hP => by
    obtain ⟨p1, p2⟩ := hP
    rcases hI.back p1 with ⟨_, e⟩ | ⟨hi0, hp, hlt, e⟩
    · rw [e] at p2; have p2 : 0 = (W k).length - c := p2; omega
    · have hq := (hI.2.2.1 i p1).2.2
      obtain ⟨u1, _⟩ := nd_up (a := pr i) hlt hq (show pr i < 4096 by omega)
      have c1 : ¬ nI i ≤ (0 : Int32) := by
        rw [show (0 : Int32) = nI 0 from nI_0.symm]
        exact nI_ge (by omega) (by omega)
      have c2 : ¬ (216 : Int32) ≤ nI c := nI_ge (b := 216) (by omega) (by omega)
      refine ⟨pr i, ?_, hp, by rw [e, len_snoc] at p2; omega⟩
      show sX9_copyFoundWordTo_7 R I 24 12 _ (lX9_copyFoundWordTo_7 R I 24 12 _ n) (nI c) (nI i) = _
      unfold sX9_copyFoundWordTo_7
      rw [if_neg c1, if_neg c2, e_nodeAt hR hS hm p1, am_bd, u1, am_let_e, nI_1]) (fun n i hP => by
    obtain ⟨p1, p2⟩ := hP
    rcases hI.back p1 with ⟨e, _⟩ | ⟨_, _, _, e⟩
    · subst e
      show sX9_copyFoundWordTo_7 R I 24 12 _ (lX9_copyFoundWordTo_7 R I 24 12 _ n) (nI (W k).length) (nI 0) = _
      unfold sX9_copyFoundWordTo_7
      rw [if_pos (show nI 0 ≤ (0 : Int32) by decide)]
    · rw [e, len_snoc] at p2; omega) k ⟨hk, rfl⟩
  rw [nI_0] at e1
  rw [e1, am_let_e, am_upI_ne (show (24 : Nat) ≠ 12 by decide), h10, am_let_e, am_let_e]
  have ev : nI (W k).length - (1 : Int32) = vI (W k).length := by
    cases hw : (W k).length with
    | zero => rfl
    | succ c => rw [vI_s, nI_pred]
  obtain ⟨J', e2, g1, g2, g3⟩ := e_cp48 hR hI (len := (W k).length) hl (W k).length am_fu k (am_upI I 12 0 (nI (W k).length)) (by have := am_fu_ge; omega) hk rfl (Nat.le_refl _) ⟨by rw [am_upI_ne (by decide)]; exact hS.1, fun i hi => by rw [am_upI_ne (by decide)]; exact hS.2.1 i hi, hS.2.2⟩ am_upI_s
  rw [ev, e2]
  exact ⟨J', rfl, by rw [g3 12 (by decide), am_upI_s], g1, fun b x y => by rw [g3 b y, am_upI_ne x], fun j hj => by rw [g3 12 (by decide), am_upI_o hj]⟩
end
