/-! texts: the reference's items -/
theorem pA_le {S n : Nat} {c : Nat → Nat} : ∀ f i e, i ≤ n → pA S n (chr n c) f i = .inl e → e ≤ n
  | 0, i, e, hi, h => by cases h; exact Nat.zero_le _
  | f + 1, i, e, hi, h => by
    have ile := itm_le (S := S) (c := c) hi
    unfold pA at h
    by_cases a : (itm S (chr n c) i).1 = true
    · rw [if_pos a] at h
      by_cases b : chr n c (itm S (chr n c) i).2 = 59
      · have jn := chr_in (show chr n c (itm S (chr n c) i).2 ≠ 0 by omega)
        rw [if_pos b] at h
        cases hp : pA S n (chr n c) f ((itm S (chr n c) i).2 + 1) with
        | inl x => rw [hp] at h; cases h; exact pA_le f _ e (by omega) hp
        | inr qs => rw [hp] at h; cases h
      · rw [if_neg b] at h
        by_cases d : (itm S (chr n c) i).2 = n
        · rw [if_pos d] at h; cases h
        · rw [if_neg d] at h; cases h; exact ile
    · rw [if_neg a] at h; cases h; exact ile
section
variable {n S : Nat} {c : Nat → Nat}
theorem isb01 (b : Bool) : am_isb (bI b) = true := by cases b <;> rfl
theorem e_takesItem {J : am_I} {i k : Nat} (hT : txM J n S c i k) (hn : n ≤ 60) (hS1 : 1 ≤ S) (hS : S ≤ 6) (hi : i < 900) (hk : k ≤ 20) (hr : ∀ j, j < n → 32 ≤ c j ∧ c j ≤ 126) :
    ∃ J', pX11_takesItem rM J 1 = some (bI (itm S (chr n c) i).1, J') ∧ txM J' n S c (itm S (chr n c) i).2 k ∧ ((itm S (chr n c) i).1 = true → recd (chr n c) J' k i) ∧ (∀ j, j < 3 * k → J' 8 j = J 8 j) ∧ (∀ b, b ≠ 1 → b ≠ 8 → J' b = J b) ∧ ∀ q, q ≠ 13 → J' 1 q = J 1 q := by
  obtain ⟨t1, t2, t3, t4, t5⟩ := hT
  have hT : txM J n S c i k := ⟨t1, t2, t3, t4, t5⟩
  have e3k : (3 : Int32) * nI k = nI (3 * k) := by rw [show (3 : Int32) = nI 3 from rfl, pk_mul]
  have p1 : nI (3 * k) + (1 : Int32) = nI (3 * k + 1) := nI_1 _
  have p2 : nI (3 * k) + (2 : Int32) = nI (3 * k + 2) := nI_add _ 2
  have a62 := e_isAt hT hn (by omega) hr (lo := 62) (hi' := 62) (by omega) (by omega) (by omega)
  unfold pX11_takesItem
  rw [t5, am_let_e, e3k]
  show ∃ J', Option.bind (pX11_isAt rM J 1 (nI 62) (nI 62)) _ = _ ∧ _
  rw [a62, am_bd]
  unfold itm
  by_cases a : chr n c i = 62
  · -- an initial state
    rw [if_pos a, decide_eq_true (show 62 ≤ chr n c i ∧ chr n c i ≤ 62 by omega), if_neg (show ¬ bI true = 0 by decide), am_let_e, p1, inb (show 3 * k + 1 < 90 by omega) (by omega), am_ck_true, am_let_e, rM11, nIcl (show 3 * k + 1 < 1000000 by omega), t4, nI_1]
    have hT2 : txM (am_upI (am_upI J 1 13 (nI (i + 1))) 8 (3 * k + 1) (-1)) n S c (i + 1) k := hT.put' _ _ _
    rw [e_takesState hT2 hn hS1 hS (by omega) hr (show 3 * k < 90 by omega), am_bd]
    by_cases b : isSt S (chr n c (i + 1)) = true
    · rw [if_pos b, if_pos b]
      refine ⟨_, rfl, hT2.put _ _ _, fun _ => ⟨fun _ => ⟨?_, ?_⟩, fun q => absurd a q, fun q => absurd a q⟩, fun j hj => ?_, fun b x y => ?_, fun q hq => ?_⟩
      · dsimp only; rw [am_upI_ne (by decide), am_upI_o (by omega), am_upI_s]
      · dsimp only; rw [am_upI_ne (by decide), am_upI_s]
      · dsimp only; rw [am_upI_ne (by decide), am_upI_o (by omega), am_upI_o (by omega), am_upI_ne (by decide)]
      · dsimp only; rw [am_upI_ne x, am_upI_ne y, am_upI_ne y, am_upI_ne x]
      · dsimp only; rw [am_upI_o hq, am_upI_ne (by decide), am_upI_ne (by decide), am_upI_o hq]
    · rw [if_neg b, if_neg b]
      refine ⟨_, rfl, hT2, fun q => (by cases q), fun j hj => ?_, fun b x y => ?_, fun q hq => ?_⟩
      · dsimp only; rw [am_upI_o (by omega), am_upI_ne (by decide)]
      · dsimp only; rw [am_upI_ne y, am_upI_ne x]
      · dsimp only; rw [am_upI_ne (by decide), am_upI_o hq]
  · rw [if_neg a, decide_eq_false (show ¬ (62 ≤ chr n c i ∧ chr n c i ≤ 62) by omega), if_pos (show bI false = 0 from rfl), e_takesState hT hn hS1 hS (by omega) hr (show 3 * k < 90 by omega), am_bd]
    by_cases b : isSt S (chr n c i) = true
    · rw [if_pos b, if_pos b, if_neg (show ¬ ((1 : Int32), am_upI (am_upI J 8 (3 * k) (nI (chr n c i - 48))) 1 13 (nI (i + 1))).1 = 0 from (by decide : ¬ (1 : Int32) = 0))]
      have hT2 : txM (am_upI (am_upI J 8 (3 * k) (nI (chr n c i - 48))) 1 13 (nI (i + 1))) n S c (i + 1) k := hT.put _ _ _
      have a33 := e_isAt hT2 hn (by omega) hr (lo := 33) (hi' := 33) (by omega) (by omega) (by omega)
      generalize hJ2 : am_upI (am_upI J 8 (3 * k) (nI (chr n c i - 48))) 1 13 (nI (i + 1)) = J2 at *
      have c1 : J2 8 (3 * k) = nI (chr n c i - 48) := by rw [← hJ2, am_upI_ne (by decide), am_upI_s]
      have c2 : ∀ j, j < 3 * k → J2 8 j = J 8 j := fun j hj => by rw [← hJ2, am_upI_ne (by decide), am_upI_o (by omega)]
      have c3 : ∀ b, b ≠ 1 → b ≠ 8 → J2 b = J b := fun b x y => by rw [← hJ2, am_upI_ne x, am_upI_ne y]
      have c4 : ∀ q, q ≠ 13 → J2 1 q = J 1 q := fun q hq => by rw [← hJ2, am_upI_o hq, am_upI_ne (by decide)]
      show ∃ J', Option.bind (pX11_isAt rM J2 1 (nI 33) (nI 33)) _ = _ ∧ _
      rw [a33, am_bd]
      by_cases d : chr n c (i + 1) = 33
      · rw [if_pos d, decide_eq_true (show 33 ≤ chr n c (i + 1) ∧ chr n c (i + 1) ≤ 33 by omega), if_neg (show ¬ bI true = 0 by decide), am_let_e, p1, inb (show 3 * k + 1 < 90 by omega) (by omega), am_ck_true, am_let_e]
        show ∃ J', some ((1 : Int32), am_upI (am_upI J2 1 13 (J2 1 13 + 1)) (rM 1 11) (Int32.toNatClampNeg (nI (3 * k + 1))) (-2)) = _ ∧ _
        rw [hT2.2.2.2.1, nI_1, rM11, nIcl (show 3 * k + 1 < 1000000 by omega)]
        refine ⟨_, rfl, hT2.put' _ _ _, fun _ => ⟨fun q => absurd q a, fun _ _ => ⟨?_, ?_⟩, fun _ q => absurd d q⟩, fun j hj => ?_, fun b x y => ?_, fun q hq => ?_⟩
        · rw [am_upI_s]
        · rw [am_upI_o (by omega), am_upI_ne (by decide)]; exact c1
        · rw [am_upI_o (by omega), am_upI_ne (by decide)]; exact c2 j hj
        · rw [am_upI_ne y, am_upI_ne x]; exact c3 b x y
        · rw [am_upI_ne (by decide), am_upI_o hq]; exact c4 q hq
      · rw [if_neg d, decide_eq_false (show ¬ (33 ≤ chr n c (i + 1) ∧ chr n c (i + 1) ≤ 33) by omega), if_pos (show bI false = 0 from rfl)]
        have a97 := e_isAt hT2 hn (by omega) hr (lo := 97) (hi' := 99) (by omega) (by omega) (by omega)
        show ∃ J', Option.bind (pX11_isAt rM J2 1 (nI 97) (nI 99)) _ = _ ∧ _
        rw [a97, am_bd]
        by_cases g : 97 ≤ chr n c (i + 1) ∧ chr n c (i + 1) ≤ 99
        · have l1 := chr_in (show chr n c (i + 1) ≠ 0 by omega)
          rw [if_pos g, decide_eq_true g, if_neg (show ¬ bI true = 0 by decide)]
          show ∃ J', am_ck (am_inb (J2 1 13) 60) _ = _ ∧ _
          rw [hT2.2.2.2.1, inb (show i + 1 < 60 by omega) (by omega), am_ck_true, p1, inb (show 3 * k + 1 < 90 by omega) (by omega), am_ck_true, am_let_e]
          dsimp only
          rw [hT2.2.2.2.1, rM10, rM11, nIcl (show 3 * k + 1 < 1000000 by omega), nIcl (show i + 1 < 1000000 by omega), hT2.2.2.1 (i + 1) l1, ← chr_at (c := c) l1, show (97 : Int32) = nI 97 from rfl, pk_sub g.1, am_upI_ne (show (1 : Nat) ≠ 8 by decide), hT2.2.2.2.1, nI_1, am_let_e, p2]
          have hT3 : txM (am_upI (am_upI J2 8 (3 * k + 1) (nI (chr n c (i + 1) - 97))) 1 13 (nI (i + 1 + 1))) n S c (i + 2) k := hT2.put _ _ _
          rw [e_takesState hT3 hn hS1 hS (by omega) hr (show 3 * k + 2 < 90 by omega), am_bd]
          generalize hJ3 : am_upI (am_upI J2 8 (3 * k + 1) (nI (chr n c (i + 1) - 97))) 1 13 (nI (i + 1 + 1)) = J3 at *
          have f1 : J3 8 (3 * k) = nI (chr n c i - 48) := by rw [← hJ3, am_upI_ne (by decide), am_upI_o (by omega)]; exact c1
          have f1' : J3 8 (3 * k + 1) = nI (chr n c (i + 1) - 97) := by rw [← hJ3, am_upI_ne (by decide), am_upI_s]
          have f2 : ∀ j, j < 3 * k → J3 8 j = J 8 j := fun j hj => by rw [← hJ3, am_upI_ne (by decide), am_upI_o (by omega)]; exact c2 j hj
          have f3 : ∀ b, b ≠ 1 → b ≠ 8 → J3 b = J b := fun b x y => by rw [← hJ3, am_upI_ne x, am_upI_ne y]; exact c3 b x y
          have f4 : ∀ q, q ≠ 13 → J3 1 q = J 1 q := fun q hq => by rw [← hJ3, am_upI_o hq, am_upI_ne (by decide)]; exact c4 q hq
          by_cases k2 : isSt S (chr n c (i + 2)) = true
          · rw [if_pos k2, if_pos k2]
            refine ⟨_, rfl, hT3.put _ _ _, fun _ => ⟨fun q => absurd q a, fun _ q => absurd q d, fun _ _ => ⟨?_, ?_, ?_⟩⟩, fun j hj => ?_, fun b x y => ?_, fun q hq => ?_⟩
            · dsimp only; rw [am_upI_ne (by decide), am_upI_o (by omega)]; exact f1'
            · dsimp only; rw [am_upI_ne (by decide), am_upI_o (by omega)]; exact f1
            · dsimp only; rw [am_upI_ne (by decide), am_upI_s]
            · dsimp only; rw [am_upI_ne (by decide), am_upI_o (by omega)]; exact f2 j hj
            · dsimp only; rw [am_upI_ne x, am_upI_ne y]; exact f3 b x y
            · dsimp only; rw [am_upI_o hq, am_upI_ne (by decide)]; exact f4 q hq
          · rw [if_neg k2, if_neg k2]
            exact ⟨_, rfl, hT3, fun q => (by cases q), f2, f3, f4⟩
        · rw [if_neg g, decide_eq_false g, if_pos (show bI false = 0 from rfl)]
          exact ⟨_, rfl, hT2, fun q => (by cases q), c2, c3, c4⟩
    · rw [if_neg b, if_neg b, if_pos (show ((0 : Int32), J).1 = 0 from rfl)]
      exact ⟨_, rfl, hT, fun q => (by cases q), fun _ _ => rfl, fun _ _ _ => rfl, fun _ _ => rfl⟩
theorem e_takesAll (hn : n ≤ 60) (hS1 : 1 ≤ S) (hS : S ≤ 6) (hr : ∀ j, j < n → 32 ≤ c j ∧ c j ≤ 126) (j3 : am_I → Option (Int32 × am_I)) (hj : ∀ J, j3 J = if (J 1 13) = (J 1 12) then some ((1 : Int32), J) else some ((0 : Int32), J)) : ∀ f i k (J : am_I) q, txM J n S c i k → i ≤ n → 3 * k ≤ i → n < f + i → n + 3 < q + i →
    ∃ J', lX11_takesAll_12 rM 1 j3 q (1 : Int32) J = (match pA S n (chr n c) f i with | .inl _ => some ((0 : Int32), J') | .inr _ => some ((1 : Int32), J')) ∧
      (∀ e, pA S n (chr n c) f i = .inl e → J' 1 13 = nI e) ∧ (∀ ps, pA S n (chr n c) f i = .inr ps → J' 1 14 = nI (k + ps.length) ∧ k + ps.length ≤ 21 ∧ ∀ m, m < ps.length → recd (chr n c) J' (k + m) (ps.getD m 0)) ∧ (∀ j, j < 3 * k → J' 8 j = J 8 j) ∧ (∀ b, b ≠ 1 → b ≠ 8 → J' b = J b) ∧ ∀ q, q ≠ 13 → q ≠ 14 → J' 1 q = J 1 q := by
  intro f
  induction f with
  | zero => intro i k J q hT h1 h2 h3; omega
  | succ f ih =>
    intro i k J q hT h1 h2 h3 h4
    obtain ⟨q, rfl⟩ : ∃ q', q = q' + 2 := ⟨q - 2, by omega⟩
    obtain ⟨J1, e1, f1, f2, f3, f4, f5⟩ := e_takesItem hT hn hS1 hS (by omega) (by omega) hr
    have ile := itm_le (S := S) (c := c) h1
    have step : lX11_takesAll_12 rM 1 j3 (q + 2) (1 : Int32) J = _ := show sX11_takesAll_12 rM 1 j3 (lX11_takesAll_12 rM 1 j3 (q + 1)) (1 : Int32) J = _ from rfl
    rw [step]
    unfold sX11_takesAll_12
    rw [if_neg i10, e1, am_bd]
    unfold pA
    by_cases a : (itm S (chr n c) i).1 = true
    · have ige : i + 2 ≤ (itm S (chr n c) i).2 := by rcases itm_ok a with ⟨_, _, g⟩ | ⟨_, _, _, g⟩ | ⟨_, _, _, _, _, _, g⟩ <;> omega
      generalize hj2 : (itm S (chr n c) i).2 = j at *
      have hr1 := f2 a
      rw [a, if_neg (show ¬ ((bI true, J1) : Int32 × am_I).1 = 0 from (by decide : ¬ bI true = 0)), if_pos rfl, am_let_e]
      dsimp only
      obtain ⟨u1, u2, u3, u4, u5⟩ := f1
      show ∃ J', Option.bind (pX11_isAt rM (am_upI J1 1 14 (J1 1 14 + 1)) 1 (nI 59) (nI 59)) _ = _ ∧ _
      rw [u5, nI_1]
      have hT2 : txM (am_upI J1 1 14 (nI (k + 1))) n S c j (k + 1) := ⟨by rw [am_upI_o (by decide)]; exact u1, by rw [am_upI_o (by decide)]; exact u2, fun j hj => by rw [am_upI_ne (by decide)]; exact u3 j hj, by rw [am_upI_o (by decide)]; exact u4, am_upI_s⟩
      rw [e_isAt hT2 hn (by omega) hr (lo := 59) (hi' := 59) (by omega) (by omega) (by omega), am_bd]
      by_cases b : chr n c j = 59
      · have jn := chr_in (show chr n c j ≠ 0 by omega)
        rw [if_pos b, decide_eq_true (show 59 ≤ chr n c j ∧ chr n c j ≤ 59 by omega), if_neg (show ¬ bI true = 0 by decide), am_let_e, am_let_e, am_upI_o (show 13 ≠ 14 by decide), u4, nI_1]
        have hT3 : txM (am_upI (am_upI J1 1 14 (nI (k + 1))) 1 13 (nI (j + 1))) n S c (j + 1) (k + 1) := by
          obtain ⟨v1, v2, v3, v4, v5⟩ := hT2
          exact ⟨by rw [am_upI_o (by decide)]; exact v1, by rw [am_upI_o (by decide)]; exact v2, fun j hj => by rw [am_upI_ne (by decide)]; exact v3 j hj, am_upI_s, by rw [am_upI_o (by decide)]; exact v5⟩
        obtain ⟨J', e2, g1, g2, g3, g4, g5⟩ := ih (j + 1) (k + 1) _ (q + 1) hT3 (by omega) (by omega) (by omega) (by omega)
        have e2 : lX11_takesAll_12 rM 1 j3 (q + 1) (bI true) (am_upI (am_upI J1 1 14 (nI (k + 1))) 1 13 (nI (j + 1))) = _ := e2
        have g3' : ∀ x, x < 3 * (k + 1) → J' 8 x = J1 8 x := fun x hx => by rw [g3 x hx, am_upI_ne (by decide), am_upI_ne (by decide)]
        refine ⟨J', ?_, fun e he => ?_, fun ps hp => ?_, fun x hx => (g3' x (by omega)).trans (f3 x hx), fun b x y => ?_, fun p x y => ?_⟩
        · rw [e2]
          cases pA S n (chr n c) f (j + 1) <;> rfl
        · cases hp : pA S n (chr n c) f (j + 1) with
          | inl x => rw [hp] at he; cases he; exact g1 e hp
          | inr qs => rw [hp] at he; cases he
        · cases hp2 : pA S n (chr n c) f (j + 1) with
          | inl x => rw [hp2] at hp; cases hp
          | inr qs =>
            rw [hp2] at hp
            cases hp
            obtain ⟨w1, w2, w3⟩ := g2 qs hp2
            rw [List.length_cons]
            refine ⟨by rw [w1]; congr 1; omega, by omega, fun m hm => ?_⟩
            cases m with
            | zero => exact hr1.kept (fun x x1 x2 => g3' x (by omega))
            | succ m =>
              have := w3 m (by omega)
              rw [show k + (m + 1) = k + 1 + m by omega]
              exact this
        · rw [g4 b x y, am_upI_ne x, am_upI_ne x]; exact f4 b x y
        · rw [g5 p x y, am_upI_o x, am_upI_o y]; exact f5 p x
      · rw [if_neg b, decide_eq_false (show ¬ (59 ≤ chr n c j ∧ chr n c j ≤ 59) by omega), if_pos (show bI false = 0 from rfl), am_let_e, am_let_e, am_upI_o (show 13 ≠ 14 by decide), u4]
        have z0 : nI j + (0 : Int32) = nI j := nI_add j 0
        rw [z0]
        have ex : lX11_takesAll_12 rM 1 j3 (q + 1) (bI false) (am_upI (am_upI J1 1 14 (nI (k + 1))) 1 13 (nI j)) = j3 (am_upI (am_upI J1 1 14 (nI (k + 1))) 1 13 (nI j)) := by
          show sX11_takesAll_12 rM 1 j3 (lX11_takesAll_12 rM 1 j3 q) (bI false) _ = _
          unfold sX11_takesAll_12
          rw [if_pos (show bI false = 0 from rfl)]
        rw [ex, hj]
        generalize hJ4 : am_upI (am_upI J1 1 14 (nI (k + 1))) 1 13 (nI j) = J4
        have v13 : J4 1 13 = nI j := by rw [← hJ4, am_upI_s]
        have v12 : J4 1 12 = nI n := by rw [← hJ4, am_upI_o (by decide), am_upI_o (by decide)]; exact u1
        have v14 : J4 1 14 = nI (k + 1) := by rw [← hJ4, am_upI_o (by decide), am_upI_s]
        have v8 : J4 8 = J1 8 := by rw [← hJ4, am_upI_ne (by decide), am_upI_ne (by decide)]
        have vb : ∀ b, b ≠ 1 → b ≠ 8 → J4 b = J b := fun b x y => by rw [← hJ4, am_upI_ne x, am_upI_ne x]; exact f4 b x y
        have vq : ∀ p, p ≠ 13 → p ≠ 14 → J4 1 p = J 1 p := fun p x y => by rw [← hJ4, am_upI_o x, am_upI_o y]; exact f5 p x
        rw [v13, v12]
        by_cases d : j = n
        · rw [if_pos d, if_pos (by rw [d])]
          refine ⟨J4, rfl, fun e he => (by cases he), fun ps hp => ?_, fun x hx => by rw [v8]; exact f3 x hx, vb, vq⟩
          cases hp
          refine ⟨by rw [v14]; rfl, by show k + 1 ≤ 21; omega, fun m hm => ?_⟩
          have hm1 : m < 1 := hm
          have : m = 0 := by omega
          subst this
          exact hr1.kept (fun x _ _ => by rw [v8])
        · rw [if_neg d, if_neg (fun e => d ((nI_eq (by omega) (by omega)).mp e))]
          exact ⟨J4, rfl, fun e he => (by cases he; exact v13), fun ps hp => (by cases hp), fun x hx => by rw [v8]; exact f3 x hx, vb, vq⟩
    · have a' : (itm S (chr n c) i).1 = false := by cases e : (itm S (chr n c) i).1 <;> simp_all
      rw [a', if_pos (show ((bI false, J1) : Int32 × am_I).1 = 0 from rfl), if_neg (by decide)]
      exact ⟨J1, rfl, fun e he => (by cases he; exact f1.2.2.2.1), fun ps hp => (by cases hp), f3, f4, fun p x _ => f5 p x⟩
end
/-- the reference adds what it read -/
theorem e_apply {h : Nat → Nat} {ps : List Nat} {S : Nat} (hok : ∀ q, q ∈ ps → (itm S h q).1 = true) {A : am_Au} (hA1 : A.1 = S) (hw : aw A) {J : am_I} (hA : isM J A) (h14 : J 1 14 = nI ps.length) (hl : ps.length ≤ 21) (hrec : ∀ m, m < ps.length → recd h J m (ps.getD m 0)) (hh : ∀ i, h i < 1000) :
    ∃ J', lX11_parse_24 rM 1 am_fu (0 : Int32) J = some (nI ps.length, J') ∧ isM J' (ps.foldl (apI h) A) ∧ J' 1 6 = 0 ∧ (∀ b, b ≠ 1 → b ≠ 2 → J' b = J b) ∧ ∀ q, (q < 3 ∨ 6 < q) → J' 1 q = J 1 q := by
  obtain ⟨J', e, h1, h2, h3⟩ := am_for0 (fun n i J => lX11_parse_24 rM 1 n (nI i) J) ps.length (fun i J' => (isM J' ((ps.take i).foldl (apI h) A) ∧ aw ((ps.take i).foldl (apI h) A) ∧ ((ps.take i).foldl (apI h) A).1 = S) ∧ (∀ b, b ≠ 1 → b ≠ 2 → J' b = J b) ∧ ∀ q, (q < 3 ∨ 6 < q) → J' 1 q = J 1 q) (fun J' => some (nI ps.length, am_upI J' 1 6 0)) (by omega) (fun n m J' hm hP => by
    obtain ⟨⟨p1, p1w, p1S⟩, p2, p3⟩ := hP
    have hq : ps.getD m 0 ∈ ps := by
      rw [List.getD_eq_getElem?_getD, List.getElem?_eq_getElem hm]
      exact List.getElem_mem hm
    have et : ps.take (m + 1) = ps.take m ++ [ps.getD m 0] := by
      rw [List.take_add_one, List.getElem?_eq_getElem hm, List.getD_eq_getElem?_getD, List.getElem?_eq_getElem hm]
      rfl
    have ef : (ps.take (m + 1)).foldl (apI h) A = apI h ((ps.take m).foldl (apI h) A) (ps.getD m 0) := by
      rw [et, List.foldl_append]; rfl
    rw [ef]
    generalize hB : (ps.take m).foldl (apI h) A = B at *
    generalize hqq : ps.getD m 0 = q at *
    have hoq := hok q hq
    have hr : recd h J' m q := by
      have := hrec m hm
      rw [hqq] at this
      exact this.kept (fun j _ _ => by rw [p2 8 (by decide) (by decide)])
    have h6 := p1w.2.1
    have e14 : J' 1 14 = nI ps.length := by rw [p3 14 (by omega)]; exact h14
    have e3m : (3 : Int32) * nI m = nI (3 * m) := by rw [show (3 : Int32) = nI 3 from rfl, pk_mul]
    have i1 : nI (3 * m) + (1 : Int32) = nI (3 * m + 1) := nI_1 _
    have i2 : nI (3 * m) + (2 : Int32) = nI (3 * m + 2) := nI_add _ 2
    have hgo : lX11_parse_24 rM 1 (n + 1) (nI m) J' = sX11_parse_24 rM 1 (lX11_parse_24 rM 1 n) (nI m) J' := rfl
    have hwB : aw (apI h B q) := aw_apI p1w (by rw [p1S]; exact hoq)
    have hSB : (apI h B q).1 = S := by rw [apI_1]; exact p1S
    have hlt : ¬ nI ps.length ≤ nI m := nIge hm (by omega)
    obtain ⟨r1, r2, r3⟩ := hr
    rcases itm_ok hoq with ⟨a, b, _⟩ | ⟨a, b, d, _⟩ | ⟨a, b, d, g1, g2, k, _⟩
    · have st := isSt_t.mp b
      obtain ⟨x1, x2⟩ := r1 a
      have ea : apI h B q = (B.1, B.2.1 ||| ((1 : Int32) <<< (nI (h (q + 1) - 48) &&& 31)), B.2.2.1, B.2.2.2) := by unfold apI; rw [if_pos a]
      refine ⟨am_upI J' 1 4 (B.2.1 ||| ((1 : Int32) <<< (nI (h (q + 1) - 48) &&& 31))), ?_, ⟨?_, hwB, hSB⟩, fun b x _ => by rw [am_upI_ne x]; exact p2 b x (by assumption), fun k hk => by rw [am_upI_o (by omega)]; exact p3 k hk⟩
      · show lX11_parse_24 rM 1 (n + 1) (nI m) J' = _
        rw [hgo]
        unfold sX11_parse_24
        rw [e14, if_neg hlt, am_let_e, e3m, i1, inb (show 3 * m + 1 < 90 by omega) (by omega), am_ck_true, am_jn_e, rM11, nIcl (show 3 * m + 1 < 1000000 by omega), x1, if_pos rfl, inb (show 3 * m < 90 by omega) (by omega), am_ck_true, am_let_e, nIcl (show 3 * m < 1000000 by omega), x2, p1.2.1, nI_1]
      · rw [ea]; exact (isM_set45 p1).1 _
    · have st := isSt_t.mp b
      obtain ⟨x1, x2⟩ := r2 a d
      have ea : apI h B q = (B.1, B.2.1, B.2.2.1 ||| ((1 : Int32) <<< (nI (h q - 48) &&& 31)), B.2.2.2) := by unfold apI; rw [if_neg a, if_pos d]
      refine ⟨am_upI J' 1 5 (B.2.2.1 ||| ((1 : Int32) <<< (nI (h q - 48) &&& 31))), ?_, ⟨?_, hwB, hSB⟩, fun b x _ => by rw [am_upI_ne x]; exact p2 b x (by assumption), fun k hk => by rw [am_upI_o (by omega)]; exact p3 k hk⟩
      · show lX11_parse_24 rM 1 (n + 1) (nI m) J' = _
        rw [hgo]
        unfold sX11_parse_24
        rw [e14, if_neg hlt, am_let_e, e3m, i1, inb (show 3 * m + 1 < 90 by omega) (by omega), am_ck_true, am_jn_e, rM11, nIcl (show 3 * m + 1 < 1000000 by omega), x1, if_neg (by decide), am_ck_true, if_pos rfl, inb (show 3 * m < 90 by omega) (by omega), am_ck_true, am_let_e, nIcl (show 3 * m < 1000000 by omega), x2, p1.2.2.1, nI_1]
      · rw [ea]; exact (isM_set45 p1).2 _
    · have st := isSt_t.mp b
      have st2 := isSt_t.mp k
      obtain ⟨x1, x2, x3⟩ := r3 a d
      have ea : apI h B q = setT B (h (q + 1) - 97) (h q - 48) (B.2.2.2 (h (q + 1) - 97) (h q - 48) ||| ((1 : Int32) <<< (nI (h (q + 2) - 48) &&& 31))) := by unfold apI; rw [if_neg a, if_neg d]
      have z1 : ¬ nI (h (q + 1) - 97) = (-1 : Int32) := fun e => by
        have : h (q + 1) - 97 = 0 ∨ h (q + 1) - 97 = 1 ∨ h (q + 1) - 97 = 2 := by omega
        rcases this with z | z | z <;> rw [z] at e <;> exact absurd e (by decide)
      have z2 : ¬ nI (h (q + 1) - 97) = (-2 : Int32) := fun e => by
        have : h (q + 1) - 97 = 0 ∨ h (q + 1) - 97 = 1 ∨ h (q + 1) - 97 = 2 := by omega
        rcases this with z | z | z <;> rw [z] at e <;> exact absurd e (by decide)
      refine ⟨am_upI J' 2 (6 * (h (q + 1) - 97) + (h q - 48)) (B.2.2.2 (h (q + 1) - 97) (h q - 48) ||| ((1 : Int32) <<< (nI (h (q + 2) - 48) &&& 31))), ?_, ⟨?_, hwB, hSB⟩, fun b x y => by rw [am_upI_ne y]; exact p2 b x y, fun k hk => by rw [am_upI_ne (by decide)]; exact p3 k hk⟩
      · show lX11_parse_24 rM 1 (n + 1) (nI m) J' = _
        rw [hgo]
        unfold sX11_parse_24
        rw [e14, if_neg hlt, am_let_e, e3m, i1, i2, inb (show 3 * m + 1 < 90 by omega) (by omega), am_ck_true, am_jn_e, rM11, nIcl (show 3 * m + 1 < 1000000 by omega), x1, if_neg z1, am_ck_true, if_neg z2, am_ck_true, inb (show 3 * m < 90 by omega) (by omega), am_ck_true, nIcl (show 3 * m < 1000000 by omega), x2, ix6, inb (show 6 * (h (q + 1) - 97) + (h q - 48) < 18 by omega) (by omega), am_ck_true, inb (show 3 * m + 2 < 90 by omega) (by omega), am_ck_true, am_ck_true, am_let_e, nIcl (show 6 * (h (q + 1) - 97) + (h q - 48) < 1000000 by omega), nIcl (show 3 * m + 2 < 1000000 by omega), x3, rM0, p1.2.2.2 _ _ (show h (q + 1) - 97 < 3 by omega) (show h q - 48 < 6 by omega), nI_1]
      · rw [ea]; exact isM_setT p1 (by omega) _) (fun n J' hP => by
    have e14 : J' 1 14 = nI ps.length := by rw [hP.2.2 14 (by omega)]; exact h14
    show sX11_parse_24 rM 1 (lX11_parse_24 rM 1 n) (nI ps.length) J' = _
    unfold sX11_parse_24
    rw [e14, if_pos (nIle (by omega)), am_let_e, am_upI_o (by decide), e14]) J ⟨⟨hA, hw, hA1⟩, fun _ _ _ => rfl, fun _ _ => rfl⟩
  rw [List.take_length] at h1
  exact ⟨_, e, isM_1 h1.1 (by omega) 0, am_upI_s, fun b x y => by rw [am_upI_ne x]; exact h2 b x y, fun q hq => by rw [am_upI_o (by omega)]; exact h3 q hq⟩
section
variable {R : am_R} {I : am_I} {L : am_L} {J : am_I} {K : am_L}
theorem InvC.text {A A' : am_Au} {w : Nat → Nat} {sv : am_Sv} {tx tx' wd : am_Tx} {rs : Option am_Rs} {sh : Nat → am_Sf} (h : InvC R I L A w sv tx wd rs sh) {I' : am_I} (hA : isA I' 2 3 A') (hT : cT I' tx') (hf : ∀ b, b ≠ 2 → b ≠ 3 → b ≠ 8 → I' b = I b) : InvC R I' L A' w sv tx' wd rs sh := by
  obtain ⟨h0, h1, h2, h3, h4, h5, h6, h7, h8⟩ := h
  have hr := h0.res
  have hf' : ∀ b, 3 < b → b ≠ 8 → I' b = I b := fun b x y => hf b (by omega) (by omega) y
  exact ⟨h0, hA, h2.kept (hf' 6 (by omega) (by omega)), h3.kept (by rw [hf 1 (by omega) (by omega) (by omega)]) (hf' 4 (by omega) (by omega)) (hf' 5 (by omega) (by omega)) (hf' 7 (by omega) (by omega)), hT, h5.kept (hf' 10 (by omega) (by omega)) (hf' 11 (by omega) (by omega)), h6.kept (by rw [hf 1 (by omega) (by omega) (by omega)]) (hf' _ (by omega) (by omega)) rfl rfl, h7.kept (fun b x y => hf' b (by omega) (by omega)) (fun _ _ _ => rfl), h8.kept (hf' 17 (by omega) (by omega)) (hf' 18 (by omega) (by omega)) (hf' 26 (by omega) (by omega)) (hf' 27 (by omega) (by omega))⟩
theorem InvM.text {A A' : am_Au} {w : Nat → Nat} {sv : am_Sv} {tx tx' wd : am_Tx} {rs : Option am_Rs} {sh : Nat → am_Sf} (h : InvM J K A w sv tx wd rs sh) {J' : am_I} (hA : isM J' A') (hT : mT J' tx') (hK : mK J' A') (hf : ∀ b, b ≠ 1 → b ≠ 2 → b ≠ 8 → J' b = J b) (hk : ∀ k, kfM k = true → (k < 3 ∨ 6 < k) → k ≠ 12 → J' 1 k = J 1 k) : InvM J' K A' w sv tx' wd rs sh := by
  obtain ⟨h1, h2, h3, h4, h5, h6', h7, h8⟩ := h
  exact ⟨hA, h2.kept (hf 4 (by omega) (by omega) (by omega)), h3.kept (hk 49 rfl (by omega) (by omega)) (hf 32 (by omega) (by omega) (by omega)), hT, h5.kept (hk 16 rfl (by omega) (by omega)) (hf 9 (by omega) (by omega) (by omega)), h6'.kept (hk 40 rfl (by omega) (by omega)) rfl rfl, h7.kept (hf 28 (by omega) (by omega) (by omega)) (hf 29 (by omega) (by omega) (by omega)) rfl, hK⟩
theorem st14 (h : Inv R I L J K) : ∃ r1 r2, pX10_parse R I 1 = some r1 ∧ pX11_parse rM J 1 = some r2 ∧ r1.1 = r2.1 ∧ Inv R r1.2 L r2.2 K := by
  obtain ⟨A, w, sv, tx, wd, rs, sh, ok, hc, hm⟩ := h
  obtain ⟨n, c⟩ := tx
  have r3 := hc.1.r2_3
  have hA3 : isA I 2 (R 2 3) A := by rw [r3]; exact hc.2.1
  have hw := ok.1
  have h6 := hw.2.1
  obtain ⟨t1, t2⟩ := ok.2.2.2.1
  have t1 : n ≤ 60 := t1
  have t2 : ∀ j, j < n → 32 ≤ c j ∧ c j ≤ 126 := t2
  have hT := hc.2.2.2.2.1
  have hMT := hm.2.2.2.1
  have hT0 : I 8 0 = nI n := hT.1
  have hT1 : ∀ j, j < n → I (R 8 1) j = nI (c j) := by rw [hc.1.r8_1]; exact hT.2
  have hM0 : J 1 12 = nI n := hMT.1
  have hM1 : ∀ j, j < n → J 7 j = nI (c j) := hMT.2
  unfold pX10_parse pX11_parse
  rw [hc.1.r1_5, hc.1.r1_0, hA3.1, e_errorPosition hT0 t1 hT1 t2 h6, am_bd]
  -- the reference reads
  have hj3 : ∀ J4 : am_I, (fun (J4 : am_I) => if (J4 1 13) = (J4 1 12) then some ((1 : Int32), J4) else some ((0 : Int32), J4)) J4 = if (J4 1 13) = (J4 1 12) then some ((1 : Int32), J4) else some ((0 : Int32), J4) := fun _ => rfl
  obtain ⟨J1, e1, f1, f2, f3, f4, f5⟩ := e_takesAll t1 hw.1 h6 t2 (fun (J4 : am_I) => if (J4 1 13) = (J4 1 12) then some ((1 : Int32), J4) else some ((0 : Int32), J4)) hj3 100 0 0 (am_upI (am_upI J 1 14 0) 1 13 0) am_fu ⟨by rw [am_upI_o (by decide), am_upI_o (by decide)]; exact hM0, by rw [am_upI_o (by decide), am_upI_o (by decide)]; exact hm.1.1, fun j hj => by rw [am_upI_ne (by decide), am_upI_ne (by decide)]; exact hM1 j hj, by rw [am_upI_s]; rfl, by rw [am_upI_o (by decide), am_upI_s]; rfl⟩ (Nat.zero_le _) (Nat.zero_le _) (by omega) (by have := am_fu_ge; omega)
  have eT : pX11_takesAll rM J 1 = (match pA A.1 n (chr n c) 100 0 with | .inl _ => some ((0 : Int32), J1) | .inr _ => some ((1 : Int32), J1)) := by
    unfold pX11_takesAll
    rw [am_let_e, am_let_e, am_jn_e]
    exact e1
  rw [eT]
  have g4 : ∀ b, b ≠ 1 → b ≠ 8 → J1 b = J b := fun b x y => by rw [f4 b x y, am_upI_ne x, am_upI_ne x]
  have g5 : ∀ q, q ≠ 13 → q ≠ 14 → J1 1 q = J 1 q := fun q x y => by rw [f5 q x y, am_upI_o x, am_upI_o y]
  have kn : ∀ k, kfM k = true → k ≠ 13 ∧ k ≠ 14 := fun k hk => ⟨fun q => (by subst q; cases hk), fun q => (by subst q; cases hk)⟩
  cases hp : pA A.1 n (chr n c) 100 0 with
  | inl e =>
    have f1e := f1 e hp
    have hne : ¬ nI e = (-1 : Int32) := fun q => by
      have h1 : (nI e).toInt = (-1 : Int32).toInt := by rw [q]
      rw [nI_toInt (by have := pA_le 100 0 e (Nat.zero_le _) hp; omega)] at h1
      have : (-1 : Int32).toInt = -1 := by decide
      omega
    refine stI (v := -100 - nI e) (I' := am_upI I 8 0 0) (J' := am_upI J1 1 12 0) ?_ ?_ ⟨A, w, sv, (0, c), wd, rs, sh, ⟨ok.1, ok.2.1, ok.2.2.1, ⟨Nat.zero_le _, fun j hj => absurd hj (Nat.not_lt_zero j)⟩, ok.2.2.2.2⟩, hc.text (hc.2.1.kept (am_upI_ne (by decide)) (am_upI_ne (by decide))) ⟨by rw [am_upI_s]; rfl, fun j hj => absurd hj (Nat.not_lt_zero j)⟩ (fun b _ _ z => am_upI_ne z), hm.text (hm.1.kept (fun k x y => ?_) ?_) ⟨by rw [am_upI_s]; rfl, fun j hj => absurd hj (Nat.not_lt_zero j)⟩ (hm.2.2.2.2.2.2.2.kept ?_ (fun k x y => ?_) ?_) (fun b x y z => ?_) (fun k x y z => ?_)⟩
    · rw [am_jn_e, if_neg hne]
      dsimp only
      rw [am_let_e]
    · rw [am_bd, am_let_e, if_pos (show ((0 : Int32), J1).1 = 0 from rfl)]
      dsimp only
      rw [am_upI_o (by decide), f1e]
    · rw [am_upI_o (by omega), g5 k (by omega) (by omega)]
    · rw [am_upI_ne (by decide), g4 2 (by decide) (by decide)]
    · rw [am_upI_o (by decide), g5 6 (by decide) (by decide)]
    · rw [am_upI_o (by omega), g5 k (by omega) (by omega)]
    · rw [am_upI_ne (by decide), g4 17 (by decide) (by decide)]
    · rw [am_upI_ne x, g4 b x z]
    · rw [am_upI_o z, g5 k (kn k x).1 (kn k x).2]
  | inr ps =>
    obtain ⟨f14, fl, frec⟩ := f2 ps hp
    have hok := pA_ok 100 0 ps hp
    have hpl : 0 < n := by
      apply Classical.byContradiction
      intro q
      have : n = 0 := by omega
      subst this
      unfold pA at hp
      have z : (itm A.1 (chr 0 c) 0).1 = false := by
        cases hz : (itm A.1 (chr 0 c) 0).1 with
        | false => rfl
        | true =>
          rcases itm_ok hz with ⟨g, _⟩ | ⟨_, g, _⟩ | ⟨_, g, _⟩
          · cases g
          · have := isSt_t.mp g; have : chr 0 c 0 = 0 := rfl; omega
          · have := isSt_t.mp g; have : chr 0 c 0 = 0 := rfl; omega
      rw [z, if_neg (by decide)] at hp
      cases hp
    obtain ⟨I1, a1, a2, a3, a4⟩ := e_addItems (R := R) (o := 8) (u := 2) (c := c) t1 (by rw [r3, hc.1.r8_1]; decide) (by rw [r3]; decide) 100 0 ps 0 A I am_fu hp rfl hT0 hT1 hA3 hw hpl (by omega) (by have := am_fu_ge; omega)
    rw [r3] at a2 a4
    have a1 : lX7_addItemsTo_4 R 8 2 am_fu (nI 0) (nI 0) I = some (nI (0 + ps.length), I1) := a1
    rw [nI_0, Nat.zero_add] at a1
    rw [Nat.zero_add] at f14 fl
    obtain ⟨J2, b1, b2, b3, b4, b5⟩ := e_apply (h := chr n c) hok (A := A) rfl hw (J := am_upI J1 1 12 0) (hm.1.kept (fun k x y => by rw [am_upI_o (by omega), g5 k (by omega) (by omega)]) (by rw [am_upI_ne (by decide), g4 2 (by decide) (by decide)])) (by rw [am_upI_o (by decide)]; exact f14) fl (fun m hm => by
      have := frec m hm
      rw [Nat.zero_add] at this
      exact this.kept (fun j _ _ => by rw [am_upI_ne (by decide)])) (chr_lt t2)
    refine stI (v := nI ps.length) (I' := am_upI I1 8 0 0) (J' := J2) ?_ ?_ ⟨ps.foldl (apI (chr n c)) A, w, sv, (0, c), wd, rs, sh, ⟨a3, ok.2.1, ok.2.2.1, ⟨Nat.zero_le _, fun j hj => absurd hj (Nat.not_lt_zero j)⟩, ok.2.2.2.2⟩, hc.text (a2.kept (am_upI_ne (by decide)) (am_upI_ne (by decide))) ⟨by rw [am_upI_s]; rfl, fun j hj => absurd hj (Nat.not_lt_zero j)⟩ (fun b x y z => by rw [am_upI_ne z]; exact a4 b x y), hm.text b2 ⟨?_, fun j hj => absurd hj (Nat.not_lt_zero j)⟩ (Or.inl b3) (fun b x y z => ?_) (fun k x y z => ?_)⟩
    · rw [am_jn_e, if_pos rfl]
      unfold pX7_addItemsTo
      rw [a1, am_bd]
      dsimp only
      rw [am_let_e]
    · rw [am_bd, am_let_e, if_neg (show ¬ ((1 : Int32), J1).1 = 0 from (by decide : ¬ (1 : Int32) = 0))]
      dsimp only
      rw [b1]
    · rw [b5 12 (by omega), am_upI_s]; rfl
    · rw [b4 b x y, am_upI_ne x, g4 b x z]
    · rw [b5 k y, am_upI_o z, g5 k (kn k x).1 (kn k x).2]
end
