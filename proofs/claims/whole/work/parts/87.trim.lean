/-! trim -/
def num (U : Int32) (s : Nat) : Nat := sumN (fun i => if bt U i = true then 1 else 0) s
theorem num_s (U : Int32) (s : Nat) : num U (s + 1) = num U s + (if bt U s = true then 1 else 0) := rfl
theorem num_mono (U : Int32) {s : Nat} : ∀ t, s ≤ t → num U s ≤ num U t
  | 0, h => by
    have : s = 0 := by omega
    subst this; exact Nat.le_refl _
  | t + 1, h => by
    by_cases q : s = t + 1
    · subst q; exact Nat.le_refl _
    · have := num_mono U t (show s ≤ t by omega)
      rw [num_s]; omega
theorem num_lt {U : Int32} {s t : Nat} (hs : bt U s = true) (h : s < t) : num U s < num U t := by
  have := num_mono U t (show s + 1 ≤ t by omega)
  rw [num_s, if_pos hs] at this
  omega
theorem num_le (U : Int32) : ∀ s, num U s ≤ s
  | 0 => Nat.le_refl _
  | s + 1 => by
    have := num_le U s
    rw [num_s]
    by_cases h : bt U s = true
    · rw [if_pos h]; omega
    · rw [if_neg h]; omega
def sqz (x U : Int32) : Int32 := am_to (fun s y => y ||| (if bt (x &&& U) s = true then (1 : Int32) <<< (nI (num U s) &&& 31) else 0)) 6 0
theorem bt_sqz {x U : Int32} {k : Nat} : bt (sqz x U) k = true → ∃ s, s < 6 ∧ bt U s = true ∧ k = num U s := by
  unfold sqz
  rw [bt_to_or (fun s => if bt (x &&& U) s = true then (1 : Int32) <<< (nI (num U s) &&& 31) else 0)]
  rintro (h | ⟨s, hs, h⟩)
  · rw [bt_zero] at h; cases h
  · by_cases q : bt (x &&& U) s = true
    · rw [if_pos q, bt_1s (by have := num_le U s; omega)] at h
      rw [bt_and, Bool.and_eq_true] at q
      exact ⟨s, hs, q.2, of_decide_eq_true h⟩
    · rw [if_neg q, bt_zero] at h; cases h
def tT (A : am_Au) (U : Int32) (a k n : Nat) : Int32 := am_to (fun s y => if bt U s = true ∧ num U s = k then sqz (A.2.2.2 a s) U else y) n 0
theorem tT_at (A : am_Au) {U : Int32} (a : Nat) {s : Nat} (hs : bt U s = true) : ∀ n, s < n → tT A U a (num U s) n = sqz (A.2.2.2 a s) U
  | 0, h => absurd h (Nat.not_lt_zero s)
  | n + 1, h => by
    show (if bt U n = true ∧ num U n = num U s then sqz (A.2.2.2 a n) U else tT A U a (num U s) n) = _
    by_cases q : s = n
    · subst q; rw [if_pos ⟨hs, rfl⟩]
    · rw [if_neg (fun g => by have := num_lt hs (show s < n by omega); omega)]
      exact tT_at A a hs n (by omega)
theorem tT_out (A : am_Au) {U : Int32} (a : Nat) {k m : Nat} (hk : num U m ≤ k) : ∀ n, n ≤ m → tT A U a k n = 0
  | 0, _ => rfl
  | n + 1, h => by
    show (if bt U n = true ∧ num U n = k then sqz (A.2.2.2 a n) U else tT A U a k n) = _
    rw [if_neg (fun g => by have := num_lt g.1 (show n < m by omega); omega)]
    exact tT_out A a hk n (by omega)
/-- the automaton of the states of U -/
def trA (A : am_Au) (U : Int32) : am_Au := (if num U 6 = 0 then 1 else num U 6, sqz A.2.1 U, sqz A.2.2.1 U, fun a k => if a < 3 then tT A U a k 6 else 0)
theorem aw_trA (A : am_Au) (U : Int32) : aw (trA A U) := by
  have hb : ∀ x k, (if num U 6 = 0 then 1 else num U 6) ≤ k → bt (sqz x U) k = false := fun x k hk => by
    cases e : bt (sqz x U) k with
    | false => rfl
    | true =>
      obtain ⟨s, hs, h1, h2⟩ := bt_sqz e
      have := num_lt h1 (show s < 6 by omega)
      rw [if_neg (by omega)] at hk
      omega
  refine ⟨?_, ?_, fun k hk => ⟨hb _ k hk, hb _ k hk⟩, fun a s k hk => ?_, fun a s h => ?_⟩
  · show 1 ≤ if num U 6 = 0 then 1 else num U 6
    by_cases q : num U 6 = 0
    · rw [if_pos q]; exact Nat.le_refl _
    · rw [if_neg q]; omega
  · show (if num U 6 = 0 then 1 else num U 6) ≤ 6
    have := num_le U 6
    by_cases q : num U 6 = 0
    · rw [if_pos q]; omega
    · rw [if_neg q]; omega
  · show bt (if a < 3 then tT A U a s 6 else 0) k = false
    by_cases ha : a < 3
    · rw [if_pos ha]
      have : ∀ n, bt (tT A U a s n) k = false := fun n => by
        refine am_to_ind (fun y => bt y k = false) n 0 (fun i y _ hy => ?_) (bt_zero k)
        by_cases q : bt U i = true ∧ num U i = s
        · rw [if_pos q]; exact hb _ k hk
        · rw [if_neg q]; exact hy
      exact this 6
    · rw [if_neg ha]; exact bt_zero k
  · show (if a < 3 then tT A U a s 6 else 0) = 0
    by_cases ha : a < 3
    · rw [if_pos ha]
      have hs : (if num U 6 = 0 then 1 else num U 6) ≤ s := by
        rcases h with h | h
        · exact h
        · omega
      refine tT_out A a (m := 6) ?_ 6 (Nat.le_refl _)
      by_cases q : num U 6 = 0
      · omega
      · rw [if_neg q] at hs; exact hs
    · rw [if_neg ha]
section
variable {R : am_R} {I : am_I} {o : Nat} {A : am_Au}
theorem e_squeeze (x U : Int32) : pX0_squeeze x U = some (sqz x U) := by
  unfold pX0_squeeze
  have key := am_for0 (fun n i (s : Int32 × Int32) => lX0_squeeze_7 x U n s.1 s.2 (nI i)) 6 (fun i s => s.1 = am_to (fun s y => y ||| (if bt (x &&& U) s = true then (1 : Int32) <<< (nI (num U s) &&& 31) else 0)) i 0 ∧ s.2 = nI (num U i)) (fun s => some s.1) (by omega) (fun n i s hi hP => by
    obtain ⟨p1, p2⟩ := hP
    refine ⟨(s.1 ||| (if bt (x &&& U) i = true then (1 : Int32) <<< (nI (num U i) &&& 31) else 0), nI (num U (i + 1))), ?_, by rw [p1]; rfl, rfl⟩
    have e1 : bt (x &&& U) i = (bt x i && bt U i) := bt_and x U i
    simp only [lX0_squeeze_7, sX0_squeeze_7, ng6 hi, if_false, e_cb _ (show i < 32 by omega), am_bd, am_jn_e, am_let_e, bI0, ite_not, nI_1, e1, num_s, p2]
    cases bt U i
    · rw [Bool.and_false]
      show lX0_squeeze_7 x U n s.1 (nI (num U i)) (nI (i + 1)) = lX0_squeeze_7 x U n (s.1 ||| 0) (nI (num U i)) (nI (i + 1))
      rw [show s.1 ||| (0 : Int32) = s.1 from bt_ext fun k _ => by rw [bt_or, bt_zero, Bool.or_false]]
    · rw [Bool.and_true]
      rfl) (fun n s hP => by
    simp only [lX0_squeeze_7, sX0_squeeze_7, yg6, if_true]) (0, 0) ⟨rfl, rfl⟩
  obtain ⟨s, e, h1, h2⟩ := key
  rw [h1] at e
  exact e
theorem e_targetsRaw {I : am_I} {n : Nat} (h0 : I o 0 = nI n) (hn : n ≤ 6) {s a : Nat} (hs : s < n) (ha : a < 3) : pX0_targetsOf R I o (nI s) (nI a) = some (I (R o 3) (3 * s + a)) := by
  unfold pX0_targetsOf
  simp only [am_let_e, h0, nI_pos (show s < 2 ^ 31 by omega), nI_pos (show a < 2 ^ 31 by omega), if_false, nIge hs (show n < 1000000 by omega), ng3 ha, i10, ix3, inb (show 3 * s + a < 18 by omega) (show 18 < 1000000 by omega), am_ck_true, nIcl (show 3 * s + a < 1000000 by omega)]
theorem e_moveTargets {I : am_I} {n : Nat} (h0 : I o 0 = nI n) (hn : n ≤ 6) (ho : o ≠ R o 3) {s k : Nat} (hs : s < n) (hk : k ≤ s) (U : Int32) : ∃ I', pX0_moveTargets R I o (nI s) (nI k) U = some I' ∧ (∀ a, a < 3 → I' (R o 3) (3 * k + a) = sqz (I (R o 3) (3 * s + a)) U) ∧ (∀ j, j < 3 * k ∨ 3 * k + 3 ≤ j → I' (R o 3) j = I (R o 3) j) ∧ ∀ b, b ≠ R o 3 → I' b = I b := by
  unfold pX0_moveTargets
  obtain ⟨I', e, h1, h2, h3⟩ := am_fillI (fun n i J => lX0_moveTargets_3 R o (nI s) (nI k) U n (nI i) J) 3 (R o 3) (3 * k) (fun a => sqz (I (R o 3) (3 * s + a)) U) (fun J => some J) I (by omega) (fun q a J ha hP hj => by
    have e0 : J o 0 = nI n := by rw [hP o ho]; exact h0
    have e1 : J (R o 3) (3 * s + a) = I (R o 3) (3 * s + a) := hj _ (by omega)
    simp only [lX0_moveTargets_3, sX0_moveTargets_3, ng3 ha, if_false, e_targetsRaw e0 hn hs ha, am_bd, e_squeeze, ix3, inb (show 3 * k + a < 18 by omega) (show 18 < 1000000 by omega), am_ck_true, am_let_e, nIcl (show 3 * k + a < 1000000 by omega), e1, nI_1]) (fun q J _ => by
    simp only [lX0_moveTargets_3, sX0_moveTargets_3, yg3, if_true])
  exact ⟨I', e, h2, h3, h1⟩
theorem num_top {U : Int32} {n : Nat} (hU : lon n U) (hn : n ≤ 6) : num U n = num U 6 := sumN_ext 6 hn (fun i hi _ => by rw [hU i hi]; rfl)
theorem e_keepOnly (hA : isA I o (R o 3) A) (hw : aw A) (ho : o ≠ R o 3) {U : Int32} (hU : lon A.1 U) (hne : num U 6 ≠ 0) : ∃ I', pX0_keepOnly R I o U = some I' ∧ isA I' o (R o 3) (trA A U) ∧ ∀ b, b ≠ o → b ≠ R o 3 → I' b = I b := by
  obtain ⟨a0, a1, a2, a3⟩ := hA
  have h6 := hw.2.1
  unfold pX0_keepOnly
  simp only [am_jn_e]
  obtain ⟨s, e1, k1, k2, k3, k4⟩ := am_for0 (fun n i (s : Int32 × am_I) => lX0_keepOnly_4 R o U (fun (v2 : Int32) (J3 : am_I) => am_let (v2 * (3 : Int32)) (fun v4 => lX0_keepOnly_40 R o U v2 (fun (J6 : am_I) => Option.bind (pX0_squeeze (J6 o 1) U) (fun r7 => am_let (am_upI J6 o 1 r7) (fun J8 => Option.bind (pX0_squeeze (J8 o 2) U) (fun r9 => am_let (am_upI J8 o 2 r9) (fun J10 => am_let (am_upI J10 o 0 v2) (fun J11 => some J11)))))) am_fu v4 J3)) n s.1 (nI i) s.2) A.1 (fun i s => s.1 = nI (num U i) ∧ (∀ b, b ≠ R o 3 → s.2 b = I b) ∧ (∀ a k, a < 3 → k < num U i → s.2 (R o 3) (3 * k + a) = tT A U a k 6) ∧ ∀ a s', a < 3 → i ≤ s' → s' < 6 → s.2 (R o 3) (3 * s' + a) = A.2.2.2 a s') (fun s => (fun (v2 : Int32) (J3 : am_I) => am_let (v2 * (3 : Int32)) (fun v4 => lX0_keepOnly_40 R o U v2 (fun (J6 : am_I) => Option.bind (pX0_squeeze (J6 o 1) U) (fun r7 => am_let (am_upI J6 o 1 r7) (fun J8 => Option.bind (pX0_squeeze (J8 o 2) U) (fun r9 => am_let (am_upI J8 o 2 r9) (fun J10 => am_let (am_upI J10 o 0 v2) (fun J11 => some J11)))))) am_fu v4 J3)) s.1 s.2) (by omega) (fun n i s hi hP => by
    obtain ⟨p1, p2, p3, p4⟩ := hP
    have e0 : s.2 o 0 = nI A.1 := by rw [p2 o ho]; exact a0
    have hle := num_le U i
    by_cases hb : bt U i = true
    · obtain ⟨I2, e2, q1, q2, q3⟩ := e_moveTargets (R := R) e0 h6 ho hi hle U
      refine ⟨(nI (num U (i + 1)), I2), ?_, rfl, fun b hb => (q3 b hb).trans (p2 b hb), fun a k ha hk => ?_, fun a s' ha h1 h2 => ?_⟩
      · simp only [lX0_keepOnly_4, sX0_keepOnly_4, e0, nIge hi (show A.1 < 1000000 by omega), if_false, e_cb _ (show i < 32 by omega), am_bd, am_jn_e, bI0, ite_not, hb, if_true, p1, e2, nI_1, num_s]
      · rw [num_s, if_pos hb] at hk
        by_cases q : k = num U i
        · subst q
          show I2 (R o 3) (3 * num U i + a) = _
          rw [q1 a ha, p4 a i ha (Nat.le_refl i) (by omega), tT_at A a hb 6 (by omega)]
        · show I2 (R o 3) (3 * k + a) = _
          rw [q2 _ (by omega)]; exact p3 a k ha (by omega)
      · show I2 (R o 3) (3 * s' + a) = _
        rw [q2 _ (by omega)]; exact p4 a s' ha (by omega) h2
    · refine ⟨(nI (num U (i + 1)), s.2), ?_, rfl, p2, fun a k ha hk => ?_, fun a s' ha h1 h2 => p4 a s' ha (by omega) h2⟩
      · simp only [lX0_keepOnly_4, sX0_keepOnly_4, e0, nIge hi (show A.1 < 1000000 by omega), if_false, e_cb _ (show i < 32 by omega), am_bd, am_jn_e, bI0, ite_not, hb, p1, nI_1, num_s, Nat.add_zero]
      · rw [num_s, if_neg hb] at hk
        exact p3 a k ha hk) (fun n s hP => by
    have e0 : s.2 o 0 = nI A.1 := by rw [hP.2.1 o ho]; exact a0
    simp only [lX0_keepOnly_4, sX0_keepOnly_4, e0, nIle (show A.1 < 1000000 by omega), if_true]) (0, I) ⟨rfl, fun _ _ => rfl, fun a k _ hk => absurd hk (Nat.not_lt_zero k), fun a s' ha _ h => a3 a s' ha h⟩
  have e1 : lX0_keepOnly_4 R o U (fun (v2 : Int32) (J3 : am_I) => am_let (v2 * (3 : Int32)) (fun v4 => lX0_keepOnly_40 R o U v2 (fun (J6 : am_I) => Option.bind (pX0_squeeze (J6 o 1) U) (fun r7 => am_let (am_upI J6 o 1 r7) (fun J8 => Option.bind (pX0_squeeze (J8 o 2) U) (fun r9 => am_let (am_upI J8 o 2 r9) (fun J10 => am_let (am_upI J10 o 0 v2) (fun J11 => some J11)))))) am_fu v4 J3)) am_fu (0 : Int32) (nI 0) I = _ := e1
  rw [nI_0] at e1
  rw [e1, am_let_e, k1]
  have hm := num_top hU h6
  rw [hm] at k1 k3 ⊢
  have hle := num_le U 6
  generalize hm2 : num U 6 = m at *
  rw [show nI m * (3 : Int32) = nI (3 * m) by rw [show (3 : Int32) = nI 3 from rfl, pk_mul, Nat.mul_comm]]
  obtain ⟨J4, e4, j1, j2, j3⟩ := am_fork (fun n i J => lX0_keepOnly_40 R o U (nI m) (fun (J6 : am_I) => Option.bind (pX0_squeeze (J6 o 1) U) (fun r7 => am_let (am_upI J6 o 1 r7) (fun J8 => Option.bind (pX0_squeeze (J8 o 2) U) (fun r9 => am_let (am_upI J8 o 2 r9) (fun J10 => am_let (am_upI J10 o 0 (nI m)) (fun J11 => some J11)))))) n (nI i) J) (3 * m) 18 (fun i J => (∀ b, b ≠ R o 3 → J b = I b) ∧ (∀ j, j < 3 * m → J (R o 3) j = s.2 (R o 3) j) ∧ ∀ j, 3 * m ≤ j → j < i → J (R o 3) j = 0) (fun (J6 : am_I) => Option.bind (pX0_squeeze (J6 o 1) U) (fun r7 => am_let (am_upI J6 o 1 r7) (fun J8 => Option.bind (pX0_squeeze (J8 o 2) U) (fun r9 => am_let (am_upI J8 o 2 r9) (fun J10 => am_let (am_upI J10 o 0 (nI m)) (fun J11 => some J11)))))) (by omega) (by omega) (fun n i J hk hi hP => by
    obtain ⟨p1, p2, p3⟩ := hP
    refine ⟨am_upI J (R o 3) i 0, ?_, fun b hb => by rw [am_upI_ne hb]; exact p1 b hb, fun j hj => by rw [am_upI_o (by omega)]; exact p2 j hj, fun j h1 h2 => ?_⟩
    · simp only [lX0_keepOnly_40, sX0_keepOnly_40, ng18 hi, if_false, inb hi (show 18 < 1000000 by omega), am_ck_true, am_let_e, nIcl (show i < 1000000 by omega), nI_1]
    · by_cases q : j = i
      · subst q; exact am_upI_s
      · rw [am_upI_o q]; exact p3 j h1 (by omega)) (fun n J _ => by
    simp only [lX0_keepOnly_40, sX0_keepOnly_40, yg18, if_true]) s.2 ⟨k2, fun _ _ => rfl, fun j h1 h2 => by omega⟩
  refine ⟨_, Eq.trans e4 (by rw [e_squeeze, am_bd, am_let_e, e_squeeze, am_bd, am_let_e, am_let_e]), ?_, ?_⟩
  · rw [am_upI_o (show 2 ≠ 1 by decide), j1 o ho, a1, a2]
    refine ⟨?_, ?_, ?_, fun a k ha hk => ?_⟩
    · rw [am_upI_s]
      show nI m = nI (if num U 6 = 0 then 1 else num U 6)
      rw [hm2, if_neg hne]
    · rw [am_upI_o (by decide), am_upI_o (by decide), am_upI_s]; rfl
    · rw [am_upI_o (by decide), am_upI_s]; rfl
    · rw [am_upI_ne (Ne.symm ho), am_upI_ne (Ne.symm ho), am_upI_ne (Ne.symm ho)]
      show J4 (R o 3) (3 * k + a) = if a < 3 then tT A U a k 6 else 0
      rw [if_pos ha]
      by_cases q : k < m
      · rw [j2 _ (by omega)]; exact k3 a k ha q
      · rw [j3 _ (by omega) (by omega), tT_out A a (m := 6) (by omega) 6 (Nat.le_refl _)]
  · intro b x y
    rw [am_upI_ne x, am_upI_ne x, am_upI_ne x]; exact j1 b y
end
