/-! trim -/
def num (U : Int32) (s : Nat) : Nat := sumN (fun i => if bt U i = true then 1 else 0) s
theorem num_s (U : Int32) (s : Nat) : num U (s + 1) = num U s + (if bt U s = true then 1 else 0) := rfl
theorem num_mono (U : Int32) {s : Nat} : ∀ t, s ≤ t → num U s ≤ num U t
  | 0, h => by
    have : s = 0 := by omega
    subst this; exact Nat.le_refl _
  | t + 1, h => by
    by_cases q : s = t + 1
    · subst q; exact Nat.le_refl _
    · have := num_mono U t (show s ≤ t by omega)
      rw [num_s]; omega
theorem num_lt {U : Int32} {s t : Nat} (hs : bt U s = true) (h : s < t) : num U s < num U t := by
  have := num_mono U t (show s + 1 ≤ t by omega)
  rw [num_s, if_pos hs] at this
  omega
theorem num_le (U : Int32) : ∀ s, num U s ≤ s
  | 0 => Nat.le_refl _
  | s + 1 => by
    have := num_le U s
    rw [num_s]
    by_cases h : bt U s = true
    · rw [if_pos h]; omega
    · rw [if_neg h]; omega
def sqz (x U : Int32) : Int32 := am_to (fun s y => y ||| (if bt (x &&& U) s = true then (1 : Int32) <<< (nI (num U s) &&& 31) else 0)) 6 0
theorem bt_sqz {x U : Int32} {k : Nat} : bt (sqz x U) k = true → ∃ s, s < 6 ∧ bt U s = true ∧ k = num U s := by
  unfold sqz
  rw [bt_to_or (fun s => if bt (x &&& U) s = true then (1 : Int32) <<< (nI (num U s) &&& 31) else 0)]
  rintro (h | ⟨s, hs, h⟩)
  · rw [bt_zero] at h; cases h
  · by_cases q : bt (x &&& U) s = true
    · rw [if_pos q, bt_1s (by have := num_le U s; omega)] at h
      rw [bt_and, Bool.and_eq_true] at q
      exact ⟨s, hs, q.2, of_decide_eq_true h⟩
    · rw [if_neg q, bt_zero] at h; cases h
def tT (A : am_Au) (U : Int32) (a k n : Nat) : Int32 := am_to (fun s y => if bt U s = true ∧ num U s = k then sqz (A.2.2.2 a s) U else y) n 0
theorem tT_at (A : am_Au) {U : Int32} (a : Nat) {s : Nat} (hs : bt U s = true) : ∀ n, s < n → tT A U a (num U s) n = sqz (A.2.2.2 a s) U
  | 0, h => absurd h (Nat.not_lt_zero s)
  | n + 1, h => by
    show (if bt U n = true ∧ num U n = num U s then sqz (A.2.2.2 a n) U else tT A U a (num U s) n) = _
    by_cases q : s = n
    · subst q; rw [if_pos ⟨hs, rfl⟩]
    · rw [if_neg (fun g => by have := num_lt hs (show s < n by omega); omega)]
      exact tT_at A a hs n (by omega)
theorem tT_out (A : am_Au) {U : Int32} (a : Nat) {k m : Nat} (hk : num U m ≤ k) : ∀ n, n ≤ m → tT A U a k n = 0
  | 0, _ => rfl
  | n + 1, h => by
    show (if bt U n = true ∧ num U n = k then sqz (A.2.2.2 a n) U else tT A U a k n) = _
    rw [if_neg (fun g => by have := num_lt g.1 (show n < m by omega); omega)]
    exact tT_out A a hk n (by omega)
/-- the automaton of the states of U -/
def trA (A : am_Au) (U : Int32) : am_Au := (if num U 6 = 0 then 1 else num U 6, sqz A.2.1 U, sqz A.2.2.1 U, fun a k => if a < 3 then tT A U a k 6 else 0)
theorem aw_trA (A : am_Au) (U : Int32) : aw (trA A U) := by
  have hb : ∀ x k, (if num U 6 = 0 then 1 else num U 6) ≤ k → bt (sqz x U) k = false := fun x k hk => by
    cases e : bt (sqz x U) k with
    | false => rfl
    | true =>
      obtain ⟨s, hs, h1, h2⟩ := bt_sqz e
      have := num_lt h1 (show s < 6 by omega)
      rw [if_neg (by omega)] at hk
      omega
  refine ⟨?_, ?_, fun k hk => ⟨hb _ k hk, hb _ k hk⟩, fun a s k hk => ?_, fun a s h => ?_⟩
  · show 1 ≤ if num U 6 = 0 then 1 else num U 6
    by_cases q : num U 6 = 0
    · rw [if_pos q]; exact Nat.le_refl _
    · rw [if_neg q]; omega
  · show (if num U 6 = 0 then 1 else num U 6) ≤ 6
    have := num_le U 6
    by_cases q : num U 6 = 0
    · rw [if_pos q]; omega
    · rw [if_neg q]; omega
  · show bt (if a < 3 then tT A U a s 6 else 0) k = false
    by_cases ha : a < 3
    · rw [if_pos ha]
      have : ∀ n, bt (tT A U a s n) k = false := fun n => by
        refine am_to_ind (fun y => bt y k = false) n 0 (fun i y _ hy => ?_) (bt_zero k)
        by_cases q : bt U i = true ∧ num U i = s
        · rw [if_pos q]; exact hb _ k hk
        · rw [if_neg q]; exact hy
      exact this 6
    · rw [if_neg ha]; exact bt_zero k
  · show (if a < 3 then tT A U a s 6 else 0) = 0
    by_cases ha : a < 3
    · rw [if_pos ha]
      have hs : (if num U 6 = 0 then 1 else num U 6) ≤ s := by
        rcases h with h | h
        · exact h
        · omega
      refine tT_out A a (m := 6) ?_ 6 (Nat.le_refl _)
      by_cases q : num U 6 = 0
      · omega
      · rw [if_neg q] at hs; exact hs
    · rw [if_neg ha]
section
variable {R : am_R} {I : am_I} {o : Nat} {A : am_Au}
theorem e_squeeze (x U : Int32) : pX0_squeeze x U = some (sqz x U) := by
  unfold pX0_squeeze
  have key := am_for0 (fun n i (s : Int32 × Int32) => lX0_squeeze_7 x U n s.1 s.2 (nI i)) 6 (fun i s => s.1 = am_to (fun s y => y ||| (if bt (x &&& U) s = true then (1 : Int32) <<< (nI (num U s) &&& 31) else 0)) i 0 ∧ s.2 = nI (num U i)) (fun s => some s.1) (by omega) (fun n i s hi hP => by
    obtain ⟨p1, p2⟩ := hP
    refine ⟨(s.1 ||| (if bt (x &&& U) i = true then (1 : Int32) <<< (nI (num U i) &&& 31) else 0), nI (num U (i + 1))), ?_, by rw [p1]; rfl, rfl⟩
    have e1 : bt (x &&& U) i = (bt x i && bt U i) := bt_and x U i
    simp only [lX0_squeeze_7, sX0_squeeze_7, ng6 hi, if_false, e_cb _ (show i < 32 by omega), am_bd, am_jn_e, am_let_e, bI0, ite_not, Bool.false_eq_true, nI_1, e1, num_s, p2]
    cases bt U i
    · rw [Bool.and_false]
      show lX0_squeeze_7 x U n s.1 (nI (num U i)) (nI (i + 1)) = lX0_squeeze_7 x U n (s.1 ||| 0) (nI (num U i)) (nI (i + 1))
      rw [show s.1 ||| (0 : Int32) = s.1 from bt_ext fun k _ => by rw [bt_or, bt_zero, Bool.or_false]]
    · rw [Bool.and_true]
      rfl) (fun n s hP => by
    simp only [lX0_squeeze_7, sX0_squeeze_7, yg6, if_true]) (0, 0) ⟨rfl, rfl⟩
  obtain ⟨s, e, h1, h2⟩ := key
  rw [h1] at e
  exact e
theorem e_targetsRaw {I : am_I} {n : Nat} (h0 : I o 0 = nI n) (hn : n ≤ 6) {s a : Nat} (hs : s < n) (ha : a < 3) : pX0_targetsOf R I o (nI s) (nI a) = some (I (R o 3) (3 * s + a)) := by
  unfold pX0_targetsOf
  simp only [am_let_e, h0, nI_pos (show s < 2 ^ 31 by omega), nI_pos (show a < 2 ^ 31 by omega), if_false, nIge hs (show n < 1000000 by omega), ng3 ha, i10, ix3, inb (show 3 * s + a < 18 by omega) (show 18 < 1000000 by omega), am_ck_true, nIcl (show 3 * s + a < 1000000 by omega)]
theorem e_moveTargets {I : am_I} {n : Nat} (h0 : I o 0 = nI n) (hn : n ≤ 6) (ho : o ≠ R o 3) {s k : Nat} (hs : s < n) (hk : k ≤ s) (U : Int32) : ∃ I', pX0_moveTargets R I o (nI s) (nI k) U = some I' ∧ (∀ a, a < 3 → I' (R o 3) (3 * k + a) = sqz (I (R o 3) (3 * s + a)) U) ∧ (∀ j, j < 3 * k ∨ 3 * k + 3 ≤ j → I' (R o 3) j = I (R o 3) j) ∧ ∀ b, b ≠ R o 3 → I' b = I b := by
  unfold pX0_moveTargets
  have lk : nI k < (6 : Int32) := nI_lt0 (b := 6) (show k < 6 by omega) (by omega)
  rw [if_neg (nI_pos (show k < 2 ^ 31 by omega)), if_pos lk]
  obtain ⟨I', e, h1, h2, h3⟩ := am_fillI (fun n i J => lX0_moveTargets_14 R o (nI s) (nI k) U n (nI i) J) 3 (R o 3) (3 * k) (fun a => sqz (I (R o 3) (3 * s + a)) U) (fun J => some J) I (by omega) (fun q a J ha hP hj => by
    have e0 : J o 0 = nI n := by rw [hP o ho]; exact h0
    have e1 : J (R o 3) (3 * s + a) = I (R o 3) (3 * s + a) := hj _ (by omega)
    simp only [lX0_moveTargets_14, sX0_moveTargets_14, ng3 ha, if_false, e_targetsRaw e0 hn hs ha, am_bd, e_squeeze, ix3, inb (show 3 * k + a < 18 by omega) (show 18 < 1000000 by omega), am_ck_true, am_let_e, nIcl (show 3 * k + a < 1000000 by omega), e1, nI_1]) (fun q J _ => by
    simp only [lX0_moveTargets_14, sX0_moveTargets_14, yg3, if_true])
  exact ⟨I', e, h2, h3, h1⟩
theorem num_top {U : Int32} {n : Nat} (hU : lon n U) (hn : n ≤ 6) : num U n = num U 6 := sumN_ext 6 hn (fun i hi _ => by rw [hU i hi]; rfl)
theorem e_keepOnly (hA : isA I o (R o 3) A) (hw : aw A) (ho : o ≠ R o 3) {U : Int32} (hU : lon A.1 U) (hne : num U 6 ≠ 0) : ∃ I', pX0_keepOnly R I o U = some I' ∧ isA I' o (R o 3) (trA A U) ∧ ∀ b, b ≠ o → b ≠ R o 3 → I' b = I b := by
  obtain ⟨a0, a1, a2, a3⟩ := hA
  have h6 := hw.2.1
  unfold pX0_keepOnly
  simp only [am_jn_e]
  obtain ⟨s, e1, k1, k2, k3, k4⟩ := am_for0 (fun n i (s : Int32 × am_I) => lX0_keepOnly_4 R o U (fun (v2 : Int32) (J3 : am_I) => am_let (v2 * (3 : Int32)) (fun v4 => lX0_keepOnly_40 R o U v2 (fun (J6 : am_I) => Option.bind (pX0_squeeze (J6 o 1) U) (fun r7 => am_let (am_upI J6 o 1 r7) (fun J8 => Option.bind (pX0_squeeze (J8 o 2) U) (fun r9 => am_let (am_upI J8 o 2 r9) (fun J10 => am_let (am_upI J10 o 0 v2) (fun J11 => some J11)))))) am_fu v4 J3)) n s.1 (nI i) s.2) A.1 (fun i s => s.1 = nI (num U i) ∧ (∀ b, b ≠ R o 3 → s.2 b = I b) ∧ (∀ a k, a < 3 → k < num U i → s.2 (R o 3) (3 * k + a) = tT A U a k 6) ∧ ∀ a s', a < 3 → i ≤ s' → s' < 6 → s.2 (R o 3) (3 * s' + a) = A.2.2.2 a s') (fun s => (fun (v2 : Int32) (J3 : am_I) => am_let (v2 * (3 : Int32)) (fun v4 => lX0_keepOnly_40 R o U v2 (fun (J6 : am_I) => Option.bind (pX0_squeeze (J6 o 1) U) (fun r7 => am_let (am_upI J6 o 1 r7) (fun J8 => Option.bind (pX0_squeeze (J8 o 2) U) (fun r9 => am_let (am_upI J8 o 2 r9) (fun J10 => am_let (am_upI J10 o 0 v2) (fun J11 => some J11)))))) am_fu v4 J3)) s.1 s.2) (by omega) (fun n i s hi hP => by
    obtain ⟨p1, p2, p3, p4⟩ := hP
    have e0 : s.2 o 0 = nI A.1 := by rw [p2 o ho]; exact a0
    have hle := num_le U i
    by_cases hb : bt U i = true
    · obtain ⟨I2, e2, q1, q2, q3⟩ := e_moveTargets (R := R) e0 h6 ho hi hle U
      refine ⟨(nI (num U (i + 1)), I2), ?_, rfl, fun b hb => (q3 b hb).trans (p2 b hb), fun a k ha hk => ?_, fun a s' ha h1 h2 => ?_⟩
      · simp only [lX0_keepOnly_4, sX0_keepOnly_4, e0, nIge hi (show A.1 < 1000000 by omega), if_false, e_cb _ (show i < 32 by omega), am_bd, am_jn_e, bI0, ite_not, Bool.false_eq_true, hb, if_true, p1, e2, nI_1, num_s]
      · rw [num_s, if_pos hb] at hk
        by_cases q : k = num U i
        · subst q
          show I2 (R o 3) (3 * num U i + a) = _
          rw [q1 a ha, p4 a i ha (Nat.le_refl i) (by omega), tT_at A a hb 6 (by omega)]
        · show I2 (R o 3) (3 * k + a) = _
          rw [q2 _ (by omega)]; exact p3 a k ha (by omega)
      · show I2 (R o 3) (3 * s' + a) = _
        rw [q2 _ (by omega)]; exact p4 a s' ha (by omega) h2
    · refine ⟨(nI (num U (i + 1)), s.2), ?_, rfl, p2, fun a k ha hk => ?_, fun a s' ha h1 h2 => p4 a s' ha (by omega) h2⟩
      · simp only [lX0_keepOnly_4, sX0_keepOnly_4, e0, nIge hi (show A.1 < 1000000 by omega), if_false, e_cb _ (show i < 32 by omega), am_bd, am_jn_e, bI0, ite_not, Bool.false_eq_true, hb, p1, nI_1, num_s, Nat.add_zero]
      · rw [num_s, if_neg hb] at hk
        exact p3 a k ha hk) (fun n s hP => by
    have e0 : s.2 o 0 = nI A.1 := by rw [hP.2.1 o ho]; exact a0
    simp only [lX0_keepOnly_4, sX0_keepOnly_4, e0, nIle (show A.1 < 1000000 by omega), if_true]) (0, I) ⟨rfl, fun _ _ => rfl, fun a k _ hk => absurd hk (Nat.not_lt_zero k), fun a s' ha _ h => a3 a s' ha h⟩
  have e1 : lX0_keepOnly_4 R o U (fun (v2 : Int32) (J3 : am_I) => am_let (v2 * (3 : Int32)) (fun v4 => lX0_keepOnly_40 R o U v2 (fun (J6 : am_I) => Option.bind (pX0_squeeze (J6 o 1) U) (fun r7 => am_let (am_upI J6 o 1 r7) (fun J8 => Option.bind (pX0_squeeze (J8 o 2) U) (fun r9 => am_let (am_upI J8 o 2 r9) (fun J10 => am_let (am_upI J10 o 0 v2) (fun J11 => some J11)))))) am_fu v4 J3)) am_fu (0 : Int32) (nI 0) I = _ := e1
  rw [nI_0] at e1
  rw [e1]
  dsimp only
  rw [am_let_e, k1]
  have hm := num_top hU h6
  rw [hm] at k1 k3 ⊢
  have hle := num_le U 6
  generalize hm2 : num U 6 = m at *
  rw [show nI m * (3 : Int32) = nI (3 * m) by rw [show (3 : Int32) = nI 3 from rfl, pk_mul, Nat.mul_comm]]
  obtain ⟨J4, e4, j1, j2, j3⟩ := am_fork (fun n i J => lX0_keepOnly_40 R o U (nI m) (fun (J6 : am_I) => Option.bind (pX0_squeeze (J6 o 1) U) (fun r7 => am_let (am_upI J6 o 1 r7) (fun J8 => Option.bind (pX0_squeeze (J8 o 2) U) (fun r9 => am_let (am_upI J8 o 2 r9) (fun J10 => am_let (am_upI J10 o 0 (nI m)) (fun J11 => some J11)))))) n (nI i) J) (3 * m) 18 (fun i J => (∀ b, b ≠ R o 3 → J b = I b) ∧ (∀ j, j < 3 * m → J (R o 3) j = s.2 (R o 3) j) ∧ ∀ j, 3 * m ≤ j → j < i → J (R o 3) j = 0) (fun (J6 : am_I) => Option.bind (pX0_squeeze (J6 o 1) U) (fun r7 => am_let (am_upI J6 o 1 r7) (fun J8 => Option.bind (pX0_squeeze (J8 o 2) U) (fun r9 => am_let (am_upI J8 o 2 r9) (fun J10 => am_let (am_upI J10 o 0 (nI m)) (fun J11 => some J11)))))) (by omega) (by omega) (fun n i J hk hi hP => by
    obtain ⟨p1, p2, p3⟩ := hP
    refine ⟨am_upI J (R o 3) i 0, ?_, fun b hb => by rw [am_upI_ne hb]; exact p1 b hb, fun j hj => by rw [am_upI_o (by omega)]; exact p2 j hj, fun j h1 h2 => ?_⟩
    · simp only [lX0_keepOnly_40, sX0_keepOnly_40, ng18 hi, if_false, inb hi (show 18 < 1000000 by omega), am_ck_true, am_let_e, nIcl (show i < 1000000 by omega), nI_1]
    · by_cases q : j = i
      · subst q; exact am_upI_s
      · rw [am_upI_o q]; exact p3 j h1 (by omega)) (fun n J _ => by
    simp only [lX0_keepOnly_40, sX0_keepOnly_40, yg18, if_true]) s.2 ⟨k2, fun _ _ => rfl, fun j h1 h2 => by omega⟩
  refine ⟨_, Eq.trans e4 (by rw [e_squeeze, am_bd, am_let_e, e_squeeze, am_bd, am_let_e, am_let_e]), ?_, ?_⟩
  · rw [am_upI_o (show 2 ≠ 1 by decide), j1 o ho, a1, a2]
    refine ⟨?_, ?_, ?_, fun a k ha hk => ?_⟩
    · rw [am_upI_s]
      show nI m = nI (if num U 6 = 0 then 1 else num U 6)
      rw [hm2, if_neg hne]
    · rw [am_upI_o (by decide), am_upI_o (by decide), am_upI_s]; rfl
    · rw [am_upI_o (by decide), am_upI_s]; rfl
    · rw [am_upI_ne (Ne.symm ho), am_upI_ne (Ne.symm ho), am_upI_ne (Ne.symm ho)]
      show J4 (R o 3) (3 * k + a) = if a < 3 then tT A U a k 6 else 0
      rw [if_pos ha]
      by_cases q : k < m
      · rw [j2 _ (by omega)]; exact k3 a k ha q
      · rw [j3 _ (by omega) (by omega), tT_out A a (m := 6) (by omega) 6 (Nat.le_refl _)]
  · intro b x y
    rw [am_upI_ne x, am_upI_ne x, am_upI_ne x]; exact j1 b y
end
/-! trim: the reference -/
section
variable {J : am_I} {A : am_Au}
theorem e_t15 {n : Nat} (hn : n ≤ 6) (U : Int32) (j : Int32 → am_I → Option (Int32 × am_I)) (J : am_I) : ∃ J', lX11_trim_15 rM 1 U (nI n) j am_fu (0 : Int32) (0 : Int32) J = j (nI (num U n)) J' ∧ (∀ s, s < n → J' 5 s = nI (num U s)) ∧ ∀ b, b ≠ 5 → J' b = J b := by
  obtain ⟨s, e, h1, h2, h3⟩ := am_for0 (fun q i (s : Int32 × am_I) => lX11_trim_15 rM 1 U (nI n) j q s.1 (nI i) s.2) n (fun i s => s.1 = nI (num U i) ∧ (∀ s', s' < i → s.2 5 s' = nI (num U s')) ∧ ∀ b, b ≠ 5 → s.2 b = J b) (fun s => j s.1 s.2) (by omega) (fun q i s hi hP => by
    obtain ⟨p1, p2, p3⟩ := hP
    refine ⟨(nI (num U (i + 1)), am_upI s.2 5 i (nI (num U i))), ?_, rfl, fun s' hs => ?_, fun b hb => ?_⟩
    · have e2 : nI (num U i) + nI (bt U i).toNat = nI (num U (i + 1)) := by
        rw [nI_add, num_s]
        cases bt U i <;> rfl
      simp only [lX11_trim_15, sX11_trim_15, nIge hi (show n < 1000000 by omega), if_false, inb (show i < 6 by omega) (show 6 < 1000000 by omega), am_ck_true, am_let_e, nIcl (show i < 1000000 by omega), rM7, p1, e_bit1 _ (show i < 32 by omega), e2, nI_1]
    · by_cases q2 : s' = i
      · subst q2; show am_upI s.2 5 s' (nI (num U s')) 5 s' = _; exact am_upI_s
      · show am_upI s.2 5 i _ 5 s' = _
        rw [am_upI_o q2]; exact p2 s' (by omega)
    · show am_upI s.2 5 i _ b = _
      rw [am_upI_ne hb]; exact p3 b hb) (fun q s _ => by
    simp only [lX11_trim_15, sX11_trim_15, nIle (show n < 1000000 by omega), if_true]) (0, J) ⟨rfl, fun s hs => absurd hs (Nat.not_lt_zero s), fun _ _ => rfl⟩
  refine ⟨s.2, ?_, h2, h3⟩
  rw [h1] at e
  exact e
theorem e_renumbered {U : Int32} {n : Nat} (hU : lon n U) {J : am_I} (h5 : ∀ s, s < n → J 5 s = nI (num U s)) (x : Int32) : pX11_renumbered rM J 1 x U = some (sqz x U) := by
  unfold pX11_renumbered
  refine am_forF (fun q i y => lX11_renumbered_5 rM J 1 x U q y (nI i)) 6 (fun s y => y ||| (if bt (x &&& U) s = true then (1 : Int32) <<< (nI (num U s) &&& 31) else 0)) some (by omega) (fun q i y hi => ?_) (fun q y => ?_) 0
  · by_cases hb : bt (x &&& U) i = true
    · have hU2 : bt U i = true := by rw [bt_and, Bool.and_eq_true] at hb; exact hb.2
      have hin : i < n := Nat.lt_of_not_le fun g => by rw [hU i g] at hU2; cases hU2
      simp only [lX11_renumbered_5, sX11_renumbered_5, ng6 hi, if_false, e_hb _ (show i < 32 by omega), am_bd, am_jn_e, bI0, ite_not, Bool.false_eq_true, hb, if_true, inb hi (show 6 < 1000000 by omega), am_ck_true, am_let_e, nIcl (show i < 1000000 by omega), rM7, h5 i hin, nI_1]
    · simp only [lX11_renumbered_5, sX11_renumbered_5, ng6 hi, if_false, e_hb _ (show i < 32 by omega), am_bd, am_jn_e, bI0, ite_not, Bool.false_eq_true, hb, am_let_e, nI_1]
  · simp only [lX11_renumbered_5, sX11_renumbered_5, yg6, if_true]
theorem e_t69 (U v4 v2 r6 r7 : Int32) (j : am_I → Option (Int32 × am_I)) (J : am_I) : lX11_trim_69 rM 1 U v4 v2 r6 r7 j am_fu (0 : Int32) J = j (filI J 6 0 18 (fun i => J 2 i)) :=
  am_filI (fun n i J => lX11_trim_69 rM 1 U v4 v2 r6 r7 j n (nI i) J) 18 6 0 (fun i => J 2 i) j J (by omega) (fun n i J' hi hP _ => by
    simp only [lX11_trim_69, sX11_trim_69, ng18 hi, if_false, inb hi (show 18 < 1000000 by omega), am_ck_true, am_let_e, nIcl (show i < 1000000 by omega), rM0, rM8, hP 2 (by decide), nI_1, Nat.zero_add]) (fun n J' _ => by
    simp only [lX11_trim_69, sX11_trim_69, yg18, if_true])
theorem e_t133 {U : Int32} {n : Nat} (hU : lon n U) (hn : n ≤ 6) {a : Nat} (ha : a < 3) (j : am_I → Option (Int32 × am_I)) {J : am_I} (h5 : ∀ s, s < n → J 5 s = nI (num U s)) (h6 : ∀ s, s < n → J 6 (6 * a + s) = A.2.2.2 a s) (hz : ∀ k, k < 6 → J 2 (6 * a + k) = 0) :
    ∃ J', lX11_trim_133 rM 1 U (nI n) (nI a) j am_fu (0 : Int32) J = j J' ∧ (∀ k, k < 6 → J' 2 (6 * a + k) = tT A U a k n) ∧ (∀ i, i < 6 * a ∨ 6 * a + 6 ≤ i → J' 2 i = J 2 i) ∧ ∀ b, b ≠ 2 → J' b = J b := by
  obtain ⟨J', e, h1, h2, h3⟩ := am_for0 (fun q i J => lX11_trim_133 rM 1 U (nI n) (nI a) j q (nI i) J) n (fun i J' => (∀ k, k < 6 → J' 2 (6 * a + k) = tT A U a k i) ∧ (∀ i, i < 6 * a ∨ 6 * a + 6 ≤ i → J' 2 i = J 2 i) ∧ ∀ b, b ≠ 2 → J' b = J b) j (by omega) (fun q i J' hi hP => by
    obtain ⟨p1, p2, p3⟩ := hP
    have hle := num_le U i
    by_cases hb : bt U i = true
    · have g5 : J' 5 i = nI (num U i) := by rw [p3 5 (by decide)]; exact h5 i hi
      have g6 : J' 6 (6 * a + i) = A.2.2.2 a i := by rw [p3 6 (by decide)]; exact h6 i hi
      have gr := e_renumbered (J := J') hU (fun s hs => by rw [p3 5 (by decide)]; exact h5 s hs) (A.2.2.2 a i)
      refine ⟨am_upI J' 2 (6 * a + num U i) (sqz (A.2.2.2 a i) U), ?_, fun k hk => ?_, fun i2 h => ?_, fun b hb2 => by rw [am_upI_ne hb2]; exact p3 b hb2⟩
      · simp only [lX11_trim_133, sX11_trim_133, nIge hi (show n < 1000000 by omega), if_false, e_hb _ (show i < 32 by omega), am_bd, am_jn_e, bI0, ite_not, Bool.false_eq_true, hb, if_true, inb (show i < 6 by omega) (show 6 < 1000000 by omega), am_ck_true, ix6, inb (show 6 * a + i < 18 by omega) (show 18 < 1000000 by omega), nIcl (show 6 * a + i < 1000000 by omega), nIcl (show i < 1000000 by omega), rM8, rM7, g6, gr, g5, inb (show 6 * a + num U i < 18 by omega) (show 18 < 1000000 by omega), am_let_e, nIcl (show 6 * a + num U i < 1000000 by omega), rM0, nI_1]
      · show _ = (if bt U i = true ∧ num U i = k then sqz (A.2.2.2 a i) U else tT A U a k i)
        by_cases q2 : num U i = k
        · subst q2
          rw [if_pos ⟨hb, rfl⟩, am_upI_s]
        · rw [if_neg (fun g => q2 g.2), am_upI_o (by omega)]; exact p1 k hk
      · rw [am_upI_o (by omega)]; exact p2 i2 h
    · refine ⟨J', ?_, fun k hk => ?_, p2, p3⟩
      · simp only [lX11_trim_133, sX11_trim_133, nIge hi (show n < 1000000 by omega), if_false, e_hb _ (show i < 32 by omega), am_bd, am_jn_e, bI0, ite_not, Bool.false_eq_true, hb, nI_1]
      · show _ = (if bt U i = true ∧ num U i = k then sqz (A.2.2.2 a i) U else tT A U a k i)
        rw [if_neg (fun g => hb g.1)]; exact p1 k hk) (fun q J' _ => by
    simp only [lX11_trim_133, sX11_trim_133, nIle (show n < 1000000 by omega), if_true]) J ⟨fun k hk => hz k hk, fun _ _ => rfl, fun _ _ => rfl⟩
  exact ⟨J', e, h1, h2, h3⟩
theorem tT_n {A : am_Au} {U : Int32} {n : Nat} (hU : lon n U) (hn : n ≤ 6) (a k : Nat) : tT A U a k 6 = tT A U a k n :=
  am_to_top _ 6 hn (fun i y p q => by rw [hU i p]; rfl)
theorem num0 {U : Int32} (hU : lon 6 U) : num U 6 = 0 ↔ U = 0 := by
  constructor
  · intro h
    refine bt_ext fun k hk => ?_
    rw [bt_zero]
    cases e : bt U k with
    | false => rfl
    | true =>
      have hk6 : k < 6 := Nat.lt_of_not_le fun g => by rw [hU k g] at e; cases e
      have := num_lt e hk6
      omega
  · intro h
    subst h
    unfold num
    exact (sumN_congr 6 (fun i _ => by rw [bt_zero]; rfl)).trans (sumN_zero 6)
theorem e_trimM (hA : isM J A) (hw : aw A) : ∃ J', pX11_trim rM J 1 = some (nI (trA A (uA A)).1, J') ∧ isM J' (trA A (uA A)) ∧ J' 1 6 = 0 ∧ (∀ k, k < 3 ∨ 6 < k → J' 1 k = J 1 k) ∧ ∀ b, b ≠ 1 → b ≠ 2 → b ≠ 5 → b ≠ 6 → J' b = J b := by
  have h6 := hw.2.1
  have hU := lon_uA hw
  obtain ⟨a0, a1, a2, a3⟩ := hA
  unfold pX11_trim
  rw [e_useful ⟨a0, a1, a2, a3⟩ hw, am_bd]
  generalize hUu : uA A = U at *
  simp only [am_let_e, am_jn_e, a0]
  obtain ⟨J1, e1, p1, p2⟩ := e_t15 h6 U (fun (v4 : Int32) (J5 : am_I) => Option.bind (pX11_renumbered rM J5 1 (J5 1 4) U) (fun r6 => Option.bind (pX11_renumbered rM J5 1 (J5 1 5) U) (fun r7 => lX11_trim_69 rM 1 U v4 (nI A.1) r6 r7 (fun (J9 : am_I) => Option.bind (pX11_clears rM J9 1 (if v4 = 0 then (1 : Int32) else v4)) (fun r12 => lX11_trim_124 rM 1 U (nI A.1) am_fu (0 : Int32) (am_upI (am_upI r12 1 4 r6) 1 5 r7))) am_fu (0 : Int32) J5))) J
  rw [e1, p2 1 (by decide), a1, a2, e_renumbered hU p1, am_bd, e_renumbered hU p1, am_bd, e_t69]
  generalize hJ2 : filI J1 6 0 18 (fun i => J1 2 i) = J2
  have q1 : ∀ b, b ≠ 5 → b ≠ 6 → J2 b = J b := fun b x y => by rw [← hJ2, filI_ne y, p2 b x]
  have q2 : ∀ i, i < 18 → J2 6 i = J 2 i := fun i hi => by rw [← hJ2, filI_at hi, p2 2 (by decide)]
  have q3 : ∀ s, s < A.1 → J2 5 s = nI (num U s) := fun s hs => by rw [← hJ2, filI_ne (by decide)]; exact p1 s hs
  have em : (if nI (num U A.1) = 0 then (1 : Int32) else nI (num U A.1)) = nI (trA A U).1 := by
    show _ = nI (if num U 6 = 0 then 1 else num U 6)
    rw [num_top hU h6]
    have := num_le U 6
    by_cases q : num U 6 = 0
    · rw [if_pos q, q, if_pos nI_0]; rfl
    · rw [if_neg q, if_neg (nI_ne0 (by omega) (by omega))]
  rw [em]
  obtain ⟨J3, e3, r1, r2, r3, r4⟩ := e_clearsM (J := J2) (trA A U).1
  rw [e3, am_bd]
  obtain ⟨b0, b1, b2, b3⟩ := r1
  generalize hJ4 : am_upI (am_upI J3 1 4 (sqz A.2.1 U)) 1 5 (sqz A.2.2.1 U) = J4
  have s1 : ∀ b, b ≠ 1 → J4 b = J3 b := fun b hb => by rw [← hJ4, am_upI_ne hb, am_upI_ne hb]
  have s2 : ∀ k, k ≠ 4 → k ≠ 5 → J4 1 k = J3 1 k := fun k x y => by rw [← hJ4, am_upI_o y, am_upI_o x]
  obtain ⟨J5, e5, t1, t2, t3⟩ := am_for0 (fun n i J => lX11_trim_124 rM 1 U (nI A.1) n (nI i) J) 3 (fun i J' => (∀ a k, a < i → k < 6 → J' 2 (6 * a + k) = tT A U a k 6) ∧ (∀ a k, i ≤ a → a < 3 → k < 6 → J' 2 (6 * a + k) = 0) ∧ ∀ b, b ≠ 2 → J' b = J4 b) (fun J' => some ((J' 1 3), J')) (by omega) (fun n a J' ha hP => by
    obtain ⟨u1, u2, u3⟩ := hP
    obtain ⟨J6, e6, v1, v2, v3⟩ := e_t133 (A := A) hU h6 ha (fun J21 => lX11_trim_124 rM 1 U (nI A.1) n (nI a + 1) J21) (J := J') (fun s hs => by rw [u3 5 (by decide), s1 5 (by decide), r2 5 (by decide) (by decide)]; exact q3 s hs) (fun s hs => by rw [u3 6 (by decide), s1 6 (by decide), r2 6 (by decide) (by decide), q2 _ (by omega)]; exact a3 a s ha (by omega)) (fun k hk => u2 a k (Nat.le_refl a) ha hk)
    refine ⟨J6, ?_, fun a' k ha' hk => ?_, fun a' k h1 h2 hk => ?_, fun b hb => (v3 b hb).trans (u3 b hb)⟩
    · simp only [lX11_trim_124, sX11_trim_124, ng3 ha, if_false, am_jn_e]
      rw [e6, nI_1]
    · by_cases q : a' = a
      · subst q; rw [v1 k hk, tT_n hU h6]
      · rw [v2 _ (by omega)]; exact u1 a' k (by omega) hk
    · rw [v2 _ (by omega)]; exact u2 a' k (by omega) h2 hk) (fun n J' _ => by
    simp only [lX11_trim_124, sX11_trim_124, yg3, if_true]) J4 ⟨fun a k h => absurd h (Nat.not_lt_zero a), fun a k _ ha hk => by rw [s1 2 (by decide)]; exact b3 a k ha hk, fun _ _ => rfl⟩
  refine ⟨J5, ?_, ⟨?_, ?_, ?_, fun a s ha hs => ?_⟩, ?_, fun k hk => ?_, fun b w1 w2 w3 w4 => ?_⟩
  · refine Eq.trans e5 ?_
    rw [t3 1 (by decide), s2 3 (by decide) (by decide), b0]
  · rw [t3 1 (by decide), s2 3 (by decide) (by decide), b0]
  · rw [t3 1 (by decide), ← hJ4, am_upI_o (by decide), am_upI_s]; rfl
  · rw [t3 1 (by decide), ← hJ4, am_upI_s]; rfl
  · show _ = if a < 3 then tT A U a s 6 else 0
    rw [if_pos ha]; exact t1 a s ha hs
  · rw [t3 1 (by decide), s2 6 (by decide) (by decide), r4]
  · rw [t3 1 (by decide), s2 k (by omega) (by omega), r3 k hk, q1 1 (by decide) (by decide)]
  · rw [t3 b w2, s1 b w1, r2 b w1 w2, q1 b w3 w4]
end
section
variable {R : am_R} {I : am_I} {L : am_L} {J : am_I} {K : am_L}
theorem trA_0 {A : am_Au} : trA A 0 = (1, 0, 0, fun _ _ => 0) := by
  have n0 : num 0 6 = 0 := (num0 (lon0 6)).mpr rfl
  have s0 : ∀ x, sqz x 0 = 0 := fun x => by
    refine am_to_ind (fun y => y = 0) 6 0 (fun i y _ hy => ?_) rfl
    subst hy
    rw [if_neg (by rw [bt_and, bt_zero, Bool.and_false]; decide)]
    decide
  have t0 : ∀ a k, tT A 0 a k 6 = 0 := fun a k => tT_out A a (m := 6) (by rw [n0]; exact Nat.zero_le _) 6 (Nat.le_refl _)
  unfold trA
  rw [n0, if_pos rfl, s0, s0]
  have : (fun a k => if a < 3 then tT A 0 a k 6 else 0) = fun (_ _ : Nat) => (0 : Int32) := by
    funext a k
    rw [t0]
    by_cases h : a < 3
    · rw [if_pos h]
    · rw [if_neg h]
  rw [this]
theorem st11 (h : Inv R I L J K) : ∃ r1 r2, pX10_trim R I 1 = some r1 ∧ pX11_trim rM J 1 = some r2 ∧ r1.1 = r2.1 ∧ Inv R r1.2 L r2.2 K := by
  obtain ⟨A, w, sv, tx, wd, rs, sh, ok, hc, hm⟩ := h
  have r3 := hc.1.r2_3
  have hA3 : isA I 2 (R 2 3) A := by rw [r3]; exact hc.2.1
  have hw := ok.1
  obtain ⟨J', e2, g1, g2, g3, g4⟩ := e_trimM hm.1 hw
  have key : ∃ I', pX10_trim R I 1 = some (nI (trA A (uA A)).1, I') ∧ isA I' 2 3 (trA A (uA A)) ∧ ∀ b, b ≠ 2 → b ≠ 3 → I' b = I b := by
    unfold pX10_trim
    rw [hc.1.r1_0, e_usefulSet hA3 hw, am_bd]
    by_cases q : uA A = 0
    · rw [if_pos q, q, trA_0]
      obtain ⟨I', e1, f1, f2⟩ := e_clear (R := R) (I := I) (o := 2) (N := 1) (by rw [r3]; decide)
      rw [r3] at f1
      have e1 : pX0_clear R I 2 (1 : Int32) = some I' := e1
      refine ⟨I', ?_, f1, fun b x y => f2 b x (by rw [r3]; exact y)⟩
      rw [e1, am_bd, f1.1]
    · rw [if_neg q]
      obtain ⟨I', e1, f1, f2⟩ := e_keepOnly hA3 hw (by rw [r3]; decide) (lon_uA hw) (fun g => q ((num0 ((lon_uA hw).le hw.2.1)).mp g))
      rw [r3] at f1
      refine ⟨I', ?_, f1, fun b x y => f2 b x (by rw [r3]; exact y)⟩
      rw [e1, am_bd, f1.1]
  obtain ⟨I', e1, f1, f2⟩ := key
  exact stI (v := nI (trA A (uA A)).1) (I' := I') (J' := J') e1 e2 ⟨trA A (uA A), w, sv, tx, wd, rs, sh, ⟨aw_trA _ _, ok.2⟩, hc.aut f1 f2, hm.aut g1 (fun b x y => g4 b (fun q => by subst q; cases x) y (fun q => by subst q; cases x) (fun q => by subst q; cases x)) (fun k _ y => g3 k y) g2⟩
end
