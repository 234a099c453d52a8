/-! call 34 -/
section
variable {A : am_Au} {J : am_I} {K : am_L}
def msk (m : Nat) : Int64 := am_to (fun k v => v ||| bit1 k) m 0
def cfI (A : am_Au) (n : Nat) : Nat := sumN (fun q => if bt A.2.1 q = true then 1 else 0) n
theorem cfI_s (n : Nat) : cfI A (n + 1) = cfI A n + (if bt A.2.1 n = true then 1 else 0) := rfl
theorem cfI_le : ∀ n, cfI A n ≤ n
  | 0 => Nat.le_refl _
  | n + 1 => by
    rw [cfI_s]
    have := cfI_le n
    by_cases q : bt A.2.1 n = true
    · rw [if_pos q]; omega
    · rw [if_neg q]; omega
theorem cfI6 (hw : aw A) : cfI A A.1 = cfI A 6 := sumN_ext 6 hw.2.1 (fun i hi _ => if_neg (by rw [(hw.2.2.1 i hi).1]; decide))
theorem prs_ini (hw : aw A) : ∀ (k : Nat) (b : Int64) (S : am_Kt) (b' : Int64) (S' : am_Kt), k ≤ 6 → okT S → S.1 = cfI A (6 - k) → b = msk S.1 → (∀ j, j < S.1 → (S.2 j).1 < 6 - k) → prs A.2.1 0 k b S = some (b', S') → b' = msk S'.1 ∧ S'.1 = cfI A 6
  | 0, b, S, b', S', _, _, h1, h2, _, e => by
    cases e
    exact ⟨h2, h1⟩
  | k + 1, b, S, b', S', hk, ok, h1, h2, h3, e => by
    have e : (if bt A.2.1 (5 - k) = true then Option.bind (nmb S (5 - k, 0 ||| blw A.2.1 (5 - k))) (fun p => prs A.2.1 0 k (b ||| bit1 p.1) p.2) else prs A.2.1 0 k b S) = some (b', S') := e
    have e0 : 6 - (k + 1) = 5 - k := by omega
    have e1 : 6 - k = 5 - k + 1 := by omega
    rw [e0] at h1 h3
    by_cases q : bt A.2.1 (5 - k) = true
    · rw [if_pos q] at e
      have hn : ∀ j, j < S.1 → S.2 j ≠ (5 - k, 0 ||| blw A.2.1 (5 - k)) := fun j hj h => by
        have := h3 j hj
        rw [h] at this
        exact absurd this (Nat.lt_irrefl _)
      have hle := cfI_le (A := A) (5 - k)
      have h64 : S.1 ≠ 64 := by omega
      have hy : okY (5 - k, 0 ||| blw A.2.1 (5 - k)) := ⟨by show 5 - k < 6; omega, lon_or (lon0 6) (lon_blw (lon_ini hw))⟩
      rw [nmb_new hn h64, am_bd] at e
      refine prs_ini hw k _ (addK S _) b' S' (by omega) (ok.add hn h64 hy) ?_ ?_ (fun j hj => ?_) e
      · show S.1 + 1 = cfI A (6 - k)
        rw [e1, cfI_s, if_pos q, h1]
      · show b ||| bit1 S.1 = msk (S.1 + 1)
        rw [h2]; rfl
      · have hj : j < S.1 + 1 := hj
        show (if j = S.1 then ((5 - k, 0 ||| blw A.2.1 (5 - k)) : am_Ky) else S.2 j).1 < 6 - k
        by_cases g : j = S.1
        · rw [if_pos g]; show 5 - k < 6 - k; omega
        · rw [if_neg g]
          have := h3 j (by omega)
          omega
    · rw [if_neg q] at e
      refine prs_ini hw k b S b' S' (by omega) ok ?_ h2 (fun j hj => by have := h3 j hj; omega) e
      rw [e1, cfI_s, if_neg q, h1, Nat.add_zero]
/-- how many initial states the result has -/
def bgn (c : Nat) (A : am_Au) : Nat := if c = 0 then (if cfI A 6 ≤ 1 then cfI A 6 else 1) else cfI A 6
theorem st0_msk (hw : aw A) {c : Nat} {ini : Int64} {S : am_Kt} (e : st0K c A = some (ini, S)) : ini = msk (bgn c A) := by
  unfold st0K at e
  unfold bgn
  by_cases hc : c = 0
  · rw [if_pos hc] at e
    rw [if_pos hc]
    by_cases q : A.2.1 = 0
    · rw [if_pos q] at e
      have hz : cfI A 6 = 0 := by
        unfold cfI
        rw [sumN_congr (g := fun _ => 0) 6 (fun i _ => by rw [q, bt_zero]; rfl), sumN_zero]
      cases e
      rw [hz]
      rfl
    · rw [if_neg q] at e
      have hp : 1 ≤ cfI A 6 := by
        unfold cfI
        rw [sum1]
        apply Classical.byContradiction
        intro h
        apply q
        refine bt_ext fun k _ => ?_
        rw [bt_zero]
        cases g : bt A.2.1 k with
        | false => rfl
        | true =>
          exfalso
          have hk : k < 6 := Nat.lt_of_not_le fun z => by rw [lon_ini hw k z] at g; cases g
          exact h ⟨k, hk, by rw [if_pos g]; exact Nat.le_refl _⟩
      have h1 : (if cfI A 6 ≤ 1 then cfI A 6 else 1) = 1 := by
        by_cases g : cfI A 6 ≤ 1
        · rw [if_pos g]; omega
        · rw [if_neg g]
      cases e
      rw [h1]
      show bit1 0 = 0 ||| bit1 0
      rw [Int64.zero_or]
  · rw [if_neg hc] at e
    rw [if_neg hc]
    obtain ⟨a, b⟩ := prs_ini hw 6 0 noK ini S (Nat.le_refl _) okT_no rfl rfl (fun j hj => absurd hj (Nat.not_lt_zero j)) e
    rw [a, b]
/-- behind a build -/
def frB (J J' : am_I) : Prop := (∀ b, b ≠ 1 → ¬ (22 ≤ b ∧ b ≤ 25) → J' b = J b) ∧ ∀ k, k ≠ 40 → k ≠ 41 → J' 1 k = J 1 k
theorem fM3.B {J' : am_I} (h : fM3 J J') : frB J J' := ⟨fun b x y => h.1 b x (by omega) (by omega), fun k _ y => h.2 k y⟩
theorem frB.tr {J1 J2 : am_I} (h : frB J J1) (g : frB J1 J2) : frB J J2 := ⟨fun b x y => (g.1 b x y).trans (h.1 b x y), fun k x y => (g.2 k x y).trans (h.2 k x y)⟩
theorem e_b61 {c : Nat} (hc : c < 2) {B : am_Bd} (ok : okT B.1) (hM : isM J A) (h : KMB J K B (3 * B.1.1)) (h43 : K 1 43 = 0) (j10 : am_I → am_L → Option (Int32 × am_I × am_L)) :
    ∃ J' K', lX11_build_61 rM 1 (nI c) j10 am_fu (0 : Int32) J K = j10 J' K' ∧ frB J J' ∧ J' 1 = J 1 ∧ K' 1 43 = fns c A B.1 ∧ (∀ x, x < 3 * B.1.1 → K' 26 x = B.2 x) ∧ (∀ k, k ≠ 43 → K' 1 k = K 1 k) ∧ ∀ b, b ≠ 1 → b ≠ 26 → K' b = K b := by
  have h64 := ok.2.1
  obtain ⟨⟨J', K'⟩, e, g1, g2, g3, g4, g5, g6⟩ := am_for0 (fun n i (s : am_I × am_L) => lX11_build_61 rM 1 (nI c) j10 n (nI i) s.1 s.2) B.1.1 (fun i s => (∀ b, ¬ (22 ≤ b ∧ b ≤ 23) → s.1 b = J b) ∧ (s.2 1 43 = am_to (fun k v => v ||| (if fkey c A (B.1.2 k) = true then bit1 k else 0)) i 0) ∧ (∀ x, x < 3 * i → s.2 26 x = B.2 x) ∧ (∀ k, k ≠ 43 → s.2 1 k = K 1 k) ∧ (s.2 27 = K 27) ∧ ∀ b, b ≠ 1 → b ≠ 26 → s.2 b = K b) (fun s => j10 s.1 s.2) (by omega) (fun n i s hi hP => by
    obtain ⟨J1, K1⟩ := s
    obtain ⟨p1, p2, p3, p4, p5, p6⟩ := hP
    dsimp only at p1 p2 p3 p4 p5 p6
    have oy := ok.2.2 i hi
    have hy1 := oy.1
    have q41 : J1 1 41 = nI B.1.1 := by rw [p1 1 (by omega)]; exact h.1.1
    have q24 : J1 24 i = nI (B.1.2 i).1 := by rw [p1 24 (by omega)]; exact (h.1.2 i hi).1
    have q25 : J1 25 i = (B.1.2 i).2 := by rw [p1 25 (by omega)]; exact (h.1.2 i hi).2
    have q5 : J1 1 5 = A.2.2.1 := by rw [p1 1 (by omega)]; exact hM.2.2.1
    obtain ⟨J2, hJ2⟩ : ∃ J2, J2 = am_upI (am_upI J1 22 i (nI (B.1.2 i).1)) 23 i (B.1.2 i).2 := ⟨_, rfl⟩
    have r22 : J2 22 i = nI (B.1.2 i).1 := by rw [hJ2, am_upI_ne (by decide), am_upI_s]
    have r23 : J2 23 i = (B.1.2 i).2 := by rw [hJ2, am_upI_s]
    have r5 : J2 1 5 = A.2.2.1 := by rw [hJ2, am_upI_ne (by decide), am_upI_ne (by decide)]; exact q5
    -- the letters
    obtain ⟨j43, hj43⟩ : ∃ j : am_L → Option (Int32 × am_I × am_L), j = fun (J44 : am_L) => lX11_build_61 rM 1 (nI c) j10 n (nI (i + 1)) J2 (am_upL J44 1 43 (J44 1 43 ||| (if fkey c A (B.1.2 i) = true then bit1 i else 0))) := ⟨_, rfl⟩
    have hstep : lX11_build_61 rM 1 (nI c) j10 (n + 1) (nI i) J1 K1 = lX11_build_95 rM 1 (nI c) (nI i) J2 j43 am_fu (0 : Int32) K1 := by
      show sX11_build_61 rM 1 (nI c) j10 (lX11_build_61 rM 1 (nI c) j10 n) (nI i) J1 K1 = _
      unfold sX11_build_61
      rw [q41, if_neg (nIge hi (by omega)), inb (show i < 64 by omega) (by omega), am_ck_true, am_ck_true, rM34, rM35, rM36, rM37, nIcl (show i < 1000000 by omega), q24, am_let_e, am_ck_true, am_ck_true, am_upI_ne (show (25 : Nat) ≠ 22 by decide), q25, am_let_e, am_jn_e, ← hJ2]
      congr 1
      rw [hj43]
      funext J44
      rw [am_jn_e]
      have hc2 : c = 0 ∨ c = 1 := by omega
      have fin : ∀ v : Bool, (am_let (if bI v = 0 then (0 : Int64) else ((1 : Int64) <<< (Int32.toInt64 (nI i) &&& 63))) (fun v47 => am_let (am_upL J44 1 43 ((J44 1 43) ||| v47)) (fun J49 => lX11_build_61 rM 1 (nI c) j10 n (nI i + (1 : Int32)) J2 J49))) = lX11_build_61 rM 1 (nI c) j10 n (nI (i + 1)) J2 (am_upL J44 1 43 (J44 1 43 ||| (if v = true then bit1 i else 0))) := fun v => by
        rw [am_let_e, am_let_e, nI_1]
        cases v <;> rfl
      rcases hc2 with rfl | rfl
      · rw [if_pos (show nI 0 = (0 : Int32) from rfl), am_ck_true, r23, r5]
        unfold fkey
        rw [if_pos (show (0 : Nat) = 0 from rfl)]
        by_cases q : (B.1.2 i).2 &&& A.2.2.1 = 0
        · rw [if_pos q, decide_eq_true q]
          exact fin false
        · rw [if_neg q, decide_eq_false q]
          exact fin true
      · rw [if_neg (show ¬ nI 1 = (0 : Int32) by decide), am_ck_true, r22, r23, r5, e_hb _ (show (B.1.2 i).1 < 32 by omega), am_bd, am_jn_e, am_ck_true]
        unfold fkey
        rw [if_neg (show ¬ (1 : Nat) = 0 by decide)]
        by_cases q : (B.1.2 i).2 &&& A.2.2.1 = 0
        · rw [if_pos q, decide_eq_true q, Bool.and_true]
          cases bt A.2.2.1 (B.1.2 i).1 with
          | false =>
            rw [if_pos (show bI false = 0 from rfl)]
            exact fin false
          | true =>
            rw [if_neg (show ¬ bI true = 0 by decide)]
            exact fin true
        · rw [if_neg q, decide_eq_false q, Bool.and_false]
          cases bt A.2.2.1 (B.1.2 i).1 with
          | false =>
            rw [if_pos (show bI false = 0 from rfl)]
            exact fin false
          | true =>
            rw [if_neg (show ¬ bI true = 0 by decide)]
            exact fin false
    obtain ⟨K2, e2, a1, a2, a3⟩ := am_for0 (fun m a M => lX11_build_95 rM 1 (nI c) (nI i) J2 j43 m (nI a) M) 3 (fun a M => (∀ x, x < 3 * i + a → M 26 x = B.2 x) ∧ (M 27 = K 27) ∧ ∀ b, b ≠ 26 → M b = K1 b) (fun M => j43 M) (by omega) (fun m a M ha hP => by
      obtain ⟨b1, b2, b3⟩ := hP
      have ex : (3 : Int32) * nI i + nI a = nI (3 * i + a) := by rw [show (3 : Int32) = nI 3 from rfl, pk_mul, nI_add]
      refine ⟨am_upL M 26 (3 * i + a) (B.2 (3 * i + a)), ?_, fun x hx => ?_, by rw [am_upL_n (by decide)]; exact b2, fun b hb => by rw [am_upL_n hb]; exact b3 b hb⟩
      · show sX11_build_95 rM 1 (nI c) (nI i) J2 j43 (lX11_build_95 rM 1 (nI c) (nI i) J2 j43 m) (nI a) M = _
        unfold sX11_build_95
        rw [if_neg (ng3 ha), ex, inb (show 3 * i + a < 192 by omega) (by omega), am_ck_true, am_ck_true, am_let_e, rM38, rM39, nIcl (show 3 * i + a < 1000000 by omega), b2, h.2 (3 * i + a) (by omega), nI_1]
      · by_cases q : x = 3 * i + a
        · rw [q, am_upL_s]
        · rw [am_upL_o q]; exact b1 x (by omega)) (fun m M _ => by
      show sX11_build_95 rM 1 (nI c) (nI i) J2 j43 (lX11_build_95 rM 1 (nI c) (nI i) J2 j43 m) (nI 3) M = _
      unfold sX11_build_95
      rw [if_pos yg3]) K1 ⟨fun x hx => p3 x hx, p5, fun _ _ => rfl⟩
    rw [nI_0] at e2
    obtain ⟨vv, hvv⟩ : ∃ v, v = K2 1 43 ||| (if fkey c A (B.1.2 i) = true then bit1 i else 0) := ⟨_, rfl⟩
    refine ⟨(J2, am_upL K2 1 43 vv), ?_, fun b hb => ?_, ?_, fun x hx => ?_, fun k hk => ?_, ?_, fun b x y => ?_⟩
    · show lX11_build_61 rM 1 (nI c) j10 (n + 1) (nI i) J1 K1 = _
      rw [hstep, e2, hj43, hvv]
    · show J2 b = J b
      rw [hJ2, am_upI_ne (by omega), am_upI_ne (by omega)]; exact p1 b hb
    · show am_upL K2 1 43 vv 1 43 = _
      rw [am_upL_s, hvv, a3 1 (by decide), p2]
      rfl
    · show am_upL K2 1 43 vv 26 x = _
      rw [am_upL_n (by decide)]; exact a1 x (by omega)
    · show am_upL K2 1 43 vv 1 k = _
      rw [am_upL_o hk, a3 1 (by decide)]; exact p4 k hk
    · show am_upL K2 1 43 vv 27 = _
      rw [am_upL_n (by decide)]; exact a2
    · show am_upL K2 1 43 vv b = _
      rw [am_upL_n x, a3 b y]; exact p6 b x y) (fun n s hP => by
    obtain ⟨J1, K1⟩ := s
    have p1 : J1 1 = J 1 := hP.1 1 (by omega)
    have q41 : J1 1 41 = nI B.1.1 := by rw [p1]; exact h.1.1
    show sX11_build_61 rM 1 (nI c) j10 (lX11_build_61 rM 1 (nI c) j10 n) (nI B.1.1) J1 K1 = _
    unfold sX11_build_61
    rw [q41, if_pos (nIle (by omega))]) (J, K) ⟨fun _ _ => rfl, h43, fun x hx => absurd hx (Nat.not_lt_zero x), fun _ _ => rfl, rfl, fun _ _ _ => rfl⟩
  rw [nI_0] at e
  dsimp only at g1 g2 g3 g4 g5 g6
  exact ⟨J', K', e, ⟨fun b x y => g1 b (by omega), fun k _ _ => by rw [g1 1 (by omega)]⟩, g1 1 (by omega), g2, g3, g4, g6⟩
theorem e_b219 (hw : aw A) (hM : isM J A) (x1 : Int32) (j13 : Int32 → Option (Int32 × am_I × am_L)) : lX11_build_219 rM 1 x1 J K j13 am_fu (0 : Int32) (0 : Int32) = j13 (nI (cfI A 6)) := by
  have h6 := hw.2.1
  obtain ⟨v, e, hv⟩ := am_for0 (fun n i (v : Int32) => lX11_build_219 rM 1 x1 J K j13 n v (nI i)) A.1 (fun i v => v = nI (cfI A i)) (fun v => j13 v) (by omega) (fun n i v hi hP => by
    refine ⟨nI (cfI A (i + 1)), ?_, rfl⟩
    show sX11_build_219 rM 1 x1 J K j13 (lX11_build_219 rM 1 x1 J K j13 n) v (nI i) = _
    unfold sX11_build_219
    rw [hM.1, if_neg (nIge hi (by omega)), hM.2.1, bt_shr1 _ (show i < 32 by omega), am_let_e, nI_1, cfI_s, hP]
    cases bt A.2.1 i with
    | false =>
      show lX11_build_219 rM 1 x1 J K j13 n (nI (cfI A i) + 0) (nI (i + 1)) = _
      rw [Int32.add_zero]
      rfl
    | true =>
      show lX11_build_219 rM 1 x1 J K j13 n (nI (cfI A i) + 1) (nI (i + 1)) = _
      rw [nI_1]
      rfl) (fun n v _ => by
    show sX11_build_219 rM 1 x1 J K j13 (lX11_build_219 rM 1 x1 J K j13 n) v (nI A.1) = _
    unfold sX11_build_219
    rw [hM.1, if_pos (nIle (by omega))]) 0 rfl
  rw [nI_0] at e
  rw [e, hv, cfI6 hw]
theorem e_b257 {m : Nat} (hm : m < 64) (h42 : K 1 42 = 0) : ∃ K', lX11_build_257 rM 1 (nI m) J am_fu (0 : Int32) K = some (J 1 41, J, K') ∧ K' 1 42 = msk m ∧ (∀ k, k ≠ 42 → K' 1 k = K 1 k) ∧ ∀ b, b ≠ 1 → K' b = K b := by
  obtain ⟨K', e, g1, g2, g3⟩ := am_for0 (fun n i M => lX11_build_257 rM 1 (nI m) J n (nI i) M) m (fun i M => M 1 42 = msk i ∧ (∀ k, k ≠ 42 → M 1 k = K 1 k) ∧ ∀ b, b ≠ 1 → M b = K b) (fun M => some (J 1 41, J, M)) (by omega) (fun n i M hi hP => by
    obtain ⟨p1, p2, p3⟩ := hP
    refine ⟨am_upL M 1 42 (msk (i + 1)), ?_, am_upL_s, fun k hk => by rw [am_upL_o hk]; exact p2 k hk, fun b hb => by rw [am_upL_n hb]; exact p3 b hb⟩
    show sX11_build_257 rM 1 (nI m) J (lX11_build_257 rM 1 (nI m) J n) (nI i) M = _
    unfold sX11_build_257
    rw [if_neg (nIge hi (by omega)), am_let_e, p1, nI_1]
    rfl) (fun n M _ => by
    show sX11_build_257 rM 1 (nI m) J (lX11_build_257 rM 1 (nI m) J n) (nI m) M = _
    unfold sX11_build_257
    rw [if_pos (nIle (by omega))]) K ⟨h42, fun _ _ => rfl, fun _ _ => rfl⟩
  rw [nI_0] at e
  exact ⟨K', e, g1, g2, g3⟩
/-- the reference's call, once its tables are there -/
theorem e_bTail (hw : aw A) {c : Nat} (hc : c < 2) {B : am_Bd} (ok : okT B.1) (hM : isM J A) (h : KMB J K B (3 * B.1.1)) {ini : Int64} (hi : ini = msk (bgn c A)) :
    ∃ J' K', (am_let (am_upI J 1 40 (J 1 41)) (fun J7 =>
  am_let (am_upL K 1 42 (0 : Int64)) (fun J8 =>
  am_let (am_upL J8 1 43 (0 : Int64)) (fun J9 =>
  am_jn (fun (J11 : am_I) (J12 : am_L) =>
  am_jn (fun (v14 : Int32) =>
  am_jn (fun (v16 : Int32) =>
  lX11_build_257 rM 1 v16 J11 am_fu (0 : Int32) J12) (fun j15 =>
  if nI c = 0 then (
    if v14 ≤ (1 : Int32) then (
      j15 v14) else (
      j15 (1 : Int32))) else (
    j15 v14))) (fun j13 =>
  lX11_build_219 rM 1 (nI c) J11 J12 j13 am_fu (0 : Int32) (0 : Int32))) (fun j10 =>
  lX11_build_61 rM 1 (nI c) j10 am_fu (0 : Int32) J7 J9))))) = some (nI B.1.1, J', K') ∧ frB J J' ∧ J' 1 40 = nI B.1.1 ∧ K' 1 42 = ini ∧ K' 1 43 = fns c A B.1 ∧ (∀ x, x < 3 * B.1.1 → K' 26 x = B.2 x) ∧ ∀ b, b ≠ 1 → b ≠ 26 → K' b = K b := by
  rw [am_let_e, am_let_e, am_let_e, am_jn_e]
  have hM7 : isM (am_upI J 1 40 (J 1 41)) A := hM.kept (fun k _ _ => by rw [am_upI_o (by omega)]) (am_upI_ne (by decide))
  have h7 : KMB (am_upI J 1 40 (J 1 41)) (am_upL (am_upL K 1 42 0) 1 43 0) B (3 * B.1.1) := ⟨⟨by rw [am_upI_o (by decide)]; exact h.1.1, fun k hk => by rw [am_upI_ne (by decide), am_upI_ne (by decide)]; exact h.1.2 k hk⟩, fun x hx => by rw [am_upL_n (by decide), am_upL_n (by decide)]; exact h.2 x hx⟩
  obtain ⟨J1, K1, e1, f1, f1', g1, g2, g3, g4⟩ := e_b61 hc ok hM7 h7 am_upL_s (fun (J11 : am_I) (J12 : am_L) =>
  am_jn (fun (v14 : Int32) =>
  am_jn (fun (v16 : Int32) =>
  lX11_build_257 rM 1 v16 J11 am_fu (0 : Int32) J12) (fun j15 =>
  if nI c = 0 then (
    if v14 ≤ (1 : Int32) then (
      j15 v14) else (
      j15 (1 : Int32))) else (
    j15 v14))) (fun j13 =>
  lX11_build_219 rM 1 (nI c) J11 J12 j13 am_fu (0 : Int32) (0 : Int32)))
  have hM1 : isM J1 A := hM7.kept (fun k _ _ => by rw [f1']) (f1.1 2 (by decide) (by omega))
  have hle := cfI_le (A := A) 6
  have hb : bgn c A < 64 := by
    unfold bgn
    by_cases q : c = 0
    · rw [if_pos q]
      by_cases g : cfI A 6 ≤ 1
      · rw [if_pos g]; omega
      · rw [if_neg g]; omega
    · rw [if_neg q]; omega
  obtain ⟨K2, e2, a1, a2, a3⟩ := e_b257 (J := J1) (K := K1) hb (by rw [g3 42 (by decide), am_upL_o (by decide), am_upL_s])
  have h40 : J1 1 40 = nI B.1.1 := by rw [f1', am_upI_s]; exact h.1.1
  have h41 : J1 1 41 = nI B.1.1 := by rw [f1', am_upI_o (by decide)]; exact h.1.1
  refine ⟨J1, K2, ?_, frB.tr ⟨fun b x _ => am_upI_ne x, fun k x _ => am_upI_o x⟩ f1, h40, by rw [a1, hi], by rw [a2 43 (by decide)]; exact g1, fun x hx => by rw [a3 26 (by decide)]; exact g2 x hx, fun b x y => by rw [a3 b x, g4 b x y, am_upL_n x, am_upL_n x]⟩
  rw [e1]
  try dsimp only
  rw [am_jn_e, e_b219 hw hM1]
  try dsimp only
  rw [am_jn_e]
  rw [h41] at e2
  unfold bgn at e2
  have hc2 : c = 0 ∨ c = 1 := by omega
  rcases hc2 with rfl | rfl
  · rw [if_pos (show (0 : Nat) = 0 from rfl)] at e2
    rw [if_pos (show nI 0 = (0 : Int32) from rfl)]
    by_cases q : cfI A 6 ≤ 1
    · rw [if_pos q] at e2
      rw [if_pos (show nI (cfI A 6) ≤ (1 : Int32) from nI_le (b := 1) q (by omega))]
      exact e2
    · rw [if_neg q] at e2
      rw [if_neg (show ¬ nI (cfI A 6) ≤ (1 : Int32) from nI_ge (a := 1) (by omega) (by omega))]
      exact e2
  · rw [if_neg (show ¬ (1 : Nat) = 0 by decide)] at e2
    rw [if_neg (show ¬ nI 1 = (0 : Int32) by decide)]
    exact e2
theorem e_buildM (hw : aw A) (hM : isM J A) {c : Nat} (hc : c < 2) : ∃ J' K' ini S, st0K c A = some (ini, S) ∧ frB J J' ∧
    ((∃ B', bld c A 65 0 (S, fun _ => 0) = some B' ∧ pX11_build rM J K 1 (nI c) = some (nI B'.1.1, J', K') ∧ J' 1 40 = nI B'.1.1 ∧ K' 1 42 = ini ∧ K' 1 43 = fns c A B'.1 ∧ (∀ x, x < 3 * B'.1.1 → K' 26 x = B'.2 x) ∧ ∀ b, b ≠ 1 → b ≠ 26 → b ≠ 27 → K' b = K b) ∨
     (bld c A 65 0 (S, fun _ => 0) = none ∧ pX11_build rM J K 1 (nI c) = some (-5, J', K') ∧ J' 1 40 = J 1 40 ∧ ∀ b, b ≠ 27 → K' b = K b)) := by
  have rM' := rngM (n := 1) (by omega) (x := nI c) (M := 1) rfl (hi := 1) (by decide)
  have hin : inS (1 + 1) (nI c) := ⟨c, hc, rfl⟩
  have hM0 : isM (am_upI J 1 41 0) A := hM.kept (fun k _ _ => by rw [am_upI_o (by omega)]) (am_upI_ne (by decide))
  have f0 : frB J (am_upI J 1 41 0) := ⟨fun b x _ => am_upI_ne x, fun k _ y => am_upI_o y⟩
  have hc2 : c = 0 ∨ c = 1 := by omega
  rcases hc2 with rfl | rfl
  · obtain ⟨J1, K1, ini, S, B', f1, f2, s1, s2, s3, s4⟩ := e_buildsSets (K := K) hw hM0 am_upI_s
    have okB : okT B'.1 := by
      obtain ⟨a, b⟩ := st0K_spec hw s1
      exact (bld_spec hw 65 0 _ B' (by omega) (Nat.zero_le _) ⟨a, fun k a' _ hlt => absurd hlt (Nat.not_lt_zero _)⟩ s2).2.1
    obtain ⟨J2, K2, t1, t2, t3, t4, t5, t6, t7⟩ := e_bTail hw hc okB (hM0.f3 f1) s4 (st0_msk hw s1)
    refine ⟨J2, K2, ini, S, s1, (f0.tr f1.B).tr t2, Or.inl ⟨B', s2, ?_, t3, t4, t5, t6, fun b x y z => (t7 b x y).trans (f2 b z)⟩⟩
    unfold pX11_build
    rw [rM'.1 hin, am_bd, if_neg i10, am_let_e, am_jn_e, if_pos (show nI 0 = (0 : Int32) from rfl), s3, am_bd]
    dsimp only
    rw [if_neg (show ¬ (1 : Int32) = 0 by decide)]
    exact t1
  · obtain ⟨J1, K1, ini, S, f1, f2, s1, s2⟩ := e_buildsPairs (K := K) hw hM0 am_upI_s
    rcases s2 with ⟨B', s2, s3, s4⟩ | ⟨s2, s3⟩
    · have okB : okT B'.1 := by
        obtain ⟨a, b⟩ := st0K_spec hw s1
        exact (bld_spec hw 65 0 _ B' (by omega) (Nat.zero_le _) ⟨a, fun k a' _ hlt => absurd hlt (Nat.not_lt_zero _)⟩ s2).2.1
      obtain ⟨J2, K2, t1, t2, t3, t4, t5, t6, t7⟩ := e_bTail hw hc okB (hM0.f3 f1) s4 (st0_msk hw s1)
      refine ⟨J2, K2, ini, S, s1, (f0.tr f1.B).tr t2, Or.inl ⟨B', s2, ?_, t3, t4, t5, t6, fun b x y z => (t7 b x y).trans (f2 b z)⟩⟩
      unfold pX11_build
      rw [rM'.1 hin, am_bd, if_neg i10, am_let_e, am_jn_e, if_neg (show ¬ nI 1 = (0 : Int32) by decide), s3, am_bd]
      dsimp only
      rw [if_neg (show ¬ (1 : Int32) = 0 by decide)]
      exact t1
    · refine ⟨J1, K1, ini, S, s1, f0.tr f1.B, Or.inr ⟨s2, ?_, by rw [f1.2 40 (by decide), am_upI_o (by decide)], f2⟩⟩
      unfold pX11_build
      rw [rM'.1 hin, am_bd, if_neg i10, am_let_e, am_jn_e, if_neg (show ¬ nI 1 = (0 : Int32) by decide), s3, am_bd]
      dsimp only
      rw [if_pos rfl]
end
