/-! the class: both constructions from their start -/
section
variable {R : am_R} {A : am_Au} {I : am_I} {L : am_L} {o : Nat}
theorem e_makeEmpty3 (hK : stK R o) {c : Nat} : ∃ I' L', pX3_makeEmpty R I L o = some (I', L') ∧ bfK I L o I' L' ∧ KC I' L' o c A (noK, fun _ => 0) 0 := by
  obtain ⟨o3, o4, o5, ho1, ho2⟩ := hK
  unfold pX3_makeEmpty
  rw [am_let_e, am_let_e, am_let_e, am_jn_e]
  obtain ⟨j4, hj4⟩ : ∃ j : am_L → Option (am_I × am_L), j = fun (J5 : am_L) => lX3_makeEmpty_41 R o J5 am_fu (0 : Int32) (am_upI I o 0 0) := ⟨_, rfl⟩
  rw [← hj4]
  obtain ⟨L1, e1, g1, g2, g3⟩ := am_for0 (fun n i J => lX3_makeEmpty_17 R o (am_upI I o 0 0) j4 n (nI i) J) 192 (fun i J => (∀ x, x < i → J (o + 1) x = 0) ∧ (J o 1 = 0 ∧ J o 2 = 0) ∧ ∀ b, b ≠ o → b ≠ o + 1 → J b = L b) (fun J => j4 J) (by omega) (fun n i J hi hP => by
    obtain ⟨p1, p2, p3⟩ := hP
    refine ⟨am_upL J (o + 1) i 0, ?_, fun x hx => ?_, by rw [am_upL_n (by omega)]; exact p2, fun b x y => by rw [am_upL_n y]; exact p3 b x y⟩
    · show sX3_makeEmpty_17 R o (am_upI I o 0 0) j4 (lX3_makeEmpty_17 R o (am_upI I o 0 0) j4 n) (nI i) J = _
      unfold sX3_makeEmpty_17
      rw [if_neg (ng192 hi), inb hi (by omega), am_ck_true, am_let_e, o3, nIcl (show i < 1000000 by omega), nI_1]
    · by_cases q : x = i
      · rw [q, am_upL_s]
      · rw [am_upL_o q]; exact p1 x (by omega)) (fun n J _ => by
    show sX3_makeEmpty_17 R o (am_upI I o 0 0) j4 (lX3_makeEmpty_17 R o (am_upI I o 0 0) j4 n) (nI 192) J = _
    unfold sX3_makeEmpty_17
    rw [if_pos yg192]) (am_upL (am_upL L o 1 0) o 2 0) ⟨fun x hx => absurd hx (Nat.not_lt_zero x), ⟨by rw [am_upL_o (by decide), am_upL_s], am_upL_s⟩, fun b x _ => by rw [am_upL_n x, am_upL_n x]⟩
  rw [nI_0] at e1
  obtain ⟨I1, e2, g4, g5, g6⟩ := am_for0 (fun n i J => lX3_makeEmpty_41 R o L1 n (nI i) J) 384 (fun i J => (∀ x, x < i → J (o + 3) x = -1) ∧ J o 0 = 0 ∧ ∀ b, b ≠ o → b ≠ o + 3 → J b = I b) (fun J => some (J, L1)) (by omega) (fun n i J hi hP => by
    obtain ⟨p1, p2, p3⟩ := hP
    refine ⟨am_upI J (o + 3) i (-1), ?_, fun x hx => ?_, by rw [am_upI_ne (by omega)]; exact p2, fun b x y => by rw [am_upI_ne y]; exact p3 b x y⟩
    · show sX3_makeEmpty_41 R o L1 (lX3_makeEmpty_41 R o L1 n) (nI i) J = _
      unfold sX3_makeEmpty_41
      rw [if_neg (ng384 hi), inb hi (by omega), am_ck_true, am_let_e, o5, nIcl (show i < 1000000 by omega), nI_1]
    · by_cases q : x = i
      · rw [q, am_upI_s]
      · rw [am_upI_o q]; exact p1 x (by omega)) (fun n J _ => by
    show sX3_makeEmpty_41 R o L1 (lX3_makeEmpty_41 R o L1 n) (nI 384) J = _
    unfold sX3_makeEmpty_41
    rw [if_pos yg384]) (am_upI I o 0 0) ⟨fun x hx => absurd hx (Nat.not_lt_zero x), am_upI_s, fun b x _ => am_upI_ne x⟩
  rw [nI_0] at e2
  refine ⟨I1, L1, ?_, fun b hb => ⟨g6 b (by omega) (by omega), g3 b (by omega) (by omega)⟩, g5, fun k hk => absurd hk (Nat.not_lt_zero k), fun k hk => absurd hk (Nat.not_lt_zero k), fun x hx _ => g4 x hx, g2.2, fun x hx => g1 x hx, g2.1⟩
  refine e1.trans ?_
  rw [hj4]
  exact e2
theorem prs_tail {to l : Int32} : ∀ (k : Nat) (b : Int64) (S : am_Kt), k ≤ 6 → (∀ r, 6 - k ≤ r → r < 6 → bt to r = false) → prs to l k b S = some (b, S)
  | 0, _, _, _, _ => rfl
  | k + 1, b, S, hk, h => by
    have h1 := h (5 - k) (by omega) (by omega)
    show (if bt to (5 - k) = true then _ else prs to l k b S) = _
    rw [if_neg (by rw [h1]; decide)]
    exact prs_tail k b S (by omega) (fun r a c => h r (by omega) c)
theorem e_ml6 (hK : stK R o) (hw : aw A) {tg : Nat → Int64} (j : am_I → am_L → Option (Int32 × am_I × am_L)) : ∀ (k u : Nat) (b : Int64) (S : am_Kt) (I : am_I) (L : am_L), k ≤ 6 → k < u → S.1 ≤ 6 - k → okT S → isA I 2 3 A → KC I L o 1 A (S, tg) b →
    ∃ I' L' b' S', bfK I L o I' L' ∧ prs A.2.1 0 k b S = some (b', S') ∧ lX3_makeLeastPaths_6 R o 2 16 j u (nI (6 - k)) I L = j I' L' ∧ okT S' ∧ KC I' L' o 1 A (S', tg) b' := by
  have h6 := hw.2.1
  intro k
  induction k with
  | zero =>
    intro u b S I L _ hu _ ok hA h
    obtain ⟨u, rfl⟩ : ∃ g, u = g + 1 := ⟨u - 1, by omega⟩
    refine ⟨I, L, b, S, bfK.rf I L o, rfl, ?_, ok, h⟩
    show sX3_makeLeastPaths_6 R o 2 16 j (lX3_makeLeastPaths_6 R o 2 16 j u) (nI 6) I L = _
    unfold sX3_makeLeastPaths_6
    rw [hA.1, if_pos (nI_le h6 (by omega))]
  | succ k ih =>
    intro u b S I L hk hu hS ok hA h
    obtain ⟨u, rfl⟩ : ∃ g, u = g + 1 := ⟨u - 1, by omega⟩
    have e0 : 6 - (k + 1) = 5 - k := by omega
    have e1 : 5 - k + 1 = 6 - k := by omega
    have hp : prs A.2.1 0 (k + 1) b S = (if bt A.2.1 (5 - k) = true then Option.bind (nmb S (5 - k, 0 ||| blw A.2.1 (5 - k))) (fun p => prs A.2.1 0 k (b ||| bit1 p.1) p.2) else prs A.2.1 0 k b S) := rfl
    have hs : lX3_makeLeastPaths_6 R o 2 16 j (u + 1) (nI (6 - (k + 1))) I L = sX3_makeLeastPaths_6 R o 2 16 j (lX3_makeLeastPaths_6 R o 2 16 j u) (nI (5 - k)) I L := by rw [e0]; rfl
    by_cases hr : A.1 ≤ 5 - k
    · refine ⟨I, L, b, S, bfK.rf I L o, prs_tail (k + 1) b S hk (fun r a _ => (hw.2.2.1 r (by omega)).1), ?_, ok, h⟩
      rw [hs]
      unfold sX3_makeLeastPaths_6
      rw [hA.1, if_pos (nI_le hr (by omega))]
    · by_cases q : bt A.2.1 (5 - k) = true
      · have ez : (0 : Int32) ||| blw A.2.1 (5 - k) = blw A.2.1 (5 - k) := Int32.zero_or
        have hy : okY (5 - k, blw A.2.1 (5 - k)) := ⟨by show 5 - k < 6; omega, lon_blw (lon_ini hw)⟩
        obtain ⟨I1, L1, f1, g1⟩ := e_bitOfPair hK hA h ok hy
        rcases g1 with ⟨i, S1, n1, n2, n3⟩ | ⟨n1, _⟩
        · obtain ⟨ok1, hi⟩ := nmb_ok ok hy n1
          have n2 : pX3_bitOfPair R I L o 2 (nI (5 - k)) (A.2.1 &&& (((1 : Int32) <<< (nI (5 - k) &&& 31)) - (1 : Int32))) = some (bit1 i, I1, L1) := n2
          have hS1 : S1.1 ≤ 6 - k := by
            rcases nmb_cases ok hy with ⟨_, _, _, a3⟩ | ⟨_, _, a3, _⟩ | ⟨_, _, a3⟩
            · rw [n1] at a3; cases a3; omega
            · rw [n1] at a3; cases a3
              show S.1 + 1 ≤ 6 - k
              omega
            · rw [n1] at a3; cases a3
          have hL : L o 1 = b := h.2.2.2.2.2.2
          have hK1 : KC I1 (am_upL L1 o 1 (b ||| bit1 i)) o 1 A (S1, tg) (b ||| bit1 i) := ⟨n3.1, n3.2.1, n3.2.2.1, n3.2.2.2.1, by rw [am_upL_o (by decide)]; exact n3.2.2.2.2.1, fun x hx => by rw [am_upL_n (by omega)]; exact n3.2.2.2.2.2.1 x hx, am_upL_s⟩
          have f1' : bfK I L o I1 (am_upL L1 o 1 (b ||| bit1 i)) := fun x hx => ⟨(f1 x hx).1, by rw [am_upL_n (by omega)]; exact (f1 x hx).2⟩
          obtain ⟨I2, L2, b', S', f2, g2, g3, g4, g5⟩ := ih u (b ||| bit1 i) S1 I1 _ (by omega) (by omega) hS1 ok1 (hA.bf f1' hK.2.2.2.1) hK1
          refine ⟨I2, L2, b', S', f1'.tr f2, ?_, ?_, g4, g5⟩
          · rw [hp, if_pos q, ez, n1, am_bd]; exact g2
          · rw [hs]
            unfold sX3_makeLeastPaths_6
            rw [hA.1, if_neg (nIge (show 5 - k < A.1 by omega) (by omega)), hA.2.1, e_cb _ (show 5 - k < 32 by omega), am_bd, q, am_jn_e, if_neg (show ¬ bI true = 0 by decide)]
            unfold pX3_below
            rw [am_bd, n2, am_bd, am_let_e, hL, nI_1, e1]
            exact g3
        · have := ok.2.1
          rcases nmb_cases ok hy with ⟨_, _, _, a3⟩ | ⟨_, _, a3, _⟩ | ⟨_, a2, _⟩
          · rw [n1] at a3; cases a3
          · rw [n1] at a3; cases a3
          · omega
      · obtain ⟨I2, L2, b', S', f2, g2, g3, g4, g5⟩ := ih u b S I L (by omega) (by omega) (by omega) ok hA h
        refine ⟨I2, L2, b', S', f2, by rw [hp, if_neg q]; exact g2, ?_, g4, g5⟩
        rw [hs]
        unfold sX3_makeLeastPaths_6
        rw [hA.1, if_neg (nIge (show 5 - k < A.1 by omega) (by omega)), hA.2.1, e_cb _ (show 5 - k < 32 by omega), am_bd, Bool.eq_false_iff.mpr q, am_jn_e, if_pos (show bI false = 0 from rfl), nI_1, e1]
        exact g3
theorem e_makeLeast (hR : okC R) (hK : stK R o) (hw : aw A) (hA : isA I 2 3 A) (hT : tbK I A) : ∃ I' L' ini S, bfK I L o I' L' ∧ st0K 1 A = some (ini, S) ∧ ((∃ B', bld 1 A 65 0 (S, fun _ => 0) = some B' ∧ pX3_makeLeastPaths R I L o 2 16 = some (1, I', L') ∧ KC I' L' o 1 A B' ini) ∨ (bld 1 A 65 0 (S, fun _ => 0) = none ∧ pX3_makeLeastPaths R I L o 2 16 = some (0, I', L'))) := by
  obtain ⟨I1, L1, e1, f1, k1⟩ := e_makeEmpty3 (A := A) (I := I) (L := L) hK (c := 1)
  have hA1 := hA.bf f1 hK.2.2.2.1
  obtain ⟨I2, L2, ini, S, f2, g1, g2, g3, g4⟩ := e_ml6 hK hw (fun (J3 : am_I) (J4 : am_L) => lX3_makeLeastPaths_56 R o 2 16 am_fu (0 : Int32) J3 J4) 6 am_fu 0 noK I1 L1 (Nat.le_refl _) (by have := am_fu_ge; omega) (Nat.zero_le _) okT_no hA1 k1
  have hA2 := hA1.bf f2 hK.2.2.2.1
  have hT2 : tbK I2 A := (hT.bf f1 hK.2.2.2.1).bf f2 hK.2.2.2.1
  obtain ⟨I3, L3, f3, g5⟩ := e_ml56 hR hK hw 65 0 am_fu (S, fun _ => 0) I2 L2 (by omega) (by have := am_fu_ge; omega) g3 (Nat.zero_le _) hA2 hT2 g4
  have hm : pX3_makeLeastPaths R I L o 2 16 = lX3_makeLeastPaths_56 R o 2 16 am_fu (nI 0) I2 L2 := by
    unfold pX3_makeLeastPaths
    rw [e1, am_bd, am_jn_e]
    rw [show nI (6 - 6) = (0 : Int32) from rfl] at g2
    exact g2
  rw [hm]
  exact ⟨I3, L3, ini, S, (f1.tr f2).tr f3, g1, g5⟩
/-! sets of states -/
theorem pigeon : ∀ (n m : Nat) (f : Nat → Nat), (∀ i, i < m → f i < n) → (∀ i j, i < m → j < m → f i = f j → i = j) → m ≤ n := by
  intro n
  induction n with
  | zero =>
    intro m f h1 _
    cases m with
    | zero => exact Nat.le_refl _
    | succ m => exact absurd (h1 0 (by omega)) (Nat.not_lt_zero _)
  | succ n ih =>
    intro m f h1 h2
    by_cases q : ∃ i, i < m ∧ f i = n
    · obtain ⟨i0, hi, e⟩ := q
      have := ih (m - 1) (fun i => f (if i < i0 then i else i + 1)) (fun i hi' => by
        have hlt : (if i < i0 then i else i + 1) < m := by split <;> omega
        have h3 := h1 _ hlt
        have : f (if i < i0 then i else i + 1) ≠ n := fun h => by
          have := h2 _ i0 hlt hi (h.trans e.symm)
          split at this <;> omega
        show f (if i < i0 then i else i + 1) < n
        omega) (fun i j hi' hj' h => by
        have hlt : (if i < i0 then i else i + 1) < m := by split <;> omega
        have hlt2 : (if j < i0 then j else j + 1) < m := by split <;> omega
        have := h2 _ _ hlt hlt2 h
        split at this <;> split at this <;> omega)
      omega
    · have := ih m f (fun i hi => by
        have := h1 i hi
        have : f i ≠ n := fun h => q ⟨i, hi, h⟩
        omega) h2
      omega
def SZ (S : am_Kt) : Prop := ∀ k, k < S.1 → (S.2 k).1 = 0 ∧ (S.2 k).2 ≠ 0
theorem SZ.le {S : am_Kt} (h : SZ S) (ok : okT S) : S.1 ≤ 63 := by
  have nz0 : ∀ k, k < S.1 → nz (S.2 k).2 ≠ 0 := fun k hk e => (h k hk).2 (by rw [nz_e (ok.2.2 k hk).2, e]; rfl)
  refine pigeon 63 S.1 (fun k => nz (S.2 k).2 - 1) (fun k hk => ?_) (fun j k hj hk e => ?_)
  · have := nz0 k hk
    have := nz_lt (S.2 k).2
    show nz (S.2 k).2 - 1 < 63
    omega
  · have a := nz0 j hj
    have b := nz0 k hk
    have e : nz (S.2 j).2 - 1 = nz (S.2 k).2 - 1 := e
    refine ok.1 j k hj hk (Prod.ext ((h j hj).1.trans (h k hk).1.symm) ?_)
    rw [nz_e (ok.2.2 j hj).2, nz_e (ok.2.2 k hk).2, show nz (S.2 j).2 = nz (S.2 k).2 by omega]
theorem nmb_set {S : am_Kt} (ok : okT S) (hz : SZ S) {X : Int32} (hX : lon 6 X) (h0 : X ≠ 0) : ∃ i S', nmb S (0, X) = some (i, S') ∧ okT S' ∧ SZ S' ∧ i < 64 ∧ S.1 ≤ S'.1 := by
  have hy : okY (0, X) := ⟨(show (0 : Nat) < 6 by omega), hX⟩
  have h63 := hz.le ok
  rcases nmb_cases ok hy with ⟨k, a1, a2, a3⟩ | ⟨a1, a2, a3, a4⟩ | ⟨_, a2, _⟩
  · exact ⟨k, S, a3, ok, hz, by omega, Nat.le_refl _⟩
  · refine ⟨S.1, addK S (0, X), a3, a4, fun k hk => ?_, a2, Nat.le_succ _⟩
    have hk : k < S.1 + 1 := hk
    show ((if k = S.1 then ((0 : Nat), X) else S.2 k).1 = 0) ∧ (if k = S.1 then ((0 : Nat), X) else S.2 k).2 ≠ 0
    by_cases q : k = S.1
    · rw [if_pos q]; exact ⟨rfl, h0⟩
    · rw [if_neg q]; exact hz k (by omega)
  · omega
theorem cdk0 {X : Int32} (hX : lon 6 X) : nI (cdk (0, X)) = X := by
  unfold cdk
  rw [show 64 * (0, X).1 + nz (0, X).2 = nz X by show 64 * 0 + nz X = nz X; omega]
  exact (nz_e hX).symm
theorem e_bitOfSet (hK : stK R o) (hA : isA I 2 3 A) {S : am_Kt} {tg : Nat → Int64} {ini : Int64} (h : KC I L o 0 A (S, tg) ini) (ok : okT S) (hz : SZ S) {X : Int32} (hX : lon 6 X) (h0 : X ≠ 0) :
    ∃ I' L' i S', bfK I L o I' L' ∧ nmb S (0, X) = some (i, S') ∧ pX3_bitOfSet R I L o 2 X = some (bit1 i, I', L') ∧ KC I' L' o 0 A (S', tg) ini := by
  have hy : okY (0, X) := ⟨(show (0 : Nat) < 6 by omega), hX⟩
  have ef : (if (X &&& A.2.2.1) = 0 then (0 : Int32) else (1 : Int32)) = bI (fkey 0 A (0, X)) := by
    unfold fkey
    rw [if_pos (show (0 : Nat) = 0 from rfl)]
    by_cases q : X &&& A.2.2.1 = 0
    · rw [if_pos q, decide_eq_true q]; rfl
    · rw [if_neg q, decide_eq_false q]; rfl
  obtain ⟨I', L', f, g⟩ := e_bitOf hK h ok hy ef
  rw [cdk0 hX] at g
  obtain ⟨i0, S0, n0, _⟩ := nmb_set ok hz hX h0
  rcases g with ⟨i, S', g1, g2, g3⟩ | ⟨g1, _⟩
  · refine ⟨I', L', i, S', f, g1, ?_, g3⟩
    unfold pX3_bitOfSet
    rw [hA.2.2.1, am_let_e, g2, am_bd]
  · rw [n0] at g1; cases g1
def ZB (B : am_Bd) (w : Nat) : Prop := ∀ x, w ≤ x → B.2 x = 0
theorem e_ms43 (hR : okC R) (hK : stK R o) (hw : aw A) {ini : Int64} {r : Nat} (j : am_I → am_L → Option (Int32 × am_I × am_L)) : ∀ (k u : Nat) (B : am_Bd) (I : am_I) (L : am_L), k ≤ 3 → k < u → okT B.1 → SZ B.1 → ZB B (3 * r + (3 - k)) → r < B.1.1 → isA I 2 3 A → tbK I A → KC I L o 0 A B ini →
    ∃ I' L' B', bfK I L o I' L' ∧ ltb 0 A r k B = some B' ∧ lX3_makeSubsets_43 R o 2 16 (nI r) j u (nI (3 - k)) I L = j I' L' ∧ okT B'.1 ∧ SZ B'.1 ∧ ZB B' (3 * r + 3) ∧ B.1.1 ≤ B'.1.1 ∧ KC I' L' o 0 A B' ini := by
  intro k
  induction k with
  | zero =>
    intro u B I L _ hu ok hz hb hr hA hT h
    obtain ⟨u, rfl⟩ : ∃ g, u = g + 1 := ⟨u - 1, by omega⟩
    refine ⟨I, L, B, bfK.rf I L o, rfl, ?_, ok, hz, hb, Nat.le_refl _, h⟩
    show sX3_makeSubsets_43 R o 2 16 (nI r) j (lX3_makeSubsets_43 R o 2 16 (nI r) j u) (nI 3) I L = _
    unfold sX3_makeSubsets_43
    rw [if_pos yg3]
  | succ k ih =>
    intro u B I L hk hu ok hz hb hr hA hT h
    obtain ⟨u, rfl⟩ : ∃ g, u = g + 1 := ⟨u - 1, by omega⟩
    have h64 := ok.2.1
    have e0 : 3 - (k + 1) = 2 - k := by omega
    have e1 : 2 - k + 1 = 3 - k := by omega
    obtain ⟨X, hX⟩ : ∃ X, X = (B.1.2 r).2 := ⟨_, rfl⟩
    have oy := ok.2.2 r hr
    have lX : lon 6 X := by rw [hX]; exact oy.2
    have hcode : I (o + 2) r = X := by
      rw [h.2.1 r hr, show B.1.2 r = (0, X) from Prod.ext (hz r hr).1 hX.symm, cdk0 lX]
    have eo : pX6_reachedOnce R I 16 X (nI (2 - k)) = some (stp A X (2 - k)) := by
      have := e_once (o := 16) (R := R) (J := I) (A := A) (by rw [hR.r16_0, hR.r16_1]; exact hT) hw (nz_lt X) (show 2 - k < 3 by omega)
      rw [← nz_e lX] at this
      exact this
    have hp : ltb 0 A r (k + 1) B = Option.bind (oneK 0 A (B.1.2 r) (2 - k) B.1) (fun p => ltb 0 A r k (p.2, updT B.2 (3 * r + (2 - k)) p.1)) := rfl
    have ho : oneK 0 A (B.1.2 r) (2 - k) B.1 = (if stp A X (2 - k) = 0 then some (0, B.1) else Option.bind (nmb B.1 (0, stp A X (2 - k))) (fun p => some (bit1 p.1, p.2))) := by rw [hX]; rfl
    have ex : nI r * (3 : Int32) + nI (2 - k) = nI (3 * r + (2 - k)) := by rw [show (3 : Int32) = nI 3 from rfl, pk_mul, nI_add, Nat.mul_comm]
    have hs : lX3_makeSubsets_43 R o 2 16 (nI r) j (u + 1) (nI (3 - (k + 1))) I L = (if stp A X (2 - k) = 0 then lX3_makeSubsets_43 R o 2 16 (nI r) j u (nI (3 - k)) I L else Option.bind (pX3_bitOfSet R I L o 2 (stp A X (2 - k))) (fun r32 => lX3_makeSubsets_43 R o 2 16 (nI r) j u (nI (3 - k)) r32.2.1 (am_upL r32.2.2 (o + 1) (3 * r + (2 - k)) r32.1))) := by
      show sX3_makeSubsets_43 R o 2 16 (nI r) j (lX3_makeSubsets_43 R o 2 16 (nI r) j u) (nI (3 - (k + 1))) I L = _
      unfold sX3_makeSubsets_43
      rw [e0, if_neg (ng3 (by omega)), inb (show r < 64 by omega) (by omega), am_ck_true, hK.2.1, nIcl (show r < 1000000 by omega), hcode, eo, am_bd, am_jn_e, ex, inb (show 3 * r + (2 - k) < 192 by omega) (by omega), nI_1, e1, hK.1, nIcl (show 3 * r + (2 - k) < 1000000 by omega)]
      rfl
    by_cases q : stp A X (2 - k) = 0
    · have hu0 : updT B.2 (3 * r + (2 - k)) 0 = B.2 := funext fun x => by
        unfold updT
        by_cases g : x = 3 * r + (2 - k)
        · rw [if_pos g]; exact (hb x (by omega)).symm
        · rw [if_neg g]
      obtain ⟨I2, L2, B', g1, g2, g3, g4, g5, g6, g7, g8⟩ := ih u B I L (by omega) (by omega) ok hz (fun x hx => hb x (by omega)) hr hA hT h
      refine ⟨I2, L2, B', g1, ?_, by rw [hs, if_pos q]; exact g3, g4, g5, g6, g7, g8⟩
      rw [hp, ho, if_pos q, am_bd]
      dsimp only
      rw [hu0]
      exact g2
    · obtain ⟨I1, L1, i, S1, f1, n1, n2, n3⟩ := e_bitOfSet hK hA h ok hz (lon_st hw X (2 - k)) q
      obtain ⟨i', S', n1', ok1, hz1, _, hle⟩ := nmb_set ok hz (lon_st hw X (2 - k)) q
      rw [n1] at n1'
      cases n1'
      have f1' : bfK I L o I1 (am_upL L1 (o + 1) (3 * r + (2 - k)) (bit1 i)) := fun x hx => ⟨(f1 x hx).1, by rw [am_upL_n (by omega)]; exact (f1 x hx).2⟩
      obtain ⟨I2, L2, B', g1, g2, g3, g4, g5, g6, g7, g8⟩ := ih u (S1, updT B.2 (3 * r + (2 - k)) (bit1 i)) I1 (am_upL L1 (o + 1) (3 * r + (2 - k)) (bit1 i)) (by omega) (by omega) ok1 hz1 (fun x hx => (if_neg (by omega)).trans (hb x (by omega))) (Nat.lt_of_lt_of_le hr hle) (hA.bf f1' hK.2.2.2.1) (hT.bf f1' hK.2.2.2.1) ⟨n3.1, n3.2.1, n3.2.2.1, n3.2.2.2.1, by rw [am_upL_n (by omega)]; exact n3.2.2.2.2.1, fun x hx => by
        show _ = updT B.2 (3 * r + (2 - k)) (bit1 i) x
        unfold updT
        by_cases g : x = 3 * r + (2 - k)
        · rw [if_pos g, g, am_upL_s]
        · rw [if_neg g, am_upL_o g]
          exact n3.2.2.2.2.2.1 x hx, by rw [am_upL_n (by omega)]; exact n3.2.2.2.2.2.2⟩
      refine ⟨I2, L2, B', f1'.tr g1, ?_, by rw [hs, if_neg q, n2, am_bd]; exact g3, g4, g5, g6, Nat.le_trans hle g7, g8⟩
      rw [hp, ho, if_neg q, n1, am_bd, am_bd]
      exact g2
theorem e_ms26 (hR : okC R) (hK : stK R o) (hw : aw A) {ini : Int64} : ∀ (k r u : Nat) (B : am_Bd) (I : am_I) (L : am_L), k + r = 65 → k < u → okT B.1 → SZ B.1 → ZB B (3 * r) → r ≤ B.1.1 → isA I 2 3 A → tbK I A → KC I L o 0 A B ini →
    ∃ I' L' B', bfK I L o I' L' ∧ bld 0 A k r B = some B' ∧ lX3_makeSubsets_26 R o 2 16 u (nI r) I L = some (1, I', L') ∧ KC I' L' o 0 A B' ini := by
  intro k
  induction k with
  | zero =>
    intro r u B I L hk hu ok hz hb hr hA hT h
    have := ok.2.1
    omega
  | succ k ih =>
    intro r u B I L hk hu ok hz hb hr hA hT h
    obtain ⟨u, rfl⟩ : ∃ g, u = g + 1 := ⟨u - 1, by omega⟩
    have h64 := ok.2.1
    have hp : bld 0 A (k + 1) r B = (if B.1.1 ≤ r then some B else Option.bind (ltb 0 A r 3 B) (fun B' => bld 0 A k (r + 1) B')) := rfl
    have hs : lX3_makeSubsets_26 R o 2 16 (u + 1) (nI r) I L = sX3_makeSubsets_26 R o 2 16 (lX3_makeSubsets_26 R o 2 16 u) (nI r) I L := rfl
    rw [hp]
    by_cases q : B.1.1 ≤ r
    · rw [if_pos q]
      refine ⟨I, L, B, bfK.rf I L o, rfl, ?_, h⟩
      rw [hs]
      unfold sX3_makeSubsets_26
      rw [h.1, if_pos (nI_le q (by omega))]
    · rw [if_neg q]
      have hr' : r < B.1.1 := by omega
      obtain ⟨I1, L1, B1, f1, n1, n2, n3, n4, n5, n6, n7⟩ := e_ms43 (A := A) hR hK hw (ini := ini) (r := r) (fun (J15 : am_I) (J16 : am_L) => lX3_makeSubsets_26 R o 2 16 u (nI r + (1 : Int32)) J15 J16) 3 am_fu B I L (Nat.le_refl _) (by have := am_fu_ge; omega) ok hz hb hr' hA hT h
      have hstep : lX3_makeSubsets_26 R o 2 16 (u + 1) (nI r) I L = lX3_makeSubsets_43 R o 2 16 (nI r) (fun (J15 : am_I) (J16 : am_L) => lX3_makeSubsets_26 R o 2 16 u (nI r + (1 : Int32)) J15 J16) am_fu (nI (3 - 3)) I L := by
        rw [hs]
        unfold sX3_makeSubsets_26
        rw [h.1, if_neg (nIge hr' (by omega)), if_neg (ng64 (by omega)), am_jn_e]
        rfl
      rw [hstep, n2, n1, am_bd, nI_1]
      obtain ⟨I2, L2, B2, f2, g2⟩ := ih (r + 1) u B1 I1 L1 (by omega) (by omega) n3 n4 (by rw [show 3 * (r + 1) = 3 * r + 3 by omega]; exact n5) (by omega) (hA.bf f1 hK.2.2.2.1) (hT.bf f1 hK.2.2.2.1) n7
      exact ⟨I2, L2, B2, f1.tr f2, g2⟩
theorem e_makeSubsets (hR : okC R) (hK : stK R o) (hw : aw A) (hA : isA I 2 3 A) (hT : tbK I A) : ∃ I' L' ini S B', bfK I L o I' L' ∧ st0K 0 A = some (ini, S) ∧ bld 0 A 65 0 (S, fun _ => 0) = some B' ∧ pX3_makeSubsets R I L o 2 16 = some (1, I', L') ∧ KC I' L' o 0 A B' ini := by
  obtain ⟨I1, L1, e1, f1, k1⟩ := e_makeEmpty3 (A := A) (I := I) (L := L) hK (c := 0)
  have hA1 := hA.bf f1 hK.2.2.2.1
  have hT1 := hT.bf f1 hK.2.2.2.1
  have zno : SZ noK := fun k hk => absurd hk (Nat.not_lt_zero k)
  by_cases q : A.2.1 = 0
  · obtain ⟨I2, L2, B', f2, g1, g2, g3⟩ := e_ms26 hR hK hw 65 0 am_fu (noK, fun _ => 0) I1 L1 (by omega) (by have := am_fu_ge; omega) okT_no zno (fun _ _ => rfl) (Nat.zero_le _) hA1 hT1 k1
    refine ⟨I2, L2, 0, noK, B', f1.tr f2, by unfold st0K; rw [if_pos rfl, if_pos q], g1, ?_, g3⟩
    unfold pX3_makeSubsets
    rw [e1, am_bd, am_jn_e]
    dsimp only
    rw [if_pos (show I1 2 1 = 0 by rw [hA1.2.1]; exact q)]
    rw [nI_0] at g2
    exact g2
  · obtain ⟨I2, L2, i, S2, f2, n1, n2, n3⟩ := e_bitOfSet hK hA1 k1 okT_no zno (lon_ini hw) q
    have hn : nmb noK (0, A.2.1) = some (0, addK noK (0, A.2.1)) := nmb_new (fun k hk => absurd hk (Nat.not_lt_zero k)) (by decide)
    obtain ⟨i', S', n1', ok1, hz1, _, hle⟩ := nmb_set okT_no zno (lon_ini hw) q
    rw [n1] at n1'
    cases n1'
    rw [hn] at n1
    cases n1
    have f2' : bfK I1 L1 o I2 (am_upL L2 o 1 (bit1 0)) := fun x hx => ⟨(f2 x hx).1, by rw [am_upL_n (by omega)]; exact (f2 x hx).2⟩
    obtain ⟨I3, L3, B', f3, g1, g2, g3⟩ := e_ms26 (ini := bit1 0) hR hK hw 65 0 am_fu (addK noK (0, A.2.1), fun _ => 0) I2 (am_upL L2 o 1 (bit1 0)) (by omega) (by have := am_fu_ge; omega) ok1 hz1 (fun _ _ => rfl) (Nat.zero_le _) (hA1.bf f2' hK.2.2.2.1) (hT1.bf f2' hK.2.2.2.1) ⟨n3.1, n3.2.1, n3.2.2.1, n3.2.2.2.1, by rw [am_upL_o (by decide)]; exact n3.2.2.2.2.1, fun x hx => by rw [am_upL_n (by omega)]; exact n3.2.2.2.2.2.1 x hx, am_upL_s⟩
    refine ⟨I3, L3, bit1 0, addK noK (0, A.2.1), B', (f1.tr f2').tr f3, by unfold st0K; rw [if_pos rfl, if_neg q], g1, ?_, g3⟩
    unfold pX3_makeSubsets
    rw [e1, am_bd, am_jn_e]
    dsimp only
    rw [if_neg (show ¬ I1 2 1 = 0 by rw [hA1.2.1]; exact q), hA1.2.1, n2, am_bd, am_let_e]
    rw [nI_0] at g2
    exact g2
end
