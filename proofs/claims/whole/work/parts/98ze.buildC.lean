/-! the class: constructions -/
section
variable {R : am_R} {A : am_Au} {I : am_I} {L : am_L} {o : Nat}
def cdk (y : am_Ky) : Nat := 64 * y.1 + nz y.2
theorem cdk_lt {y : am_Ky} (h : okY y) : cdk y < 384 := by
  have := nz_lt y.2
  have := h.1
  unfold cdk
  omega
theorem cdk_inj {y z : am_Ky} (hy : okY y) (hz : okY z) (e : cdk y = cdk z) : y = z := by
  have h1 := nz_lt y.2
  have h2 := nz_lt z.2
  unfold cdk at e
  have e1 : y.1 = z.1 := by omega
  have e2 : nz y.2 = nz z.2 := by omega
  have e3 : y.2 = z.2 := by rw [nz_e hy.2, nz_e hz.2, e2]
  exact Prod.ext e1 e3
def stK (R : am_R) (o : Nat) : Prop := R o 3 = o + 1 ∧ R o 4 = o + 2 ∧ R o 5 = o + 3 ∧ 33 ≤ o ∧ o ≤ 37
def bfK (I : am_I) (L : am_L) (o : Nat) (I' : am_I) (L' : am_L) : Prop := ∀ b, (b < o ∨ o + 4 ≤ b) → I' b = I b ∧ L' b = L b
theorem bfK.rf (I : am_I) (L : am_L) (o : Nat) : bfK I L o I L := fun _ _ => ⟨rfl, rfl⟩
theorem bfK.tr {I1 I2 : am_I} {L1 L2 : am_L} (h : bfK I L o I1 L1) (g : bfK I1 L1 o I2 L2) : bfK I L o I2 L2 := fun b hb => ⟨(g b hb).1.trans (h b hb).1, (g b hb).2.trans (h b hb).2⟩
def KC (I : am_I) (L : am_L) (o c : Nat) (A : am_Au) (B : am_Bd) (ini : Int64) : Prop :=
  I o 0 = nI B.1.1 ∧ (∀ k, k < B.1.1 → I (o + 2) k = nI (cdk (B.1.2 k))) ∧ (∀ k, k < B.1.1 → I (o + 3) (cdk (B.1.2 k)) = nI k) ∧ (∀ x, x < 384 → (∀ k, k < B.1.1 → cdk (B.1.2 k) ≠ x) → I (o + 3) x = -1) ∧ L o 2 = fns c A B.1 ∧ (∀ x, x < 192 → L (o + 1) x = B.2 x) ∧ L o 1 = ini
theorem fns_add {c : Nat} {S : am_Kt} {y : am_Ky} : fns c A (addK S y) = fns c A S ||| (if fkey c A y = true then bit1 S.1 else 0) := by
  have e : am_to (fun k v => v ||| (if fkey c A ((addK S y).2 k) = true then bit1 k else 0)) S.1 0 = fns c A S := am_to_congr S.1 0 (fun i v hi => by
    have : (addK S y).2 i = S.2 i := if_neg (by omega)
    rw [this])
  have e2 : (addK S y).2 S.1 = y := if_pos rfl
  show am_to (fun k v => v ||| (if fkey c A ((addK S y).2 k) = true then bit1 k else 0)) S.1 0 ||| (if fkey c A ((addK S y).2 S.1) = true then bit1 S.1 else 0) = _
  rw [e, e2]
theorem e_bitOf (hK : stK R o) {c : Nat} {S : am_Kt} {tg : Nat → Int64} {ini : Int64} (h : KC I L o c A (S, tg) ini) (ok : okT S) {y : am_Ky} (hy : okY y) {x2 : Int32} (hx : x2 = bI (fkey c A y)) :
    ∃ I' L', bfK I L o I' L' ∧ ((∃ i S', nmb S y = some (i, S') ∧ pX3_bitOf R I L o (nI (cdk y)) x2 = some (bit1 i, I', L') ∧ KC I' L' o c A (S', tg) ini) ∨ (nmb S y = none ∧ pX3_bitOf R I L o (nI (cdk y)) x2 = some (0, I', L'))) := by
  have hc := cdk_lt hy
  obtain ⟨k0, k1, k2, k3, k4, k5, k6⟩ := h
  dsimp only at k0 k1 k2 k3 k4 k5
  obtain ⟨o3, o4, o5, ho1, ho2⟩ := hK
  unfold pX3_bitOf
  rw [if_neg (nI_pos (by omega)), if_pos (show nI (cdk y) < (384 : Int32) from nI_lt0 (b := 384) hc (by omega)), inb hc (by omega), am_ck_true, am_jn_e, o5, nIcl (show cdk y < 1000000 by omega)]
  rcases nmb_cases ok hy with ⟨k, a1, a2, a3⟩ | ⟨a1, a2, a3, a4⟩ | ⟨a1, a2, a3⟩
  · have hk : I (o + 3) (cdk y) = nI k := by rw [← a2]; exact k2 k a1
    have h64 := ok.2.1
    refine ⟨I, L, bfK.rf I L o, Or.inl ⟨k, S, a3, ?_, k0, k1, k2, k3, k4, k5, k6⟩⟩
    rw [if_neg (show ¬ I (o + 3) (cdk y) = (-1 : Int32) by rw [hk]; exact nI_m1 (by omega))]
    dsimp only
    rw [am_ck_true, hk]
    rfl
  · have hm : I (o + 3) (cdk y) = -1 := k3 (cdk y) hc (fun k hk e => a1 k hk (cdk_inj (ok.2.2 k hk) hy e))
    have hA : ∀ k, k < S.1 → (addK S y).2 k = S.2 k := fun k hk => if_neg (by omega)
    have hA2 : (addK S y).2 S.1 = y := if_pos rfl
    refine ⟨am_upI (am_upI (am_upI I (o + 3) (cdk y) (nI S.1)) (o + 2) S.1 (nI (cdk y))) o 0 (nI (S.1 + 1)), am_upL L o 2 (L o 2 ||| (if fkey c A y = true then bit1 S.1 else 0)), fun b hb => ⟨by rw [am_upI_ne (by omega), am_upI_ne (by omega), am_upI_ne (by omega)], am_upL_n (by omega)⟩, Or.inl ⟨S.1, addK S y, a3, ?_, ?_⟩⟩
    · rw [if_pos hm, k0, if_pos (show nI S.1 < (64 : Int32) from nI_lt0 (b := 64) a2 (by omega)), am_ck_true, am_let_e, am_upI_ne (show o ≠ o + 3 by omega), k0, inb a2 (by omega), am_ck_true, am_let_e, am_let_e, am_let_e, am_let_e, o4, nIcl (show S.1 < 1000000 by omega), am_upI_ne (show o ≠ o + 2 by omega), am_upI_ne (show o ≠ o + 3 by omega), k0, nI_1]
      dsimp only
      rw [am_ck_true, am_upI_ne (show o + 3 ≠ o by omega), am_upI_ne (show o + 3 ≠ o + 2 by omega), am_upI_s]
      have ev : (if x2 = 0 then (0 : Int64) else ((1 : Int64) <<< (Int32.toInt64 (nI S.1) &&& 63))) = (if fkey c A y = true then bit1 S.1 else 0) := by
        rw [hx]
        cases fkey c A y <;> rfl
      rw [ev]
      rfl
    · refine ⟨am_upI_s, fun k hk => ?_, fun k hk => ?_, fun x hx' hn => ?_, ?_, fun x hx' => ?_, ?_⟩
      · have hk : k < S.1 + 1 := hk
        rw [am_upI_ne (show o + 2 ≠ o by omega)]
        by_cases q : k = S.1
        · rw [q, am_upI_s]
          show _ = nI (cdk ((addK S y).2 S.1))
          rw [hA2]
        · rw [am_upI_o q, am_upI_ne (show o + 2 ≠ o + 3 by omega), k1 k (by omega)]
          show _ = nI (cdk ((addK S y).2 k))
          rw [hA k (by omega)]
      · have hk : k < S.1 + 1 := hk
        rw [am_upI_ne (show o + 3 ≠ o by omega), am_upI_ne (show o + 3 ≠ o + 2 by omega)]
        show am_upI I (o + 3) (cdk y) (nI S.1) (o + 3) (cdk ((addK S y).2 k)) = nI k
        by_cases q : k = S.1
        · rw [q, hA2, am_upI_s]
        · rw [hA k (by omega), am_upI_o (fun e => a1 k (by omega) (cdk_inj (ok.2.2 k (by omega)) hy e)), k2 k (by omega)]
      · rw [am_upI_ne (show o + 3 ≠ o by omega), am_upI_ne (show o + 3 ≠ o + 2 by omega)]
        have h1 : x ≠ cdk y := fun e => hn S.1 (Nat.lt_succ_self _) (by
          show cdk ((addK S y).2 S.1) = x
          rw [hA2]; exact e.symm)
        rw [am_upI_o h1]
        refine k3 x hx' (fun k hk e => hn k (Nat.lt_succ_of_lt hk) ?_)
        show cdk ((addK S y).2 k) = x
        rw [hA k hk]; exact e
      · show am_upL L o 2 _ o 2 = fns c A (addK S y)
        rw [am_upL_s, k4, fns_add]
      · rw [am_upL_n (show o + 1 ≠ o by omega)]; exact k5 x hx'
      · rw [am_upL_o (show (1 : Nat) ≠ 2 by decide)]; exact k6
  · have hm : I (o + 3) (cdk y) = -1 := k3 (cdk y) hc (fun k hk e => a1 k hk (cdk_inj (ok.2.2 k hk) hy e))
    refine ⟨I, L, bfK.rf I L o, Or.inr ⟨a3, ?_⟩⟩
    rw [if_pos hm, k0, if_neg (show ¬ nI S.1 < (64 : Int32) by rw [a2]; decide)]
theorem e_bitOfPair (hK : stK R o) (hA : isA I 2 3 A) {S : am_Kt} {tg : Nat → Int64} {ini : Int64} (h : KC I L o 1 A (S, tg) ini) (ok : okT S) {y : am_Ky} (hy : okY y) :
    ∃ I' L', bfK I L o I' L' ∧ ((∃ i S', nmb S y = some (i, S') ∧ pX3_bitOfPair R I L o 2 (nI y.1) y.2 = some (bit1 i, I', L') ∧ KC I' L' o 1 A (S', tg) ini) ∨ (nmb S y = none ∧ pX3_bitOfPair R I L o 2 (nI y.1) y.2 = some (0, I', L'))) := by
  have h1 := hy.1
  have ec : nI y.1 * (64 : Int32) + y.2 = nI (cdk y) := by
    have e2 : nI y.1 * (64 : Int32) + y.2 = nI y.1 * (64 : Int32) + nI (nz y.2) := by rw [← nz_e hy.2]
    rw [e2, show (64 : Int32) = nI 64 from rfl, pk_mul, nI_add]
    unfold cdk
    rw [Nat.mul_comm]
  have ef : (if bI (bt A.2.2.1 y.1) = 0 then (0 : Int32) else (if (y.2 &&& A.2.2.1) = 0 then (1 : Int32) else (0 : Int32))) = bI (fkey 1 A y) := by
    unfold fkey
    rw [if_neg (show ¬ (1 : Nat) = 0 by decide)]
    by_cases q : y.2 &&& A.2.2.1 = 0
    · rw [if_pos q, decide_eq_true q]
      cases bt A.2.2.1 y.1 <;> rfl
    · rw [if_neg q, decide_eq_false q]
      cases bt A.2.2.1 y.1 <;> rfl
  obtain ⟨I', L', f, g⟩ := e_bitOf hK h ok hy ef
  refine ⟨I', L', f, ?_⟩
  unfold pX3_bitOfPair
  rw [hA.2.2.1, e_cb _ (show y.1 < 32 by omega), am_bd, am_let_e, ec]
  rcases g with ⟨i, S', g1, g2, g3⟩ | ⟨g1, g2⟩
  · exact Or.inl ⟨i, S', g1, by rw [g2, am_bd], g3⟩
  · exact Or.inr ⟨g1, by rw [g2, am_bd]⟩
theorem isA.bf (hA : isA I 2 3 A) {I' : am_I} {L' : am_L} (f : bfK I L o I' L') (ho : 33 ≤ o) : isA I' 2 3 A := hA.kept (f 2 (Or.inl (by omega))).1 (f 3 (Or.inl (by omega))).1
theorem nmb_ok {S S' : am_Kt} {y : am_Ky} {i : Nat} (ok : okT S) (hy : okY y) (e : nmb S y = some (i, S')) : okT S' ∧ i < 64 := by
  obtain ⟨_, a, _, b, _⟩ := (covK.no S).nmb ok hy e
  exact ⟨a, b⟩
theorem e_ap54 (hK : stK R o) {to l : Int32} (hto : lon 6 to) (hl : lon 6 l) {tg : Nat → Int64} {ini : Int64} (x3 x4 : Int32) (j : Int64 → am_I → am_L → Option (Int32 × am_I × am_L)) : ∀ (k u : Nat) (b : Int64) (S : am_Kt) (I : am_I) (L : am_L), k ≤ 6 → k < u → okT S → isA I 2 3 A → KC I L o 1 A (S, tg) ini →
    ∃ I' L', bfK I L o I' L' ∧ ((∃ b' S', prs to l k b S = some (b', S') ∧ lX3_addPairsAfter_54 R o 2 x3 x4 to l j u b (nI (6 - k)) I L = j b' I' L' ∧ okT S' ∧ KC I' L' o 1 A (S', tg) ini) ∨ (prs to l k b S = none ∧ lX3_addPairsAfter_54 R o 2 x3 x4 to l j u b (nI (6 - k)) I L = some (0, I', L'))) := by
  intro k
  induction k with
  | zero =>
    intro u b S I L _ hu ok hA h
    obtain ⟨u, rfl⟩ : ∃ g, u = g + 1 := ⟨u - 1, by omega⟩
    refine ⟨I, L, bfK.rf I L o, Or.inl ⟨b, S, rfl, ?_, ok, h⟩⟩
    show sX3_addPairsAfter_54 R o 2 x3 x4 to l j (lX3_addPairsAfter_54 R o 2 x3 x4 to l j u) b (nI 6) I L = _
    unfold sX3_addPairsAfter_54
    rw [if_pos yg6]
  | succ k ih =>
    intro u b S I L hk hu ok hA h
    obtain ⟨u, rfl⟩ : ∃ g, u = g + 1 := ⟨u - 1, by omega⟩
    have e0 : 6 - (k + 1) = 5 - k := by omega
    have e1 : 5 - k + 1 = 6 - k := by omega
    have hp : prs to l (k + 1) b S = (if bt to (5 - k) = true then Option.bind (nmb S (5 - k, l ||| blw to (5 - k))) (fun p => prs to l k (b ||| bit1 p.1) p.2) else prs to l k b S) := rfl
    have hs : lX3_addPairsAfter_54 R o 2 x3 x4 to l j (u + 1) b (nI (6 - (k + 1))) I L = sX3_addPairsAfter_54 R o 2 x3 x4 to l j (lX3_addPairsAfter_54 R o 2 x3 x4 to l j u) b (nI (5 - k)) I L := by rw [e0]; rfl
    by_cases q : bt to (5 - k) = true
    · have hy : okY (5 - k, l ||| blw to (5 - k)) := ⟨by show 5 - k < 6; omega, lon_or hl (lon_blw hto)⟩
      obtain ⟨I1, L1, f1, g1⟩ := e_bitOfPair hK hA h ok hy
      have hstep : ∀ {z : Int64}, pX3_bitOfPair R I L o 2 (nI (5 - k)) (l ||| blw to (5 - k)) = some (z, I1, L1) → lX3_addPairsAfter_54 R o 2 x3 x4 to l j (u + 1) b (nI (6 - (k + 1))) I L = (if (lg_cmp z (0 : Int64)) = 0 then some ((0 : Int32), I1, L1) else lX3_addPairsAfter_54 R o 2 x3 x4 to l j u (b ||| z) (nI (6 - k)) I1 L1) := fun {z} hz => by
        rw [hs]
        unfold sX3_addPairsAfter_54
        rw [if_neg (ng6 (by omega)), e_cb _ (show 5 - k < 32 by omega), am_bd, q, am_jn_e, if_neg (show ¬ bI true = 0 by decide)]
        unfold pX3_below
        rw [am_bd]
        have hz' : pX3_bitOfPair R I L o 2 (nI (5 - k)) (l ||| (to &&& (((1 : Int32) <<< (nI (5 - k) &&& 31)) - (1 : Int32)))) = some (z, I1, L1) := hz
        rw [hz', am_bd, am_let_e, nI_1, e1]
      rw [hp, if_pos q]
      rcases g1 with ⟨i, S1, n1, n2, n3⟩ | ⟨n1, n2⟩
      · obtain ⟨ok1, hi⟩ := nmb_ok ok hy n1
        have n2 : pX3_bitOfPair R I L o 2 (nI (5 - k)) (l ||| blw to (5 - k)) = some (bit1 i, I1, L1) := n2
        rw [hstep n2, if_neg (bit1_ne hi), n1, am_bd]
        obtain ⟨I2, L2, f2, g2⟩ := ih u (b ||| bit1 i) S1 I1 L1 (by omega) (by omega) ok1 (hA.bf f1 hK.2.2.2.1) n3
        exact ⟨I2, L2, f1.tr f2, g2⟩
      · have n2 : pX3_bitOfPair R I L o 2 (nI (5 - k)) (l ||| blw to (5 - k)) = some (0, I1, L1) := n2
        rw [hstep n2, if_pos (lg_cmp0.mpr rfl), n1]
        exact ⟨I1, L1, f1, Or.inr ⟨rfl, rfl⟩⟩
    · rw [hp, if_neg q]
      have hstep : lX3_addPairsAfter_54 R o 2 x3 x4 to l j (u + 1) b (nI (6 - (k + 1))) I L = lX3_addPairsAfter_54 R o 2 x3 x4 to l j u b (nI (6 - k)) I L := by
        rw [hs]
        unfold sX3_addPairsAfter_54
        rw [if_neg (ng6 (by omega)), e_cb _ (show 5 - k < 32 by omega), am_bd, Bool.eq_false_iff.mpr q, am_jn_e, if_pos (show bI false = 0 from rfl), nI_1, e1]
      rw [hstep]
      exact ih u b S I L (by omega) (by omega) ok hA h
/-- tables of steps as loaded -/
def tbK (I : am_I) (A : am_Au) : Prop := ∀ a, a < 3 → tab I 17 18 A a 64
theorem tbK.bf (h : tbK I A) {I' : am_I} {L' : am_L} (f : bfK I L o I' L') (ho : 33 ≤ o) : tbK I' A := fun a ha X hX => by
  rw [(f 17 (Or.inl (by omega))).1, (f 18 (Or.inl (by omega))).1]
  exact h a ha X hX
theorem e_addPairs (hR : okC R) (hK : stK R o) (hw : aw A) (hA : isA I 2 3 A) (hT : tbK I A) {B : am_Bd} {ini : Int64} (ok : okT B.1) (h : KC I L o 1 A B ini) {r a : Nat} (hr : r < B.1.1) (ha : a < 3) :
    ∃ I' L', bfK I L o I' L' ∧ ((∃ b S', oneK 1 A (B.1.2 r) a B.1 = some (b, S') ∧ pX3_addPairsAfter R I L o 2 16 (nI r) (nI a) = some (1, I', L') ∧ okT S' ∧ KC I' L' o 1 A (S', updT B.2 (3 * r + a) b) ini) ∨ (oneK 1 A (B.1.2 r) a B.1 = none ∧ pX3_addPairsAfter R I L o 2 16 (nI r) (nI a) = some (0, I', L'))) := by
  have h64 := ok.2.1
  obtain ⟨y, hy⟩ : ∃ y, y = B.1.2 r := ⟨_, rfl⟩
  have oy : okY y := by rw [hy]; exact ok.2.2 r hr
  have hyl := nz_lt y.2
  have hy1 := oy.1
  have hA3 : isA I 2 (R 2 3) A := by rw [hR.r2_3]; exact hA
  have ecode : I (o + 2) r = nI (cdk y) := by rw [h.2.1 r hr, ← hy]
  have ed : nI (cdk y) / (64 : Int32) = nI y.1 := by
    rw [show (64 : Int32) = nI 64 from rfl, pk_div (by have := cdk_lt oy; omega) (by omega) (by omega)]
    congr 1
    unfold cdk
    omega
  have em : nI (cdk y) - nI y.1 * (64 : Int32) = nI (nz y.2) := by
    rw [show (64 : Int32) = nI 64 from rfl, pk_mul, pk_sub (by unfold cdk; omega)]
    congr 1
    unfold cdk
    omega
  have eo : pX6_reachedOnce R I 16 (nI (nz y.2)) (nI a) = some (stp A y.2 a) := (e_once (o := 16) (R := R) (J := I) (A := A) (by rw [hR.r16_0, hR.r16_1]; exact hT) hw hyl ha).trans (by rw [← nz_e oy.2])
  have ex : nI r * (3 : Int32) + nI a = nI (3 * r + a) := by rw [show (3 : Int32) = nI 3 from rfl, pk_mul, nI_add, Nat.mul_comm]
  obtain ⟨j5, hj5⟩ : ∃ j : Int64 → am_I → am_L → Option (Int32 × am_I × am_L), j = fun (v6 : Int64) (J7 : am_I) (J8 : am_L) => am_let (nI r * (3 : Int32) + nI a) (fun v9 => if v9 < 0 then (some ((1 : Int32), J7, J8)) else (if (192 : Int32) ≤ v9 then (some ((1 : Int32), J7, J8)) else (am_ck (am_inb v9 192) (am_let (am_upL J8 (R o 3) (Int32.toNatClampNeg v9) v6) (fun J14 => some ((1 : Int32), J7, J14)))))) := ⟨_, rfl⟩
  have hj : ∀ v J7 J8, j5 v J7 J8 = some (1, J7, am_upL J8 (o + 1) (3 * r + a) v) := fun v J7 J8 => by
    rw [hj5]
    dsimp only
    rw [ex, am_let_e, if_neg (nI_pos (by omega)), if_neg (ng192 (by omega)), inb (show 3 * r + a < 192 by omega) (by omega), am_ck_true, am_let_e, hK.1, nIcl (show 3 * r + a < 1000000 by omega)]
  obtain ⟨I1, L1, f1, g1⟩ := e_ap54 (A := A) (tg := B.2) (ini := ini) hK (lon_T6 hw a y.1) (lon_st hw y.2 a) (nI r) (nI a) j5 6 am_fu 0 B.1 I L (Nat.le_refl _) (by have := am_fu_ge; omega) ok hA h
  have hmain : pX3_addPairsAfter R I L o 2 16 (nI r) (nI a) = lX3_addPairsAfter_54 R o 2 (nI r) (nI a) (A.2.2.2 a y.1) (stp A y.2 a) j5 am_fu 0 (nI (6 - 6)) I L := by
    unfold pX3_addPairsAfter
    rw [am_jn_e, am_jn_e, if_neg (nI_pos (by omega)), if_neg (ng64 (by omega)), inb (show r < 64 by omega) (by omega), am_ck_true, hK.2.1, nIcl (show r < 1000000 by omega), ecode]
    dsimp only
    rw [ed, em, e_targetsOf hA3 hw y.1 a (by omega) (by omega), am_bd, eo, am_bd, am_jn_e, ← hj5]
    rfl
  have hone : oneK 1 A (B.1.2 r) a B.1 = prs (A.2.2.2 a y.1) (stp A y.2 a) 6 0 B.1 := by rw [← hy]; rfl
  rw [hmain, hone]
  rcases g1 with ⟨b, S1, n1, n2, n3, n4⟩ | ⟨n1, n2⟩
  · rw [n2, hj]
    refine ⟨I1, am_upL L1 (o + 1) (3 * r + a) b, fun x hx => ⟨(f1 x hx).1, by rw [am_upL_n (by omega)]; exact (f1 x hx).2⟩, Or.inl ⟨b, S1, n1, rfl, n3, n4.1, n4.2.1, n4.2.2.1, n4.2.2.2.1, by rw [am_upL_n (by omega)]; exact n4.2.2.2.2.1, fun x hx => ?_, by rw [am_upL_n (by omega)]; exact n4.2.2.2.2.2.2⟩⟩
    show _ = updT B.2 (3 * r + a) b x
    unfold updT
    by_cases q : x = 3 * r + a
    · rw [if_pos q, q, am_upL_s]
    · rw [if_neg q, am_upL_o q]
      exact n4.2.2.2.2.2.1 x hx
  · exact ⟨I1, L1, f1, Or.inr ⟨n1, n2⟩⟩
theorem e_ml73 (hR : okC R) (hK : stK R o) (hw : aw A) {ini : Int64} {r : Nat} (j : am_I → am_L → Option (Int32 × am_I × am_L)) : ∀ (k u : Nat) (B : am_Bd) (I : am_I) (L : am_L), k ≤ 3 → k < u → okT B.1 → r < B.1.1 → isA I 2 3 A → tbK I A → KC I L o 1 A B ini →
    ∃ I' L', bfK I L o I' L' ∧ ((∃ B', ltb 1 A r k B = some B' ∧ lX3_makeLeastPaths_73 R o 2 16 (nI r) j u (nI (3 - k)) I L = j I' L' ∧ okT B'.1 ∧ B.1.1 ≤ B'.1.1 ∧ KC I' L' o 1 A B' ini) ∨ (ltb 1 A r k B = none ∧ lX3_makeLeastPaths_73 R o 2 16 (nI r) j u (nI (3 - k)) I L = some (0, I', L'))) := by
  intro k
  induction k with
  | zero =>
    intro u B I L _ hu ok hr hA hT h
    obtain ⟨u, rfl⟩ : ∃ g, u = g + 1 := ⟨u - 1, by omega⟩
    refine ⟨I, L, bfK.rf I L o, Or.inl ⟨B, rfl, ?_, ok, Nat.le_refl _, h⟩⟩
    show sX3_makeLeastPaths_73 R o 2 16 (nI r) j (lX3_makeLeastPaths_73 R o 2 16 (nI r) j u) (nI 3) I L = _
    unfold sX3_makeLeastPaths_73
    rw [if_pos yg3]
  | succ k ih =>
    intro u B I L hk hu ok hr hA hT h
    obtain ⟨u, rfl⟩ : ∃ g, u = g + 1 := ⟨u - 1, by omega⟩
    have e0 : 3 - (k + 1) = 2 - k := by omega
    have hp : ltb 1 A r (k + 1) B = Option.bind (oneK 1 A (B.1.2 r) (2 - k) B.1) (fun p => ltb 1 A r k (p.2, updT B.2 (3 * r + (2 - k)) p.1)) := rfl
    have hs : ∀ {z : Int32} {I1 : am_I} {L1 : am_L}, pX3_addPairsAfter R I L o 2 16 (nI r) (nI (2 - k)) = some (z, I1, L1) → lX3_makeLeastPaths_73 R o 2 16 (nI r) j (u + 1) (nI (3 - (k + 1))) I L = (if z = 0 then some ((0 : Int32), I1, L1) else lX3_makeLeastPaths_73 R o 2 16 (nI r) j u (nI (3 - k)) I1 L1) := fun {z I1 L1} hz => by
      show sX3_makeLeastPaths_73 R o 2 16 (nI r) j (lX3_makeLeastPaths_73 R o 2 16 (nI r) j u) (nI (3 - (k + 1))) I L = _
      unfold sX3_makeLeastPaths_73
      rw [e0, if_neg (ng3 (by omega)), hz, am_bd, nI_1, show 2 - k + 1 = 3 - k by omega]
    obtain ⟨I1, L1, f1, g1⟩ := e_addPairs hR hK hw hA hT ok h hr (show 2 - k < 3 by omega)
    rw [hp]
    rcases g1 with ⟨b, S1, n1, n2, n3, n4⟩ | ⟨n1, n2⟩
    · rw [hs n2, n1, am_bd, if_neg (show ¬ (1 : Int32) = 0 by decide)]
      have hle := (oneK_spec hw ok n1).1.1
      obtain ⟨I2, L2, f2, g2⟩ := ih u (S1, updT B.2 (3 * r + (2 - k)) b) I1 L1 (by omega) (by omega) n3 (Nat.lt_of_lt_of_le hr hle) (hA.bf f1 hK.2.2.2.1) (hT.bf f1 hK.2.2.2.1) n4
      refine ⟨I2, L2, f1.tr f2, ?_⟩
      rcases g2 with ⟨B', m1, m2, m3, m4, m5⟩ | m
      · exact Or.inl ⟨B', m1, m2, m3, Nat.le_trans hle m4, m5⟩
      · exact Or.inr m
    · rw [hs n2, n1, if_pos rfl]
      exact ⟨I1, L1, f1, Or.inr ⟨rfl, rfl⟩⟩
theorem e_ml56 (hR : okC R) (hK : stK R o) (hw : aw A) {ini : Int64} : ∀ (k r u : Nat) (B : am_Bd) (I : am_I) (L : am_L), k + r = 65 → k < u → okT B.1 → r ≤ B.1.1 → isA I 2 3 A → tbK I A → KC I L o 1 A B ini →
    ∃ I' L', bfK I L o I' L' ∧ ((∃ B', bld 1 A k r B = some B' ∧ lX3_makeLeastPaths_56 R o 2 16 u (nI r) I L = some (1, I', L') ∧ KC I' L' o 1 A B' ini) ∨ (bld 1 A k r B = none ∧ lX3_makeLeastPaths_56 R o 2 16 u (nI r) I L = some (0, I', L'))) := by
  intro k
  induction k with
  | zero =>
    intro r u B I L hk hu ok hr hA hT h
    have := ok.2.1
    omega
  | succ k ih =>
    intro r u B I L hk hu ok hr hA hT h
    obtain ⟨u, rfl⟩ : ∃ g, u = g + 1 := ⟨u - 1, by omega⟩
    have h64 := ok.2.1
    have hp : bld 1 A (k + 1) r B = (if B.1.1 ≤ r then some B else Option.bind (ltb 1 A r 3 B) (fun B' => bld 1 A k (r + 1) B')) := rfl
    have hs : lX3_makeLeastPaths_56 R o 2 16 (u + 1) (nI r) I L = sX3_makeLeastPaths_56 R o 2 16 (lX3_makeLeastPaths_56 R o 2 16 u) (nI r) I L := rfl
    rw [hp]
    by_cases q : B.1.1 ≤ r
    · rw [if_pos q]
      refine ⟨I, L, bfK.rf I L o, Or.inl ⟨B, rfl, ?_, h⟩⟩
      rw [hs]
      unfold sX3_makeLeastPaths_56
      rw [h.1, if_pos (nI_le q (by omega))]
    · rw [if_neg q]
      have hr' : r < B.1.1 := by omega
      obtain ⟨I1, L1, f1, g1⟩ := e_ml73 (A := A) hR hK hw (ini := ini) (r := r) (fun (J15 : am_I) (J16 : am_L) => lX3_makeLeastPaths_56 R o 2 16 u (nI r + (1 : Int32)) J15 J16) 3 am_fu B I L (Nat.le_refl _) (by have := am_fu_ge; omega) ok hr' hA hT h
      have hstep : lX3_makeLeastPaths_56 R o 2 16 (u + 1) (nI r) I L = lX3_makeLeastPaths_73 R o 2 16 (nI r) (fun (J15 : am_I) (J16 : am_L) => lX3_makeLeastPaths_56 R o 2 16 u (nI r + (1 : Int32)) J15 J16) am_fu (nI (3 - 3)) I L := by
        rw [hs]
        unfold sX3_makeLeastPaths_56
        rw [h.1, if_neg (nIge hr' (by omega)), if_neg (ng64 (by omega)), am_jn_e]
        rfl
      rw [hstep]
      rcases g1 with ⟨B1, n1, n2, n3, n4, n5⟩ | ⟨n1, n2⟩
      · rw [n2, n1, am_bd, nI_1]
        obtain ⟨I2, L2, f2, g2⟩ := ih (r + 1) u B1 I1 L1 (by omega) (by omega) n3 (by omega) (hA.bf f1 hK.2.2.2.1) (hT.bf f1 hK.2.2.2.1) n5
        exact ⟨I2, L2, f1.tr f2, g2⟩
      · rw [n2, n1]
        exact ⟨I1, L1, f1, Or.inr ⟨rfl, rfl⟩⟩
end
