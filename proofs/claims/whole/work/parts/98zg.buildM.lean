/-! the reference: constructions -/
section
variable {A : am_Au} {J : am_I} {K : am_L}
def KMi (J : am_I) (S : am_Kt) : Prop := J 1 41 = nI S.1 ∧ ∀ k, k < S.1 → J 24 k = nI (S.2 k).1 ∧ J 25 k = (S.2 k).2
def fM3 (J J' : am_I) : Prop := (∀ b, b ≠ 1 → b ≠ 24 → b ≠ 25 → J' b = J b) ∧ ∀ k, k ≠ 41 → J' 1 k = J 1 k
theorem fM3.rf (J : am_I) : fM3 J J := ⟨fun _ _ _ _ => rfl, fun _ _ => rfl⟩
theorem fM3.tr {J1 J2 : am_I} (h : fM3 J J1) (g : fM3 J1 J2) : fM3 J J2 := ⟨fun b x y z => (g.1 b x y z).trans (h.1 b x y z), fun k hk => (g.2 k hk).trans (h.2 k hk)⟩
theorem isM.f3 (h : isM J A) {J' : am_I} (f : fM3 J J') : isM J' A := h.kept (fun k _ _ => f.2 k (by omega)) (f.1 2 (by decide) (by decide) (by decide))
theorem e_nos {S : am_Kt} (h : KMi J S) (ok : okT S) {y : am_Ky} (hy : okY y) : (∃ i S' J', nmb S y = some (i, S') ∧ pX11_numberOfState rM J 1 (nI y.1) y.2 = some (nI i, J') ∧ KMi J' S' ∧ fM3 J J') ∨ (nmb S y = none ∧ pX11_numberOfState rM J 1 (nI y.1) y.2 = some (-1, J)) := by
  have h64 := ok.2.1
  have hy1 := hy.1
  unfold pX11_numberOfState
  rw [am_jn_e]
  obtain ⟨j1, hj1⟩ : ∃ j : Option (Int32 × am_I), j = (if (J 1 41) = (64 : Int32) then (
    some ((-1 : Int32), J)) else (
    am_ck (am_inb (J 1 41) 64) (
    am_let (am_upI J (rM 1 36) (Int32.toNatClampNeg (J 1 41)) (nI y.1)) (fun J4 =>
    am_ck (am_inb (J4 1 41) 64) (
    am_let (am_upI J4 (rM 1 37) (Int32.toNatClampNeg (J4 1 41)) y.2) (fun J6 =>
    am_let (am_upI J6 1 41 ((J6 1 41) + (1 : Int32))) (fun J7 =>
    some (((J7 1 41) - (1 : Int32)), J7)))))))) := ⟨_, rfl⟩
  rw [← hj1]
  have key := am_forQ (fun n i (_ : Unit) => lX11_numberOfState_2 rM J 1 (nI y.1) y.2 j1 n (nI i)) S.1 (fun i _ => ∀ k, k < i → S.2 k ≠ y) (fun r => (∃ k, k < S.1 ∧ S.2 k = y ∧ r = some (nI k, J)) ∨ ((∀ k, k < S.1 → S.2 k ≠ y) ∧ r = j1)) (by omega) (fun n i _ hi hP => by
    have oi := ok.2.2 i hi
    have hs : lX11_numberOfState_2 rM J 1 (nI y.1) y.2 j1 (n + 1) (nI i) = (if nI (S.2 i).1 = nI y.1 then (if (S.2 i).2 = y.2 then some (nI i, J) else lX11_numberOfState_2 rM J 1 (nI y.1) y.2 j1 n (nI (i + 1))) else lX11_numberOfState_2 rM J 1 (nI y.1) y.2 j1 n (nI (i + 1))) := by
      show sX11_numberOfState_2 rM J 1 (nI y.1) y.2 j1 (lX11_numberOfState_2 rM J 1 (nI y.1) y.2 j1 n) (nI i) = _
      unfold sX11_numberOfState_2
      rw [h.1, if_neg (nIge hi (by omega)), inb (show i < 64 by omega) (by omega), am_ck_true, am_jn_e, am_ck_true, rM36, rM37, nIcl (show i < 1000000 by omega), (h.2 i hi).1, (h.2 i hi).2, nI_1]
    by_cases q : S.2 i = y
    · right; left
      exact ⟨i, hi, q, by rw [hs, q, if_pos rfl, if_pos rfl]⟩
    · left
      refine ⟨(), ?_, fun k hk => ?_⟩
      · rw [hs]
        by_cases g : nI (S.2 i).1 = nI y.1
        · have g1 : (S.2 i).1 = y.1 := (nI_eq (by have := oi.1; omega) (by omega)).mp g
          have g2 : ¬ (S.2 i).2 = y.2 := fun e => q (Prod.ext g1 e)
          rw [if_pos g, if_neg g2]
        · rw [if_neg g]
      · by_cases e : k = i
        · rw [e]; exact q
        · exact hP k (by omega)) (fun n _ hP => by
    right
    refine ⟨hP, ?_⟩
    show sX11_numberOfState_2 rM J 1 (nI y.1) y.2 j1 (lX11_numberOfState_2 rM J 1 (nI y.1) y.2 j1 n) (nI S.1) = _
    unfold sX11_numberOfState_2
    rw [h.1, if_pos (nIle (by omega))]) () (fun k hk => absurd hk (Nat.not_lt_zero k))
  rw [nI_0] at key
  rcases key with ⟨k, a1, a2, a3⟩ | ⟨a1, a2⟩
  · exact Or.inl ⟨k, S, J, nmb_old ok.1 a1 a2, a3, h, fM3.rf J⟩
  · by_cases q : S.1 = 64
    · right
      refine ⟨nmb_full a1 q, ?_⟩
      rw [a2, hj1, h.1, if_pos (show nI S.1 = (64 : Int32) by rw [q]; rfl)]
    · left
      refine ⟨S.1, addK S y, am_upI (am_upI (am_upI J 24 S.1 (nI y.1)) 25 S.1 y.2) 1 41 (nI (S.1 + 1)), nmb_new a1 q, ?_, ⟨am_upI_s, fun k hk => ?_⟩, fun b x y z => by rw [am_upI_ne x, am_upI_ne z, am_upI_ne y], fun k hk => by rw [am_upI_o hk, am_upI_ne (by decide), am_upI_ne (by decide)]⟩
      · rw [a2, hj1, h.1, if_neg (show ¬ nI S.1 = (64 : Int32) from fun e => q ((nI_eq (a := S.1) (b := 64) (by omega) (by omega)).mp e)), inb (show S.1 < 64 by omega) (by omega), am_ck_true, am_let_e, rM36, rM37, nIcl (show S.1 < 1000000 by omega), am_upI_ne (show (1 : Nat) ≠ 24 by decide), h.1, inb (show S.1 < 64 by omega) (by omega), am_ck_true, am_let_e, nIcl (show S.1 < 1000000 by omega), am_upI_ne (show (1 : Nat) ≠ 25 by decide), am_upI_ne (show (1 : Nat) ≠ 24 by decide), h.1, am_let_e, am_upI_s, nI_1, nI_pred]
      · have hk : k < S.1 + 1 := hk
        rw [am_upI_ne (show (24 : Nat) ≠ 1 by decide), am_upI_ne (show (24 : Nat) ≠ 25 by decide), am_upI_ne (show (25 : Nat) ≠ 1 by decide)]
        show _ = nI (if k = S.1 then y else S.2 k).1 ∧ _ = (if k = S.1 then y else S.2 k).2
        by_cases g : k = S.1
        · rw [if_pos g, g, am_upI_s, am_upI_s]
          exact ⟨rfl, rfl⟩
        · rw [if_neg g, am_upI_o g, am_upI_o g, am_upI_ne (show (25 : Nat) ≠ 24 by decide)]
          exact h.2 k (by omega)
theorem e_bp84 (hw : aw A) {to l : Int32} (hto : lon 6 to) (hl : lon 6 l) (htA : ∀ r, A.1 ≤ r → bt to r = false) {rr a : Nat} {lr : Int32} (ha : a < 3) (hlr : stp A lr a = l) (hrr : rr < 64) (K : am_L) (j : Int64 → am_I → Option (Int32 × am_I × am_L)) : ∀ (k u : Nat) (b : Int64) (S : am_Kt) (J : am_I), k ≤ 6 → k < u → okT S → rr < S.1 → (S.2 rr).2 = lr → isM J A → KMi J S →
    ∃ J', fM3 J J' ∧ ((∃ b' S', prs to l k b S = some (b', S') ∧ lX11_buildsPairs_84 rM 1 (nI rr) (nI a) to K j u b (nI (6 - k)) J = j b' J' ∧ okT S' ∧ KMi J' S') ∨ (prs to l k b S = none ∧ lX11_buildsPairs_84 rM 1 (nI rr) (nI a) to K j u b (nI (6 - k)) J = some (0, J', K))) := by
  have h6 := hw.2.1
  intro k
  induction k with
  | zero =>
    intro u b S J _ hu ok hr hlS hM h
    obtain ⟨u, rfl⟩ : ∃ g, u = g + 1 := ⟨u - 1, by omega⟩
    refine ⟨J, fM3.rf J, Or.inl ⟨b, S, rfl, ?_, ok, h⟩⟩
    show sX11_buildsPairs_84 rM 1 (nI rr) (nI a) to K j (lX11_buildsPairs_84 rM 1 (nI rr) (nI a) to K j u) b (nI 6) J = _
    unfold sX11_buildsPairs_84
    rw [hM.1, if_pos (nI_le h6 (by omega))]
  | succ k ih =>
    intro u b S J hk hu ok hr hlS hM h
    obtain ⟨u, rfl⟩ : ∃ g, u = g + 1 := ⟨u - 1, by omega⟩
    have e0 : 6 - (k + 1) = 5 - k := by omega
    have e1 : 5 - k + 1 = 6 - k := by omega
    have hp : prs to l (k + 1) b S = (if bt to (5 - k) = true then Option.bind (nmb S (5 - k, l ||| blw to (5 - k))) (fun p => prs to l k (b ||| bit1 p.1) p.2) else prs to l k b S) := rfl
    have hs : lX11_buildsPairs_84 rM 1 (nI rr) (nI a) to K j (u + 1) b (nI (6 - (k + 1))) J = sX11_buildsPairs_84 rM 1 (nI rr) (nI a) to K j (lX11_buildsPairs_84 rM 1 (nI rr) (nI a) to K j u) b (nI (5 - k)) J := by rw [e0]; rfl
    by_cases hrA : A.1 ≤ 5 - k
    · refine ⟨J, fM3.rf J, Or.inl ⟨b, S, prs_tail (k + 1) b S hk (fun r a _ => htA r (by omega)), ?_, ok, h⟩⟩
      rw [hs]
      unfold sX11_buildsPairs_84
      rw [hM.1, if_pos (nI_le hrA (by omega))]
    · by_cases q : bt to (5 - k) = true
      · have hy : okY (5 - k, l ||| blw to (5 - k)) := ⟨by show 5 - k < 6; omega, lon_or hl (lon_blw hto)⟩
        have hstep : ∀ {z : Int32} {J1 : am_I}, pX11_numberOfState rM J 1 (nI (5 - k)) (l ||| blw to (5 - k)) = some (z, J1) → lX11_buildsPairs_84 rM 1 (nI rr) (nI a) to K j (u + 1) b (nI (6 - (k + 1))) J = (if 0 ≤ z then lX11_buildsPairs_84 rM 1 (nI rr) (nI a) to K j u (b ||| ((1 : Int64) <<< (Int32.toInt64 z &&& 63))) (nI (6 - k)) J1 else some ((0 : Int32), J1, K)) := fun {z J1} hz => by
          rw [hs]
          unfold sX11_buildsPairs_84
          have hz' : pX11_numberOfState rM J 1 (nI (5 - k)) (l ||| (to &&& (((1 : Int32) <<< (nI (5 - k) &&& 31)) - (1 : Int32)))) = some (z, J1) := hz
          rw [hM.1, if_neg (nIge (show 5 - k < A.1 by omega) (by omega)), e_hb _ (show 5 - k < 32 by omega), am_bd, q, am_jn_e, if_neg (show ¬ bI true = 0 by decide), inb hrr (by omega), am_ck_true, rM37, nIcl (show rr < 1000000 by omega), (h.2 rr hr).2, hlS, e_step hM hw lr ha, am_bd, hlr, hz', am_bd, am_let_e, nI_1, e1]
        rw [hp, if_pos q]
        rcases e_nos h ok hy with ⟨i, S1, J1, n1, n2, n3, n4⟩ | ⟨n1, n2⟩
        · obtain ⟨ok1, hi⟩ := nmb_ok ok hy n1
          obtain ⟨x1, _, _, _, _⟩ := (covK.no S).nmb ok hy n1
          rw [hstep n2, if_pos (show (0 : Int32) ≤ nI i by rw [← nI_0]; exact nI_le (Nat.zero_le _) (by omega)), n1, am_bd]
          obtain ⟨J2, f2, g2⟩ := ih u (b ||| bit1 i) S1 J1 (by omega) (by omega) ok1 (Nat.lt_of_lt_of_le hr x1.1) (by rw [x1.2 rr hr]; exact hlS) (hM.f3 n4) n3
          exact ⟨J2, n4.tr f2, g2⟩
        · rw [hstep n2, if_neg (show ¬ (0 : Int32) ≤ -1 by decide), n1]
          exact ⟨J, fM3.rf J, Or.inr ⟨rfl, rfl⟩⟩
      · have hstep : lX11_buildsPairs_84 rM 1 (nI rr) (nI a) to K j (u + 1) b (nI (6 - (k + 1))) J = lX11_buildsPairs_84 rM 1 (nI rr) (nI a) to K j u b (nI (6 - k)) J := by
          rw [hs]
          unfold sX11_buildsPairs_84
          rw [hM.1, if_neg (nIge (show 5 - k < A.1 by omega) (by omega)), e_hb _ (show 5 - k < 32 by omega), am_bd, Bool.eq_false_iff.mpr q, am_jn_e, if_pos (show bI false = 0 from rfl), nI_1, e1]
        rw [hp, if_neg q, hstep]
        exact ih u b S J (by omega) (by omega) ok hr hlS hM h
/-- both tables -/
def KMB (J : am_I) (K : am_L) (B : am_Bd) (w : Nat) : Prop := KMi J B.1 ∧ ∀ x, x < w → K 27 x = B.2 x
def fL3 (K K' : am_L) : Prop := ∀ b, b ≠ 27 → K' b = K b
theorem KMB.put {B : am_Bd} {w : Nat} (h : KMB J K B w) {J' : am_I} {S : am_Kt} (g : KMi J' S) (v : Int64) : KMB J' (am_upL K 27 w v) (S, updT B.2 w v) (w + 1) := ⟨g, fun x hx => by
  show _ = updT B.2 w v x
  unfold updT
  by_cases q : x = w
  · rw [if_pos q, q, am_upL_s]
  · rw [if_neg q, am_upL_o q]; exact h.2 x (by omega)⟩
theorem e_bp56 (hw : aw A) {r : Nat} (j : am_I → am_L → Option (Int32 × am_I × am_L)) : ∀ (k u : Nat) (B : am_Bd) (J : am_I) (K : am_L), k ≤ 3 → k < u → okT B.1 → r < B.1.1 → isM J A → KMB J K B (3 * r + (3 - k)) →
    ∃ J' K', fM3 J J' ∧ fL3 K K' ∧ ((∃ B', ltb 1 A r k B = some B' ∧ lX11_buildsPairs_56 rM 1 (nI r) j u (nI (3 - k)) J K = j J' K' ∧ okT B'.1 ∧ B.1.1 ≤ B'.1.1 ∧ KMB J' K' B' (3 * r + 3)) ∨ (ltb 1 A r k B = none ∧ lX11_buildsPairs_56 rM 1 (nI r) j u (nI (3 - k)) J K = some (0, J', K'))) := by
  intro k
  induction k with
  | zero =>
    intro u B J K _ hu ok hr hM h
    obtain ⟨u, rfl⟩ : ∃ g, u = g + 1 := ⟨u - 1, by omega⟩
    refine ⟨J, K, fM3.rf J, fun _ _ => rfl, Or.inl ⟨B, rfl, ?_, ok, Nat.le_refl _, h⟩⟩
    show sX11_buildsPairs_56 rM 1 (nI r) j (lX11_buildsPairs_56 rM 1 (nI r) j u) (nI 3) J K = _
    unfold sX11_buildsPairs_56
    rw [if_pos yg3]
  | succ k ih =>
    intro u B J K hk hu ok hr hM h
    obtain ⟨u, rfl⟩ : ∃ g, u = g + 1 := ⟨u - 1, by omega⟩
    have h64 := ok.2.1
    have e0 : 3 - (k + 1) = 2 - k := by omega
    have e1 : 2 - k + 1 = 3 - k := by omega
    obtain ⟨y, hy⟩ : ∃ y, y = B.1.2 r := ⟨_, rfl⟩
    have oy : okY y := by rw [hy]; exact ok.2.2 r hr
    have hy1 := oy.1
    have ho : J 24 r = nI y.1 := by rw [(h.1.2 r hr).1, ← hy]
    have hp : ltb 1 A r (k + 1) B = Option.bind (oneK 1 A (B.1.2 r) (2 - k) B.1) (fun p => ltb 1 A r k (p.2, updT B.2 (3 * r + (2 - k)) p.1)) := rfl
    have hone : oneK 1 A (B.1.2 r) (2 - k) B.1 = prs (A.2.2.2 (2 - k) y.1) (stp A y.2 (2 - k)) 6 0 B.1 := by rw [← hy]; rfl
    have ex : (6 : Int32) * nI (2 - k) + nI y.1 = nI (6 * (2 - k) + y.1) := by rw [show (6 : Int32) = nI 6 from rfl, pk_mul, nI_add]
    have ex3 : (3 : Int32) * nI r + nI (2 - k) = nI (3 * r + (2 - k)) := by rw [show (3 : Int32) = nI 3 from rfl, pk_mul, nI_add]
    obtain ⟨j21, hj21⟩ : ∃ j' : Int64 → am_I → Option (Int32 × am_I × am_L), j' = fun (v22 : Int64) (J23 : am_I) => am_ck (am_inb ((3 : Int32) * nI r + nI (2 - k)) 192) (am_let (am_upL K (rM 1 39) (Int32.toNatClampNeg ((3 : Int32) * nI r + nI (2 - k))) v22) (fun J25 => lX11_buildsPairs_56 rM 1 (nI r) j u (nI (2 - k) + (1 : Int32)) J23 J25)) := ⟨_, rfl⟩
    have hj : ∀ v J', j21 v J' = lX11_buildsPairs_56 rM 1 (nI r) j u (nI (3 - k)) J' (am_upL K 27 (3 * r + (2 - k)) v) := fun v J' => by
      rw [hj21]
      dsimp only
      rw [ex3, inb (show 3 * r + (2 - k) < 192 by omega) (by omega), am_ck_true, am_let_e, rM39, nIcl (show 3 * r + (2 - k) < 1000000 by omega), nI_1, e1]
    have hs : lX11_buildsPairs_56 rM 1 (nI r) j (u + 1) (nI (3 - (k + 1))) J K = lX11_buildsPairs_84 rM 1 (nI r) (nI (2 - k)) (A.2.2.2 (2 - k) y.1) K j21 am_fu 0 (nI (6 - 6)) J := by
      show sX11_buildsPairs_56 rM 1 (nI r) j (lX11_buildsPairs_56 rM 1 (nI r) j u) (nI (3 - (k + 1))) J K = _
      unfold sX11_buildsPairs_56
      rw [e0, if_neg (ng3 (by omega)), inb (show r < 64 by omega) (by omega), am_ck_true, rM36, rM0, nIcl (show r < 1000000 by omega), ho, ex, inb (show 6 * (2 - k) + y.1 < 18 by omega) (by omega), am_ck_true, am_let_e, nIcl (show 6 * (2 - k) + y.1 < 1000000 by omega), hM.2.2.2 (2 - k) y.1 (by omega) hy1, am_jn_e, ← hj21]
      rfl
    obtain ⟨J1, f1, g1⟩ := e_bp84 hw (lon_T6 hw (2 - k) y.1) (lon_st hw y.2 (2 - k)) (fun r hr => hw.2.2.2.1 (2 - k) y.1 r hr) (rr := r) (show 2 - k < 3 by omega) rfl (by omega) K j21 6 am_fu 0 B.1 J (Nat.le_refl _) (by have := am_fu_ge; omega) ok hr (by rw [← hy]) hM h.1
    rw [hp, hs, hone]
    rcases g1 with ⟨b, S1, n1, n2, n3, n4⟩ | ⟨n1, n2⟩
    · rw [n2, hj, n1, am_bd]
      have hle := (oneK_spec hw ok (hone.trans n1)).1.1
      have hput := KMB.put (w := 3 * r + (2 - k)) (by rw [e0] at h; exact h) n4 b
      obtain ⟨J2, K2, f2, f3, g2⟩ := ih u (S1, updT B.2 (3 * r + (2 - k)) b) J1 (am_upL K 27 (3 * r + (2 - k)) b) (by omega) (by omega) n3 (Nat.lt_of_lt_of_le hr hle) (hM.f3 f1) (by rw [show 3 * r + (3 - k) = 3 * r + (2 - k) + 1 by omega]; exact hput)
      refine ⟨J2, K2, f1.tr f2, fun x hx => by rw [f3 x hx, am_upL_n hx], ?_⟩
      rcases g2 with ⟨B', m1, m2, m3, m4, m5⟩ | m
      · exact Or.inl ⟨B', m1, m2, m3, Nat.le_trans hle m4, m5⟩
      · exact Or.inr m
    · rw [n2, n1]
      exact ⟨J1, K, f1, fun _ _ => rfl, Or.inr ⟨rfl, rfl⟩⟩
theorem e_bp46 (hw : aw A) : ∀ (k r u : Nat) (B : am_Bd) (J : am_I) (K : am_L), k + r = 65 → k < u → okT B.1 → r ≤ B.1.1 → isM J A → KMB J K B (3 * r) →
    ∃ J' K', fM3 J J' ∧ fL3 K K' ∧ ((∃ B', bld 1 A k r B = some B' ∧ lX11_buildsPairs_46 rM 1 u (nI r) J K = some (1, J', K') ∧ KMB J' K' B' (3 * B'.1.1)) ∨ (bld 1 A k r B = none ∧ lX11_buildsPairs_46 rM 1 u (nI r) J K = some (0, J', K'))) := by
  intro k
  induction k with
  | zero =>
    intro r u B J K hk hu ok hr hM h
    have := ok.2.1
    omega
  | succ k ih =>
    intro r u B J K hk hu ok hr hM h
    obtain ⟨u, rfl⟩ : ∃ g, u = g + 1 := ⟨u - 1, by omega⟩
    have h64 := ok.2.1
    have hp : bld 1 A (k + 1) r B = (if B.1.1 ≤ r then some B else Option.bind (ltb 1 A r 3 B) (fun B' => bld 1 A k (r + 1) B')) := rfl
    have hs : lX11_buildsPairs_46 rM 1 (u + 1) (nI r) J K = sX11_buildsPairs_46 rM 1 (lX11_buildsPairs_46 rM 1 u) (nI r) J K := rfl
    rw [hp]
    by_cases q : B.1.1 ≤ r
    · rw [if_pos q]
      refine ⟨J, K, fM3.rf J, fun _ _ => rfl, Or.inl ⟨B, rfl, ?_, by rw [show B.1.1 = r by omega]; exact h⟩⟩
      rw [hs]
      unfold sX11_buildsPairs_46
      rw [h.1.1, if_pos (nI_le q (by omega))]
    · rw [if_neg q]
      have hr' : r < B.1.1 := by omega
      obtain ⟨J1, K1, f1, f2, g1⟩ := e_bp56 (A := A) hw (r := r) (fun (J10 : am_I) (J11 : am_L) => lX11_buildsPairs_46 rM 1 u (nI r + (1 : Int32)) J10 J11) 3 am_fu B J K (Nat.le_refl _) (by have := am_fu_ge; omega) ok hr' hM h
      have hstep : lX11_buildsPairs_46 rM 1 (u + 1) (nI r) J K = lX11_buildsPairs_56 rM 1 (nI r) (fun (J10 : am_I) (J11 : am_L) => lX11_buildsPairs_46 rM 1 u (nI r + (1 : Int32)) J10 J11) am_fu (nI (3 - 3)) J K := by
        rw [hs]
        unfold sX11_buildsPairs_46
        rw [h.1.1, if_neg (nIge hr' (by omega)), am_jn_e]
        rfl
      rw [hstep]
      rcases g1 with ⟨B1, n1, n2, n3, n4, n5⟩ | ⟨n1, n2⟩
      · rw [n2, n1, am_bd, nI_1]
        obtain ⟨J2, K2, f3, f4, g2⟩ := ih (r + 1) u B1 J1 K1 (by omega) (by omega) n3 (by omega) (hM.f3 f1) (by rw [show 3 * (r + 1) = 3 * r + 3 by omega]; exact n5)
        exact ⟨J2, K2, f1.tr f3, fun x hx => (f4 x hx).trans (f2 x hx), g2⟩
      · rw [n2, n1]
        exact ⟨J1, K1, f1, f2, Or.inr ⟨rfl, rfl⟩⟩
theorem e_bp2 (hw : aw A) (K : am_L) (j : am_I → Option (Int32 × am_I × am_L)) : ∀ (k u : Nat) (b : Int64) (S : am_Kt) (J : am_I), k ≤ 6 → k < u → S.1 ≤ 6 - k → okT S → isM J A → KMi J S →
    ∃ J' b' S', fM3 J J' ∧ prs A.2.1 0 k b S = some (b', S') ∧ lX11_buildsPairs_2 rM K 1 j u (nI (6 - k)) J = j J' ∧ okT S' ∧ KMi J' S' := by
  have h6 := hw.2.1
  intro k
  induction k with
  | zero =>
    intro u b S J _ hu _ ok hM h
    obtain ⟨u, rfl⟩ : ∃ g, u = g + 1 := ⟨u - 1, by omega⟩
    refine ⟨J, b, S, fM3.rf J, rfl, ?_, ok, h⟩
    show sX11_buildsPairs_2 rM K 1 j (lX11_buildsPairs_2 rM K 1 j u) (nI 6) J = _
    unfold sX11_buildsPairs_2
    rw [hM.1, if_pos (nI_le h6 (by omega))]
  | succ k ih =>
    intro u b S J hk hu hS ok hM h
    obtain ⟨u, rfl⟩ : ∃ g, u = g + 1 := ⟨u - 1, by omega⟩
    have e0 : 6 - (k + 1) = 5 - k := by omega
    have e1 : 5 - k + 1 = 6 - k := by omega
    have hp : prs A.2.1 0 (k + 1) b S = (if bt A.2.1 (5 - k) = true then Option.bind (nmb S (5 - k, 0 ||| blw A.2.1 (5 - k))) (fun p => prs A.2.1 0 k (b ||| bit1 p.1) p.2) else prs A.2.1 0 k b S) := rfl
    have hs : lX11_buildsPairs_2 rM K 1 j (u + 1) (nI (6 - (k + 1))) J = sX11_buildsPairs_2 rM K 1 j (lX11_buildsPairs_2 rM K 1 j u) (nI (5 - k)) J := by rw [e0]; rfl
    by_cases hr : A.1 ≤ 5 - k
    · refine ⟨J, b, S, fM3.rf J, prs_tail (k + 1) b S hk (fun r a _ => (hw.2.2.1 r (by omega)).1), ?_, ok, h⟩
      rw [hs]
      unfold sX11_buildsPairs_2
      rw [hM.1, if_pos (nI_le hr (by omega))]
    · by_cases q : bt A.2.1 (5 - k) = true
      · have ez : (0 : Int32) ||| blw A.2.1 (5 - k) = blw A.2.1 (5 - k) := Int32.zero_or
        have hy : okY (5 - k, blw A.2.1 (5 - k)) := ⟨by show 5 - k < 6; omega, lon_blw (lon_ini hw)⟩
        rcases e_nos h ok hy with ⟨i, S1, J1, n1, n2, n3, n4⟩ | ⟨n1, _⟩
        · obtain ⟨ok1, hi⟩ := nmb_ok ok hy n1
          have n2 : pX11_numberOfState rM J 1 (nI (5 - k)) (A.2.1 &&& (((1 : Int32) <<< (nI (5 - k) &&& 31)) - (1 : Int32))) = some (nI i, J1) := n2
          have hS1 : S1.1 ≤ 6 - k := by
            rcases nmb_cases ok hy with ⟨_, _, _, a3⟩ | ⟨_, _, a3, _⟩ | ⟨_, _, a3⟩
            · rw [n1] at a3; cases a3; omega
            · rw [n1] at a3; cases a3
              show S.1 + 1 ≤ 6 - k
              omega
            · rw [n1] at a3; cases a3
          obtain ⟨J2, b', S', f2, g2, g3, g4, g5⟩ := ih u (b ||| bit1 i) S1 J1 (by omega) (by omega) hS1 ok1 (hM.f3 n4) n3
          refine ⟨J2, b', S', n4.tr f2, ?_, ?_, g4, g5⟩
          · rw [hp, if_pos q, ez, n1, am_bd]; exact g2
          · rw [hs]
            unfold sX11_buildsPairs_2
            rw [hM.1, if_neg (nIge (show 5 - k < A.1 by omega) (by omega)), hM.2.1, e_hb _ (show 5 - k < 32 by omega), am_bd, q, am_jn_e, if_neg (show ¬ bI true = 0 by decide), n2, am_bd, nI_1, e1]
            exact g3
        · have := ok.2.1
          rcases nmb_cases ok hy with ⟨_, _, _, a3⟩ | ⟨_, _, a3, _⟩ | ⟨_, a2, _⟩
          · rw [n1] at a3; cases a3
          · rw [n1] at a3; cases a3
          · omega
      · obtain ⟨J2, b', S', f2, g2, g3, g4, g5⟩ := ih u b S J (by omega) (by omega) (by omega) ok hM h
        refine ⟨J2, b', S', f2, by rw [hp, if_neg q]; exact g2, ?_, g4, g5⟩
        rw [hs]
        unfold sX11_buildsPairs_2
        rw [hM.1, if_neg (nIge (show 5 - k < A.1 by omega) (by omega)), hM.2.1, e_hb _ (show 5 - k < 32 by omega), am_bd, Bool.eq_false_iff.mpr q, am_jn_e, if_pos (show bI false = 0 from rfl), nI_1, e1]
        exact g3
theorem e_buildsPairs (hw : aw A) (hM : isM J A) (h41 : J 1 41 = 0) : ∃ J' K' ini S, fM3 J J' ∧ fL3 K K' ∧ st0K 1 A = some (ini, S) ∧ ((∃ B', bld 1 A 65 0 (S, fun _ => 0) = some B' ∧ pX11_buildsPairs rM J K 1 = some (1, J', K') ∧ KMB J' K' B' (3 * B'.1.1)) ∨ (bld 1 A 65 0 (S, fun _ => 0) = none ∧ pX11_buildsPairs rM J K 1 = some (0, J', K'))) := by
  obtain ⟨J1, ini, S, f1, g1, g2, g3, g4⟩ := e_bp2 hw K (fun (J2 : am_I) => lX11_buildsPairs_46 rM 1 am_fu (0 : Int32) J2 K) 6 am_fu 0 noK J (Nat.le_refl _) (by have := am_fu_ge; omega) (Nat.zero_le _) okT_no hM ⟨h41, fun k hk => absurd hk (Nat.not_lt_zero k)⟩
  obtain ⟨J2, K2, f2, f3, g5⟩ := e_bp46 hw 65 0 am_fu (S, fun _ => 0) J1 K (by omega) (by have := am_fu_ge; omega) g3 (Nat.zero_le _) (hM.f3 f1) ⟨g4, fun x hx => absurd hx (Nat.not_lt_zero x)⟩
  have hm : pX11_buildsPairs rM J K 1 = lX11_buildsPairs_46 rM 1 am_fu (nI 0) J1 K := by
    unfold pX11_buildsPairs
    rw [am_jn_e]
    exact g2
  rw [hm]
  exact ⟨J2, K2, ini, S, f1.tr f2, f3, g1, g5⟩
theorem e_bs29 (hw : aw A) {r : Nat} (j : am_I → am_L → Option (Int32 × am_I × am_L)) : ∀ (k u : Nat) (B : am_Bd) (J : am_I) (K : am_L), k ≤ 3 → k < u → okT B.1 → SZ B.1 → r < B.1.1 → isM J A → KMB J K B (3 * r + (3 - k)) →
    ∃ J' K' B', fM3 J J' ∧ fL3 K K' ∧ ltb 0 A r k B = some B' ∧ lX11_buildsSets_29 rM 1 (nI r) j u (nI (3 - k)) J K = j J' K' ∧ okT B'.1 ∧ SZ B'.1 ∧ B.1.1 ≤ B'.1.1 ∧ KMB J' K' B' (3 * r + 3) := by
  intro k
  induction k with
  | zero =>
    intro u B J K _ hu ok hz hr hM h
    obtain ⟨u, rfl⟩ : ∃ g, u = g + 1 := ⟨u - 1, by omega⟩
    refine ⟨J, K, B, fM3.rf J, fun _ _ => rfl, rfl, ?_, ok, hz, Nat.le_refl _, h⟩
    show sX11_buildsSets_29 rM 1 (nI r) j (lX11_buildsSets_29 rM 1 (nI r) j u) (nI 3) J K = _
    unfold sX11_buildsSets_29
    rw [if_pos yg3]
  | succ k ih =>
    intro u B J K hk hu ok hz hr hM h
    obtain ⟨u, rfl⟩ : ∃ g, u = g + 1 := ⟨u - 1, by omega⟩
    have h64 := ok.2.1
    have e0 : 3 - (k + 1) = 2 - k := by omega
    have e1 : 2 - k + 1 = 3 - k := by omega
    obtain ⟨X, hX⟩ : ∃ X, X = (B.1.2 r).2 := ⟨_, rfl⟩
    have hl : J 25 r = X := by rw [(h.1.2 r hr).2, ← hX]
    have hp : ltb 0 A r (k + 1) B = Option.bind (oneK 0 A (B.1.2 r) (2 - k) B.1) (fun p => ltb 0 A r k (p.2, updT B.2 (3 * r + (2 - k)) p.1)) := rfl
    have ho : oneK 0 A (B.1.2 r) (2 - k) B.1 = (if stp A X (2 - k) = 0 then some (0, B.1) else Option.bind (nmb B.1 (0, stp A X (2 - k))) (fun p => some (bit1 p.1, p.2))) := by rw [hX]; rfl
    have ex3 : (3 : Int32) * nI r + nI (2 - k) = nI (3 * r + (2 - k)) := by rw [show (3 : Int32) = nI 3 from rfl, pk_mul, nI_add]
    have hs : lX11_buildsSets_29 rM 1 (nI r) j (u + 1) (nI (3 - (k + 1))) J K = (if stp A X (2 - k) = 0 then lX11_buildsSets_29 rM 1 (nI r) j u (nI (3 - k)) J (am_upL K 27 (3 * r + (2 - k)) 0) else Option.bind (pX11_numberOfState rM J 1 (0 : Int32) (stp A X (2 - k))) (fun r26 => lX11_buildsSets_29 rM 1 (nI r) j u (nI (3 - k)) r26.2 (am_upL K 27 (3 * r + (2 - k)) ((1 : Int64) <<< (Int32.toInt64 r26.1 &&& 63))))) := by
      show sX11_buildsSets_29 rM 1 (nI r) j (lX11_buildsSets_29 rM 1 (nI r) j u) (nI (3 - (k + 1))) J K = _
      unfold sX11_buildsSets_29
      rw [e0, if_neg (ng3 (by omega)), inb (show r < 64 by omega) (by omega), am_ck_true, rM37, nIcl (show r < 1000000 by omega), hl, e_step hM hw X (show 2 - k < 3 by omega), am_bd, am_jn_e, ex3, inb (show 3 * r + (2 - k) < 192 by omega) (by omega), rM39, nIcl (show 3 * r + (2 - k) < 1000000 by omega), nI_1, e1]
      rfl
    have h' : KMB J K B (3 * r + (2 - k)) := by rw [e0] at h; exact h
    have ew : 3 * r + (3 - k) = 3 * r + (2 - k) + 1 := by omega
    by_cases q : stp A X (2 - k) = 0
    · obtain ⟨J2, K2, B', f2, f3, g2, g3, g4, g5, g6, g7⟩ := ih u (B.1, updT B.2 (3 * r + (2 - k)) 0) J (am_upL K 27 (3 * r + (2 - k)) 0) (by omega) (by omega) ok hz hr hM (by rw [ew]; exact h'.put h.1 0)
      refine ⟨J2, K2, B', f2, fun x hx => by rw [f3 x hx, am_upL_n hx], ?_, by rw [hs, if_pos q]; exact g3, g4, g5, g6, g7⟩
      rw [hp, ho, if_pos q, am_bd]
      exact g2
    · have hy : okY (0, stp A X (2 - k)) := ⟨(show (0 : Nat) < 6 by omega), lon_st hw X (2 - k)⟩
      obtain ⟨i', S', n1', ok1, hz1, _, hle⟩ := nmb_set ok hz (lon_st hw X (2 - k)) q
      rcases e_nos h.1 ok hy with ⟨i, S1, J1, n1, n2, n3, n4⟩ | ⟨n1, _⟩
      · rw [n1] at n1'
        cases n1'
        have n2 : pX11_numberOfState rM J 1 (0 : Int32) (stp A X (2 - k)) = some (nI i', J1) := n2
        obtain ⟨J2, K2, B', f2, f3, g2, g3, g4, g5, g6, g7⟩ := ih u (S', updT B.2 (3 * r + (2 - k)) (bit1 i')) J1 (am_upL K 27 (3 * r + (2 - k)) (bit1 i')) (by omega) (by omega) ok1 hz1 (Nat.lt_of_lt_of_le hr hle) (hM.f3 n4) (by rw [ew]; exact h'.put n3 (bit1 i'))
        refine ⟨J2, K2, B', n4.tr f2, fun x hx => by rw [f3 x hx, am_upL_n hx], ?_, by rw [hs, if_neg q, n2, am_bd]; exact g3, g4, g5, Nat.le_trans hle g6, g7⟩
        rw [hp, ho, if_neg q, n1, am_bd, am_bd]
        exact g2
      · rw [n1] at n1'; cases n1'
theorem e_bs19 (hw : aw A) : ∀ (k r u : Nat) (B : am_Bd) (J : am_I) (K : am_L), k + r = 65 → k < u → okT B.1 → SZ B.1 → r ≤ B.1.1 → isM J A → KMB J K B (3 * r) →
    ∃ J' K' B', fM3 J J' ∧ fL3 K K' ∧ bld 0 A k r B = some B' ∧ lX11_buildsSets_19 rM 1 u (nI r) J K = some (1, J', K') ∧ KMB J' K' B' (3 * B'.1.1) := by
  intro k
  induction k with
  | zero =>
    intro r u B J K hk hu ok hz hr hM h
    have := ok.2.1
    omega
  | succ k ih =>
    intro r u B J K hk hu ok hz hr hM h
    obtain ⟨u, rfl⟩ : ∃ g, u = g + 1 := ⟨u - 1, by omega⟩
    have h64 := ok.2.1
    have hp : bld 0 A (k + 1) r B = (if B.1.1 ≤ r then some B else Option.bind (ltb 0 A r 3 B) (fun B' => bld 0 A k (r + 1) B')) := rfl
    have hs : lX11_buildsSets_19 rM 1 (u + 1) (nI r) J K = sX11_buildsSets_19 rM 1 (lX11_buildsSets_19 rM 1 u) (nI r) J K := rfl
    rw [hp]
    by_cases q : B.1.1 ≤ r
    · rw [if_pos q]
      refine ⟨J, K, B, fM3.rf J, fun _ _ => rfl, rfl, ?_, by rw [show B.1.1 = r by omega]; exact h⟩
      rw [hs]
      unfold sX11_buildsSets_19
      rw [h.1.1, if_pos (nI_le q (by omega))]
    · rw [if_neg q]
      have hr' : r < B.1.1 := by omega
      obtain ⟨J1, K1, B1, f1, f2, n1, n2, n3, n4, n5, n6⟩ := e_bs29 (A := A) hw (r := r) (fun (J10 : am_I) (J11 : am_L) => lX11_buildsSets_19 rM 1 u (nI r + (1 : Int32)) J10 J11) 3 am_fu B J K (Nat.le_refl _) (by have := am_fu_ge; omega) ok hz hr' hM h
      have hstep : lX11_buildsSets_19 rM 1 (u + 1) (nI r) J K = lX11_buildsSets_29 rM 1 (nI r) (fun (J10 : am_I) (J11 : am_L) => lX11_buildsSets_19 rM 1 u (nI r + (1 : Int32)) J10 J11) am_fu (nI (3 - 3)) J K := by
        rw [hs]
        unfold sX11_buildsSets_19
        rw [h.1.1, if_neg (nIge hr' (by omega)), am_jn_e]
        rfl
      rw [hstep, n2, n1, am_bd, nI_1]
      obtain ⟨J2, K2, B2, f3, f4, g2⟩ := ih (r + 1) u B1 J1 K1 (by omega) (by omega) n3 n4 (by omega) (hM.f3 f1) (by rw [show 3 * (r + 1) = 3 * r + 3 by omega]; exact n6)
      exact ⟨J2, K2, B2, f1.tr f3, fun x hx => (f4 x hx).trans (f2 x hx), g2⟩
theorem e_buildsSets (hw : aw A) (hM : isM J A) (h41 : J 1 41 = 0) : ∃ J' K' ini S B', fM3 J J' ∧ fL3 K K' ∧ st0K 0 A = some (ini, S) ∧ bld 0 A 65 0 (S, fun _ => 0) = some B' ∧ pX11_buildsSets rM J K 1 = some (1, J', K') ∧ KMB J' K' B' (3 * B'.1.1) := by
  have zno : SZ noK := fun k hk => absurd hk (Nat.not_lt_zero k)
  have k0 : KMi J noK := ⟨h41, fun k hk => absurd hk (Nat.not_lt_zero k)⟩
  unfold pX11_buildsSets
  rw [am_jn_e]
  by_cases q : A.2.1 = 0
  · obtain ⟨J2, K2, B', f2, f3, g1, g2, g3⟩ := e_bs19 hw 65 0 am_fu (noK, fun _ => 0) J K (by omega) (by have := am_fu_ge; omega) okT_no zno (Nat.zero_le _) hM ⟨k0, fun x hx => absurd hx (Nat.not_lt_zero x)⟩
    refine ⟨J2, K2, 0, noK, B', f2, f3, by unfold st0K; rw [if_pos rfl, if_pos q], g1, ?_, g3⟩
    rw [if_pos (show J 1 4 = 0 by rw [hM.2.1]; exact q)]
    rw [nI_0] at g2
    exact g2
  · have hy : okY (0, A.2.1) := ⟨(show (0 : Nat) < 6 by omega), lon_ini hw⟩
    have hn : nmb noK (0, A.2.1) = some (0, addK noK (0, A.2.1)) := nmb_new (fun k hk => absurd hk (Nat.not_lt_zero k)) (by decide)
    obtain ⟨i', S', n1', ok1, hz1, _, hle⟩ := nmb_set okT_no zno (lon_ini hw) q
    rw [hn] at n1'
    cases n1'
    rcases e_nos k0 okT_no hy with ⟨i, S1, J1, n1, n2, n3, n4⟩ | ⟨n1, _⟩
    · rw [hn] at n1
      cases n1
      have n2 : pX11_numberOfState rM J 1 (0 : Int32) A.2.1 = some (nI 0, J1) := n2
      obtain ⟨J2, K2, B', f2, f3, g1, g2, g3⟩ := e_bs19 hw 65 0 am_fu (addK noK (0, A.2.1), fun _ => 0) J1 K (by omega) (by have := am_fu_ge; omega) ok1 hz1 (Nat.zero_le _) (hM.f3 n4) ⟨n3, fun x hx => absurd hx (Nat.not_lt_zero x)⟩
      refine ⟨J2, K2, bit1 0, addK noK (0, A.2.1), B', n4.tr f2, f3, by unfold st0K; rw [if_pos rfl, if_neg q], g1, ?_, g3⟩
      rw [if_neg (show ¬ J 1 4 = 0 by rw [hM.2.1]; exact q), hM.2.1, n2, am_bd]
      rw [nI_0] at g2
      exact g2
    · rw [hn] at n1; cases n1
end
