/-! saving, restoring, drawing -/
def filI (J0 : am_I) (d k N : Nat) (v : Nat → Int32) : am_I := fun b c => if b = d then (if k ≤ c ∧ c < k + N then v (c - k) else J0 b c) else J0 b c
def filL (J0 : am_L) (d k N : Nat) (v : Nat → Int64) : am_L := fun b c => if b = d then (if k ≤ c ∧ c < k + N then v (c - k) else J0 b c) else J0 b c
theorem filI_ne {J0 : am_I} {d k N : Nat} {v : Nat → Int32} {b : Nat} (h : b ≠ d) : filI J0 d k N v b = J0 b := by funext c; simp [filI, h]
theorem filL_ne {J0 : am_L} {d k N : Nat} {v : Nat → Int64} {b : Nat} (h : b ≠ d) : filL J0 d k N v b = J0 b := by funext c; simp [filL, h]
theorem filI_in {J0 : am_I} {d k N : Nat} {v : Nat → Int32} {i : Nat} (h : i < N) : filI J0 d k N v d (k + i) = v i := by
  unfold filI
  rw [if_pos rfl, if_pos ⟨by omega, by omega⟩, Nat.add_sub_cancel_left]
theorem filL_in {J0 : am_L} {d k N : Nat} {v : Nat → Int64} {i : Nat} (h : i < N) : filL J0 d k N v d (k + i) = v i := by
  unfold filL
  rw [if_pos rfl, if_pos ⟨by omega, by omega⟩, Nat.add_sub_cancel_left]
theorem filI_at {J0 : am_I} {d N : Nat} {v : Nat → Int32} {i : Nat} (h : i < N) : filI J0 d 0 N v d i = v i := by
  have := filI_in (J0 := J0) (d := d) (k := 0) (v := v) h
  rwa [Nat.zero_add] at this
theorem filL_at {J0 : am_L} {d N : Nat} {v : Nat → Int64} {i : Nat} (h : i < N) : filL J0 d 0 N v d i = v i := by
  have := filL_in (J0 := J0) (d := d) (k := 0) (v := v) h
  rwa [Nat.zero_add] at this
theorem filI_out {J0 : am_I} {d k N : Nat} {v : Nat → Int32} {j : Nat} (h : j < k ∨ k + N ≤ j) : filI J0 d k N v d j = J0 d j := by
  unfold filI
  rw [if_pos rfl, if_neg (by omega)]
theorem filL_out {J0 : am_L} {d k N : Nat} {v : Nat → Int64} {j : Nat} (h : j < k ∨ k + N ≤ j) : filL J0 d k N v d j = J0 d j := by
  unfold filL
  rw [if_pos rfl, if_neg (by omega)]
theorem am_filI {β : Type} (l : Nat → Nat → am_I → β) (N d k : Nat) (v : Nat → Int32) (ex : am_I → β) (J0 : am_I) (hN : N < 1000000)
    (hs : ∀ n i J, i < N → (∀ b, b ≠ d → J b = J0 b) → (∀ j, j < k ∨ k + i ≤ j → J d j = J0 d j) → l (n + 1) i J = l n (i + 1) (am_upI J d (k + i) (v i)))
    (hx : ∀ n J, (∀ b, b ≠ d → J b = J0 b) → l (n + 1) N J = ex J) : l am_fu 0 J0 = ex (filI J0 d k N v) := by
  obtain ⟨J', e, h1, h2, h3⟩ := am_fillI l N d k v ex J0 hN hs hx
  have : J' = filI J0 d k N v := by
    funext b c
    by_cases hb : b = d
    · subst hb
      by_cases hc : k ≤ c ∧ c < k + N
      · have := h2 (c - k) (by omega)
        rw [show k + (c - k) = c by omega] at this
        rw [this]; simp [filI, hc]
      · rw [h3 c (by omega), filI_out (by omega)]
    · rw [h1 b hb, filI_ne hb]
  rw [e, this]
theorem am_filL {β : Type} (l : Nat → Nat → am_L → β) (N d k : Nat) (v : Nat → Int64) (ex : am_L → β) (J0 : am_L) (hN : N < 1000000)
    (hs : ∀ n i J, i < N → (∀ b, b ≠ d → J b = J0 b) → (∀ j, j < k ∨ k + i ≤ j → J d j = J0 d j) → l (n + 1) i J = l n (i + 1) (am_upL J d (k + i) (v i)))
    (hx : ∀ n J, (∀ b, b ≠ d → J b = J0 b) → l (n + 1) N J = ex J) : l am_fu 0 J0 = ex (filL J0 d k N v) := by
  obtain ⟨J', e, h1, h2, h3⟩ := am_fillL l N d k v ex J0 hN hs hx
  have : J' = filL J0 d k N v := by
    funext b c
    by_cases hb : b = d
    · subst hb
      by_cases hc : k ≤ c ∧ c < k + N
      · have := h2 (c - k) (by omega)
        rw [show k + (c - k) = c by omega] at this
        rw [this]; simp [filL, hc]
      · rw [h3 c (by omega), filL_out (by omega)]
    · rw [h1 b hb, filL_ne hb]
  rw [e, this]
section
variable {R : am_R} {I : am_I} {L : am_L} {J : am_I} {K : am_L}
theorem e_copyFrom {o p : Nat} {A : am_Au} (hA : isA I p (R p 3) A) (h1 : p ≠ o) (h2 : R p 3 ≠ o) (h3 : R p 3 ≠ R o 3) (h4 : o ≠ R o 3) : ∃ I', pX0_copyFrom R I o p = some I' ∧ isA I' o (R o 3) A ∧ ∀ b, b ≠ o → b ≠ R o 3 → I' b = I b := by
  unfold pX0_copyFrom
  simp only [am_let_e]
  generalize hI1 : am_upI I o 0 (I p 0) = I1
  have g1 : ∀ b, b ≠ o → I1 b = I b := fun b hb => by rw [← hI1, am_upI_ne hb]
  rw [g1 p h1]
  generalize hI2 : am_upI I1 o 1 (I p 1) = I2
  have g2 : ∀ b, b ≠ o → I2 b = I b := fun b hb => by rw [← hI2, am_upI_ne hb, g1 b hb]
  rw [g2 p h1]
  generalize hI3 : am_upI I2 o 2 (I p 2) = I3
  have g3 : ∀ b, b ≠ o → I3 b = I b := fun b hb => by rw [← hI3, am_upI_ne hb, g2 b hb]
  obtain ⟨I', e, f1, f2, f3⟩ := am_fillI (fun n i J => lX0_copyFrom_26 R o p n (nI i) J) 18 (R o 3) 0 (fun j => I (R p 3) j) (fun J => some J) I3 (by omega) (fun n i J hi hP _ => by
    simp only [lX0_copyFrom_26, sX0_copyFrom_26, ng18 hi, if_false, inb hi (show 18 < 1000000 by omega), am_ck_true, am_let_e, nIcl (show i < 1000000 by omega), nI_1, Nat.zero_add]
    rw [hP _ h3, g3 _ h2]) (fun n J _ => by
    simp only [lX0_copyFrom_26, sX0_copyFrom_26, yg18, if_true])
  have e : lX0_copyFrom_26 R o p am_fu (nI 0) I3 = some I' := e
  rw [nI_0] at e
  obtain ⟨a0, a1, a2, a3⟩ := hA
  refine ⟨I', e, ⟨?_, ?_, ?_, fun a s ha hs => ?_⟩, fun b x y => by rw [f1 b y, g3 b x]⟩
  · rw [f1 o h4, ← hI3, am_upI_o (by decide), ← hI2, am_upI_o (by decide), ← hI1, am_upI_s]; exact a0
  · rw [f1 o h4, ← hI3, am_upI_o (by decide), ← hI2, am_upI_s]; exact a1
  · rw [f1 o h4, ← hI3, am_upI_s]; exact a2
  · have := f2 (3 * s + a) (by omega)
    rw [Nat.zero_add] at this
    rw [this]; exact a3 a s ha hs
theorem e_copyWeights {a b : Nat} (hab : a ≠ b) : ∃ I', pX10_copyWeights I a b = some I' ∧ (∀ j, j < 3 → I' b j = I a j) ∧ ∀ c, c ≠ b → I' c = I c := by
  unfold pX10_copyWeights
  obtain ⟨I', e, f1, f2, f3⟩ := am_fillI (fun n i J => lX10_copyWeights_2 a b n (nI i) J) 3 b 0 (fun j => I a j) (fun J => some J) I (by omega) (fun n i J hi hP _ => by
    simp only [lX10_copyWeights_2, sX10_copyWeights_2, ng3 hi, if_false, inb hi (show 3 < 1000000 by omega), am_ck_true, am_let_e, nIcl (show i < 1000000 by omega), nI_1, Nat.zero_add, hP a hab]) (fun n J _ => by
    simp only [lX10_copyWeights_2, sX10_copyWeights_2, yg3, if_true])
  exact ⟨I', e, fun j hj => by have := f2 j hj; rwa [Nat.zero_add] at this, f1⟩
theorem ix18 (i : Nat) : (18 : Int32) + nI i = nI (18 + i) := by rw [show (18 : Int32) = nI 18 from rfl, nI_add]
theorem cl21 : Int32.toNatClampNeg (21 : Int32) = 21 := by decide
theorem cl22 : Int32.toNatClampNeg (22 : Int32) = 22 := by decide
theorem cl23 : Int32.toNatClampNeg (23 : Int32) = 23 := by decide
theorem in21 : am_inb (21 : Int32) 24 = true := by decide
theorem in22 : am_inb (22 : Int32) 24 = true := by decide
theorem in23 : am_inb (23 : Int32) 24 = true := by decide
theorem e_save33 (j : am_I → Option (Int32 × am_I)) (J0 : am_I) : lX11_save_33 rM 1 j am_fu 0 J0 = j (filI J0 32 18 3 (fun i => J0 4 i)) :=
  am_filI (fun n i J => lX11_save_33 rM 1 j n (nI i) J) 3 32 18 (fun i => J0 4 i) j J0 (by omega) (fun n i J' hi hP _ => by
    simp only [lX11_save_33, sX11_save_33, ng3 hi, if_false, inb hi (show 3 < 1000000 by omega), ix18, inb (show 18 + i < 24 by omega) (show 24 < 1000000 by omega), am_ck_true, am_let_e, nIcl (show i < 1000000 by omega), nIcl (show 18 + i < 1000000 by omega), nI_1, rM48, rM2, hP 4 (by decide)]) (fun n J' _ => by
    simp only [lX11_save_33, sX11_save_33, yg3, if_true])
theorem e_save7 (j : am_I → Option (Int32 × am_I)) (J0 : am_I) : lX11_save_7 rM 1 j am_fu 0 J0 = j (filI J0 32 0 18 (fun i => J0 2 i)) :=
  am_filI (fun n i J => lX11_save_7 rM 1 j n (nI i) J) 18 32 0 (fun i => J0 2 i) j J0 (by omega) (fun n i J' hi hP _ => by
    simp only [lX11_save_7, sX11_save_7, ng18 hi, if_false, inb hi (show 18 < 1000000 by omega), inb (show i < 24 by omega) (show 24 < 1000000 by omega), am_ck_true, am_let_e, nIcl (show i < 1000000 by omega), nI_1, Nat.zero_add, rM48, rM0, hP 2 (by decide)]) (fun n J' _ => by
    simp only [lX11_save_7, sX11_save_7, yg18, if_true])
theorem e_restore38 (j : am_I → Option (Int32 × am_I)) (J0 : am_I) : lX11_restore_38 rM 1 j am_fu 0 J0 = j (filI J0 4 0 3 (fun i => J0 32 (18 + i))) :=
  am_filI (fun n i J => lX11_restore_38 rM 1 j n (nI i) J) 3 4 0 (fun i => J0 32 (18 + i)) j J0 (by omega) (fun n i J' hi hP _ => by
    simp only [lX11_restore_38, sX11_restore_38, ng3 hi, if_false, inb hi (show 3 < 1000000 by omega), ix18, inb (show 18 + i < 24 by omega) (show 24 < 1000000 by omega), am_ck_true, am_let_e, nIcl (show i < 1000000 by omega), nIcl (show 18 + i < 1000000 by omega), nI_1, rM48, rM2, hP 32 (by decide), Nat.zero_add]) (fun n J' _ => by
    simp only [lX11_restore_38, sX11_restore_38, yg3, if_true])
theorem e_restore12 (j : am_I → Option (Int32 × am_I)) (J0 : am_I) : lX11_restore_12 rM 1 j am_fu 0 J0 = j (filI J0 2 0 18 (fun i => J0 32 i)) :=
  am_filI (fun n i J => lX11_restore_12 rM 1 j n (nI i) J) 18 2 0 (fun i => J0 32 i) j J0 (by omega) (fun n i J' hi hP _ => by
    simp only [lX11_restore_12, sX11_restore_12, ng18 hi, if_false, inb hi (show 18 < 1000000 by omega), inb (show i < 24 by omega) (show 24 < 1000000 by omega), am_ck_true, am_let_e, nIcl (show i < 1000000 by omega), nI_1, Nat.zero_add, rM48, rM0, hP 32 (by decide)]) (fun n J' _ => by
    simp only [lX11_restore_12, sX11_restore_12, yg18, if_true])
theorem st44 (h : Inv R I L J K) : ∃ r1 r2, pX10_save R I 1 = some r1 ∧ pX11_save rM J 1 = some r2 ∧ r1.1 = r2.1 ∧ Inv R r1.2 L r2.2 K := by
  obtain ⟨A, w, sv, tx, wd, rs, sh, ok, hc, hm⟩ := h
  obtain ⟨h0, h1, h2, h3, h4, h5, h6, h7, h8⟩ := hc
  obtain ⟨m1, m2, m3, m4, m5, m6, m7, m8⟩ := hm
  unfold pX10_save pX11_save
  rw [h0.r1_0, h0.r1_1, h0.r1_2, h0.r1_3]
  obtain ⟨I1, e1, f1, f2⟩ := e_copyFrom (R := R) (I := I) (o := 4) (p := 2) (A := A) (by rw [h0.r2_3]; exact h1) (by decide) (by rw [h0.r2_3]; decide) (by rw [h0.r2_3, h0.r4_3]; decide) (by rw [h0.r4_3]; decide)
  rw [h0.r4_3] at f1 f2
  obtain ⟨I2, e2, f3, f4⟩ := e_copyWeights (I := I1) (a := 6) (b := 7) (by decide)
  have fr : ∀ b, b ≠ 4 → b ≠ 5 → b ≠ 7 → b ≠ 1 → am_upI I2 1 4 1 b = I b := fun b x y z t => by rw [am_upI_ne t, f4 b z, f2 b x y]
  have fr1 : ∀ k, k ≠ 4 → am_upI I2 1 4 1 1 k = I 1 k := fun k hk => by rw [am_upI_o hk, f4 1 (by decide), f2 1 (by decide) (by decide)]
  have hr : R 1 15 ≠ 4 ∧ R 1 15 ≠ 5 ∧ R 1 15 ≠ 7 ∧ R 1 15 ≠ 1 := by rcases h0.2.1 with ⟨q, _⟩ | ⟨q, _⟩ <;> rw [q] <;> decide
  simp only [am_let_e, am_jn_e, e_save7, e_save33, in21, in22, in23, am_ck_true, cl21, cl22, cl23, rM48]
  generalize hJ1 : filI (am_upI J 1 49 1) 32 0 18 (fun i => am_upI J 1 49 1 2 i) = J1
  have a1 : ∀ b, b ≠ 32 → b ≠ 1 → J1 b = J b := fun b x y => by rw [← hJ1, filI_ne x, am_upI_ne y]
  have a2 : J1 1 = am_upI J 1 49 1 1 := by rw [← hJ1, filI_ne (by decide)]
  have a3 : ∀ i, i < 18 → J1 32 i = J 2 i := fun i hi => by rw [← hJ1, filI_at hi, am_upI_ne (by decide)]
  generalize hJ2 : filI J1 32 18 3 (fun i => J1 4 i) = J2
  have b1 : ∀ b, b ≠ 32 → b ≠ 1 → J2 b = J b := fun b x y => by rw [← hJ2, filI_ne x, a1 b x y]
  have b2 : J2 1 = am_upI J 1 49 1 1 := by rw [← hJ2, filI_ne (by decide), a2]
  have b3 : ∀ i, i < 18 → J2 32 i = J 2 i := fun i hi => by rw [← hJ2, filI_out (by omega), a3 i hi]
  have b4 : ∀ i, i < 3 → J2 32 (18 + i) = J 4 i := fun i hi => by rw [← hJ2, filI_in hi, a1 4 (by decide) (by decide)]
  have b5 : ∀ k, k ≠ 49 → J2 1 k = J 1 k := fun k hk => by rw [b2, am_upI_o hk]
  have u1 : ∀ (X : am_I) k v, am_upI X 32 k v 1 = X 1 := fun X k v => am_upI_ne (by decide)
  simp only [u1, b5 3 (by decide), b5 4 (by decide), b5 5 (by decide)]
  refine stI (v := nI A.1) (I' := am_upI I2 1 4 1) (J' := am_upI (am_upI (am_upI J2 32 21 (J 1 3)) 32 22 (J 1 4)) 32 23 (J 1 5)) ?_ ?_ ⟨A, w, some (A, w), tx, wd, rs, sh, ⟨ok.1, ok.2.1, fun q hq => by cases hq; exact ⟨ok.1, ok.2.1⟩, ok.2.2.2⟩, ⟨h0, h1.kept (fr 2 (by decide) (by decide) (by decide) (by decide)) (fr 3 (by decide) (by decide) (by decide) (by decide)), h2.kept (fr 6 (by decide) (by decide) (by decide) (by decide)), ⟨am_upI_s, f1.kept ?_ ?_, fun a ha => ?_⟩, h4.kept (fr 8 (by decide) (by decide) (by decide) (by decide)) (fr 9 (by decide) (by decide) (by decide) (by decide)), h5.kept (fr 10 (by decide) (by decide) (by decide) (by decide)) (fr 11 (by decide) (by decide) (by decide) (by decide)), h6.kept (fr1 17 (by decide)) (fr _ hr.1 hr.2.1 hr.2.2.1 hr.2.2.2) rfl rfl, h7.kept (fun b x y => fr b (by omega) (by omega) (by omega) (by omega)) (fun _ _ _ => rfl), h8.kept (fr 17 (by omega) (by omega) (by omega) (by omega)) (fr 18 (by omega) (by omega) (by omega) (by omega)) (fr 26 (by omega) (by omega) (by omega) (by omega)) (fr 27 (by omega) (by omega) (by omega) (by omega))⟩, ?_⟩
  · rw [e1, am_bd, e2, am_bd, fr 2 (by decide) (by decide) (by decide) (by decide), h1.1]
  · rw [m1.1]
  · rw [am_upI_ne (by decide), f4 4 (by decide)]
  · rw [am_upI_ne (by decide), f4 5 (by decide)]
  · rw [am_upI_ne (by decide), f3 a ha, f2 6 (by decide) (by decide)]; exact h2 a ha
  · generalize hJ3 : am_upI (am_upI (am_upI J2 32 21 (J 1 3)) 32 22 (J 1 4)) 32 23 (J 1 5) = J3
    have c1 : ∀ b, b ≠ 32 → b ≠ 1 → J3 b = J b := fun b x y => by rw [← hJ3, am_upI_ne x, am_upI_ne x, am_upI_ne x, b1 b x y]
    have c2 : ∀ k, k ≠ 49 → J3 1 k = J 1 k := fun k hk => by rw [← hJ3, u1, u1, u1, b5 k hk]
    have c3 : ∀ i, i < 21 → J3 32 i = J2 32 i := fun i hi => by rw [← hJ3, am_upI_o (by omega), am_upI_o (by omega), am_upI_o (by omega)]
    refine ⟨m1.kept (fun k x y => c2 k (by omega)) (c1 2 (by decide) (by decide)), m2.kept (c1 4 (by decide) (by decide)), ⟨?_, fun a s ha hs => ?_, fun a ha => ?_, ?_, ?_, ?_⟩, m4.kept (c2 12 (by decide)) (c1 7 (by decide) (by decide)), m5.kept (c2 16 (by decide)) (c1 9 (by decide) (by decide)), m6.kept (c2 40 (by decide)) rfl rfl, m7.kept (c1 28 (by decide) (by decide)) (c1 29 (by decide) (by decide)) rfl, m8.kept (c2 6 (by decide)) (fun k x y => c2 k (by omega)) (c1 17 (by decide) (by decide))⟩
    · rw [← hJ3, u1, u1, u1, b2, am_upI_s]
    · rw [c3 _ (by omega), b3 _ (by omega)]; exact m1.2.2.2 a s ha hs
    · rw [c3 _ (by omega), b4 a ha]; exact m2 a ha
    · rw [← hJ3, am_upI_o (by decide), am_upI_o (by decide), am_upI_s]; exact m1.1
    · rw [← hJ3, am_upI_o (by decide), am_upI_s]; exact m1.2.1
    · rw [← hJ3, am_upI_s]; exact m1.2.2.1
theorem st45 (h : Inv R I L J K) : ∃ r1 r2, pX10_restore R I 1 = some r1 ∧ pX11_restore rM J 1 = some r2 ∧ r1.1 = r2.1 ∧ Inv R r1.2 L r2.2 K := by
  obtain ⟨A, w, sv, tx, wd, rs, sh, ok, hc, hm⟩ := h
  have hS := hc.2.2.2.1
  have hMS := hm.2.2.1
  unfold pX10_restore pX11_restore
  cases sv with
  | none =>
    refine stI (v := -4) (I' := I) (J' := J) ?_ ?_ ⟨A, w, none, tx, wd, rs, sh, ok, hc, hm⟩
    · rw [if_pos (show I 1 4 = 0 from hS)]
    · rw [if_pos (show J 1 49 = 0 from hMS)]
  | some q =>
    obtain ⟨B, v⟩ := q
    obtain ⟨s1, s2, s3⟩ := hS
    obtain ⟨t1, t2, t3, t4, t5, t6⟩ := hMS
    obtain ⟨okB, okv⟩ := ok.2.2.1 _ rfl
    obtain ⟨h0, h1, h2, h3, h4, h5, h6, h7, h8⟩ := hc
    obtain ⟨m1, m2, m3, m4, m5, m6, m7, m8⟩ := hm
    rw [s1, t1, if_neg i10, if_neg i10, h0.r1_0, h0.r1_1, h0.r1_2, h0.r1_3]
    obtain ⟨I1, e1, f1, f2⟩ := e_copyFrom (R := R) (I := I) (o := 2) (p := 4) (A := B) (by rw [h0.r4_3]; exact s2) (by decide) (by rw [h0.r4_3]; decide) (by rw [h0.r2_3, h0.r4_3]; decide) (by rw [h0.r2_3]; decide)
    rw [h0.r2_3] at f1 f2
    obtain ⟨I2, e2, f3, f4⟩ := e_copyWeights (I := I1) (a := 7) (b := 6) (by decide)
    have fr : ∀ b, b ≠ 2 → b ≠ 3 → b ≠ 6 → I2 b = I b := fun b x y z => by rw [f4 b z, f2 b x y]
    have hr : R 1 15 ≠ 2 ∧ R 1 15 ≠ 3 ∧ R 1 15 ≠ 6 := by rcases h0.2.1 with ⟨q, _⟩ | ⟨q, _⟩ <;> rw [q] <;> decide
    simp only [am_let_e, am_jn_e, e_restore12, e_restore38, in21, in22, in23, am_ck_true, cl21, cl22, cl23, rM48]
    generalize hJ1 : filI J 2 0 18 (fun i => J 32 i) = J1
    have a1 : ∀ b, b ≠ 2 → J1 b = J b := fun b x => by rw [← hJ1, filI_ne x]
    have a3 : ∀ i, i < 18 → J1 2 i = J 32 i := fun i hi => by rw [← hJ1, filI_at hi]
    generalize hJ2 : filI J1 4 0 3 (fun i => J1 32 (18 + i)) = J2
    have b1 : ∀ b, b ≠ 2 → b ≠ 4 → J2 b = J b := fun b x y => by rw [← hJ2, filI_ne y, a1 b x]
    have b3 : ∀ i, i < 18 → J2 2 i = J 32 i := fun i hi => by rw [← hJ2, filI_ne (by decide), a3 i hi]
    have b4 : ∀ i, i < 3 → J2 4 i = J 32 (18 + i) := fun i hi => by rw [← hJ2, filI_at hi, a1 32 (by decide)]
    have u1 : ∀ (X : am_I) k v, am_upI X 1 k v 32 = X 32 := fun X k v => am_upI_ne (by decide)
    simp only [u1, b1 32 (by decide) (by decide), t4, t5, t6]
    generalize hJ3 : am_upI (am_upI (am_upI (am_upI J2 1 3 (nI B.1)) 1 4 B.2.1) 1 5 B.2.2.1) 1 6 0 = J3
    have c1 : ∀ b, b ≠ 1 → J3 b = J2 b := fun b x => by rw [← hJ3, am_upI_ne x, am_upI_ne x, am_upI_ne x, am_upI_ne x]
    have c2 : ∀ k, (k < 3 ∨ 6 < k) → J3 1 k = J 1 k := fun k hk => by rw [← hJ3, am_upI_o (by omega), am_upI_o (by omega), am_upI_o (by omega), am_upI_o (by omega), b1 1 (by decide) (by decide)]
    have c3 : J3 1 3 = nI B.1 := by rw [← hJ3, am_upI_o (by decide), am_upI_o (by decide), am_upI_o (by decide), am_upI_s]
    have c4 : J3 1 4 = B.2.1 := by rw [← hJ3, am_upI_o (by decide), am_upI_o (by decide), am_upI_s]
    have c5 : J3 1 5 = B.2.2.1 := by rw [← hJ3, am_upI_o (by decide), am_upI_s]
    have c6 : J3 1 6 = 0 := by rw [← hJ3, am_upI_s]
    have d1 : ∀ b, b ≠ 1 → b ≠ 2 → b ≠ 4 → J3 b = J b := fun b x y z => by rw [c1 b x, b1 b y z]
    refine stI (v := nI B.1) (I' := I2) (J' := J3) ?_ ?_ ⟨B, v, some (B, v), tx, wd, rs, sh, ⟨okB, okv, ok.2.2⟩, ⟨h0, f1.kept ?_ ?_, fun a ha => ?_, h3.kept (by rw [fr 1 (by decide) (by decide) (by decide)]) (fr 4 (by decide) (by decide) (by decide)) (fr 5 (by decide) (by decide) (by decide)) (fr 7 (by decide) (by decide) (by decide)), h4.kept (fr 8 (by decide) (by decide) (by decide)) (fr 9 (by decide) (by decide) (by decide)), h5.kept (fr 10 (by decide) (by decide) (by decide)) (fr 11 (by decide) (by decide) (by decide)), h6.kept (by rw [fr 1 (by decide) (by decide) (by decide)]) (fr _ hr.1 hr.2.1 hr.2.2) rfl rfl, h7.kept (fun b x y => fr b (by omega) (by omega) (by omega)) (fun _ _ _ => rfl), h8.kept (fr 17 (by omega) (by omega) (by omega)) (fr 18 (by omega) (by omega) (by omega)) (fr 26 (by omega) (by omega) (by omega)) (fr 27 (by omega) (by omega) (by omega))⟩, ⟨⟨c3, c4, c5, fun a s ha hs => ?_⟩, fun a ha => ?_, m3.kept (c2 49 (by omega)) (d1 32 (by decide) (by decide) (by decide)), m4.kept (c2 12 (by omega)) (d1 7 (by decide) (by decide) (by decide)), m5.kept (c2 16 (by omega)) (d1 9 (by decide) (by decide) (by decide)), m6.kept (c2 40 (by omega)) rfl rfl, m7.kept (d1 28 (by decide) (by decide) (by decide)) (d1 29 (by decide) (by decide) (by decide)) rfl, Or.inl c6⟩⟩
    · rw [e1, am_bd, e2, am_bd, f4 2 (by decide), f1.1]
    · rw [c3]
    · rw [f4 2 (by decide)]
    · rw [f4 3 (by decide)]
    · rw [f3 a ha, f2 7 (by decide) (by decide)]; exact s3 a ha
    · rw [c1 2 (by decide), b3 _ (by omega)]; exact t2 a s ha hs
    · rw [c1 4 (by decide), b4 a ha]; exact t3 a ha
/-! drawing -/
noncomputable def nxR (x : Int32) : Int32 := Classical.choose (⟨_, rfl⟩ : ∃ y : Int32, y = x * (1103515245 : Int32) + (12345 : Int32))
theorem nxR_e (x : Int32) : nxR x = x * (1103515245 : Int32) + (12345 : Int32) := Classical.choose_spec (⟨_, rfl⟩ : ∃ y : Int32, y = x * (1103515245 : Int32) + (12345 : Int32))
noncomputable def drR (x : Int32) (n : Nat) : Nat := Classical.choose (⟨_, rfl⟩ : ∃ m : Nat, m = x.toBitVec.toNat / 65536 % n)
theorem drR_e (x : Int32) (n : Nat) : drR x n = x.toBitVec.toNat / 65536 % n := Classical.choose_spec (⟨_, rfl⟩ : ∃ m : Nat, m = x.toBitVec.toNat / 65536 % n)
theorem ushr16 (x : Int32) : (Int32.toUInt32 x >>> (Int32.toUInt32 (16 : Int32) &&& Int32.toUInt32 31)).toInt32 = nI (x.toBitVec.toNat / 65536) := by
  have h := pk_ushr x 16 16 (by decide)
  apply Int32.toBitVec_inj.mp
  apply BitVec.eq_of_toNat_eq
  rw [h, pk_tn (by have := x.toBitVec.isLt; omega)]
theorem e_drw (x : Int32) {n : Nat} (h0 : 0 < n) (hn : n < 1000) : (Int32.toUInt32 x >>> (Int32.toUInt32 (16 : Int32) &&& Int32.toUInt32 31)).toInt32 - (Int32.toUInt32 x >>> (Int32.toUInt32 (16 : Int32) &&& Int32.toUInt32 31)).toInt32 / nI n * nI n = nI (drR x n) := by
  rw [ushr16, pk_rem (by have := x.toBitVec.isLt; omega) h0 (by omega), drR_e]
theorem drR_lt (x : Int32) {n : Nat} (h0 : 0 < n) : drR x n < n := by rw [drR_e]; exact Nat.mod_lt _ h0
/-- one transition is drawn -/
noncomputable def rnd (p : am_Au × Int32) : am_Au × Int32 :=
  (setT p.1 (drR (nxR (nxR p.2)) 3) (drR (nxR p.2) p.1.1) (p.1.2.2.2 (drR (nxR (nxR p.2)) 3) (drR (nxR p.2) p.1.1) ||| ((1 : Int32) <<< (nI (drR (nxR (nxR (nxR p.2))) p.1.1) &&& 31))), nxR (nxR (nxR p.2)))
theorem aw_rnd {p : am_Au × Int32} (hw : aw p.1) : aw (rnd p).1 := by
  have h1 := hw.1
  exact aw_setT hw (drR_lt _ (by omega)) (drR_lt _ (by omega)) (lon_orb (lon_T hw _ _) (drR_lt _ (by omega)) hw.2.1)
noncomputable def rndN (p : am_Au × Int32) (n : Nat) : am_Au × Int32 := am_to (fun _ p => rnd p) n p
theorem aw_rndN {p : am_Au × Int32} (hw : aw p.1) (n : Nat) : aw (rndN p n).1 := am_to_ind (fun p => aw p.1) n p (fun i q _ h => aw_rnd h) hw
theorem e_draw0 (x : Int32) {n : Nat} (h0 : 0 < n) (hn : n < 1000) : pX0_draw x (nI n) = some (nI (drR x n)) := by
  have c1 : (1 : Int32) ≤ nI n := nI_le (a := 1) (b := n) (by omega) (by omega)
  have c2 : (!(nI n == 0)) = true := by
    have : ¬ nI n = 0 := nI_ne0 h0 (by omega)
    simp [this]
  unfold pX0_draw
  rw [if_pos c1, c2, am_ck_true, e_drw x h0 hn]
theorem e_addRandom {o : Nat} {A : am_Au} (hA : isA I o (R o 3) A) (hw : aw A) (ho : o ≠ R o 3) (x : Int32) {n : Nat} (hn : n < 1000) : ∃ I', pX0_addRandom R I o x (nI n) = some I' ∧ isA I' o (R o 3) (rndN (A, x) n).1 ∧ ∀ b, b ≠ o → b ≠ R o 3 → I' b = I b := by
  unfold pX0_addRandom
  obtain ⟨s, e, h1, h2, h3⟩ := am_for0 (fun q i (s : Int32 × am_I) => lX0_addRandom_5 R o (nI n) q s.1 (nI i) s.2) n (fun i s => s.1 = (rndN (A, x) i).2 ∧ isA s.2 o (R o 3) (rndN (A, x) i).1 ∧ ∀ b, b ≠ o → b ≠ R o 3 → s.2 b = I b) (fun s => some s.2) (by omega) (fun q i s hi hP => by
      obtain ⟨p1, p2, p3⟩ := hP
      have hwi := aw_rndN (p := (A, x)) hw i
      have a1 := hwi.1
      have a6 := hwi.2.1
      generalize hB : rndN (A, x) i = B at p1 p2 hwi a1 a6
      have hB' : rndN (A, x) (i + 1) = rnd B := by rw [← hB]; rfl
      have d1 := drR_lt (nxR B.2) (n := B.1.1) (by omega)
      have d2 := drR_lt (nxR (nxR B.2)) (n := 3) (by omega)
      have d3 := drR_lt (nxR (nxR (nxR B.2))) (n := B.1.1) (by omega)
      have e3 : (3 : Int32) = nI 3 := rfl
      refine ⟨((rnd B).2, (if bt (B.1.2.2.2 (drR (nxR (nxR B.2)) 3) (drR (nxR B.2) B.1.1)) (drR (nxR (nxR (nxR B.2))) B.1.1) = true then ((0 : Int32), s.2) else (1, am_upI s.2 (R o 3) (3 * drR (nxR B.2) B.1.1 + drR (nxR (nxR B.2)) 3) (B.1.2.2.2 (drR (nxR (nxR B.2)) 3) (drR (nxR B.2) B.1.1) ||| ((1 : Int32) <<< (nI (drR (nxR (nxR (nxR B.2))) B.1.1) &&& 31))))).2), ?_, ?_, ?_, ?_⟩
      · simp only [lX0_addRandom_5, sX0_addRandom_5, nIge hi (show n < 1000000 by omega), if_false, pX0_nextRandom, am_bd, p1, p2.1, ← nxR_e, e3, e_draw0 _ (show 0 < B.1.1 by omega) (show B.1.1 < 1000 by omega), e_draw0 _ (show 0 < 3 by omega) (show 3 < 1000 by omega), e_add p2 hwi d1 d2 d3, nI_1]
        rfl
      · rw [hB']
      · rw [hB']
        by_cases hb : bt (B.1.2.2.2 (drR (nxR (nxR B.2)) 3) (drR (nxR B.2) B.1.1)) (drR (nxR (nxR (nxR B.2))) B.1.1) = true
        · rw [if_pos hb]
          have : (rnd B).1 = B.1 := setT_same (or_same (by omega) hb).symm
          rw [this]; exact p2
        · rw [if_neg hb]
          exact isA_setT p2 ho d2 _
      · intro b x y
        by_cases hb : bt (B.1.2.2.2 (drR (nxR (nxR B.2)) 3) (drR (nxR B.2) B.1.1)) (drR (nxR (nxR (nxR B.2))) B.1.1) = true
        · rw [if_pos hb]; exact p3 b x y
        · rw [if_neg hb]
          show am_upI s.2 (R o 3) _ _ b = I b
          rw [am_upI_ne y]; exact p3 b x y) (fun q s hP => by
      simp only [lX0_addRandom_5, sX0_addRandom_5, nIle (show n < 1000000 by omega), if_true]) (x, I) ⟨rfl, hA, fun _ _ _ => rfl⟩
  exact ⟨s.2, e, h2, h3⟩
theorem e_drawM {J : am_I} {n : Nat} (h0 : 0 < n) (hn : n < 1000) : pX11_draw J 1 (nI n) = some (nI (drR (nxR (J 1 9)) n), am_upI J 1 9 (nxR (J 1 9))) := by
  have c2 : (!(nI n == 0)) = true := by
    have : ¬ nI n = 0 := nI_ne0 h0 (by omega)
    simp [this]
  unfold pX11_draw
  rw [am_let_e, c2, am_ck_true, am_upI_s, ← nxR_e, e_drw _ h0 hn]
theorem e_rstepM {J : am_I} {A : am_Au} (hA : isM J A) {n i : Nat} (hi : i < n) (hn : n < 1000) (h6 : A.1 ≤ 6) {j : am_I → Option (Int32 × am_I)} {ih : Int32 → am_I → Option (Int32 × am_I)} {s a t : Nat} {x1 x2 x3 : Int32} (hs : s < A.1) (ha : a < 3)
    (d1 : pX11_draw J 1 (nI A.1) = some (nI s, am_upI J 1 9 x1)) (d2 : pX11_draw (am_upI J 1 9 x1) 1 (3 : Int32) = some (nI a, am_upI (am_upI J 1 9 x1) 1 9 x2))
    (d3 : pX11_draw (am_upI (am_upI J 1 9 x1) 1 9 x2) 1 (nI A.1) = some (nI t, am_upI (am_upI (am_upI J 1 9 x1) 1 9 x2) 1 9 x3)) :
    sX11_randomize_22 rM 1 (nI n) j ih (nI i) J = ih (nI (i + 1)) (am_upI (am_upI (am_upI (am_upI J 1 9 x1) 1 9 x2) 1 9 x3) 2 (6 * a + s) (A.2.2.2 a s ||| ((1 : Int32) <<< (nI t &&& 31)))) := by
  have u4 : am_upI (am_upI J 1 9 x1) 1 9 x2 1 3 = nI A.1 := by rw [am_upI_o (by decide), am_upI_o (by decide)]; exact hA.1
  have u5 : am_upI (am_upI J 1 9 x1) 1 9 x2 2 (6 * a + s) = A.2.2.2 a s := by rw [am_upI_ne (by decide), am_upI_ne (by decide)]; exact hA.2.2.2 a s ha (by omega)
  unfold sX11_randomize_22
  rw [if_neg (nIge hi (by omega)), hA.1, d1, am_bd]
  show Option.bind (pX11_draw (am_upI J 1 9 x1) 1 (3 : Int32)) _ = _
  rw [d2, am_bd]
  show am_ck (am_inb (((6 : Int32) * nI a) + nI s) 18) (Option.bind (pX11_draw (am_upI (am_upI J 1 9 x1) 1 9 x2) 1 (am_upI (am_upI J 1 9 x1) 1 9 x2 1 3)) _) = _
  rw [ix6, inb (show 6 * a + s < 18 by omega) (show 18 < 1000000 by omega), am_ck_true, u4, d3, am_bd]
  rw [am_ck_true, am_let_e, nIcl (show 6 * a + s < 1000000 by omega), rM0, nI_1]
  show ih (nI (i + 1)) (am_upI (am_upI (am_upI (am_upI J 1 9 x1) 1 9 x2) 1 9 x3) 2 (6 * a + s) (am_upI (am_upI J 1 9 x1) 1 9 x2 2 (6 * a + s) ||| ((1 : Int32) <<< (nI t &&& 31)))) = _
  rw [u5]
theorem e_randM {A : am_Au} (hA : isM J A) (hw : aw A) {n : Nat} (hn : n < 1000) (j : am_I → Option (Int32 × am_I)) : ∃ J', lX11_randomize_22 rM 1 (nI n) j am_fu 0 J = j J' ∧ isM J' (rndN (A, J 1 9) n).1 ∧ (∀ b, b ≠ 1 → b ≠ 2 → J' b = J b) ∧ ∀ k, k ≠ 9 → J' 1 k = J 1 k := by
  obtain ⟨J', e, h1, h2, h3, h4⟩ := am_for0 (fun q i J => lX11_randomize_22 rM 1 (nI n) j q (nI i) J) n (fun i J' => J' 1 9 = (rndN (A, J 1 9) i).2 ∧ isM J' (rndN (A, J 1 9) i).1 ∧ (∀ b, b ≠ 1 → b ≠ 2 → J' b = J b) ∧ ∀ k, k ≠ 9 → J' 1 k = J 1 k) j (by omega) (fun q i J' hi hP => by
      obtain ⟨p1, p2, p3, p4⟩ := hP
      have hwi := aw_rndN (p := (A, J 1 9)) hw i
      have a1 := hwi.1
      have a6 := hwi.2.1
      generalize hB : rndN (A, J 1 9) i = B at p1 p2 hwi a1 a6
      have hB' : rndN (A, J 1 9) (i + 1) = rnd B := by rw [← hB]; rfl
      have d1 := drR_lt (nxR B.2) (n := B.1.1) (by omega)
      have d2 := drR_lt (nxR (nxR B.2)) (n := 3) (by omega)
      have d3 := drR_lt (nxR (nxR (nxR B.2))) (n := B.1.1) (by omega)
      have e3 : (3 : Int32) = nI 3 := rfl
      have q3 : J' 1 3 = nI B.1.1 := p2.1
      generalize hJ1 : am_upI (am_upI (am_upI J' 1 9 (nxR B.2)) 1 9 (nxR (nxR B.2))) 1 9 (nxR (nxR (nxR B.2))) = J1
      have r1 : ∀ b, b ≠ 1 → J1 b = J' b := fun b hb => by rw [← hJ1, am_upI_ne hb, am_upI_ne hb, am_upI_ne hb]
      have r2 : ∀ k, k ≠ 9 → J1 1 k = J' 1 k := fun k hk => by rw [← hJ1, am_upI_o hk, am_upI_o hk, am_upI_o hk]
      have r3 : J1 1 9 = nxR (nxR (nxR B.2)) := by rw [← hJ1, am_upI_s]
      have r4 : isM J1 B.1 := p2.kept (fun k x y => r2 k (by omega)) (r1 2 (by decide))
      refine ⟨am_upI J1 2 (6 * drR (nxR (nxR B.2)) 3 + drR (nxR B.2) B.1.1) (B.1.2.2.2 (drR (nxR (nxR B.2)) 3) (drR (nxR B.2) B.1.1) ||| ((1 : Int32) <<< (nI (drR (nxR (nxR (nxR B.2))) B.1.1) &&& 31))), ?_, ?_, ?_, ?_, ?_⟩
      · have z1 := e_drawM (J := J') (n := B.1.1) (by omega) (by omega)
        have z2 := e_drawM (J := am_upI J' 1 9 (nxR B.2)) (n := 3) (by omega) (by omega)
        have z3 := e_drawM (J := am_upI (am_upI J' 1 9 (nxR B.2)) 1 9 (nxR (nxR B.2))) (n := B.1.1) (by omega) (by omega)
        rw [p1] at z1
        rw [am_upI_s] at z2 z3
        have z := e_rstepM (n := n) (i := i) (j := j) (ih := lX11_randomize_22 rM 1 (nI n) j q) p2 hi hn (by omega) d1 d2 z1 z2 z3
        rw [hJ1] at z
        exact z
      · rw [hB', am_upI_ne (by decide), r3]; rfl
      · rw [hB']; exact isM_setT r4 (by omega) _
      · intro b x y; rw [am_upI_ne y, r1 b x]; exact p3 b x y
      · intro k hk; rw [am_upI_ne (by decide), r2 k hk]; exact p4 k hk) (fun q J' hP => by
      simp only [lX11_randomize_22, sX11_randomize_22, nIle (show n < 1000000 by omega), if_true]) J ⟨rfl, hA, fun _ _ _ => rfl, fun _ _ => rfl⟩
  exact ⟨J', e, h2, h3, h4⟩
theorem st12 (h : Inv R I L J K) (x y : Int32) : ∃ r1 r2, pX10_randomize R I 1 x y = some r1 ∧ pX11_randomize rM J 1 x y = some r2 ∧ r1.1 = r2.1 ∧ Inv R r1.2 L r2.2 K := by
  obtain ⟨A, w, sv, tx, wd, rs, sh, ok, hc, hm⟩ := h
  have hA3 : isA I 2 (R 2 3) A := by rw [hc.1.r2_3]; exact hc.2.1
  have hw := ok.1
  unfold pX10_randomize pX11_randomize
  rw [hc.1.r1_0]
  have rM' := rngM (n := 20) (by omega) (x := y) (M := 20) rfl (hi := 20) (by decide)
  rcases rng (n := 20) (by omega) (x := y) (M := 20) rfl with hy | ⟨hy, h2⟩
  · rw [rM'.1 hy]
    obtain ⟨n, hn, rfl⟩ := hy
    have c1 : ¬ nI n < 0 := nI_pos (by omega)
    have c2 : nI n ≤ (20 : Int32) := nI_le (a := n) (b := 20) (by omega) (by omega)
    obtain ⟨I', e1, f1, f2⟩ := e_addRandom hA3 hw (by rw [hc.1.r2_3]; decide) x (n := n) (by omega)
    obtain ⟨J', e2, g1, g2, g3⟩ := e_randM (J := am_upI J 1 9 x) (A := A) (hm.1.kept (fun k _ _ => am_upI_o (by omega)) (am_upI_ne (by decide))) hw (n := n) (by omega) (fun J5 => am_let (am_upI J5 1 6 0) (fun J6 => Option.bind (pX11_transitionCount rM J6 1) (fun r7 => some (r7, J6))))
    rw [am_upI_s] at g1
    have hwn := aw_rndN (p := (A, x)) hw n
    have g4 : isM (am_upI J' 1 6 0) (rndN (A, x) n).1 := isM_1 g1 (by omega) 0
    refine stI (v := nI (cntA (rndN (A, x) n).1)) (I' := I') (J' := am_upI J' 1 6 0) ?_ ?_ ⟨(rndN (A, x) n).1, w, sv, tx, wd, rs, sh, ⟨hwn, ok.2⟩, hc.aut (by rw [hc.1.r2_3] at f1; exact f1) (fun b x y => f2 b x (by rw [hc.1.r2_3]; exact y)), hm.aut g4 (fun b x y => ?_) (fun k x y => ?_) am_upI_s⟩
    · rw [if_neg c1, if_pos c2, e1, am_bd, e_countTransitions f1 hwn, am_bd]
    · rw [am_bd, if_neg i10, am_let_e, am_jn_e, e2, am_let_e, e_transitionCountM g4, am_bd]
    · have hb : b ≠ 1 := fun q => by subst q; cases x
      rw [am_upI_ne hb, g2 b hb y, am_upI_ne hb]
    · have hk : k ≠ 9 := fun q => by subst q; cases x
      rw [am_upI_o (by omega), g3 k hk, am_upI_o hk]
  · refine stI (v := -2) (I' := I) (J' := J) ?_ ?_ ⟨A, w, sv, tx, wd, rs, sh, ok, hc, hm⟩
    · rcases h2 with h2 | ⟨h2, h3⟩
      · rw [if_pos h2]
      · rw [if_neg h2, if_neg h3]
    · rw [rM'.2 hy, am_bd, if_pos rfl]
end
