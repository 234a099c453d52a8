/-! the reference: costs, and the lightest word -/
section
variable {A : am_Au} {J : am_I} {K : am_L} {w : Nat → Nat}
/-- done up to state s, letter a, target t -/
def dD (s a t : Nat) : Nat → Nat → Nat → Prop := fun s' a' y => s' < s ∨ (s' = s ∧ (a' < a ∨ (a' = a ∧ y < t)))
theorem eF_lt (hw : aw A) {a s y : Nat} (h : eF A a s y) : s < A.1 ∧ y < A.1 := by
  have h' : bt (A.2.2.2 a s) y = true := h
  refine ⟨Nat.lt_of_not_le fun q => ?_, Nat.lt_of_not_le fun q => ?_⟩
  · rw [hw.2.2.2.2 a s (Or.inl q), bt_zero] at h'; cases h'
  · rw [hw.2.2.2.1 a s y q] at h'; cases h'
theorem isM.off (h : isM J A) {J' : am_I} (e : ∀ b, b ≠ 21 → J' b = J b) : isM J' A := h.kept (fun _ _ _ => by rw [e 1 (by decide)]) (e 2 (by decide))
theorem e_fl67 (hw : aw A) (hk : okW w) {r s a : Nat} (hs : s < A.1) (ha : a < 3) {J : am_I} {c : Nat → Nat} (hM : isM J A) (hW : mW J w) (hc : csM J 21 c) (hp : PH A w 16 c r (dD s a 0)) (v19 : Int32) (j : am_I → Option (Int32 × am_I)) :
    ∃ J' c', lX11_findLightest_67 rM 1 v19 (nI s) (nI a) j am_fu (0 : Int32) J = j J' ∧ csM J' 21 c' ∧ PH A w 16 c' r (dD s (a + 1) 0) ∧ ∀ b, b ≠ 21 → J' b = J b := by
  have h6 := hw.2.1
  obtain ⟨J', e, ⟨c', h1, h2⟩, h3⟩ := am_for0 (fun n i J => lX11_findLightest_67 rM 1 v19 (nI s) (nI a) j n (nI i) J) A.1 (fun i J' => (∃ c, csM J' 21 c ∧ PH A w 16 c r (dD s a i)) ∧ ∀ b, b ≠ 21 → J' b = J b) (fun J => j J) (by omega) (fun n i J1 hi hP => by
    obtain ⟨⟨c, p1, p2⟩, p3⟩ := hP
    have hM1 : isM J1 A := hM.off p3
    have hW1 : J1 4 a = nI (w a) := by rw [p3 4 (by decide)]; exact hW a ha
    have hwa := hk a ha
    have hcs := p2.2.1 s (by omega)
    have hci := p2.2.1 i (by omega)
    have e16 : nI (c i) + (16 : Int32) * nI (w a) + (1 : Int32) = nI (c i + (16 * w a + 1)) := by rw [show (16 : Int32) = nI 16 from rfl, pk_mul, nI_add, nI_1, Nat.add_assoc]
    have e6 : (6 : Int32) * nI a + nI s = nI (6 * a + s) := by rw [show (6 : Int32) = nI 6 from rfl, pk_mul, nI_add]
    have hs0 : lX11_findLightest_67 rM 1 v19 (nI s) (nI a) j (n + 1) (nI i) J1 = sX11_findLightest_67 rM 1 v19 (nI s) (nI a) j (lX11_findLightest_67 rM 1 v19 (nI s) (nI a) j n) (nI i) J1 := rfl
    by_cases q : bt (A.2.2.2 a s) i = true
    · by_cases g : c s ≤ c i + (16 * w a + 1)
      · refine ⟨J1, ?_, ⟨c, p1, ?_⟩, p3⟩
        · rw [hs0]
          unfold sX11_findLightest_67
          rw [hM1.1, if_neg (nIge hi (by omega)), inb (show i < 6 by omega) (by omega), am_ck_true, inb ha (by omega), am_ck_true, am_let_e, e6, inb (show 6 * a + s < 18 by omega) (by omega), am_ck_true, rM33, rM2, rM0, nIcl (show i < 1000000 by omega), nIcl (show a < 1000000 by omega), nIcl (show 6 * a + s < 1000000 by omega), nIcl (show s < 1000000 by omega), p1 i (by omega), p1 s (by omega), hW1, hM1.2.2.2 a s ha (by omega), e_hb _ (show i < 32 by omega), am_bd, am_jn_e, q, if_neg (show ¬ bI true = 0 by decide), inb (show s < 6 by omega) (by omega), am_ck_true, e16, if_pos (nI_le g (by omega)), nI_1]
        · exact ⟨p2.1, p2.2.1, p2.2.2.1, fun s' a' y v hs' hy hD hd he hv hl => by
            by_cases z : dD s a i s' a' y
            · exact p2.2.2.2 s' a' y v hs' hy z hd he hv hl
            · have zz : s' = s ∧ a' = a ∧ y = i := by unfold dD at z hD; omega
              obtain ⟨rfl, rfl, rfl⟩ := zz
              have := p2.2.2.1 y hy v (wdl_cons.mp hd).2 hv hl
              rw [Nat.mul_add]
              omega⟩
      · refine ⟨am_upI J1 21 s (nI (c i + (16 * w a + 1))), ?_, ⟨updN c s (c i + (16 * w a + 1)), fun x hx => ?_, p2.upd (s := s) (a := a) (by omega) ha (by omega) (Or.inr ⟨i, by omega, q, by omega, rfl⟩) (fun s' a' y hy hD => ?_)⟩, fun b x => by rw [am_upI_ne x]; exact p3 b x⟩
        · rw [hs0]
          unfold sX11_findLightest_67
          rw [hM1.1, if_neg (nIge hi (by omega)), inb (show i < 6 by omega) (by omega), am_ck_true, inb ha (by omega), am_ck_true, am_let_e, e6, inb (show 6 * a + s < 18 by omega) (by omega), am_ck_true, rM33, rM2, rM0, nIcl (show i < 1000000 by omega), nIcl (show a < 1000000 by omega), nIcl (show 6 * a + s < 1000000 by omega), nIcl (show s < 1000000 by omega), p1 i (by omega), p1 s (by omega), hW1, hM1.2.2.2 a s ha (by omega), e_hb _ (show i < 32 by omega), am_bd, am_jn_e, q, if_neg (show ¬ bI true = 0 by decide), inb (show s < 6 by omega) (by omega), am_ck_true, e16, if_neg (nI_ge (show c i + (16 * w a + 1) < c s by omega) (by omega)), am_ck_true, am_let_e, nI_1]
        · unfold updN
          by_cases e : x = s
          · rw [e, am_upI_s, if_pos rfl]
          · rw [am_upI_o e, if_neg e]; exact p1 x hx
        · by_cases z : dD s a i s' a' y
          · exact Or.inl z
          · have zz : s' = s ∧ a' = a ∧ y = i := by unfold dD at z hD; omega
            obtain ⟨rfl, rfl, rfl⟩ := zz
            exact Or.inr ⟨rfl, rfl, fun _ => Nat.le_refl _⟩
    · refine ⟨J1, ?_, ⟨c, p1, p2.more (fun s' a' y hs' _ hy he hD => ?_)⟩, p3⟩
      · rw [hs0]
        unfold sX11_findLightest_67
        rw [hM1.1, if_neg (nIge hi (by omega)), inb (show i < 6 by omega) (by omega), am_ck_true, inb ha (by omega), am_ck_true, am_let_e, e6, inb (show 6 * a + s < 18 by omega) (by omega), am_ck_true, rM33, rM2, rM0, nIcl (show i < 1000000 by omega), nIcl (show a < 1000000 by omega), nIcl (show 6 * a + s < 1000000 by omega), hM1.2.2.2 a s ha (by omega), e_hb _ (show i < 32 by omega), am_bd, am_jn_e, Bool.eq_false_iff.mpr q, if_pos (show bI false = 0 from rfl), nI_1]
      · by_cases z : dD s a i s' a' y
        · exact z
        · have zz : s' = s ∧ a' = a ∧ y = i := by unfold dD at z hD; omega
          obtain ⟨rfl, rfl, rfl⟩ := zz
          exact absurd he q) (fun n J1 hP => by
    have hM1 : isM J1 A := hM.off hP.2
    show sX11_findLightest_67 rM 1 v19 (nI s) (nI a) j (lX11_findLightest_67 rM 1 v19 (nI s) (nI a) j n) (nI A.1) J1 = _
    unfold sX11_findLightest_67
    rw [hM1.1, if_pos (nIle (by omega))]) J ⟨⟨c, hc, hp⟩, fun _ _ => rfl⟩
  refine ⟨J', c', e, h1, h2.more (fun s' a' y _ _ _ he hD => ?_), h3⟩
  have := (eF_lt hw he).2
  unfold dD at hD ⊢
  omega
theorem e_fl59 (hw : aw A) (hk : okW w) {r s : Nat} (hs : s < A.1) {J : am_I} {c : Nat → Nat} (hM : isM J A) (hW : mW J w) (hc : csM J 21 c) (hp : PH A w 16 c r (dD s 0 0)) (v19 : Int32) (j : am_I → Option (Int32 × am_I)) :
    ∃ J' c', lX11_findLightest_59 rM 1 v19 (nI s) j am_fu (0 : Int32) J = j J' ∧ csM J' 21 c' ∧ PH A w 16 c' r (dD (s + 1) 0 0) ∧ ∀ b, b ≠ 21 → J' b = J b := by
  obtain ⟨J', e, ⟨c', h1, h2⟩, h3⟩ := am_for0 (fun n i J => lX11_findLightest_59 rM 1 v19 (nI s) j n (nI i) J) 3 (fun i J' => (∃ c, csM J' 21 c ∧ PH A w 16 c r (dD s i 0)) ∧ ∀ b, b ≠ 21 → J' b = J b) (fun J => j J) (by omega) (fun n i J1 hi hP => by
    obtain ⟨⟨c, p1, p2⟩, p3⟩ := hP
    obtain ⟨J', c', e1, q1, q2, q3⟩ := e_fl67 (r := r) hw hk hs hi (hM.off p3) (show mW J1 w from fun a ha => by rw [p3 4 (by decide)]; exact hW a ha) p1 p2 v19 (fun (J38 : am_I) => lX11_findLightest_59 rM 1 v19 (nI s) j n (nI i + (1 : Int32)) J38)
    refine ⟨J', ?_, ⟨c', q1, q2⟩, fun b x => (q3 b x).trans (p3 b x)⟩
    show sX11_findLightest_59 rM 1 v19 (nI s) j (lX11_findLightest_59 rM 1 v19 (nI s) j n) (nI i) J1 = _
    unfold sX11_findLightest_59
    rw [if_neg (ng3 hi), am_jn_e, e1, nI_1]) (fun n J1 _ => by
    show sX11_findLightest_59 rM 1 v19 (nI s) j (lX11_findLightest_59 rM 1 v19 (nI s) j n) (nI 3) J1 = _
    unfold sX11_findLightest_59
    rw [if_pos yg3]) J ⟨⟨c, hc, hp⟩, fun _ _ => rfl⟩
  refine ⟨J', c', e, h1, h2.more (fun s' a' y _ ha' _ he hD => ?_), h3⟩
  unfold dD at hD ⊢
  omega
theorem e_fl49 (hw : aw A) (hk : okW w) {r : Nat} {J : am_I} {c : Nat → Nat} (hM : isM J A) (hW : mW J w) (hc : csM J 21 c) (hp : PH A w 16 c r (fun _ _ _ => False)) (v19 : Int32) (j : am_I → Option (Int32 × am_I)) :
    ∃ J' c', lX11_findLightest_49 rM 1 v19 j am_fu (0 : Int32) J = j J' ∧ csM J' 21 c' ∧ PH A w 16 c' (r + 1) (fun _ _ _ => False) ∧ ∀ b, b ≠ 21 → J' b = J b := by
  have h6 := hw.2.1
  obtain ⟨J', e, ⟨c', h1, h2⟩, h3⟩ := am_for0 (fun n i J => lX11_findLightest_49 rM 1 v19 j n (nI i) J) A.1 (fun i J' => (∃ c, csM J' 21 c ∧ PH A w 16 c r (dD i 0 0)) ∧ ∀ b, b ≠ 21 → J' b = J b) (fun J => j J) (by omega) (fun n i J1 hi hP => by
    obtain ⟨⟨c, p1, p2⟩, p3⟩ := hP
    have hM1 : isM J1 A := hM.off p3
    obtain ⟨J', c', e1, q1, q2, q3⟩ := e_fl59 (r := r) hw hk hi hM1 (show mW J1 w from fun a ha => by rw [p3 4 (by decide)]; exact hW a ha) p1 p2 v19 (fun (J31 : am_I) => lX11_findLightest_49 rM 1 v19 j n (nI i + (1 : Int32)) J31)
    refine ⟨J', ?_, ⟨c', q1, q2⟩, fun b x => (q3 b x).trans (p3 b x)⟩
    show sX11_findLightest_49 rM 1 v19 j (lX11_findLightest_49 rM 1 v19 j n) (nI i) J1 = _
    unfold sX11_findLightest_49
    rw [hM1.1, if_neg (nIge hi (by omega)), am_jn_e, e1, nI_1]) (fun n J1 hP => by
    have hM1 : isM J1 A := hM.off hP.2
    show sX11_findLightest_49 rM 1 v19 j (lX11_findLightest_49 rM 1 v19 j n) (nI A.1) J1 = _
    unfold sX11_findLightest_49
    rw [hM1.1, if_pos (nIle (by omega))]) J ⟨⟨c, hc, hp.more (fun s' a' y _ _ _ _ h => by unfold dD at h; omega)⟩, fun _ _ => rfl⟩
  exact ⟨J', c', e, h1, h2.next (fun s a y _ _ _ he => by have := (eF_lt hw he).1; unfold dD; omega), h3⟩
theorem e_flBest (hw : aw A) {J : am_I} {c : Nat → Nat} (hM : isM J A) (hc : csM J 21 c) (hb : ∀ s, s < 6 → c s ≤ 1000000) : ∃ m, lX11_findLightest_166 rM 1 J am_fu (1000000 : Int32) (0 : Int32) = some (nI m, J) ∧ m ≤ 1000000 ∧ (m = 1000000 ∨ ∃ s, s < 6 ∧ bt A.2.1 s = true ∧ c s = m) ∧ ∀ s, s < 6 → bt A.2.1 s = true → m ≤ c s := by
  have h6 := hw.2.1
  obtain ⟨m, e, h1, h2, h3⟩ := am_for0 (fun n i (m : Nat) => lX11_findLightest_166 rM 1 J n (nI m) (nI i)) A.1 (fun i m => m ≤ 1000000 ∧ (m = 1000000 ∨ ∃ s, s < 6 ∧ bt A.2.1 s = true ∧ c s = m) ∧ ∀ s, s < i → bt A.2.1 s = true → m ≤ c s) (fun m => some (nI m, J)) (by omega) (fun n i m hi hP => by
    obtain ⟨p1, p2, p3⟩ := hP
    have hs : lX11_findLightest_166 rM 1 J (n + 1) (nI m) (nI i) = sX11_findLightest_166 rM 1 J (lX11_findLightest_166 rM 1 J n) (nI m) (nI i) := rfl
    have hbi := hb i (by omega)
    by_cases q : bt A.2.1 i = true
    · by_cases g : m ≤ c i
      · refine ⟨m, ?_, p1, p2, fun s hs hx => ?_⟩
        · rw [hs]
          unfold sX11_findLightest_166
          rw [hM.1, if_neg (nIge hi (by omega)), hM.2.1, e_hb _ (show i < 32 by omega), am_bd, am_jn_e, am_jn_e, q, if_neg (show ¬ bI true = 0 by decide), inb (show i < 6 by omega) (by omega), am_ck_true, rM33, nIcl (show i < 1000000 by omega), hc i (by omega), if_pos (nI_le g (by omega)), nI_1]
        · by_cases e : s = i
          · rw [e]; exact g
          · exact p3 s (by omega) hx
      · refine ⟨c i, ?_, hbi, Or.inr ⟨i, by omega, q, rfl⟩, fun s hs hx => ?_⟩
        · rw [hs]
          unfold sX11_findLightest_166
          rw [hM.1, if_neg (nIge hi (by omega)), hM.2.1, e_hb _ (show i < 32 by omega), am_bd, am_jn_e, am_jn_e, q, if_neg (show ¬ bI true = 0 by decide), inb (show i < 6 by omega) (by omega), am_ck_true, rM33, nIcl (show i < 1000000 by omega), hc i (by omega), if_neg (nI_ge (show c i < m by omega) (by omega)), am_ck_true, nI_1]
        · by_cases e : s = i
          · rw [e]; exact Nat.le_refl _
          · have := p3 s (by omega) hx
            omega
    · refine ⟨m, ?_, p1, p2, fun s hs hx => ?_⟩
      · rw [hs]
        unfold sX11_findLightest_166
        rw [hM.1, if_neg (nIge hi (by omega)), hM.2.1, e_hb _ (show i < 32 by omega), am_bd, am_jn_e, am_jn_e, Bool.eq_false_iff.mpr q, if_pos (show bI false = 0 from rfl), nI_1]
      · by_cases e : s = i
        · rw [e] at hx; exact absurd hx q
        · exact p3 s (by omega) hx) (fun n m _ => by
    show sX11_findLightest_166 rM 1 J (lX11_findLightest_166 rM 1 J n) (nI m) (nI A.1) = _
    unfold sX11_findLightest_166
    rw [hM.1, if_pos (nIle (by omega))]) 1000000 ⟨Nat.le_refl _, Or.inl rfl, fun s hs => absurd hs (Nat.not_lt_zero s)⟩
  rw [nI_0] at e
  refine ⟨m, e, h1, h2, fun s hs hx => h3 s (Nat.lt_of_not_le fun q => ?_) hx⟩
  rw [(hw.2.2.1 s q).1] at hx; cases hx
theorem e_findLightest (hw : aw A) (hk : okW w) (hM : isM J A) (hW : mW J w) : ∃ m J' c, pX11_findLightest rM J 1 = some (nI m, J') ∧ csM J' 21 c ∧ csD A w 16 c ∧ (∀ s, s < 6 → c s ≤ 1000000) ∧ (∀ b, b ≠ 21 → J' b = J b) ∧ ((m = 1000000 ∧ NL A) ∨ ∃ W n, m = 16 * W + n ∧ mnD A w W n ∧ W ≤ 500 ∧ n ≤ 5) := by
  have h6 := hw.2.1
  unfold pX11_findLightest
  rw [am_jn_e]
  obtain ⟨k166, hk166⟩ : ∃ k : am_I → Option (Int32 × am_I), k = fun (J4 : am_I) => lX11_findLightest_166 rM 1 J4 am_fu (1000000 : Int32) (0 : Int32) := ⟨_, rfl⟩
  rw [← hk166]
  obtain ⟨k41, hk41⟩ : ∃ k : am_I → Option (Int32 × am_I), k = fun (J2 : am_I) => am_jn k166 (fun j3 => lX11_findLightest_41 rM 1 j3 am_fu (0 : Int32) J2) := ⟨_, rfl⟩
  rw [← hk41]
  obtain ⟨J1, e, g1, g3⟩ := am_for0 (fun n i J => lX11_findLightest_2 rM 1 k41 n (nI i) J) 6 (fun i J' => (∀ s, s < i → J' 21 s = nI (if bt A.2.2.1 s = true then 0 else 1000000)) ∧ ∀ b, b ≠ 21 → J' b = J b) (fun J => k41 J) (by omega) (fun n i J1 hi hP => by
    obtain ⟨p1, p2⟩ := hP
    refine ⟨am_upI J1 21 i (nI (if bt A.2.2.1 i = true then 0 else 1000000)), ?_, fun s hs => ?_, fun b x => by rw [am_upI_ne x]; exact p2 b x⟩
    · show sX11_findLightest_2 rM 1 k41 (lX11_findLightest_2 rM 1 k41 n) (nI i) J1 = _
      unfold sX11_findLightest_2
      rw [if_neg (ng6 hi), p2 1 (by decide), hM.2.2.1, e_hb _ (show i < 32 by omega), am_bd, am_let_e, inb hi (by omega), am_ck_true, am_let_e, rM33, nIcl (show i < 1000000 by omega), nI_1]
      cases bt A.2.2.1 i <;> rfl
    · by_cases e : s = i
      · rw [e, am_upI_s]
      · rw [am_upI_o e]; exact p1 s (by omega)) (fun n J1 _ => by
    show sX11_findLightest_2 rM 1 k41 (lX11_findLightest_2 rM 1 k41 n) (nI 6) J1 = _
    unfold sX11_findLightest_2
    rw [if_pos yg6]) J ⟨fun s hs => absurd hs (Nat.not_lt_zero s), fun _ _ => rfl⟩
  rw [nI_0] at e
  try dsimp only at e
  obtain ⟨J2, e2, ⟨c, h2, h3⟩, h4⟩ := am_for0 (fun n i J => lX11_findLightest_41 rM 1 k166 n (nI i) J) 12 (fun i J' => (∃ c, csM J' 21 c ∧ PH A w 16 c i (fun _ _ _ => False)) ∧ ∀ b, b ≠ 21 → J' b = J1 b) (fun J => k166 J) (by omega) (fun n i J2 hi hP => by
    obtain ⟨⟨c, p1, p2⟩, p3⟩ := hP
    have p3' : ∀ b, b ≠ 21 → J2 b = J b := fun b x => (p3 b x).trans (g3 b x)
    obtain ⟨J', c', e1, q1, q2, q3⟩ := e_fl49 (r := i) hw hk (hM.off p3') (show mW J2 w from fun a ha => by rw [p3' 4 (by decide)]; exact hW a ha) p1 p2 (nI i) (fun (J24 : am_I) => lX11_findLightest_41 rM 1 k166 n (nI i + (1 : Int32)) J24)
    refine ⟨J', ?_, ⟨c', q1, q2⟩, fun b x => (q3 b x).trans (p3 b x)⟩
    show sX11_findLightest_41 rM 1 k166 (lX11_findLightest_41 rM 1 k166 n) (nI i) J2 = _
    unfold sX11_findLightest_41
    rw [if_neg (show ¬ (12 : Int32) ≤ nI i from nI_ge (b := 12) hi (by omega)), am_jn_e, e1, nI_1]) (fun n J2 _ => by
    show sX11_findLightest_41 rM 1 k166 (lX11_findLightest_41 rM 1 k166 n) (nI 12) J2 = _
    unfold sX11_findLightest_41
    rw [if_pos (show (12 : Int32) ≤ nI 12 from nI_le (a := 12) (Nat.le_refl _) (by omega))]) J1 ⟨⟨fun s => if bt A.2.2.1 s = true then 0 else 1000000, fun s hs => g1 s hs, PH.ini (fun s _ => rfl)⟩, fun _ _ => rfl⟩
  rw [nI_0] at e2
  try dsimp only at e2
  have h4' : ∀ b, b ≠ 21 → J2 b = J b := fun b x => (h4 b x).trans (g3 b x)
  obtain ⟨m, e3, m1, m2, m3⟩ := e_flBest hw (hM.off h4') h2 h3.2.1
  have hD : csD A w 16 c := csD_of hw hk (Or.inr rfl) h3.1 (r := 12) (by omega) h3.2.2.1
  refine ⟨m, J2, c, ?_, h2, hD, h3.2.1, h4', mn_of hw hk (Or.inr rfl) hD m2 m3⟩
  rw [e, hk41]
  dsimp only
  rw [am_jn_e, e2, hk166]
  exact e3
/-! spelling it -/
theorem nI_sub2 {c x p : Nat} (hc : c < 1000001) (hx : x < 2000000) (hp : p < 1000000) : nI c = nI x - nI p - (1 : Int32) ↔ nI c = nI x - nI (p + 1) := by
  rw [nI_sub_eq (by omega) hx (by omega)]
  constructor
  · intro e
    have e2 : nI (c + 1) = nI x - nI p := by rw [← nI_1, e, Int32.sub_add_cancel]
    have := (nI_sub_eq (by omega) hx (by omega)).mp e2
    omega
  · intro e
    have e2 := (nI_sub_eq (c := c + 1) (x := x) (p := p) (by omega) hx (by omega)).mpr (by omega)
    rw [← e2, ← nI_1, Int32.add_sub_cancel]
theorem e_goesLight (hw : aw A) (hk : okW w) (hM : isM J A) (hW : mW J w) {c : Nat → Nat} (hc : csM J 21 c) (hD : csD A w 16 c) {W n b : Nat} (hWb : W ≤ 500) (hn : n ≤ 5) (hb : b < 3) (X : Int32) :
    ∃ Y, pX11_goesLight rM J 1 X (nI b) (nI (16 * W + (n + 1))) = some Y ∧ (∀ y, bt Y y = true → y < 6) ∧ ∀ y, hX Y y ↔ w b ≤ W ∧ nl A w (hX X) b (W - w b) n y := by
  have h6 := hw.2.1
  have hwb := hk b hb
  have hcb : ∀ y, y < 6 → c y ≤ 1000000 := fun y hy => by
    rcases hD y hy with ⟨e, _⟩ | ⟨W', n', z, e⟩
    · omega
    · have := z.w5 hw hk
      have := z.n5 hw
      omega
  have e := am_forF (fun n' i (v : Int32) => lX11_goesLight_14 rM J 1 (nI b) (nI (16 * W + (n + 1))) (stp A X b) n' v (nI i)) A.1 (fun i v => v ||| (if bt (stp A X b) i = true ∧ nI (c i) = nI (16 * W + (n + 1)) - nI (16 * w b + 1) then (1 : Int32) <<< (nI i &&& 31) else 0)) (fun v => some v) (by omega) (fun n' i v hi => by
    have e16 : (16 : Int32) * nI (w b) = nI (16 * w b) := by rw [show (16 : Int32) = nI 16 from rfl, pk_mul]
    show sX11_goesLight_14 rM J 1 (nI b) (nI (16 * W + (n + 1))) (stp A X b) (lX11_goesLight_14 rM J 1 (nI b) (nI (16 * W + (n + 1))) (stp A X b) n') v (nI i) = _
    unfold sX11_goesLight_14
    rw [hM.1, if_neg (nIge hi (by omega)), e_hb _ (show i < 32 by omega), am_bd, am_jn_e, am_jn_e, inb (show i < 6 by omega) (by omega), am_ck_true, inb hb (by omega), am_ck_true, rM33, rM2, nIcl (show i < 1000000 by omega), nIcl (show b < 1000000 by omega), hc i (by omega), hW b hb, e16]
    dsimp only
    rw [am_let_e, am_let_e, nI_1]
    have hs2 := nI_sub2 (c := c i) (x := 16 * W + (n + 1)) (p := 16 * w b) (by have := hcb i (by omega); omega) (by omega) (by omega)
    by_cases q : bt (stp A X b) i = true
    · by_cases g : nI (c i) = nI (16 * W + (n + 1)) - nI (16 * w b + 1)
      · rw [if_pos (show bt (stp A X b) i = true ∧ nI (c i) = nI (16 * W + (n + 1)) - nI (16 * w b + 1) from ⟨q, g⟩), if_neg (show ¬ bI (bt (stp A X b) i) = 0 by rw [q]; decide), if_pos (hs2.mpr g)]
      · rw [if_neg (show ¬ (bt (stp A X b) i = true ∧ nI (c i) = nI (16 * W + (n + 1)) - nI (16 * w b + 1)) from fun h => g h.2), if_neg (show ¬ bI (bt (stp A X b) i) = 0 by rw [q]; decide), if_neg (fun h => g (hs2.mp h))]
    · rw [if_neg (show ¬ (bt (stp A X b) i = true ∧ nI (c i) = nI (16 * W + (n + 1)) - nI (16 * w b + 1)) from fun h => q h.1), if_pos (show bI (bt (stp A X b) i) = 0 by rw [Bool.eq_false_iff.mpr q]; rfl)]) (fun n' v => by
    show sX11_goesLight_14 rM J 1 (nI b) (nI (16 * W + (n + 1))) (stp A X b) (lX11_goesLight_14 rM J 1 (nI b) (nI (16 * W + (n + 1))) (stp A X b) n') v (nI A.1) = _
    unfold sX11_goesLight_14
    rw [hM.1, if_pos (nIle (by omega))]) 0
  rw [nI_0] at e
  have hbt : ∀ y, bt (am_to (fun i v => v ||| (if bt (stp A X b) i = true ∧ nI (c i) = nI (16 * W + (n + 1)) - nI (16 * w b + 1) then (1 : Int32) <<< (nI i &&& 31) else 0)) A.1 0) y = true ↔ y < A.1 ∧ bt (stp A X b) y = true ∧ nI (c y) = nI (16 * W + (n + 1)) - nI (16 * w b + 1) := fun y => by
    rw [bt_to_or]
    constructor
    · rintro (h | ⟨s, hs, h⟩)
      · rw [bt_zero] at h; cases h
      · by_cases q : bt (stp A X b) s = true ∧ nI (c s) = nI (16 * W + (n + 1)) - nI (16 * w b + 1)
        · rw [if_pos q, bt_1s (by omega)] at h
          rw [of_decide_eq_true h]; exact ⟨hs, q⟩
        · rw [if_neg q, bt_zero] at h; cases h
    · rintro ⟨hy, q⟩
      exact Or.inr ⟨y, hy, by rw [if_pos q, bt_1s (by omega)]; exact decide_eq_true rfl⟩
  refine ⟨_, ?_, fun y hy => Nat.lt_of_lt_of_le ((hbt y).mp hy).1 h6, fun y => ?_⟩
  · unfold pX11_goesLight
    rw [e_step hM hw X hb, am_bd]
    exact e
  · constructor
    · rintro ⟨hy, g⟩
      obtain ⟨_, g2, g3⟩ := (hbt y).mp g
      obtain ⟨s, q1, q2, q3⟩ := bt_stp.mp g2
      obtain ⟨z1, z2⟩ := (cs_next hw hk (Or.inr rfl) hD hWb hn hb hy).mp g3
      exact ⟨z1, hy, ⟨s, by omega, ⟨by omega, q2⟩, q3⟩, z2⟩
    · rintro ⟨z1, hy, ⟨s, q1, ⟨_, q2⟩, q3⟩, z2⟩
      have := eF_lt hw q3
      exact ⟨hy, (hbt y).mpr ⟨this.2, bt_stp.mpr ⟨s, this.1, q2, q3⟩, (cs_next hw hk (Or.inr rfl) hD hWb hn hb hy).mpr ⟨z1, z2⟩⟩⟩
theorem e_sl96 (hw : aw A) (hk : okW w) (hM : isM J A) (hW : mW J w) {c : Nat → Nat} (hc : csM J 21 c) (hD : csD A w 16 c) {W n : Nat} (hWb : W ≤ 500) (hn : n ≤ 5) {X : Int32} {x : Nat} (hx : hX X x) (hdx : dst A w x W (n + 1)) (v9 : Int32) (j : Int32 → Int32 → Option (Int32 × am_I)) :
    ∃ a Y, a < 3 ∧ Option.bind (pX11_goesLight rM J 1 X (0 : Int32) (nI (16 * W + (n + 1)))) (fun r13 => lX11_spellLightest_96 rM 1 (nI (16 * W + (n + 1))) X v9 J j am_fu (0 : Int32) r13) = j (nI a) Y ∧ w a ≤ W ∧ (∃ y, nl A w (hX X) a (W - w a) n y) ∧ (∀ b, b < a → w b ≤ W → ∀ y, ¬ nl A w (hX X) b (W - w b) n y) ∧ hX Y = nl A w (hX X) a (W - w a) n := by
  obtain ⟨f, hf⟩ : ∃ f, am_fu = f + 3 := ⟨am_fu - 3, by have := am_fu_ge; omega⟩
  rw [hf]
  obtain ⟨Y0, i0, l0, g0⟩ := e_goesLight (b := 0) hw hk hM hW hc hD hWb hn (by omega) X
  obtain ⟨Y1, i1, l1, g1⟩ := e_goesLight (b := 1) hw hk hM hW hc hD hWb hn (by omega) X
  obtain ⟨Y2, i2, l2, g2⟩ := e_goesLight (b := 2) hw hk hM hW hc hD hWb hn (by omega) X
  rw [nI_0] at i0
  rw [i0, am_bd]
  have a0 : lX11_spellLightest_96 rM 1 (nI (16 * W + (n + 1))) X v9 J j (f + 3) (0 : Int32) Y0 = if Y0 = 0 then lX11_spellLightest_96 rM 1 (nI (16 * W + (n + 1))) X v9 J j (f + 2) (nI 1) Y1 else j (nI 0) Y0 := by
    show sX11_spellLightest_96 rM 1 (nI (16 * W + (n + 1))) X v9 J j (lX11_spellLightest_96 rM 1 (nI (16 * W + (n + 1))) X v9 J j (f + 2)) (nI 0) Y0 = _
    unfold sX11_spellLightest_96
    rw [nI_1, i1, am_bd]
  have a1 : lX11_spellLightest_96 rM 1 (nI (16 * W + (n + 1))) X v9 J j (f + 2) (nI 1) Y1 = if Y1 = 0 then lX11_spellLightest_96 rM 1 (nI (16 * W + (n + 1))) X v9 J j (f + 1) (nI 2) Y2 else j (nI 1) Y1 := by
    show sX11_spellLightest_96 rM 1 (nI (16 * W + (n + 1))) X v9 J j (lX11_spellLightest_96 rM 1 (nI (16 * W + (n + 1))) X v9 J j (f + 1)) (nI 1) Y1 = _
    unfold sX11_spellLightest_96
    rw [nI_1, i2, am_bd]
  have a2 : ¬ Y2 = 0 → lX11_spellLightest_96 rM 1 (nI (16 * W + (n + 1))) X v9 J j (f + 1) (nI 2) Y2 = j (nI 2) Y2 := fun q => by
    show sX11_spellLightest_96 rM 1 (nI (16 * W + (n + 1))) X v9 J j (lX11_spellLightest_96 rM 1 (nI (16 * W + (n + 1))) X v9 J j f) (nI 2) Y2 = _
    unfold sX11_spellLightest_96
    rw [if_neg q]
  have no : ∀ {Y : Int32} {b : Nat}, (∀ y, hX Y y ↔ w b ≤ W ∧ nl A w (hX X) b (W - w b) n y) → Y = 0 → w b ≤ W → ∀ y, ¬ nl A w (hX X) b (W - w b) n y := fun {Y b} g e hb y hy => by
    have := (g y).mpr ⟨hb, hy⟩
    rw [e] at this
    have := this.2
    rw [bt_zero] at this
    cases this
  have yes : ∀ {Y : Int32} {b : Nat}, (∀ y, bt Y y = true → y < 6) → (∀ y, hX Y y ↔ w b ≤ W ∧ nl A w (hX X) b (W - w b) n y) → ¬ Y = 0 → w b ≤ W ∧ (∃ y, nl A w (hX X) b (W - w b) n y) ∧ hX Y = nl A w (hX X) b (W - w b) n := fun {Y b} l g e => by
    have h1 : w b ≤ W ∧ ∃ y, nl A w (hX X) b (W - w b) n y := by
      apply Classical.byContradiction
      intro h
      apply e
      refine (bt_ne0 l).mpr fun y hy => h ?_
      have := (g y).mp hy
      exact ⟨this.1, y, this.2⟩
    exact ⟨h1.1, h1.2, funext fun y => propext ((g y).trans ⟨fun q => q.2, fun q => ⟨h1.1, q⟩⟩)⟩
  by_cases q0 : Y0 = 0
  · have n0 := no g0 q0
    by_cases q1 : Y1 = 0
    · have n1 := no g1 q1
      have q2 : ¬ Y2 = 0 := fun q2 => by
        have n2 := no g2 q2
        obtain ⟨a, ha, hwa, y, hy⟩ := LSp_go (here := hX X) hx hx.1 hdx
        have : a = 0 ∨ a = 1 ∨ a = 2 := by omega
        rcases this with rfl | rfl | rfl
        · exact n0 hwa y hy
        · exact n1 hwa y hy
        · exact n2 hwa y hy
      obtain ⟨y1, y2, y3⟩ := yes l2 g2 q2
      refine ⟨2, Y2, by omega, by rw [a0, if_pos q0, a1, if_pos q1, a2 q2], y1, y2, fun b hb => ?_, y3⟩
      have hb2 : b = 0 ∨ b = 1 := by omega
      rcases hb2 with rfl | rfl
      · exact n0
      · exact n1
    · obtain ⟨y1, y2, y3⟩ := yes l1 g1 q1
      refine ⟨1, Y1, by omega, by rw [a0, if_pos q0, a1, if_neg q1], y1, y2, fun b hb => ?_, y3⟩
      have hb2 : b = 0 := by omega
      subst hb2
      exact n0
  · obtain ⟨y1, y2, y3⟩ := yes l0 g0 q0
    exact ⟨0, Y0, by omega, by rw [a0, if_neg q0], y1, y2, fun b hb => absurd hb (Nat.not_lt_zero b), y3⟩
theorem e_sl75 (hw : aw A) (hk : okW w) {c : Nat → Nat} (hD : csD A w 16 c) {N : Nat} : ∀ (n f i W : Nat) (X : Int32) (J : am_I), isM J A → mW J w → csM J 21 c → J 1 25 = nI N → i + n = N → N ≤ 5 → W ≤ 500 → n < f → (∃ x, hX X x) → (∀ x, hX X x → dst A w x W n) →
    ∃ v J', lX11_spellLightest_75 rM 1 f (nI (16 * W + n)) X (nI i) J = some (nI N, J') ∧ v.length = n ∧ LSp A w (hX X) W v ∧ (∀ j, j < n → J' 14 (i + j) = nI (v.getD j 0)) ∧ (∀ j, j < i → J' 14 j = J 14 j) ∧ ∀ b, b ≠ 14 → J' b = J b := by
  intro n
  induction n with
  | zero =>
    intro f i W X J hM hWt hc h0 hi hN hW hf ⟨x, hx⟩ hh
    obtain ⟨f, rfl⟩ : ∃ g, f = g + 1 := ⟨f - 1, by omega⟩
    have e0 := (hh x hx).w0
    subst e0
    have hi' : i = N := by omega
    subst hi'
    refine ⟨[], J, ?_, rfl, trivial, fun j hj => absurd hj (Nat.not_lt_zero j), fun _ _ => rfl, fun _ _ => rfl⟩
    show sX11_spellLightest_75 rM 1 (lX11_spellLightest_75 rM 1 f) (nI (16 * 0 + 0)) X (nI i) J = _
    unfold sX11_spellLightest_75
    rw [h0, if_pos (nIle (by omega))]
  | succ n ih =>
    intro f i W X J hM hWt hc h0 hi hN hW hf ⟨x, hx⟩ hh
    obtain ⟨f, rfl⟩ : ∃ g, f = g + 1 := ⟨f - 1, by omega⟩
    obtain ⟨j1, hj1⟩ : ∃ j : Int32 → Int32 → Option (Int32 × am_I), j = fun (v15 : Int32) (v16 : Int32) =>
      am_ck (am_inb (nI i) 216) (
      am_let (am_upI J (rM 1 22) (Int32.toNatClampNeg (nI i)) v15) (fun J18 =>
      am_ck (am_inb v15 3) (
      am_let (nI (16 * W + (n + 1)) - (((16 : Int32) * (J18 (rM 1 2) (Int32.toNatClampNeg v15))) + (1 : Int32))) (fun v20 =>
      lX11_spellLightest_75 rM 1 f v20 v16 (nI i + (1 : Int32)) J18)))) := ⟨_, rfl⟩
    obtain ⟨a, Y, ha, e1, a2, a3, a4, eH⟩ := e_sl96 hw hk hM hWt hc hD hW (show n ≤ 5 by omega) hx (hh x hx) (nI i) j1
    have hwa := hk a ha
    have es : nI (16 * W + (n + 1)) - nI (16 * w a + 1) = nI (16 * (W - w a) + n) := ((nI_sub_eq (by omega) (by omega) (by omega)).mpr (by omega)).symm
    obtain ⟨v, J', q1, q2, q3, q5, q6, q7⟩ := ih f (i + 1) (W - w a) Y (am_upI J 14 i (nI a)) (hM.kept (fun _ _ _ => by rw [am_upI_ne (by decide)]) (am_upI_ne (by decide))) (show mW (am_upI J 14 i (nI a)) w from fun b hb => by rw [am_upI_ne (by decide)]; exact hWt b hb) (by unfold csM; rw [am_upI_ne (by decide)]; exact hc) (by rw [am_upI_ne (by decide)]; exact h0) (by omega) hN (by omega) (by omega) (by rw [eH]; exact a3) (by rw [eH]; exact fun y hy => hy.2.2)
    refine ⟨a :: v, J', ?_, by rw [List.length_cons, q2], ⟨ha, a2, ?_, ?_, ?_⟩, fun j hj => ?_, fun j hj => ?_, fun b x => ?_⟩
    · show sX11_spellLightest_75 rM 1 (lX11_spellLightest_75 rM 1 f) (nI (16 * W + (n + 1))) X (nI i) J = _
      unfold sX11_spellLightest_75
      rw [h0, if_neg (nIge (show i < N by omega) (by omega))]
      refine (congrArg (fun k => Option.bind (pX11_goesLight rM J 1 X (0 : Int32) (nI (16 * W + (n + 1)))) k) (funext fun r13 => ?_)).trans (e1.trans ?_)
      · rw [am_jn_e, hj1]
      · rw [hj1]
        dsimp only
        rw [inb (show i < 216 by omega) (by omega), am_ck_true, am_let_e, inb ha (by omega), am_ck_true, am_let_e, rM22, rM2, nIcl (show i < 1000000 by omega), nIcl (show a < 1000000 by omega), am_upI_ne (show (4 : Nat) ≠ 14 by decide), hWt a ha, show (16 : Int32) = nI 16 from rfl, pk_mul, nI_1, es, nI_1]
        exact q1
    · rw [q2]; exact a3
    · rw [q2]; exact a4
    · rw [q2, ← eH]; exact q3
    · cases j with
      | zero =>
        rw [Nat.add_zero, q6 i (by omega), am_upI_s]
        rfl
      | succ j =>
        rw [show i + (j + 1) = i + 1 + j by omega, q5 j (by omega)]
        rfl
    · rw [q6 j (by omega), am_upI_o (by omega)]
    · rw [q7 b x, am_upI_ne x]
theorem e_spellLightest (hw : aw A) (hk : okW w) (hM : isM J A) (hW : mW J w) : ∃ r J', pX11_spellLightest rM J 1 = some (r, J') ∧ (∀ b, b ≠ 1 → b ≠ 14 → b ≠ 21 → J' b = J b) ∧ (∀ k, k ≠ 25 → J' 1 k = J 1 k) ∧ ((r = -4 ∧ NL A) ∨ ∃ W v, LW A w W v ∧ r = nI v.length ∧ v.length ≤ 5 ∧ ∀ j, j < v.length → J' 14 j = nI (v.getD j 0)) := by
  have h6 := hw.2.1
  obtain ⟨m, J1, c, e1, h1, h2, h3, h4, h5⟩ := e_findLightest hw hk hM hW
  have hM1 : isM J1 A := hM.off h4
  unfold pX11_spellLightest
  rw [e1, am_bd]
  dsimp only
  rw [show (1000000 : Int32) = nI 1000000 from rfl]
  rcases h5 with ⟨rfl, hn⟩ | ⟨W, n, rfl, hm, hWb, hn5⟩
  · rw [if_pos rfl]
    exact ⟨_, J1, rfl, fun b _ _ x => h4 b x, fun k _ => by rw [h4 1 (by decide)], Or.inl ⟨rfl, hn⟩⟩
  · rw [if_neg (fun h => by have := (nI_eq (by omega) (by omega)).mp h; omega), am_jn_e]
    obtain ⟨j3, hj3⟩ : ∃ j : Int32 → Option (Int32 × am_I), j = fun (v4 : Int32) => am_let (am_upI J1 1 25 (nI (16 * W + n) - nI (16 * W + n) / (16 : Int32) * (16 : Int32))) (fun J5 => lX11_spellLightest_75 rM 1 am_fu (nI (16 * W + n)) v4 (0 : Int32) J5) := ⟨_, rfl⟩
    rw [← hj3]
    have e := am_forF (fun n' i (v : Int32) => lX11_spellLightest_19 rM 1 (nI (16 * W + n)) J1 j3 n' v (nI i)) A.1 (fun i v => v ||| (if bt A.2.1 i = true ∧ c i = 16 * W + n then (1 : Int32) <<< (nI i &&& 31) else 0)) (fun v => j3 v) (by omega) (fun n' i v hi => by
      show sX11_spellLightest_19 rM 1 (nI (16 * W + n)) J1 j3 (lX11_spellLightest_19 rM 1 (nI (16 * W + n)) J1 j3 n') v (nI i) = _
      unfold sX11_spellLightest_19
      rw [hM1.1, if_neg (nIge hi (by omega)), hM1.2.1, e_hb _ (show i < 32 by omega), am_bd, am_jn_e, am_jn_e, inb (show i < 6 by omega) (by omega), am_ck_true, rM33, nIcl (show i < 1000000 by omega), h1 i (by omega)]
      dsimp only
      rw [am_let_e, am_let_e, nI_1]
      have hs2 : nI (c i) = nI (16 * W + n) ↔ c i = 16 * W + n := nI_eq (by have := h3 i (by omega); omega) (by omega)
      by_cases q : bt A.2.1 i = true
      · by_cases g : c i = 16 * W + n
        · rw [if_pos (show bt A.2.1 i = true ∧ c i = 16 * W + n from ⟨q, g⟩), if_neg (show ¬ bI (bt A.2.1 i) = 0 by rw [q]; decide), if_pos (hs2.mpr g)]
        · rw [if_neg (show ¬ (bt A.2.1 i = true ∧ c i = 16 * W + n) from fun h => g h.2), if_neg (show ¬ bI (bt A.2.1 i) = 0 by rw [q]; decide), if_neg (fun h => g (hs2.mp h))]
      · rw [if_neg (show ¬ (bt A.2.1 i = true ∧ c i = 16 * W + n) from fun h => q h.1), if_pos (show bI (bt A.2.1 i) = 0 by rw [Bool.eq_false_iff.mpr q]; rfl)]) (fun n' v => by
      show sX11_spellLightest_19 rM 1 (nI (16 * W + n)) J1 j3 (lX11_spellLightest_19 rM 1 (nI (16 * W + n)) J1 j3 n') v (nI A.1) = _
      unfold sX11_spellLightest_19
      rw [hM1.1, if_pos (nIle (by omega))]) 0
    rw [nI_0] at e
    try dsimp only at e
    rw [e, hj3]
    obtain ⟨Y, hY⟩ : ∃ Y, Y = am_to (fun i v => v ||| (if bt A.2.1 i = true ∧ c i = 16 * W + n then (1 : Int32) <<< (nI i &&& 31) else 0)) A.1 0 := ⟨_, rfl⟩
    rw [← hY]
    have g : ∀ y, bt Y y = true ↔ y < A.1 ∧ bt A.2.1 y = true ∧ c y = 16 * W + n := fun y => by
      rw [hY, bt_to_or]
      constructor
      · rintro (h | ⟨s, hs, h⟩)
        · rw [bt_zero] at h; cases h
        · by_cases q : bt A.2.1 s = true ∧ c s = 16 * W + n
          · rw [if_pos q, bt_1s (by omega)] at h
            rw [of_decide_eq_true h]; exact ⟨hs, q⟩
          · rw [if_neg q, bt_zero] at h; cases h
      · rintro ⟨hy, q⟩
        exact Or.inr ⟨y, hy, by rw [if_pos q, bt_1s (by omega)]; exact decide_eq_true rfl⟩
    have eY : hX Y = hr0 A w W n := funext fun x => propext ⟨fun ⟨hx, q⟩ => by
      obtain ⟨_, q2, q4⟩ := (g x).mp q
      rcases h2 x hx with ⟨z, _⟩ | ⟨W', n', z, z2⟩
      · omega
      · have a1 := z.w5 hw hk
        have a2 := z.n5 hw
        have a3 : W' = W ∧ n' = n := by omega
        rw [a3.1, a3.2] at z
        exact ⟨hx, q2, z⟩, fun ⟨hx, q2, z⟩ => by
      refine ⟨hx, (g x).mpr ⟨Nat.lt_of_not_le fun q => ?_, q2, ?_⟩⟩
      · rw [(hw.2.2.1 x q).1] at q2; cases q2
      · rcases h2 x hx with ⟨_, z'⟩ | ⟨W', n', z', z2⟩
        · obtain ⟨⟨v, b1, b2, _⟩, _⟩ := z
          exact absurd b2 (z' v b1)
        · obtain ⟨a1, a2⟩ := z.uniq z'
          rw [z2, a1, a2]⟩
    have en : nI (16 * W + n) - nI (16 * W + n) / (16 : Int32) * (16 : Int32) = nI n := by
      rw [show (16 : Int32) = nI 16 from rfl, pk_div (by omega) (by omega) (by omega), pk_mul, pk_sub (by omega)]
      congr 1; omega
    dsimp only
    rw [en, am_let_e]
    obtain ⟨v, J', q1, q2, q3, q5, _, q7⟩ := e_sl75 (N := n) hw hk h2 n am_fu 0 W Y (am_upI J1 1 25 (nI n)) (hM1.kept (fun k _ _ => by rw [am_upI_o (by omega)]) (am_upI_ne (by decide))) (show mW (am_upI J1 1 25 (nI n)) w from fun b hb => by rw [am_upI_ne (by decide), h4 4 (by decide)]; exact hW b hb) (by unfold csM; rw [am_upI_ne (by decide)]; exact h1) am_upI_s (by omega) hn5 hWb (by have := am_fu_ge; omega) (by
      rw [eY]
      obtain ⟨⟨x, a⟩, _⟩ := hm
      exact ⟨x, a⟩) (by rw [eY]; exact fun x hx => hx.2.2)
    rw [nI_0] at q1
    refine ⟨_, J', q1, fun b x1 x2 x3 => by rw [q7 b x2, am_upI_ne x1]; exact h4 b x3, fun k hk2 => by rw [q7 1 (by decide), am_upI_o hk2, h4 1 (by decide)], Or.inr ⟨W, v, ⟨?_, ?_⟩, by rw [q2], by omega, fun j hj => ?_⟩⟩
    · rw [q2]; exact hm
    · rw [q2, ← eY]; exact q3
    · have := q5 j (by omega)
      rw [Nat.zero_add] at this
      exact this
end
