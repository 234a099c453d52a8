/-! costs, round by round; the class's costs -/
section
variable {R : am_R} {A : am_Au} {I : am_I} {L : am_L} {w : Nat → Nat}
theorem nI_ltD {a b : Nat} (ha : a < 2000000) (hb : b < 2000000) : nI a < nI b ↔ a < b := by
  rw [Int32.lt_iff_toInt_lt, nI_toInt (by omega), nI_toInt (by omega)]
  omega
theorem nI_sub_eq {c x p : Nat} (hc : c < 2000000) (hx : x < 2000000) (hp : p < 2000000) : nI c = nI x - nI p ↔ c + p = x := by
  constructor
  · intro e
    have e2 : nI c + nI p = nI x := by rw [e, Int32.sub_add_cancel]
    rw [nI_add] at e2
    exact (nI_eq (by omega) (by omega)).mp e2
  · intro e
    rw [← e, ← nI_add, Int32.add_sub_cancel]
/-- the costs in a round: right for words of r letters, and for longer ones where done -/
def PH (A : am_Au) (w : Nat → Nat) (u : Nat) (c : Nat → Nat) (r : Nat) (D : Nat → Nat → Nat → Prop) : Prop :=
  snB A w u c ∧ (∀ s, s < 6 → c s ≤ 1000000) ∧ cpB A w u c r ∧ ∀ s a y v, s < 6 → y < 6 → D s a y → wdl (a :: v) → eF A a s y → acf A y v → v.length ≤ r → c s ≤ u * (w a + wtv w v) + (v.length + 1)
theorem PH.upd {u : Nat} {c : Nat → Nat} {r s a val : Nat} {D D' : Nat → Nat → Nat → Prop} (h : PH A w u c r D) (hs : s < 6) (ha : a < 3) (h1 : val ≤ c s) (h2 : val = c s ∨ ∃ y, y < 6 ∧ eF A a s y ∧ c y ≠ 1000000 ∧ val = c y + (u * w a + 1))
    (h3 : ∀ s' a' y, y < 6 → D' s' a' y → D s' a' y ∨ (s' = s ∧ a' = a ∧ (eF A a s y → val ≤ c y + (u * w a + 1)))) : PH A w u (updN c s val) r D' := by
  obtain ⟨p1, p2, p3, p4⟩ := h
  have le : ∀ x, updN c s val x ≤ c x := fun x => by
    unfold updN
    by_cases e : x = s
    · rw [if_pos e, e]; exact h1
    · rw [if_neg e]; exact Nat.le_refl _
  refine ⟨fun x hx => ?_, fun x hx => Nat.le_trans (le x) (p2 x hx), fun x hx v hd hv hl => Nat.le_trans (le x) (p3 x hx v hd hv hl), fun x b y v hx hy hD hd he hv hl => ?_⟩
  · by_cases e : x = s
    · subst e
      have eu : updN c x val x = val := by unfold updN; rw [if_pos rfl]
      rw [eu]
      rcases h2 with q | ⟨y, hy, he, hn, q⟩
      · rw [q]; exact p1 x hx
      · rcases p1 y hy with z | ⟨v, z1, z2, z3⟩
        · exact absurd z hn
        · refine Or.inr ⟨a :: v, wdl_cons.mpr ⟨ha, z1⟩, ⟨y, hy, he, z2⟩, ?_⟩
          rw [q, z3]
          show _ = u * (w a + wtv w v) + (v.length + 1)
          rw [Nat.mul_add]; omega
    · have eu : updN c s val x = c x := by unfold updN; rw [if_neg e]
      rw [eu]; exact p1 x hx
  · rcases h3 x b y hy hD with q | ⟨rfl, rfl, q⟩
    · exact Nat.le_trans (le x) (p4 x b y v hx hy q hd he hv hl)
    · have eu : updN c x val x = val := by unfold updN; rw [if_pos rfl]
      rw [eu, Nat.mul_add]
      have := p3 y hy v (wdl_cons.mp hd).2 hv hl
      have := q he
      omega
theorem PH.more {u : Nat} {c : Nat → Nat} {r : Nat} {D D' : Nat → Nat → Nat → Prop} (h : PH A w u c r D) (g : ∀ s a y, s < 6 → a < 3 → y < 6 → eF A a s y → D' s a y → D s a y) : PH A w u c r D' := ⟨h.1, h.2.1, h.2.2.1, fun s a y v hs hy hD hd he hv hl => h.2.2.2 s a y v hs hy (g s a y hs (wdl_cons.mp hd).1 hy he hD) hd he hv hl⟩
theorem PH.next {u : Nat} {c : Nat → Nat} {r : Nat} {D : Nat → Nat → Nat → Prop} (h : PH A w u c r D) (g : ∀ s a y, s < 6 → a < 3 → y < 6 → eF A a s y → D s a y) : PH A w u c (r + 1) (fun _ _ _ => False) := by
  refine ⟨h.1, h.2.1, fun s hs v hd hv hl => ?_, fun _ _ _ _ _ _ hD => hD.elim⟩
  cases v with
  | nil => exact h.2.2.1 s hs [] hd hv (Nat.zero_le _)
  | cons a v =>
    obtain ⟨y, hy, he, ha⟩ := hv
    exact h.2.2.2 s a y v hs hy (g s a y hs (wdl_cons.mp hd).1 hy he) hd he ha (Nat.le_of_succ_le_succ hl)
/-- no rounds yet -/
theorem PH.ini {u : Nat} {c : Nat → Nat} (h : ∀ s, s < 6 → c s = if bt A.2.2.1 s = true then 0 else 1000000) : PH A w u c 0 (fun _ _ _ => False) := by
  refine ⟨fun s hs => ?_, fun s hs => ?_, fun s hs v hd hv hl => ?_, fun _ _ _ _ _ _ hD => hD.elim⟩
  · rw [h s hs]
    by_cases e : bt A.2.2.1 s = true
    · rw [if_pos e]; exact Or.inr ⟨[], wdl_nil, e, rfl⟩
    · rw [if_neg e]; exact Or.inl rfl
  · rw [h s hs]
    by_cases e : bt A.2.2.1 s = true
    · rw [if_pos e]; omega
    · rw [if_neg e]; omega
  · cases v with
    | nil =>
      have hv' : bt A.2.2.1 s = true := hv
      rw [h s hs, if_pos hv']; exact Nat.zero_le _
    | cons a v => exact absurd hl (by rw [List.length_cons]; omega)
def csM (J : am_I) (b : Nat) (c : Nat → Nat) : Prop := ∀ s, s < 6 → J b s = nI (c s)
/-! the class -/
theorem e_cheapest (hR : okC R) {c : Nat → Nat} (hc : csM I 32 c) (hb : ∀ s, s < 6 → c s ≤ 1000000) (x : Int32) : ∃ m, pX2_cheapest R I 31 x = some (nI m) ∧ m ≤ 1000000 ∧ (m = 1000000 ∨ ∃ s, s < 6 ∧ bt x s = true ∧ c s = m) ∧ ∀ s, s < 6 → bt x s = true → m ≤ c s := by
  unfold pX2_cheapest
  obtain ⟨m, e, h1, h2, h3⟩ := am_for0 (fun n i (m : Nat) => lX2_cheapest_5 R I 31 x n (nI m) (nI i)) 6 (fun i m => m ≤ 1000000 ∧ (m = 1000000 ∨ ∃ s, s < 6 ∧ bt x s = true ∧ c s = m) ∧ ∀ s, s < i → bt x s = true → m ≤ c s) (fun m => some (nI m)) (by omega) (fun n i m hi hP => by
    obtain ⟨p1, p2, p3⟩ := hP
    have hs : lX2_cheapest_5 R I 31 x (n + 1) (nI m) (nI i) = sX2_cheapest_5 R I 31 x (lX2_cheapest_5 R I 31 x n) (nI m) (nI i) := rfl
    have hbi := hb i hi
    by_cases q : bt x i = true
    · by_cases g : c i < m
      · refine ⟨c i, ?_, hbi, Or.inr ⟨i, hi, q, rfl⟩, fun s hs hx => ?_⟩
        · rw [hs]
          unfold sX2_cheapest_5
          rw [if_neg (ng6 hi), e_cb _ (show i < 32 by omega), am_bd, am_jn_e, q, if_neg (show ¬ bI true = 0 by decide), inb hi (by omega), am_ck_true, hR.r31_0, nIcl (show i < 1000000 by omega), hc i hi, nI_1, if_pos ((nI_ltD (by omega) (by omega)).mpr g)]
        · by_cases e : s = i
          · rw [e]; exact Nat.le_refl _
          · have := p3 s (by omega) hx
            omega
      · refine ⟨m, ?_, p1, p2, fun s hs hx => ?_⟩
        · rw [hs]
          unfold sX2_cheapest_5
          rw [if_neg (ng6 hi), e_cb _ (show i < 32 by omega), am_bd, am_jn_e, q, if_neg (show ¬ bI true = 0 by decide), inb hi (by omega), am_ck_true, hR.r31_0, nIcl (show i < 1000000 by omega), hc i hi, nI_1, if_neg (fun h => g ((nI_ltD (by omega) (by omega)).mp h))]
        · by_cases e : s = i
          · rw [e]; omega
          · exact p3 s (by omega) hx
    · refine ⟨m, ?_, p1, p2, fun s hs hx => ?_⟩
      · rw [hs]
        unfold sX2_cheapest_5
        rw [if_neg (ng6 hi), e_cb _ (show i < 32 by omega), am_bd, am_jn_e, Bool.eq_false_iff.mpr q, if_pos (show bI false = 0 from rfl), nI_1]
      · by_cases e : s = i
        · rw [e] at hx; exact absurd hx q
        · exact p3 s (by omega) hx) (fun n m _ => by
    show sX2_cheapest_5 R I 31 x (lX2_cheapest_5 R I 31 x n) (nI m) (nI 6) = _
    unfold sX2_cheapest_5
    rw [if_pos yg6]) 1000000 ⟨Nat.le_refl _, Or.inl rfl, fun s hs => absurd hs (Nat.not_lt_zero s)⟩
  rw [nI_0] at e
  exact ⟨m, e, h1, h2, h3⟩
theorem e_price (hW : cW I w) (hk : okW w) {a : Nat} (ha : a < 3) : pX2_price I 6 (nI a) = some (nI (64 * w a + 1)) := by
  have := hk a ha
  unfold pX2_price
  rw [if_neg (nI_pos (by omega)), if_neg (ng3 ha), inb ha (by omega), am_ck_true, nIcl (show a < 1000000 by omega), hW a ha, show (64 : Int32) = nI 64 from rfl, pk_mul, nI_1, Nat.mul_comm]
theorem e_cc60 (hR : okC R) (hw : aw A) (hk : okW w) {r s : Nat} (hs : s < 6) {I : am_I} {c : Nat → Nat} (hA : isA I 2 3 A) (hW : cW I w) (hc : csM I 32 c) (hp : PH A w 64 c r (fun s' _ _ => s' < s)) (v6 : Int32) (j : am_I → Option am_I) :
    ∃ I' c', lX2_computeCosts_60 R 31 2 6 v6 (nI s) j am_fu (0 : Int32) I = j I' ∧ csM I' 32 c' ∧ PH A w 64 c' r (fun s' _ _ => s' < s + 1) ∧ ∀ b, b ≠ 32 → I' b = I b := by
  obtain ⟨I', e, ⟨c', h1, h2⟩, h3⟩ := am_for0 (fun n i J => lX2_computeCosts_60 R 31 2 6 v6 (nI s) j n (nI i) J) 3 (fun i J => (∃ c, csM J 32 c ∧ PH A w 64 c r (fun s' a' _ => s' < s ∨ (s' = s ∧ a' < i))) ∧ ∀ b, b ≠ 32 → J b = I b) (fun J => j J) (by omega) (fun n i J hi hP => by
    obtain ⟨⟨c, p1, p2⟩, p3⟩ := hP
    have hA' : isA J 2 (R 2 3) A := by rw [hR.r2_3]; exact hA.kept (p3 2 (by decide)) (p3 3 (by decide))
    have hW' : cW J w := hW.kept (p3 6 (by decide))
    obtain ⟨m, e1, m1, m2, m3⟩ := e_cheapest hR p1 p2.2.1 (A.2.2.2 i s)
    have hwi := hk i hi
    have hcs := p2.2.1 s hs
    refine ⟨am_upI J 32 s (nI (if m + (64 * w i + 1) < c s then m + (64 * w i + 1) else c s)), ?_, ⟨updN c s (if m + (64 * w i + 1) < c s then m + (64 * w i + 1) else c s), fun x hx => ?_, p2.upd (s := s) (a := i) hs hi ?_ ?_ (fun s' a' y hy hD => ?_)⟩, fun b x => by rw [am_upI_ne x]; exact p3 b x⟩
    · show sX2_computeCosts_60 R 31 2 6 v6 (nI s) j (lX2_computeCosts_60 R 31 2 6 v6 (nI s) j n) (nI i) J = _
      unfold sX2_computeCosts_60
      rw [if_neg (ng3 hi), e_targetsOf hA' hw s i (by omega) (by omega), am_bd, e1, am_bd, inb hs (by omega), am_ck_true, e_price hW' hk hi, am_bd, am_ck_true, am_let_e, hR.r31_0, nIcl (show s < 1000000 by omega), p1 s hs, nI_add, nI_1]
      by_cases g : m + (64 * w i + 1) < c s
      · rw [if_pos g, if_pos ((nI_ltD (by omega) (by omega)).mpr g)]
      · rw [if_neg g, if_neg (fun h => g ((nI_ltD (by omega) (by omega)).mp h))]
    · unfold updN
      by_cases e : x = s
      · rw [e, am_upI_s, if_pos rfl]
      · rw [am_upI_o e, if_neg e]; exact p1 x hx
    · by_cases g : m + (64 * w i + 1) < c s
      · rw [if_pos g]; omega
      · rw [if_neg g]; exact Nat.le_refl _
    · by_cases g : m + (64 * w i + 1) < c s
      · rw [if_pos g]
        rcases m2 with q | ⟨y, hy, q1, q2⟩
        · omega
        · exact Or.inr ⟨y, hy, q1, by omega, by rw [q2]⟩
      · rw [if_neg g]; exact Or.inl rfl
    · by_cases q : s' < s ∨ (s' = s ∧ a' < i)
      · exact Or.inl q
      · refine Or.inr ⟨by omega, by omega, fun he => ?_⟩
        have := m3 y hy he
        by_cases g : m + (64 * w i + 1) < c s
        · rw [if_pos g]; omega
        · rw [if_neg g]; omega) (fun n J _ => by
    show sX2_computeCosts_60 R 31 2 6 v6 (nI s) j (lX2_computeCosts_60 R 31 2 6 v6 (nI s) j n) (nI 3) J = _
    unfold sX2_computeCosts_60
    rw [if_pos yg3]) I ⟨⟨c, hc, hp.more (fun s' a' y _ _ _ _ h => by omega)⟩, fun _ _ => rfl⟩
  exact ⟨I', c', e, h1, h2.more (fun s' a y _ ha _ _ hD => by
    have hD' : s' < s + 1 := hD
    show s' < s ∨ (s' = s ∧ a < 3)
    omega), h3⟩
theorem e_cc50 (hR : okC R) (hw : aw A) (hk : okW w) {r : Nat} {I : am_I} {c : Nat → Nat} (hA : isA I 2 3 A) (hW : cW I w) (hc : csM I 32 c) (hp : PH A w 64 c r (fun _ _ _ => False)) (v6 : Int32) (j : am_I → Option am_I) :
    ∃ I' c', lX2_computeCosts_50 R 31 2 6 v6 j am_fu (0 : Int32) I = j I' ∧ csM I' 32 c' ∧ PH A w 64 c' (r + 1) (fun _ _ _ => False) ∧ ∀ b, b ≠ 32 → I' b = I b := by
  obtain ⟨I', e, ⟨c', h1, h2⟩, h3⟩ := am_for0 (fun n i J => lX2_computeCosts_50 R 31 2 6 v6 j n (nI i) J) 6 (fun i J => (∃ c, csM J 32 c ∧ PH A w 64 c r (fun s' _ _ => s' < i)) ∧ ∀ b, b ≠ 32 → J b = I b) (fun J => j J) (by omega) (fun n i J hi hP => by
    obtain ⟨⟨c, p1, p2⟩, p3⟩ := hP
    obtain ⟨J', c', e1, q1, q2, q3⟩ := e_cc60 (r := r) hR hw hk hi (hA.kept (p3 2 (by decide)) (p3 3 (by decide))) (hW.kept (p3 6 (by decide))) p1 p2 v6 (fun (J20 : am_I) => lX2_computeCosts_50 R 31 2 6 v6 j n (nI i + (1 : Int32)) J20)
    refine ⟨J', ?_, ⟨c', q1, q2⟩, fun b x => (q3 b x).trans (p3 b x)⟩
    show sX2_computeCosts_50 R 31 2 6 v6 j (lX2_computeCosts_50 R 31 2 6 v6 j n) (nI i) J = _
    unfold sX2_computeCosts_50
    rw [if_neg (ng6 hi), am_jn_e, e1, nI_1]) (fun n J _ => by
    show sX2_computeCosts_50 R 31 2 6 v6 j (lX2_computeCosts_50 R 31 2 6 v6 j n) (nI 6) J = _
    unfold sX2_computeCosts_50
    rw [if_pos yg6]) I ⟨⟨c, hc, hp.more (fun s' a' y _ _ _ _ h => by omega)⟩, fun _ _ => rfl⟩
  exact ⟨I', c', e, h1, h2.next (fun s a y hs _ _ _ => hs), h3⟩
theorem e_computeCosts (hR : okC R) (hw : aw A) (hk : okW w) (hA : isA I 2 3 A) (hW : cW I w) : ∃ I' c, pX2_computeCosts R I 31 2 6 = some I' ∧ csM I' 32 c ∧ csD A w 64 c ∧ (∀ s, s < 6 → c s ≤ 1000000) ∧ ∀ b, b ≠ 32 → I' b = I b := by
  have h1 := hw.1
  have h6 := hw.2.1
  unfold pX2_computeCosts
  rw [am_jn_e]
  obtain ⟨I1, e, g1, g3⟩ := am_for0 (fun n i J => lX2_computeCosts_2 R 31 2 6 (fun (J2 : am_I) => lX2_computeCosts_39 R 31 2 6 am_fu (1 : Int32) J2) n (nI i) J) 6 (fun i J => (∀ s, s < i → J 32 s = nI (if bt A.2.2.1 s = true then 0 else 1000000)) ∧ ∀ b, b ≠ 32 → J b = I b) (fun J => lX2_computeCosts_39 R 31 2 6 am_fu (1 : Int32) J) (by omega) (fun n i J hi hP => by
    obtain ⟨p1, p2⟩ := hP
    refine ⟨am_upI J 32 i (nI (if bt A.2.2.1 i = true then 0 else 1000000)), ?_, fun s hs => ?_, fun b x => by rw [am_upI_ne x]; exact p2 b x⟩
    · show sX2_computeCosts_2 R 31 2 6 (fun (J2 : am_I) => lX2_computeCosts_39 R 31 2 6 am_fu (1 : Int32) J2) (lX2_computeCosts_2 R 31 2 6 (fun (J2 : am_I) => lX2_computeCosts_39 R 31 2 6 am_fu (1 : Int32) J2) n) (nI i) J = _
      unfold sX2_computeCosts_2
      rw [if_neg (ng6 hi), e_cb _ (show i < 32 by omega), am_bd, am_let_e, inb hi (by omega), am_ck_true, am_let_e, hR.r31_0, nIcl (show i < 1000000 by omega), nI_1, p2 2 (by decide), hA.2.2.1]
      cases bt A.2.2.1 i <;> rfl
    · by_cases e : s = i
      · rw [e, am_upI_s]
      · rw [am_upI_o e]; exact p1 s (by omega)) (fun n J _ => by
    show sX2_computeCosts_2 R 31 2 6 (fun (J2 : am_I) => lX2_computeCosts_39 R 31 2 6 am_fu (1 : Int32) J2) (lX2_computeCosts_2 R 31 2 6 (fun (J2 : am_I) => lX2_computeCosts_39 R 31 2 6 am_fu (1 : Int32) J2) n) (nI 6) J = _
    unfold sX2_computeCosts_2
    rw [if_pos yg6]) I ⟨fun s hs => absurd hs (Nat.not_lt_zero s), fun _ _ => rfl⟩
  rw [nI_0] at e
  try dsimp only at e
  obtain ⟨I', e2, ⟨c', h2, h3⟩, h4⟩ := am_fork (fun n i J => lX2_computeCosts_39 R 31 2 6 n (nI i) J) 1 A.1 (fun i J => (∃ c, csM J 32 c ∧ PH A w 64 c (i - 1) (fun _ _ _ => False)) ∧ ∀ b, b ≠ 32 → J b = I1 b) (fun J => some J) (by omega) h1 (fun n i J hi1 hi hP => by
    obtain ⟨⟨c, p1, p2⟩, p3⟩ := hP
    have p3' : ∀ b, b ≠ 32 → J b = I b := fun b x => (p3 b x).trans (g3 b x)
    obtain ⟨J', c', e1, q1, q2, q3⟩ := e_cc50 (r := i - 1) hR hw hk (hA.kept (p3' 2 (by decide)) (p3' 3 (by decide))) (hW.kept (p3' 6 (by decide))) p1 p2 (nI i) (fun (J11 : am_I) => lX2_computeCosts_39 R 31 2 6 n (nI i + (1 : Int32)) J11)
    refine ⟨J', ?_, ⟨c', q1, ?_⟩, fun b x => (q3 b x).trans (p3 b x)⟩
    · show sX2_computeCosts_39 R 31 2 6 (lX2_computeCosts_39 R 31 2 6 n) (nI i) J = _
      unfold sX2_computeCosts_39
      rw [p3' 2 (by decide), hA.1, if_neg (nIge hi (by omega)), am_jn_e, e1, nI_1]
    · rw [show i + 1 - 1 = i - 1 + 1 by omega]; exact q2) (fun n J hP => by
    have p3' : J 2 = I 2 := (hP.2 2 (by decide)).trans (g3 2 (by decide))
    show sX2_computeCosts_39 R 31 2 6 (lX2_computeCosts_39 R 31 2 6 n) (nI A.1) J = _
    unfold sX2_computeCosts_39
    rw [p3', hA.1, if_pos (nIle (by omega))]) I1 ⟨⟨fun s => if bt A.2.2.1 s = true then 0 else 1000000, fun s hs => g1 s hs, PH.ini (fun s _ => rfl)⟩, fun _ _ => rfl⟩
  refine ⟨I', c', e.trans e2, h2, csD_of hw hk (Or.inl rfl) h3.1 (r := A.1 - 1) (by omega) h3.2.2.1, h3.2.1, fun b x => (h4 b x).trans (g3 b x)⟩
end
