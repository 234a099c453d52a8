/-! the class's search: its goals -/
theorem and1s {x : Int32} {s : Nat} (hs : s < 32) : x &&& ((1 : Int32) <<< (nI s &&& 31)) = 0 ↔ ¬ bt x s = true := by
  constructor
  · intro h g
    have := bt_and x ((1 : Int32) <<< (nI s &&& 31)) s
    rw [h, bt_zero, g, bt_1s hs, decide_eq_true rfl] at this
    cases this
  · intro h
    refine bt_ext fun k _ => ?_
    rw [bt_and, bt_zero, bt_1s hs]
    by_cases e : k = s
    · rw [e, Bool.eq_false_iff.mpr h]; rfl
    · rw [decide_eq_false e, Bool.and_false]
theorem and2s {x : Int32} {p q : Nat} (hp : p < 32) (hq : q < 32) : x &&& (((1 : Int32) <<< (nI p &&& 31)) ||| ((1 : Int32) <<< (nI q &&& 31))) = (((1 : Int32) <<< (nI p &&& 31)) ||| ((1 : Int32) <<< (nI q &&& 31))) ↔ bt x p = true ∧ bt x q = true := by
  have e : ∀ k, bt (((1 : Int32) <<< (nI p &&& 31)) ||| ((1 : Int32) <<< (nI q &&& 31))) k = (decide (k = p) || decide (k = q)) := fun k => by rw [bt_or, bt_1s hp, bt_1s hq]
  constructor
  · intro h
    refine ⟨?_, ?_⟩
    · have := bt_and x (((1 : Int32) <<< (nI p &&& 31)) ||| ((1 : Int32) <<< (nI q &&& 31))) p
      rw [h, e p, decide_eq_true rfl, Bool.true_or, Bool.and_true] at this
      exact this.symm
    · have := bt_and x (((1 : Int32) <<< (nI p &&& 31)) ||| ((1 : Int32) <<< (nI q &&& 31))) q
      rw [h, e q, decide_eq_true (rfl : q = q), Bool.or_true, Bool.and_true] at this
      exact this.symm
  · rintro ⟨h1, h2⟩
    refine bt_ext fun k _ => ?_
    rw [bt_and, e k]
    by_cases a : k = p
    · rw [a, h1, Bool.true_and]
    · by_cases b : k = q
      · rw [b, h2, Bool.true_and]
      · rw [decide_eq_false a, decide_eq_false b]; cases bt x k <;> rfl
theorem pcn_sum (x : Int32) : pcn x = sumN (fun t => (bt x t).toNat) 6 := by
  show _ = 0 + (bt x 0).toNat + (bt x 1).toNat + (bt x 2).toNat + (bt x 3).toNat + (bt x 4).toNat + (bt x 5).toNat
  rw [Nat.zero_add]; rfl
theorem tn1 {b : Bool} : 1 ≤ b.toNat ↔ b = true := by cases b <;> decide
theorem pcn2 (x : Int32) : 2 ≤ pcn x ↔ ∃ k l, k < 6 ∧ l < 6 ∧ k ≠ l ∧ bt x k = true ∧ bt x l = true := by
  rw [pcn_sum, sum2]
  constructor
  · rintro (⟨k, _, g⟩ | ⟨k, l, hk, hl, hne, g1, g2⟩)
    · exfalso
      revert g
      cases bt x k <;> decide
    · exact ⟨k, l, hk, hl, hne, tn1.mp g1, tn1.mp g2⟩
  · rintro ⟨k, l, hk, hl, hne, g1, g2⟩
    exact Or.inr ⟨k, l, hk, hl, hne, tn1.mpr g1, tn1.mpr g2⟩
section
variable {A : am_Au} {I : am_I}
def G0 (A : am_Au) (z : Nat) : Prop := 2 ≤ pcn (nI (z / 64) &&& A.2.2.1) ∨ ¬ (nI (z % 64) &&& A.2.2.1 = 0)
def G1 (s z : Nat) : Prop := bt (nI (z % 64)) s = true
def G2 (p q z : Nat) : Prop := bt (nI (z / 64)) p = true ∧ bt (nI (z / 64)) q = true ∧ bt (nI (z % 64)) q = true
theorem zd {X Y : Nat} (hY : Y < 64) : (64 * X + Y) / 64 = X ∧ (64 * X + Y) % 64 = Y := by omega
theorem e_goal0 (h5 : I 24 5 = 0) (h3 : I 24 3 = A.2.2.1) {X Y : Nat} (hX : X < 64) (hY : Y < 64) : pX9_isGoal I 24 (nI X) (nI Y) = some (bI (dcd (G0 A (64 * X + Y)))) := by
  obtain ⟨z1, z2⟩ := zd (X := X) hY
  have eG : G0 A (64 * X + Y) ↔ 2 ≤ pcn (nI X &&& A.2.2.1) ∨ ¬ (nI Y &&& A.2.2.1 = 0) := by unfold G0; rw [z1, z2]
  unfold pX9_isGoal
  rw [h5, if_neg (by decide), if_neg (by decide), h3]
  by_cases c : nI Y &&& A.2.2.1 = 0
  · have hle := pcn_le (Nat.le_refl 6) (lon_andl (y := A.2.2.1) (lon_64 hX))
    rw [if_pos c, e_bitCount (lon_andl (lon_64 hX)), am_bd]
    by_cases g : 2 ≤ pcn (nI X &&& A.2.2.1)
    · rw [if_neg (show ¬ nI (pcn (nI X &&& A.2.2.1)) ≤ (1 : Int32) from nI_ge (a := 1) (by omega) (by omega)), dcd_pos (eG.mpr (Or.inl g))]; rfl
    · rw [if_pos (show nI (pcn (nI X &&& A.2.2.1)) ≤ (1 : Int32) from nI_le (b := 1) (by omega) (by omega)), dcd_neg (fun h => (eG.mp h).elim g (fun k => k c))]; rfl
  · rw [if_neg c, dcd_pos (eG.mpr (Or.inr c))]; rfl
theorem e_goal1 {s : Nat} (hs : s < 32) (h5 : I 24 5 = 1) (h6 : I 24 6 = (1 : Int32) <<< (nI s &&& 31)) {X Y : Nat} (hY : Y < 64) : pX9_isGoal I 24 (nI X) (nI Y) = some (bI (dcd (G1 s (64 * X + Y)))) := by
  obtain ⟨z1, z2⟩ := zd (X := X) hY
  have eG : G1 s (64 * X + Y) ↔ bt (nI Y) s = true := by unfold G1; rw [z2]
  unfold pX9_isGoal
  rw [h5, if_neg (by decide), if_pos rfl, h6]
  by_cases c : bt (nI Y) s = true
  · rw [if_neg (fun h => (and1s hs).mp h c), dcd_pos (eG.mpr c)]; rfl
  · rw [if_pos ((and1s hs).mpr c), dcd_neg (fun h => c (eG.mp h))]; rfl
theorem e_goal2 {p q : Nat} (hp : p < 32) (hq : q < 32) (h5 : I 24 5 = 2) (h6 : I 24 6 = (1 : Int32) <<< (nI p &&& 31)) (h7 : I 24 7 = (1 : Int32) <<< (nI q &&& 31)) {X Y : Nat} (hY : Y < 64) : pX9_isGoal I 24 (nI X) (nI Y) = some (bI (dcd (G2 p q (64 * X + Y)))) := by
  obtain ⟨z1, z2⟩ := zd (X := X) hY
  have eG : G2 p q (64 * X + Y) ↔ (bt (nI X) p = true ∧ bt (nI X) q = true) ∧ bt (nI Y) q = true := by unfold G2; rw [z1, z2, and_assoc]
  unfold pX9_isGoal
  rw [h5, if_pos rfl, h6, h7, am_let_e]
  by_cases c : bt (nI X) p = true ∧ bt (nI X) q = true
  · rw [if_pos ((and2s hp hq).mpr c)]
    by_cases d : bt (nI Y) q = true
    · rw [if_neg (fun h => (and1s hq).mp h d), dcd_pos (eG.mpr ⟨c, d⟩)]; rfl
    · rw [if_pos ((and1s hq).mpr d), dcd_neg (fun h => d (eG.mp h).2)]; rfl
  · rw [if_neg (fun h => c ((and2s hp hq).mp h)), dcd_neg (fun h => c (eG.mp h).1)]; rfl
/-! goals and words -/
theorem acn_fl (w : List Nat) : acn A w = sumN (fun t => if bt A.2.2.1 t = true then fl A w (ind A.2.1) t else 0) A.1 := by
  show sumN (fun s => if bt A.2.1 s = true then sumN (fun t => if bt A.2.2.1 t = true then pn A w s t else 0) A.1 else 0) A.1 = _
  have e1 : ∀ s, s < A.1 → (if bt A.2.1 s = true then sumN (fun t => if bt A.2.2.1 t = true then pn A w s t else 0) A.1 else 0) = sumN (fun t => if bt A.2.2.1 t = true then ind A.2.1 s * pn A w s t else 0) A.1 := fun s _ => by
    unfold ind
    by_cases h : bt A.2.1 s = true
    · rw [if_pos h]
      exact sumN_congr _ fun t _ => by rw [if_pos h, Nat.one_mul]
    · rw [if_neg h]
      refine Eq.symm (Eq.trans (sumN_congr (g := fun _ => 0) A.1 fun t _ => ?_) (sumN_zero A.1))
      rw [if_neg h, Nat.zero_mul, ite_self]
  rw [sumN_congr A.1 e1, sumN_swap]
  refine sumN_congr A.1 fun t ht => ?_
  by_cases h : bt A.2.2.1 t = true
  · rw [if_pos h, fl_pn ht]
    exact sumN_congr _ fun s _ => by rw [if_pos h]
  · rw [if_neg h]
    refine Eq.trans (sumN_congr (g := fun _ => 0) A.1 fun s _ => ?_) (sumN_zero A.1)
    rw [if_neg h]
theorem zS_0 {P : Nat → Nat} (h : ∀ t, P t ≤ 1) : zS 0 2 P := fun t ht => by
  rw [show nI 0 = (0 : Int32) from nI_0, bt_zero]
  have := h t
  exact ⟨fun h => (by cases h), fun h => by omega⟩
theorem ind_le (x : Int32) (t : Nat) : ind x t ≤ 1 := by
  unfold ind
  by_cases h : bt x t = true
  · rw [if_pos h]; exact Nat.le_refl _
  · rw [if_neg h]; exact Nat.zero_le _
theorem G0_ac (hw : aw A) (w : List Nat) : G0 A (rn (nxS A false) (64 * nz A.2.1 + 0) w) ↔ 2 ≤ acn A w := by
  have h6 := hw.2.1
  have hn := nz_lt A.2.1
  have hini : A.2.1 = nI (nz A.2.1) := nz_e (fun k hk => (hw.2.2.1 k (by omega)).1)
  obtain ⟨z1, z2⟩ := zd (X := nz A.2.1) (Y := 0) (by omega)
  obtain ⟨s1, s2⟩ := rn_f hw w (64 * nz A.2.1 + 0) (ind A.2.1) (by omega) (by
    rw [z1]
    intro t _
    rw [← hini]
    unfold ind
    by_cases h : bt A.2.1 t = true
    · rw [if_pos h]; exact ⟨fun _ => Nat.le_refl _, fun _ => h⟩
    · rw [if_neg h]; exact ⟨fun g => absurd g h, fun g => absurd g (by decide)⟩) (by rw [z2]; exact zS_0 (ind_le _))
  rw [acn_fl, sum2]
  unfold G0
  rw [pcn2]
  have ltf : ∀ t, bt A.2.2.1 t = true → t < A.1 := fun t h => finA_lt hw h
  constructor
  · rintro (⟨k, l, hk, hl, hne, g1, g2⟩ | g)
    · rw [bt_and, Bool.and_eq_true] at g1 g2
      exact Or.inr ⟨k, l, ltf k g1.2, ltf l g2.2, hne, (ite1 (Nat.le_refl 1)).mpr ⟨g1.2, (s1 k hk).mp g1.1⟩, (ite1 (Nat.le_refl 1)).mpr ⟨g2.2, (s1 l hl).mp g2.1⟩⟩
    · apply Classical.byContradiction
      intro hno
      apply g
      refine bt_ext fun t _ => ?_
      rw [bt_zero, bt_and]
      cases ht : bt A.2.2.1 t with
      | false => rw [Bool.and_false]
      | true =>
        rw [Bool.and_true]
        cases hy : bt (nI (rn (nxS A false) (64 * nz A.2.1 + 0) w % 64)) t with
        | false => rfl
        | true =>
          have := ltf t ht
          exact absurd (Or.inl ⟨t, this, (ite1 (by decide)).mpr ⟨ht, (s2 t (by omega)).mp hy⟩⟩) hno
  · rintro (⟨k, hk, g⟩ | ⟨k, l, hk, hl, hne, g1, g2⟩)
    · obtain ⟨a1, a2⟩ := (ite1 (by decide)).mp g
      refine Or.inr (fun h => ?_)
      have := bt_and (nI (rn (nxS A false) (64 * nz A.2.1 + 0) w % 64)) A.2.2.1 k
      rw [h, bt_zero, a1, (s2 k (by omega)).mpr a2] at this
      cases this
    · obtain ⟨a1, a2⟩ := (ite1 (Nat.le_refl 1)).mp g1
      obtain ⟨b1, b2⟩ := (ite1 (Nat.le_refl 1)).mp g2
      exact Or.inl ⟨k, l, by omega, by omega, hne, by rw [bt_and, a1, (s1 k (by omega)).mpr a2]; rfl, by rw [bt_and, b1, (s1 l (by omega)).mpr b2]; rfl⟩
theorem p2lt : ∀ s, s < 6 → 2 ^ s < 64 := by decide
theorem zS_one {s : Nat} (hs : s < 6) : zS (2 ^ s) 1 (fun x => if x = s then 1 else 0) := fun t ht => by
  rw [← sh1 s hs, bt_1s (by omega), decide_eq_true_eq]
  show t = s ↔ 1 ≤ (if t = s then 1 else 0)
  by_cases e : t = s
  · rw [if_pos e]; exact ⟨fun _ => Nat.le_refl _, fun _ => e⟩
  · rw [if_neg e]; exact ⟨fun h => absurd h e, fun h => absurd h (by decide)⟩
theorem G1_ac (hw : aw A) {s : Nat} (hs : s < A.1) (w : List Nat) : G1 s (rn (nxS A false) (64 * 2 ^ s + 0) w) ↔ 2 ≤ pn A w s s := by
  have h6 := hw.2.1
  have hp := p2lt s (by omega)
  obtain ⟨z1, z2⟩ := zd (X := 2 ^ s) (Y := 0) (by omega)
  obtain ⟨_, s2⟩ := rn_f hw w (64 * 2 ^ s + 0) (fun x => if x = s then 1 else 0) (by omega) (by rw [z1]; exact zS_one (by omega)) (by
    rw [z2]
    refine zS_0 (fun t => ?_)
    by_cases h : t = s
    · rw [if_pos h]; exact Nat.le_refl _
    · rw [if_neg h]; exact Nat.zero_le _)
  have := s2 s (by omega)
  rw [fl_one hs hs] at this
  exact this
theorem G2_ac (hw : aw A) {p q : Nat} (hp : p < A.1) (hq : q < A.1) (w : List Nat) : G2 p q (rn (nxS A true) (64 * 2 ^ p + 2 ^ q) w) ↔ 1 ≤ pn A w p p ∧ 1 ≤ pn A w p q ∧ 1 ≤ pn A w q q := by
  have h6 := hw.2.1
  have hp2 := p2lt p (by omega)
  have hq2 := p2lt q (by omega)
  obtain ⟨z1, z2⟩ := zd (X := 2 ^ p) (Y := 2 ^ q) hq2
  obtain ⟨s1, s2⟩ := rn_t hw w (64 * 2 ^ p + 2 ^ q) (fun x => if x = p then 1 else 0) (fun x => if x = q then 1 else 0) (by omega) (by rw [z1]; exact zS_one (by omega)) (by rw [z2]; exact zS_one (by omega))
  have a1 := s1 p (by omega)
  have a2 := s1 q (by omega)
  have a3 := s2 q (by omega)
  rw [fl_one hp hp] at a1
  rw [fl_one hp hq] at a2
  rw [fl_one hq hq] at a3
  unfold G2
  rw [a1, a2, a3]
end
