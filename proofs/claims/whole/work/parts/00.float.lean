/-! doubles: the bits of a quotient of two counts -/
section
/-- a number from 1 on, below 2^65, as the doubles write it -/
def fl_n (d : Jvm.FP.Core.Datum) (c k : Nat) : Prop := d = .fin false c ((k : Int) - 52) ∧ 2 ^ 52 ≤ c ∧ c < 2 ^ 53
theorem fl_fits {c k : Nat} (h1 : 2 ^ 52 ≤ c) (h2 : c < 2 ^ 53) (hk : k ≤ 900) : Jvm.FP.Core.fits Jvm.FP.Core.b64 (.fin false c ((k : Int) - 52)) := by
  refine ⟨h2, ?_, ?_, Or.inr h1⟩
  · show (-1074 : Int) ≤ _
    omega
  · show _ ≤ (971 : Int)
    omega
theorem fl_round {A B : Nat} {e : Int} (hA : 0 < A) (hB : 0 < B) {l : Nat} (hl : l ≤ 63) (h1 : ¬ Jvm.FP.Core.Below A B ((l : Int) - e)) (h2 : Jvm.FP.Core.Below A B ((l : Int) + 1 - e)) :
    ∃ c k, fl_n (Jvm.FP.Core.roundRatio Jvm.FP.Core.b64 false A B e) c k ∧ k ≤ 64 ∧ l ≤ k ∧ c * 2 ^ k = Jvm.FP.Core.nearest (Jvm.FP.Core.unitsNum A e ((l : Int) - 52)) (Jvm.FP.Core.unitsDen B e ((l : Int) - 52)) * 2 ^ l ∧
      2 ^ 52 ≤ Jvm.FP.Core.nearest (Jvm.FP.Core.unitsNum A e ((l : Int) - 52)) (Jvm.FP.Core.unitsDen B e ((l : Int) - 52)) ∧ Jvm.FP.Core.nearest (Jvm.FP.Core.unitsNum A e ((l : Int) - 52)) (Jvm.FP.Core.unitsDen B e ((l : Int) - 52)) ≤ 2 ^ 53 := by
  have hq : Jvm.FP.Core.quantum Jvm.FP.Core.b64 A B e = (l : Int) - 52 := by
    refine Jvm.FP.Core.quantum_eq hA hB (show (-1074 : Int) ≤ _ by omega) ?_ (Or.inr ?_)
    · show Jvm.FP.Core.Below A B ((l : Int) - 52 - e + 53)
      rw [show (l : Int) - 52 - e + 53 = (l : Int) + 1 - e by omega]; exact h2
    · show ¬ Jvm.FP.Core.Below A B ((l : Int) - 52 - e + (53 - 1))
      rw [show (l : Int) - 52 - e + (53 - 1) = (l : Int) - e by omega]; exact h1
  have hD := Jvm.FP.Core.unitsDen_pos hB e ((l : Int) - 52)
  have hlo : 2 ^ 52 ≤ Jvm.FP.Core.nearest (Jvm.FP.Core.unitsNum A e ((l : Int) - 52)) (Jvm.FP.Core.unitsDen B e ((l : Int) - 52)) := by
    refine Jvm.FP.Core.nearest_ge hD (Nat.le_of_not_lt fun q => h1 ?_)
    have := (Jvm.FP.Core.units_below A B e ((l : Int) - 52) 52).mp q
    rw [show (l : Int) - 52 - e + (52 : Nat) = (l : Int) - e by omega] at this
    exact this
  have hhi : Jvm.FP.Core.nearest (Jvm.FP.Core.unitsNum A e ((l : Int) - 52)) (Jvm.FP.Core.unitsDen B e ((l : Int) - 52)) ≤ 2 ^ 53 := by
    have := Jvm.FP.Core.nearest_units_le (f := Jvm.FP.Core.b64) hA hB e
    rw [hq] at this
    exact this
  have hr : Jvm.FP.Core.roundRatio Jvm.FP.Core.b64 false A B e = Jvm.FP.Core.settle Jvm.FP.Core.b64 false (Jvm.FP.Core.nearest (Jvm.FP.Core.unitsNum A e ((l : Int) - 52)) (Jvm.FP.Core.unitsDen B e ((l : Int) - 52))) ((l : Int) - 52) := by
    unfold Jvm.FP.Core.roundRatio Jvm.FP.Core.roundAt
    rw [if_neg (by omega), hq]
  rw [hr]
  generalize Jvm.FP.Core.nearest (Jvm.FP.Core.unitsNum A e ((l : Int) - 52)) (Jvm.FP.Core.unitsDen B e ((l : Int) - 52)) = M at *
  have hqm : Jvm.FP.Core.b64.qmax = 971 := by decide
  unfold Jvm.FP.Core.settle Jvm.FP.Core.bound
  by_cases g : M < 2 ^ 53
  · refine ⟨M, l, ⟨?_, hlo, g⟩, by omega, Nat.le_refl _, rfl, hlo, hhi⟩
    rw [if_pos (show M < 2 ^ Jvm.FP.Core.b64.p from g), if_pos (show (l : Int) - 52 ≤ Jvm.FP.Core.b64.qmax from (by rw [hqm]; omega))]
  · have e2 : M = 2 ^ 53 := by omega
    refine ⟨2 ^ 52, l + 1, ⟨?_, Nat.le_refl _, by decide⟩, by omega, by omega, ?_, hlo, hhi⟩
    · rw [if_neg (show ¬ M < 2 ^ Jvm.FP.Core.b64.p from g), if_pos (show (l : Int) - 52 + 1 ≤ Jvm.FP.Core.b64.qmax from (by rw [hqm]; omega))]
      show Jvm.FP.Core.Datum.fin false (2 ^ 52) _ = _
      congr 1
      omega
    · rw [e2, show (2 : Nat) ^ (l + 1) = 2 ^ l * 2 from Nat.pow_succ ..]
      generalize 2 ^ l = x
      omega
theorem fl_near_mono {A A' B : Nat} (hB : 0 < B) (h : A ≤ A') : Jvm.FP.Core.nearest A B ≤ Jvm.FP.Core.nearest A' B := by
  have h1 : A / B ≤ A' / B := Nat.div_le_div_right h
  have e1 := Nat.div_add_mod A B
  have e2 := Nat.div_add_mod A' B
  have l1 := Nat.mod_lt A hB
  have l2 := Nat.mod_lt A' hB
  unfold Jvm.FP.Core.nearest
  by_cases q : A / B = A' / B
  · have hm : A % B ≤ A' % B := by
      rw [q] at e1
      generalize B * (A' / B) = t at *
      omega
    rw [q]
    generalize A % B = r at *
    generalize A' % B = r' at *
    generalize A' / B = n at *
    split
    · split
      · exact Nat.le_refl _
      · split
        · omega
        · omega
    · split
      · rw [if_neg (by omega), if_pos (by omega)]; exact Nat.le_refl _
      · rw [if_neg (by omega)]
        split <;> omega
  · generalize A % B = r at *
    generalize A' % B = r' at *
    generalize A' / B = n' at *
    generalize A / B = n at *
    have : n + 1 ≤ n' := by omega
    split
    · split
      · omega
      · split <;> omega
    · split
      · split
        · omega
        · split <;> omega
      · split
        · omega
        · split <;> omega
/-- a positive whole number has a leading digit -/
theorem fl_lead {n : Nat} (hn : 0 < n) (h : n < 2 ^ 63) : ∃ l : Nat, l ≤ 62 ∧ ¬ Jvm.FP.Core.Below n 1 (l : Int) ∧ Jvm.FP.Core.Below n 1 ((l : Int) + 1) := by
  refine ⟨n.log2, ?_, ?_, ?_⟩
  · have := (Nat.log2_lt (by omega)).mpr h
    omega
  · have := Jvm.FP.Core.below_iff n 1 n.log2 0
    rw [show ((n.log2 : Nat) : Int) - (0 : Nat) = (n.log2 : Int) by omega] at this
    rw [this]
    have := Nat.log2_self_le (n := n) (by omega)
    omega
  · have := Jvm.FP.Core.below_iff n 1 (n.log2 + 1) 0
    rw [show (((n.log2 + 1 : Nat)) : Int) - (0 : Nat) = (n.log2 : Int) + 1 by omega] at this
    rw [this]
    have := Nat.lt_log2_self (n := n)
    omega
/-- the double of a count; a greater count has no smaller double -/
theorem fl_l2d {n : Nat} (hn : 0 < n) (h : n < 2 ^ 63) : ∃ (l M c k : Nat), fl_n (Jvm.FP.Core.roundRatio Jvm.FP.Core.b64 false n 1 0) c k ∧ k ≤ 63 ∧ c * 2 ^ k = M * 2 ^ l ∧ 2 ^ 52 ≤ M ∧ M ≤ 2 ^ 53 ∧ ¬ Jvm.FP.Core.Below n 1 (l : Int) ∧ Jvm.FP.Core.Below n 1 ((l : Int) + 1) ∧ M = Jvm.FP.Core.nearest (Jvm.FP.Core.unitsNum n 0 ((l : Int) - 52)) (Jvm.FP.Core.unitsDen 1 0 ((l : Int) - 52)) := by
  obtain ⟨l, h1, h2, h3⟩ := fl_lead hn h
  obtain ⟨c, k, g1, g2, g3, g4, g5, g6⟩ := fl_round (A := n) (B := 1) (e := 0) hn (by omega) (l := l) (by omega) (by rw [Int.sub_zero]; exact h2) (by rw [Int.sub_zero]; exact h3)
  refine ⟨l, _, c, k, g1, ?_, g4, g5, g6, h2, h3, rfl⟩
  obtain ⟨_, c1, c2⟩ := g1
  generalize Jvm.FP.Core.nearest (Jvm.FP.Core.unitsNum n 0 ((l : Int) - 52)) (Jvm.FP.Core.unitsDen 1 0 ((l : Int) - 52)) = M at *
  apply Nat.le_of_not_lt
  intro hk
  have e1 : 2 ^ 64 ≤ 2 ^ k := Nat.pow_le_pow_right (by decide) hk
  have e2 : 2 ^ l ≤ 2 ^ 62 := Nat.pow_le_pow_right (by decide) h1
  have e3 : 2 ^ 52 * 2 ^ 64 ≤ c * 2 ^ k := Nat.mul_le_mul c1 e1
  have e4 : M * 2 ^ l ≤ 2 ^ 53 * 2 ^ 62 := Nat.mul_le_mul g6 e2
  rw [g4] at e3
  have : 2 ^ 52 * 2 ^ 64 ≤ 2 ^ 53 * 2 ^ 62 := Nat.le_trans e3 e4
  exact absurd this (by decide)
theorem fl_mono {m n cm km cn kn : Nat} (hm : 0 < m) (hmn : m ≤ n) (hn : n < 2 ^ 63) (h1 : fl_n (Jvm.FP.Core.roundRatio Jvm.FP.Core.b64 false m 1 0) cm km) (h2 : fl_n (Jvm.FP.Core.roundRatio Jvm.FP.Core.b64 false n 1 0) cn kn) : cm * 2 ^ km ≤ cn * 2 ^ kn := by
  obtain ⟨l, M, c, k, a1, _, a3, a4, a5, a6, a7, a8⟩ := fl_l2d hm (by omega)
  obtain ⟨l', M', c', k', b1, _, b3, b4, b5, b6, b7, b8⟩ := fl_l2d (n := n) (by omega) hn
  have u : ∀ {d : Jvm.FP.Core.Datum} {x y x' y' : Nat}, fl_n d x y → fl_n d x' y' → x = x' ∧ y = y' := fun {d x y x' y'} p q => by
    have := p.1.symm.trans q.1
    injection this with q1 q2 q3
    exact ⟨q2, by omega⟩
  obtain ⟨rfl, rfl⟩ := u h1 a1
  obtain ⟨rfl, rfl⟩ := u h2 b1
  rw [a3, b3]
  have b7' : Jvm.FP.Core.Below m 1 ((l' : Int) + 1) := by
    unfold Jvm.FP.Core.Below at b7 ⊢
    exact Nat.lt_of_le_of_lt (Nat.mul_le_mul_right _ hmn) b7
  have hl := Jvm.FP.Core.lt_of_below a6 b7'
  by_cases e : l = l'
  · subst e
    refine Nat.mul_le_mul_right _ ?_
    rw [a8, b8]
    exact fl_near_mono (Jvm.FP.Core.unitsDen_pos (by omega) _ _) (Nat.mul_le_mul_right _ hmn)
  · have h3 : 2 ^ (l + 1) ≤ 2 ^ l' := Nat.pow_le_pow_right (by decide) (by omega)
    calc M * 2 ^ l ≤ 2 ^ 53 * 2 ^ l := Nat.mul_le_mul_right _ a5
      _ = 2 ^ 52 * 2 ^ (l + 1) := by rw [show (2 : Nat) ^ (l + 1) = 2 ^ l * 2 from Nat.pow_succ ..]; generalize 2 ^ l = x; omega
      _ ≤ M' * 2 ^ l' := Nat.mul_le_mul b4 h3
/-- the quotient of two such numbers, the upper no smaller -/
theorem fl_quot {d e : Jvm.FP.Core.Datum} {c k c' k' : Nat} (h1 : fl_n d c k) (h2 : fl_n e c' k') (hk : k ≤ 63) (h : c' * 2 ^ k' ≤ c * 2 ^ k) : ∃ c0 k0, fl_n (Jvm.FP.Core.quotient Jvm.FP.Core.b64 d e) c0 k0 ∧ k0 ≤ 64 := by
  obtain ⟨rfl, a1, a2⟩ := h1
  obtain ⟨rfl, b1, b2⟩ := h2
  have hA : 0 < c := by omega
  have hB : 0 < c' := by omega
  have hls := Jvm.FP.Core.leading_spec hA hB
  have g1 : ¬ Jvm.FP.Core.Below c c' ((k' : Int) - k) := by
    rw [Jvm.FP.Core.below_iff]
    omega
  have g2 : Jvm.FP.Core.Below c c' 1 := by
    have := Jvm.FP.Core.below_iff c c' 1 0
    rw [show ((1 : Nat) : Int) - (0 : Nat) = 1 by omega] at this
    rw [this]
    omega
  have l1 := Jvm.FP.Core.lt_of_below g1 hls.2
  have l2 := Jvm.FP.Core.lt_of_below hls.1 g2
  obtain ⟨l, hl⟩ : ∃ l : Nat, (l : Int) = Jvm.FP.Core.leading c c' + ((k : Int) - k') := ⟨(Jvm.FP.Core.leading c c' + ((k : Int) - k')).toNat, by omega⟩
  obtain ⟨c0, k0, q1, q2, _⟩ := fl_round (e := ((k : Int) - 52) - ((k' : Int) - 52)) hA hB (l := l) (by omega) (by
    rw [show (l : Int) - ((k : Int) - 52 - ((k' : Int) - 52)) = Jvm.FP.Core.leading c c' by omega]; exact hls.1) (by
    rw [show (l : Int) + 1 - ((k : Int) - 52 - ((k' : Int) - 52)) = Jvm.FP.Core.leading c c' + 1 by omega]; exact hls.2)
  refine ⟨c0, k0, ?_, q2⟩
  show fl_n (if c' = 0 then _ else Jvm.FP.Core.roundRatio Jvm.FP.Core.b64 (false != false) c c' _) c0 k0
  rw [if_neg (by omega)]
  exact q1
/-- half of it -/
theorem fl_half {c k : Nat} (h1 : 2 ^ 52 ≤ c) (h2 : c < 2 ^ 53) (hk : k ≤ 64) : Jvm.FP.Core.quotient Jvm.FP.Core.b64 (.fin false c (((k + 1 : Nat) : Int) - 52)) (.fin false (2 ^ 52) (-51)) = .fin false c ((k : Int) - 52) := by
  have e0 : Jvm.FP.Core.quotient Jvm.FP.Core.b64 (.fin false c (((k + 1 : Nat) : Int) - 52)) (.fin false (2 ^ 52) (-51)) = Jvm.FP.Core.roundRatio Jvm.FP.Core.b64 (false != false) c (2 ^ 52) (((k + 1 : Nat) : Int) - 52 - -51) := by
    unfold Jvm.FP.Core.quotient
    exact if_neg (by decide)
  rw [e0]
  refine Jvm.FP.Core.roundRatio_exact Jvm.FP.Core.good_b64 (by decide) (fl_fits h1 h2 (by omega)) ?_
  rw [show (((k + 1 : Nat) : Int) - 52 - -51 - ((k : Int) - 52)).toNat = 52 by omega, show ((k : Int) - 52 - (((k + 1 : Nat) : Int) - 52 - -51)).toNat = 0 by omega]
  rw [Nat.pow_zero, Nat.mul_one]
/-- a small whole number as a fraction -/
theorem fl_norm {m : Nat} (hm : 0 < m) (h : m < 2 ^ 52) : ∃ c k, k ≤ 52 ∧ c = m * 2 ^ k ∧ 2 ^ 52 ≤ c ∧ c < 2 ^ 53 := by
  have a1 := Nat.log2_self_le (n := m) (by omega)
  have a2 := Nat.lt_log2_self (n := m)
  have a3 := (Nat.log2_lt (by omega)).mpr h
  refine ⟨_, 52 - m.log2, by omega, rfl, ?_, ?_⟩
  · calc 2 ^ 52 = 2 ^ m.log2 * 2 ^ (52 - m.log2) := by rw [← Nat.pow_add]; congr 1; omega
      _ ≤ m * 2 ^ (52 - m.log2) := Nat.mul_le_mul_right _ a1
  · calc m * 2 ^ (52 - m.log2) < 2 ^ (m.log2 + 1) * 2 ^ (52 - m.log2) := Nat.mul_lt_mul_of_pos_right a2 (Nat.two_pow_pos _)
      _ = 2 ^ 53 := by rw [← Nat.pow_add]; congr 1; omega
/-- less one, times 2^52, as a long -/
theorem fl_mant {v : UInt64} {m : Nat} (hm : m < 2 ^ 52) (hv : Jvm.FP.Core.val64 v = .fin false (2 ^ 52 + m) (-52)) :
    Jvm.FP.Core.val64 (Jvm.FP.Core.dsub v Jvm.FP.Core.dconst1) ≠ .nan ∧ Jvm.FP.Core.val64 (Jvm.FP.Core.dmul (Jvm.FP.Core.dsub v Jvm.FP.Core.dconst1) 4841369599423283200) ≠ .nan ∧ (Jvm.FP.Core.d2l (Jvm.FP.Core.dmul (Jvm.FP.Core.dsub v Jvm.FP.Core.dconst1) 4841369599423283200)).toInt = m := by
  have h52 : Jvm.FP.Core.val64 (4841369599423283200 : UInt64) = .fin false (2 ^ 52) 0 := by decide +kernel
  have e1 : Jvm.FP.Core.val64 (Jvm.FP.Core.dsub v Jvm.FP.Core.dconst1) = Jvm.FP.Core.roundRatio Jvm.FP.Core.b64 false m 1 (-52) := by
    rw [Jvm.FP.Core.val64_dsub, hv, Jvm.FP.Core.val64_dconst1]
    show Jvm.FP.Core.round Jvm.FP.Core.b64 (.fin (Jvm.FP.Core.sumSign false true (Jvm.FP.Core.sumUnits false (2 ^ 52 + m) (-52) true (2 ^ 52) (-52) (min (-52) (-52)))) (Jvm.FP.Core.sumUnits false (2 ^ 52 + m) (-52) true (2 ^ 52) (-52) (min (-52) (-52))).natAbs (min (-52) (-52))) = _
    have es : Jvm.FP.Core.sumUnits false (2 ^ 52 + m) (-52) true (2 ^ 52) (-52) (min (-52) (-52)) = (m : Int) := by
      unfold Jvm.FP.Core.sumUnits Jvm.FP.Core.signed Jvm.FP.Core.inUnits
      rw [show ((-52 : Int) - min (-52) (-52)).toNat = 0 by decide, Nat.pow_zero, Nat.mul_one, Nat.mul_one, if_neg (by decide), if_pos rfl]
      omega
    rw [es]
    have eb : Jvm.FP.Core.sumSign false true (m : Int) = false := by
      unfold Jvm.FP.Core.sumSign
      by_cases q : (m : Int) = 0
      · rw [if_pos q]; rfl
      · rw [if_neg q]; exact decide_eq_false (by omega)
    rw [eb]
    rfl
  by_cases h0 : m = 0
  · subst h0
    have e2 : Jvm.FP.Core.val64 (Jvm.FP.Core.dsub v Jvm.FP.Core.dconst1) = .fin false 0 (-1074) := e1
    have e3 : Jvm.FP.Core.val64 (Jvm.FP.Core.dmul (Jvm.FP.Core.dsub v Jvm.FP.Core.dconst1) 4841369599423283200) = .fin false 0 (-1074) := by
      rw [Jvm.FP.Core.val64_dmul, e2, h52]
      show Jvm.FP.Core.roundRatio Jvm.FP.Core.b64 (false != false) (0 * 2 ^ 52) 1 _ = _
      rw [Nat.zero_mul]
      rfl
    refine ⟨by rw [e2]; exact Jvm.FP.Core.Datum.noConfusion, by rw [e3]; exact Jvm.FP.Core.Datum.noConfusion, ?_⟩
    have : Jvm.FP.Core.d2l (Jvm.FP.Core.dmul (Jvm.FP.Core.dsub v Jvm.FP.Core.dconst1) 4841369599423283200) = Jvm.FP.Core.toL (.fin false 0 (-1074)) := congrArg Jvm.FP.Core.toL e3
    rw [this]
    decide +kernel
  · obtain ⟨c, k, k1, rfl, k3, k4⟩ := fl_norm (m := m) (by omega) hm
    have hf : Jvm.FP.Core.fits Jvm.FP.Core.b64 (.fin false (m * 2 ^ k) (-52 - (k : Int))) := ⟨k4, show (-1074 : Int) ≤ _ by omega, show _ ≤ (971 : Int) by omega, Or.inr k3⟩
    have hf2 : Jvm.FP.Core.fits Jvm.FP.Core.b64 (.fin false (m * 2 ^ k) (-(k : Int))) := ⟨k4, show (-1074 : Int) ≤ _ by omega, show _ ≤ (971 : Int) by omega, Or.inr k3⟩
    have e2 : Jvm.FP.Core.val64 (Jvm.FP.Core.dsub v Jvm.FP.Core.dconst1) = .fin false (m * 2 ^ k) (-52 - (k : Int)) := by
      rw [e1]
      refine Jvm.FP.Core.roundRatio_exact Jvm.FP.Core.good_b64 (by decide) hf ?_
      rw [show ((-52 : Int) - (-52 - (k : Int))).toNat = k by omega, show ((-52 - (k : Int)) - (-52)).toNat = 0 by omega, Nat.pow_zero, Nat.mul_one, Nat.mul_one]
    have e3 : Jvm.FP.Core.val64 (Jvm.FP.Core.dmul (Jvm.FP.Core.dsub v Jvm.FP.Core.dconst1) 4841369599423283200) = .fin false (m * 2 ^ k) (-(k : Int)) := by
      rw [Jvm.FP.Core.val64_dmul, e2, h52]
      show Jvm.FP.Core.roundRatio Jvm.FP.Core.b64 (false != false) (m * 2 ^ k * 2 ^ 52) 1 (-52 - (k : Int) + 0) = _
      refine Jvm.FP.Core.roundRatio_exact Jvm.FP.Core.good_b64 (by decide) hf2 ?_
      rw [show ((-52 : Int) - (k : Int) + 0 - -(k : Int)).toNat = 0 by omega, show (-(k : Int) - (-52 - (k : Int) + 0)).toNat = 52 by omega, Nat.pow_zero, Nat.mul_one, Nat.mul_one]
    refine ⟨by rw [e2]; exact Jvm.FP.Core.Datum.noConfusion, by rw [e3]; exact Jvm.FP.Core.Datum.noConfusion, ?_⟩
    have : Jvm.FP.Core.d2l (Jvm.FP.Core.dmul (Jvm.FP.Core.dsub v Jvm.FP.Core.dconst1) 4841369599423283200) = Jvm.FP.Core.toL (.fin false (m * 2 ^ k) (-(k : Int))) := congrArg Jvm.FP.Core.toL e3
    rw [this]
    have ht : Jvm.FP.Core.truncate false (m * 2 ^ k) (-(k : Int)) = (m : Int) := by
      unfold Jvm.FP.Core.truncate Jvm.FP.Core.signed
      rw [if_neg (by decide), show (-(k : Int)).toNat = 0 by omega, show (-(-(k : Int))).toNat = k by omega, Nat.pow_zero, Nat.mul_one, Nat.mul_div_cancel _ (Nat.two_pow_pos _)]
    show (Int64.ofInt (max (-2 ^ 63) (min (2 ^ 63 - 1) (Jvm.FP.Core.truncate false (m * 2 ^ k) (-(k : Int)))))).toInt = _
    rw [ht]
    rw [Int64.toInt_ofInt_of_le (by omega) (by omega)]
    omega
/-- below two -/
theorem fl_lt2 {v : UInt64} {c k : Nat} (h : fl_n (Jvm.FP.Core.val64 v) c k) : Jvm.FP.Core.cmpInt (-1) (Jvm.FP.Core.dcmp v 4611686018427387904) < 0 ↔ k = 0 := by
  have h2 : Jvm.FP.Core.val64 (4611686018427387904 : UInt64) = .fin false (2 ^ 52) (-51) := by decide +kernel
  obtain ⟨hv, h3, h4⟩ := h
  have e : Jvm.FP.Core.dcmp v 4611686018427387904 = some (compare (Jvm.FP.Core.signed false (Jvm.FP.Core.inUnits c ((k : Int) - 52) (min ((k : Int) - 52) (-51)))) (Jvm.FP.Core.signed false (Jvm.FP.Core.inUnits (2 ^ 52) (-51) (min ((k : Int) - 52) (-51))))) := by
    show Jvm.FP.Core.order (Jvm.FP.Core.val64 v) (Jvm.FP.Core.val64 4611686018427387904) = _
    rw [hv, h2]
    rfl
  rw [Jvm.FP.Core.cmpInt_l_lt, e]
  have hs : ∀ x : Nat, Jvm.FP.Core.signed false x = (x : Int) := fun x => rfl
  rw [hs, hs]
  constructor
  · rintro (q | q)
    · injection q with q
      have q := Int.compare_eq_lt.mp q
      unfold Jvm.FP.Core.inUnits at q
      apply Classical.byContradiction
      intro hk
      rw [show ((-51 : Int) - min ((k : Int) - 52) (-51)).toNat = 0 by omega, Nat.pow_zero] at q
      have : c ≤ c * 2 ^ ((k : Int) - 52 - min ((k : Int) - 52) (-51)).toNat := Nat.le_mul_of_pos_right _ (Nat.two_pow_pos _)
      generalize c * 2 ^ ((k : Int) - 52 - min ((k : Int) - 52) (-51)).toNat = z at *
      omega
    · cases q
  · rintro rfl
    left
    refine congrArg some (Int.compare_eq_lt.mpr ?_)
    unfold Jvm.FP.Core.inUnits
    rw [show (((0 : Nat) : Int) - 52 - min (((0 : Nat) : Int) - 52) (-51)).toNat = 0 by decide, show ((-51 : Int) - min (((0 : Nat) : Int) - 52) (-51)).toNat = 1 by decide]
    omega
/-- the bits -/
theorem fl_bits {v : UInt64} {c k : Nat} (h : fl_n (Jvm.FP.Core.val64 v) c k) (hk : k ≤ 64) : v.toNat = (k + 1023) * 2 ^ 52 + (c - 2 ^ 52) := by
  obtain ⟨hv, h3, h4⟩ := h
  have : Jvm.FP.Core.of64 (Jvm.FP.Core.val64 v) = v := Jvm.FP.Core.of64_val64 (by rw [hv]; exact Jvm.FP.Core.Datum.noConfusion)
  rw [← this, hv, Jvm.FP.Core.toNat_of64 (fl_fits h3 h4 (by omega))]
  show (if c < 2 ^ 52 then _ else Jvm.FP.Core.assemble Jvm.FP.Core.b64 false ((((k : Int) - 52) - (-1074)).toNat + 1) (c - 2 ^ 52)) = _
  rw [if_neg (by omega), show (((k : Int) - 52) - (-1074)).toNat + 1 = k + 1023 by omega]
  show (0 * _ + (k + 1023)) * 2 ^ 52 + (c - 2 ^ 52) = _
  rw [Nat.zero_mul, Nat.zero_add]
theorem fl_ck {v : UInt64} (h : Jvm.FP.Core.val64 v ≠ .nan) : decide (v &&& 0x7fffffffffffffff ≤ 0x7ff0000000000000) = true := by
  have := (Jvm.FP.Core.ne_nan v).mp h
  refine decide_eq_true ?_
  rw [UInt64.le_iff_toNat_le, UInt64.toNat_and]
  show v.toNat &&& (2 ^ 63 - 1) ≤ 9218868437227405312
  rw [Nat.and_two_pow_sub_one_eq_mod]
  exact this
end
