/-! call 22: the bits of the average -/
section
variable {R : am_R} {I : am_I} {L : am_L} {J : am_I} {K : am_L}
theorem lN_val {n : Nat} (h : n < 2 ^ 63) : (lN n).toInt = (n : Int) := lg_ofNat_toInt h
theorem fl_loop (j : UInt64 → Int32 → Option Int64) : ∀ (k f i : Nat) (v : UInt64) (c : Nat), fl_n (Jvm.FP.Core.val64 v) c k → k + i ≤ 64 → k < f → ∃ v', lX1_bitsOfQuotient_20 j f v (nI i) = j v' (nI (i + k)) ∧ fl_n (Jvm.FP.Core.val64 v') c 0 := by
  intro k
  induction k with
  | zero =>
    intro f i v c h hi hf
    obtain ⟨f, rfl⟩ : ∃ g, f = g + 1 := ⟨f - 1, by omega⟩
    refine ⟨v, ?_, h⟩
    show sX1_bitsOfQuotient_20 j (lX1_bitsOfQuotient_20 j f) v (nI i) = _
    unfold sX1_bitsOfQuotient_20
    have : Op.cmpValue (FP.dcmp v (4611686018427387904 : UInt64)) .l = Jvm.FP.Core.cmpInt (-1) (Jvm.FP.Core.dcmp v 4611686018427387904) := by
      show Op.cmpValue (Jvm.FP.Core.dcmp v 4611686018427387904) .l = _
      cases Jvm.FP.Core.dcmp v 4611686018427387904 with
      | none => rfl
      | some o => cases o <;> rfl
    rw [this, if_pos ((fl_lt2 h).mpr rfl)]
    rfl
  | succ k ih =>
    intro f i v c h hi hf
    obtain ⟨f, rfl⟩ : ∃ g, f = g + 1 := ⟨f - 1, by omega⟩
    have h2 : Jvm.FP.Core.val64 (4611686018427387904 : UInt64) = .fin false (2 ^ 52) (-51) := by decide +kernel
    have hq : Jvm.FP.Core.val64 (Jvm.FP.Core.ddiv v 4611686018427387904) = .fin false c ((k : Int) - 52) := by
      rw [Jvm.FP.Core.val64_ddiv, h.1, h2]
      exact fl_half h.2.1 h.2.2 (by omega)
    obtain ⟨v', e, g⟩ := ih f (i + 1) (Jvm.FP.Core.ddiv v 4611686018427387904) c ⟨hq, h.2⟩ (by omega) (by omega)
    refine ⟨v', ?_, g⟩
    show sX1_bitsOfQuotient_20 j (lX1_bitsOfQuotient_20 j f) v (nI i) = _
    unfold sX1_bitsOfQuotient_20
    have : Op.cmpValue (FP.dcmp v (4611686018427387904 : UInt64)) .l = Jvm.FP.Core.cmpInt (-1) (Jvm.FP.Core.dcmp v 4611686018427387904) := by
      show Op.cmpValue (Jvm.FP.Core.dcmp v 4611686018427387904) .l = _
      cases Jvm.FP.Core.dcmp v 4611686018427387904 with
      | none => rfl
      | some o => cases o <;> rfl
    rw [this, if_neg (fun q => absurd ((fl_lt2 h).mp q) (Nat.succ_ne_zero k)), if_neg (ng64 (by omega)), show decide (FP.ddiv v (4611686018427387904 : UInt64) &&& 0x7fffffffffffffff ≤ 0x7ff0000000000000) = true from fl_ck (by rw [hq]; exact Jvm.FP.Core.Datum.noConfusion), am_ck_true, am_let_e, nI_1]
    rw [show i + (k + 1) = i + 1 + k by omega]
    exact e
theorem fl_exp : ∀ k, k < 65 → (Int32.toInt64 ((1023 : Int32) + nI k)) <<< (Int32.toInt64 (52 : Int32) &&& 63) = lN ((k + 1023) * 2 ^ 52) := by decide +kernel
theorem fl_toI {v : UInt64} {n : Nat} (h : v.toNat = n) (hn : n < 2 ^ 63) : UInt64.toInt64 v = lN n := by
  have e : v = UInt64.ofNat n := by rw [← h, UInt64.ofNat_toNat]
  rw [e]
  rfl
theorem e_bits {P W : Nat} (hW : 0 < W) (hWP : W ≤ P) (hP : P < 2 ^ 63) : ∃ r, pX1_bitsOfQuotient (lN P) (lN W) = some r ∧ decide (FP.ddiv (FP.l2d (lN P)) (FP.l2d (lN W)) &&& 0x7fffffffffffffff ≤ 0x7ff0000000000000) = true ∧ pJxe99ae_doubleToLongBits_ccdee (FP.ddiv (FP.l2d (lN P)) (FP.l2d (lN W))) = some r := by
  have vl : ∀ {n : Nat}, 0 < n → n < 2 ^ 63 → Jvm.FP.Core.val64 (Jvm.FP.Core.l2d (lN n)) = Jvm.FP.Core.roundRatio Jvm.FP.Core.b64 false n 1 0 := fun {n} h0 hn => by
    rw [Jvm.FP.Core.val64_l2d, lN_val hn]
    show Jvm.FP.Core.roundRatio Jvm.FP.Core.b64 (decide ((n : Int) < 0)) (n : Int).natAbs 1 0 = _
    rw [show decide ((n : Int) < 0) = false from decide_eq_false (by omega), Int.natAbs_natCast]
  obtain ⟨_, _, cW, kW, w1, w2, _⟩ := fl_l2d hW (by omega)
  obtain ⟨_, _, cP, kP, p1, p2, _⟩ := fl_l2d (n := P) (by omega) hP
  have hm := fl_mono hW hWP hP w1 p1
  obtain ⟨c, k, q1, q2⟩ := fl_quot p1 w1 p2 hm
  obtain ⟨v, hv⟩ : ∃ v, v = Jvm.FP.Core.ddiv (Jvm.FP.Core.l2d (lN P)) (Jvm.FP.Core.l2d (lN W)) := ⟨_, rfl⟩
  have hn : fl_n (Jvm.FP.Core.val64 v) c k := by
    rw [hv, Jvm.FP.Core.val64_ddiv, vl (by omega) hP, vl hW (by omega)]
    exact q1
  have hnn : Jvm.FP.Core.val64 v ≠ .nan := by rw [hn.1]; exact Jvm.FP.Core.Datum.noConfusion
  have hck := fl_ck hnn
  have hb := fl_bits hn q2
  have hc := hn.2
  obtain ⟨m, rfl⟩ : ∃ m, c = 2 ^ 52 + m := ⟨c - 2 ^ 52, by omega⟩
  have hm52 : m < 2 ^ 52 := by omega
  rw [show 2 ^ 52 + m - 2 ^ 52 = m by omega] at hb
  have hlt : (k + 1023) * 2 ^ 52 + m < 2 ^ 63 := by omega
  have hd : FP.ddiv (FP.l2d (lN P)) (FP.l2d (lN W)) = v := hv.symm
  refine ⟨lN ((k + 1023) * 2 ^ 52 + m), ?_, by rw [hd]; exact hck, ?_⟩
  · obtain ⟨v', e, g⟩ := fl_loop (fun (v4 : UInt64) (v5 : Int32) =>
  am_ck (decide ((FP.dsub v4 (FP.dconst1)) &&& 0x7fffffffffffffff ≤ 0x7ff0000000000000)) (
  am_ck (decide ((FP.dmul (FP.dsub v4 (FP.dconst1)) (4841369599423283200 : UInt64)) &&& 0x7fffffffffffffff ≤ 0x7ff0000000000000)) (
  am_let (FP.d2l (FP.dmul (FP.dsub v4 (FP.dconst1)) (4841369599423283200 : UInt64))) (fun v6 =>
  some (((Int32.toInt64 ((1023 : Int32) + v5)) <<< (Int32.toInt64 (52 : Int32) &&& 63)) + v6))))) k am_fu 0 v (2 ^ 52 + m) hn (by omega) (by have := am_fu_ge; omega)
    obtain ⟨n1, n2, n3⟩ := fl_mant hm52 g.1
    have hpos : 0 < lg_cmp (lN W) 0 := lg_gt.mpr (by
      rw [Int64.lt_iff_toInt_lt, lN_val (by omega)]
      show (0 : Int) < W
      omega)
    unfold pX1_bitsOfQuotient
    rw [if_pos hpos, hd, hck, am_ck_true, am_let_e, am_jn_e]
    rw [nI_0] at e
    refine e.trans ?_
    have a1 : decide (FP.dsub v' FP.dconst1 &&& 0x7fffffffffffffff ≤ 0x7ff0000000000000) = true := fl_ck n1
    have a2 : decide (FP.dmul (FP.dsub v' FP.dconst1) (4841369599423283200 : UInt64) &&& 0x7fffffffffffffff ≤ 0x7ff0000000000000) = true := fl_ck n2
    have a3 : FP.d2l (FP.dmul (FP.dsub v' FP.dconst1) (4841369599423283200 : UInt64)) = lN m := Int64.toInt.inj (n3.trans (lN_val (by omega)).symm)
    rw [a1, am_ck_true, a2, am_ck_true, am_let_e, a3, Nat.zero_add, fl_exp k (by omega), lN_add]
  · have hself : Op.cmpValue (FP.dcmp v v) .l = 0 := by
      show Op.cmpValue (Jvm.FP.Core.dcmp v v) .l = 0
      rw [Jvm.FP.Core.dcmp_self hnn]
      rfl
    rw [hd]
    unfold pJxe99ae_doubleToLongBits_ccdee pJxe99ae_isNaN_b9ae7
    rw [if_pos hself, am_bd, if_pos rfl, fl_toI hb hlt]
theorem st22 (h : Inv R I L J K) (x : Int32) : ∃ r1 r2, pX10_averageBits R I L 1 x = some r1 ∧ pX11_averageBits rM J K 1 x = some r2 ∧ r1.1 = r2.1 ∧ Inv R r1.2.1 r1.2.2 J r2.2 := by
  have h' := h
  obtain ⟨A, w, sv, tx, wd, rs, sh, ok, hc, hm⟩ := h'
  have rM' := rngM (n := 60) (by omega) (x := x) (M := 60) rfl (hi := 60) (by decide)
  unfold pX10_averageBits pX11_averageBits
  rcases rng (n := 60) (by omega) (x := x) (M := 60) rfl with hx | ⟨hx, h2⟩
  · rw [rM'.1 hx]
    obtain ⟨k, hk, rfl⟩ := hx
    obtain ⟨I', e0, hT, f0⟩ := e_ldS hc.1 hc.2.1 ok.1 hc.2.2.2.2.2.2.2.2
    have hA3 : isA I' 2 (R 2 3) A := by rw [hc.1.r2_3]; exact hc.2.1.kept (f0 2 (by decide) (by decide)) (f0 3 (by decide) (by decide))
    obtain ⟨L1, e1, f1⟩ := e_countPaths (o := 19) hA3 ok.1 (by rw [hc.1.r19_0, hc.1.r19_1]; decide) L (k := k) (by omega)
    rw [hc.1.r19_0, hc.1.r19_1] at f1
    obtain ⟨L', e2, f2⟩ := e_countWords (R := R) (I := I') (c := 19) (o := 16) (u := 2) (by rw [hc.1.r19_2, hc.1.r19_3]; decide) (by rw [hc.1.r16_0, hc.1.r16_1]; exact hT) hA3 ok.1 L1 (k := k) (by omega)
    rw [hc.1.r19_2, hc.1.r19_3] at f2
    obtain ⟨K1, e3, f3⟩ := e_pathsOfM hm.1 ok.1 K (k := k) (by omega)
    obtain ⟨K', e4, f4⟩ := e_wordsOfM hm.1 ok.1 K1 (k := k) (by omega)
    have hI : Inv R I' L' J K' := h.fr (frC_steps hc.1 f0 hT (fun b hb => (f2 b (by omega) (by omega)).trans (f1 b (by omega) (by omega)))) (frM_L (fun b x y => (f4 b x y).trans (f3 b x y)))
    have hle := wrds_le_pths ok.1 k
    obtain ⟨s1, hs1⟩ : ∃ x, x = sat (-6) (pths A k) := ⟨_, rfl⟩
    obtain ⟨s2, hs2⟩ : ∃ x, x = sat (-6) (wrds A k) := ⟨_, rfl⟩
    obtain ⟨s3, hs3⟩ : ∃ x, x = sat (-1) (pths A k) := ⟨_, rfl⟩
    obtain ⟨s4, hs4⟩ : ∃ x, x = sat (-1) (wrds A k) := ⟨_, rfl⟩
    rw [← hs1] at e1
    rw [← hs2] at e2
    rw [← hs3] at e3
    rw [← hs4] at e4
    rw [cl_yes (by omega), am_bd, if_neg i10, hc.1.r1_11, hc.1.r1_0, hc.1.r1_10, e0, am_bd, e1, am_bd, e2, am_bd, am_bd, if_neg i10, e3, am_bd, e4, am_bd]
    dsimp only
    by_cases hp : pths A k < 2 ^ 63
    · have hw63 : wrds A k < 2 ^ 63 := by omega
      have c1 : ¬ lg_cmp s1 0 < 0 := fun q => by rw [hs1] at q; exact (sat_neg (by decide) _).mp q hp
      have c2 : 0 ≤ lg_cmp s2 0 := am_cmp_ge.mpr (fun q => by rw [hs2] at q; exact (sat_neg (by decide) _).mp q hw63)
      have c3 : ¬ lg_cmp s3 0 < 0 := fun q => by rw [hs3] at q; exact (sat_neg (by decide) _).mp q hp
      have c4 : 0 ≤ lg_cmp s4 0 := am_cmp_ge.mpr (fun q => by rw [hs4] at q; exact (sat_neg (by decide) _).mp q hw63)
      rw [if_neg c1, if_pos c2, if_neg c3, if_pos c4, am_jn_e]
      by_cases h0 : wrds A k = 0
      · have c5 : lg_cmp s4 0 = 0 := by rw [hs4]; exact (sat_eq0 (by decide) _).mpr h0
        rw [if_pos c5]
        have hz : ¬ 0 < lg_cmp s2 0 := fun q => by
          rw [hs2, h0, sat_lt (by decide)] at q
          exact absurd q (by decide +kernel)
        unfold pX1_bitsOfQuotient
        rw [if_neg hz]
        have hnan : pJxe99ae_doubleToLongBits_ccdee (9221120237041090560 : UInt64) = some (9221120237041090560 : Int64) := by
          have hself : ¬ Op.cmpValue (FP.dcmp (9221120237041090560 : UInt64) (9221120237041090560 : UInt64)) .l = 0 := by decide +kernel
          unfold pJxe99ae_doubleToLongBits_ccdee pJxe99ae_isNaN_b9ae7
          rw [if_neg hself, am_bd, if_neg (by decide)]
        dsimp only
        rw [hnan, am_bd, am_bd]
        exact ⟨_, _, rfl, rfl, rfl, hI⟩
      · have c5 : ¬ lg_cmp s4 0 = 0 := fun q => by rw [hs4] at q; exact h0 ((sat_eq0 (by decide) _).mp q)
        obtain ⟨r, b1, b2, b3⟩ := e_bits (by omega) hle hp
        rw [sat_lt hp] at hs1 hs3
        rw [sat_lt hw63] at hs2 hs4
        rw [if_neg c5, hs1, hs2, hs3, hs4]
        rw [b1, b2, am_bd, am_ck_true]
        dsimp only
        rw [b3, am_bd]
        exact ⟨_, _, rfl, rfl, rfl, hI⟩
    · have c1 : lg_cmp s1 0 < 0 := by rw [hs1]; exact (sat_neg (by decide) _).mpr hp
      have c2 : lg_cmp s3 0 < 0 := by rw [hs3]; exact (sat_neg (by decide) _).mpr hp
      rw [if_pos c1, if_pos c2]
      exact ⟨_, _, rfl, rfl, rfl, hI⟩
  · refine ⟨(-2, I, L), (-2, K), ?_, ?_, rfl, h⟩
    · rw [cl_no h2, am_bd, if_pos rfl]
    · rw [rM'.2 hx, am_bd, if_pos rfl]
end
