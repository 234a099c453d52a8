/-! the class's search: packed nodes -/
theorem nI_or {a b : Nat} (s : Nat) (hb : b < 2 ^ s) (h : 2 ^ s * a + b < 2 ^ 31) : nI (2 ^ s * a) ||| nI b = nI (2 ^ s * a + b) := by
  apply Int32.toBitVec_inj.mp
  apply BitVec.eq_of_toNat_eq
  have h1 : 2 ^ s * a < 2 ^ 32 := by omega
  have h2 : b < 2 ^ 32 := by omega
  have h3 : 2 ^ s * a + b < 2 ^ 32 := by omega
  rw [Int32.toBitVec_or, BitVec.toNat_or, pk_tn h1, pk_tn h2, pk_tn h3, Nat.two_pow_add_eq_or_of_lt hb]
/-- a set below 64 as a number -/
def nz (x : Int32) : Nat := x.toBitVec.toNat % 64
theorem nz_lt (x : Int32) : nz x < 64 := Nat.mod_lt _ (by decide)
theorem nz_e {x : Int32} (h : lon 6 x) : x = nI (nz x) := by
  obtain ⟨n, hn, e⟩ := lon_nI h
  unfold nz
  rw [e, pk_tn (by omega), Nat.mod_eq_of_lt hn]
theorem lon_64 {X : Nat} (hX : X < 64) : lon 6 (nI X) := fun k hk => by
  by_cases h : k < 32
  · rw [bt_nI X hX k h]; exact tb_ge X hX k hk h
  · exact bt_ge _ (by omega)
theorem lon_tw {A : am_Au} (hw : aw A) (a X : Nat) : lon 6 (tw A a X) := fun k hk => by
  cases e : bt (tw A a X) k with
  | false => rfl
  | true =>
    have e : bt (fo A a X 6).2 k = true := e
    obtain ⟨s, s', _, _, _, _, _, h, _⟩ := (bt_fo2 6).mp e
    rw [hw.2.2.2.1 a s k (Nat.le_trans hw.2.1 hk)] at h
    cases h
theorem btl_1s : ∀ s, s < 64 → ∀ k, k < 64 → btl ((1 : Int64) <<< ((nI s).toInt64 &&& 63)) k = decide (k = s) := by decide +kernel
section
variable {R : am_R} {I : am_I} {L : am_L} {mt : Nat → Bool} {q pr lt : Nat → Nat} {m : Nat}
theorem okC.s24 (h : okC R) : R 24 0 = 25 ∧ R 24 8 = 28 ∧ R 24 11 = 29 ∧ R 25 0 = 26 ∧ R 25 1 = 27 := ⟨h.1 24 0 (by decide) (by decide), h.1 24 8 (by decide) (by decide), h.1 24 11 (by decide) (by decide), h.1 25 0 (by decide) (by decide), h.1 25 1 (by decide) (by decide)⟩
/-- the search's memory -/
def seM (I : am_I) (L : am_L) (mt : Nat → Bool) (q pr lt : Nat → Nat) (m : Nat) : Prop :=
  I 24 9 = nI m ∧ (∀ i, i < m → I 28 i = nI (pr i * 16384 + lt i * 4096 + q i)) ∧ ∀ X, X < 64 → ∀ Y, Y < 64 → btl (L 29 X) Y = mt (64 * X + Y)
/-- what it may write -/
def sef (I : am_I) (L : am_L) (I' : am_I) (L' : am_L) : Prop := (∀ b, b ≠ 24 → b ≠ 28 → I' b = I b) ∧ (∀ k, k ≠ 9 → k ≠ 10 → I' 24 k = I 24 k) ∧ ∀ b, b ≠ 29 → L' b = L b
theorem sef.rf (I : am_I) (L : am_L) : sef I L I L := ⟨fun _ _ _ => rfl, fun _ _ _ => rfl, fun _ _ => rfl⟩
theorem sef.tr {I1 : am_I} {L1 : am_L} {I2 : am_I} {L2 : am_L} (h : sef I L I1 L1) (g : sef I1 L1 I2 L2) : sef I L I2 L2 := ⟨fun b x y => (g.1 b x y).trans (h.1 b x y), fun k x y => (g.2.1 k x y).trans (h.2.1 k x y), fun b x => (g.2.2 b x).trans (h.2.2 b x)⟩
theorem pk_node {k a X Y : Nat} (hk : k < 4096) (ha : a < 4) (hX : X < 64) (hY : Y < 64) : (nI (k * 16384 + a * 4096) ||| (nI X <<< ((6 : Int32) &&& 31))) ||| nI Y = nI (k * 16384 + a * 4096 + (64 * X + Y)) := by
  rw [pk_shlN (n := X) ((6 : Int32) &&& 31) 6 (by decide) (by omega)]
  have e1 : k * 16384 + a * 4096 = 2 ^ 12 * (4 * k + a) := by omega
  have e2 : 2 ^ 12 * (4 * k + a) + X * 2 ^ 6 = 2 ^ 6 * (64 * (4 * k + a) + X) := by omega
  rw [e1, nI_or 12 (show X * 2 ^ 6 < 2 ^ 12 by omega) (by omega), e2, nI_or 6 (show Y < 2 ^ 6 by omega) (by omega)]
  congr 1
  omega
theorem e_meet (hR : okC R) (hS : seM I L mt q pr lt m) (hm : m ≤ 4096) {X Y k a : Nat} (hX : X < 64) (hY : Y < 64) (hk : k < 4096) (ha : a < 3) (hf : mt (64 * X + Y) = false → m < 4096) :
    ∃ I' L', pX9_meet R I L 24 (nI X) (nI Y) (nI (k * 16384 + a * 4096)) = some (I', L') ∧ (mt (64 * X + Y) = true → I' = I ∧ L' = L) ∧ (mt (64 * X + Y) = false → seM I' L' (updB mt (64 * X + Y)) (updN q m (64 * X + Y)) (updN pr m k) (updN lt m a) (m + 1)) ∧ sef I L I' L' := by
  obtain ⟨r0, r8, r11, _, _⟩ := hR.s24
  obtain ⟨h1, h2, h3⟩ := hS
  unfold pX9_meet
  rw [if_neg (nI_pos (show X < 2 ^ 31 by omega)), if_neg (ng64 hX), h1]
  by_cases c : m < 4096
  · have c' : nI m < (4096 : Int32) := nI_lt0 (b := 4096) c (by omega)
    rw [if_pos c', inb hX (show 64 < 1000000 by omega), am_ck_true, r11, nIcl (show X < 1000000 by omega), btl_shr1 _ hY, h3 X hX Y hY]
    cases hmt : mt (64 * X + Y) with
    | true =>
      rw [if_pos rfl, if_neg (by decide)]
      exact ⟨I, L, rfl, fun _ => ⟨rfl, rfl⟩, fun h => (by cases h), sef.rf I L⟩
    | false =>
      rw [if_neg (show ¬ false = true by decide), if_pos (by decide), am_ck_true, am_ck_true, am_let_e, inb c (by omega), am_ck_true, r8, nIcl (show m < 1000000 by omega), pk_node hk (show a < 4 by omega) hX hY, am_let_e, am_upI_ne (show (24 : Nat) ≠ 28 by decide), h1, nI_1, am_let_e]
      refine ⟨_, _, rfl, fun h => (by cases h), fun _ => ⟨am_upI_s, fun i hi => ?_, fun X' hX' Y' hY' => ?_⟩, fun b x y => by rw [am_upI_ne x, am_upI_ne y], fun k x y => by rw [am_upI_o x, am_upI_ne (by decide)], fun b x => am_upL_n x⟩
      · rw [am_upI_ne (by decide)]
        by_cases e : i = m
        · rw [e, am_upI_s, updN_s, updN_s, updN_s]
        · rw [am_upI_o e, updN_o e, updN_o e, updN_o e]; exact h2 i (by omega)
      · by_cases e : X' = X
        · subst e
          rw [am_upL_s, btl_or, btl_1s Y hY Y' hY', h3 X' hX' Y' hY']
          by_cases f : Y' = Y
          · rw [f, updB_s, decide_eq_true rfl, Bool.or_true]
          · rw [updB_o (by omega), decide_eq_false f, Bool.or_false]
        · rw [am_upL_o e, updB_o (by omega)]; exact h3 X' hX' Y' hY'
  · have c' : ¬ nI m < (4096 : Int32) := by
      intro h
      have g : (4096 : Int32) ≤ nI m := nI_le (a := 4096) (by omega) (by omega)
      rw [Int32.lt_iff_toInt_lt] at h
      rw [Int32.le_iff_toInt_le] at g
      omega
    rw [if_neg c']
    exact ⟨I, L, rfl, fun _ => ⟨rfl, rfl⟩, fun h => absurd (hf h) c, sef.rf I L⟩
theorem e_nodeAt (hR : okC R) (hS : seM I L mt q pr lt m) (hm : m ≤ 4096) {k : Nat} (hk : k < m) : pX9_nodeAt R I 24 (nI k) = some (nI (pr k * 16384 + lt k * 4096 + q k)) := by
  unfold pX9_nodeAt
  have c : ¬ (4096 : Int32) ≤ nI k := nI_ge (b := 4096) (by omega) (by omega)
  rw [if_neg (nI_pos (show k < 2 ^ 31 by omega)), if_neg c, inb (show k < 4096 by omega) (by omega), am_ck_true, hR.s24.2.1, nIcl (show k < 1000000 by omega), hS.2.1 k hk]
theorem e_firstSet (hR : okC R) (hS : seM I L mt q pr lt m) (hm : m ≤ 4096) {k : Nat} (hk : k < m) (hp : pr k < 4096) (hl : lt k < 3) (hq : q k < 4096) : pX9_firstSet R I 24 (nI k) = some (nI (q k / 64)) := by
  unfold pX9_firstSet
  rw [e_nodeAt hR hS hm hk, am_bd, pk_shrN (show pr k * 16384 + lt k * 4096 + q k < 2 ^ 31 by omega) ((6 : Int32) &&& 31) 6 (by decide), pk_andN (by omega) (m := 63) 6 (by decide)]
  congr 2
  omega
theorem e_secondSet (hR : okC R) (hS : seM I L mt q pr lt m) (hm : m ≤ 4096) {k : Nat} (hk : k < m) (hp : pr k < 4096) (hl : lt k < 3) (hq : q k < 4096) : pX9_secondSet R I 24 (nI k) = some (nI (q k % 64)) := by
  unfold pX9_secondSet
  rw [e_nodeAt hR hS hm hk, am_bd, pk_andN (by omega) (m := 63) 6 (by decide)]
  congr 2
  omega
/-- the node behind a node; sp: both sets go on alone -/
def nxS (A : am_Au) (sp : Bool) (a z : Nat) : Nat := 64 * dl A a (z / 64) + (if sp = true then dl A a (z % 64) else nz (stp A (nI (z % 64)) a ||| tw A a (nz (nI (z / 64) &&& (nI (z % 64) ^^^ (-1 : Int32))))))
theorem nxS_lt (A : am_Au) (sp : Bool) (a z : Nat) : nxS A sp a z < 4096 := by
  have h1 := dl_lt A a (z / 64)
  have h2 := dl_lt A a (z % 64)
  have h3 := nz_lt (stp A (nI (z % 64)) a ||| tw A a (nz (nI (z / 64) &&& (nI (z % 64) ^^^ (-1 : Int32)))))
  unfold nxS
  cases sp
  · rw [if_neg (by decide)]; omega
  · rw [if_pos rfl]; omega
theorem e_goOn {A : am_Au} (hR : okC R) (hw : aw A) {sp : Bool} (hmd : I 24 5 = 2 ↔ sp = true) (hT : ∀ a, a < 3 → tab I 26 27 A a 64) {z0 k a : Nat} {W : Nat → List Nat} (hS : seM I L mt q pr lt m) (hI : SI (nxS A sp) z0 mt q pr lt W m k a) (hk : k < m) (ha : a < 3) :
    ∃ I' L' mt' q' pr' lt' W' m', pX9_goOn R I L 24 (nI k) (nI a) = some (I', L') ∧ seM I' L' mt' q' pr' lt' m' ∧ SI (nxS A sp) z0 mt' q' pr' lt' W' m' k (a + 1) ∧ (∀ i, i < m → q' i = q i) ∧ m ≤ m' ∧ sef I L I' L' := by
  have hm := hI.m_le
  obtain ⟨r0, r8, r11, r50, r51⟩ := hR.s24
  have hpk : pr k < 4096 ∧ lt k < 3 := by
    by_cases e : k = 0
    · rw [e, hI.1.2.2.2.1, hI.1.2.2.2.2]; exact ⟨by omega, by omega⟩
    · obtain ⟨a1, a2, _⟩ := hI.2.1 k (by omega) hk
      exact ⟨by omega, a2⟩
  have hq := (hI.2.2.1 k hk).2.2
  have hX : q k / 64 < 64 := by omega
  have hY : q k % 64 < 64 := by omega
  have hT' : ∀ a, a < 3 → tab I (R 25 0) (R 25 1) A a 64 := by rw [r50, r51]; exact hT
  have e1 := e_once (o := 25) hT' hw hX ha
  have e2 := e_once (o := 25) hT' hw hY ha
  have hz := nxS_lt A sp a (q k)
  have g1 := dl_lt A a (q k / 64)
  have ex : (nI k <<< ((14 : Int32) &&& 31)) ||| (nI a <<< ((12 : Int32) &&& 31)) = nI (k * 16384 + a * 4096) := by
    rw [pk_shlN (n := k) ((14 : Int32) &&& 31) 14 (by decide) (by omega), pk_shlN (n := a) ((12 : Int32) &&& 31) 12 (by decide) (by omega)]
    have e1 : k * 2 ^ 14 = 2 ^ 14 * k := Nat.mul_comm _ _
    rw [e1, nI_or 14 (show a * 2 ^ 12 < 2 ^ 14 by omega) (by omega)]
  -- what meets
  have fin : ∀ Y2, Y2 < 64 → nxS A sp a (q k) = 64 * dl A a (q k / 64) + Y2 → ∃ I' L' mt' q' pr' lt' W' m', Option.bind (pX9_meet R I L 24 (nI (dl A a (q k / 64))) (nI Y2) (nI (k * 16384 + a * 4096))) (fun r9 => some (r9.1, r9.2)) = some (I', L') ∧ seM I' L' mt' q' pr' lt' m' ∧ SI (nxS A sp) z0 mt' q' pr' lt' W' m' k (a + 1) ∧ (∀ i, i < m → q' i = q i) ∧ m ≤ m' ∧ sef I L I' L' := fun Y2 hY2 en => by
    cases hmt : mt (nxS A sp a (q k)) with
    | true =>
      obtain ⟨I', L', m1, m2, m3, m4⟩ := e_meet hR hS hm (X := dl A a (q k / 64)) (Y := Y2) g1 hY2 (show k < 4096 by omega) ha (fun h => by rw [← en, hmt] at h; cases h)
      rw [← en] at m2
      obtain ⟨rfl, rfl⟩ := m2 hmt
      exact ⟨_, _, mt, q, pr, lt, W, m, by rw [m1, am_bd], hS, hI.old hk hz hmt, fun _ _ => rfl, Nat.le_refl _, m4⟩
    | false =>
      obtain ⟨n1, n2⟩ := hI.new hk ha hz hmt
      obtain ⟨I', L', m1, m2, m3, m4⟩ := e_meet hR hS hm (X := dl A a (q k / 64)) (Y := Y2) g1 hY2 (show k < 4096 by omega) ha (fun _ => n2)
      rw [← en] at m3
      exact ⟨I', L', _, _, _, _, _, _, by rw [m1, am_bd], m3 hmt, n1, fun i hi => updN_o (by omega), by omega, m4⟩
  unfold pX9_goOn
  rw [e_firstSet hR hS hm hk hpk.1 hpk.2 hq, am_bd, e_secondSet hR hS hm hk hpk.1 hpk.2 hq, am_bd, r0, e1, am_bd, e2, am_bd, am_jn_e, ex, dl_e hw]
  cases sp with
  | true =>
    rw [if_pos (hmd.mpr rfl), dl_e hw]
    refine fin _ (dl_lt A a (q k % 64)) ?_
    unfold nxS
    rw [if_pos rfl]
  | false =>
    have hx : nI (q k / 64) &&& (nI (q k % 64) ^^^ (-1 : Int32)) = nI (nz (nI (q k / 64) &&& (nI (q k % 64) ^^^ (-1 : Int32)))) := nz_e (lon_andl (lon_64 hX))
    rw [if_neg (fun h => by have := hmd.mp h; cases this)]
    have e3 := e_twice (o := 25) (R := R) (A := A) hT' (nz_lt (nI (q k / 64) &&& (nI (q k % 64) ^^^ (-1 : Int32)))) ha
    rw [← hx] at e3
    rw [e3, am_bd, am_let_e]
    have hv := nz_e (lon_or ((lon_stp hw (nI (q k % 64)) a).le hw.2.1) (lon_tw hw a (nz (nI (q k / 64) &&& (nI (q k % 64) ^^^ (-1 : Int32))))))
    rw [hv]
    refine fin _ (nz_lt _) ?_
    unfold nxS
    rw [if_neg (by decide)]
end
