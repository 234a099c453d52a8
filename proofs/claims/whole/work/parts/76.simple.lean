/-! calls 0 to 10: the automaton's own -/
def inS (n : Nat) (x : Int32) : Prop := ∃ j, j < n ∧ x = nI j
theorem inS_no {n : Nat} {x : Int32} (hn : n < 1000000) (h : ¬ inS n x) : x < 0 ∨ nI n ≤ x := by
  rcases pk_ix x (n := n) (by omega) with h1 | h1 | h1
  · exact Or.inl h1
  · exact Or.inr h1
  · exact absurd h1 h
theorem hs_no {I : am_I} {o n : Nat} {x : Int32} (h0 : I o 0 = nI n) (hn : n ≤ 6) (h : ¬ inS n x) : pX0_hasState I o x = some 0 := by
  rcases e_hasState h0 hn x with h1 | ⟨s, hs, e, _⟩
  · exact h1.1
  · exact absurd ⟨s, hs, e⟩ h
theorem hs_yes {I : am_I} {o n s : Nat} (h0 : I o 0 = nI n) (hn : n ≤ 6) (hs : s < n) : pX0_hasState I o (nI s) = some 1 := by
  unfold pX0_hasState
  rw [h0, if_neg (nI_pos (by omega)), if_neg (nI_ge hs (by omega))]
theorem hsM_no {J : am_I} {n : Nat} {x : Int32} (h0 : J 1 3 = nI n) (hn : n ≤ 6) (h : ¬ inS n x) : pX11_isState J 1 x = some 0 := by
  unfold pX11_isState
  rw [h0]
  by_cases h1 : x < 0
  · rw [if_pos h1]
  · rw [if_neg h1, if_pos ((inS_no (by omega) h).resolve_left h1)]
theorem hsM_yes {J : am_I} {n s : Nat} (h0 : J 1 3 = nI n) (hn : n ≤ 6) (hs : s < n) : pX11_isState J 1 (nI s) = some 1 := by
  unfold pX11_isState
  rw [h0, if_neg (nI_pos (by omega)), if_neg (nI_ge hs (by omega))]
theorem lt_no {x : Int32} (h : ¬ inS 3 x) : pX10_isLetter x = some 0 := by
  rcases e_isLetter x with h1 | ⟨s, hs, e, _⟩
  · exact h1.1
  · exact absurd ⟨s, hs, e⟩ h
theorem lt_yes {a : Nat} (h : a < 3) : pX10_isLetter (nI a) = some 1 := by
  unfold pX10_isLetter
  rw [if_neg (nI_pos (by omega)), if_neg (ng3 h)]
theorem ltM_no {x : Int32} (h : ¬ inS 3 x) : pX11_isLetter x = some 0 := lt_no h
theorem ltM_yes {a : Nat} (h : a < 3) : pX11_isLetter (nI a) = some 1 := lt_yes h
theorem i10 : ¬ (1 : Int32) = 0 := by decide
/-! between -/
theorem i64_lt (x y : Int32) : Int32.toInt64 x < Int32.toInt64 y ↔ x < y := by
  rw [Int64.lt_iff_toInt_lt, Int32.lt_iff_toInt_lt, Int32.toInt_toInt64, Int32.toInt_toInt64]
theorem lg_lt {x y : Int64} : lg_cmp x y < 0 ↔ x < y := by
  unfold lg_cmp
  by_cases h : x > y
  · rw [if_pos h]
    exact ⟨fun q => absurd q (by decide), fun q => absurd q (Int64.lt_asymm h)⟩
  · rw [if_neg h]
    by_cases h2 : x = y
    · rw [if_pos h2]; subst h2
      exact ⟨fun q => absurd q (by decide), fun q => absurd q Int64.lt_irrefl⟩
    · rw [if_neg h2]
      refine ⟨fun _ => ?_, fun _ => by decide⟩
      rw [Int64.lt_iff_toInt_lt]
      have h1 : ¬ y.toInt < x.toInt := fun q => h (Int64.lt_iff_toInt_lt.mpr q)
      have h3 : x.toInt ≠ y.toInt := fun q => h2 (Int64.toInt_inj.mp q)
      omega
theorem lg_gt {x y : Int64} : 0 < lg_cmp x y ↔ y < x := by
  unfold lg_cmp
  by_cases h : x > y
  · rw [if_pos h]
    exact ⟨fun _ => h, fun _ => by decide⟩
  · rw [if_neg h]
    refine ⟨fun q => ?_, fun q => absurd q h⟩
    by_cases h2 : x = y
    · rw [if_pos h2] at q; exact absurd q (by decide)
    · rw [if_neg h2] at q; exact absurd q (by decide)
theorem e_between (x lo hi : Int32) {lo' hi' : Int64} (h1 : lo' = Int32.toInt64 lo) (h2 : hi' = Int32.toInt64 hi) : pX11_isBetween (Int32.toInt64 x) lo' hi' = some (bI (decide (lo ≤ x ∧ x ≤ hi))) := by
  subst h1; subst h2
  unfold pX11_isBetween
  by_cases ha : x < lo
  · rw [if_pos (lg_lt.mpr ((i64_lt _ _).mpr ha))]
    have : ¬ (lo ≤ x ∧ x ≤ hi) := fun q => by have := Int32.lt_iff_toInt_lt.mp ha; have := Int32.le_iff_toInt_le.mp q.1; omega
    simp only [this, decide_false]; rfl
  · rw [if_neg (fun q => ha ((i64_lt _ _).mp (lg_lt.mp q)))]
    by_cases hb : hi < x
    · rw [if_pos (lg_gt.mpr ((i64_lt _ _).mpr hb))]
      have : ¬ (lo ≤ x ∧ x ≤ hi) := fun q => by have := Int32.lt_iff_toInt_lt.mp hb; have := Int32.le_iff_toInt_le.mp q.2; omega
      simp only [this, decide_false]; rfl
    · rw [if_neg (fun q => hb ((i64_lt _ _).mp (lg_gt.mp q)))]
      have : lo ≤ x ∧ x ≤ hi := by
        constructor
        · exact Int32.le_iff_toInt_le.mpr (by have := mt Int32.lt_iff_toInt_lt.mpr ha; omega)
        · exact Int32.le_iff_toInt_le.mpr (by have := mt Int32.lt_iff_toInt_lt.mpr hb; omega)
      simp only [this, and_self, decide_true]; rfl
/-! changes of the automaton -/
theorem InvC.aut {R : am_R} {I : am_I} {L : am_L} {A A' : am_Au} {w : Nat → Nat} {sv : am_Sv} {tx wd : am_Tx} {rs : Option am_Rs} {sh : Nat → am_Sf} (h : InvC R I L A w sv tx wd rs sh) {I' : am_I} (hA : isA I' 2 3 A') (hf : ∀ b, b ≠ 2 → b ≠ 3 → I' b = I b) : InvC R I' L A' w sv tx wd rs sh := by
  obtain ⟨h0, h1, h2, h3, h4, h5, h6, h7, h8⟩ := h
  have hr : R 1 15 ≠ 2 ∧ R 1 15 ≠ 3 := by rcases h0.2.1 with ⟨q, _⟩ | ⟨q, _⟩ <;> rw [q] <;> decide
  exact ⟨h0, hA, h2.kept (hf 6 (by omega) (by omega)), h3.kept (by rw [hf 1 (by omega) (by omega)]) (hf 4 (by omega) (by omega)) (hf 5 (by omega) (by omega)) (hf 7 (by omega) (by omega)), h4.kept (hf 8 (by omega) (by omega)) (hf 9 (by omega) (by omega)), h5.kept (hf 10 (by omega) (by omega)) (hf 11 (by omega) (by omega)), h6.kept (by rw [hf 1 (by omega) (by omega)]) (hf _ hr.1 hr.2) rfl rfl, h7.kept (fun b x y => hf b (by omega) (by omega)) (fun _ _ _ => rfl), h8.kept (hf 17 (by omega) (by omega)) (hf 18 (by omega) (by omega)) (hf 26 (by omega) (by omega)) (hf 27 (by omega) (by omega))⟩
theorem InvM.aut {J : am_I} {K : am_L} {A A' : am_Au} {w : Nat → Nat} {sv : am_Sv} {tx wd : am_Tx} {rs : Option am_Rs} {sh : Nat → am_Sf} (h : InvM J K A w sv tx wd rs sh) {J' : am_I} (hA : isM J' A') (hf : ∀ b, kcM b = true → b ≠ 2 → J' b = J b) (hk : ∀ k, kfM k = true → (k < 3 ∨ 6 < k) → J' 1 k = J 1 k) (h6 : J' 1 6 = 0) : InvM J' K A' w sv tx wd rs sh := by
  obtain ⟨h1, h2, h3, h4, h5, h6', h7, h8⟩ := h
  exact ⟨hA, h2.kept (hf 4 rfl (by omega)), h3.kept (hk 49 rfl (by omega)) (hf 32 rfl (by omega)), h4.kept (hk 12 rfl (by omega)) (hf 7 rfl (by omega)), h5.kept (hk 16 rfl (by omega)) (hf 9 rfl (by omega)), h6'.kept (hk 40 rfl (by omega)) rfl rfl, h7.kept (hf 28 rfl (by omega)) (hf 29 rfl (by omega)) rfl, Or.inl h6⟩
/-- one set of targets is written -/
def setT (A : am_Au) (a s : Nat) (v : Int32) : am_Au := (A.1, A.2.1, A.2.2.1, fun a' s' => if a' = a ∧ s' = s then v else A.2.2.2 a' s')
theorem aw_setT {A : am_Au} (hw : aw A) {a s : Nat} (ha : a < 3) (hs : s < A.1) {v : Int32} (hv : lon A.1 v) : aw (setT A a s v) := by
  obtain ⟨w1, w2, w3, w4, w5⟩ := hw
  refine ⟨w1, w2, w3, fun a' s' k hk => ?_, fun a' s' h => ?_⟩
  · show bt (if a' = a ∧ s' = s then v else A.2.2.2 a' s') k = false
    by_cases q : a' = a ∧ s' = s
    · rw [if_pos q]; exact hv k hk
    · rw [if_neg q]; exact w4 a' s' k hk
  · show (if a' = a ∧ s' = s then v else A.2.2.2 a' s') = 0
    have h : A.1 ≤ s' ∨ 3 ≤ a' := h
    rw [if_neg (fun q => by omega)]; exact w5 a' s' h
theorem isA_setT {I : am_I} {o t : Nat} {A : am_Au} (h : isA I o t A) (hot : o ≠ t) {a s : Nat} (ha : a < 3) (v : Int32) : isA (am_upI I t (3 * s + a) v) o t (setT A a s v) := by
  obtain ⟨a0, a1, a2, a3⟩ := h
  refine ⟨by rw [am_upI_ne hot]; exact a0, by rw [am_upI_ne hot]; exact a1, by rw [am_upI_ne hot]; exact a2, fun a' s' ha' hs' => ?_⟩
  show am_upI I t (3 * s + a) v t (3 * s' + a') = if a' = a ∧ s' = s then v else A.2.2.2 a' s'
  by_cases q : a' = a ∧ s' = s
  · rw [if_pos q, q.1, q.2, am_upI_s]
  · rw [if_neg q, am_upI_o (by omega)]; exact a3 a' s' ha' hs'
theorem isM_setT {J : am_I} {A : am_Au} (h : isM J A) {a s : Nat} (hs : s < 6) (v : Int32) : isM (am_upI J 2 (6 * a + s) v) (setT A a s v) := by
  obtain ⟨a0, a1, a2, a3⟩ := h
  refine ⟨by rw [am_upI_ne (by decide)]; exact a0, by rw [am_upI_ne (by decide)]; exact a1, by rw [am_upI_ne (by decide)]; exact a2, fun a' s' ha' hs' => ?_⟩
  show am_upI J 2 (6 * a + s) v 2 (6 * a' + s') = if a' = a ∧ s' = s then v else A.2.2.2 a' s'
  by_cases q : a' = a ∧ s' = s
  · rw [if_pos q, q.1, q.2, am_upI_s]
  · rw [if_neg q, am_upI_o (by omega)]; exact a3 a' s' ha' hs'
theorem isM_1 {J : am_I} {A : am_Au} (h : isM J A) {k : Nat} (hk : k < 3 ∨ 5 < k) (v : Int32) : isM (am_upI J 1 k v) A :=
  h.kept (fun j a b => am_upI_o (by omega)) (am_upI_ne (by decide))
theorem setT_same {A : am_Au} {a s : Nat} {v : Int32} (h : A.2.2.2 a s = v) : setT A a s v = A := by
  obtain ⟨n, i, f, T⟩ := A
  show (n, i, f, fun a' s' => if a' = a ∧ s' = s then v else T a' s') = (n, i, f, T)
  have : (fun a' s' => if a' = a ∧ s' = s then v else T a' s') = T := by
    funext a' s'
    by_cases q : a' = a ∧ s' = s
    · rw [if_pos q, q.1, q.2]; exact h.symm
    · rw [if_neg q]
  rw [this]
theorem or_same {x : Int32} {t : Nat} (ht : t < 32) (h : bt x t = true) : x ||| ((1 : Int32) <<< (nI t &&& 31)) = x := bt_ext fun k hk => by
  rw [bt_or, bt_1s ht]
  by_cases q : k = t
  · subst q; rw [h]; rfl
  · rw [decide_eq_false q, Bool.or_false]
theorem andn_same {x : Int32} {t : Nat} (ht : t < 32) (h : ¬ bt x t = true) : x &&& (((1 : Int32) <<< (nI t &&& 31)) ^^^ (-1)) = x := bt_ext fun k hk => by
  rw [bt_and, bt_not _ hk, bt_1s ht]
  by_cases q : k = t
  · subst q
    cases e : bt x k with
    | true => exact absurd e h
    | false => rfl
  · rw [decide_eq_false q]; simp
theorem lon_orb {n t : Nat} {x : Int32} (hx : lon n x) (ht : t < n) (hn : n ≤ 6) : lon n (x ||| ((1 : Int32) <<< (nI t &&& 31))) := lon_or hx (lon_1s ht hn)
theorem lon_andl {n : Nat} {x y : Int32} (hx : lon n x) : lon n (x &&& y) := fun k hk => by rw [bt_and, hx k hk]; rfl
section
variable {R : am_R} {I : am_I} {o : Nat} {A : am_Au}
theorem e_couldHave (hA : isA I o (R o 3) A) (hw : aw A) {s a t : Nat} (hs : s < A.1) (ha : a < 3) (ht : t < A.1) : pX0_couldHave I o (nI s) (nI a) (nI t) = some 1 := by
  unfold pX0_couldHave
  simp only [hs_yes hA.1 hw.2.1 hs, lt_yes ha, hs_yes hA.1 hw.2.1 ht, am_bd, i10, if_false]
theorem e_couldNot (hA : isA I o (R o 3) A) (hw : aw A) {x y z : Int32} (h : ¬ (inS A.1 x ∧ inS 3 y ∧ inS A.1 z)) : pX0_couldHave I o x y z = some 0 := by
  unfold pX0_couldHave
  by_cases h1 : inS A.1 x
  · obtain ⟨s, hs, rfl⟩ := h1
    simp only [hs_yes hA.1 hw.2.1 hs, am_bd, i10, if_false]
    by_cases h2 : inS 3 y
    · obtain ⟨a, ha, rfl⟩ := h2
      have h3 : ¬ inS A.1 z := fun q => h ⟨⟨s, hs, rfl⟩, ⟨a, ha, rfl⟩, q⟩
      simp only [lt_yes ha, am_bd, i10, if_false, hs_no hA.1 hw.2.1 h3, if_true]
    · simp only [lt_no h2, am_bd, if_true]
  · simp only [hs_no hA.1 hw.2.1 h1, am_bd, if_true]
theorem e_add (hA : isA I o (R o 3) A) (hw : aw A) {s a t : Nat} (hs : s < A.1) (ha : a < 3) (ht : t < A.1) : pX0_add R I o (nI s) (nI a) (nI t) = some (if bt (A.2.2.2 a s) t = true then (0, I) else (1, am_upI I (R o 3) (3 * s + a) (A.2.2.2 a s ||| ((1 : Int32) <<< (nI t &&& 31))))) := by
  have h6 := hw.2.1
  unfold pX0_add
  simp only [e_couldHave hA hw hs ha ht, am_bd, i10, if_false, e_targetsOf hA hw s a (by omega) (by omega), e_cb _ (show t < 32 by omega), bI0, ite_not, ix3, inb (show 3 * s + a < 18 by omega) (by omega), am_ck_true, am_let_e, nIcl (show 3 * s + a < 1000000 by omega), hA.2.2.2 a s ha (by omega)]
  cases bt (A.2.2.2 a s) t <;> rfl
theorem e_remove (hA : isA I o (R o 3) A) (hw : aw A) {s a t : Nat} (hs : s < A.1) (ha : a < 3) (ht : t < A.1) : pX0_remove R I o (nI s) (nI a) (nI t) = some (if bt (A.2.2.2 a s) t = true then (1, am_upI I (R o 3) (3 * s + a) (A.2.2.2 a s &&& (((1 : Int32) <<< (nI t &&& 31)) ^^^ (-1)))) else (0, I)) := by
  have h6 := hw.2.1
  unfold pX0_remove
  simp only [e_couldHave hA hw hs ha ht, am_bd, i10, if_false, e_targetsOf hA hw s a (by omega) (by omega), e_cb _ (show t < 32 by omega), bI0, ite_not, ix3, inb (show 3 * s + a < 18 by omega) (by omega), am_ck_true, am_let_e, nIcl (show 3 * s + a < 1000000 by omega), hA.2.2.2 a s ha (by omega)]
  cases bt (A.2.2.2 a s) t <;> rfl
end
theorem lon_nI {x : Int32} (h : lon 6 x) : ∃ n, n < 64 ∧ x = nI n := by
  refine ⟨x.toBitVec.toNat % 2 ^ 6, Nat.mod_lt _ (by decide), ?_⟩
  rw [← pk_and x (m := 63) 6 (by decide)]
  refine bt_ext fun k hk => ?_
  have : ∀ k, k < 32 → bt 63 k = decide (k < 6) := by decide +kernel
  rw [bt_and, this k hk]
  by_cases q : k < 6
  · rw [decide_eq_true q, Bool.and_true]
  · rw [decide_eq_false q, Bool.and_false, h k (by omega)]
theorem e_bitCount {x : Int32} (h : lon 6 x) : pJ6_bitCount_0f7a4 x = some (nI (pcn x)) := by
  obtain ⟨n, hn, rfl⟩ := lon_nI h
  have : ∀ n, n < 64 → pJ6_bitCount_0f7a4 (nI n) = some (nI (pcn (nI n))) := by decide +kernel
  exact this n hn
/-- the number of transitions -/
def cntA (A : am_Au) : Nat := am_to (fun i y => y + pcn (A.2.2.2 (i % 3) (i / 3))) 18 0
theorem e_countTransitions {R : am_R} {I : am_I} {o : Nat} {A : am_Au} (hA : isA I o (R o 3) A) (hw : aw A) : pX0_countTransitions R I o = some (nI (cntA A)) := by
  unfold pX0_countTransitions
  have key := am_forF (fun n i (y : Nat) => lX0_countTransitions_4 R I o n (nI y) (nI i)) 18 (fun i y => y + pcn (A.2.2.2 (i % 3) (i / 3))) (fun y => some (nI y)) (by omega) (fun n i y hi => ?_) (fun n y => ?_) 0
  · exact key
  · have e : I (R o 3) i = A.2.2.2 (i % 3) (i / 3) := by
      have := hA.2.2.2 (i % 3) (i / 3) (by omega) (by omega)
      rwa [show 3 * (i / 3) + i % 3 = i by omega] at this
    simp only [lX0_countTransitions_4, sX0_countTransitions_4, ng18 hi, if_false, inb (show i < 18 by omega) (by omega), am_ck_true, nIcl (show i < 1000000 by omega), e, e_bitCount ((lon_T hw (i % 3) (i / 3)).le hw.2.1), am_bd, am_let_e, nI_add, nI_1]
  · simp only [lX0_countTransitions_4, sX0_countTransitions_4, yg18, if_true]
theorem e_bit1 (x : Int32) {s : Nat} (hs : s < 32) : (x >>> (nI s &&& 31)) &&& (1 : Int32) = nI (bt x s).toNat := by
  rw [bt_shr1 x hs]; cases bt x s <;> rfl
theorem e_transitionCountM {J : am_I} {A : am_Au} (hA : isM J A) : pX11_transitionCount rM J 1 = some (nI (cntA A)) := by
  unfold pX11_transitionCount
  have inner : ∀ (k : Nat) (hk : k < 18) (j : Int32 → Option Int32) (y : Nat), lX11_transitionCount_12 rM J 1 (nI k) j am_fu (nI y) (0 : Int32) = j (nI (y + pcn (A.2.2.2 (k / 6) (k % 6)))) := fun k hk j y => by
    have e : J 2 k = A.2.2.2 (k / 6) (k % 6) := by
      have := hA.2.2.2 (k / 6) (k % 6) (by omega) (by omega)
      rwa [show 6 * (k / 6) + k % 6 = k by omega] at this
    have key := am_forF (fun n i (y : Nat) => lX11_transitionCount_12 rM J 1 (nI k) j n (nI y) (nI i)) 6 (fun i y => y + (bt (A.2.2.2 (k / 6) (k % 6)) i).toNat) (fun y => j (nI y)) (by omega) (fun n i y hi => ?_) (fun n y => ?_) y
    · refine Eq.trans key ?_
      congr 2
      show _ = y + pcn (A.2.2.2 (k / 6) (k % 6))
      unfold pcn
      simp only [am_to]
      omega
    · simp only [lX11_transitionCount_12, sX11_transitionCount_12, ng6 hi, if_false, inb hk (by omega), am_ck_true, nIcl (show k < 1000000 by omega), rM0, e, e_bit1 _ (show i < 32 by omega), am_let_e, nI_add, nI_1]
    · simp only [lX11_transitionCount_12, sX11_transitionCount_12, yg6, if_true]
  have key := am_forF (fun n i (y : Nat) => lX11_transitionCount_4 rM J 1 n (nI y) (nI i)) 18 (fun k y => y + pcn (A.2.2.2 (k / 6) (k % 6))) (fun y => some (nI y)) (by omega) (fun n i y hi => ?_) (fun n y => ?_) 0
  · refine Eq.trans key ?_
    congr 2
    unfold cntA
    simp only [am_to]
    show _ + pcn (A.2.2.2 0 0) + pcn (A.2.2.2 0 1) + pcn (A.2.2.2 0 2) + pcn (A.2.2.2 0 3) + pcn (A.2.2.2 0 4) + pcn (A.2.2.2 0 5) + pcn (A.2.2.2 1 0) + pcn (A.2.2.2 1 1) + pcn (A.2.2.2 1 2) + pcn (A.2.2.2 1 3) + pcn (A.2.2.2 1 4) + pcn (A.2.2.2 1 5) + pcn (A.2.2.2 2 0) + pcn (A.2.2.2 2 1) + pcn (A.2.2.2 2 2) + pcn (A.2.2.2 2 3) + pcn (A.2.2.2 2 4) + pcn (A.2.2.2 2 5) = _ + pcn (A.2.2.2 0 0) + pcn (A.2.2.2 1 0) + pcn (A.2.2.2 2 0) + pcn (A.2.2.2 0 1) + pcn (A.2.2.2 1 1) + pcn (A.2.2.2 2 1) + pcn (A.2.2.2 0 2) + pcn (A.2.2.2 1 2) + pcn (A.2.2.2 2 2) + pcn (A.2.2.2 0 3) + pcn (A.2.2.2 1 3) + pcn (A.2.2.2 2 3) + pcn (A.2.2.2 0 4) + pcn (A.2.2.2 1 4) + pcn (A.2.2.2 2 4) + pcn (A.2.2.2 0 5) + pcn (A.2.2.2 1 5) + pcn (A.2.2.2 2 5)
    omega
  · simp only [lX11_transitionCount_4, sX11_transitionCount_4, ng18 hi, if_false, am_jn_e, inner i hi, nI_1]
  · simp only [lX11_transitionCount_4, sX11_transitionCount_4, yg18, if_true]
