/-! texts: adding the items -/
theorem pA_ok {S len : Nat} {h : Nat → Nat} : ∀ f i ps, pA S len h f i = .inr ps → ∀ q, q ∈ ps → (itm S h q).1 = true
  | 0, _, _, e, _, _ => by cases e
  | f + 1, i, ps, e, q, hq => by
    unfold pA at e
    by_cases a : (itm S h i).1 = true
    · rw [if_pos a] at e
      by_cases b : h (itm S h i).2 = 59
      · rw [if_pos b] at e
        cases hp : pA S len h f ((itm S h i).2 + 1) with
        | inl x => rw [hp] at e; cases e
        | inr qs =>
          rw [hp] at e
          cases e
          rcases List.mem_cons.mp hq with g | g
          · rw [g]; exact a
          · exact pA_ok f _ qs hp q g
      · rw [if_neg b] at e
        by_cases d : (itm S h i).2 = len
        · rw [if_pos d] at e
          cases e
          rw [List.mem_singleton.mp hq]; exact a
        · rw [if_neg d] at e; cases e
    · rw [if_neg a] at e; cases e
def apI (h : Nat → Nat) (A : am_Au) (i : Nat) : am_Au :=
  if h i = 62 then (A.1, A.2.1 ||| ((1 : Int32) <<< (nI (h (i + 1) - 48) &&& 31)), A.2.2.1, A.2.2.2)
  else if h (i + 1) = 33 then (A.1, A.2.1, A.2.2.1 ||| ((1 : Int32) <<< (nI (h i - 48) &&& 31)), A.2.2.2)
  else setT A (h (i + 1) - 97) (h i - 48) (A.2.2.2 (h (i + 1) - 97) (h i - 48) ||| ((1 : Int32) <<< (nI (h (i + 2) - 48) &&& 31)))
theorem apI_1 (h : Nat → Nat) (A : am_Au) (i : Nat) : (apI h A i).1 = A.1 := by
  unfold apI
  by_cases a : h i = 62
  · rw [if_pos a]
  · rw [if_neg a]
    by_cases b : h (i + 1) = 33
    · rw [if_pos b]
    · rw [if_neg b]; rfl
theorem aw_apI {A : am_Au} (hw : aw A) {h : Nat → Nat} {i : Nat} (hi : (itm A.1 h i).1 = true) : aw (apI h A i) := by
  have h6 := hw.2.1
  unfold apI
  rcases itm_ok hi with ⟨a, b, _⟩ | ⟨a, b, d, _⟩ | ⟨a, b, d, e1, e2, g, _⟩
  · have := isSt_t.mp b
    rw [if_pos a]
    exact ⟨hw.1, hw.2.1, fun k hk => ⟨lon_orb (fun k hk => (hw.2.2.1 k hk).1) (by omega) h6 k hk, (hw.2.2.1 k hk).2⟩, hw.2.2.2⟩
  · have := isSt_t.mp b
    rw [if_neg a, if_pos d]
    exact ⟨hw.1, hw.2.1, fun k hk => ⟨(hw.2.2.1 k hk).1, lon_orb (fun k hk => (hw.2.2.1 k hk).2) (by omega) h6 k hk⟩, hw.2.2.2⟩
  · have := isSt_t.mp b
    have := isSt_t.mp g
    rw [if_neg a, if_neg d]
    exact aw_setT hw (by omega) (by omega) (lon_orb (lon_T hw _ _) (by omega) h6)
theorem isA_set12 {I : am_I} {o t : Nat} {A : am_Au} (h : isA I o t A) (hot : o ≠ t) : (∀ v, isA (am_upI I o 1 v) o t (A.1, v, A.2.2.1, A.2.2.2)) ∧ ∀ v, isA (am_upI I o 2 v) o t (A.1, A.2.1, v, A.2.2.2) := by
  obtain ⟨a0, a1, a2, a3⟩ := h
  exact ⟨fun v => ⟨by rw [am_upI_o (by decide)]; exact a0, by rw [am_upI_s], by rw [am_upI_o (by decide)]; exact a2, fun a s ha hs => by rw [am_upI_ne (Ne.symm hot)]; exact a3 a s ha hs⟩, fun v => ⟨by rw [am_upI_o (by decide)]; exact a0, by rw [am_upI_o (by decide)]; exact a1, by rw [am_upI_s], fun a s ha hs => by rw [am_upI_ne (Ne.symm hot)]; exact a3 a s ha hs⟩⟩
theorem isM_set45 {J : am_I} {A : am_Au} (h : isM J A) : (∀ v, isM (am_upI J 1 4 v) (A.1, v, A.2.2.1, A.2.2.2)) ∧ ∀ v, isM (am_upI J 1 5 v) (A.1, A.2.1, v, A.2.2.2) := by
  obtain ⟨a0, a1, a2, a3⟩ := h
  exact ⟨fun v => ⟨by rw [am_upI_o (by decide)]; exact a0, by rw [am_upI_s], by rw [am_upI_o (by decide)]; exact a2, fun a s ha hs => by rw [am_upI_ne (by decide)]; exact a3 a s ha hs⟩, fun v => ⟨by rw [am_upI_o (by decide)]; exact a0, by rw [am_upI_o (by decide)]; exact a1, by rw [am_upI_s], fun a s ha hs => by rw [am_upI_ne (by decide)]; exact a3 a s ha hs⟩⟩
section
variable {R : am_R} {n : Nat} {c : Nat → Nat}
theorem e_addItemTo {I : am_I} {o u : Nat} {A : am_Au} (h0 : I o 0 = nI n) (hn : n ≤ 60) (hc : ∀ j, j < n → I (R o 1) j = nI (c j)) (hA : isA I u (R u 3) A) (hw : aw A) (hu : u ≠ R u 3) {i : Nat} (hi : (itm A.1 (chr n c) i).1 = true) (hin : i < n) :
    ∃ I', pX7_addItemTo R I o u (nI i) = some (nI ((itm A.1 (chr n c) i).2 - i), I') ∧ isA I' u (R u 3) (apI (chr n c) A i) ∧ ∀ b, b ≠ u → b ≠ R u 3 → I' b = I b := by
  have h6 := hw.2.1
  unfold pX7_addItemTo
  have e1 : nI i + 1 = nI (i + 1) := nI_1 i
  have e2 : nI i + 2 = nI (i + 2) := nI_add i 2
  rw [e1, e2, e_charAt h0 hn hc (show i < 1000 by omega), am_bd, e_charAt h0 hn hc (show i + 1 < 1000 by omega), am_bd]
  have b48 : (48 : Int32) = nI 48 := rfl
  have b97 : (97 : Int32) = nI 97 := rfl
  rcases itm_ok hi with ⟨a, b, g⟩ | ⟨a, b, d, g⟩ | ⟨a, b, d, e1, e2, k, g⟩
  · have st := isSt_t.mp b
    rw [g, if_pos (show nI (chr n c i) = (62 : Int32) by rw [a]; rfl), am_let_e, b48, pk_sub st.1, hA.2.1]
    refine ⟨_, by rw [show i + 2 - i = 2 by omega]; rfl, ?_, fun b x _ => am_upI_ne x⟩
    unfold apI
    rw [if_pos a]
    exact (isA_set12 hA hu).1 _
  · have st := isSt_t.mp b
    have l62 : ¬ nI (chr n c i) = (62 : Int32) := fun q => a ((nI_k (by omega) 62 (by omega)).mp q)
    rw [g, if_neg l62, if_pos (show nI (chr n c (i + 1)) = (33 : Int32) by rw [d]; rfl), am_let_e, b48, pk_sub st.1, hA.2.2.1]
    refine ⟨_, by rw [show i + 2 - i = 2 by omega]; rfl, ?_, fun b x _ => am_upI_ne x⟩
    unfold apI
    rw [if_neg a, if_pos d]
    exact (isA_set12 hA hu).2 _
  · have st := isSt_t.mp b
    have st2 := isSt_t.mp k
    have l62 : ¬ nI (chr n c i) = (62 : Int32) := fun q => a ((nI_k (by omega) 62 (by omega)).mp q)
    have l33 : ¬ nI (chr n c (i + 1)) = (33 : Int32) := fun q => d ((nI_k (by omega) 33 (by omega)).mp q)
    rw [g, if_neg l62, if_neg l33, e_charAt h0 hn hc (show i + 2 < 1000 by omega), am_bd, b48, b97, pk_sub st.1, pk_sub e1, pk_sub st2.1, e_add hA hw (show chr n c i - 48 < A.1 by omega) (show chr n c (i + 1) - 97 < 3 by omega) (show chr n c (i + 2) - 48 < A.1 by omega), am_bd]
    have ea : apI (chr n c) A i = setT A (chr n c (i + 1) - 97) (chr n c i - 48) (A.2.2.2 (chr n c (i + 1) - 97) (chr n c i - 48) ||| ((1 : Int32) <<< (nI (chr n c (i + 2) - 48) &&& 31))) := by
      unfold apI
      rw [if_neg a, if_neg d]
    rw [ea, show i + 3 - i = 3 by omega]
    by_cases hb : bt (A.2.2.2 (chr n c (i + 1) - 97) (chr n c i - 48)) (chr n c (i + 2) - 48) = true
    · refine ⟨I, by rw [if_pos hb]; rfl, ?_, fun _ _ _ => rfl⟩
      rw [setT_same (or_same (by omega) hb).symm]; exact hA
    · refine ⟨_, by rw [if_neg hb]; rfl, isA_setT hA hu (by omega) _, fun b _ y => am_upI_ne y⟩
theorem e_addItems {o u : Nat} (hn : n ≤ 60) (hou : o ≠ u ∧ o ≠ R u 3 ∧ R o 1 ≠ u ∧ R o 1 ≠ R u 3) (hu : u ≠ R u 3) {S : Nat} : ∀ f i ps k A (I : am_I) q, pA S n (chr n c) f i = .inr ps → A.1 = S → I o 0 = nI n → (∀ j, j < n → I (R o 1) j = nI (c j)) → isA I u (R u 3) A → aw A → i < n → k ≤ i → ps.length < q →
    ∃ I', lX7_addItemsTo_4 R o u q (nI k) (nI i) I = some (nI (k + ps.length), I') ∧ isA I' u (R u 3) (ps.foldl (apI (chr n c)) A) ∧ aw (ps.foldl (apI (chr n c)) A) ∧ ∀ b, b ≠ u → b ≠ R u 3 → I' b = I b := by
  intro f
  induction f with
  | zero => intro i ps k A I q e; cases e
  | succ f ih =>
    intro i ps k A I q e hS h0 hc hA hw hin hk hq
    subst hS
    have hps := pA_ok (f + 1) i ps e
    unfold pA at e
    by_cases a : (itm A.1 (chr n c) i).1 = true
    · have ile := itm_le (S := A.1) (c := c) (show i ≤ n by omega)
      have ige : i + 2 ≤ (itm A.1 (chr n c) i).2 := by rcases itm_ok a with ⟨_, _, g⟩ | ⟨_, _, _, g⟩ | ⟨_, _, _, _, _, _, g⟩ <;> omega
      obtain ⟨I1, e1, f1, f2⟩ := e_addItemTo h0 hn hc hA hw hu a hin
      have hw1 := aw_apI hw a
      have g0 : I1 o 0 = nI n := by rw [f2 o hou.1 hou.2.1]; exact h0
      have gc : ∀ j, j < n → I1 (R o 1) j = nI (c j) := fun j hj => by rw [f2 _ hou.2.2.1 hou.2.2.2]; exact hc j hj
      have e60 : ¬ (60 : Int32) ≤ nI k := by
        rw [show (60 : Int32) = nI 60 from rfl]
        exact nIge (show k < 60 by omega) (by omega)
      have step : ∀ q', lX7_addItemsTo_4 R o u (q' + 1) (nI k) (nI i) I = lX7_addItemsTo_4 R o u q' (nI (k + 1)) (nI ((itm A.1 (chr n c) i).2 + 1)) I1 := fun q' => by
        show sX7_addItemsTo_4 R o u (lX7_addItemsTo_4 R o u q') (nI k) (nI i) I = _
        unfold sX7_addItemsTo_4
        rw [h0, if_neg (nIge hin (by omega)), if_neg e60, e1, am_bd, am_let_e, nI_1, nI_1, nI_add]
        congr 2
        omega
      rw [if_pos a] at e
      by_cases b : chr n c (itm A.1 (chr n c) i).2 = 59
      · rw [if_pos b] at e
        have jn := chr_in (show chr n c (itm A.1 (chr n c) i).2 ≠ 0 by omega)
        cases hp : pA A.1 n (chr n c) f ((itm A.1 (chr n c) i).2 + 1) with
        | inl x => rw [hp] at e; cases e
        | inr qs =>
          rw [hp] at e
          cases e
          obtain ⟨q, rfl⟩ : ∃ q', q = q' + 1 := ⟨q - 1, by rw [List.length_cons] at hq; omega⟩
          have jn2 : (itm A.1 (chr n c) i).2 + 1 < n := by
            -- an item must follow
            apply Classical.byContradiction
            intro hge
            have hi2 : (itm A.1 (chr n c) ((itm A.1 (chr n c) i).2 + 1)).1 = true := by
              cases f with
              | zero => cases hp
              | succ f =>
                unfold pA at hp
                by_cases z : (itm A.1 (chr n c) ((itm A.1 (chr n c) i).2 + 1)).1 = true
                · exact z
                · rw [if_neg z] at hp; cases hp
            have z0 : chr n c ((itm A.1 (chr n c) i).2 + 1) = 0 := chr_out (by omega)
            rcases itm_ok hi2 with ⟨g, _⟩ | ⟨_, g, _⟩ | ⟨_, g, _⟩
            · omega
            · have := isSt_t.mp g; omega
            · have := isSt_t.mp g; omega
          obtain ⟨I2, e2, f3, f4, f5⟩ := ih _ qs (k + 1) (apI (chr n c) A i) I1 q hp (apI_1 _ _ _) g0 gc f1 hw1 jn2 (by omega) (by rw [List.length_cons] at hq; omega)
          refine ⟨I2, ?_, f3, f4, fun b x y => (f5 b x y).trans (f2 b x y)⟩
          rw [step, e2, List.length_cons]
          congr 3
          omega
      · rw [if_neg b] at e
        by_cases d : (itm A.1 (chr n c) i).2 = n
        · rw [if_pos d] at e
          cases e
          have hq2 : 1 < q := hq
          obtain ⟨q, rfl⟩ : ∃ q', q = q' + 2 := ⟨q - 2, by omega⟩
          refine ⟨I1, ?_, f1, hw1, f2⟩
          rw [step]
          show sX7_addItemsTo_4 R o u (lX7_addItemsTo_4 R o u q) (nI (k + 1)) (nI ((itm A.1 (chr n c) i).2 + 1)) I1 = _
          unfold sX7_addItemsTo_4
          rw [g0, if_pos (nI_le (by omega) (by omega))]; rfl
        · rw [if_neg d] at e; cases e
    · rw [if_neg a] at e; cases e
end
/-! the reference's way -/
def recd (h : Nat → Nat) (J : am_I) (k i : Nat) : Prop :=
  (h i = 62 → J 8 (3 * k + 1) = -1 ∧ J 8 (3 * k) = nI (h (i + 1) - 48)) ∧ (h i ≠ 62 → h (i + 1) = 33 → J 8 (3 * k + 1) = -2 ∧ J 8 (3 * k) = nI (h i - 48)) ∧
  (h i ≠ 62 → h (i + 1) ≠ 33 → J 8 (3 * k + 1) = nI (h (i + 1) - 97) ∧ J 8 (3 * k) = nI (h i - 48) ∧ J 8 (3 * k + 2) = nI (h (i + 2) - 48))
theorem recd.kept {h : Nat → Nat} {J J' : am_I} {k i : Nat} (hr : recd h J k i) (e : ∀ j, 3 * k ≤ j → j < 3 * k + 3 → J' 8 j = J 8 j) : recd h J' k i := by
  unfold recd at *
  rw [e (3 * k) (by omega) (by omega), e (3 * k + 1) (by omega) (by omega), e (3 * k + 2) (by omega) (by omega)]
  exact hr
section
variable {n S : Nat} {c : Nat → Nat}
/-- the reference's memory while it reads: text, place -/
def txM (J : am_I) (n S : Nat) (c : Nat → Nat) (i k : Nat) : Prop := J 1 12 = nI n ∧ J 1 3 = nI S ∧ (∀ j, j < n → J 7 j = nI (c j)) ∧ J 1 13 = nI i ∧ J 1 14 = nI k
theorem e_isAt {J : am_I} {i k : Nat} (hT : txM J n S c i k) (hn : n ≤ 60) (hi : i < 1000) (hr : ∀ j, j < n → 32 ≤ c j ∧ c j ≤ 126) {lo hi' : Nat} (hlo : 1 ≤ lo) (hl : lo < 1000) (hh : hi' < 1000) : pX11_isAt rM J 1 (nI lo) (nI hi') = some (bI (decide (lo ≤ chr n c i ∧ chr n c i ≤ hi'))) := by
  obtain ⟨t1, t2, t3, t4, t5⟩ := hT
  unfold pX11_isAt
  rw [t1, t4]
  by_cases q : i < n
  · have hx := hr i q
    rw [if_neg (nIge q (by omega)), inb (show i < 60 by omega) (by omega), am_ck_true, nIcl (by omega), rM10, t3 i q, e_between (nI (c i)) (nI lo) (nI hi') rfl rfl, am_bd, chr_at q]
    have e : (nI lo ≤ nI (c i) ∧ nI (c i) ≤ nI hi') ↔ (lo ≤ c i ∧ c i ≤ hi') := by
      rw [nI_leI (by omega) (by omega), nI_leI (by omega) (by omega)]
    by_cases g : lo ≤ c i ∧ c i ≤ hi'
    · rw [decide_eq_true g, decide_eq_true (e.mpr g), if_neg (show ¬ bI true = 0 by decide)]; rfl
    · rw [decide_eq_false g, decide_eq_false (mt e.mp g), if_pos (show bI false = 0 from rfl)]; rfl
  · rw [if_pos (nI_le (by omega) (by omega)), chr_out (by omega), decide_eq_false (by omega)]; rfl
theorem txM.put {J : am_I} {i k : Nat} (h : txM J n S c i k) (p : Nat) (v : Int32) (i' : Nat) : txM (am_upI (am_upI J 8 p v) 1 13 (nI i')) n S c i' k := by
  obtain ⟨t1, t2, t3, t4, t5⟩ := h
  refine ⟨?_, ?_, fun j hj => ?_, am_upI_s, ?_⟩
  · rw [am_upI_o (by decide), am_upI_ne (by decide)]; exact t1
  · rw [am_upI_o (by decide), am_upI_ne (by decide)]; exact t2
  · rw [am_upI_ne (by decide), am_upI_ne (by decide)]; exact t3 j hj
  · rw [am_upI_o (by decide), am_upI_ne (by decide)]; exact t5
theorem txM.put' {J : am_I} {i k : Nat} (h : txM J n S c i k) (p : Nat) (v : Int32) (i' : Nat) : txM (am_upI (am_upI J 1 13 (nI i')) 8 p v) n S c i' k := by
  obtain ⟨t1, t2, t3, t4, t5⟩ := h
  refine ⟨?_, ?_, fun j hj => ?_, ?_, ?_⟩
  · rw [am_upI_ne (by decide), am_upI_o (by decide)]; exact t1
  · rw [am_upI_ne (by decide), am_upI_o (by decide)]; exact t2
  · rw [am_upI_ne (by decide), am_upI_ne (by decide)]; exact t3 j hj
  · rw [am_upI_ne (by decide), am_upI_s]
  · rw [am_upI_ne (by decide), am_upI_o (by decide)]; exact t5
theorem e_takesState {J : am_I} {i k : Nat} (hT : txM J n S c i k) (hn : n ≤ 60) (hS1 : 1 ≤ S) (hS : S ≤ 6) (hi : i < 1000) (hr : ∀ j, j < n → 32 ≤ c j ∧ c j ≤ 126) {p : Nat} (hp : p < 90) :
    pX11_takesState rM J 1 (nI p) = some (if isSt S (chr n c i) = true then (1, am_upI (am_upI J 8 p (nI (chr n c i - 48))) 1 13 (nI (i + 1))) else (0, J)) := by
  have h48 : (48 : Int32) + nI S - 1 = nI (47 + S) := by
    rw [show (48 : Int32) = nI 48 from rfl, nI_add, show (48 : Nat) + S = (47 + S) + 1 by omega, nI_pred]
  have ea := e_isAt hT hn hi hr (lo := 48) (hi' := 47 + S) (by omega) (by omega) (by omega)
  have ed : decide (48 ≤ chr n c i ∧ chr n c i ≤ 47 + S) = isSt S (chr n c i) := by
    by_cases q : isSt S (chr n c i) = true
    · rw [q]; have := isSt_t.mp q; exact decide_eq_true (by omega)
    · have q' : isSt S (chr n c i) = false := by cases e : isSt S (chr n c i) <;> simp_all
      rw [q']; have := isSt_f.mp q'; exact decide_eq_false (by omega)
  rw [ed] at ea
  have hT' := hT
  obtain ⟨t1, t2, t3, t4, t5⟩ := hT'
  unfold pX11_takesState
  rw [t2, h48]
  show Option.bind (pX11_isAt rM J 1 (nI 48) (nI (47 + S))) _ = _
  rw [ea, am_bd]
  by_cases q : isSt S (chr n c i) = true
  · have hin := isSt_in q
    have st := isSt_t.mp q
    rw [q, if_neg (show ¬ bI true = 0 by decide), if_pos rfl, t4, inb (show i < 60 by omega) (by omega), am_ck_true, inb hp (by omega), am_ck_true, am_let_e, am_let_e, rM11, rM10, nIcl (show p < 1000000 by omega), nIcl (show i < 1000000 by omega), t3 i hin, am_upI_ne (show (1 : Nat) ≠ 8 by decide), t4, nI_1, ← chr_at (c := c) hin, show (48 : Int32) = nI 48 from rfl, pk_sub st.1]
  · have q' : isSt S (chr n c i) = false := by cases e : isSt S (chr n c i) <;> simp_all
    rw [q', if_pos (show bI false = 0 from rfl), if_neg (by decide)]
end
