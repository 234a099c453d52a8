/-! texts: a grammar's items -/
def chr (n : Nat) (c : Nat → Nat) (i : Nat) : Nat := if i < n then c i else 0
def isSt (S x : Nat) : Bool := decide (48 ≤ x) && decide (x < 48 + S)
theorem isSt_t {S x : Nat} : isSt S x = true ↔ 48 ≤ x ∧ x < 48 + S := by
  unfold isSt
  rw [Bool.and_eq_true, decide_eq_true_eq, decide_eq_true_eq]
theorem isSt_f {S x : Nat} : isSt S x = false ↔ ¬ (48 ≤ x ∧ x < 48 + S) := by
  rw [← isSt_t]
  cases isSt S x <;> simp
/-- one item at a place: whether it is there, and where it ends or goes wrong -/
def itm (S : Nat) (h : Nat → Nat) (i : Nat) : Bool × Nat :=
  if h i = 62 then (if isSt S (h (i + 1)) = true then (true, i + 2) else (false, i + 1))
  else if isSt S (h i) = true then
    (if h (i + 1) = 33 then (true, i + 2)
     else if 97 ≤ h (i + 1) ∧ h (i + 1) ≤ 99 then (if isSt S (h (i + 2)) = true then (true, i + 3) else (false, i + 2))
     else (false, i + 1))
  else (false, i)
def pA (S len : Nat) (h : Nat → Nat) : Nat → Nat → Nat ⊕ List Nat
  | 0, _ => .inl 0
  | f + 1, i =>
    if (itm S h i).1 = true then
      (if h (itm S h i).2 = 59 then
        (match pA S len h f ((itm S h i).2 + 1) with
         | .inl e => .inl e
         | .inr ps => .inr (i :: ps))
       else if (itm S h i).2 = len then .inr [i] else .inl (itm S h i).2)
    else .inl (itm S h i).2
/-- an item that is there: its three forms -/
theorem itm_ok {S : Nat} {h : Nat → Nat} {i : Nat} (hi : (itm S h i).1 = true) :
    (h i = 62 ∧ isSt S (h (i + 1)) = true ∧ (itm S h i).2 = i + 2) ∨ (h i ≠ 62 ∧ isSt S (h i) = true ∧ h (i + 1) = 33 ∧ (itm S h i).2 = i + 2) ∨
    (h i ≠ 62 ∧ isSt S (h i) = true ∧ h (i + 1) ≠ 33 ∧ 97 ≤ h (i + 1) ∧ h (i + 1) ≤ 99 ∧ isSt S (h (i + 2)) = true ∧ (itm S h i).2 = i + 3) := by
  unfold itm at hi ⊢
  by_cases h1 : h i = 62
  · rw [if_pos h1] at hi ⊢
    by_cases h2 : isSt S (h (i + 1)) = true
    · rw [if_pos h2]; exact Or.inl ⟨h1, h2, rfl⟩
    · rw [if_neg h2] at hi; cases hi
  · rw [if_neg h1] at hi ⊢
    by_cases h2 : isSt S (h i) = true
    · rw [if_pos h2] at hi ⊢
      by_cases h3 : h (i + 1) = 33
      · rw [if_pos h3]; exact Or.inr (Or.inl ⟨h1, h2, h3, rfl⟩)
      · rw [if_neg h3] at hi ⊢
        by_cases h4 : 97 ≤ h (i + 1) ∧ h (i + 1) ≤ 99
        · rw [if_pos h4] at hi ⊢
          by_cases h5 : isSt S (h (i + 2)) = true
          · rw [if_pos h5]; exact Or.inr (Or.inr ⟨h1, h2, h3, h4.1, h4.2, h5, rfl⟩)
          · rw [if_neg h5] at hi; cases hi
        · rw [if_neg h4] at hi; cases hi
    · rw [if_neg h2] at hi; cases hi
theorem chr_in {n : Nat} {c : Nat → Nat} {i : Nat} (h : chr n c i ≠ 0) : i < n := Nat.lt_of_not_le fun q => h (if_neg (by omega))
theorem chr_at {n : Nat} {c : Nat → Nat} {i : Nat} (h : i < n) : chr n c i = c i := if_pos h
theorem chr_out {n : Nat} {c : Nat → Nat} {i : Nat} (h : n ≤ i) : chr n c i = 0 := if_neg (by omega)
theorem isSt_in {S n : Nat} {c : Nat → Nat} {i : Nat} (h : isSt S (chr n c i) = true) : i < n := chr_in (n := n) (c := c) (by have := isSt_t.mp h; omega)
/-- where an item ends lies in the text -/
theorem itm_le {S n : Nat} {c : Nat → Nat} {i : Nat} (hi : i ≤ n) : (itm S (chr n c) i).2 ≤ n := by
  unfold itm
  by_cases h1 : chr n c i = 62
  · have l0 := chr_in (show chr n c i ≠ 0 by omega)
    rw [if_pos h1]
    by_cases h2 : isSt S (chr n c (i + 1)) = true
    · have := isSt_in h2
      rw [if_pos h2]; show i + 2 ≤ n; omega
    · rw [if_neg h2]; show i + 1 ≤ n; omega
  · rw [if_neg h1]
    by_cases h2 : isSt S (chr n c i) = true
    · have l0 := isSt_in h2
      rw [if_pos h2]
      by_cases h3 : chr n c (i + 1) = 33
      · have := chr_in (show chr n c (i + 1) ≠ 0 by omega)
        rw [if_pos h3]; show i + 2 ≤ n; omega
      · rw [if_neg h3]
        by_cases h4 : 97 ≤ chr n c (i + 1) ∧ chr n c (i + 1) ≤ 99
        · have l1 := chr_in (show chr n c (i + 1) ≠ 0 by omega)
          rw [if_pos h4]
          by_cases h5 : isSt S (chr n c (i + 2)) = true
          · have := isSt_in h5
            rw [if_pos h5]; show i + 3 ≤ n; omega
          · rw [if_neg h5]; show i + 2 ≤ n; omega
        · rw [if_neg h4]; show i + 1 ≤ n; omega
    · rw [if_neg h2]; exact hi
/-! the class's modes -/
def nm (S m x : Nat) : Int32 :=
  if m = 0 then (if x = 62 then 1 else if isSt S x = true then 2 else -1)
  else if m = 1 then (if isSt S x = true then 4 else -1)
  else if m = 2 then (if x = 33 then 4 else if 97 ≤ x ∧ x ≤ 99 then 3 else -1)
  else if m = 3 then (if isSt S x = true then 4 else -1)
  else (if x = 59 then 0 else -1)
theorem nI_k {x : Nat} (hx : x < 1000) (k : Nat) (hk : k < 1000) : nI x = nI k ↔ x = k := nI_eq (by omega) (by omega)
theorem e_st {S x : Nat} (hS : S ≤ 6) (hx : x < 1000) : (if nI x < (48 : Int32) then (0 : Int32) else (if ((48 : Int32) + nI S) ≤ nI x then (0 : Int32) else (1 : Int32))) = bI (isSt S x) := by
  have e1 : (48 : Int32) + nI S = nI (48 + S) := by rw [show (48 : Int32) = nI 48 from rfl, nI_add]
  rw [e1, show (48 : Int32) = nI 48 from rfl]
  by_cases h1 : x < 48
  · rw [if_pos (nI_lt h1 (by omega)), isSt_f.mpr (by omega)]; rfl
  · rw [if_neg (nI_nlt (by omega) (by omega))]
    by_cases h2 : 48 + S ≤ x
    · rw [if_pos (nI_le h2 (by omega)), isSt_f.mpr (by omega)]; rfl
    · rw [if_neg (nI_ge (by omega) (by omega)), isSt_t.mpr (by omega)]; rfl
theorem e_nextMode {S m x : Nat} (hS : S ≤ 6) (hm : m < 5) (hx : x < 1000) : pX7_nextMode (nI m) (nI x) (nI S) = some (nm S m x) := by
  unfold pX7_nextMode nm
  rw [e_st hS hx, am_let_e]
  have k62 : nI x = (62 : Int32) ↔ x = 62 := nI_k hx 62 (by omega)
  have k33 : nI x = (33 : Int32) ↔ x = 33 := nI_k hx 33 (by omega)
  have k59 : nI x = (59 : Int32) ↔ x = 59 := nI_k hx 59 (by omega)
  have m0 : nI m = (0 : Int32) ↔ m = 0 := nI_k (by omega) 0 (by omega)
  have m1 : nI m = (1 : Int32) ↔ m = 1 := nI_k (by omega) 1 (by omega)
  have m2 : nI m = (2 : Int32) ↔ m = 2 := nI_k (by omega) 2 (by omega)
  have m3 : nI m = (3 : Int32) ↔ m = 3 := nI_k (by omega) 3 (by omega)
  have lt : pX10_isLetter (nI x - (97 : Int32)) = some (bI (decide (97 ≤ x ∧ x ≤ 99))) := by
    by_cases h1 : 97 ≤ x
    · rw [show (97 : Int32) = nI 97 from rfl, pk_sub h1]
      by_cases h2 : x ≤ 99
      · rw [lt_yes (by omega), decide_eq_true ⟨h1, h2⟩]; rfl
      · rw [lt_no (fun ⟨j, hj, e⟩ => by have := (nI_eq (by omega) (by omega)).mp e; omega), decide_eq_false (fun q => h2 q.2)]; rfl
    · have : nI x - (97 : Int32) < 0 := pk_sneg (b := 97) (by omega) (by omega)
      unfold pX10_isLetter
      rw [if_pos this, decide_eq_false (fun q => h1 q.1)]; rfl
  simp only [k62, k33, k59, m0, m1, m2, m3, lt, am_bd, bI0, ite_not, Bool.false_eq_true, decide_eq_true_eq]
  by_cases q0 : m = 0
  · simp only [q0, if_true]
    by_cases a : x = 62
    · simp only [a, if_true]
    · simp only [a, if_false]
      by_cases b : isSt S x = true
      · simp only [b, if_true]
      · simp only [b, if_false]; rfl
  · simp only [q0, if_false]
    by_cases q1 : m = 1
    · simp only [q1, if_true]
      by_cases b : isSt S x = true
      · simp only [b, if_true]
      · simp only [b, if_false]; rfl
    · simp only [q1, if_false]
      by_cases q2 : m = 2
      · simp only [q2, if_true]
        by_cases a : x = 33
        · simp only [a, if_true]
        · simp only [a, if_false]
          by_cases b : 97 ≤ x ∧ x ≤ 99
          · simp only [b, and_self, if_true]
          · simp only [b, if_false]
      · simp only [q2, if_false]
        by_cases q3 : m = 3
        · simp only [q3, if_true]
          by_cases b : isSt S x = true
          · simp only [b, if_true]
          · simp only [b, if_false]; rfl
        · simp only [q3, if_false]
          by_cases a : x = 59
          · simp only [a, if_true]
          · simp only [a, if_false]
section
variable {R : am_R} {I : am_I} {n S : Nat} {c : Nat → Nat}
theorem e_charAt {o : Nat} (h0 : I o 0 = nI n) (hn : n ≤ 60) (hc : ∀ j, j < n → I (R o 1) j = nI (c j)) {i : Nat} (hi : i < 1000) : pX7_characterAt R I o (nI i) = some (nI (chr n c i)) := by
  unfold pX7_characterAt
  rw [if_neg (nI_pos (by omega)), h0]
  by_cases q : i < n
  · rw [if_neg (nIge q (by omega)), if_neg (ng60 (by omega)), inb (show i < 60 by omega) (by omega), am_ck_true, nIcl (by omega), hc i q, chr_at q]
  · rw [if_pos (nI_le (by omega) (by omega)), chr_out (by omega)]; rfl
theorem chr_lt (hc : ∀ j, j < n → 32 ≤ c j ∧ c j ≤ 126) (i : Nat) : chr n c i < 1000 := by
  by_cases q : i < n
  · rw [chr_at q]; have := hc i q; omega
  · rw [chr_out (by omega)]; omega
/-- a step of the class's modes -/
theorem e_err4 {o : Nat} (h0 : I o 0 = nI n) (hn : n ≤ 60) (hc : ∀ j, j < n → I (R o 1) j = nI (c j)) (hr : ∀ j, j < n → 32 ≤ c j ∧ c j ≤ 126) (hS : S ≤ 6) {m : Nat} (hm : m < 4) {i : Nat} (hi : i ≤ n) (q : Nat) :
    lX7_errorPosition_4 R I o (nI S) (fun v2 => if v2 = (4 : Int32) then some (-1 : Int32) else some (I o 0)) (q + 1) (nI m) (nI i) = if nm S m (chr n c i) = -1 then some (nI i) else lX7_errorPosition_4 R I o (nI S) (fun v2 => if v2 = (4 : Int32) then some (-1 : Int32) else some (I o 0)) q (nm S m (chr n c i)) (nI (i + 1)) := by
  show sX7_errorPosition_4 R I o (nI S) _ (lX7_errorPosition_4 R I o (nI S) _ q) (nI m) (nI i) = _
  unfold sX7_errorPosition_4
  rw [h0]
  by_cases g : i < n
  · rw [if_neg (nIge g (by omega)), e_charAt h0 hn hc (by omega), am_bd, e_nextMode hS (by omega) (chr_lt hr i), am_bd, nI_1]
  · have : i = n := by omega
    subst this
    have z : nm S m (chr i c i) = -1 := by
      rw [chr_out (Nat.le_refl i)]
      have z0 : isSt S 0 = false := isSt_f.mpr (by omega)
      unfold nm
      rw [z0]
      have : m = 0 ∨ m = 1 ∨ m = 2 ∨ m = 3 := by omega
      rcases this with rfl | rfl | rfl | rfl <;> simp
    have m4 : ¬ nI m = (4 : Int32) := fun e => by have := (nI_k (show m < 1000 by omega) 4 (by omega)).mp e; omega
    rw [if_pos (nI_le (by omega) (by omega)), z, if_pos rfl]
    show (if nI m = (4 : Int32) then some (-1 : Int32) else some (nI i)) = some (nI i)
    rw [if_neg m4]
theorem e_err5 {o : Nat} (h0 : I o 0 = nI n) (hn : n ≤ 60) (hc : ∀ j, j < n → I (R o 1) j = nI (c j)) (hr : ∀ j, j < n → 32 ≤ c j ∧ c j ≤ 126) (hS : S ≤ 6) {i : Nat} (hi : i ≤ n) (q : Nat) :
    lX7_errorPosition_4 R I o (nI S) (fun v2 => if v2 = (4 : Int32) then some (-1 : Int32) else some (I o 0)) (q + 1) (4 : Int32) (nI i) = if chr n c i = 59 then lX7_errorPosition_4 R I o (nI S) (fun v2 => if v2 = (4 : Int32) then some (-1 : Int32) else some (I o 0)) q (nI 0) (nI (i + 1)) else if i = n then some (-1) else some (nI i) := by
  show sX7_errorPosition_4 R I o (nI S) _ (lX7_errorPosition_4 R I o (nI S) _ q) (4 : Int32) (nI i) = _
  unfold sX7_errorPosition_4
  rw [h0]
  by_cases g : i < n
  · rw [if_neg (nIge g (by omega)), e_charAt h0 hn hc (by omega), am_bd, show (4 : Int32) = nI 4 from rfl, e_nextMode hS (by omega) (chr_lt hr i), am_bd, nI_1]
    by_cases k : chr n c i = 59
    · rw [if_pos k, show nm S 4 (chr n c i) = 0 by unfold nm; simp [k], if_neg (by decide), nI_0]
    · rw [if_neg k, show nm S 4 (chr n c i) = -1 by unfold nm; simp [k], if_pos rfl, if_neg (by omega)]
  · have : i = n := by omega
    subst this
    rw [if_pos (nI_le (by omega) (by omega))]
    show (if (4 : Int32) = 4 then some (-1 : Int32) else some (nI i)) = _
    rw [if_pos rfl, chr_out (Nat.le_refl i), if_neg (by decide), if_pos rfl]
theorem e_error {o : Nat} (h0 : I o 0 = nI n) (hn : n ≤ 60) (hc : ∀ j, j < n → I (R o 1) j = nI (c j)) (hr : ∀ j, j < n → 32 ≤ c j ∧ c j ≤ 126) (hS : S ≤ 6) : ∀ f i q, i ≤ n → n < f + i → n + 5 < q + i →
    lX7_errorPosition_4 R I o (nI S) (fun v2 => if v2 = (4 : Int32) then some (-1 : Int32) else some (I o 0)) q (nI 0) (nI i) = some (match pA S n (chr n c) f i with | .inl e => nI e | .inr _ => -1) := by
  intro f
  induction f with
  | zero => intro i q h1 h2; omega
  | succ f ih =>
    intro i q h1 h2 h3
    obtain ⟨q, rfl⟩ : ∃ q', q = q' + 4 := ⟨q - 4, by omega⟩
    have s0 := e_err4 (R := R) (o := o) h0 hn hc hr hS (m := 0) (by omega) h1 (q + 3)
    have ile := itm_le (S := S) (c := c) h1
    rw [s0]
    unfold pA
    generalize hE : lX7_errorPosition_4 R I o (nI S) (fun v2 => if v2 = (4 : Int32) then some (-1 : Int32) else some (I o 0)) = E at *
    -- what follows a complete item that ends at j
    have tail : ∀ j q', j ≤ n → i + 2 ≤ j → n + 5 < q' + (j + 1) → E (q' + 1) (4 : Int32) (nI j) = some (match (if chr n c j = 59 then (match pA S n (chr n c) f (j + 1) with | .inl e => Sum.inl e | .inr ps => Sum.inr (i :: ps)) else if j = n then Sum.inr [i] else Sum.inl j : Nat ⊕ List Nat) with | .inl e => nI e | .inr _ => -1) := fun j q' hj hij hq => by
      have s5 := e_err5 (R := R) (o := o) h0 hn hc hr hS hj q'
      rw [hE] at s5
      rw [s5]
      by_cases k : chr n c j = 59
      · have hj2 := chr_in (show chr n c j ≠ 0 by omega)
        have := ih (j + 1) q' (by omega) (by omega) (by omega)
        rw [if_pos k, if_pos k, this]
        cases pA S n (chr n c) f (j + 1) <;> rfl
      · rw [if_neg k, if_neg k]
        by_cases k2 : j = n
        · rw [if_pos k2, if_pos k2]
        · rw [if_neg k2, if_neg k2]
    by_cases a : chr n c i = 62
    · have l0 := chr_in (show chr n c i ≠ 0 by omega)
      have s1 := e_err4 (R := R) (o := o) h0 hn hc hr hS (m := 1) (by omega) (show i + 1 ≤ n by omega) (q + 2)
      rw [hE] at s1
      have e0 : nm S 0 (chr n c i) = 1 := by unfold nm; simp [a]
      rw [e0, if_neg (by decide), show (1 : Int32) = nI 1 from rfl, s1]
      by_cases b : isSt S (chr n c (i + 1)) = true
      · have l1 := isSt_in b
        have e1 : nm S 1 (chr n c (i + 1)) = 4 := by unfold nm; simp [b]
        have ei : itm S (chr n c) i = (true, i + 2) := by unfold itm; rw [if_pos a, if_pos b]
        rw [e1, if_neg (by decide), ei, if_pos rfl]
        exact tail (i + 2) (q + 1) (by omega) (by omega) (by omega)
      · have e1 : nm S 1 (chr n c (i + 1)) = -1 := by unfold nm; simp [b]
        have ei : itm S (chr n c) i = (false, i + 1) := by unfold itm; rw [if_pos a, if_neg b]
        rw [e1, if_pos rfl, ei]; rfl
    · by_cases b : isSt S (chr n c i) = true
      · have l0 := isSt_in b
        have e0 : nm S 0 (chr n c i) = 2 := by unfold nm; simp [a, b]
        have s1 := e_err4 (R := R) (o := o) h0 hn hc hr hS (m := 2) (by omega) (show i + 1 ≤ n by omega) (q + 2)
        rw [hE] at s1
        rw [e0, if_neg (by decide), show (2 : Int32) = nI 2 from rfl, s1]
        by_cases d : chr n c (i + 1) = 33
        · have l1 := chr_in (show chr n c (i + 1) ≠ 0 by omega)
          have e1 : nm S 2 (chr n c (i + 1)) = 4 := by unfold nm; simp [d]
          have ei : itm S (chr n c) i = (true, i + 2) := by unfold itm; rw [if_neg a, if_pos b, if_pos d]
          rw [e1, if_neg (by decide), ei, if_pos rfl]
          exact tail (i + 2) (q + 1) (by omega) (by omega) (by omega)
        · by_cases g : 97 ≤ chr n c (i + 1) ∧ chr n c (i + 1) ≤ 99
          · have l1 := chr_in (show chr n c (i + 1) ≠ 0 by omega)
            have e1 : nm S 2 (chr n c (i + 1)) = 3 := by unfold nm; simp [d, g]
            have s2 := e_err4 (R := R) (o := o) h0 hn hc hr hS (m := 3) (by omega) (show i + 2 ≤ n by omega) (q + 1)
            rw [hE] at s2
            rw [e1, if_neg (by decide), show (3 : Int32) = nI 3 from rfl, s2]
            by_cases k : isSt S (chr n c (i + 2)) = true
            · have l2 := isSt_in k
              have e2 : nm S 3 (chr n c (i + 2)) = 4 := by unfold nm; simp [k]
              have ei : itm S (chr n c) i = (true, i + 3) := by unfold itm; rw [if_neg a, if_pos b, if_neg d, if_pos g, if_pos k]
              rw [e2, if_neg (by decide), ei, if_pos rfl]
              exact tail (i + 3) q (by omega) (by omega) (by omega)
            · have e2 : nm S 3 (chr n c (i + 2)) = -1 := by unfold nm; simp [k]
              have ei : itm S (chr n c) i = (false, i + 2) := by unfold itm; rw [if_neg a, if_pos b, if_neg d, if_pos g, if_neg k]
              rw [e2, if_pos rfl, ei]; rfl
          · have e1 : nm S 2 (chr n c (i + 1)) = -1 := by unfold nm; simp [d, g]
            have ei : itm S (chr n c) i = (false, i + 1) := by unfold itm; rw [if_neg a, if_pos b, if_neg d, if_neg g]
            rw [e1, if_pos rfl, ei]; rfl
      · have e0 : nm S 0 (chr n c i) = -1 := by unfold nm; simp [a, b]
        have ei : itm S (chr n c) i = (false, i) := by unfold itm; rw [if_neg a, if_neg b]
        rw [e0, if_pos rfl, ei]; rfl
theorem e_errorPosition {o : Nat} (h0 : I o 0 = nI n) (hn : n ≤ 60) (hc : ∀ j, j < n → I (R o 1) j = nI (c j)) (hr : ∀ j, j < n → 32 ≤ c j ∧ c j ≤ 126) (hS : S ≤ 6) : pX7_errorPosition R I o (nI S) = some (match pA S n (chr n c) 100 0 with | .inl e => nI e | .inr _ => -1) := by
  unfold pX7_errorPosition
  rw [am_jn_e]
  exact e_error h0 hn hc hr hS 100 0 am_fu (Nat.zero_le _) (by omega) (by have := am_fu_ge; omega)
end
