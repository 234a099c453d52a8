/-! sums, saturated numbers -/
def sumN (f : Nat → Nat) (n : Nat) : Nat := am_to (fun i y => y + f i) n 0
theorem sumN_s (f : Nat → Nat) (n : Nat) : sumN f (n + 1) = sumN f n + f n := rfl
theorem sumN_0 (f : Nat → Nat) : sumN f 0 = 0 := rfl
theorem sumN_congr {f g : Nat → Nat} : ∀ n, (∀ i, i < n → f i = g i) → sumN f n = sumN g n
  | 0, _ => rfl
  | n + 1, h => by rw [sumN_s, sumN_s, sumN_congr n (fun i hi => h i (by omega)), h n (by omega)]
theorem sumN_le {f g : Nat → Nat} : ∀ n, (∀ i, i < n → f i ≤ g i) → sumN f n ≤ sumN g n
  | 0, _ => Nat.le_refl _
  | n + 1, h => by
    rw [sumN_s, sumN_s]
    have := sumN_le n (fun i hi => h i (by omega))
    have := h n (by omega)
    omega
theorem sumN_add (f g : Nat → Nat) : ∀ n, sumN (fun i => f i + g i) n = sumN f n + sumN g n
  | 0 => rfl
  | n + 1 => by rw [sumN_s, sumN_s, sumN_s, sumN_add f g n]; omega
theorem sumN_zero : ∀ n, sumN (fun _ => 0) n = 0
  | 0 => rfl
  | n + 1 => by rw [sumN_s, sumN_zero n]
theorem sumN_mul (c : Nat) (f : Nat → Nat) : ∀ n, sumN (fun i => c * f i) n = c * sumN f n
  | 0 => rfl
  | n + 1 => by rw [sumN_s, sumN_s, sumN_mul c f n, Nat.mul_add]
theorem sumN_mulr (c : Nat) (f : Nat → Nat) (n : Nat) : sumN (fun i => f i * c) n = sumN f n * c := by
  rw [Nat.mul_comm, ← sumN_mul]
  exact sumN_congr n fun i _ => Nat.mul_comm _ _
theorem sumN_swap (f : Nat → Nat → Nat) (m : Nat) : ∀ n, sumN (fun i => sumN (fun j => f i j) m) n = sumN (fun j => sumN (fun i => f i j) n) m
  | 0 => (sumN_zero m).symm
  | n + 1 => by
    rw [sumN_s, sumN_swap f m n, ← sumN_add]
    exact sumN_congr m fun j _ => rfl
theorem sumN_ext {f : Nat → Nat} {n : Nat} : ∀ m, n ≤ m → (∀ i, n ≤ i → i < m → f i = 0) → sumN f n = sumN f m
  | 0, h, _ => by
    have : n = 0 := by omega
    subst this; rfl
  | m + 1, h, hz => by
    by_cases q : n = m + 1
    · subst q; rfl
    · rw [sumN_s, hz m (by omega) (by omega), ← sumN_ext m (by omega) (fun i a b => hz i a (by omega))]; rfl
theorem sumN_one {f : Nat → Nat} {k : Nat} : ∀ n, k < n → (∀ i, i < n → i ≠ k → f i = 0) → sumN f n = f k
  | 0, h, _ => absurd h (Nat.not_lt_zero k)
  | n + 1, h, hz => by
    rw [sumN_s]
    by_cases q : k = n
    · subst q
      rw [sumN_congr (g := fun _ => 0) k (fun i hi => hz i (by omega) (by omega)), sumN_zero, Nat.zero_add]
    · rw [sumN_one n (by omega) (fun i hi hk => hz i (by omega) hk), hz n (by omega) (fun e => q e.symm)]; rfl
theorem sumN_ge {f : Nat → Nat} {k : Nat} : ∀ n, k < n → f k ≤ sumN f n
  | 0, h => absurd h (Nat.not_lt_zero k)
  | n + 1, h => by
    rw [sumN_s]
    by_cases q : k = n
    · subst q; omega
    · have := sumN_ge (f := f) n (show k < n by omega)
      omega
theorem sumN_ge2 {f : Nat → Nat} {k l : Nat} (hkl : k ≠ l) : ∀ n, k < n → l < n → f k + f l ≤ sumN f n
  | 0, h, _ => absurd h (Nat.not_lt_zero k)
  | n + 1, h, h' => by
    rw [sumN_s]
    by_cases q : k = n
    · subst q
      have := sumN_ge (f := f) k (show l < k by omega)
      omega
    · by_cases q' : l = n
      · subst q'
        have := sumN_ge (f := f) l (show k < l by omega)
        omega
      · have := sumN_ge2 (f := f) hkl n (by omega) (by omega)
        omega
theorem sumN_pos {f : Nat → Nat} : ∀ n, 0 < sumN f n → ∃ k, k < n ∧ 0 < f k
  | 0, h => absurd h (Nat.lt_irrefl _)
  | n + 1, h => by
    rw [sumN_s] at h
    by_cases q : 0 < f n
    · exact ⟨n, by omega, q⟩
    · obtain ⟨k, hk, h2⟩ := sumN_pos (f := f) n (by omega)
      exact ⟨k, by omega, h2⟩
theorem ite_mul {p : Prop} [Decidable p] (x y : Nat) : (if p then x else 0) * y = if p then x * y else 0 := by
  by_cases h : p
  · rw [if_pos h, if_pos h]
  · rw [if_neg h, if_neg h, Nat.zero_mul]
theorem mul_ite {p : Prop} [Decidable p] (x y : Nat) : x * (if p then y else 0) = if p then x * y else 0 := by
  by_cases h : p
  · rw [if_pos h, if_pos h]
  · rw [if_neg h, if_neg h, Nat.mul_zero]
theorem am_sum {σ : Nat → Nat} (n y : Nat) : am_to (fun i y => y + σ i) n y = y + sumN σ n := by
  induction n with
  | zero => rfl
  | succ n ih =>
    show am_to (fun i y => y + σ i) n y + σ n = y + (sumN σ n + σ n)
    rw [ih]; omega
/-! saturated numbers -/
def sat (c : Int64) (n : Nat) : Int64 := if n < 2 ^ 63 then lN n else c
theorem sat_lt {c : Int64} {n : Nat} (h : n < 2 ^ 63) : sat c n = lN n := if_pos h
theorem sat_ge {c : Int64} {n : Nat} (h : ¬ n < 2 ^ 63) : sat c n = c := if_neg h
theorem sat_0 (c : Int64) : sat c 0 = 0 := rfl
theorem sat_1 (c : Int64) : sat c 1 = 1 := rfl
theorem lg_lN {n : Nat} (h : n < 2 ^ 63) : ¬ lg_cmp (lN n) 0 < 0 := fun q => by
  have := lg_lt.mp q
  have h0 : (0 : Int64) = lN 0 := rfl
  rw [h0] at this
  have := (pk_lLT h (show 0 < 2 ^ 63 by decide)).mp this
  omega
theorem lg_neg {c : Int64} (hc : c < 0) : lg_cmp c 0 < 0 := lg_lt.mpr hc
theorem lN_over {a b : Nat} (ha : a < 2 ^ 63) (hb : b < 2 ^ 63) (h : ¬ a + b < 2 ^ 63) : lN a + lN b < 0 := by
  rw [lN_add, Int64.lt_iff_toInt_lt]
  have e : (lN (a + b)).toInt = ((a + b : Nat) : Int) - 2 ^ 64 := by
    show (Int64.ofNat (a + b)).toInt = _
    have hs : Int64.size = 2 ^ 64 := rfl
    rw [Int64.toInt_ofNat', hs, Int.bmod_def]
    have h1 : ((a + b : Nat) : Int) % (2 ^ 64 : Nat) = ((a + b : Nat) : Int) := Int.emod_eq_of_lt (by omega) (by omega)
    rw [h1]
    rw [if_neg (by omega)]
    omega
  rw [e]
  have : (0 : Int64).toInt = 0 := by decide
  omega
theorem e_sum (a b : Nat) : pX1_sum (sat (-6) a) (sat (-6) b) = some (sat (-6) (a + b)) := by
  unfold pX1_sum
  by_cases ha : a < 2 ^ 63
  · rw [sat_lt ha, if_neg (lg_lN ha)]
    by_cases hb : b < 2 ^ 63
    · rw [sat_lt hb, if_neg (lg_lN hb)]
      by_cases hc : a + b < 2 ^ 63
      · have : 0 ≤ lg_cmp (lN a + lN b) 0 := by
          rw [lN_add]
          have := lg_lN hc
          exact Int32.le_iff_toInt_le.mpr (by have := mt Int32.lt_iff_toInt_lt.mpr this; omega)
        rw [if_pos this, sat_lt hc, lN_add]
      · have h1 := lg_neg (lN_over ha hb hc)
        have : ¬ 0 ≤ lg_cmp (lN a + lN b) 0 := fun q => by have := Int32.le_iff_toInt_le.mp q; have := Int32.lt_iff_toInt_lt.mp h1; omega
        rw [if_neg this, sat_ge hc]
    · rw [sat_ge hb, if_pos (lg_neg (by decide)), sat_ge (by omega)]
  · rw [sat_ge ha, if_pos (lg_neg (by decide)), sat_ge (by omega)]
theorem e_plus (a b : Nat) : pX11_plus (sat (-1) a) (sat (-1) b) = some (sat (-1) (a + b)) := by
  unfold pX11_plus
  by_cases ha : a < 2 ^ 63
  · rw [sat_lt ha, if_neg (lg_lN ha)]
    by_cases hb : b < 2 ^ 63
    · have em : (9223372036854775807 : Int64) = lN (2 ^ 63 - 1) := by decide +kernel
      rw [sat_lt hb, if_neg (lg_lN hb), em, lN_sub (show b ≤ 2 ^ 63 - 1 by omega)]
      by_cases hc : a + b < 2 ^ 63
      · have : lg_cmp (lN a) (lN (2 ^ 63 - 1 - b)) ≤ 0 := by
          have h1 : ¬ 0 < lg_cmp (lN a) (lN (2 ^ 63 - 1 - b)) := fun q => by
            have := (pk_lLT (show 2 ^ 63 - 1 - b < 2 ^ 63 by omega) ha).mp (lg_gt.mp q)
            omega
          exact Int32.le_iff_toInt_le.mpr (by have := mt Int32.lt_iff_toInt_lt.mpr h1; omega)
        rw [if_pos this, sat_lt hc, lN_add]
      · have h1 : 0 < lg_cmp (lN a) (lN (2 ^ 63 - 1 - b)) := lg_gt.mpr ((pk_lLT (show 2 ^ 63 - 1 - b < 2 ^ 63 by omega) ha).mpr (by omega))
        have : ¬ lg_cmp (lN a) (lN (2 ^ 63 - 1 - b)) ≤ 0 := fun q => by have := Int32.le_iff_toInt_le.mp q; have := Int32.lt_iff_toInt_lt.mp h1; omega
        rw [if_neg this, sat_ge hc]
    · rw [sat_ge hb, if_pos (lg_neg (by decide)), sat_ge (by omega)]
  · rw [sat_ge ha, if_pos (lg_neg (by decide)), sat_ge (by omega)]
theorem sat_neg {c : Int64} (hc : c < 0) (n : Nat) : lg_cmp (sat c n) 0 < 0 ↔ ¬ n < 2 ^ 63 := by
  by_cases h : n < 2 ^ 63
  · rw [sat_lt h]; exact ⟨fun q => absurd q (lg_lN h), fun q => absurd h q⟩
  · rw [sat_ge h]; exact ⟨fun _ => h, fun _ => lg_neg hc⟩
theorem sat_eq0 {c : Int64} (hc : c < 0) (n : Nat) : lg_cmp (sat c n) 0 = 0 ↔ n = 0 := by
  rw [lg_cmp0]
  by_cases h : n < 2 ^ 63
  · rw [sat_lt h]
    have h0 : (0 : Int64) = lN 0 := rfl
    rw [h0]
    exact pk_lEQ h (by decide)
  · rw [sat_ge h]
    refine ⟨fun q => ?_, fun q => by omega⟩
    rw [q] at hc
    exact absurd hc (Int64.lt_irrefl)
/-! paths forwards and backwards -/
def fwd (A : am_Au) (P : Nat → Nat) (t : Nat) : Nat := sumN (fun a => sumN (fun s => if bt (A.2.2.2 a s) t = true then P s else 0) 6) 3
def bwd (A : am_Au) (W : Nat → Nat) (s : Nat) : Nat := sumN (fun a => sumN (fun t => if bt (A.2.2.2 a s) t = true then W t else 0) 6) 3
def ip (N : Nat) (P W : Nat → Nat) : Nat := sumN (fun t => P t * W t) N
theorem ip_fwd (A : am_Au) (P W : Nat → Nat) : ip 6 (fwd A P) W = ip 6 P (bwd A W) := by
  unfold ip fwd bwd
  have e1 : ∀ t, sumN (fun a => sumN (fun s => if bt (A.2.2.2 a s) t = true then P s else 0) 6) 3 * W t = sumN (fun a => sumN (fun s => if bt (A.2.2.2 a s) t = true then P s * W t else 0) 6) 3 := fun t => by
    rw [← sumN_mulr]
    refine sumN_congr 3 fun a _ => ?_
    rw [← sumN_mulr]
    exact sumN_congr 6 fun s _ => ite_mul _ _
  have e2 : ∀ s, P s * sumN (fun a => sumN (fun t => if bt (A.2.2.2 a s) t = true then W t else 0) 6) 3 = sumN (fun a => sumN (fun t => if bt (A.2.2.2 a s) t = true then P s * W t else 0) 6) 3 := fun s => by
    rw [← sumN_mul]
    refine sumN_congr 3 fun a _ => ?_
    rw [← sumN_mul]
    exact sumN_congr 6 fun t _ => mul_ite _ _
  rw [sumN_congr 6 (fun t _ => e1 t), sumN_congr 6 (fun s _ => e2 s)]
  refine (sumN_swap _ 3 6).trans (Eq.trans ?_ (sumN_swap _ 3 6).symm)
  refine sumN_congr 3 fun a _ => ?_
  exact sumN_swap _ 6 6
def fwdN (A : am_Au) (k : Nat) (P : Nat → Nat) : Nat → Nat := am_to (fun _ P => fwd A P) k P
def bwdN (A : am_Au) (k : Nat) (W : Nat → Nat) : Nat → Nat := am_to (fun _ W => bwd A W) k W
theorem bwdN_shift (A : am_Au) : ∀ k W, bwdN A (k + 1) W = bwdN A k (bwd A W)
  | 0, _ => rfl
  | k + 1, W => by
    show bwd A (bwdN A (k + 1) W) = bwd A (bwdN A k (bwd A W))
    rw [bwdN_shift A k W]
theorem ip_N (A : am_Au) (P : Nat → Nat) : ∀ k W, ip 6 (fwdN A k P) W = ip 6 P (bwdN A k W)
  | 0, _ => rfl
  | k + 1, W => by
    rw [bwdN_shift, ← ip_N A P k (bwd A W), ← ip_fwd]
    rfl
def ind (x : Int32) (s : Nat) : Nat := if bt x s = true then 1 else 0
/-- all accepting paths of a length -/
def pths (A : am_Au) (k : Nat) : Nat := sumN (fun s => if bt A.2.2.1 s = true then fwdN A k (ind A.2.1) s else 0) 6
theorem pths_b (A : am_Au) (k : Nat) : pths A k = sumN (fun s => if bt A.2.1 s = true then bwdN A k (ind A.2.2.1) s else 0) 6 := by
  have h := ip_N A (ind A.2.1) k (ind A.2.2.1)
  have e1 : pths A k = ip 6 (fwdN A k (ind A.2.1)) (ind A.2.2.1) := sumN_congr 6 fun s _ => by
    show _ = _ * ind A.2.2.1 s
    unfold ind
    rw [mul_ite, Nat.mul_one]
  rw [e1, h]
  refine sumN_congr 6 fun s _ => ?_
  show ind A.2.1 s * _ = _
  unfold ind
  rw [ite_mul, Nat.one_mul]
