/-! loops as folds; refs of the reference's object; small numbers -/
def am_to {σ : Type} (f : Nat → σ → σ) : Nat → σ → σ
  | 0, s => s
  | n + 1, s => f n (am_to f n s)
theorem am_forE {σ β : Type} (l : Nat → Nat → σ → β) (N : Nat) (P : Nat → σ → Prop) (ex : σ → β)
    (hs : ∀ n i s, i < N → P i s → ∃ s', l (n + 1) i s = l n (i + 1) s' ∧ P (i + 1) s')
    (hx : ∀ n s, P N s → l (n + 1) N s = ex s) : ∀ n i s, i ≤ N → N < n + i → P i s → ∃ s', l n i s = ex s' ∧ P N s' := by
  intro n
  induction n with
  | zero => intro i s h1 h2; omega
  | succ n ih =>
    intro i s h1 h2 hP
    by_cases hi : i = N
    · subst hi; exact ⟨s, hx n s hP, hP⟩
    · obtain ⟨s1, e, h⟩ := hs n i s (by omega) hP
      obtain ⟨s2, e2, h2⟩ := ih (i + 1) s1 (by omega) (by omega) h
      exact ⟨s2, e.trans e2, h2⟩
/-- the loop from 0 -/
theorem am_for0 {σ β : Type} (l : Nat → Nat → σ → β) (N : Nat) (P : Nat → σ → Prop) (ex : σ → β) (hN : N < 1000000)
    (hs : ∀ n i s, i < N → P i s → ∃ s', l (n + 1) i s = l n (i + 1) s' ∧ P (i + 1) s')
    (hx : ∀ n s, P N s → l (n + 1) N s = ex s) (s : σ) (h0 : P 0 s) : ∃ s', l am_fu 0 s = ex s' ∧ P N s' :=
  am_forE l N P ex hs hx am_fu 0 s (Nat.zero_le _) (am_fu_lt hN) h0
/-- the loop from k -/
theorem am_fork {σ β : Type} (l : Nat → Nat → σ → β) (k N : Nat) (P : Nat → σ → Prop) (ex : σ → β) (hN : N < 1000000) (hk : k ≤ N)
    (hs : ∀ n i s, k ≤ i → i < N → P i s → ∃ s', l (n + 1) i s = l n (i + 1) s' ∧ P (i + 1) s')
    (hx : ∀ n s, P N s → l (n + 1) N s = ex s) (s : σ) (h0 : P k s) : ∃ s', l am_fu k s = ex s' ∧ P N s' := by
  have h := am_forE l N (fun i s => k ≤ i ∧ P i s) ex (fun n i s hi hP => by
    obtain ⟨s', e, h⟩ := hs n i s hP.1 hi hP.2
    exact ⟨s', e, by omega, h⟩) (fun n s hP => hx n s hP.2) am_fu k s hk (by have := am_fu_ge; omega) ⟨Nat.le_refl _, h0⟩
  obtain ⟨s', e, h⟩ := h
  exact ⟨s', e, h.2⟩
theorem am_forF {σ β : Type} (l : Nat → Nat → σ → β) (N : Nat) (f : Nat → σ → σ) (ex : σ → β) (hN : N < 1000000)
    (hs : ∀ n i s, i < N → l (n + 1) i s = l n (i + 1) (f i s))
    (hx : ∀ n s, l (n + 1) N s = ex s) (s : σ) : l am_fu 0 s = ex (am_to f N s) := by
  obtain ⟨s', e, h⟩ := am_for0 l N (fun i t => t = am_to f i s) ex hN (fun n i t hi h => ⟨_, hs n i t hi, by rw [h]; rfl⟩) (fun n t _ => hx n t) s rfl
  rw [e, h]
/-- the loop from 0 with a way out: Q holds of what it gives -/
theorem am_forQ {σ β : Type} (l : Nat → Nat → σ → β) (N : Nat) (Inv : Nat → σ → Prop) (Q : β → Prop) (hN : N < 1000000)
    (hs : ∀ n i M, i < N → Inv i M → (∃ M', l (n + 1) i M = l n (i + 1) M' ∧ Inv (i + 1) M') ∨ Q (l (n + 1) i M))
    (hx : ∀ n M, Inv N M → Q (l (n + 1) N M)) (M : σ) (h0 : Inv 0 M) : Q (l am_fu 0 M) :=
  am_loopQ l N Inv Q hs hx am_fu 0 M (Nat.zero_le _) (am_fu_lt hN) h0
theorem am_to_ind {σ : Type} {f : Nat → σ → σ} (P : σ → Prop) : ∀ n s, (∀ i s, i < n → P s → P (f i s)) → P s → P (am_to f n s)
  | 0, _, _, h => h
  | n + 1, s, hf, h => hf n _ (Nat.lt_succ_self n) (am_to_ind P n s (fun i s hi => hf i s (Nat.lt_succ_of_lt hi)) h)
theorem am_to_indI {σ : Type} {f : Nat → σ → σ} (P : Nat → σ → Prop) : ∀ n s, (∀ i s, i < n → P i s → P (i + 1) (f i s)) → P 0 s → P n (am_to f n s)
  | 0, _, _, h => h
  | n + 1, s, hf, h => hf n _ (Nat.lt_succ_self n) (am_to_indI P n s (fun i s hi => hf i s (Nat.lt_succ_of_lt hi)) h)
theorem am_to_congr {σ : Type} {f g : Nat → σ → σ} : ∀ n s, (∀ i s, i < n → f i s = g i s) → am_to f n s = am_to g n s
  | 0, _, _ => rfl
  | n + 1, s, h => by
    show f n (am_to f n s) = g n (am_to g n s)
    rw [am_to_congr n s (fun i s hi => h i s (Nat.lt_succ_of_lt hi)), h n _ (Nat.lt_succ_self n)]
theorem am_ck_true {α : Type} {f : Option α} : am_ck true f = f := rfl
theorem am_ne0 : ¬ ((1 : Int32) = 0) := by decide
/-- or over places -/
theorem bt_to_or (g : Nat → Int32) (t : Nat) : ∀ n y, bt (am_to (fun s y => y ||| g s) n y) t = true ↔ bt y t = true ∨ ∃ s, s < n ∧ bt (g s) t = true
  | 0, y => ⟨Or.inl, fun h => h.elim id (fun ⟨s, hs, _⟩ => absurd hs (Nat.not_lt_zero s))⟩
  | n + 1, y => by
    show bt (am_to (fun s y => y ||| g s) n y ||| g n) t = true ↔ _
    rw [bt_or, Bool.or_eq_true, bt_to_or g t n y]
    constructor
    · rintro ((h | ⟨s, hs, h⟩) | h)
      · exact Or.inl h
      · exact Or.inr ⟨s, Nat.lt_succ_of_lt hs, h⟩
      · exact Or.inr ⟨n, Nat.lt_succ_self n, h⟩
    · rintro (h | ⟨s, hs, h⟩)
      · exact Or.inl (Or.inl h)
      · rcases Nat.lt_succ_iff_lt_or_eq.mp hs with h2 | h2
        · exact Or.inl (Or.inr ⟨s, h2, h⟩)
        · subst h2; exact Or.inr h
theorem bt_iff_eq {x y : Int32} (h : ∀ k, k < 32 → (bt x k = true ↔ bt y k = true)) : x = y := bt_ext fun k hk => by
  have := h k hk
  cases hx : bt x k <;> cases hy : bt y k <;> simp_all
theorem bt_1s {s k : Nat} (hs : s < 32) : bt ((1 : Int32) <<< (nI s &&& 31)) k = decide (k = s) := by
  by_cases hk : k < 32
  · exact bt_one_shl s hs k hk
  · rw [bt_ge _ (by omega)]
    exact (decide_eq_false (by omega)).symm
theorem ng3 {i : Nat} (h : i < 3) : ¬ (3 : Int32) ≤ nI i := nI_ge (b := 3) h (by omega)
theorem yg3 : (3 : Int32) ≤ nI 3 := nI_le (a := 3) (Nat.le_refl _) (by omega)
theorem ng6 {i : Nat} (h : i < 6) : ¬ (6 : Int32) ≤ nI i := nI_ge (b := 6) h (by omega)
theorem yg6 : (6 : Int32) ≤ nI 6 := nI_le (a := 6) (Nat.le_refl _) (by omega)
theorem ng18 {i : Nat} (h : i < 18) : ¬ (18 : Int32) ≤ nI i := nI_ge (b := 18) h (by omega)
theorem yg18 : (18 : Int32) ≤ nI 18 := nI_le (a := 18) (Nat.le_refl _) (by omega)
theorem ng20 {i : Nat} (h : i < 20) : ¬ (20 : Int32) ≤ nI i := nI_ge (b := 20) h (by omega)
theorem yg20 : (20 : Int32) ≤ nI 20 := nI_le (a := 20) (Nat.le_refl _) (by omega)
theorem ng31 {i : Nat} (h : i < 31) : ¬ (31 : Int32) ≤ nI i := nI_ge (b := 31) h (by omega)
theorem yg31 : (31 : Int32) ≤ nI 31 := nI_le (a := 31) (Nat.le_refl _) (by omega)
theorem ng36 {i : Nat} (h : i < 36) : ¬ (36 : Int32) ≤ nI i := nI_ge (b := 36) h (by omega)
theorem yg36 : (36 : Int32) ≤ nI 36 := nI_le (a := 36) (Nat.le_refl _) (by omega)
theorem ng60 {i : Nat} (h : i < 60) : ¬ (60 : Int32) ≤ nI i := nI_ge (b := 60) h (by omega)
theorem yg60 : (60 : Int32) ≤ nI 60 := nI_le (a := 60) (Nat.le_refl _) (by omega)
theorem ng64 {i : Nat} (h : i < 64) : ¬ (64 : Int32) ≤ nI i := nI_ge (b := 64) h (by omega)
theorem yg64 : (64 : Int32) ≤ nI 64 := nI_le (a := 64) (Nat.le_refl _) (by omega)
theorem ng72 {i : Nat} (h : i < 72) : ¬ (72 : Int32) ≤ nI i := nI_ge (b := 72) h (by omega)
theorem yg72 : (72 : Int32) ≤ nI 72 := nI_le (a := 72) (Nat.le_refl _) (by omega)
theorem ng90 {i : Nat} (h : i < 90) : ¬ (90 : Int32) ≤ nI i := nI_ge (b := 90) h (by omega)
theorem yg90 : (90 : Int32) ≤ nI 90 := nI_le (a := 90) (Nat.le_refl _) (by omega)
theorem ng124 {i : Nat} (h : i < 124) : ¬ (124 : Int32) ≤ nI i := nI_ge (b := 124) h (by omega)
theorem yg124 : (124 : Int32) ≤ nI 124 := nI_le (a := 124) (Nat.le_refl _) (by omega)
theorem ng192 {i : Nat} (h : i < 192) : ¬ (192 : Int32) ≤ nI i := nI_ge (b := 192) h (by omega)
theorem yg192 : (192 : Int32) ≤ nI 192 := nI_le (a := 192) (Nat.le_refl _) (by omega)
theorem ng216 {i : Nat} (h : i < 216) : ¬ (216 : Int32) ≤ nI i := nI_ge (b := 216) h (by omega)
theorem yg216 : (216 : Int32) ≤ nI 216 := nI_le (a := 216) (Nat.le_refl _) (by omega)
theorem ng384 {i : Nat} (h : i < 384) : ¬ (384 : Int32) ≤ nI i := nI_ge (b := 384) h (by omega)
theorem yg384 : (384 : Int32) ≤ nI 384 := nI_le (a := 384) (Nat.le_refl _) (by omega)
theorem ng1000 {i : Nat} (h : i < 1000) : ¬ (1000 : Int32) ≤ nI i := nI_ge (b := 1000) h (by omega)
theorem yg1000 : (1000 : Int32) ≤ nI 1000 := nI_le (a := 1000) (Nat.le_refl _) (by omega)
theorem ng4096 {i : Nat} (h : i < 4096) : ¬ (4096 : Int32) ≤ nI i := nI_ge (b := 4096) h (by omega)
theorem yg4096 : (4096 : Int32) ≤ nI 4096 := nI_le (a := 4096) (Nat.le_refl _) (by omega)
theorem ng256 {i : Nat} (h : i < 256) : ¬ (256 : Int32) ≤ nI i := nI_ge (b := 256) h (by omega)
theorem yg256 : (256 : Int32) ≤ nI 256 := nI_le (a := 256) (Nat.le_refl _) (by omega)
theorem nIge {a b : Nat} (h : a < b) (hb : b < 1000000) : ¬ nI b ≤ nI a := nI_ge h (by omega)
theorem nIle {a : Nat} (hb : a < 1000000) : nI a ≤ nI a := nI_le (Nat.le_refl _) (by omega)
theorem nIcl {a : Nat} (h : a < 1000000) : Int32.toNatClampNeg (nI a) = a := nI_clamp (by omega)
theorem inb {i n : Nat} (h : i < n) (hn : n < 1000000) : am_inb (nI i) n = true := am_inb_nI h (by omega)
theorem nI_i {x : Int32} {n : Nat} (h : x = nI n) : Int32.toNatClampNeg x = Int32.toNatClampNeg (nI n) := by rw [h]
/-- the refs of the reference's object: they never change -/
def rM : am_R := (am_upR (am_upR (am_upR (am_upR (am_upR (am_upR (am_upR (am_upR (am_upR (am_upR (am_upR (am_upR (am_upR (am_upR (am_upR (am_upR (am_upR (am_upR (am_upR (am_upR (am_upR (am_upR (am_upR (am_upR (am_upR (am_upR (am_upR (am_upR (am_upR (am_upR (am_upR (fun _ _ => 0) 1 0 2) 1 1 3) 1 2 4) 1 7 5) 1 8 6) 1 10 7) 1 11 8) 1 15 9) 1 17 10) 1 18 11) 1 19 12) 1 20 13) 1 22 14) 1 23 15) 1 24 16) 1 26 17) 1 30 18) 1 31 19) 1 32 20) 1 33 21) 1 34 22) 1 35 23) 1 36 24) 1 37 25) 1 38 26) 1 39 27) 1 44 28) 1 45 29) 1 46 30) 1 47 31) 1 48 32)
theorem rM0 : rM 1 0 = 2 := rfl
theorem rM1 : rM 1 1 = 3 := rfl
theorem rM2 : rM 1 2 = 4 := rfl
theorem rM7 : rM 1 7 = 5 := rfl
theorem rM8 : rM 1 8 = 6 := rfl
theorem rM10 : rM 1 10 = 7 := rfl
theorem rM11 : rM 1 11 = 8 := rfl
theorem rM15 : rM 1 15 = 9 := rfl
theorem rM17 : rM 1 17 = 10 := rfl
theorem rM18 : rM 1 18 = 11 := rfl
theorem rM19 : rM 1 19 = 12 := rfl
theorem rM20 : rM 1 20 = 13 := rfl
theorem rM22 : rM 1 22 = 14 := rfl
theorem rM23 : rM 1 23 = 15 := rfl
theorem rM24 : rM 1 24 = 16 := rfl
theorem rM26 : rM 1 26 = 17 := rfl
theorem rM30 : rM 1 30 = 18 := rfl
theorem rM31 : rM 1 31 = 19 := rfl
theorem rM32 : rM 1 32 = 20 := rfl
theorem rM33 : rM 1 33 = 21 := rfl
theorem rM34 : rM 1 34 = 22 := rfl
theorem rM35 : rM 1 35 = 23 := rfl
theorem rM36 : rM 1 36 = 24 := rfl
theorem rM37 : rM 1 37 = 25 := rfl
theorem rM38 : rM 1 38 = 26 := rfl
theorem rM39 : rM 1 39 = 27 := rfl
theorem rM44 : rM 1 44 = 28 := rfl
theorem rM45 : rM 1 45 = 29 := rfl
theorem rM46 : rM 1 46 = 30 := rfl
theorem rM47 : rM 1 47 = 31 := rfl
theorem rM48 : rM 1 48 = 32 := rfl
