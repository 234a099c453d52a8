/-! sets of states as ints: closures, by minimality -/
def sb (x y : Int32) : Prop := ∀ k, bt x k = true → bt y k = true
def lon (n : Nat) (x : Int32) : Prop := ∀ k, n ≤ k → bt x k = false
theorem sb.refl (x : Int32) : sb x x := fun _ h => h
theorem sb.trans {x y z : Int32} (h : sb x y) (g : sb y z) : sb x z := fun k q => g k (h k q)
theorem sb.anti {x y : Int32} (h : sb x y) (g : sb y x) : x = y := bt_ext fun k _ => by
  cases e : bt x k with
  | true => exact (h k e).symm
  | false =>
    cases e2 : bt y k with
    | true => rw [g k e2] at e; cases e
    | false => rfl
theorem sb_or {x y z : Int32} (h : sb x z) (g : sb y z) : sb (x ||| y) z := fun k q => by
  rw [bt_or, Bool.or_eq_true] at q
  exact q.elim (h k) (g k)
theorem sb_orl (x y : Int32) : sb x (x ||| y) := fun k q => by rw [bt_or, q]; rfl
theorem sb_orr (x y : Int32) : sb y (x ||| y) := fun k q => by rw [bt_or, q, Bool.or_true]
theorem sb0 (x : Int32) : sb 0 x := fun k q => by rw [bt_zero] at q; cases q
theorem lon_or {n : Nat} {x y : Int32} (h : lon n x) (g : lon n y) : lon n (x ||| y) := fun k hk => by rw [bt_or, h k hk, g k hk]; rfl
theorem lon0 (n : Nat) : lon n 0 := fun k _ => bt_zero k
theorem lon.le {n m : Nat} {x : Int32} (h : lon n x) (hm : n ≤ m) : lon m x := fun k hk => h k (by omega)
def pcn (x : Int32) : Nat := (bt x 0).toNat + (bt x 1).toNat + (bt x 2).toNat + (bt x 3).toNat + (bt x 4).toNat + (bt x 5).toNat
theorem toNat_mono {a b : Bool} (h : a = true → b = true) : a.toNat ≤ b.toNat := by
  cases a with
  | false => exact Nat.zero_le _
  | true => rw [h rfl]; exact Nat.le_refl _
theorem toNat_lt {a b : Bool} (ha : a = false) (hb : b = true) : a.toNat + 1 ≤ b.toNat := by rw [ha, hb]; decide
theorem pcn_lt {x y : Int32} (hs : sb x y) (hy : lon 6 y) (hne : x ≠ y) : pcn x < pcn y := by
  have h : ∃ k, bt y k = true ∧ bt x k = false := by
    apply Classical.byContradiction
    intro hn
    apply hne
    refine hs.anti fun k hk => ?_
    cases e : bt x k with
    | true => rfl
    | false => exact absurd ⟨k, hk, e⟩ hn
  obtain ⟨k, h1, h2⟩ := h
  have hk : k < 6 := Nat.lt_of_not_le fun q => by rw [hy k q] at h1; cases h1
  have m0 := toNat_mono (hs 0)
  have m1 := toNat_mono (hs 1)
  have m2 := toNat_mono (hs 2)
  have m3 := toNat_mono (hs 3)
  have m4 := toNat_mono (hs 4)
  have m5 := toNat_mono (hs 5)
  have hl := toNat_lt h2 h1
  unfold pcn
  have : k = 0 ∨ k = 1 ∨ k = 2 ∨ k = 3 ∨ k = 4 ∨ k = 5 := by omega
  rcases this with rfl | rfl | rfl | rfl | rfl | rfl <;> omega
theorem pcn_le {n : Nat} {x : Int32} (hn : n ≤ 6) (h : lon n x) : pcn x ≤ n := by
  have t : ∀ k, (bt x k).toNat ≤ 1 := fun k => by cases bt x k <;> decide
  have z : ∀ k, n ≤ k → (bt x k).toNat = 0 := fun k hk => by rw [h k hk]; rfl
  have t0 := t 0; have t1 := t 1; have t2 := t 2; have t3 := t 3; have t4 := t 4; have t5 := t 5
  unfold pcn
  have : n = 0 ∨ n = 1 ∨ n = 2 ∨ n = 3 ∨ n = 4 ∨ n = 5 ∨ n = 6 := by omega
  rcases this with rfl | rfl | rfl | rfl | rfl | rfl | rfl
  · have := z 0 (by omega); have := z 1 (by omega); have := z 2 (by omega); have := z 3 (by omega); have := z 4 (by omega); have := z 5 (by omega); omega
  · have := z 1 (by omega); have := z 2 (by omega); have := z 3 (by omega); have := z 4 (by omega); have := z 5 (by omega); omega
  · have := z 2 (by omega); have := z 3 (by omega); have := z 4 (by omega); have := z 5 (by omega); omega
  · have := z 3 (by omega); have := z 4 (by omega); have := z 5 (by omega); omega
  · have := z 4 (by omega); have := z 5 (by omega); omega
  · have := z 5 (by omega); omega
  · omega
theorem pcn0 {x : Int32} (h : lon 6 x) (hp : pcn x = 0) : x = 0 := by
  apply Classical.byContradiction
  intro hn
  have := pcn_lt (sb0 x) h (fun e => hn e.symm)
  omega
def itr (f : Int32 → Int32) : Nat → Int32 → Int32
  | 0, x => x
  | k + 1, x => itr f k (f x)
theorem itr_fix_of {f : Int32 → Int32} {x : Int32} (h : f x = x) : ∀ k, itr f k x = x
  | 0 => rfl
  | k + 1 => by show itr f k (f x) = x; rw [h]; exact itr_fix_of h k
theorem itr_lon {f : Int32 → Int32} {n : Nat} (hlo : ∀ x, lon n x → lon n (f x)) : ∀ k x, lon n x → lon n (itr f k x)
  | 0, _, h => h
  | k + 1, x, h => itr_lon hlo k (f x) (hlo x h)
theorem itr_fix {f : Int32 → Int32} {n : Nat} (hn : n ≤ 6) (hinf : ∀ x, sb x (f x)) (hlo : ∀ x, lon n x → lon n (f x)) (h0 : f 0 = 0) (x : Int32) (hx : lon n x) : f (itr f n x) = itr f n x := by
  have key : ∀ m x, lon n x → f (itr f m x) = itr f m x ∨ pcn x + m ≤ pcn (itr f m x) := by
    intro m
    induction m with
    | zero => intro x _; exact Or.inr (Nat.le_refl _)
    | succ m ih =>
      intro x hx
      by_cases e : f x = x
      · left
        rw [itr_fix_of e (m + 1)]; exact e
      · have h1 := pcn_lt (hinf x) ((hlo x hx).le hn) (fun q => e q.symm)
        rcases ih (f x) (hlo x hx) with h | h
        · exact Or.inl h
        · right
          show pcn x + (m + 1) ≤ pcn (itr f m (f x))
          omega
  rcases key n x hx with h | h
  · exact h
  · have h1 := pcn_le hn (itr_lon hlo n x hx)
    have h2 : x = 0 := pcn0 (hx.le hn) (by omega)
    subst h2
    rw [itr_fix_of h0 n]; exact h0
/-- y is closed under the targets; the least closed set over x -/
def clsd (A : am_Au) (y : Int32) : Prop := ∀ a s, a < 3 → s < 6 → bt y s = true → sb (A.2.2.2 a s) y
def isClo (A : am_Au) (x y : Int32) : Prop := sb x y ∧ clsd A y ∧ ∀ z, sb x z → clsd A z → sb y z
theorem isClo.uniq {A : am_Au} {x y z : Int32} (h : isClo A x y) (g : isClo A x z) : y = z := (h.2.2 z g.1 g.2.1).anti (g.2.2 y h.1 h.2.1)
def cocl (A : am_Au) (y : Int32) : Prop := ∀ a s t, a < 3 → s < 6 → bt (A.2.2.2 a s) t = true → bt y t = true → bt y s = true
def isCo (A : am_Au) (x y : Int32) : Prop := sb x y ∧ cocl A y ∧ ∀ z, sb x z → cocl A z → sb y z
theorem isCo.uniq {A : am_Au} {x y z : Int32} (h : isCo A x y) (g : isCo A x z) : y = z := (h.2.2 z g.1 g.2.1).anti (g.2.2 y h.1 h.2.1)
theorem bt_not (x : Int32) {k : Nat} (hk : k < 32) : bt (x ^^^ (-1)) k = !bt x k := by rw [bt_xor, bt_m1 k hk]; cases bt x k <;> rfl
/-- who reaches a set, by the closures of single states -/
theorem isCo_iff {A : am_Au} {x v : Int32} (hw : aw A) (hx : lon A.1 x) (h : isCo A x v) {s : Nat} (hs : s < A.1) {c : Int32} (hc : isClo A ((1 : Int32) <<< (nI s &&& 31)) c) : bt v s = true ↔ c &&& x ≠ 0 := by
  obtain ⟨w1, w2, w3, w4, w5⟩ := hw
  have b1 : ∀ k, k < 32 → bt ((1 : Int32) <<< (nI s &&& 31)) k = decide (k = s) := bt_one_shl s (by omega)
  constructor
  · intro hv hz
    -- the states whose closure misses x are apart from v
    have hcs : bt c s = true := hc.1 s (by rw [b1 s (by omega)]; simp)
    -- z: all of v but c's members
    have key : sb v (v &&& (c ^^^ (-1))) := by
      refine h.2.2 _ (fun k hk => ?_) (fun a p t ha hp hE ht => ?_)
      · have hk32 := bt_lt hk
        rw [bt_and, h.1 k hk, bt_not c hk32]
        have : bt (c &&& x) k = false := by rw [hz]; exact bt_zero k
        rw [bt_and, hk, Bool.and_true] at this
        rw [this]; rfl
      · have ht32 := bt_lt hE
        rw [bt_and, bt_not c ht32, Bool.and_eq_true] at ht
        rw [bt_and, bt_not c (by omega), h.2.1 a p t ha hp hE ht.1, Bool.true_and]
        cases e : bt c p with
        | false => rfl
        | true =>
          have := hc.2.1 a p ha hp e t hE
          rw [this] at ht
          exact absurd ht.2 (by decide)
    have := key s hv
    rw [bt_and, bt_not c (by omega), hcs] at this
    simp at this
  · intro hz
    apply Classical.byContradiction
    intro hv
    have hv : bt v s = false := by cases e : bt v s with
      | true => exact absurd e hv
      | false => rfl
    have hk : sb c (v ^^^ (-1)) := by
      refine hc.2.2 _ (fun k hk => ?_) (fun a p ha hp hE t ht => ?_)
      · have hk32 := bt_lt hk
        rw [b1 k hk32] at hk
        have : k = s := of_decide_eq_true hk
        subst this
        rw [bt_not v hk32, hv]; rfl
      · have ht32 := bt_lt ht
        rw [bt_not v (by omega)] at hE
        rw [bt_not v ht32]
        cases e : bt v t with
        | false => rfl
        | true =>
          rw [h.2.1 a p t ha hp ht e] at hE
          exact hE
    apply hz
    apply bt_ext
    intro k hk32
    rw [bt_and, bt_zero]
    cases e : bt c k with
    | false => rfl
    | true =>
      have := hk k e
      rw [bt_not v hk32] at this
      cases e2 : bt x k with
      | false => rfl
      | true => rw [h.1 k e2] at this; exact absurd this (by decide)
