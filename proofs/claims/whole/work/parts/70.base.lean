/-! numbers, checks, loops: what the pure functions need -/
theorem am_loopQ {σ β : Type} (l : Nat → Nat → σ → β) (N : Nat) (Inv : Nat → σ → Prop) (Q : β → Prop)
    (hs : ∀ n i M, i < N → Inv i M → (∃ M', l (n + 1) i M = l n (i + 1) M' ∧ Inv (i + 1) M') ∨ Q (l (n + 1) i M))
    (hx : ∀ n M, Inv N M → Q (l (n + 1) N M)) : ∀ n i M, i ≤ N → N < n + i → Inv i M → Q (l n i M) := by
  intro n
  induction n with
  | zero => intro i M h1 h2; omega
  | succ n ih =>
    intro i M h1 h2 hI
    by_cases hi : i = N
    · subst hi; exact hx n M hI
    · rcases hs n i M (by omega) hI with ⟨M', e, hI'⟩ | h
      · rw [e]; exact ih (i + 1) M' (by omega) (by omega) hI'
      · exact h
theorem am_fu_lt {N : Nat} (h : N < 1000000) : N < am_fu + 0 := Nat.lt_of_lt_of_le h am_fu_ge
theorem am_ck_t {α : Type} {b : Bool} {f : Option α} (h : b = true) : am_ck b f = f := by unfold am_ck; rw [if_pos h]
theorem am_let_e {α β : Type} {v : β} {f : β → Option α} : am_let v f = f v := rfl
theorem am_jn_e {α β : Type} {j : β} {f : β → Option α} : am_jn j f = f j := rfl
theorem am_bd {α β : Type} {a : α} {f : α → Option β} : Option.bind (some a) f = f a := rfl
theorem am_inb_nI {i n : Nat} (h : i < n) (hn : n < 2 ^ 31) : am_inb (nI i) n = true := by
  simp only [am_inb, nI_pos (show i < 2 ^ 31 by omega), nI_clamp (show i < 2 ^ 31 by omega), decide_false, Bool.not_false, Bool.true_and, decide_eq_true_eq]
  exact h
theorem am_isb0 : am_isb 0 = true := rfl
theorem am_isb1 : am_isb 1 = true := rfl
/-- bits of an int -/
def bt (x : Int32) (k : Nat) : Bool := x.toBitVec.getLsbD k
def btl (x : Int64) (k : Nat) : Bool := x.toBitVec.getLsbD k
theorem bt_ext {x y : Int32} (h : ∀ k, k < 32 → bt x k = bt y k) : x = y := by
  apply Int32.toBitVec_inj.mp
  apply BitVec.eq_of_getLsbD_eq
  intro i hi
  exact h i hi
theorem bt_or (x y : Int32) (k : Nat) : bt (x ||| y) k = (bt x k || bt y k) := by simp [bt]
theorem bt_and (x y : Int32) (k : Nat) : bt (x &&& y) k = (bt x k && bt y k) := by simp [bt]
theorem bt_xor (x y : Int32) (k : Nat) : bt (x ^^^ y) k = (bt x k != bt y k) := by simp [bt]
theorem bt_zero (k : Nat) : bt 0 k = false := by simp [bt]
theorem bt_m1 (k : Nat) (hk : k < 32) : bt (-1) k = true := by
  have : ∀ k, k < 32 → bt (-1) k = true := by decide +kernel
  exact this k hk
theorem bt_one_shl : ∀ s, s < 32 → ∀ k, k < 32 → bt ((1 : Int32) <<< (nI s &&& 31)) k = decide (k = s) := by decide +kernel
theorem bt_ge (x : Int32) {k : Nat} (h : 32 ≤ k) : bt x k = false := by
  simp only [bt]
  exact BitVec.getLsbD_of_ge _ _ h
theorem bt_lt {x : Int32} {k : Nat} (h : bt x k = true) : k < 32 := by
  by_cases hk : k < 32
  · exact hk
  · rw [bt_ge x (by omega)] at h; cases h
theorem nI_sm32 : ∀ s, s < 32 → ((nI s &&& 31).toBitVec.smod 32).toNat = s := by decide +kernel
theorem nI_sm64 : ∀ s, s < 32 → (((nI s).toInt64 &&& 63).toBitVec.smod 64).toNat = s := by decide +kernel
theorem bt_shr (x : Int32) {s : Nat} (hs : s < 32) : bt (x >>> (nI s &&& 31)) 0 = bt x s := by
  simp only [bt, Int32.toBitVec_shiftRight, BitVec.sshiftRight']
  rw [nI_sm32 s hs, BitVec.getLsbD_sshiftRight]
  simp [hs]
theorem bt_1 : ∀ k, k < 32 → bt 1 k = decide (k = 0) := by decide +kernel
theorem bt_shr1 (x : Int32) {s : Nat} (hs : s < 32) : (x >>> (nI s &&& 31)) &&& (1 : Int32) = if bt x s = true then 1 else 0 := by
  apply bt_ext
  intro k hk
  rw [bt_and, bt_1 k hk]
  by_cases h0 : k = 0
  · subst h0
    rw [bt_shr x hs]
    cases bt x s <;> simp [bt_zero, bt_1 0 (by decide)]
  · cases bt x s <;> simp [h0, bt_zero, bt_1 k hk]
/-- contains -/
theorem e_contains (x : Int32) {s : Nat} (hs : s < 32) : pX10_contains x (nI s) = some (if bt x s = true then 1 else 0) := by
  unfold pX10_contains
  rw [bt_shr1 x hs]
  cases bt x s <;> rfl
theorem btl_ext {x y : Int64} (h : ∀ k, k < 64 → btl x k = btl y k) : x = y := by
  apply Int64.toBitVec_inj.mp
  apply BitVec.eq_of_getLsbD_eq
  intro i hi
  exact h i hi
theorem btl_and (x y : Int64) (k : Nat) : btl (x &&& y) k = (btl x k && btl y k) := by simp [btl]
theorem btl_or (x y : Int64) (k : Nat) : btl (x ||| y) k = (btl x k || btl y k) := by simp [btl]
theorem btl_zero (k : Nat) : btl 0 k = false := by simp [btl]
theorem btl_1 : ∀ k, k < 64 → btl 1 k = decide (k = 0) := by decide +kernel
theorem nI_sm64' : ∀ s, s < 64 → (((nI s).toInt64 &&& 63).toBitVec.smod 64).toNat = s := by decide +kernel
theorem btl_shr (x : Int64) {s : Nat} (hs : s < 64) : btl (x >>> ((nI s).toInt64 &&& 63)) 0 = btl x s := by
  simp only [btl, Int64.toBitVec_shiftRight, BitVec.sshiftRight']
  rw [nI_sm64' s hs, BitVec.getLsbD_sshiftRight]
  simp [hs]
theorem btl_shr1 (x : Int64) {s : Nat} (hs : s < 64) : (x >>> ((nI s).toInt64 &&& 63)) &&& (1 : Int64) = if btl x s = true then 1 else 0 := by
  apply btl_ext
  intro k hk
  rw [btl_and, btl_1 k hk]
  by_cases h0 : k = 0
  · subst h0
    rw [btl_shr x hs]
    cases btl x s <;> simp [btl_zero, btl_1 0 (by decide)]
  · cases btl x s <;> simp [h0, btl_zero, btl_1 k hk]
theorem btl_i (x : Int32) {s : Nat} (hs : s < 32) : btl x.toInt64 s = bt x s := by
  simp only [btl, bt, Int32.toBitVec_toInt64]
  rw [BitVec.getLsbD_signExtend]
  simp [hs, show s < 64 by omega]
theorem lg_cmp0 {x y : Int64} : lg_cmp x y = 0 ↔ x = y := by
  unfold lg_cmp
  by_cases h : x > y
  · rw [if_pos h]
    constructor
    · intro q; cases q
    · intro q; subst q; exact absurd h (Int64.lt_irrefl)
  · rw [if_neg h]
    by_cases h2 : x = y
    · rw [if_pos h2]; exact ⟨fun _ => h2, fun _ => rfl⟩
    · rw [if_neg h2]
      constructor
      · intro q; cases q
      · intro q; exact absurd q h2
theorem e_hasL (x : Int64) {s : Nat} (hs : s < 64) : pX11_has x (nI s) = some (if btl x s = true then 1 else 0) := by
  unfold pX11_has
  rw [btl_shr1 x hs]
  cases btl x s <;> rfl
theorem e_has (x : Int32) {s : Nat} (hs : s < 32) : pX11_has x.toInt64 (nI s) = some (if bt x s = true then 1 else 0) := by
  rw [e_hasL _ (by omega), btl_i x hs]
