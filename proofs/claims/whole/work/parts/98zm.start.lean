/-! the law's start -/
section
/-- behind the class's constructor -/
def IC0 : am_I := (am_upI (am_upI (am_upI (am_upI (am_upI (am_upI (am_upI (am_upI (am_upI (am_upI (fun _ _ => 0) 2 0 (1 : Int32)) 4 0 (1 : Int32)) 24 10 (-1 : Int32)) 6 0 (1 : Int32)) 6 1 (1 : Int32)) 6 2 (1 : Int32)) 41 0 (0 : Int32)) 43 0 (0 : Int32)) 45 0 (0 : Int32)) 47 0 (0 : Int32))
/-- behind the reference's -/
def IM0 : am_I := (am_upI (am_upI (am_upI (am_upI (am_upI (fun _ _ => 0) 4 0 (1 : Int32)) 4 1 (1 : Int32)) 4 2 (1 : Int32)) 1 3 (1 : Int32)) 1 40 (-4 : Int32))
def L00 : am_L := fun _ _ => 0
def A00 : am_Au := (1, 0, 0, fun _ _ => 0)
theorem aw00 : aw A00 := ⟨Nat.le_refl _, by decide, fun k _ => ⟨bt_zero k, bt_zero k⟩, fun a s k _ => bt_zero k, fun _ _ _ => rfl⟩
theorem ok_rC : okC rC := ⟨fun _ _ _ _ => rfl, Or.inl ⟨rfl, rfl⟩, Or.inl rfl⟩
theorem Inv00 : Inv rC IC0 L00 IM0 L00 := by
  refine ⟨A00, fun _ => 1, none, (0, fun _ => 0), (0, fun _ => 0), none, fun _ => (0, 0, fun _ => 0), ⟨aw00, fun _ _ => (show (1 : Nat) ≤ 100 by decide), fun q h => (by cases h), ⟨Nat.zero_le _, fun j hj => absurd hj (Nat.not_lt_zero j)⟩, ⟨Nat.zero_le _, fun _ => (show (0 : Nat) < 3 by decide)⟩, fun r h => (by cases h), fun k _ => ⟨Nat.zero_le _, Nat.zero_le _, fun h => (by cases h)⟩⟩, ?_, ?_⟩
  · refine ⟨ok_rC, ⟨rfl, rfl, rfl, fun _ _ _ _ => rfl⟩, fun a ha => ?_, rfl, ⟨rfl, fun j hj => absurd hj (Nat.not_lt_zero j)⟩, ⟨rfl, fun j hj => absurd hj (Nat.not_lt_zero j)⟩, rfl, fun k hk => ⟨?_, fun h => absurd rfl h⟩, fun _ _ => ⟨rfl, rfl, rfl, rfl⟩⟩
    · match a, ha with
      | 0, _ => rfl
      | 1, _ => rfl
      | 2, _ => rfl
    · match k, hk with
      | 0, _ => rfl
      | 1, _ => rfl
      | 2, _ => rfl
      | 3, _ => rfl
  · refine ⟨⟨rfl, rfl, rfl, fun _ _ _ _ => rfl⟩, fun a ha => ?_, rfl, ⟨rfl, fun j hj => absurd hj (Nat.not_lt_zero j)⟩, ⟨rfl, fun j hj => absurd hj (Nat.not_lt_zero j)⟩, ⟨rfl, rfl, rfl⟩, fun k _ => ⟨rfl, fun h => absurd rfl h⟩, Or.inl rfl⟩
    match a, ha with
    | 0, _ => rfl
    | 1, _ => rfl
    | 2, _ => rfl
theorem rk_lt {c k : Nat} {sh : am_Sh} (h : am_rk c k = some sh) : k < 50 := Nat.lt_of_not_le fun hk => by
  obtain ⟨d, rfl⟩ : ∃ d, k = d + 50 := ⟨k - 50, by omega⟩
  match c, h with
  | 0, h => cases h
  | 1, h => cases h
  | 2, h => cases h
  | 3, h => cases h
  | 4, h => cases h
  | 5, h => cases h
  | 6, h => cases h
  | 7, h => cases h
  | 8, h => cases h
  | 9, h => cases h
  | 10, h => cases h
  | n + 11, h => cases h
def tkC (G : am_S) (R : am_R) (a k : Nat) : Bool := match G a with
  | some (.inl c) => (match am_rk c k with
    | some sh => !(R a k == 0) && decide (G (R a k) = some sh)
    | none => true)
  | some (.inr (t, n)) => !(t == 3) || (!(Nat.blt k n) || (!(R a k == 0) && decide (G (R a k) = some (.inl 5))))
  | none => true
theorem tk_of {G : am_S} {R : am_R} {N : Nat} (hN : ∀ a, N ≤ a → G a = none) (hA : ∀ a n, G a = some (.inr (3, n)) → n ≤ 50) (h : ∀ a, a < N → ∀ k, k < 50 → tkC G R a k = true) (h14 : ∀ a, G a = some (.inl 10) → R a 14 = 0 ∨ G (R a 14) = some (.inl 4)) : am_T G R := by
  have lt : ∀ {a : Nat} {sh : am_Sh}, G a = some sh → a < N := fun {a sh} e => Nat.lt_of_not_le fun q => by rw [hN a q] at e; cases e
  refine ⟨fun a c k sh e e2 => ?_, fun a n j e hj => ?_, h14⟩
  · have := h a (lt e) k (rk_lt e2)
    unfold tkC at this
    rw [e] at this
    dsimp only at this
    rw [e2] at this
    dsimp only at this
    rw [Bool.and_eq_true, decide_eq_true_iff] at this
    refine ⟨fun z => ?_, this.2⟩
    rw [z] at this
    exact absurd this.1 (by decide)
  · have hn := hA a n e
    have := h a (lt e) j (by omega)
    unfold tkC at this
    rw [e] at this
    dsimp only at this
    have hb : Nat.blt j n = true := by
      show Nat.ble (j + 1) n = true
      exact Nat.ble_eq_true_of_le hj
    rw [hb, Bool.or_eq_true, Bool.or_eq_true, Bool.and_eq_true, decide_eq_true_iff] at this
    rcases this with q | q | q
    · exact absurd q (by decide)
    · exact absurd q (by decide)
    · refine ⟨fun z => ?_, q.2⟩
      rw [z] at q
      exact absurd q.1 (by decide)
theorem GM_none {a : Nat} (h : 33 ≤ a) : am_GM a = none := by
  match a, h with
  | 0, h => omega
  | k + 1, h => exact List.getElem?_eq_none (show 32 ≤ k by omega)
set_option maxRecDepth 100000 in
theorem tkC_C : ∀ a, a < 49 → ∀ k, k < 50 → tkC am_GC rC a k = true := by decide +kernel
set_option maxRecDepth 100000 in
theorem tkC_M : ∀ a, a < 33 → ∀ k, k < 50 → tkC am_GM rM a k = true := by decide +kernel
set_option maxRecDepth 100000 in
theorem arr3 : ∀ a, a < 49 → (match am_GC a with | some (.inr (t, n)) => !(t == 3) || Nat.ble n 50 | _ => true) = true := by decide +kernel
set_option maxRecDepth 100000 in
theorem arr3M : ∀ a, a < 33 → (match am_GM a with | some (.inr (t, n)) => !(t == 3) || Nat.ble n 50 | _ => true) = true := by decide +kernel
set_option maxRecDepth 100000 in
theorem no10 : ∀ a, a < 33 → (match am_GM a with | some (.inl c) => !(c == 10) | _ => true) = true := by decide +kernel
set_option maxRecDepth 100000 in
theorem only10 : ∀ a, a < 49 → (match am_GC a with | some (.inl c) => !(c == 10) || (a == 1) | _ => true) = true := by decide +kernel
theorem T_C : am_T am_GC rC := by
  have lt : ∀ {a : Nat} {sh : am_Sh}, am_GC a = some sh → a < 49 := fun {a sh} e => Nat.lt_of_not_le fun q => by rw [GC_none q] at e; cases e
  refine tk_of (fun a => GC_none) (fun a n e => ?_) tkC_C (fun a e => ?_)
  · have := arr3 a (lt e)
    rw [e] at this
    have : Nat.ble n 50 = true := this
    exact Nat.le_of_ble_eq_true this
  · have := only10 a (lt e)
    rw [e] at this
    have : (a == 1) = true := this
    have : a = 1 := by simpa using this
    subst this
    exact Or.inl rfl
theorem T_M : am_T am_GM rM := by
  have lt : ∀ {a : Nat} {sh : am_Sh}, am_GM a = some sh → a < 33 := fun {a sh} e => Nat.lt_of_not_le fun q => by rw [GM_none q] at e; cases e
  refine tk_of (fun a => GM_none) (fun a n e => ?_) tkC_M (fun a e => ?_)
  · have := arr3M a (lt e)
    rw [e] at this
    have : Nat.ble n 50 = true := this
    exact Nat.le_of_ble_eq_true this
  · have := no10 a (lt e)
    rw [e] at this
    cases this
end
