/-! chains of split pairs: how long they are -/
section
variable {A : am_Au}
/-- the states that q reaches -/
def rc (A : am_Au) (q : Nat) : Int32 := cl A ((1 : Int32) <<< (nI q &&& 31))
/-- a chain of k + 1 split pairs ends in (p, q) -/
def CH (A : am_Au) : Nat → Nat → Nat → Prop
  | 0, p, q => isSpl A p q
  | k + 1, p, q => isSpl A p q ∧ ∃ p' q', CH A k p' q' ∧ bt (rc A q') p = true
theorem CH.spl : ∀ {k p q : Nat}, CH A k p q → isSpl A p q
  | 0, _, _, h => h
  | _ + 1, _, _, h => h.1
theorem lon_rc (hw : aw A) {q : Nat} (hq : q < A.1) : lon A.1 (rc A q) := fun k hk => by
  cases e : bt (rc A q) k with
  | false => rfl
  | true =>
    obtain ⟨u, _, g⟩ := (cl_reach hw hq k).mp e
    have := pn_lt hw u q k hq g
    omega
theorem rc_self (hw : aw A) {q : Nat} (hq : q < A.1) : bt (rc A q) q = true := (cl_reach hw hq q).mpr ⟨[], wdl_nil, by show 1 ≤ (if q = q then 1 else 0); rw [if_pos rfl]; exact Nat.le_refl _⟩
theorem rc_tr (hw : aw A) {q r s : Nat} (hq : q < A.1) (hr : r < A.1) (h : bt (rc A q) r = true) (g : bt (rc A r) s = true) : bt (rc A q) s = true := by
  obtain ⟨u, hu, a⟩ := (cl_reach hw hq r).mp h
  obtain ⟨v, hv, b⟩ := (cl_reach hw hr s).mp g
  exact (cl_reach hw hq s).mpr ⟨u ++ v, wdl_app hu hv, pn_via hw hq hr a b⟩
/-- behind a split pair fewer states are reached -/
theorem spl_lt (hw : aw A) (hno : ∀ s, ¬ isLop A s) {p q : Nat} (h : isSpl A p q) : pcn (rc A q) < pcn (rc A p) := by
  have h6 := hw.2.1
  have h' := h
  obtain ⟨_, hp, hq, _, _, v, hv, _, h2, _⟩ := h'
  have hpq : bt (rc A p) q = true := (cl_reach hw hp q).mpr ⟨v, hv, h2⟩
  refine pcn_lt (fun s hs => rc_tr hw hp hq hpq hs) ((lon_rc hw hp).le h6) (fun e => ?_)
  have := rc_self hw hp
  rw [← e] at this
  obtain ⟨u, hu, g⟩ := (cl_reach hw hq p).mp this
  exact hno p (spl_cyc hw h hu g)
theorem pcn_mono {x y : Int32} (hs : sb x y) (hy : lon 6 y) : pcn x ≤ pcn y := by
  by_cases e : x = y
  · rw [e]; exact Nat.le_refl _
  · exact Nat.le_of_lt (pcn_lt hs hy e)
theorem CH.bound (hw : aw A) (hno : ∀ s, ¬ isLop A s) : ∀ k p q, CH A k p q → pcn (rc A q) + (k + 1) ≤ A.1
  | 0, p, q, h => by
    have hp := h.2.1
    have h1 := spl_lt hw hno h
    have h2 := pcn_le hw.2.1 (lon_rc hw hp)
    omega
  | k + 1, p, q, ⟨h, p', q', hc, hb⟩ => by
    have ih := CH.bound hw hno k p' q' hc
    have hq' := hc.spl.2.2.1
    have h1 := spl_lt hw hno h
    have h2 : pcn (rc A p) ≤ pcn (rc A q') := pcn_mono (fun s hs => rc_tr hw hq' h.2.1 hb hs) ((lon_rc hw hq').le hw.2.1)
    omega
theorem pcn_pos {x : Int32} {s : Nat} (hs : s < 6) (h : bt x s = true) : 1 ≤ pcn x := by
  rw [pcn_sum, sum1]
  exact ⟨s, hs, tn1.mpr h⟩
/-- fewer pairs than states -/
theorem CH.len (hw : aw A) (hno : ∀ s, ¬ isLop A s) {k p q : Nat} (h : CH A k p q) : k + 2 ≤ A.1 := by
  have h1 := CH.bound hw hno k p q h
  have hq := h.spl.2.2.1
  have h2 := pcn_pos (show q < 6 by have := hw.2.1; omega) (rc_self hw hq)
  omega
end
