/-! chains of split pairs: none comes back without a loop state -/
section
variable {A : am_Au}
theorem pn_app (hw : aw A) : ∀ v u s t, s < A.1 → pn A (v ++ u) s t = sumN (fun r => pn A v s r * pn A u r t) A.1
  | [], u, s, t, hs => by
    show pn A u s t = sumN (fun r => (if s = r then 1 else 0) * pn A u r t) A.1
    rw [sumN_one (k := s) A.1 hs (fun i _ hi => by rw [if_neg (fun e => hi e.symm), Nat.zero_mul]), if_pos rfl, Nat.one_mul]
  | a :: v, u, s, t, hs => by
    show sumN (fun x => if bt (A.2.2.2 a s) x = true then pn A (v ++ u) x t else 0) A.1 = sumN (fun r => sumN (fun x => if bt (A.2.2.2 a s) x = true then pn A v x r else 0) A.1 * pn A u r t) A.1
    have e1 : ∀ x, x < A.1 → (if bt (A.2.2.2 a s) x = true then pn A (v ++ u) x t else 0) = sumN (fun r => (if bt (A.2.2.2 a s) x = true then pn A v x r else 0) * pn A u r t) A.1 := fun x hx => by
      by_cases h : bt (A.2.2.2 a s) x = true
      · rw [if_pos h, pn_app hw v u x t hx]
        exact sumN_congr _ fun r _ => by rw [if_pos h]
      · rw [if_neg h]
        refine Eq.symm (Eq.trans (sumN_congr (g := fun _ => 0) A.1 fun r _ => ?_) (sumN_zero A.1))
        rw [if_neg h, Nat.zero_mul]
    rw [sumN_congr A.1 e1, sumN_swap]
    exact sumN_congr _ fun r _ => by rw [← sumN_mulr]
theorem wdl_app {v u : List Nat} (h : wdl v) (g : wdl u) : wdl (v ++ u) := fun a ha => (List.mem_append.mp ha).elim (h a) (g a)
theorem pn_via (hw : aw A) {v u : List Nat} {s r t : Nat} (hs : s < A.1) (hr : r < A.1) (h1 : 1 ≤ pn A v s r) (h2 : 1 ≤ pn A u r t) : 1 ≤ pn A (v ++ u) s t := by
  rw [pn_app hw v u s t hs, sum1]
  exact ⟨r, hr, Nat.mul_le_mul h1 h2⟩
/-- a split pair whose second state leads back to the first makes a loop state -/
theorem spl_cyc (hw : aw A) {p q : Nat} (h : isSpl A p q) {u : List Nat} (hu : wdl u) (hr : 1 ≤ pn A u q p) : isLop A p := by
  obtain ⟨hne, hp, hq, up, _, v, hv, h1, h2, h3⟩ := h
  refine ⟨hp, up, v ++ (v ++ u), wdl_app hv (wdl_app hv hu), ?_⟩
  rw [pn_app hw v (v ++ u) p p hp]
  have e1 : 1 ≤ pn A v p p * pn A (v ++ u) p p := Nat.mul_le_mul h1 (pn_via hw hp hq h2 hr)
  have e2 : 1 ≤ pn A v p q * pn A (v ++ u) q p := Nat.mul_le_mul h2 (pn_via hw hq hq h3 hr)
  have := sumN_ge2 (f := fun r => pn A v p r * pn A (v ++ u) r p) hne A.1 hp hq
  omega
/-- a set with given bits -/
theorem ex_set (P : Nat → Prop) : ∃ x : Int32, ∀ k, bt x k = true ↔ k < 6 ∧ P k := by
  refine ⟨am_to (fun s y => y ||| (if dcd (P s) = true then (1 : Int32) <<< (nI s &&& 31) else 0)) 6 0, fun k => ?_⟩
  rw [bt_to_or (fun s => if dcd (P s) = true then (1 : Int32) <<< (nI s &&& 31) else 0)]
  constructor
  · rintro (h | ⟨s, hs, h⟩)
    · rw [bt_zero] at h; cases h
    · by_cases g : dcd (P s) = true
      · rw [if_pos g, bt_1s (by omega)] at h
        have e : k = s := of_decide_eq_true h
        rw [e]; exact ⟨hs, dcd_t.mp g⟩
      · rw [if_neg g, bt_zero] at h; cases h
  · rintro ⟨h1, h2⟩
    exact Or.inr ⟨k, h1, by rw [if_pos (dcd_pos h2), bt_1s (by omega)]; exact decide_eq_true rfl⟩
theorem pn_lt (hw : aw A) : ∀ w s t, s < A.1 → 1 ≤ pn A w s t → t < A.1
  | [], s, t, hs, h => by
    have h : 1 ≤ (if s = t then 1 else 0) := h
    by_cases e : s = t
    · rw [← e]; exact hs
    · rw [if_neg e] at h; omega
  | a :: w, s, t, hs, h => by
    have h : 1 ≤ sumN (fun u => if bt (A.2.2.2 a s) u = true then pn A w u t else 0) A.1 := h
    obtain ⟨u, hu, g⟩ := (sum1 A.1).mp h
    exact pn_lt hw w u t hu ((ite1 (Nat.le_refl 1)).mp g).2
/-- what a state reaches -/
theorem cl_reach (hw : aw A) {q : Nat} (hq : q < A.1) (s : Nat) : bt (cl A ((1 : Int32) <<< (nI q &&& 31))) s = true ↔ ∃ u, wdl u ∧ 1 ≤ pn A u q s := by
  have h6 := hw.2.1
  have hl : lon A.1 ((1 : Int32) <<< (nI q &&& 31)) := fun k hk => by
    rw [bt_1s (by omega)]
    exact decide_eq_false (by omega)
  obtain ⟨c1, c2, c3⟩ := clo_cl hw hl
  constructor
  · intro h
    obtain ⟨Z, hZ⟩ := ex_set (fun s => ∃ u, wdl u ∧ 1 ≤ pn A u q s)
    have := c3 Z (fun k hk => by
      rw [bt_1s (by omega)] at hk
      have e : k = q := of_decide_eq_true hk
      subst e
      exact (hZ k).mpr ⟨by omega, [], wdl_nil, by show 1 ≤ (if k = k then 1 else 0); rw [if_pos rfl]; exact Nat.le_refl _⟩) (fun a r ha hr hb t ht => by
      obtain ⟨_, u, hu, g⟩ := (hZ r).mp hb
      have hrA := pn_lt hw u q r hq g
      have htA : t < A.1 := Nat.lt_of_not_le fun c => T_out hw (Or.inr c) ht
      refine (hZ t).mpr ⟨by omega, u ++ [a], wdl_snoc.mpr ⟨hu, ha⟩, pn_via hw hq hrA g ?_⟩
      show 1 ≤ sumN (fun x => if bt (A.2.2.2 a r) x = true then pn A [] x t else 0) A.1
      rw [sum1]
      refine ⟨t, htA, (ite1 (Nat.le_refl 1)).mpr ⟨ht, ?_⟩⟩
      show 1 ≤ (if t = t then 1 else 0)
      rw [if_pos rfl]; exact Nat.le_refl _)
    exact ((hZ s).mp (this s h)).2
  · rintro ⟨u, hu, g⟩
    have hq' : bt (cl A ((1 : Int32) <<< (nI q &&& 31))) q = true := c1 q (by rw [bt_1s (by omega)]; exact decide_eq_true rfl)
    have key : ∀ u r, wdl u → r < A.1 → bt (cl A ((1 : Int32) <<< (nI q &&& 31))) r = true → 1 ≤ pn A u r s → bt (cl A ((1 : Int32) <<< (nI q &&& 31))) s = true := by
      intro u
      induction u with
      | nil =>
        intro r _ _ hb h
        have h : 1 ≤ (if r = s then 1 else 0) := h
        by_cases e : r = s
        · rw [← e]; exact hb
        · rw [if_neg e] at h; omega
      | cons a u ih =>
        intro r hw2 hr hb h
        obtain ⟨ha, hu⟩ := wdl_cons.mp hw2
        have h : 1 ≤ sumN (fun x => if bt (A.2.2.2 a r) x = true then pn A u x s else 0) A.1 := h
        obtain ⟨x, hx, g⟩ := (sum1 A.1).mp h
        obtain ⟨g1, g2⟩ := (ite1 (Nat.le_refl 1)).mp g
        exact ih x hu hx (c2 a r ha (by omega) hb x g1) g2
    exact key u q hu hq hq' g
end
