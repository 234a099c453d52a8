/-! a search by words in their order: shorter words first -/
def sle (w v : List Nat) : Prop := w.length < v.length ∨ (w.length = v.length ∧ lle w v)
theorem lle_rf : ∀ w, lle w w
  | [] => trivial
  | _ :: w => Or.inr ⟨rfl, lle_rf w⟩
theorem lle_tr : ∀ w v u, lle w v → lle v u → w.length = v.length → v.length = u.length → lle w u
  | [], _, _, _, _, _, _ => trivial
  | _ :: _, [], _, _, _, e, _ => by cases e
  | _ :: _, _ :: _, [], _, _, _, e => by cases e
  | a :: w, b :: v, c :: u, h, g, e1, e2 => by
    rcases h with h | ⟨rfl, h⟩
    · rcases g with g | ⟨rfl, g⟩
      · exact Or.inl (Nat.lt_trans h g)
      · exact Or.inl h
    · rcases g with g | ⟨rfl, g⟩
      · exact Or.inl g
      · exact Or.inr ⟨rfl, lle_tr w v u h g (Nat.succ.inj e1) (Nat.succ.inj e2)⟩
theorem sle_rf (w : List Nat) : sle w w := Or.inr ⟨rfl, lle_rf w⟩
theorem sle_tr {w v u : List Nat} (h : sle w v) (g : sle v u) : sle w u := by
  rcases h with h | ⟨h1, h2⟩
  · rcases g with g | ⟨g1, _⟩
    · exact Or.inl (Nat.lt_trans h g)
    · exact Or.inl (by omega)
  · rcases g with g | ⟨g1, g2⟩
    · exact Or.inl (by omega)
    · exact Or.inr ⟨by omega, lle_tr w v u h2 g2 h1 g1⟩
theorem lle_snoc {a b : Nat} : ∀ w v, w.length = v.length → lle w v → (w = v → a ≤ b) → lle (w ++ [a]) (v ++ [b])
  | [], [], _, _, h => by
    have := h rfl
    rcases Nat.lt_or_ge a b with c | c
    · exact Or.inl c
    · exact Or.inr ⟨Nat.le_antisymm this c, trivial⟩
  | [], _ :: _, e, _, _ => by cases e
  | _ :: _, [], e, _, _ => by cases e
  | x :: w, y :: v, e, h, g => by
    rcases h with h | ⟨rfl, h⟩
    · exact Or.inl h
    · exact Or.inr ⟨rfl, lle_snoc w v (Nat.succ.inj e) h (fun z => g (by rw [z]))⟩
theorem len_snoc (w : List Nat) (a : Nat) : (w ++ [a]).length = w.length + 1 := by rw [List.length_append]; rfl
theorem sle_snoc {w v : List Nat} {a b : Nat} (h : sle w v) (g : w = v → a ≤ b) : sle (w ++ [a]) (v ++ [b]) := by
  unfold sle
  rw [len_snoc, len_snoc]
  rcases h with h | ⟨h1, h2⟩
  · exact Or.inl (by omega)
  · exact Or.inr ⟨by omega, lle_snoc w v h1 h2 g⟩
theorem sle_app {w v : List Nat} {b : Nat} (h : sle w v) : sle w (v ++ [b]) := by
  unfold sle
  rw [len_snoc]
  rcases h with h | ⟨h, _⟩
  · exact Or.inl (by omega)
  · exact Or.inl (by omega)
theorem snoc_of : ∀ w : List Nat, w = [] ∨ ∃ u a, w = u ++ [a]
  | [] => Or.inl rfl
  | a :: w => by
    rcases snoc_of w with rfl | ⟨u, b, rfl⟩
    · exact Or.inr ⟨[], a, rfl⟩
    · exact Or.inr ⟨a :: u, b, rfl⟩
/-- where a word leads -/
def rn (nx : Nat → Nat → Nat) : Nat → List Nat → Nat
  | z, [] => z
  | z, a :: w => rn nx (nx a z) w
theorem rn_snoc (nx : Nat → Nat → Nat) (a : Nat) : ∀ w z, rn nx z (w ++ [a]) = nx a (rn nx z w)
  | [], _ => rfl
  | b :: w, z => rn_snoc nx a w (nx b z)
theorem wdl_snoc {w : List Nat} {a : Nat} : wdl (w ++ [a]) ↔ wdl w ∧ a < 3 := by
  constructor
  · intro h
    exact ⟨fun b hb => h b (List.mem_append_left _ hb), h a (List.mem_append_right _ List.mem_cons_self)⟩
  · rintro ⟨h1, h2⟩ b hb
    rcases List.mem_append.mp hb with hb | hb
    · exact h1 b hb
    · rcases List.mem_cons.mp hb with rfl | hb
      · exact h2
      · cases hb
def updW (f : Nat → List Nat) (k : Nat) (v : List Nat) : Nat → List Nat := fun j => if j = k then v else f j
theorem updW_s (f : Nat → List Nat) (k : Nat) (v : List Nat) : updW f k v k = v := if_pos rfl
theorem updW_o {f : Nat → List Nat} {k j : Nat} {v : List Nat} (h : j ≠ k) : updW f k v j = f j := if_neg h
theorem updB_s (f : Nat → Bool) (k : Nat) : updB f k k = true := if_pos rfl
theorem updB_o {f : Nat → Bool} {k j : Nat} (h : j ≠ k) : updB f k j = f j := if_neg h
/-- m nodes q stand, met are those; parents pr, letters lt, words W; node k is gone on from by the letters below a -/
def SI (nx : Nat → Nat → Nat) (z0 : Nat) (mt : Nat → Bool) (q pr lt : Nat → Nat) (W : Nat → List Nat) (m k a : Nat) : Prop :=
  (0 < m ∧ q 0 = z0 ∧ W 0 = [] ∧ pr 0 = 0 ∧ lt 0 = 0) ∧
  (∀ i, 0 < i → i < m → pr i < i ∧ lt i < 3 ∧ W i = W (pr i) ++ [lt i] ∧ (pr i < k ∨ (pr i = k ∧ lt i < a))) ∧
  (∀ i, i < m → rn nx z0 (W i) = q i ∧ wdl (W i) ∧ q i < 4096) ∧
  (∀ i i', i < i' → i' < m → sle (W i) (W i') ∧ q i ≠ q i') ∧
  (∀ j b, b < 3 → (j < k ∨ (j = k ∧ b < a)) → ∃ i, i < m ∧ q i = nx b (q j) ∧ sle (W i) (W j ++ [b])) ∧
  (∀ z, z < 4096 → (mt z = true ↔ ∃ i, i < m ∧ q i = z)) ∧
  m = sumN (fun z => if mt z = true then 1 else 0) 4096 ∧ k ≤ m
theorem SI.init (nx : Nat → Nat → Nat) {z0 : Nat} (hz : z0 < 4096) : SI nx z0 (updB (fun _ => false) z0) (fun _ => z0) (fun _ => 0) (fun _ => 0) (fun _ => []) 1 0 0 := by
  refine ⟨⟨by omega, rfl, rfl, rfl, rfl⟩, fun i h1 h2 => by omega, fun i hi => ⟨rfl, wdl_nil, hz⟩, fun i i' h1 h2 => by omega, fun j b _ h => by omega, fun z _ => ?_, ?_, Nat.zero_le _⟩
  · by_cases e : z = z0
    · subst e
      rw [updB_s]
      exact ⟨fun _ => ⟨0, by omega, rfl⟩, fun _ => rfl⟩
    · rw [updB_o e]
      exact ⟨fun h => (by cases h), fun ⟨_, _, h⟩ => absurd h.symm e⟩
  · rw [sumN_one (k := z0) 4096 hz (fun i _ hi => by rw [updB_o hi]; rfl), updB_s]; rfl
section
variable {nx : Nat → Nat → Nat} {z0 : Nat} {mt : Nat → Bool} {q pr lt : Nat → Nat} {W : Nat → List Nat} {m k a : Nat}
theorem SI.le (h : SI nx z0 mt q pr lt W m k a) (hk : k < m) {i : Nat} (hi : i < m) : sle (W i) (W k ++ [a]) := by
  obtain ⟨h1, h2, h3, h4, h5, h6, h7, h8⟩ := h
  by_cases c : i ≤ k
  · refine sle_app ?_
    by_cases e : i = k
    · rw [e]; exact sle_rf _
    · exact (h4 i k (by omega) hk).1
  · obtain ⟨p1, p2, p3, p4⟩ := h2 i (by omega) hi
    rw [p3]
    rcases p4 with p4 | ⟨p4, p5⟩
    · refine sle_snoc (h4 (pr i) k p4 hk).1 (fun e => ?_)
      exfalso
      refine (h4 (pr i) k p4 hk).2 ?_
      rw [← (h3 (pr i) (by omega)).1, ← (h3 k hk).1, e]
    · rw [p4]
      exact sle_snoc (sle_rf _) (fun _ => by omega)
theorem SI.old (h : SI nx z0 mt q pr lt W m k a) (hk : k < m) (hz : nx a (q k) < 4096) (hm : mt (nx a (q k)) = true) : SI nx z0 mt q pr lt W m k (a + 1) := by
  have hle : ∀ i, i < m → sle (W i) (W k ++ [a]) := fun i hi => h.le hk hi
  obtain ⟨h1, h2, h3, h4, h5, h6, h7, h8⟩ := h
  refine ⟨h1, fun i x y => ?_, h3, h4, fun j b hb hj => ?_, h6, h7, h8⟩
  · obtain ⟨p1, p2, p3, p4⟩ := h2 i x y
    exact ⟨p1, p2, p3, by omega⟩
  · by_cases e : j = k ∧ b = a
    · obtain ⟨rfl, rfl⟩ := e
      obtain ⟨i, hi, g⟩ := (h6 _ hz).mp hm
      exact ⟨i, hi, g, hle i hi⟩
    · exact h5 j b hb (by omega)
theorem SI.m_le (h : SI nx z0 mt q pr lt W m k a) : m ≤ 4096 := by
  rw [h.2.2.2.2.2.2.1]
  have := sumN_le (f := fun z => if mt z = true then 1 else 0) (g := fun _ => 1) 4096 (fun z _ => by
    by_cases c : mt z = true
    · rw [if_pos c]; exact Nat.le_refl _
    · rw [if_neg c]; exact Nat.zero_le _)
  refine Nat.le_trans this ?_
  have : ∀ n, sumN (fun _ => 1) n = n := fun n => by
    induction n with
    | zero => rfl
    | succ n ih => rw [sumN_s, ih]
  rw [this]; exact Nat.le_refl _
theorem SI.new (h : SI nx z0 mt q pr lt W m k a) (hk : k < m) (ha : a < 3) (hz : nx a (q k) < 4096) (hm : mt (nx a (q k)) = false) :
    SI nx z0 (updB mt (nx a (q k))) (updN q m (nx a (q k))) (updN pr m k) (updN lt m a) (updW W m (W k ++ [a])) (m + 1) k (a + 1) ∧ m < 4096 := by
  have hle : ∀ i, i < m → sle (W i) (W k ++ [a]) := fun i hi => h.le hk hi
  obtain ⟨h1, h2, h3, h4, h5, h6, h7, h8⟩ := h
  have hs : sumN (fun z => if updB mt (nx a (q k)) z = true then 1 else 0) 4096 = m + 1 := by
    have e := sum_upd (f := fun z => if mt z = true then 1 else 0) (x := nx a (q k)) (v := 1) 4096 hz
    rw [hm, if_neg (by decide)] at e
    rw [← h7, Nat.add_zero] at e
    refine Eq.trans (sumN_congr (g := updN (fun z => if mt z = true then 1 else 0) (nx a (q k)) 1) 4096 fun z _ => ?_) e
    by_cases c : z = nx a (q k)
    · rw [c, updB_s, updN_s, if_pos rfl]
    · rw [updB_o c, updN_o c]
  have hfr : ∀ i, i < m → q i ≠ nx a (q k) := fun i hi e => by
    have := (h6 _ hz).mpr ⟨i, hi, e⟩
    rw [hm] at this; cases this
  have qo : ∀ i, i < m → updN q m (nx a (q k)) i = q i := fun i hi => updN_o (by omega)
  have po : ∀ i, i < m → updN pr m k i = pr i := fun i hi => updN_o (by omega)
  have lo : ∀ i, i < m → updN lt m a i = lt i := fun i hi => updN_o (by omega)
  have Wo : ∀ i, i < m → updW W m (W k ++ [a]) i = W i := fun i hi => updW_o (by omega)
  refine ⟨⟨⟨by omega, by rw [qo 0 h1.1]; exact h1.2.1, by rw [Wo 0 h1.1]; exact h1.2.2.1, by rw [po 0 h1.1]; exact h1.2.2.2.1, by rw [lo 0 h1.1]; exact h1.2.2.2.2⟩, fun i x y => ?_, fun i hi => ?_, fun i i' x y => ?_, fun j b hb hj => ?_, fun z hz' => ?_, hs.symm, by omega⟩, ?_⟩
  · by_cases e : i = m
    · subst e
      rw [updN_s, updN_s, updW_s, Wo k hk]
      exact ⟨hk, ha, rfl, by omega⟩
    · obtain ⟨p1, p2, p3, p4⟩ := h2 i x (by omega)
      rw [po i (by omega), lo i (by omega), Wo i (by omega), Wo (pr i) (by omega)]
      exact ⟨p1, p2, p3, by omega⟩
  · by_cases e : i = m
    · subst e
      rw [updW_s, updN_s, rn_snoc, (h3 k hk).1]
      exact ⟨rfl, wdl_snoc.mpr ⟨(h3 k hk).2.1, ha⟩, hz⟩
    · rw [Wo i (by omega), qo i (by omega)]; exact h3 i (by omega)
  · by_cases e : i' = m
    · subst e
      rw [updW_s, updN_s, Wo i x, qo i x]
      exact ⟨hle i x, hfr i x⟩
    · rw [Wo i (by omega), Wo i' (by omega), qo i (by omega), qo i' (by omega)]
      exact h4 i i' x (by omega)
  · have hjm : j < m := by omega
    rw [qo j hjm, Wo j hjm]
    by_cases e : j = k ∧ b = a
    · obtain ⟨rfl, rfl⟩ := e
      exact ⟨m, by omega, updN_s _ _ _, by rw [updW_s]; exact sle_rf _⟩
    · obtain ⟨i, hi, g1, g2⟩ := h5 j b hb (by omega)
      exact ⟨i, by omega, by rw [qo i hi]; exact g1, by rw [Wo i hi]; exact g2⟩
  · by_cases e : z = nx a (q k)
    · rw [e, updB_s]
      exact ⟨fun _ => ⟨m, by omega, updN_s _ _ _⟩, fun _ => rfl⟩
    · rw [updB_o e, h6 z hz']
      constructor
      · rintro ⟨i, hi, g⟩
        exact ⟨i, by omega, by rw [qo i hi]; exact g⟩
      · rintro ⟨i, hi, g⟩
        by_cases c : i = m
        · subst c
          rw [updN_s] at g
          exact absurd g.symm e
        · rw [qo i (by omega)] at g
          exact ⟨i, by omega, g⟩
  · have h9 := sumN_le (f := fun z => if updB mt (nx a (q k)) z = true then 1 else 0) (g := fun _ => 1) 4096 (fun z _ => by
      by_cases c : updB mt (nx a (q k)) z = true
      · rw [if_pos c]; exact Nat.le_refl _
      · rw [if_neg c]; exact Nat.zero_le _)
    have h10 : ∀ n, sumN (fun _ => 1) n = n := fun n => by
      induction n with
      | zero => rfl
      | succ n ih => rw [sumN_s, ih]
    rw [h10, hs] at h9
    omega
theorem SI.next (h : SI nx z0 mt q pr lt W m k 3) (hk : k < m) : SI nx z0 mt q pr lt W m (k + 1) 0 := by
  obtain ⟨h1, h2, h3, h4, h5, h6, h7, h8⟩ := h
  refine ⟨h1, fun i x y => ?_, h3, h4, fun j b hb hj => h5 j b hb (by omega), h6, h7, by omega⟩
  obtain ⟨p1, p2, p3, p4⟩ := h2 i x y
  exact ⟨p1, p2, p3, by omega⟩
/-- each word is gone through already, or a word before it isn't yet -/
theorem SI.cov (h : SI nx z0 mt q pr lt W m k 0) : ∀ n v, v.length = n → wdl v → (∃ i, i < k ∧ q i = rn nx z0 v ∧ sle (W i) v) ∨ ∃ i, k ≤ i ∧ i < m ∧ sle (W i) v := by
  obtain ⟨h1, h2, h3, h4, h5, h6, h7, h8⟩ := h
  intro n
  induction n with
  | zero =>
    intro v hl _
    have : v = [] := by
      cases v with
      | nil => rfl
      | cons a v => cases hl
    subst this
    by_cases hk : 0 < k
    · exact Or.inl ⟨0, hk, h1.2.1, by rw [h1.2.2.1]; exact sle_rf _⟩
    · exact Or.inr ⟨0, by omega, h1.1, by rw [h1.2.2.1]; exact sle_rf _⟩
  | succ n ih =>
    intro v hl hw
    rcases snoc_of v with rfl | ⟨u, b, rfl⟩
    · cases hl
    · obtain ⟨hu, hb⟩ := wdl_snoc.mp hw
      rw [len_snoc] at hl
      rcases ih u (by omega) hu with ⟨i, g1, g2, g3⟩ | ⟨i, g1, g2, g3⟩
      · obtain ⟨i', r1, r2, r3⟩ := h5 i b hb (Or.inl g1)
        have hs : sle (W i') (u ++ [b]) := sle_tr r3 (sle_snoc g3 (fun _ => Nat.le_refl _))
        by_cases c : i' < k
        · exact Or.inl ⟨i', c, by rw [rn_snoc, r2, g2], hs⟩
        · exact Or.inr ⟨i', by omega, r1, hs⟩
      · exact Or.inr ⟨i, g1, g2, sle_app g3⟩
theorem SI.found (h : SI nx z0 mt q pr lt W m k 0) (hk : k < m) {G : Nat → Prop} (hg : G (q k)) (hn : ∀ i, i < k → ¬ G (q i)) : isFst (fun v => wdl v ∧ G (rn nx z0 v)) (W k) := by
  refine ⟨⟨(h.2.2.1 k hk).2.1, by rw [(h.2.2.1 k hk).1]; exact hg⟩, fun v hv => ?_⟩
  show sle (W k) v
  rcases h.cov _ v rfl hv.1 with ⟨i, g1, g2, _⟩ | ⟨i, g1, g2, g3⟩
  · exact absurd (by rw [g2]; exact hv.2) (hn i g1)
  · by_cases e : k = i
    · rw [e]; exact g3
    · exact sle_tr (h.2.2.2.1 k i (by omega) g2).1 g3
theorem SI.none (h : SI nx z0 mt q pr lt W m m 0) {G : Nat → Prop} (hn : ∀ i, i < m → ¬ G (q i)) : ∀ v, wdl v → ¬ G (rn nx z0 v) := fun v hv hg => by
  rcases h.cov _ v rfl hv with ⟨i, g1, g2, _⟩ | ⟨i, g1, g2, _⟩
  · exact hn i g1 (by rw [g2]; exact hg)
  · omega
end
