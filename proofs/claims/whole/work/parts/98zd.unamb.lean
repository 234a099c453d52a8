/-! results are unambiguous -/
section
variable {A : am_Au}
theorem btl_ge (x : Int64) {k : Nat} (h : 64 ≤ k) : btl x k = false := by
  unfold btl
  exact BitVec.getLsbD_of_ge _ _ h
theorem sum_le1 (f : Nat → Nat) : ∀ n, (∀ i, i < n → f i ≤ 1) → (∀ i j, i < n → j < n → 1 ≤ f i → 1 ≤ f j → i = j) → sumN f n ≤ 1
  | 0, _, _ => Nat.zero_le _
  | n + 1, h1, h2 => by
    rw [sumN_s]
    have ih := sum_le1 f n (fun i hi => h1 i (by omega)) (fun i j hi hj => h2 i j (by omega) (by omega))
    by_cases q : 1 ≤ f n
    · have h0 : ¬ 1 ≤ sumN f n := fun h => by
        obtain ⟨i, hi, g⟩ := (sum1 _).mp h
        have := h2 i n (by omega) (by omega) g q
        omega
      have := h1 n (by omega)
      omega
    · omega
theorem unambR {r : am_Rs} {al : Nat → Prop} {cf : Nat → Nat → Prop}
    (h1 : ∀ t t', t < r.1 → t' < r.1 → btl r.2.1 t = true → btl r.2.1 t' = true → t ≠ t' → cf t t')
    (h2 : ∀ s t a, a < 3 → s < r.1 → btl (r.2.2.2 s a) t = true → al t → al s)
    (h3 : ∀ s s' t a, a < 3 → s < r.1 → s' < r.1 → s ≠ s' → cf s s' → btl (r.2.2.2 s a) t = true → btl (r.2.2.2 s' a) t = true → ¬ al t)
    (h4 : ∀ s s' t t' a, a < 3 → s < r.1 → s' < r.1 → t < r.1 → t' < r.1 → t ≠ t' → (s = s' ∨ cf s s') → btl (r.2.2.2 s a) t = true → btl (r.2.2.2 s' a) t' = true → cf t t')
    (h5 : ∀ t, t < r.1 → btl r.2.2.1 t = true → al t)
    (h6 : ∀ t t', t < r.1 → t' < r.1 → btl r.2.2.1 t = true → btl r.2.2.1 t' = true → t ≠ t' → ¬ cf t t') (c : Nat → Nat) (hc : ∀ j, c j < 3) (n : Nat) : rsF r c n ≤ 1 := by
  have key : ∀ n, (∀ t, t < r.1 → al t → rsP r c n t ≤ 1) ∧ ∀ t t', t < r.1 → t' < r.1 → t ≠ t' → al t → al t' → 1 ≤ rsP r c n t → 1 ≤ rsP r c n t' → cf t t' := by
    intro n
    induction n with
    | zero =>
      have v : ∀ t, rsP r c 0 t = if btl r.2.1 t = true then 1 else 0 := fun _ => rfl
      have p : ∀ t, 1 ≤ rsP r c 0 t → btl r.2.1 t = true := fun t ht => by
        rw [v] at ht
        by_cases q : btl r.2.1 t = true
        · exact q
        · rw [if_neg q] at ht; omega
      refine ⟨fun t _ _ => ?_, fun t t' a b d _ _ e f => h1 t t' a b (p t e) (p t' f) d⟩
      rw [v]
      by_cases q : btl r.2.1 t = true
      · rw [if_pos q]; exact Nat.le_refl _
      · rw [if_neg q]; exact Nat.zero_le _
    | succ n ih =>
      obtain ⟨i1, i2⟩ := ih
      have v : ∀ t, rsP r c (n + 1) t = sumN (fun s => if btl (r.2.2.2 s (c n)) t = true then rsP r c n s else 0) r.1 := fun _ => rfl
      have p : ∀ t s, 1 ≤ (if btl (r.2.2.2 s (c n)) t = true then rsP r c n s else 0) → btl (r.2.2.2 s (c n)) t = true ∧ 1 ≤ rsP r c n s := fun t s h => by
        by_cases q : btl (r.2.2.2 s (c n)) t = true
        · rw [if_pos q] at h; exact ⟨q, h⟩
        · rw [if_neg q] at h; omega
      refine ⟨fun t ht hal => ?_, fun t t' ht ht' hne hal hal' e f => ?_⟩
      · rw [v]
        refine sum_le1 _ _ (fun s hs => ?_) (fun s s' hs hs' e f => ?_)
        · by_cases q : btl (r.2.2.2 s (c n)) t = true
          · show (if btl (r.2.2.2 s (c n)) t = true then rsP r c n s else 0) ≤ 1
            rw [if_pos q]
            exact i1 s hs (h2 s t _ (hc n) hs q hal)
          · show (if btl (r.2.2.2 s (c n)) t = true then rsP r c n s else 0) ≤ 1
            rw [if_neg q]
            exact Nat.zero_le _
        · obtain ⟨a1, a2⟩ := p t s e
          obtain ⟨b1, b2⟩ := p t s' f
          apply Classical.byContradiction
          intro hss
          exact h3 s s' t _ (hc n) hs hs' hss (i2 s s' hs hs' hss (h2 s t _ (hc n) hs a1 hal) (h2 s' t _ (hc n) hs' b1 hal) a2 b2) a1 b1 hal
      · rw [v] at e f
        obtain ⟨s, hs, e⟩ := (sum1 _).mp e
        obtain ⟨s', hs', f⟩ := (sum1 _).mp f
        obtain ⟨a1, a2⟩ := p t s e
        obtain ⟨b1, b2⟩ := p t' s' f
        refine h4 s s' t t' _ (hc n) hs hs' ht ht' hne ?_ a1 b1
        by_cases hss : s = s'
        · exact Or.inl hss
        · exact Or.inr (i2 s s' hs hs' hss (h2 s t _ (hc n) hs a1 hal) (h2 s' t' _ (hc n) hs' b1 hal') a2 b2)
  obtain ⟨i1, i2⟩ := key n
  show sumN (fun s => if btl r.2.2.1 s = true then rsP r c n s else 0) r.1 ≤ 1
  have p : ∀ s, 1 ≤ (if btl r.2.2.1 s = true then rsP r c n s else 0) → btl r.2.2.1 s = true ∧ 1 ≤ rsP r c n s := fun s h => by
    by_cases q : btl r.2.2.1 s = true
    · rw [if_pos q] at h; exact ⟨q, h⟩
    · rw [if_neg q] at h; omega
  refine sum_le1 _ _ (fun s hs => ?_) (fun s s' hs hs' e f => ?_)
  · show (if btl r.2.2.1 s = true then rsP r c n s else 0) ≤ 1
    by_cases q : btl r.2.2.1 s = true
    · rw [if_pos q]; exact i1 s hs (h5 s hs q)
    · rw [if_neg q]; exact Nat.zero_le _
  · obtain ⟨a1, a2⟩ := p s e
    obtain ⟨b1, b2⟩ := p s' f
    apply Classical.byContradiction
    intro hss
    exact h6 s s' hs hs' a1 b1 hss (i2 s s' hs hs' hss (h5 s hs a1) (h5 s' hs' b1) a2 b2)
def rsOf (c : Nat) (A : am_Au) (ini : Int64) (B : am_Bd) : am_Rs := (B.1.1, ini, fns c A B.1, fun s a => if s < B.1.1 ∧ a < 3 then B.2 (3 * s + a) else 0)
theorem btl_fold (f : Nat → Bool) : ∀ n, n ≤ 64 → ∀ j, j < 64 → (btl (am_to (fun k v => v ||| (if f k = true then bit1 k else 0)) n 0) j = true ↔ j < n ∧ f j = true)
  | 0, _, j, _ => by
    show btl 0 j = true ↔ _
    rw [btl_zero]
    exact ⟨fun h => (by cases h), fun h => absurd h.1 (Nat.not_lt_zero j)⟩
  | n + 1, hn, j, hj => by
    show btl (am_to (fun k v => v ||| (if f k = true then bit1 k else 0)) n 0 ||| (if f n = true then bit1 n else 0)) j = true ↔ _
    rw [btl_or, Bool.or_eq_true, btl_fold f n (by omega) j hj]
    by_cases q : f n = true
    · rw [if_pos q, btl_bit1 (show n < 64 by omega) hj, decide_eq_true_iff]
      constructor
      · rintro (⟨a, b⟩ | rfl)
        · exact ⟨by omega, b⟩
        · exact ⟨by omega, q⟩
      · rintro ⟨a, b⟩
        by_cases g : j = n
        · exact Or.inr g
        · exact Or.inl ⟨by omega, b⟩
    · rw [if_neg q, btl_zero]
      constructor
      · rintro (⟨a, b⟩ | h)
        · exact ⟨by omega, b⟩
        · cases h
      · rintro ⟨a, b⟩
        refine Or.inl ⟨?_, b⟩
        by_cases g : j = n
        · subst g; exact absurd b q
        · omega
theorem btl_fns {c : Nat} {S : am_Kt} (h : S.1 ≤ 64) {j : Nat} (hj : j < 64) : btl (fns c A S) j = true ↔ j < S.1 ∧ fkey c A (S.2 j) = true := btl_fold (fun k => fkey c A (S.2 k)) S.1 h j hj
theorem btl_lt {x : Int64} {j : Nat} (h : btl x j = true) : j < 64 := Nat.lt_of_not_le fun q => by rw [btl_ge x q] at h; cases h
theorem in_stp {x : Int32} {a s t : Nat} (hw : aw A) (h : bt x s = true) (g : bt (A.2.2.2 a s) t = true) : bt (stp A x a) t = true := bt_stp.mpr ⟨s, (eF_lt hw g).1, h, g⟩
theorem rs_ok (hw : aw A) {c : Nat} {ini : Int64} {B : am_Bd} (hB : BIK c A B (3 * B.1.1)) (hi : covK B.1 (iniK c A) ini) : okRs (rsOf c A ini B) := by
  obtain ⟨ok, hT⟩ := hB
  have h64 := ok.2.1
  have tg : ∀ s a, s < B.1.1 → a < 3 → (rsOf c A ini B).2.2.2 s a = B.2 (3 * s + a) := fun s a hs ha => if_pos ⟨hs, ha⟩
  have tb : ∀ {s a t}, s < B.1.1 → a < 3 → btl ((rsOf c A ini B).2.2.2 s a) t = true → t < B.1.1 ∧ sucK c A (B.1.2 s) a (B.1.2 t) := fun {s a t} hs ha h => by
    have ht := btl_lt h
    rw [tg s a hs ha] at h
    exact ((hT s a ha (by omega)).2.1 t ht).mp h
  have ib : ∀ {t}, btl ini t = true → t < B.1.1 ∧ iniK c A (B.1.2 t) := fun {t} h => (hi.1 t (btl_lt h)).mp h
  have fb : ∀ {t}, btl (fns c A B.1) t = true → t < B.1.1 ∧ fkey c A (B.1.2 t) = true := fun {t} h => (btl_fns h64 (btl_lt h)).mp h
  have nf : ∀ {x : Int64} {t : Nat}, (btl x t = true → t < B.1.1) → B.1.1 ≤ t → btl x t = false := fun {x t} h g => by
    cases e : btl x t with
    | false => rfl
    | true =>
      have := h e
      omega
  refine ⟨h64, fun t ht => ⟨nf (fun h => (ib h).1) ht, nf (fun h => (fb h).1) ht⟩, fun s a t ht => ?_, fun cc n hc => ?_⟩
  · by_cases q : s < B.1.1 ∧ a < 3
    · exact nf (fun h => (tb q.1 q.2 h).1) ht
    · have : (rsOf c A ini B).2.2.2 s a = 0 := if_neg q
      rw [this, btl_zero]
  · by_cases hc0 : c = 0
    · refine unambR (al := fun _ => True) (cf := fun _ _ => False) ?_ (fun _ _ _ _ _ _ _ => trivial) (fun _ _ _ _ _ _ _ _ h => h.elim) ?_ (fun _ _ _ => trivial) (fun _ _ _ _ _ _ _ h => h) cc hc n
      · intro t t' ht ht' a b d
        have a := (ib a).2
        have b := (ib b).2
        unfold iniK at a b
        rw [if_pos hc0] at a b
        exact d (ok.1 t t' ht ht' (a.2.trans b.2.symm))
      · intro s s' t t' a ha hs hs' ht ht' d e x y
        have e : s = s' := e.resolve_right id
        subst e
        have x := (tb hs ha x).2
        have y := (tb hs ha y).2
        unfold sucK at x y
        rw [if_pos hc0] at x y
        exact d (ok.1 t t' ht ht' (x.2.trans y.2.symm))
    · have suc : ∀ {s a t}, s < B.1.1 → a < 3 → btl ((rsOf c A ini B).2.2.2 s a) t = true → t < B.1.1 ∧ bt (A.2.2.2 a (B.1.2 s).1) (B.1.2 t).1 = true ∧ (B.1.2 t).1 < 6 ∧ (B.1.2 t).2 = stp A (B.1.2 s).2 a ||| blw (A.2.2.2 a (B.1.2 s).1) (B.1.2 t).1 := fun {s a t} hs ha h => by
        obtain ⟨g1, g2⟩ := tb hs ha h
        unfold sucK at g2
        rw [if_neg hc0] at g2
        obtain ⟨r, hr, hb, e⟩ := g2
        rw [e]
        exact ⟨g1, hb, hr, rfl⟩
      have inl : ∀ {s a t}, s < B.1.1 → a < 3 → btl ((rsOf c A ini B).2.2.2 s a) t = true → ∀ {u v}, bt (B.1.2 s).2 u = true → bt (A.2.2.2 a u) v = true → bt (B.1.2 t).2 v = true := fun {s a t} hs ha h {u v} hu hv => by
        rw [(suc hs ha h).2.2.2, bt_or, Bool.or_eq_true]
        exact Or.inl (in_stp hw hu hv)
      have keq : ∀ {t t'}, t < B.1.1 → t' < B.1.1 → (B.1.2 t).1 = (B.1.2 t').1 → (B.1.2 t).2 = (B.1.2 t').2 → t = t' := fun {t t'} ht ht' a b => ok.1 t t' ht ht' (Prod.ext a b)
      refine unambR (al := fun t => bt (B.1.2 t).2 (B.1.2 t).1 = false) (cf := fun t t' => bt (B.1.2 t').2 (B.1.2 t).1 = true ∨ bt (B.1.2 t).2 (B.1.2 t').1 = true) ?_ ?_ ?_ ?_ ?_ ?_ cc hc n
      · intro t t' ht ht' a b d
        have a := (ib a).2
        have b := (ib b).2
        unfold iniK at a b
        rw [if_neg hc0] at a b
        obtain ⟨r, hr, hb, e⟩ := a
        obtain ⟨r', hr', hb', e'⟩ := b
        rw [e, e']
        rcases Nat.lt_trichotomy r r' with g | g | g
        · left
          show bt (0 ||| blw A.2.1 r') r = true
          rw [bt_or, Bool.or_eq_true]
          exact Or.inr ((bt_blw hr').mpr ⟨hb, g⟩)
        · subst g
          exact absurd (ok.1 t t' ht ht' (e.trans e'.symm)) d
        · right
          show bt (0 ||| blw A.2.1 r) r' = true
          rw [bt_or, Bool.or_eq_true]
          exact Or.inr ((bt_blw hr).mpr ⟨hb', g⟩)
      · intro s t a ha hs h hal
        cases e : bt (B.1.2 s).2 (B.1.2 s).1 with
        | false => rfl
        | true =>
          have := inl hs ha h e (suc hs ha h).2.1
          rw [this] at hal
          cases hal
      · intro s s' t a ha hs hs' hne hcf h h' hal
        rcases hcf with g | g
        · have := inl hs' ha h' g (suc hs ha h).2.1
          rw [this] at hal
          cases hal
        · have := inl hs ha h g (suc hs' ha h').2.1
          rw [this] at hal
          cases hal
      · intro s s' t t' a ha hs hs' ht ht' hne hss h h'
        obtain ⟨_, x2, x3, x4⟩ := suc hs ha h
        obtain ⟨_, y2, y3, y4⟩ := suc hs' ha h'
        rcases hss with rfl | g | g
        · rcases Nat.lt_trichotomy (B.1.2 t).1 (B.1.2 t').1 with q | q | q
          · left
            rw [y4, bt_or, Bool.or_eq_true]
            exact Or.inr ((bt_blw y3).mpr ⟨x2, q⟩)
          · exact absurd (keq ht ht' q (by rw [x4, y4, q])) hne
          · right
            rw [x4, bt_or, Bool.or_eq_true]
            exact Or.inr ((bt_blw x3).mpr ⟨y2, q⟩)
        · exact Or.inl (inl hs' ha h' g x2)
        · exact Or.inr (inl hs ha h g y2)
      · intro t ht h
        have h := (fb h).2
        unfold fkey at h
        rw [if_neg hc0, Bool.and_eq_true, decide_eq_true_iff] at h
        cases e : bt (B.1.2 t).2 (B.1.2 t).1 with
        | false => rfl
        | true =>
          have : bt ((B.1.2 t).2 &&& A.2.2.1) (B.1.2 t).1 = true := by rw [bt_and, e, h.1]; rfl
          rw [h.2, bt_zero] at this
          cases this
      · intro t t' ht ht' h h' hne hcf
        have h := (fb h).2
        have h' := (fb h').2
        unfold fkey at h h'
        rw [if_neg hc0, Bool.and_eq_true, decide_eq_true_iff] at h h'
        rcases hcf with g | g
        · have : bt ((B.1.2 t').2 &&& A.2.2.1) (B.1.2 t).1 = true := by rw [bt_and, g, h.1]; rfl
          rw [h'.2, bt_zero] at this
          cases this
        · have : bt ((B.1.2 t).2 &&& A.2.2.1) (B.1.2 t').1 = true := by rw [bt_and, g, h'.1]; rfl
          rw [h.2, bt_zero] at this
          cases this
end
