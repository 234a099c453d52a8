/-! first words; graphs whose edges have letters -/
def lle : List Nat → List Nat → Prop
  | [], _ => True
  | _ :: _, [] => False
  | a :: w, b :: v => a < b ∨ (a = b ∧ lle w v)
theorem lle_anti : ∀ w v, lle w v → lle v w → w.length = v.length → w = v
  | [], [], _, _, _ => rfl
  | [], _ :: _, _, _, h => by cases h
  | _ :: _, [], h, _, _ => h.elim
  | a :: w, b :: v, h, g, e => by
    rcases h with h | ⟨rfl, h⟩
    · rcases g with g | ⟨g, _⟩
      · omega
      · omega
    · rcases g with g | ⟨_, g⟩
      · omega
      · rw [lle_anti w v h g (Nat.succ.inj e)]
/-- the first word with a property: the shortest, and of those the first -/
def isFst (G : List Nat → Prop) (w : List Nat) : Prop := G w ∧ ∀ v, G v → w.length < v.length ∨ (w.length = v.length ∧ lle w v)
theorem isFst.uniq {G : List Nat → Prop} {w v : List Nat} (h : isFst G w) (g : isFst G v) : w = v := by
  rcases h.2 v g.1 with a | ⟨a, b⟩
  · rcases g.2 w h.1 with c | ⟨c, _⟩ <;> omega
  · rcases g.2 w h.1 with c | ⟨_, d⟩
    · omega
    · exact lle_anti w v b d a
theorem isFst.congr {G G' : List Nat → Prop} (e : ∀ w, G w ↔ G' w) {w : List Nat} (h : isFst G w) : isFst G' w := ⟨(e w).mp h.1, fun v hv => h.2 v ((e v).mpr hv)⟩
theorem wdl_cons {a : Nat} {w : List Nat} : wdl (a :: w) ↔ a < 3 ∧ wdl w := by
  constructor
  · intro h
    exact ⟨h a List.mem_cons_self, fun b hb => h b (List.mem_cons_of_mem a hb)⟩
  · rintro ⟨h1, h2⟩ b hb
    rcases List.mem_cons.mp hb with rfl | hb
    · exact h1
    · exact h2 b hb
theorem wdl_nil : wdl [] := fun a h => by cases h
/-- words that lead from a node to an end -/
def acw (N : Nat) (ed : Nat → Nat → Nat → Prop) (F : Nat → Prop) : Nat → List Nat → Prop
  | x, [] => F x
  | x, a :: w => ∃ y, y < N ∧ ed a x y ∧ acw N ed F y w
def hasW (N : Nat) (ed : Nat → Nat → Nat → Prop) (F : Nat → Prop) (x n : Nat) : Prop := ∃ w, wdl w ∧ w.length = n ∧ acw N ed F x w
/-- d tells for each node the length of the shortest word that leads to an end, 1000 if there is none -/
def isDst (N : Nat) (ed : Nat → Nat → Nat → Prop) (F : Nat → Prop) (d : Nat → Nat) : Prop :=
  (∀ x, x < N → d x < 1000 → d x < N ∧ hasW N ed F x (d x)) ∧ ∀ x, x < N → ∀ w, wdl w → acw N ed F x w → d x ≤ w.length
/-- the search behind the ends, k nodes gone through -/
def BQ (N : Nat) (ed : Nat → Nat → Nat → Prop) (F : Nat → Prop) (d q : Nat → Nat) (m k : Nat) : Prop :=
  (∀ i, i < m → q i < N ∧ d (q i) < 1000 ∧ hasW N ed F (q i) (d (q i)) ∧ d (q i) ≤ i) ∧ (∀ x, x < N → d x < 1000 → ∃ i, i < m ∧ q i = x) ∧
  (∀ i i', i ≤ i' → i' < m → d (q i) ≤ d (q i')) ∧ (∀ i, i < m → k < m → d (q i) ≤ d (q k) + 1) ∧
  (∀ j, j < k → ∀ a, a < 3 → ∀ x, x < N → ed a x (q j) → d x ≤ d (q j) + 1) ∧ (∀ x, x < N → F x → d x = 0) ∧ m = sumN (fun x => if d x < 1000 then 1 else 0) N ∧ k ≤ m
theorem BQ.m_le {N : Nat} {ed : Nat → Nat → Nat → Prop} {F : Nat → Prop} {d q : Nat → Nat} {m k : Nat} (h : BQ N ed F d q m k) : m ≤ N := by
  rw [h.2.2.2.2.2.2.1]
  have := sumN_le (f := fun x => if d x < 1000 then 1 else 0) (g := fun _ => 1) N (fun x _ => by
    by_cases q : d x < 1000
    · rw [if_pos q]; exact Nat.le_refl _
    · rw [if_neg q]; exact Nat.zero_le _)
  refine Nat.le_trans this ?_
  have : ∀ n, sumN (fun _ => 1) n = n := fun n => by
    induction n with
    | zero => rfl
    | succ n ih => rw [sumN_s, ih]
  rw [this]; exact Nat.le_refl _
def updN (f : Nat → Nat) (k v : Nat) : Nat → Nat := fun j => if j = k then v else f j
theorem updN_s (f : Nat → Nat) (k v : Nat) : updN f k v k = v := if_pos rfl
theorem updN_o {f : Nat → Nat} {k v j : Nat} (h : j ≠ k) : updN f k v j = f j := if_neg h
theorem sum_upd {f : Nat → Nat} {x v : Nat} : ∀ n, x < n → sumN (updN f x v) n + f x = sumN f n + v
  | 0, h => absurd h (Nat.not_lt_zero x)
  | n + 1, h => by
    rw [sumN_s, sumN_s]
    by_cases q : x = n
    · subst q
      rw [updN_s, sumN_congr (g := f) x (fun i hi => updN_o (by omega))]; omega
    · have := sum_upd (f := f) (x := x) (v := v) n (by omega)
      rw [updN_o (show n ≠ x from fun e => q e.symm)]; omega
/-- a new node is reached -/
theorem BQ.reach {N : Nat} {ed : Nat → Nat → Nat → Prop} {F : Nat → Prop} {d q : Nat → Nat} {m k : Nat} (h : BQ N ed F d q m k) (hk : k < m) {x : Nat} (hx : x < N) (hN : N < 900) (hd : ¬ d x < 1000) (hw : hasW N ed F x (d (q k) + 1)) : BQ N ed F (updN d x (d (q k) + 1)) (updN q m x) (m + 1) k := by
  have hmN := h.m_le
  obtain ⟨h1, h2, h3, h4, h5, h6, h7, h8⟩ := h
  have hlt : d (q k) + 1 < 1000 := by have := (h1 k hk).2.2.2; omega
  have dq : ∀ i, i < m → updN d x (d (q k) + 1) (q i) = d (q i) := fun i hi => updN_o (fun e => hd (e ▸ (h1 i hi).2.1))
  have qi : ∀ i, i < m → updN q m x i = q i := fun i hi => updN_o (by omega)
  refine ⟨fun i hi => ?_, fun y hy hdy => ?_, fun i i' h9 hi' => ?_, fun i hi _ => ?_, fun j hj a ha y hy he => ?_, fun y hy hF => ?_, ?_, by omega⟩
  · by_cases e : i = m
    · subst e
      rw [updN_s, updN_s]
      exact ⟨hx, hlt, hw, by have := (h1 k hk).2.2.2; omega⟩
    · rw [qi i (by omega), dq i (by omega)]; exact h1 i (by omega)
  · by_cases e : y = x
    · exact ⟨m, by omega, by rw [updN_s]; exact e.symm⟩
    · rw [updN_o e] at hdy
      obtain ⟨i, hi, g⟩ := h2 y hy hdy
      exact ⟨i, by omega, by rw [qi i hi]; exact g⟩
  · by_cases e' : i' = m
    · subst e'
      rw [updN_s, updN_s]
      by_cases e : i = i'
      · subst e; rw [updN_s, updN_s]; exact Nat.le_refl _
      · rw [qi i (by omega), dq i (by omega)]; exact h4 i (by omega) hk
    · rw [qi i (by omega), qi i' (by omega), dq i (by omega), dq i' (by omega)]; exact h3 i i' h9 (by omega)
  · rw [qi k hk, dq k hk]
    by_cases e : i = m
    · subst e; rw [updN_s, updN_s]; exact Nat.le_refl _
    · rw [qi i (by omega), dq i (by omega)]; exact h4 i (by omega) hk
  · rw [qi j (by omega)] at he ⊢
    rw [dq j (by omega)]
    have := h5 j hj a ha y hy he
    by_cases e : y = x
    · subst e
      have := (h1 j (by omega)).2.2.2
      omega
    · rw [updN_o e]; exact this
  · have := h6 y hy hF
    have e : y ≠ x := fun e => by subst e; omega
    rw [updN_o e]; exact this
  · have hs : sumN (fun y => if updN d x (d (q k) + 1) y < 1000 then 1 else 0) N = sumN (updN (fun y => if d y < 1000 then 1 else 0) x 1) N := sumN_congr N fun y _ => by
      by_cases e : y = x
      · subst e; rw [updN_s, updN_s, if_pos hlt]
      · rw [updN_o e, updN_o e]
    have := sum_upd (f := fun y => if d y < 1000 then 1 else 0) (x := x) (v := 1) N hx
    rw [if_neg hd] at this
    rw [hs]; omega
/-- a node is gone through -/
theorem BQ.next {N : Nat} {ed : Nat → Nat → Nat → Prop} {F : Nat → Prop} {d q : Nat → Nat} {m k : Nat} (h : BQ N ed F d q m k) (hk : k < m) (hc : ∀ a, a < 3 → ∀ x, x < N → ed a x (q k) → d x < 1000) : BQ N ed F d q m (k + 1) := by
  obtain ⟨h1, h2, h3, h4, h5, h6, h7, h8⟩ := h
  refine ⟨h1, h2, h3, fun i hi hk1 => ?_, fun j hj a ha x hx he => ?_, h6, h7, by omega⟩
  · have := h4 i hi hk
    have := h3 k (k + 1) (by omega) hk1
    omega
  · by_cases e : j = k
    · subst e
      obtain ⟨i, hi, g⟩ := h2 x hx (hc a ha x hx he)
      rw [← g]; exact h4 i hi hk
    · exact h5 j (by omega) a ha x hx he
theorem BQ.done {N : Nat} {ed : Nat → Nat → Nat → Prop} {F : Nat → Prop} {d q : Nat → Nat} {m : Nat} (h : BQ N ed F d q m m) (hN : N ≤ 1000) (hed : ∀ a x y, ed a x y → x < N → y < N → a < 3 → True) (hle : ∀ x, x < N → d x ≤ 1000) : isDst N ed F d := by
  have hm := h.m_le
  obtain ⟨h1, h2, h3, h4, h5, h6, h7, h8⟩ := h
  refine ⟨fun x hx hd => ?_, fun x hx w => ?_⟩
  · obtain ⟨i, hi, g⟩ := h2 x hx hd
    have := h1 i hi
    rw [g] at this
    exact ⟨by omega, this.2.2.1⟩
  · induction w generalizing x with
    | nil =>
      intro _ hF
      rw [h6 x hx hF]; exact Nat.zero_le _
    | cons a w ih =>
      intro hwd hF
      obtain ⟨ha, hwd2⟩ := wdl_cons.mp hwd
      obtain ⟨y, hy, he, hF2⟩ := hF
      have := ih y hy hwd2 hF2
      by_cases hdy : d y < 1000
      · obtain ⟨i, hi, g⟩ := h2 y hy hdy
        rw [← g] at he
        have h9 := h5 i hi a ha x hx he
        rw [g] at h9
        rw [List.length_cons]; omega
      · have := hle x hx
        rw [List.length_cons]; omega
/-! spelling the first word -/
/-- the nodes behind a letter from which an end is just that far -/
def nxt (N : Nat) (ed : Nat → Nat → Nat → Prop) (d : Nat → Nat) (here : Nat → Prop) (a left : Nat) (y : Nat) : Prop := y < N ∧ d y = left ∧ ∃ x, x < N ∧ here x ∧ ed a x y
def Spl (N : Nat) (ed : Nat → Nat → Nat → Prop) (d : Nat → Nat) : (Nat → Prop) → List Nat → Prop
  | _, [] => True
  | here, a :: w => a < 3 ∧ (∃ y, nxt N ed d here a w.length y) ∧ (∀ b, b < a → ∀ y, ¬ nxt N ed d here b w.length y) ∧ Spl N ed d (nxt N ed d here a w.length) w
theorem Spl_fst {N : Nat} {ed : Nat → Nat → Nat → Prop} {F : Nat → Prop} {d : Nat → Nat} (hD : isDst N ed F d) : ∀ (w : List Nat) (here : Nat → Prop), w.length < 1000 → (∀ x, here x → x < N ∧ d x = w.length) → (∃ x, here x) → Spl N ed d here w →
    (wdl w ∧ ∃ x, here x ∧ acw N ed F x w) ∧ ∀ v, wdl v → v.length = w.length → (∃ x, here x ∧ acw N ed F x v) → lle w v
  | [], here, _, hh, ⟨x, hx⟩, _ => by
    refine ⟨⟨wdl_nil, x, hx, ?_⟩, fun v _ _ _ => trivial⟩
    obtain ⟨h1, h2⟩ := hh x hx
    obtain ⟨_, w, _, hl, ha⟩ := hD.1 x h1 (by rw [h2]; decide)
    rw [h2] at hl
    cases w with
    | nil => exact ha
    | cons a w => cases hl
  | a :: w, here, hl, hh, _, ⟨ha, ⟨y, hy⟩, hmin, hS⟩ => by
    rw [List.length_cons] at hl
    obtain ⟨⟨hw1, x2, hx2, hx3⟩, hv⟩ := Spl_fst hD w (nxt N ed d here a w.length) (by omega) (fun x hx => ⟨hx.1, hx.2.1⟩) ⟨y, hy⟩ hS
    obtain ⟨g1, g2, x, g3, g4, g5⟩ := hx2
    refine ⟨⟨wdl_cons.mpr ⟨ha, hw1⟩, x, g4, x2, g1, g5, hx3⟩, fun v hwd hlen hx => ?_⟩
    cases v with
    | nil => cases hlen
    | cons b v =>
      obtain ⟨hb, hwd2⟩ := wdl_cons.mp hwd
      obtain ⟨x', q1, y', q2, q3, q4⟩ := hx
      obtain ⟨r1, r2⟩ := hh x' q1
      have hlen2 : v.length = w.length := Nat.succ.inj hlen
      have dy : d y' = w.length := by
        have u1 := hD.2 y' q2 v hwd2 q4
        rw [List.length_cons] at r2
        have u2 : d y' < 1000 := by omega
        obtain ⟨_, w2, z1, z2, z3⟩ := hD.1 y' q2 u2
        have := hD.2 x' r1 (b :: w2) (wdl_cons.mpr ⟨hb, z1⟩) ⟨y', q2, q3, z3⟩
        rw [List.length_cons] at this
        omega
      have hn : nxt N ed d here b w.length y' := ⟨q2, dy, x', r1, q1, q3⟩
      by_cases hab : a < b
      · exact Or.inl hab
      · by_cases e : a = b
        · subst e
          exact Or.inr ⟨rfl, hv v hwd2 hlen2 ⟨y', hn, q4⟩⟩
        · exact absurd hn (hmin b (by omega) y')
/-- a node that isn't an end has a letter on -/
theorem Spl_go {N : Nat} {ed : Nat → Nat → Nat → Prop} {F : Nat → Prop} {d : Nat → Nat} (hD : isDst N ed F d) {here : Nat → Prop} {left : Nat} (hl : left + 1 < 1000) {x : Nat} (hx : here x) (hxN : x < N) (hd : d x = left + 1) : ∃ a, a < 3 ∧ ∃ y, nxt N ed d here a left y := by
  obtain ⟨_, w, h1, h2, h3⟩ := hD.1 x hxN (by omega)
  rw [hd] at h2
  cases w with
  | nil => cases h2
  | cons a w =>
    obtain ⟨ha, hw⟩ := wdl_cons.mp h1
    obtain ⟨y, hy, he, hF⟩ := h3
    have h2 : w.length = left := Nat.succ.inj h2
    have u1 := hD.2 y hy w hw hF
    obtain ⟨_, w2, z1, z2, z3⟩ := hD.1 y hy (by omega)
    have u2 := hD.2 x hxN (a :: w2) (wdl_cons.mpr ⟨ha, z1⟩) ⟨y, hy, he, z3⟩
    rw [List.length_cons] at u2
    exact ⟨a, ha, y, hy, by omega, x, hxN, hx, he⟩
/-! words and numbers of paths -/
/-- paths with a word from p into a set -/
def fpN (A : am_Au) (fin : Nat → Bool) : List Nat → Nat → Nat
  | [], p => if fin p = true then 1 else 0
  | a :: w, p => sumN (fun u => if bt (A.2.2.2 a p) u = true then fpN A fin w u else 0) A.1
theorem fpN_pn {A : am_Au} : ∀ w s t, fpN A (fun x => decide (x = t)) w s = pn A w s t
  | [], s, t => by
    show (if decide (s = t) = true then 1 else 0) = if s = t then 1 else 0
    by_cases h : s = t
    · rw [if_pos h, if_pos (decide_eq_true h)]
    · rw [if_neg h, if_neg (by rw [decide_eq_false h]; decide)]
  | a :: w, s, t => by
    show sumN (fun u => if bt (A.2.2.2 a s) u = true then fpN A (fun x => decide (x = t)) w u else 0) A.1 = am_to (fun u y => y + (if bt (A.2.2.2 a s) u = true then pn A w u t else 0)) A.1 0
    refine sumN_congr A.1 fun u _ => ?_
    rw [fpN_pn w u t]
theorem sum2 {f : Nat → Nat} : ∀ n, 2 ≤ sumN f n ↔ (∃ k, k < n ∧ 2 ≤ f k) ∨ ∃ k l, k < n ∧ l < n ∧ k ≠ l ∧ 1 ≤ f k ∧ 1 ≤ f l := by
  intro n
  constructor
  · induction n with
    | zero => intro h; exact absurd h (by show ¬ 2 ≤ 0; decide)
    | succ n ih =>
      intro h
      rw [sumN_s] at h
      by_cases h1 : 2 ≤ f n
      · exact Or.inl ⟨n, by omega, h1⟩
      · by_cases h2 : 2 ≤ sumN f n
        · rcases ih h2 with ⟨k, hk, g⟩ | ⟨k, l, hk, hl, g⟩
          · exact Or.inl ⟨k, by omega, g⟩
          · exact Or.inr ⟨k, l, by omega, by omega, g⟩
        · obtain ⟨k, hk, g⟩ := sumN_pos (f := f) n (by omega)
          exact Or.inr ⟨k, n, by omega, by omega, by omega, g, by omega⟩
  · rintro (⟨k, hk, g⟩ | ⟨k, l, hk, hl, hne, g1, g2⟩)
    · have := sumN_ge (f := f) n hk; omega
    · have := sumN_ge2 (f := f) hne n hk hl; omega
theorem sum1 {f : Nat → Nat} (n : Nat) : 1 ≤ sumN f n ↔ ∃ k, k < n ∧ 1 ≤ f k :=
  ⟨fun h => sumN_pos n h, fun ⟨_, hk, g⟩ => Nat.le_trans g (sumN_ge n hk)⟩
theorem ite1 {c : Bool} {x m : Nat} (hm : 1 ≤ m) : m ≤ (if c = true then x else 0) ↔ c = true ∧ m ≤ x := by
  cases c
  · simp; omega
  · simp
/-! the graph of pairs -/
def nP (p q : Nat) (b : Bool) : Nat := 2 * (6 * p + q) + b.toNat
/-- the pair graph's edges: both states go on; a pair is different from the first difference on -/
def edP (A : am_Au) (a x y : Nat) : Prop := (x % 2 = 1 ∨ x / 12 = x / 2 % 6) ∧ (y % 2 = 1 ↔ (x % 2 = 1 ∨ y / 12 ≠ y / 2 % 6)) ∧ bt (A.2.2.2 a (x / 12)) (y / 12) = true ∧ bt (A.2.2.2 a (x / 2 % 6)) (y / 2 % 6) = true
theorem nP_v {p q : Nat} (hq : q < 6) (b : Bool) : nP p q b / 12 = p ∧ nP p q b / 2 % 6 = q ∧ nP p q b % 2 = b.toNat := by
  unfold nP
  cases b
  · simp only [Bool.toNat_false]; omega
  · simp only [Bool.toNat_true]; omega
theorem nP_lt {p q : Nat} (hp : p < 6) (hq : q < 6) (b : Bool) : nP p q b < 72 := by
  unfold nP
  cases b
  · simp only [Bool.toNat_false]; omega
  · simp only [Bool.toNat_true]; omega
theorem nP_of {x : Nat} (hx : x < 72) : ∃ p q b, p < 6 ∧ q < 6 ∧ x = nP p q b := by
  refine ⟨x / 12, x / 2 % 6, decide (x % 2 = 1), by omega, by omega, ?_⟩
  unfold nP
  by_cases h : x % 2 = 1
  · rw [decide_eq_true h, Bool.toNat_true]; omega
  · rw [decide_eq_false h, Bool.toNat_false]; omega
def fiP (fin : Nat → Bool) (x : Nat) : Prop := x % 2 = 1 ∧ fin (x / 12) = true ∧ fin (x / 2 % 6) = true
theorem acw_P {A : am_Au} (hw : aw A) (fin : Nat → Bool) : ∀ w, wdl w → ∀ p q, p < 6 → q < 6 → (acw 72 (edP A) (fiP fin) (nP p q true) w ↔ 1 ≤ fpN A fin w p ∧ 1 ≤ fpN A fin w q) ∧ (acw 72 (edP A) (fiP fin) (nP p p false) w ↔ 2 ≤ fpN A fin w p)
  | [], _, p, q, hp, hq => by
    obtain ⟨a1, a2, a3⟩ := nP_v (p := p) hq true
    obtain ⟨b1, b2, b3⟩ := nP_v (p := p) hp false
    constructor
    · show (_ % 2 = 1 ∧ fin (_ / 12) = true ∧ fin (_ / 2 % 6) = true) ↔ 1 ≤ (if fin p = true then 1 else 0) ∧ 1 ≤ (if fin q = true then 1 else 0)
      rw [a1, a2, a3, ite1 (Nat.le_refl 1), ite1 (Nat.le_refl 1)]
      simp
    · show (_ % 2 = 1 ∧ fin (_ / 12) = true ∧ fin (_ / 2 % 6) = true) ↔ 2 ≤ (if fin p = true then 1 else 0)
      rw [b3, ite1 (by decide)]
      simp
  | a :: w, hwd, p, q, hp, hq => by
    have h6 := hw.2.1
    obtain ⟨ha, hwd2⟩ := wdl_cons.mp hwd
    have ih := acw_P hw fin w hwd2
    obtain ⟨a1, a2, a3⟩ := nP_v (p := p) hq true
    obtain ⟨b1, b2, b3⟩ := nP_v (p := p) hp false
    have le6 : ∀ {s t : Nat}, bt (A.2.2.2 a s) t = true → t < A.1 := fun h => Nat.lt_of_not_le fun g => T_out hw (Or.inr g) h
    constructor
    · constructor
      · rintro ⟨y, hy, ⟨_, e2, e3, e4⟩, hF⟩
        rw [a1] at e3
        rw [a2] at e4
        rw [a3] at e2
        obtain ⟨r, t, b, hr, ht, rfl⟩ := nP_of hy
        obtain ⟨c1, c2, c3⟩ := nP_v (p := r) ht b
        rw [c1] at e3
        rw [c2] at e4
        have hb : b = true := by
          cases b
          · rw [c3] at e2
            have := e2.mpr (Or.inl rfl)
            cases this
          · rfl
        subst hb
        obtain ⟨g1, g2⟩ := (ih r t hr ht).1.mp hF
        exact ⟨(sum1 A.1).mpr ⟨r, le6 e3, (ite1 (Nat.le_refl 1)).mpr ⟨e3, g1⟩⟩, (sum1 A.1).mpr ⟨t, le6 e4, (ite1 (Nat.le_refl 1)).mpr ⟨e4, g2⟩⟩⟩
      · rintro ⟨h1, h2⟩
        obtain ⟨r, hr, g1⟩ := (sum1 A.1).mp h1
        obtain ⟨t, ht, g2⟩ := (sum1 A.1).mp h2
        obtain ⟨e3, g1⟩ := (ite1 (Nat.le_refl 1)).mp g1
        obtain ⟨e4, g2⟩ := (ite1 (Nat.le_refl 1)).mp g2
        have r6 : r < 6 := by omega
        have t6 : t < 6 := by omega
        obtain ⟨c1, c2, c3⟩ := nP_v (p := r) t6 true
        refine ⟨nP r t true, nP_lt r6 t6 true, ⟨Or.inl a3, ⟨fun _ => Or.inl a3, fun _ => c3⟩, ?_, ?_⟩, (ih r t r6 t6).1.mpr ⟨g1, g2⟩⟩
        · rw [a1, c1]; exact e3
        · rw [a2, c2]; exact e4
    · constructor
      · rintro ⟨y, hy, ⟨_, e2, e3, e4⟩, hF⟩
        rw [b1] at e3
        rw [b2] at e4
        rw [b3] at e2
        obtain ⟨r, t, b, hr, ht, rfl⟩ := nP_of hy
        obtain ⟨c1, c2, c3⟩ := nP_v (p := r) ht b
        rw [c1] at e3
        rw [c2] at e4
        rw [c1, c2, c3] at e2
        refine (sum2 A.1).mpr ?_
        cases b
        · have hrt : r = t := by
            apply Classical.byContradiction
            intro hne
            have := e2.mpr (Or.inr hne)
            cases this
          subst hrt
          exact Or.inl ⟨r, le6 e3, (ite1 (by decide)).mpr ⟨e3, (ih r r hr hr).2.mp hF⟩⟩
        · have hrt : r ≠ t := by
            rcases e2.mp rfl with h | h
            · cases h
            · exact h
          obtain ⟨g1, g2⟩ := (ih r t hr ht).1.mp hF
          exact Or.inr ⟨r, t, le6 e3, le6 e4, hrt, (ite1 (Nat.le_refl 1)).mpr ⟨e3, g1⟩, (ite1 (Nat.le_refl 1)).mpr ⟨e4, g2⟩⟩
      · intro h
        rcases (sum2 A.1).mp h with ⟨r, hr, g⟩ | ⟨r, t, hr, ht, hne, g1, g2⟩
        · obtain ⟨e3, g⟩ := (ite1 (by decide)).mp g
          have r6 : r < 6 := by omega
          obtain ⟨c1, c2, c3⟩ := nP_v (p := r) r6 false
          refine ⟨nP r r false, nP_lt r6 r6 false, ⟨Or.inr (by rw [b1, b2]), ⟨fun h => (by rw [c3] at h; cases h), fun h => ?_⟩, by rw [b1, c1]; exact e3, by rw [b2, c2]; exact e3⟩, (ih r r r6 r6).2.mpr g⟩
          rcases h with h | h
          · rw [b3] at h; cases h
          · exact absurd (by rw [c1, c2]) h
        · obtain ⟨e3, g1⟩ := (ite1 (Nat.le_refl 1)).mp g1
          obtain ⟨e4, g2⟩ := (ite1 (Nat.le_refl 1)).mp g2
          have r6 : r < 6 := by omega
          have t6 : t < 6 := by omega
          obtain ⟨c1, c2, c3⟩ := nP_v (p := r) t6 true
          exact ⟨nP r t true, nP_lt r6 t6 true, ⟨Or.inr (by rw [b1, b2]), ⟨fun _ => Or.inr (by rw [c1, c2]; exact hne), fun _ => c3⟩, by rw [b1, c1]; exact e3, by rw [b2, c2]; exact e4⟩, (ih r t r6 t6).1.mpr ⟨g1, g2⟩⟩
/-! the graph of triples -/
def edT (A : am_Au) (a x y : Nat) : Prop := bt (A.2.2.2 a (x / 36)) (y / 36) = true ∧ bt (A.2.2.2 a (x / 6 % 6)) (y / 6 % 6) = true ∧ bt (A.2.2.2 a (x % 6)) (y % 6) = true
theorem acw_T {A : am_Au} (hw : aw A) {p q : Nat} (hp : p < 6) (hq : q < 6) : ∀ w, wdl w → ∀ x, x < 216 → (acw 216 (edT A) (fun x => x = 36 * p + 6 * q + q) x w ↔ 1 ≤ pn A w (x / 36) p ∧ 1 ≤ pn A w (x / 6 % 6) q ∧ 1 ≤ pn A w (x % 6) q)
  | [], _, x, hx => by
    show x = 36 * p + 6 * q + q ↔ 1 ≤ (if x / 36 = p then 1 else 0) ∧ 1 ≤ (if x / 6 % 6 = q then 1 else 0) ∧ 1 ≤ (if x % 6 = q then 1 else 0)
    have e : ∀ c : Prop, ∀ [Decidable c], (1 ≤ (if c then 1 else 0)) ↔ c := fun c _ => by
      by_cases h : c
      · simp [h]
      · simp [h]
    rw [e, e, e]
    have hq6 : q = 0 ∨ q = 1 ∨ q = 2 ∨ q = 3 ∨ q = 4 ∨ q = 5 := by omega
    rcases hq6 with rfl | rfl | rfl | rfl | rfl | rfl <;> omega
  | a :: w, hwd, x, hx => by
    have h6 := hw.2.1
    obtain ⟨ha, hwd2⟩ := wdl_cons.mp hwd
    have ih := acw_T hw hp hq w hwd2
    have le6 : ∀ {s t : Nat}, bt (A.2.2.2 a s) t = true → t < A.1 := fun h => Nat.lt_of_not_le fun g => T_out hw (Or.inr g) h
    have u : ∀ s t, 1 ≤ pn A (a :: w) s t ↔ ∃ v, v < A.1 ∧ bt (A.2.2.2 a s) v = true ∧ 1 ≤ pn A w v t := fun s t => by
      show 1 ≤ sumN (fun v => if bt (A.2.2.2 a s) v = true then pn A w v t else 0) A.1 ↔ _
      rw [sum1]
      constructor
      · rintro ⟨v, hv, g⟩
        obtain ⟨g1, g2⟩ := (ite1 (Nat.le_refl 1)).mp g
        exact ⟨v, hv, g1, g2⟩
      · rintro ⟨v, hv, g1, g2⟩
        exact ⟨v, hv, (ite1 (Nat.le_refl 1)).mpr ⟨g1, g2⟩⟩
    rw [u, u, u]
    constructor
    · rintro ⟨y, hy, ⟨e1, e2, e3⟩, hF⟩
      obtain ⟨g1, g2, g3⟩ := (ih y hy).mp hF
      exact ⟨⟨y / 36, le6 e1, e1, g1⟩, ⟨y / 6 % 6, le6 e2, e2, g2⟩, ⟨y % 6, le6 e3, e3, g3⟩⟩
    · rintro ⟨⟨r, hr, e1, g1⟩, ⟨s, hs, e2, g2⟩, ⟨t, ht, e3, g3⟩⟩
      have v1 : (36 * r + 6 * s + t) / 36 = r := by omega
      have v2 : (36 * r + 6 * s + t) / 6 % 6 = s := by omega
      have v3 : (36 * r + 6 * s + t) % 6 = t := by omega
      refine ⟨36 * r + 6 * s + t, by omega, ⟨?_, ?_, ?_⟩, (ih _ (by omega)).mpr ?_⟩
      · rw [v1]; exact e1
      · rw [v2]; exact e2
      · rw [v3]; exact e3
      · rw [v1, v2, v3]; exact ⟨g1, g2, g3⟩
