/-! words of least weight: they pass no state twice -/
section
variable {A : am_Au} {w : Nat → Nat}
def eF (A : am_Au) : Nat → Nat → Nat → Prop := fun a x y => bt (A.2.2.2 a x) y = true
def fF (A : am_Au) : Nat → Prop := fun x => bt A.2.2.1 x = true
def acf (A : am_Au) (s : Nat) (v : List Nat) : Prop := acw 6 (eF A) (fF A) s v
/-- words whose later states lie in F -/
def wlk (A : am_Au) (F : Int32) : Nat → List Nat → Prop
  | x, [] => fF A x
  | x, a :: v => ∃ y, bt F y = true ∧ eF A a x y ∧ wlk A F y v
def wtv (w : Nat → Nat) : List Nat → Nat
  | [] => 0
  | a :: v => w a + wtv w v
def rmb (F : Int32) (s : Nat) : Int32 := am_to (fun k y => y ||| (if bt F k = true ∧ k ≠ s then (1 : Int32) <<< (nI k &&& 31) else 0)) 6 0
theorem bt_rmb {F : Int32} (hF : lon 6 F) {s k : Nat} : bt (rmb F s) k = true ↔ bt F k = true ∧ k ≠ s := by
  unfold rmb
  rw [bt_to_or]
  constructor
  · rintro (h | ⟨j, hj, h⟩)
    · rw [bt_zero] at h; cases h
    · by_cases q : bt F j = true ∧ j ≠ s
      · rw [if_pos q, bt_1s (by omega)] at h
        rw [of_decide_eq_true h]; exact q
      · rw [if_neg q, bt_zero] at h; cases h
  · rintro ⟨h1, h2⟩
    have hk : k < 6 := Nat.lt_of_not_le fun q => by rw [hF k q] at h1; cases h1
    exact Or.inr ⟨k, hk, by rw [if_pos ⟨h1, h2⟩, bt_1s (by omega)]; exact decide_eq_true rfl⟩
theorem lon_rmb {F : Int32} (hF : lon 6 F) {s : Nat} : lon 6 (rmb F s) := fun k hk => by
  cases e : bt (rmb F s) k with
  | false => rfl
  | true =>
    have := ((bt_rmb hF).mp e).1
    rw [hF k hk] at this
    cases this
theorem pcn_rmb {F : Int32} (hF : lon 6 F) {s : Nat} (h : bt F s = true) : pcn (rmb F s) < pcn F := pcn_lt (fun _ q => ((bt_rmb hF).mp q).1) hF (fun e => by
  have h2 : bt (rmb F s) s = true := by rw [e]; exact h
  exact ((bt_rmb hF).mp h2).2 rfl)
theorem wlk_mono {F G : Int32} (h : sb F G) : ∀ (v : List Nat) (x : Nat), wlk A F x v → wlk A G x v
  | [], _, g => g
  | _ :: v, _, ⟨y, a, b, c⟩ => ⟨y, h y a, b, wlk_mono h v y c⟩
theorem wlk_last {F : Int32} (hF : lon 6 F) (s : Nat) : ∀ (v : List Nat) (x : Nat), wdl v → wlk A F x v → wlk A (rmb F s) x v ∨ ∃ v2, wdl v2 ∧ wlk A (rmb F s) s v2 ∧ v2.length ≤ v.length ∧ wtv w v2 ≤ wtv w v
  | [], _, _, g => Or.inl g
  | a :: v, x, hd, ⟨y, g1, g2, g3⟩ => by
    obtain ⟨_, hd2⟩ := wdl_cons.mp hd
    rcases wlk_last hF s v y hd2 g3 with h | ⟨v2, h1, h2, h3, h4⟩
    · by_cases e : y = s
      · subst e
        exact Or.inr ⟨v, hd2, h, Nat.le_succ _, Nat.le_add_left _ _⟩
      · exact Or.inl ⟨y, (bt_rmb hF).mpr ⟨g1, e⟩, g2, h⟩
    · exact Or.inr ⟨v2, h1, h2, Nat.le_succ_of_le h3, Nat.le_trans h4 (Nat.le_add_left _ _)⟩
theorem wlk_short : ∀ (k : Nat) (F : Int32) (s : Nat) (v : List Nat), lon 6 F → pcn F ≤ k + 1 → bt F s = true → wdl v → wlk A F s v → ∃ v', wdl v' ∧ wlk A F s v' ∧ v'.length ≤ k ∧ v'.length ≤ v.length ∧ wtv w v' ≤ wtv w v := by
  intro k
  induction k with
  | zero =>
    intro F s v hF hp hs hd hv
    obtain ⟨v2, h1, h2, h3, h4⟩ : ∃ v2, wdl v2 ∧ wlk A (rmb F s) s v2 ∧ v2.length ≤ v.length ∧ wtv w v2 ≤ wtv w v := by
      rcases wlk_last (w := w) hF s v s hd hv with h | h
      · exact ⟨v, hd, h, Nat.le_refl _, Nat.le_refl _⟩
      · exact h
    have hlt := pcn_rmb hF hs
    cases v2 with
    | nil => exact ⟨[], wdl_nil, h2, Nat.le_refl _, Nat.zero_le _, Nat.zero_le _⟩
    | cons a v3 =>
      obtain ⟨y, g1, _, _⟩ := h2
      have hy : y < 6 := Nat.lt_of_not_le fun q => by rw [lon_rmb hF y q] at g1; cases g1
      have := pcn_pos hy g1
      omega
  | succ k ih =>
    intro F s v hF hp hs hd hv
    obtain ⟨v2, h1, h2, h3, h4⟩ : ∃ v2, wdl v2 ∧ wlk A (rmb F s) s v2 ∧ v2.length ≤ v.length ∧ wtv w v2 ≤ wtv w v := by
      rcases wlk_last (w := w) hF s v s hd hv with h | h
      · exact ⟨v, hd, h, Nat.le_refl _, Nat.le_refl _⟩
      · exact h
    have hlt := pcn_rmb hF hs
    have hm : sb (rmb F s) F := fun _ q => ((bt_rmb hF).mp q).1
    cases v2 with
    | nil => exact ⟨[], wdl_nil, h2, Nat.zero_le _, Nat.zero_le _, Nat.zero_le _⟩
    | cons a v3 =>
      obtain ⟨y, g1, g2, g3⟩ := h2
      obtain ⟨ha, hd3⟩ := wdl_cons.mp h1
      obtain ⟨v', q1, q2, q3, q4, q5⟩ := ih (rmb F s) y v3 (lon_rmb hF) (by omega) g1 hd3 g3
      refine ⟨a :: v', wdl_cons.mpr ⟨ha, q1⟩, ⟨y, hm y g1, g2, wlk_mono hm _ _ q2⟩, Nat.succ_le_succ q3, Nat.le_trans (Nat.succ_le_succ q4) h3, Nat.le_trans (Nat.add_le_add_left q5 (w a)) h4⟩
def mkF (n : Nat) : Int32 := am_to (fun k y => y ||| ((1 : Int32) <<< (nI k &&& 31))) n 0
theorem bt_mkF {n k : Nat} (hn : n ≤ 6) : bt (mkF n) k = true ↔ k < n := by
  unfold mkF
  rw [bt_to_or]
  constructor
  · rintro (h | ⟨j, hj, h⟩)
    · rw [bt_zero] at h; cases h
    · rw [bt_1s (by omega)] at h
      rw [of_decide_eq_true h]; exact hj
  · intro h
    exact Or.inr ⟨k, h, by rw [bt_1s (by omega)]; exact decide_eq_true rfl⟩
theorem lon_mkF {n : Nat} (hn : n ≤ 6) : lon n (mkF n) := fun k hk => by
  cases e : bt (mkF n) k with
  | false => rfl
  | true =>
    have := (bt_mkF hn).mp e
    omega
theorem acf_wlk (hw : aw A) : ∀ (v : List Nat) (s : Nat), acf A s v ↔ wlk A (mkF A.1) s v
  | [], _ => Iff.rfl
  | a :: v, s => by
    have h6 := hw.2.1
    constructor
    · rintro ⟨y, _, g2, g3⟩
      have hy : y < A.1 := Nat.lt_of_not_le fun q => by
        have g2' : bt (A.2.2.2 a s) y = true := g2
        rw [hw.2.2.2.1 a s y q] at g2'; cases g2'
      exact ⟨y, (bt_mkF h6).mpr hy, g2, (acf_wlk hw v y).mp g3⟩
    · rintro ⟨y, g1, g2, g3⟩
      have := (bt_mkF h6).mp g1
      exact ⟨y, by omega, g2, (acf_wlk hw v y).mpr g3⟩
theorem acf_lt (hw : aw A) {s : Nat} : ∀ {v : List Nat}, acf A s v → s < A.1
  | [], h => Nat.lt_of_not_le fun q => by
    have h' : bt A.2.2.1 s = true := h
    rw [(hw.2.2.1 s q).2] at h'; cases h'
  | a :: _, ⟨_, _, g2, _⟩ => Nat.lt_of_not_le fun q => by
    have g2' : bt (A.2.2.2 a s) _ = true := g2
    rw [hw.2.2.2.2 a s (Or.inl q), bt_zero] at g2'; cases g2'
theorem acf_short (hw : aw A) {s : Nat} {v : List Nat} (hd : wdl v) (h : acf A s v) : ∃ v', wdl v' ∧ acf A s v' ∧ v'.length + 1 ≤ A.1 ∧ v'.length ≤ v.length ∧ wtv w v' ≤ wtv w v := by
  have h6 := hw.2.1
  have hs := acf_lt hw h
  obtain ⟨v', h1, h2, h3, h4, h5⟩ := wlk_short (A := A) (w := w) (A.1 - 1) (mkF A.1) s v ((lon_mkF h6).le h6) (by have := pcn_le h6 (lon_mkF h6); omega) ((bt_mkF h6).mpr hs) hd ((acf_wlk hw v s).mp h)
  exact ⟨v', h1, (acf_wlk hw v' s).mpr h2, by omega, h4, h5⟩
theorem wtv_le (hw : okW w) : ∀ {v : List Nat}, wdl v → wtv w v ≤ 100 * v.length
  | [], _ => Nat.le_refl _
  | a :: v, hd => by
    obtain ⟨ha, hd2⟩ := wdl_cons.mp hd
    have h1 := hw a ha
    have h2 := wtv_le hw hd2
    show w a + wtv w v ≤ 100 * (v.length + 1)
    omega
/-- the lightest words from s weigh W, the shortest of them has n letters -/
def dst (A : am_Au) (w : Nat → Nat) (s W n : Nat) : Prop := (∃ v, wdl v ∧ acf A s v ∧ wtv w v = W ∧ v.length = n) ∧ ∀ v, wdl v → acf A s v → W < wtv w v ∨ (W = wtv w v ∧ n ≤ v.length)
theorem dst.uniq {s W n W' n' : Nat} (h : dst A w s W n) (g : dst A w s W' n') : W = W' ∧ n = n' := by
  obtain ⟨⟨v, a1, a2, rfl, rfl⟩, a⟩ := h
  obtain ⟨⟨u, b1, b2, rfl, rfl⟩, b⟩ := g
  have := a u b1 b2
  have := b v a1 a2
  omega
theorem dst.n5 (hw : aw A) {s W n : Nat} (h : dst A w s W n) : n ≤ 5 := by
  have h6 := hw.2.1
  obtain ⟨⟨v, a1, a2, rfl, rfl⟩, a⟩ := h
  obtain ⟨u, b1, b2, b3, b4, b5⟩ := acf_short (w := w) hw a1 a2
  have := a u b1 b2
  omega
theorem dst.w5 (hw : aw A) (hk : okW w) {s W n : Nat} (h : dst A w s W n) : W ≤ 500 := by
  have h5 := h.n5 hw
  obtain ⟨⟨v, a1, a2, rfl, rfl⟩, a⟩ := h
  have := wtv_le hk a1
  omega
def snB (A : am_Au) (w : Nat → Nat) (u : Nat) (c : Nat → Nat) : Prop := ∀ s, s < 6 → c s = 1000000 ∨ ∃ v, wdl v ∧ acf A s v ∧ c s = u * wtv w v + v.length
def cpB (A : am_Au) (w : Nat → Nat) (u : Nat) (c : Nat → Nat) (r : Nat) : Prop := ∀ s, s < 6 → ∀ v, wdl v → acf A s v → v.length ≤ r → c s ≤ u * wtv w v + v.length
def csD (A : am_Au) (w : Nat → Nat) (u : Nat) (c : Nat → Nat) : Prop := ∀ s, s < 6 → (c s = 1000000 ∧ ∀ v, wdl v → ¬ acf A s v) ∨ ∃ W n, dst A w s W n ∧ c s = u * W + n
theorem csD_of (hw : aw A) (hk : okW w) {u : Nat} (hu : u = 64 ∨ u = 16) {c : Nat → Nat} (h : snB A w u c) {r : Nat} (hr : A.1 ≤ r + 1) (g : cpB A w u c r) : csD A w u c := by
  have h6 := hw.2.1
  intro s hs
  have low : ∀ v, wdl v → acf A s v → ∃ v', wdl v' ∧ acf A s v' ∧ v'.length ≤ 5 ∧ v'.length ≤ v.length ∧ wtv w v' ≤ wtv w v ∧ wtv w v' ≤ 500 ∧ c s ≤ u * wtv w v' + v'.length := fun v hd hv => by
    obtain ⟨v', b1, b2, b3, b4, b5⟩ := acf_short (w := w) hw hd hv
    have := wtv_le hk b1
    exact ⟨v', b1, b2, by omega, b4, b5, by omega, g s hs v' b1 b2 (by omega)⟩
  rcases h s hs with e | ⟨v, a1, a2, a3⟩
  · refine Or.inl ⟨e, fun v hd hv => ?_⟩
    obtain ⟨v', b1, b2, b3, b4, b5, b6, b7⟩ := low v hd hv
    rcases hu with rfl | rfl <;> omega
  · right
    refine ⟨wtv w v, v.length, ⟨⟨v, a1, a2, rfl, rfl⟩, fun x hd hx => ?_⟩, a3⟩
    obtain ⟨v', b1, b2, b3, b4, b5, b6, b7⟩ := low v a1 a2
    obtain ⟨x', c1, c2, c3, c4, c5, c6, c7⟩ := low x hd hx
    rcases hu with rfl | rfl <;> omega
/-! the lightest word, letter by letter -/
def nl (A : am_Au) (w : Nat → Nat) (here : Nat → Prop) (a W n y : Nat) : Prop := y < 6 ∧ (∃ x, x < 6 ∧ here x ∧ eF A a x y) ∧ dst A w y W n
def LSp (A : am_Au) (w : Nat → Nat) : (Nat → Prop) → Nat → List Nat → Prop
  | _, _, [] => True
  | here, W, a :: v => a < 3 ∧ w a ≤ W ∧ (∃ y, nl A w here a (W - w a) v.length y) ∧ (∀ b, b < a → w b ≤ W → ∀ y, ¬ nl A w here b (W - w b) v.length y) ∧ LSp A w (nl A w here a (W - w a) v.length) (W - w a) v
theorem LSp.uniq : ∀ {v v' : List Nat} {here : Nat → Prop} {W : Nat}, LSp A w here W v → LSp A w here W v' → v.length = v'.length → v = v'
  | [], [], _, _, _, _, _ => rfl
  | [], _ :: _, _, _, _, _, e => by cases e
  | _ :: _, [], _, _, _, _, e => by cases e
  | a :: v, b :: v', here, W, ⟨a1, a2, a3, a4, a5⟩, ⟨b1, b2, b3, b4, b5⟩, e => by
    have e' : v.length = v'.length := Nat.succ.inj e
    have : a = b := by
      rcases Nat.lt_trichotomy a b with h | h | h
      · obtain ⟨y, hy⟩ := a3
        rw [e'] at hy
        exact absurd hy (b4 a h a2 y)
      · exact h
      · obtain ⟨y, hy⟩ := b3
        rw [← e'] at hy
        exact absurd hy (a4 b h b2 y)
    subst this
    rw [← e'] at b5
    rw [LSp.uniq a5 b5 e']
theorem LSp.wd : ∀ {v : List Nat} {here : Nat → Prop} {W : Nat}, LSp A w here W v → wdl v
  | [], _, _, _ => wdl_nil
  | _ :: _, _, _, ⟨a1, _, _, _, a5⟩ => wdl_cons.mpr ⟨a1, LSp.wd a5⟩
theorem LSp.wt : ∀ {v : List Nat} {here : Nat → Prop} {W : Nat}, LSp A w here W v → (∃ x, here x) → (∀ x, here x → dst A w x W v.length) → wtv w v = W
  | [], here, W, _, ⟨x, hx⟩, hh => by
    obtain ⟨⟨v, _, _, a3, a4⟩, _⟩ := hh x hx
    cases v with
    | nil => exact a3
    | cons a v => cases a4
  | a :: v, here, W, ⟨_, a2, a3, _, a5⟩, _, _ => by
    have := LSp.wt a5 a3 (fun x hx => hx.2.2)
    show w a + _ = W
    omega
theorem LSp_go {here : Nat → Prop} {W n x : Nat} (hx : here x) (hx6 : x < 6) (hd : dst A w x W (n + 1)) : ∃ a, a < 3 ∧ w a ≤ W ∧ ∃ y, nl A w here a (W - w a) n y := by
  obtain ⟨⟨v, a1, a2, a3, a4⟩, hm⟩ := hd
  cases v with
  | nil => cases a4
  | cons a v =>
    obtain ⟨ha, hv⟩ := wdl_cons.mp a1
    obtain ⟨y, hy, he, hF⟩ := a2
    have a3' : w a + wtv w v = W := a3
    have a4' : v.length = n := Nat.succ.inj a4
    refine ⟨a, ha, by omega, y, hy, ⟨x, hx6, hx, he⟩, ⟨v, hv, hF, by omega, a4'⟩, fun u hu hau => ?_⟩
    have : W < w a + wtv w u ∨ (W = w a + wtv w u ∧ n + 1 ≤ u.length + 1) := hm (a :: u) (wdl_cons.mpr ⟨ha, hu⟩) ⟨y, hy, he, hau⟩
    omega
/-- the least of the initial states -/
def mnD (A : am_Au) (w : Nat → Nat) (W n : Nat) : Prop := (∃ x, x < 6 ∧ bt A.2.1 x = true ∧ dst A w x W n) ∧ ∀ x, x < 6 → bt A.2.1 x = true → ∀ W' n', dst A w x W' n' → W < W' ∨ (W = W' ∧ n ≤ n')
theorem mnD.uniq {W n W' n' : Nat} (h : mnD A w W n) (g : mnD A w W' n') : W = W' ∧ n = n' := by
  obtain ⟨⟨x, a1, a2, a3⟩, a⟩ := h
  obtain ⟨⟨y, b1, b2, b3⟩, b⟩ := g
  have := a y b1 b2 _ _ b3
  have := b x a1 a2 _ _ a3
  omega
def hr0 (A : am_Au) (w : Nat → Nat) (W n x : Nat) : Prop := x < 6 ∧ bt A.2.1 x = true ∧ dst A w x W n
def NL (A : am_Au) : Prop := ∀ x, x < 6 → bt A.2.1 x = true → ∀ v, wdl v → ¬ acf A x v
theorem mnD.not {W n : Nat} (h : mnD A w W n) (g : NL A) : False := by
  obtain ⟨⟨x, a1, a2, ⟨v, b1, b2, _⟩, _⟩, _⟩ := h
  exact g x a1 a2 v b1 b2
def LW (A : am_Au) (w : Nat → Nat) (W : Nat) (v : List Nat) : Prop := mnD A w W v.length ∧ LSp A w (hr0 A w W v.length) W v
theorem LW.uniq {W W' : Nat} {v v' : List Nat} (h : LW A w W v) (g : LW A w W' v') : W = W' ∧ v = v' := by
  obtain ⟨e, e2⟩ := h.1.uniq g.1
  subst e
  have g2 := g.2
  rw [← e2] at g2
  exact ⟨rfl, LSp.uniq h.2 g2 e2⟩
theorem LW.wt {W : Nat} {v : List Nat} (h : LW A w W v) : wtv w v = W := LSp.wt h.2 (by obtain ⟨⟨x, a⟩, _⟩ := h.1; exact ⟨x, a⟩) (fun _ hx => hx.2.2)
/-- the least cost of a set of states, from the costs -/
theorem mn_of (hw : aw A) (hk : okW w) {u : Nat} (hu : u = 64 ∨ u = 16) {c : Nat → Nat} (h : csD A w u c) {m : Nat} (h1 : m = 1000000 ∨ ∃ x, x < 6 ∧ bt A.2.1 x = true ∧ c x = m) (h2 : ∀ x, x < 6 → bt A.2.1 x = true → m ≤ c x) : (m = 1000000 ∧ NL A) ∨ ∃ W n, m = u * W + n ∧ mnD A w W n ∧ W ≤ 500 ∧ n ≤ 5 := by
  have big : ∀ {x W n}, x < 6 → bt A.2.1 x = true → dst A w x W n → m ≤ u * W + n ∧ W ≤ 500 ∧ n ≤ 5 := fun {x W n} hx hb hd => by
    have := h2 x hx hb
    rcases h x hx with ⟨_, z⟩ | ⟨W', n', z1, z2⟩
    · obtain ⟨⟨v, q1, q2, _⟩, _⟩ := hd
      exact absurd q2 (z v q1)
    · obtain ⟨rfl, rfl⟩ := hd.uniq z1
      exact ⟨by omega, hd.w5 hw hk, hd.n5 hw⟩
  have none : m = 1000000 → NL A := fun e x hx hb v hd hv => by
    have := h2 x hx hb
    rcases h x hx with ⟨_, z⟩ | ⟨W', n', z1, z2⟩
    · exact z v hd hv
    · have a := z1.w5 hw hk
      have b := z1.n5 hw
      rcases hu with rfl | rfl <;> omega
  rcases h1 with e | ⟨x, hx, hb, e⟩
  · exact Or.inl ⟨e, none e⟩
  · rcases h x hx with ⟨z, _⟩ | ⟨W, n, z1, z2⟩
    · have e' : m = 1000000 := by omega
      exact Or.inl ⟨e', none e'⟩
    · refine Or.inr ⟨W, n, by omega, ⟨⟨x, hx, hb, z1⟩, fun y hy hyb W' n' hd => ?_⟩, z1.w5 hw hk, z1.n5 hw⟩
      obtain ⟨q1, q2, q3⟩ := big hy hyb hd
      have a := z1.w5 hw hk
      have b := z1.n5 hw
      rcases hu with rfl | rfl <;> omega
end
