/-! the states of both objects, told by one abstract state -/
/-- the refs of the class's object as it is made -/
def rC : am_R := (am_upR (am_upR (am_upR (am_upR (am_upR (am_upR (am_upR (am_upR (am_upR (am_upR (am_upR (am_upR (am_upR (am_upR (am_upR (am_upR (am_upR (am_upR (am_upR (am_upR (am_upR (am_upR (am_upR (am_upR (am_upR (am_upR (am_upR (am_upR (am_upR (am_upR (am_upR (am_upR (am_upR (am_upR (am_upR (am_upR (am_upR (am_upR (am_upR (am_upR (am_upR (am_upR (am_upR (am_upR (am_upR (am_upR (am_upR (fun _ _ => 0) 2 3 3) 1 0 2) 4 3 5) 1 1 4) 1 2 6) 1 3 7) 8 1 9) 1 5 8) 10 1 11) 1 6 10) 12 1 13) 1 7 12) 1 8 14) 1 9 15) 16 0 17) 16 1 18) 1 10 16) 19 0 20) 19 1 21) 19 2 22) 19 3 23) 1 11 19) 25 0 26) 25 1 27) 24 0 25) 24 8 28) 24 11 29) 24 12 30) 1 12 24) 31 0 32) 1 13 31) 33 3 34) 33 4 35) 33 5 36) 1 15 33) 37 3 38) 37 4 39) 37 5 40) 1 16 37) 41 2 42) 14 0 41) 43 2 44) 14 1 43) 45 2 46) 14 2 45) 47 2 48) 14 3 47)
def okC (R : am_R) : Prop := (∀ a k, a < 49 → ¬ (a = 1 ∧ 14 ≤ k ∧ k ≤ 16) → R a k = rC a k) ∧ ((R 1 15 = 33 ∧ R 1 16 = 37) ∨ (R 1 15 = 37 ∧ R 1 16 = 33)) ∧ (R 1 14 = 0 ∨ (49 ≤ R 1 14 ∧ R (R 1 14) 0 = R 1 14 + 1 ∧ R (R 1 14) 1 = R 1 14 + 2 ∧ R (R 1 14) 2 = R 1 14 + 3 ∧ R (R 1 14) 3 = R 1 14 + 4))
theorem okC.r2_3 {R : am_R} (h : okC R) : R 2 3 = 3 := h.1 2 3 (by decide) (by decide)
theorem okC.r1_0 {R : am_R} (h : okC R) : R 1 0 = 2 := h.1 1 0 (by decide) (by decide)
theorem okC.r4_3 {R : am_R} (h : okC R) : R 4 3 = 5 := h.1 4 3 (by decide) (by decide)
theorem okC.r1_1 {R : am_R} (h : okC R) : R 1 1 = 4 := h.1 1 1 (by decide) (by decide)
theorem okC.r1_2 {R : am_R} (h : okC R) : R 1 2 = 6 := h.1 1 2 (by decide) (by decide)
theorem okC.r1_3 {R : am_R} (h : okC R) : R 1 3 = 7 := h.1 1 3 (by decide) (by decide)
theorem okC.r8_1 {R : am_R} (h : okC R) : R 8 1 = 9 := h.1 8 1 (by decide) (by decide)
theorem okC.r1_5 {R : am_R} (h : okC R) : R 1 5 = 8 := h.1 1 5 (by decide) (by decide)
theorem okC.r10_1 {R : am_R} (h : okC R) : R 10 1 = 11 := h.1 10 1 (by decide) (by decide)
theorem okC.r1_6 {R : am_R} (h : okC R) : R 1 6 = 10 := h.1 1 6 (by decide) (by decide)
theorem okC.r12_1 {R : am_R} (h : okC R) : R 12 1 = 13 := h.1 12 1 (by decide) (by decide)
theorem okC.r1_7 {R : am_R} (h : okC R) : R 1 7 = 12 := h.1 1 7 (by decide) (by decide)
theorem okC.r1_8 {R : am_R} (h : okC R) : R 1 8 = 14 := h.1 1 8 (by decide) (by decide)
theorem okC.r1_9 {R : am_R} (h : okC R) : R 1 9 = 15 := h.1 1 9 (by decide) (by decide)
theorem okC.r16_0 {R : am_R} (h : okC R) : R 16 0 = 17 := h.1 16 0 (by decide) (by decide)
theorem okC.r16_1 {R : am_R} (h : okC R) : R 16 1 = 18 := h.1 16 1 (by decide) (by decide)
theorem okC.r1_10 {R : am_R} (h : okC R) : R 1 10 = 16 := h.1 1 10 (by decide) (by decide)
theorem okC.r19_0 {R : am_R} (h : okC R) : R 19 0 = 20 := h.1 19 0 (by decide) (by decide)
theorem okC.r19_1 {R : am_R} (h : okC R) : R 19 1 = 21 := h.1 19 1 (by decide) (by decide)
theorem okC.r19_2 {R : am_R} (h : okC R) : R 19 2 = 22 := h.1 19 2 (by decide) (by decide)
theorem okC.r19_3 {R : am_R} (h : okC R) : R 19 3 = 23 := h.1 19 3 (by decide) (by decide)
theorem okC.r1_11 {R : am_R} (h : okC R) : R 1 11 = 19 := h.1 1 11 (by decide) (by decide)
theorem okC.r25_0 {R : am_R} (h : okC R) : R 25 0 = 26 := h.1 25 0 (by decide) (by decide)
theorem okC.r25_1 {R : am_R} (h : okC R) : R 25 1 = 27 := h.1 25 1 (by decide) (by decide)
theorem okC.r24_0 {R : am_R} (h : okC R) : R 24 0 = 25 := h.1 24 0 (by decide) (by decide)
theorem okC.r24_8 {R : am_R} (h : okC R) : R 24 8 = 28 := h.1 24 8 (by decide) (by decide)
theorem okC.r24_11 {R : am_R} (h : okC R) : R 24 11 = 29 := h.1 24 11 (by decide) (by decide)
theorem okC.r24_12 {R : am_R} (h : okC R) : R 24 12 = 30 := h.1 24 12 (by decide) (by decide)
theorem okC.r1_12 {R : am_R} (h : okC R) : R 1 12 = 24 := h.1 1 12 (by decide) (by decide)
theorem okC.r31_0 {R : am_R} (h : okC R) : R 31 0 = 32 := h.1 31 0 (by decide) (by decide)
theorem okC.r1_13 {R : am_R} (h : okC R) : R 1 13 = 31 := h.1 1 13 (by decide) (by decide)
theorem okC.r33_3 {R : am_R} (h : okC R) : R 33 3 = 34 := h.1 33 3 (by decide) (by decide)
theorem okC.r33_4 {R : am_R} (h : okC R) : R 33 4 = 35 := h.1 33 4 (by decide) (by decide)
theorem okC.r33_5 {R : am_R} (h : okC R) : R 33 5 = 36 := h.1 33 5 (by decide) (by decide)
theorem okC.r37_3 {R : am_R} (h : okC R) : R 37 3 = 38 := h.1 37 3 (by decide) (by decide)
theorem okC.r37_4 {R : am_R} (h : okC R) : R 37 4 = 39 := h.1 37 4 (by decide) (by decide)
theorem okC.r37_5 {R : am_R} (h : okC R) : R 37 5 = 40 := h.1 37 5 (by decide) (by decide)
theorem okC.r41_2 {R : am_R} (h : okC R) : R 41 2 = 42 := h.1 41 2 (by decide) (by decide)
theorem okC.r14_0 {R : am_R} (h : okC R) : R 14 0 = 41 := h.1 14 0 (by decide) (by decide)
theorem okC.r43_2 {R : am_R} (h : okC R) : R 43 2 = 44 := h.1 43 2 (by decide) (by decide)
theorem okC.r14_1 {R : am_R} (h : okC R) : R 14 1 = 43 := h.1 14 1 (by decide) (by decide)
theorem okC.r45_2 {R : am_R} (h : okC R) : R 45 2 = 46 := h.1 45 2 (by decide) (by decide)
theorem okC.r14_2 {R : am_R} (h : okC R) : R 14 2 = 45 := h.1 14 2 (by decide) (by decide)
theorem okC.r47_2 {R : am_R} (h : okC R) : R 47 2 = 48 := h.1 47 2 (by decide) (by decide)
theorem okC.r14_3 {R : am_R} (h : okC R) : R 14 3 = 47 := h.1 14 3 (by decide) (by decide)
abbrev am_Tx : Type := Nat × (Nat → Nat)
/-- a result: number of states, initial, final, targets of a state with a letter -/
abbrev am_Rs : Type := Nat × Int64 × Int64 × (Nat → Nat → Int64)
/-- a shelf: kind, length, elements -/
abbrev am_Sf : Type := Nat × Nat × (Nat → Int64)
abbrev am_Sv : Type := Option (am_Au × (Nat → Nat))
/-- number of paths of a result with a word, from its initial states to t -/
def rsP (r : am_Rs) (c : Nat → Nat) : Nat → Nat → Nat
  | 0, t => if btl r.2.1 t = true then 1 else 0
  | n + 1, t => am_to (fun s y => y + (if btl (r.2.2.2 s (c n)) t = true then rsP r c n s else 0)) r.1 0
def rsF (r : am_Rs) (c : Nat → Nat) (n : Nat) : Nat := am_to (fun s y => y + (if btl r.2.2.1 s = true then rsP r c n s else 0)) r.1 0
def okRs (r : am_Rs) : Prop := r.1 ≤ 64 ∧ (∀ t, r.1 ≤ t → btl r.2.1 t = false ∧ btl r.2.2.1 t = false) ∧ (∀ s a t, r.1 ≤ t → btl (r.2.2.2 s a) t = false) ∧ ∀ (c : Nat → Nat) (n : Nat), (∀ j, c j < 3) → rsF r c n ≤ 1
def okW (w : Nat → Nat) : Prop := ∀ a, a < 3 → w a ≤ 100
def okS (A : am_Au) (w : Nat → Nat) (sv : am_Sv) (tx wd : am_Tx) (rs : Option am_Rs) (sh : Nat → am_Sf) : Prop :=
  aw A ∧ okW w ∧ (∀ q, sv = some q → aw q.1 ∧ okW q.2) ∧ (tx.1 ≤ 60 ∧ ∀ j, j < tx.1 → 32 ≤ tx.2 j ∧ tx.2 j ≤ 126) ∧ (wd.1 ≤ 20 ∧ ∀ j, wd.2 j < 3) ∧ (∀ r, rs = some r → okRs r) ∧ ∀ k, k < 4 → (sh k).1 ≤ 2 ∧ (sh k).2.1 ≤ 31 ∧ ((sh k).1 = 1 → (sh k).2.1 ≤ 20 ∧ ∀ j, j < (sh k).2.1 → ∃ v, v < 3 ∧ (sh k).2.2 j = lN v)
/-! the class -/
def cW (I : am_I) (w : Nat → Nat) : Prop := ∀ a, a < 3 → I 6 a = nI (w a)
def cS (I : am_I) (sv : am_Sv) : Prop := match sv with
  | none => I 1 4 = 0
  | some q => I 1 4 = 1 ∧ isA I 4 5 q.1 ∧ ∀ a, a < 3 → I 7 a = nI (q.2 a)
def cT (I : am_I) (tx : am_Tx) : Prop := I 8 0 = nI tx.1 ∧ ∀ j, j < tx.1 → I 9 j = nI (tx.2 j)
def cU (I : am_I) (wd : am_Tx) : Prop := I 10 0 = nI wd.1 ∧ ∀ j, j < wd.1 → I 11 j = nI (wd.2 j)
def cR (R : am_R) (I : am_I) (L : am_L) (rs : Option am_Rs) : Prop := match rs with
  | none => I 1 17 = 0
  | some r => I 1 17 = 1 ∧ I (R 1 15) 0 = nI r.1 ∧ L (R 1 15) 1 = r.2.1 ∧ L (R 1 15) 2 = r.2.2.1 ∧ ∀ s a, s < r.1 → a < 3 → L (R (R 1 15) 3) (3 * s + a) = r.2.2.2 s a
def cH (I : am_I) (L : am_L) (sh : Nat → am_Sf) : Prop := ∀ k, k < 4 → I (41 + 2 * k) 0 = nI (sh k).1 ∧ ((sh k).1 ≠ 0 → I (41 + 2 * k) 1 = nI (sh k).2.1 ∧ ∀ j, j < (sh k).2.1 → L (42 + 2 * k) j = (sh k).2.2 j)
/-- the empty set's places in the tables of steps are never written -/
def cZ (I : am_I) : Prop := ∀ a, a < 3 → I 17 (64 * a) = 0 ∧ I 18 (64 * a) = 0 ∧ I 26 (64 * a) = 0 ∧ I 27 (64 * a) = 0
def InvC (R : am_R) (I : am_I) (L : am_L) (A : am_Au) (w : Nat → Nat) (sv : am_Sv) (tx wd : am_Tx) (rs : Option am_Rs) (sh : Nat → am_Sf) : Prop :=
  okC R ∧ isA I 2 3 A ∧ cW I w ∧ cS I sv ∧ cT I tx ∧ cU I wd ∧ cR R I L rs ∧ cH I L sh ∧ cZ I
/-! the reference -/
def mW (J : am_I) (w : Nat → Nat) : Prop := ∀ a, a < 3 → J 4 a = nI (w a)
def mS (J : am_I) (sv : am_Sv) : Prop := match sv with
  | none => J 1 49 = 0
  | some q => J 1 49 = 1 ∧ (∀ a s, a < 3 → s < 6 → J 32 (6 * a + s) = q.1.2.2.2 a s) ∧ (∀ a, a < 3 → J 32 (18 + a) = nI (q.2 a)) ∧ J 32 21 = nI q.1.1 ∧ J 32 22 = q.1.2.1 ∧ J 32 23 = q.1.2.2.1
def mT (J : am_I) (tx : am_Tx) : Prop := J 1 12 = nI tx.1 ∧ ∀ j, j < tx.1 → J 7 j = nI (tx.2 j)
def mU (J : am_I) (wd : am_Tx) : Prop := J 1 16 = nI wd.1 ∧ ∀ j, j < wd.1 → J 9 j = nI (wd.2 j)
def mR (J : am_I) (K : am_L) (rs : Option am_Rs) : Prop := match rs with
  | none => J 1 40 = -4 ∧ K 1 42 = 0 ∧ K 1 43 = 0
  | some r => J 1 40 = nI r.1 ∧ K 1 42 = r.2.1 ∧ K 1 43 = r.2.2.1 ∧ ∀ s a, s < r.1 → a < 3 → K 26 (3 * s + a) = r.2.2.2 s a
def mH (J : am_I) (K : am_L) (sh : Nat → am_Sf) : Prop := ∀ k, k < 4 → J 28 k = nI (sh k).1 ∧ ((sh k).1 ≠ 0 → J 29 k = nI (sh k).2.1 ∧ ∀ j, j < (sh k).2.1 → K 30 (31 * k + j) = (sh k).2.2 j)
/-! what words do: numbers of paths -/
def pn (A : am_Au) : List Nat → Nat → Nat → Nat
  | [], s, t => if s = t then 1 else 0
  | a :: w, s, t => am_to (fun u y => y + (if bt (A.2.2.2 a s) u = true then pn A w u t else 0)) A.1 0
def wdl (w : List Nat) : Prop := ∀ a, a ∈ w → a < 3
/-- accepting paths -/
def acn (A : am_Au) (w : List Nat) : Nat := am_to (fun s y => y + (if bt A.2.1 s = true then am_to (fun t z => z + (if bt A.2.2.1 t = true then pn A w s t else 0)) A.1 0 else 0)) A.1 0
def gAmb (A : am_Au) (w : List Nat) : Prop := wdl w ∧ 2 ≤ acn A w
def gLop (A : am_Au) (s : Nat) (w : List Nat) : Prop := wdl w ∧ 2 ≤ pn A w s s
def gSpl (A : am_Au) (p q : Nat) (w : List Nat) : Prop := wdl w ∧ 1 ≤ pn A w p p ∧ 1 ≤ pn A w p q ∧ 1 ≤ pn A w q q
def isAmb (A : am_Au) : Prop := ∃ w, gAmb A w
def isLop (A : am_Au) (s : Nat) : Prop := s < A.1 ∧ bt (uA A) s = true ∧ ∃ w, gLop A s w
def isSpl (A : am_Au) (p q : Nat) : Prop := p ≠ q ∧ p < A.1 ∧ q < A.1 ∧ bt (uA A) p = true ∧ bt (uA A) q = true ∧ ∃ w, gSpl A p q w
/-- what the reference keeps of an automaton is right -/
def okK (J : am_I) (A : am_Au) : Prop :=
  ((J 1 29 = 1 ∧ isAmb A) ∨ (J 1 29 = 0 ∧ ¬ isAmb A)) ∧ (∀ s, bt (J 1 27) s = true ↔ isLop A s) ∧
  (∀ p q, p < 6 → q < 6 → (J 17 (6 * p + q) = 1 ∧ isSpl A p q) ∨ (J 17 (6 * p + q) = 0 ∧ ¬ isSpl A p q)) ∧
  ∃ k, k ≤ 36 ∧ J 1 28 = nI k ∧ (k = 0 ↔ ∀ p q, ¬ isSpl A p q)
def mK (J : am_I) (A : am_Au) : Prop := J 1 6 = 0 ∨ (J 1 6 = 1 ∧ okK J A)
def InvM (J : am_I) (K : am_L) (A : am_Au) (w : Nat → Nat) (sv : am_Sv) (tx wd : am_Tx) (rs : Option am_Rs) (sh : Nat → am_Sf) : Prop :=
  isM J A ∧ mW J w ∧ mS J sv ∧ mT J tx ∧ mU J wd ∧ mR J K rs ∧ mH J K sh ∧ mK J A
/-- both objects hold the same abstract state -/
def Inv (R : am_R) (I : am_I) (L : am_L) (J : am_I) (K : am_L) : Prop :=
  ∃ (A : am_Au) (w : Nat → Nat) (sv : am_Sv) (tx wd : am_Tx) (rs : Option am_Rs) (sh : Nat → am_Sf), okS A w sv tx wd rs sh ∧ InvC R I L A w sv tx wd rs sh ∧ InvM J K A w sv tx wd rs sh
/-! kept pieces -/
theorem cW.kept {I J : am_I} {w : Nat → Nat} (h : cW I w) (e : J 6 = I 6) : cW J w := fun a ha => by rw [e]; exact h a ha
theorem cS.kept {I J : am_I} {sv : am_Sv} (h : cS I sv) (e0 : J 1 4 = I 1 4) (e4 : J 4 = I 4) (e5 : J 5 = I 5) (e7 : J 7 = I 7) : cS J sv := by
  cases sv with
  | none => exact e0.trans h
  | some q =>
    obtain ⟨h1, h2, h3⟩ := h
    exact ⟨e0.trans h1, h2.kept e4 e5, fun a ha => by rw [e7]; exact h3 a ha⟩
theorem cT.kept {I J : am_I} {tx : am_Tx} (h : cT I tx) (e8 : J 8 = I 8) (e9 : J 9 = I 9) : cT J tx := ⟨by rw [e8]; exact h.1, fun j hj => by rw [e9]; exact h.2 j hj⟩
theorem cU.kept {I J : am_I} {wd : am_Tx} (h : cU I wd) (e8 : J 10 = I 10) (e9 : J 11 = I 11) : cU J wd := ⟨by rw [e8]; exact h.1, fun j hj => by rw [e9]; exact h.2 j hj⟩
theorem cR.kept {R : am_R} {I J : am_I} {L K : am_L} {rs : Option am_Rs} (h : cR R I L rs) (e1 : J 1 17 = I 1 17) (e2 : J (R 1 15) = I (R 1 15)) (e3 : K (R 1 15) = L (R 1 15)) (e4 : K (R (R 1 15) 3) = L (R (R 1 15) 3)) : cR R J K rs := by
  cases rs with
  | none => exact e1.trans h
  | some r =>
    obtain ⟨h1, h2, h3, h4, h5⟩ := h
    exact ⟨e1.trans h1, by rw [e2]; exact h2, by rw [e3]; exact h3, by rw [e3]; exact h4, fun s a hs ha => by rw [e4]; exact h5 s a hs ha⟩
theorem cH.kept {I J : am_I} {L K : am_L} {sh : Nat → am_Sf} (h : cH I L sh) (e1 : ∀ b, 41 ≤ b → b < 49 → J b = I b) (e2 : ∀ b, 41 ≤ b → b < 49 → K b = L b) : cH J K sh := fun k hk => by
  obtain ⟨h1, h2⟩ := h k hk
  rw [e1 (41 + 2 * k) (by omega) (by omega), e2 (42 + 2 * k) (by omega) (by omega)]
  exact ⟨h1, h2⟩
theorem cZ.kept {I J : am_I} (h : cZ I) (e1 : J 17 = I 17) (e2 : J 18 = I 18) (e3 : J 26 = I 26) (e4 : J 27 = I 27) : cZ J := by unfold cZ; rw [e1, e2, e3, e4]; exact h
/-- the class's cells below 12 and its shelves and its result stay -/
def frC (R : am_R) (I : am_I) (L : am_L) (I' : am_I) (L' : am_L) : Prop := (∀ b, b < 12 → I' b = I b) ∧ (∀ b, 41 ≤ b → b < 49 → I' b = I b ∧ L' b = L b) ∧ I' (R 1 15) = I (R 1 15) ∧ L' (R 1 15) = L (R 1 15) ∧ L' (R (R 1 15) 3) = L (R (R 1 15) 3) ∧ (cZ I → cZ I')
theorem InvC.kept {R : am_R} {I : am_I} {L : am_L} {I' : am_I} {L' : am_L} {A : am_Au} {w : Nat → Nat} {sv : am_Sv} {tx wd : am_Tx} {rs : Option am_Rs} {sh : Nat → am_Sf} (h : InvC R I L A w sv tx wd rs sh) (f : frC R I L I' L') : InvC R I' L' A w sv tx wd rs sh := by
  obtain ⟨h0, h1, h2, h3, h4, h5, h6, h7, h8⟩ := h
  obtain ⟨f1, f2, f3, f4, f5, f6⟩ := f
  exact ⟨h0, h1.kept (f1 2 (by omega)) (f1 3 (by omega)), h2.kept (f1 6 (by omega)), h3.kept (by rw [f1 1 (by omega)]) (f1 4 (by omega)) (f1 5 (by omega)) (f1 7 (by omega)), h4.kept (f1 8 (by omega)) (f1 9 (by omega)), h5.kept (f1 10 (by omega)) (f1 11 (by omega)), h6.kept (by rw [f1 1 (by omega)]) f3 f4 f5, h7.kept (fun b x y => (f2 b x y).1) (fun b x y => (f2 b x y).2), f6 h8⟩
theorem isM.kept {I J : am_I} {A : am_Au} (h : isM I A) (h1 : ∀ k, 3 ≤ k → k ≤ 5 → J 1 k = I 1 k) (h2 : J 2 = I 2) : isM J A := by
  obtain ⟨a, b, c, d⟩ := h
  exact ⟨by rw [h1 3 (by omega) (by omega)]; exact a, by rw [h1 4 (by omega) (by omega)]; exact b, by rw [h1 5 (by omega) (by omega)]; exact c, fun x y hx hy => by rw [h2]; exact d x y hx hy⟩
theorem mW.kept {I J : am_I} {w : Nat → Nat} (h : mW I w) (e : J 4 = I 4) : mW J w := fun a ha => by rw [e]; exact h a ha
theorem mS.kept {I J : am_I} {sv : am_Sv} (h : mS I sv) (e0 : J 1 49 = I 1 49) (e : J 32 = I 32) : mS J sv := by
  cases sv with
  | none => exact e0.trans h
  | some q =>
    obtain ⟨h1, h2⟩ := h
    exact ⟨e0.trans h1, by rw [e]; exact h2⟩
theorem mT.kept {I J : am_I} {tx : am_Tx} (h : mT I tx) (e0 : J 1 12 = I 1 12) (e : J 7 = I 7) : mT J tx := ⟨e0.trans h.1, by rw [e]; exact h.2⟩
theorem mU.kept {I J : am_I} {tx : am_Tx} (h : mU I tx) (e0 : J 1 16 = I 1 16) (e : J 9 = I 9) : mU J tx := ⟨e0.trans h.1, by rw [e]; exact h.2⟩
theorem mR.kept {I J : am_I} {L K : am_L} {rs : Option am_Rs} (h : mR I L rs) (e0 : J 1 40 = I 1 40) (e1 : K 1 = L 1) (e : K 26 = L 26) : mR J K rs := by
  cases rs with
  | none => exact ⟨e0.trans h.1, by rw [e1]; exact h.2⟩
  | some r => exact ⟨e0.trans h.1, by rw [e1, e]; exact h.2⟩
theorem mH.kept {I J : am_I} {L K : am_L} {sh : Nat → am_Sf} (h : mH I L sh) (e1 : J 28 = I 28) (e2 : J 29 = I 29) (e3 : K 30 = L 30) : mH J K sh := by
  unfold mH; rw [e1, e2, e3]; exact h
theorem okK.kept {I J : am_I} {A : am_Au} (h : okK I A) (e1 : ∀ k, 27 ≤ k → k ≤ 29 → J 1 k = I 1 k) (e2 : J 17 = I 17) : okK J A := by
  unfold okK; rw [e1 27 (by omega) (by omega), e1 28 (by omega) (by omega), e1 29 (by omega) (by omega), e2]; exact h
theorem mK.kept {I J : am_I} {A : am_Au} (h : mK I A) (e0 : J 1 6 = I 1 6) (e1 : ∀ k, 27 ≤ k → k ≤ 29 → J 1 k = I 1 k) (e2 : J 17 = I 17) : mK J A := by
  unfold mK; rw [e0]
  exact h.imp id (fun h => ⟨h.1, h.2.kept e1 e2⟩)
/-- the fields of the reference's object that hold its state; all but its scratch -/
def kfM (k : Nat) : Bool := !(k == 9 || k == 13 || k == 14 || k == 21 || k == 25 || k == 41)
def kcM (b : Nat) : Bool := b == 2 || b == 4 || b == 7 || b == 9 || b == 17 || b == 28 || b == 29 || b == 32
def frM (J : am_I) (K : am_L) (J' : am_I) (K' : am_L) : Prop := (∀ k, kfM k = true → J' 1 k = J 1 k) ∧ (∀ b, kcM b = true → J' b = J b) ∧ K' 1 = K 1 ∧ K' 26 = K 26 ∧ K' 30 = K 30
theorem frM.rf (J : am_I) (K : am_L) : frM J K J K := ⟨fun _ _ => rfl, fun _ _ => rfl, rfl, rfl, rfl⟩
theorem frC.rf (R : am_R) (I : am_I) (L : am_L) : frC R I L I L := ⟨fun _ _ => rfl, fun _ _ _ => ⟨rfl, rfl⟩, rfl, rfl, rfl, id⟩
theorem frM.trans {J : am_I} {K : am_L} {J1 : am_I} {K1 : am_L} {J2 : am_I} {K2 : am_L} (h : frM J K J1 K1) (g : frM J1 K1 J2 K2) : frM J K J2 K2 := ⟨fun k hk => (g.1 k hk).trans (h.1 k hk), fun b hb => (g.2.1 b hb).trans (h.2.1 b hb), g.2.2.1.trans h.2.2.1, g.2.2.2.1.trans h.2.2.2.1, g.2.2.2.2.trans h.2.2.2.2⟩
theorem frC.trans {R : am_R} {I : am_I} {L : am_L} {I1 : am_I} {L1 : am_L} {I2 : am_I} {L2 : am_L} (h : frC R I L I1 L1) (g : frC R I1 L1 I2 L2) : frC R I L I2 L2 := ⟨fun b hb => (g.1 b hb).trans (h.1 b hb), fun b x y => ⟨(g.2.1 b x y).1.trans (h.2.1 b x y).1, (g.2.1 b x y).2.trans (h.2.1 b x y).2⟩, g.2.2.1.trans h.2.2.1, g.2.2.2.1.trans h.2.2.2.1, g.2.2.2.2.1.trans h.2.2.2.2.1, fun q => g.2.2.2.2.2 (h.2.2.2.2.2 q)⟩
theorem InvM.kept {J : am_I} {K : am_L} {J' : am_I} {K' : am_L} {A : am_Au} {w : Nat → Nat} {sv : am_Sv} {tx wd : am_Tx} {rs : Option am_Rs} {sh : Nat → am_Sf} (h : InvM J K A w sv tx wd rs sh) (f : frM J K J' K') : InvM J' K' A w sv tx wd rs sh := by
  obtain ⟨h1, h2, h3, h4, h5, h6, h7, h8⟩ := h
  obtain ⟨f1, f2, f3, f4, f5⟩ := f
  have f1' : ∀ a b, (∀ k, a ≤ k → k ≤ b → kfM k = true) → ∀ k, a ≤ k → k ≤ b → J' 1 k = J 1 k := fun a b q k x y => f1 k (q k x y)
  refine ⟨h1.kept (f1' 3 5 (fun k x y => ?_)) (f2 2 rfl), h2.kept (f2 4 rfl), h3.kept (f1 49 rfl) (f2 32 rfl), h4.kept (f1 12 rfl) (f2 7 rfl), h5.kept (f1 16 rfl) (f2 9 rfl), h6.kept (f1 40 rfl) f3 f4, h7.kept (f2 28 rfl) (f2 29 rfl) f5, h8.kept (f1 6 rfl) (f1' 27 29 (fun k x y => ?_)) (f2 17 rfl)⟩
  · have : k = 3 ∨ k = 4 ∨ k = 5 := by omega
    rcases this with rfl | rfl | rfl <;> rfl
  · have : k = 27 ∨ k = 28 ∨ k = 29 := by omega
    rcases this with rfl | rfl | rfl <;> rfl
