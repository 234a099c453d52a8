/-! the reference's search: memory, reaching a node -/
abbrev am_Bs : Type := (Nat → Nat) × (Nat → Nat) × Nat
def rea (f x : Nat) (s : am_Bs) : am_Bs := if s.1 x < 1000 then s else (updN s.1 x f, updN s.2.1 s.2.2 x, s.2.2 + 1)
def src (A : am_Au) (a t n : Nat) : Int32 := am_to (fun s y => y ||| (if bt (A.2.2.2 a s) t = true then (1 : Int32) <<< (nI s &&& 31) else 0)) n 0
theorem bt_src {A : am_Au} {a t n s : Nat} (hn : n ≤ 6) : bt (src A a t n) s = true ↔ s < n ∧ bt (A.2.2.2 a s) t = true := by
  unfold src
  rw [bt_to_or (fun s => if bt (A.2.2.2 a s) t = true then (1 : Int32) <<< (nI s &&& 31) else 0)]
  constructor
  · rintro (h | ⟨s', hs, h⟩)
    · rw [bt_zero] at h; cases h
    · by_cases q : bt (A.2.2.2 a s') t = true
      · rw [if_pos q, bt_1s (by omega)] at h
        have : s = s' := of_decide_eq_true h
        subst this; exact ⟨hs, q⟩
      · rw [if_neg q, bt_zero] at h; cases h
  · rintro ⟨h1, h2⟩
    exact Or.inr ⟨s, h1, by rw [if_pos h2, bt_1s (by omega)]; exact decide_eq_true rfl⟩
/-- the reference's memory while it searches -/
def srM (J : am_I) (A : am_Au) (s : am_Bs) : Prop := isM J A ∧ (∀ a t, a < 3 → t < 6 → J 3 (6 * a + t) = src A a t 6) ∧ (∀ x, x < 216 → J 12 x = nI (s.1 x)) ∧ (∀ i, i < s.2.2 → J 13 i = nI (s.2.1 i)) ∧ J 1 21 = nI s.2.2 ∧ ∀ x, s.1 x ≤ 1000
def sfr (J J' : am_I) : Prop := (∀ b, b ≠ 1 → b ≠ 3 → b ≠ 12 → b ≠ 13 → J' b = J b) ∧ ∀ k, k ≠ 21 → J' 1 k = J 1 k
theorem sfr.rf (J : am_I) : sfr J J := ⟨fun _ _ _ _ _ => rfl, fun _ _ => rfl⟩
theorem sfr.tr {J J1 J2 : am_I} (h : sfr J J1) (g : sfr J1 J2) : sfr J J2 := ⟨fun b x y z t => (g.1 b x y z t).trans (h.1 b x y z t), fun k hk => (g.2 k hk).trans (h.2 k hk)⟩
theorem e_reaches {J : am_I} {A : am_Au} {s : am_Bs} (h : srM J A s) {x f : Nat} (hx : x < 216) (hf : f ≤ 1000) (hm : ¬ s.1 x < 1000 → s.2.2 < 216) : ∃ J', pX11_reaches rM J 1 (nI x) (nI f) = some J' ∧ srM J' A (rea f x s) ∧ sfr J J' := by
  obtain ⟨h1, h2, h3, h4, h5, h6⟩ := h
  unfold pX11_reaches
  rw [inb hx (by omega), am_ck_true, rM19, nIcl (show x < 1000000 by omega), h3 x hx]
  unfold rea
  by_cases q : s.1 x < 1000
  · have c : ¬ (1000 : Int32) ≤ nI (s.1 x) := nI_ge (b := 1000) q (by omega)
    rw [if_neg c, if_pos q]
    exact ⟨J, rfl, ⟨h1, h2, h3, h4, h5, h6⟩, sfr.rf J⟩
  · have c : (1000 : Int32) ≤ nI (s.1 x) := nI_le (a := 1000) (by omega) (by have := h6 x; omega)
    have hm := hm q
    rw [if_pos c, if_neg q, am_ck_true, am_let_e]
    have e21 : am_upI J 12 x (nI f) 1 21 = nI s.2.2 := by rw [am_upI_ne (by decide)]; exact h5
    rw [e21, inb hm (by omega), am_ck_true, am_let_e, rM20, nIcl (show s.2.2 < 1000000 by omega), am_let_e]
    have e21' : am_upI (am_upI J 12 x (nI f)) 13 s.2.2 (nI x) 1 21 = nI s.2.2 := by rw [am_upI_ne (by decide)]; exact e21
    rw [e21', nI_1]
    refine ⟨_, rfl, ⟨h1.kept (fun k a b => ?_) ?_, fun a t ha ht => ?_, fun y hy => ?_, fun i hi => ?_, am_upI_s, fun y => ?_⟩, ⟨fun b x1 x2 x3 x4 => ?_, fun k hk => ?_⟩⟩
    · rw [am_upI_o (by omega), am_upI_ne (by decide), am_upI_ne (by decide)]
    · rw [am_upI_ne (by decide), am_upI_ne (by decide), am_upI_ne (by decide)]
    · rw [am_upI_ne (by decide), am_upI_ne (by decide), am_upI_ne (by decide)]; exact h2 a t ha ht
    · rw [am_upI_ne (by decide), am_upI_ne (by decide)]
      show am_upI J 12 x (nI f) 12 y = nI (updN s.1 x f y)
      by_cases e : y = x
      · subst e; rw [am_upI_s, updN_s]
      · rw [am_upI_o e, updN_o e]; exact h3 y hy
    · have hi : i < s.2.2 + 1 := hi
      rw [am_upI_ne (by decide)]
      show am_upI (am_upI J 12 x (nI f)) 13 s.2.2 (nI x) 13 i = nI (updN s.2.1 s.2.2 x i)
      by_cases e : i = s.2.2
      · subst e; rw [am_upI_s, updN_s]
      · rw [am_upI_o e, updN_o e, am_upI_ne (by decide)]; exact h4 i (by omega)
    · show updN s.1 x f y ≤ 1000
      by_cases e : y = x
      · subst e; rw [updN_s]; exact hf
      · rw [updN_o e]; exact h6 y
    · rw [am_upI_ne x1, am_upI_ne x4, am_upI_ne x3]
    · rw [am_upI_o hk, am_upI_ne (by decide), am_upI_ne (by decide)]
/-- while node number k, v, is gone through: what is done is reached -/
def BI (N : Nat) (ed : Nat → Nat → Nat → Prop) (F : Nat → Prop) (k v dl : Nat) (Dn : Nat → Prop) (s : am_Bs) : Prop := BQ N ed F s.1 s.2.1 s.2.2 k ∧ k < s.2.2 ∧ s.2.1 k = v ∧ s.1 v = dl ∧ ∀ x, Dn x → s.1 x < 1000
theorem BI.mono {N : Nat} {ed : Nat → Nat → Nat → Prop} {F : Nat → Prop} {k v dl : Nat} {Dn Dn' : Nat → Prop} {s : am_Bs} (h : BI N ed F k v dl Dn s) (g : ∀ x, Dn' x → Dn x) : BI N ed F k v dl Dn' s := ⟨h.1, h.2.1, h.2.2.1, h.2.2.2.1, fun x hx => h.2.2.2.2 x (g x hx)⟩
theorem BI.room {N : Nat} {ed : Nat → Nat → Nat → Prop} {F : Nat → Prop} {k v dl : Nat} {Dn : Nat → Prop} {s : am_Bs} (h : BI N ed F k v dl Dn s) {x : Nat} (hx : x < N) (hd : ¬ s.1 x < 1000) : s.2.2 < N := by
  have h7 := h.1.2.2.2.2.2.2.1
  have := sum_upd (f := fun y => if s.1 y < 1000 then 1 else 0) (x := x) (v := 1) N hx
  rw [if_neg hd] at this
  have h9 := sumN_le (f := updN (fun y => if s.1 y < 1000 then 1 else 0) x 1) (g := fun _ => 1) N (fun y _ => by
    by_cases e : y = x
    · subst e; rw [updN_s]; exact Nat.le_refl _
    · rw [updN_o e]
      by_cases q : s.1 y < 1000
      · rw [if_pos q]; exact Nat.le_refl _
      · rw [if_neg q]; exact Nat.zero_le _)
  have h10 : ∀ n, sumN (fun _ => 1) n = n := fun n => by
    induction n with
    | zero => rfl
    | succ n ih => rw [sumN_s, ih]
  rw [h10] at h9
  omega
theorem BI.put {N : Nat} {ed : Nat → Nat → Nat → Prop} {F : Nat → Prop} {k v dl : Nat} {Dn : Nat → Prop} {s : am_Bs} (h : BI N ed F k v dl Dn s) (hN : N < 900) {x : Nat} (hx : x < N) (he : ∃ a, a < 3 ∧ ed a x v) : BI N ed F k v dl (fun y => Dn y ∨ y = x) (rea (dl + 1) x s) := by
  obtain ⟨h1, h2, h3, h4, h5⟩ := h
  unfold rea
  by_cases q : s.1 x < 1000
  · rw [if_pos q]
    refine ⟨h1, h2, h3, h4, fun y hy => ?_⟩
    rcases hy with hy | rfl
    · exact h5 y hy
    · exact q
  · rw [if_neg q]
    have hv := h1.1 k h2
    rw [h3, h4] at hv
    have hw : hasW N ed F x (dl + 1) := by
      obtain ⟨w, w1, w2, w3⟩ := hv.2.2.1
      obtain ⟨a, ha, e⟩ := he
      exact ⟨a :: w, wdl_cons.mpr ⟨ha, w1⟩, by rw [List.length_cons, w2], v, hv.1, e, w3⟩
    have hb := h1.reach h2 hx hN q (by rw [h3, h4]; exact hw)
    rw [h3, h4] at hb
    have hvx : v ≠ x := fun e => by subst e; exact q (by rw [h4]; exact hv.2.1)
    refine ⟨hb, by show k < s.2.2 + 1; omega, ?_, ?_, fun y hy => ?_⟩
    · show updN s.2.1 s.2.2 x k = v
      rw [updN_o (by omega)]; exact h3
    · show updN s.1 x (dl + 1) v = dl
      rw [updN_o hvx]; exact h4
    · show updN s.1 x (dl + 1) y < 1000
      by_cases e : y = x
      · subst e; rw [updN_s]
        have := h1.m_le
        have := hv.2.2.2
        omega
      · rw [updN_o e]
        rcases hy with hy | hy
        · exact h5 y hy
        · exact absurd hy e
section
variable {A : am_Au}
theorem e_pN {p q : Nat} (hp : p < 1000) (hq : q < 1000) (b : Bool) : pX11_pairNode (nI p) (nI q) (bI b) = some (nI (nP p q b)) := by
  unfold pX11_pairNode
  have e : (2 : Int32) * ((6 : Int32) * nI p + nI q) = nI (2 * (6 * p + q)) := by
    rw [ix6, show (2 : Int32) = nI 2 from rfl, pk_mul]
  rw [e]
  cases b
  · rw [if_pos (show bI false = 0 from rfl)]
    show some (nI (2 * (6 * p + q)) + nI 0) = _
    rw [nI_add]; rfl
  · rw [if_neg (show ¬ bI true = 0 by decide)]
    show some (nI (2 * (6 * p + q)) + nI 1) = _
    rw [nI_add]; rfl
theorem e_sp161 (hw : aw A) {F : Nat → Prop} {J : am_I} {s0 : am_Bs} {k p q dl a s : Nat} {b : Bool} {Dn : Nat → Prop} (hS : srM J A s0) (hB : BI 72 (edP A) F k (nP p q b) dl Dn s0) (hp : p < 6) (hq : q < 6) (ha : a < 3) (hs : s < A.1) (v2 : Int32) (j : am_I → Option am_I) :
    ∃ J' s', lX11_spreadsPairs_161 rM 1 v2 (nI p) (nI q) (bI b) (nI (dl + 1)) (nI a) (src A a p 6) (src A a q 6) (nI s) j am_fu (0 : Int32) J = j J' ∧ srM J' A s' ∧ BI 72 (edP A) F k (nP p q b) dl (fun y => Dn y ∨ ∃ t, t < A.1 ∧ b = true ∧ bt (src A a p 6) s = true ∧ bt (src A a q 6) t = true ∧ y = nP s t true) s' ∧ sfr J J' := by
  have h6 := hw.2.1
  have hdl : dl + 1 ≤ 1000 := by
    have := hB.1.1 k hB.2.1
    rw [hB.2.2.1, hB.2.2.2.1] at this
    have := hB.1.m_le
    omega
  cases b with
  | false =>
    refine ⟨J, s0, ?_, hS, hB.mono (fun y hy => hy.elim id (fun ⟨_, _, h, _⟩ => by cases h)), sfr.rf J⟩
    obtain ⟨n, hn⟩ : ∃ n, am_fu = n + 1 := ⟨am_fu - 1, by have := am_fu_ge; omega⟩
    rw [hn]
    show sX11_spreadsPairs_161 rM 1 v2 (nI p) (nI q) (bI false) (nI (dl + 1)) (nI a) (src A a p 6) (src A a q 6) (nI s) j _ (nI 0) J = _
    unfold sX11_spreadsPairs_161
    rw [hS.1.1, if_neg (nIge (show 0 < A.1 by omega) (by omega)), if_pos (show bI false = 0 from rfl)]
  | true =>
    obtain ⟨⟨J', s'⟩, e, h1, h2, h3⟩ := am_for0 (fun n i (M : am_I × am_Bs) => lX11_spreadsPairs_161 rM 1 v2 (nI p) (nI q) (bI true) (nI (dl + 1)) (nI a) (src A a p 6) (src A a q 6) (nI s) j n (nI i) M.1) A.1 (fun i M => srM M.1 A M.2 ∧ BI 72 (edP A) F k (nP p q true) dl (fun y => Dn y ∨ ∃ t, t < i ∧ true = true ∧ bt (src A a p 6) s = true ∧ bt (src A a q 6) t = true ∧ y = nP s t true) M.2 ∧ sfr J M.1) (fun M => j M.1) (by omega) (fun n t M ht hP => by
      obtain ⟨p1, p2, p3⟩ := hP
      have h0 := p1.1.1
      by_cases b1 : bt (src A a p 6) s = true
      · by_cases b2 : bt (src A a q 6) t = true
        · have hxn : nP s t true < 72 := nP_lt (by omega) (by omega) true
          have hed : ∃ a, a < 3 ∧ edP A a (nP s t true) (nP p q true) := by
            obtain ⟨v1, v2, v3⟩ := nP_v (p := s) (show t < 6 by omega) true
            obtain ⟨u1, u2, u3⟩ := nP_v (p := p) hq true
            refine ⟨a, ha, Or.inl v3, ⟨fun _ => Or.inl v3, fun _ => u3⟩, ?_, ?_⟩
            · rw [v1, u1]; exact ((bt_src (Nat.le_refl 6)).mp b1).2
            · rw [v2, u2]; exact ((bt_src (Nat.le_refl 6)).mp b2).2
          obtain ⟨J2, e2, q1, q2⟩ := e_reaches p1 (x := nP s t true) (f := dl + 1) (by omega) hdl (fun hd => by have := p2.room hxn hd; omega)
          refine ⟨(J2, rea (dl + 1) (nP s t true) M.2), ?_, q1, (p2.put (by omega) hxn hed).mono (fun y hy => ?_), p3.tr q2⟩
          · simp only [lX11_spreadsPairs_161, sX11_spreadsPairs_161, h0, nIge ht (show A.1 < 1000000 by omega), if_false, show ¬ bI true = 0 by decide, e_hb _ (show s < 32 by omega), e_hb _ (show t < 32 by omega), am_bd, am_jn_e, bI0, ite_not, Bool.false_eq_true, b1, b2, if_true, show (1 : Int32) = bI true from rfl, e_pN (show s < 1000 by omega) (show t < 1000 by omega), e2]
            rw [show bI true = (1 : Int32) from rfl, nI_1]
          · rcases hy with hy | ⟨t', g1, g2⟩
            · exact Or.inl (Or.inl hy)
            · by_cases e : t' = t
              · subst e; exact Or.inr g2.2.2.2
              · exact Or.inl (Or.inr ⟨t', by omega, g2⟩)
        · refine ⟨M, ?_, p1, p2.mono (fun y hy => ?_), p3⟩
          · simp only [lX11_spreadsPairs_161, sX11_spreadsPairs_161, h0, nIge ht (show A.1 < 1000000 by omega), if_false, show ¬ bI true = 0 by decide, e_hb _ (show s < 32 by omega), e_hb _ (show t < 32 by omega), am_bd, am_jn_e, bI0, ite_not, Bool.false_eq_true, b1, b2, if_true, nI_1]
          · rcases hy with hy | ⟨t', g1, g2⟩
            · exact Or.inl hy
            · by_cases e : t' = t
              · subst e; exact absurd g2.2.2.1 b2
              · exact Or.inr ⟨t', by omega, g2⟩
      · refine ⟨M, ?_, p1, p2.mono (fun y hy => ?_), p3⟩
        · simp only [lX11_spreadsPairs_161, sX11_spreadsPairs_161, h0, nIge ht (show A.1 < 1000000 by omega), if_false, show ¬ bI true = 0 by decide, e_hb _ (show s < 32 by omega), am_bd, am_jn_e, bI0, ite_not, Bool.false_eq_true, b1, nI_1]
        · rcases hy with hy | ⟨t', g1, g2⟩
          · exact Or.inl hy
          · exact absurd g2.2.1 b1) (fun n M hP => by
      simp only [lX11_spreadsPairs_161, sX11_spreadsPairs_161, hP.1.1.1, nIle (show A.1 < 1000000 by omega), if_true]) (J, s0) ⟨hS, hB.mono (fun y hy => hy.elim id (fun ⟨t, ht, _⟩ => absurd ht (Nat.not_lt_zero t))), sfr.rf J⟩
    exact ⟨J', s', e, h1, h2, h3⟩
theorem e_sp106 (hw : aw A) {F : Nat → Prop} {J : am_I} {s0 : am_Bs} {k p q dl a : Nat} {b : Bool} {Dn : Nat → Prop} (hS : srM J A s0) (hB : BI 72 (edP A) F k (nP p q b) dl Dn s0) (hp : p < 6) (hq : q < 6) (ha : a < 3) (v2 : Int32) (j : am_I → Option am_I) :
    ∃ J' s', lX11_spreadsPairs_106 rM 1 v2 (nI p) (nI q) (bI b) (nI (dl + 1)) (nI a) (src A a p 6) (src A a q 6) j am_fu (0 : Int32) J = j J' ∧ srM J' A s' ∧ BI 72 (edP A) F k (nP p q b) dl (fun y => Dn y ∨ (y < 72 ∧ edP A a y (nP p q b))) s' ∧ sfr J J' := by
  have h6 := hw.2.1
  have hdl : dl + 1 ≤ 1000 := by
    have := hB.1.1 k hB.2.1
    rw [hB.2.2.1, hB.2.2.2.1] at this
    have := hB.1.m_le
    omega
  obtain ⟨u1, u2, u3⟩ := nP_v (p := p) hq b
  obtain ⟨⟨J', s'⟩, e, h1, h2, h3⟩ := am_for0 (fun n i (M : am_I × am_Bs) => lX11_spreadsPairs_106 rM 1 v2 (nI p) (nI q) (bI b) (nI (dl + 1)) (nI a) (src A a p 6) (src A a q 6) j n (nI i) M.1) A.1 (fun i M => srM M.1 A M.2 ∧ BI 72 (edP A) F k (nP p q b) dl (fun y => Dn y ∨ (y < 72 ∧ y / 12 < i ∧ edP A a y (nP p q b))) M.2 ∧ sfr J M.1) (fun M => j M.1) (by omega) (fun n s M hs hP => by
    obtain ⟨p1, p2, p3⟩ := hP
    have h0 := p1.1.1
    have hxn : nP s s false < 72 := nP_lt (by omega) (by omega) false
    obtain ⟨v1, w2, v3⟩ := nP_v (p := s) (show s < 6 by omega) false
    -- the node of one state
    have first : ∃ J2 s2, (∀ jj : am_I → Option am_I, (if bt (src A a p 6 &&& src A a q 6) s = true then (if bI b = (if nI p = nI q then (0 : Int32) else 1) then Option.bind (pX11_pairNode (nI s) (nI s) (0 : Int32)) (fun r57 => Option.bind (pX11_reaches rM M.1 1 r57 (nI (dl + 1))) (fun r58 => jj r58)) else jj M.1) else jj M.1) = jj J2) ∧ srM J2 A s2 ∧ BI 72 (edP A) F k (nP p q b) dl (fun y => (Dn y ∨ (y < 72 ∧ y / 12 < s ∧ edP A a y (nP p q b))) ∨ (y = nP s s false ∧ edP A a y (nP p q b))) s2 ∧ sfr M.1 J2 := by
      have epq : (if nI p = nI q then (0 : Int32) else 1) = bI (decide (p ≠ q)) := by
        by_cases g : p = q
        · rw [if_pos (by rw [g]), decide_eq_false (fun h => h g)]; rfl
        · rw [if_neg (fun h => g ((nI_eq (by omega) (by omega)).mp h)), decide_eq_true g]; rfl
      have ebb : ∀ c d : Bool, bI c = bI d ↔ c = d := by decide
      by_cases hc : bt (src A a p 6 &&& src A a q 6) s = true ∧ b = decide (p ≠ q)
      · have hcb := hc.1
        rw [bt_and, Bool.and_eq_true] at hcb
        have hed : edP A a (nP s s false) (nP p q b) := by
          refine ⟨Or.inr (by rw [v1, w2]), ?_, ?_, ?_⟩
          · rw [u1, u2, u3, v3, hc.2]
            by_cases g : p = q
            · rw [decide_eq_false (fun h => h g)]; simp [g]
            · rw [decide_eq_true g]; simp [g]
          · rw [v1, u1]; exact ((bt_src (Nat.le_refl 6)).mp hcb.1).2
          · rw [w2, u2]; exact ((bt_src (Nat.le_refl 6)).mp hcb.2).2
        obtain ⟨J2, e2, q1, q2⟩ := e_reaches p1 (x := nP s s false) (f := dl + 1) (by omega) hdl (fun hd => by have := p2.room hxn hd; omega)
        refine ⟨J2, rea (dl + 1) (nP s s false) M.2, fun jj => ?_, q1, (p2.put (by omega) hxn ⟨a, ha, hed⟩).mono (fun y hy => hy.imp id (fun h => h.1)), q2⟩
        rw [if_pos hc.1, epq, if_pos ((ebb _ _).mpr hc.2), show (0 : Int32) = bI false from rfl, e_pN (by omega) (by omega), am_bd, e2, am_bd]
      · refine ⟨M.1, M.2, fun jj => ?_, p1, p2.mono (fun y hy => ?_), sfr.rf _⟩
        · by_cases g : bt (src A a p 6 &&& src A a q 6) s = true
          · rw [if_pos g, epq, if_neg (fun h => hc ⟨g, (ebb _ _).mp h⟩)]
          · rw [if_neg g]
        · rcases hy with hy | ⟨rfl, g⟩
          · exact hy
          · exfalso
            apply hc
            obtain ⟨g1, g2, g3, g4⟩ := g
            rw [v1, u1] at g3
            rw [w2, u2] at g4
            rw [u1, u2, u3, v3] at g2
            refine ⟨?_, ?_⟩
            · rw [bt_and, Bool.and_eq_true]
              exact ⟨(bt_src (Nat.le_refl 6)).mpr ⟨by omega, g3⟩, (bt_src (Nat.le_refl 6)).mpr ⟨by omega, g4⟩⟩
            · cases b
              · by_cases g : p = q
                · rw [decide_eq_false (fun h => h g)]
                · have := g2.mpr (Or.inr g); cases this
              · rcases g2.mp rfl with h | h
                · cases h
                · rw [decide_eq_true h]
    obtain ⟨J2, s2, e2, q1, q2, q3⟩ := first
    obtain ⟨J3, s3, e3, r1, r2, r3⟩ := e_sp161 hw q1 q2 hp hq ha hs v2 (fun J38 => lX11_spreadsPairs_106 rM 1 v2 (nI p) (nI q) (bI b) (nI (dl + 1)) (nI a) (src A a p 6) (src A a q 6) j n (nI s + 1) J38)
    refine ⟨(J3, s3), ?_, r1, r2.mono (fun y hy => ?_), (p3.tr q3).tr r3⟩
    · show sX11_spreadsPairs_106 rM 1 v2 (nI p) (nI q) (bI b) (nI (dl + 1)) (nI a) (src A a p 6) (src A a q 6) j (lX11_spreadsPairs_106 rM 1 v2 (nI p) (nI q) (bI b) (nI (dl + 1)) (nI a) (src A a p 6) (src A a q 6) j n) (nI s) M.1 = _
      unfold sX11_spreadsPairs_106
      rw [h0, if_neg (nIge hs (by omega)), e_hb _ (show s < 32 by omega), am_bd, am_jn_e]
      simp only [bI0, ite_not, Bool.false_eq_true, am_let_e, am_jn_e]
      rw [e2 (fun J36 => lX11_spreadsPairs_161 rM 1 v2 (nI p) (nI q) (bI b) (nI (dl + 1)) (nI a) (src A a p 6) (src A a q 6) (nI s) (fun J38 => lX11_spreadsPairs_106 rM 1 v2 (nI p) (nI q) (bI b) (nI (dl + 1)) (nI a) (src A a p 6) (src A a q 6) j n (nI s + 1) J38) am_fu (0 : Int32) J36), e3, nI_1]
    · rcases hy with hy | ⟨g1, g2, g3⟩
      · exact Or.inl (Or.inl (Or.inl hy))
      · by_cases e : y / 12 = s
        · obtain ⟨x, z, c, hx, hz, rfl⟩ := nP_of g1
          obtain ⟨y1, y2, y3⟩ := nP_v (p := x) hz c
          rw [y1] at e
          subst e
          obtain ⟨f1, f2, f3, f4⟩ := g3
          cases c with
          | false =>
            left; right
            have hxz : x = z := by
              rcases f1 with f1 | f1
              · rw [y3] at f1; cases f1
              · rw [y1, y2] at f1; exact f1
            subst hxz
            exact ⟨rfl, f1, f2, f3, f4⟩
          | true =>
            right
            rw [y1, u1] at f3
            rw [y2, u2] at f4
            rw [y3, u1, u2, u3] at f2
            have hbt : b = true := by
              cases b
              · have := f2.mpr (Or.inl rfl); cases this
              · rfl
            exact ⟨z, Nat.lt_of_not_le fun g => T_out hw (Or.inl g) f4, hbt, (bt_src (Nat.le_refl 6)).mpr ⟨hx, f3⟩, (bt_src (Nat.le_refl 6)).mpr ⟨hz, f4⟩, rfl⟩
        · exact Or.inl (Or.inl (Or.inr ⟨g1, by omega, g3⟩))) (fun n M hP => by
    simp only [lX11_spreadsPairs_106, sX11_spreadsPairs_106, hP.1.1.1, nIle (show A.1 < 1000000 by omega), if_true]) (J, s0) ⟨hS, hB.mono (fun y hy => hy.elim id (fun ⟨_, h, _⟩ => absurd h (Nat.not_lt_zero _))), sfr.rf J⟩
  refine ⟨J', s', e, h1, h2.mono (fun y hy => hy.imp id (fun ⟨g1, g2⟩ => ⟨g1, ?_, g2⟩)), h3⟩
  exact Nat.lt_of_not_le fun g => T_out hw (Or.inl g) g2.2.2.1
theorem e_sp69 (hw : aw A) {F : Nat → Prop} {J : am_I} {s0 : am_Bs} {k p q dl : Nat} {b : Bool} (hS : srM J A s0) (hB : BI 72 (edP A) F k (nP p q b) dl (fun _ => False) s0) (hp : p < 6) (hq : q < 6) (v2 : Int32) (j : am_I → Option am_I) :
    ∃ J' s', lX11_spreadsPairs_69 rM 1 v2 (nI p) (nI q) (bI b) (nI (dl + 1)) j am_fu (0 : Int32) J = j J' ∧ srM J' A s' ∧ BI 72 (edP A) F k (nP p q b) dl (fun y => ∃ a, a < 3 ∧ y < 72 ∧ edP A a y (nP p q b)) s' ∧ sfr J J' := by
  obtain ⟨⟨J', s'⟩, e, h1, h2, h3⟩ := am_for0 (fun n i (M : am_I × am_Bs) => lX11_spreadsPairs_69 rM 1 v2 (nI p) (nI q) (bI b) (nI (dl + 1)) j n (nI i) M.1) 3 (fun i M => srM M.1 A M.2 ∧ BI 72 (edP A) F k (nP p q b) dl (fun y => ∃ a, a < i ∧ y < 72 ∧ edP A a y (nP p q b)) M.2 ∧ sfr J M.1) (fun M => j M.1) (by omega) (fun n a M ha hP => by
    obtain ⟨p1, p2, p3⟩ := hP
    obtain ⟨J2, s2, e2, q1, q2, q3⟩ := e_sp106 hw p1 p2 hp hq ha v2 (fun J28 => lX11_spreadsPairs_69 rM 1 v2 (nI p) (nI q) (bI b) (nI (dl + 1)) j n (nI a + 1) J28)
    refine ⟨(J2, s2), ?_, q1, q2.mono (fun y hy => ?_), p3.tr q3⟩
    · simp only [lX11_spreadsPairs_69, sX11_spreadsPairs_69, ng3 ha, if_false, ix6, inb (show 6 * a + p < 18 by omega) (show 18 < 1000000 by omega), inb (show 6 * a + q < 18 by omega) (show 18 < 1000000 by omega), am_ck_true, am_let_e, am_jn_e, nIcl (show 6 * a + p < 1000000 by omega), nIcl (show 6 * a + q < 1000000 by omega), rM1, p1.2.1 a p ha hp, p1.2.1 a q ha hq]
      rw [e2, nI_1]
    · obtain ⟨a', g1, g2⟩ := hy
      by_cases e : a' = a
      · subst e; exact Or.inr g2
      · exact Or.inl ⟨a', by omega, g2⟩) (fun n M hP => by
    simp only [lX11_spreadsPairs_69, sX11_spreadsPairs_69, yg3, if_true]) (J, s0) ⟨hS, hB.mono (fun y ⟨a, ha, _⟩ => absurd ha (Nat.not_lt_zero a)), sfr.rf J⟩
  exact ⟨J', s', e, h1, h2, h3⟩
theorem e_spreads (hw : aw A) {F : Nat → Prop} {J : am_I} {s0 : am_Bs} (hS : srM J A s0) (hB : BQ 72 (edP A) F s0.1 s0.2.1 s0.2.2 0) : ∃ J' s', pX11_spreadsPairs rM J 1 = some J' ∧ srM J' A s' ∧ isDst 72 (edP A) F s'.1 ∧ sfr J J' := by
  unfold pX11_spreadsPairs
  have key := am_forQ (fun n i (M : am_I × am_Bs) => lX11_spreadsPairs_2 rM 1 n (nI i) M.1) 73 (fun k M => srM M.1 A M.2 ∧ BQ 72 (edP A) F M.2.1 M.2.2.1 M.2.2.2 k ∧ sfr J M.1) (fun r => ∃ J' s', r = some J' ∧ srM J' A s' ∧ isDst 72 (edP A) F s'.1 ∧ sfr J J') (by omega) (fun n k M hk hP => by
    obtain ⟨p1, p2, p3⟩ := hP
    have h21 := p1.2.2.2.2.1
    have hmN := p2.m_le
    by_cases g : k < M.2.2.2
    · left
      have hv := p2.1 k g
      have hx13 := p1.2.2.2.1 k g
      obtain ⟨p, q, b, hp, hq, ev⟩ := nP_of hv.1
      have hB2 : BI 72 (edP A) F k (nP p q b) (M.2.1 (nP p q b)) (fun _ => False) M.2 := ⟨p2, g, ev, rfl, fun _ h => h.elim⟩
      obtain ⟨u1, u2, u3⟩ := nP_v (p := p) hq b
      have hlt := nP_lt hp hq b
      rw [ev] at hx13 hv
      have hx12 := p1.2.2.1 (nP p q b) (by omega)
      obtain ⟨J2, s2, e2, q1, q2, q3⟩ := e_sp69 hw p1 hB2 hp hq (nI k) (fun J17 => lX11_spreadsPairs_2 rM 1 n (nI k + 1) J17)
      refine ⟨(J2, s2), ?_, q1, q2.1.next q2.2.1 (fun a ha x hx he => q2.2.2.2.2 x ⟨a, ha, hx, by rw [q2.2.2.1] at he; exact he⟩), p3.tr q3⟩
      show sX11_spreadsPairs_2 rM 1 (lX11_spreadsPairs_2 rM 1 n) (nI k) M.1 = _
      unfold sX11_spreadsPairs_2
      have d12 : nI (nP p q b) / (12 : Int32) = nI p := by rw [show (12 : Int32) = nI 12 from rfl, pk_div (by omega) (by omega) (by omega), u1]
      have d2 : nI (nP p q b) / (2 : Int32) = nI (nP p q b / 2) := by rw [show (2 : Int32) = nI 2 from rfl, pk_div (by omega) (by omega) (by omega)]
      have d6 : nI (nP p q b / 2) - nI (nP p q b / 2) / (6 : Int32) * (6 : Int32) = nI q := by rw [show (6 : Int32) = nI 6 from rfl, pk_rem (by omega) (by omega) (by omega), u2]
      have m2 : nI (nP p q b) - nI (nP p q b) / (2 : Int32) * (2 : Int32) = nI b.toNat := by rw [show (2 : Int32) = nI 2 from rfl, pk_rem (by omega) (by omega) (by omega), u3]
      have eb : (if nI b.toNat = (1 : Int32) then (1 : Int32) else 0) = bI b := by cases b <;> rfl
      rw [h21, if_neg (nIge g (by omega)), inb (show k < 216 by omega) (by omega), am_ck_true, rM20, nIcl (show k < 1000000 by omega), hx13, d12, am_let_e, am_ck_true, d2, d6, am_let_e, am_ck_true, ← d2, m2, eb, am_let_e, am_ck_true, inb (show nP p q b < 216 by omega) (by omega), am_ck_true, rM19, nIcl (show nP p q b < 1000000 by omega), hx12, nI_1, am_let_e, am_jn_e]
      rw [e2, nI_1]
    · right
      have hkm : k = M.2.2.2 := by have := p2.2.2.2.2.2.2.2; omega
      subst hkm
      refine ⟨M.1, M.2, ?_, p1, p2.done (by omega) (fun _ _ _ _ _ _ _ => trivial) (fun x _ => p1.2.2.2.2.2 x), p3⟩
      show sX11_spreadsPairs_2 rM 1 (lX11_spreadsPairs_2 rM 1 n) (nI M.2.2.2) M.1 = _
      unfold sX11_spreadsPairs_2
      rw [h21, if_pos (nIle (by omega))]) (fun n M hP => by
    exfalso
    have := hP.2.1.m_le
    have := hP.2.1.2.2.2.2.2.2.2
    omega) (J, s0) ⟨hS, hB, sfr.rf J⟩
  exact key
end
