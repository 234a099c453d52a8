/-! one step; closures of the class and of the reference; useful states -/
def bI (b : Bool) : Int32 := if b = true then 1 else 0
theorem bI0 {b : Bool} : (bI b = 0) = ¬ (b = true) := by cases b <;> simp [bI]
theorem bI1 {b : Bool} : (bI b = 1) = (b = true) := by cases b <;> simp [bI]
theorem e_cb (x : Int32) {s : Nat} (hs : s < 32) : pX10_contains x (nI s) = some (bI (bt x s)) := e_contains x hs
theorem e_hb (x : Int32) {s : Nat} (hs : s < 32) : pX11_has (Int32.toInt64 x) (nI s) = some (bI (bt x s)) := e_has x hs
theorem e_hbL (x : Int64) {s : Nat} (hs : s < 64) : pX11_has x (nI s) = some (bI (btl x s)) := e_hasL x hs
theorem ix6 (a i : Nat) : (6 : Int32) * nI a + nI i = nI (6 * a + i) := by rw [show (6 : Int32) = nI 6 from rfl, pk_mul, nI_add]
theorem ix3 (s a : Nat) : nI s * (3 : Int32) + nI a = nI (3 * s + a) := by rw [show (3 : Int32) = nI 3 from rfl, pk_mul, nI_add, Nat.mul_comm]
theorem ix3' (s a : Nat) : (3 : Int32) * nI s + nI a = nI (3 * s + a) := by rw [show (3 : Int32) = nI 3 from rfl, pk_mul, nI_add]
/-- where a letter leads from a set -/
def stp (A : am_Au) (x : Int32) (a : Nat) : Int32 := am_to (fun s y => y ||| (if bt x s = true then A.2.2.2 a s else 0)) A.1 0
theorem bt_stp {A : am_Au} {x : Int32} {a t : Nat} : bt (stp A x a) t = true ↔ ∃ s, s < A.1 ∧ bt x s = true ∧ bt (A.2.2.2 a s) t = true := by
  unfold stp
  rw [bt_to_or (fun s => if bt x s = true then A.2.2.2 a s else 0)]
  constructor
  · rintro (h | ⟨s, hs, h⟩)
    · rw [bt_zero] at h; cases h
    · by_cases hb : bt x s = true
      · rw [if_pos hb] at h; exact ⟨s, hs, hb, h⟩
      · rw [if_neg hb, bt_zero] at h; cases h
  · rintro ⟨s, hs, hb, h⟩
    exact Or.inr ⟨s, hs, by rw [if_pos hb]; exact h⟩
theorem lon_T {A : am_Au} (hw : aw A) (a s : Nat) : lon A.1 (A.2.2.2 a s) := fun k hk => hw.2.2.2.1 a s k hk
theorem lon_stp {A : am_Au} (hw : aw A) (x : Int32) (a : Nat) : lon A.1 (stp A x a) := fun k hk => by
  cases e : bt (stp A x a) k with
  | false => rfl
  | true =>
    obtain ⟨s, _, _, h⟩ := bt_stp.mp e
    rw [lon_T hw a s k hk] at h; cases h
theorem stp_0 (A : am_Au) (a : Nat) : stp A 0 a = 0 := bt_iff_eq fun k _ => by
  rw [bt_stp]
  constructor
  · rintro ⟨s, _, h, _⟩; rw [bt_zero] at h; cases h
  · intro h; rw [bt_zero] at h; cases h
theorem e_step {J : am_I} {A : am_Au} (hA : isM J A) (hw : aw A) (x : Int32) {a : Nat} (ha : a < 3) : pX11_step rM J 1 x (nI a) = some (stp A x a) := by
  obtain ⟨h0, h1, h2, h3⟩ := hA
  obtain ⟨w1, w2, w3, w4, w5⟩ := hw
  unfold pX11_step
  refine am_forF (fun n i y => lX11_step_5 rM J 1 x (nI a) n y (nI i)) A.1 (fun s y => y ||| (if bt x s = true then A.2.2.2 a s else 0)) some (by omega) (fun n i y hi => ?_) (fun n y => ?_) 0
  · simp only [lX11_step_5, sX11_step_5, h0, nIge hi (by omega), if_false, e_hb x (show i < 32 by omega), am_bd, am_jn_e, am_let_e, bI0, ite_not, ix6, inb (show 6 * a + i < 18 by omega) (by omega), am_ck_true, nIcl (show 6 * a + i < 1000000 by omega), rM0, h3 a i ha (by omega), nI_1]
    cases bt x i <;> rfl
  · simp only [lX11_step_5, sX11_step_5, h0, nIle (show A.1 < 1000000 by omega), if_true]
/-- all targets of a state -/
def nb (A : am_Au) (s : Nat) : Int32 := am_to (fun a y => y ||| A.2.2.2 a s) 3 0
theorem bt_nb {A : am_Au} {s t : Nat} : bt (nb A s) t = true ↔ ∃ a, a < 3 ∧ bt (A.2.2.2 a s) t = true := by
  unfold nb
  rw [bt_to_or (fun a => A.2.2.2 a s)]
  constructor
  · rintro (h | h)
    · rw [bt_zero] at h; cases h
    · exact h
  · exact Or.inr
theorem lon_nb {A : am_Au} (hw : aw A) (s : Nat) : lon A.1 (nb A s) := fun k hk => by
  cases e : bt (nb A s) k with
  | false => rfl
  | true =>
    obtain ⟨a, _, h⟩ := bt_nb.mp e
    rw [lon_T hw a s k hk] at h; cases h
section
variable {R : am_R} {I : am_I} {o : Nat} {A : am_Au}
theorem e_neighbours (hA : isA I o (R o 3) A) (hw : aw A) {s : Nat} (hs : s < 100) : pX0_neighbours R I o (nI s) = some (nb A s) := by
  unfold pX0_neighbours
  refine am_forF (fun n i y => lX0_neighbours_4 R I o (nI s) n y (nI i)) 3 (fun a y => y ||| A.2.2.2 a s) some (by omega) (fun n i y hi => ?_) (fun n y => ?_) 0
  · simp only [lX0_neighbours_4, sX0_neighbours_4, ng3 hi, if_false, e_targetsOf hA hw s i hs (by omega), am_bd, am_let_e, nI_1]
  · simp only [lX0_neighbours_4, sX0_neighbours_4, yg3, if_true]
def rd (A : am_Au) (x : Int32) : Int32 := am_to (fun s y => y ||| (if bt y s = true then nb A s else 0)) A.1 x
def rk (A : am_Au) (x : Int32) : Int32 := am_to (fun s y => y ||| (if nb A s &&& y = 0 then 0 else (1 : Int32) <<< (nI s &&& 31))) A.1 x
theorem e_rd15 (hA : isA I o (R o 3) A) (hw : aw A) (v : Int32) (j : Int32 → Option Int32) (y : Int32) : lX0_reachedFrom_15 R I o v j am_fu y (0 : Int32) = j (rd A y) := by
  have h0 := hA.1
  have h6 := hw.2.1
  refine am_forF (fun n i y => lX0_reachedFrom_15 R I o v j n y (nI i)) A.1 (fun s y => y ||| (if bt y s = true then nb A s else 0)) j (by omega) (fun n i y hi => ?_) (fun n y => ?_) y
  · simp only [lX0_reachedFrom_15, sX0_reachedFrom_15, h0, nIge hi (by omega), if_false, e_cb y (show i < 32 by omega), am_bd, am_jn_e, am_let_e, bI0, ite_not, e_neighbours hA hw (show i < 100 by omega), nI_1]
    cases bt y i <;> rfl
  · simp only [lX0_reachedFrom_15, sX0_reachedFrom_15, h0, nIle (show A.1 < 1000000 by omega), if_true]
theorem e_rk15 (hA : isA I o (R o 3) A) (hw : aw A) (v : Int32) (j : Int32 → Option Int32) (y : Int32) : lX0_reaching_15 R I o v j am_fu y (0 : Int32) = j (rk A y) := by
  have h0 := hA.1
  have h6 := hw.2.1
  refine am_forF (fun n i y => lX0_reaching_15 R I o v j n y (nI i)) A.1 (fun s y => y ||| (if nb A s &&& y = 0 then 0 else (1 : Int32) <<< (nI s &&& 31))) j (by omega) (fun n i y hi => ?_) (fun n y => ?_) y
  · simp only [lX0_reaching_15, sX0_reaching_15, h0, nIge hi (by omega), if_false, am_bd, am_let_e, e_neighbours hA hw (show i < 100 by omega), nI_1]
  · simp only [lX0_reaching_15, sX0_reaching_15, h0, nIle (show A.1 < 1000000 by omega), if_true]
def cl (A : am_Au) (x : Int32) : Int32 := am_to (fun _ y => rd A y) A.1 x
def co (A : am_Au) (x : Int32) : Int32 := am_to (fun _ y => rk A y) A.1 x
theorem e_reachedFrom (hA : isA I o (R o 3) A) (hw : aw A) (x : Int32) : pX0_reachedFrom R I o x = some (cl A x) := by
  have h0 := hA.1
  have h6 := hw.2.1
  unfold pX0_reachedFrom
  refine am_forF (fun n i y => lX0_reachedFrom_4 R I o n y (nI i)) A.1 (fun _ y => rd A y) some (by omega) (fun n i y hi => ?_) (fun n y => ?_) x
  · simp only [lX0_reachedFrom_4, sX0_reachedFrom_4, h0, nIge hi (by omega), if_false, am_jn_e, e_rd15 hA hw, nI_1]
  · simp only [lX0_reachedFrom_4, sX0_reachedFrom_4, h0, nIle (show A.1 < 1000000 by omega), if_true]
theorem e_reaching (hA : isA I o (R o 3) A) (hw : aw A) (x : Int32) : pX0_reaching R I o x = some (co A x) := by
  have h0 := hA.1
  have h6 := hw.2.1
  unfold pX0_reaching
  refine am_forF (fun n i y => lX0_reaching_4 R I o n y (nI i)) A.1 (fun _ y => rk A y) some (by omega) (fun n i y hi => ?_) (fun n y => ?_) x
  · simp only [lX0_reaching_4, sX0_reaching_4, h0, nIge hi (by omega), if_false, am_jn_e, e_rk15 hA hw, nI_1]
  · simp only [lX0_reaching_4, sX0_reaching_4, h0, nIle (show A.1 < 1000000 by omega), if_true]
/-- the useful states -/
def uA (A : am_Au) : Int32 := cl A A.2.1 &&& co A A.2.2.1
theorem e_usefulSet (hA : isA I o (R o 3) A) (hw : aw A) : pX0_usefulSet R I o = some (uA A) := by
  unfold pX0_usefulSet
  rw [e_reachedFrom hA hw, am_bd, e_reaching hA hw, am_bd, hA.2.1, hA.2.2.1]
  rfl
end
/-! closures by folds -/
theorem to_inf {g : Nat → Int32 → Int32} (hinf : ∀ i x, sb x (g i x)) : ∀ n y, sb y (am_to g n y)
  | 0, y => sb.refl y
  | n + 1, y => (to_inf hinf n y).trans (hinf n _)
theorem fix_each {g : Nat → Int32 → Int32} (hinf : ∀ i x, sb x (g i x)) : ∀ n y, am_to g n y = y → ∀ i, i < n → g i y = y
  | 0, _, _, i, hi => absurd hi (Nat.not_lt_zero i)
  | n + 1, y, h, i, hi => by
    have h : g n (am_to g n y) = y := h
    have h1 : am_to g n y = y := by
      refine sb.anti ?_ (to_inf hinf n y)
      have := hinf n (am_to g n y)
      rw [h] at this; exact this
    rcases Nat.lt_succ_iff_lt_or_eq.mp hi with h2 | h2
    · exact fix_each hinf n y h1 i h2
    · subst h2; rw [h1] at h; exact h
theorem to_shift {f : Int32 → Int32} : ∀ k x, am_to (fun _ y => f y) (k + 1) x = am_to (fun _ y => f y) k (f x)
  | 0, _ => rfl
  | k + 1, x => by
    show f (am_to (fun _ y => f y) (k + 1) x) = f (am_to (fun _ y => f y) k (f x))
    rw [to_shift k x]
theorem itr_to (f : Int32 → Int32) : ∀ k x, itr f k x = am_to (fun _ y => f y) k x
  | 0, _ => rfl
  | k + 1, x => by
    show itr f k (f x) = _
    rw [itr_to f k (f x), to_shift]
theorem sb_ori {x y z : Int32} (h : sb x y) : sb x (y ||| z) := h.trans (sb_orl y z)
theorem or_fix {x y : Int32} (h : x ||| y = x) : sb y x := by
  have := sb_orr x y
  rw [h] at this; exact this
theorem clo_of {A : am_Au} {f : Int32 → Int32} {n : Nat} (hn : n ≤ 6) (hinf : ∀ x, sb x (f x)) (hlo : ∀ x, lon n x → lon n (f x)) (h0 : f 0 = 0)
    (hcl : ∀ y, f y = y → clsd A y) (hmin : ∀ x z, sb x z → clsd A z → sb (f x) z) (x : Int32) (hx : lon n x) : isClo A x (am_to (fun _ y => f y) n x) := by
  refine ⟨to_inf (fun _ => hinf) n x, hcl _ ?_, fun z h1 h2 => ?_⟩
  · rw [← itr_to]; exact itr_fix hn hinf hlo h0 x hx
  · exact am_to_ind (fun y => sb y z) n x (fun i y _ h => hmin y z h h2) h1
theorem co_of {A : am_Au} {f : Int32 → Int32} {n : Nat} (hn : n ≤ 6) (hinf : ∀ x, sb x (f x)) (hlo : ∀ x, lon n x → lon n (f x)) (h0 : f 0 = 0)
    (hcl : ∀ y, f y = y → cocl A y) (hmin : ∀ x z, sb x z → cocl A z → sb (f x) z) (x : Int32) (hx : lon n x) : isCo A x (am_to (fun _ y => f y) n x) := by
  refine ⟨to_inf (fun _ => hinf) n x, hcl _ ?_, fun z h1 h2 => ?_⟩
  · rw [← itr_to]; exact itr_fix hn hinf hlo h0 x hx
  · exact am_to_ind (fun y => sb y z) n x (fun i y _ h => hmin y z h h2) h1
theorem clo_cl {A : am_Au} (hw : aw A) {x : Int32} (hx : lon A.1 x) : isClo A x (cl A x) := by
  have gi : ∀ i x, sb x ((fun s y => y ||| (if bt y s = true then nb A s else 0)) i x) := fun i x => sb_orl _ _
  refine clo_of (f := rd A) hw.2.1 (fun x => to_inf gi A.1 x) (fun x h => ?_) ?_ (fun y h a s ha hs hb => ?_) (fun x z h1 h2 => ?_) x hx
  · refine am_to_ind (fun y => lon A.1 y) A.1 x (fun i y _ hy => lon_or hy ?_) h
    by_cases hb : bt y i = true
    · rw [if_pos hb]; exact lon_nb hw i
    · rw [if_neg hb]; exact lon0 _
  · refine am_to_ind (fun y => y = 0) A.1 0 (fun i y _ hy => ?_) rfl
    subst hy
    rw [bt_zero, if_neg (by decide)]; decide
  · by_cases hs1 : s < A.1
    · have := fix_each gi A.1 y h s hs1
      simp only [hb, if_true] at this
      have h2 := or_fix this
      exact fun k hk => h2 k (bt_nb.mpr ⟨a, ha, hk⟩)
    · rw [hw.2.2.2.2 a s (Or.inl (by omega))]; exact sb0 _
  · refine am_to_ind (fun y => sb y z) A.1 x (fun i y hi hy => sb_or hy ?_) h1
    by_cases hb : bt y i = true
    · rw [if_pos hb]
      intro k hk
      obtain ⟨a, ha, h3⟩ := bt_nb.mp hk
      exact h2 a i ha (by have := hw.2.1; omega) (hy i hb) k h3
    · rw [if_neg hb]; exact sb0 _
theorem and_ne {x y : Int32} : ¬ x &&& y = 0 ↔ ∃ k, bt x k = true ∧ bt y k = true := by
  constructor
  · intro h
    apply Classical.byContradiction
    intro hn
    apply h
    apply bt_ext
    intro k _
    rw [bt_and, bt_zero]
    cases e : bt x k with
    | false => rfl
    | true => cases e2 : bt y k with
      | false => rfl
      | true => exact absurd ⟨k, e, e2⟩ hn
  · rintro ⟨k, h1, h2⟩ h
    have : bt (x &&& y) k = false := by rw [h]; exact bt_zero k
    rw [bt_and, h1, h2] at this
    cases this
theorem co_co {A : am_Au} (hw : aw A) {x : Int32} (hx : lon A.1 x) : isCo A x (co A x) := by
  have h6 := hw.2.1
  have gi : ∀ i x, sb x ((fun s y => y ||| (if nb A s &&& y = 0 then 0 else (1 : Int32) <<< (nI s &&& 31))) i x) := fun i x => sb_orl _ _
  refine co_of (f := rk A) hw.2.1 (fun x => to_inf gi A.1 x) (fun x h => ?_) ?_ (fun y h a s t ha hs hE ht => ?_) (fun x z h1 h2 => ?_) x hx
  · refine am_to_ind (fun y => lon A.1 y) A.1 x (fun i y hi hy => lon_or hy ?_) h
    by_cases hb : nb A i &&& y = 0
    · rw [if_pos hb]; exact lon0 _
    · rw [if_neg hb]
      intro k hk
      rw [bt_1s (by omega)]
      exact decide_eq_false (by omega)
  · refine am_to_ind (fun y => y = 0) A.1 0 (fun i y _ hy => ?_) rfl
    subst hy
    rw [if_pos (bt_ext fun k _ => by rw [bt_and, bt_zero, Bool.and_false])]
    decide
  · by_cases hs1 : s < A.1
    · have h1 := fix_each gi A.1 y h s hs1
      have h2 : ¬ nb A s &&& y = 0 := and_ne.mpr ⟨t, bt_nb.mpr ⟨a, ha, hE⟩, ht⟩
      simp only [h2, if_false] at h1
      exact or_fix h1 s (by rw [bt_1s (by omega)]; exact decide_eq_true rfl)
    · rw [hw.2.2.2.2 a s (Or.inl (by omega)), bt_zero] at hE; cases hE
  · refine am_to_ind (fun y => sb y z) A.1 x (fun i y hi hy => sb_or hy ?_) h1
    by_cases hb : nb A i &&& y = 0
    · rw [if_pos hb]; exact sb0 _
    · rw [if_neg hb]
      intro k hk
      rw [bt_1s (by omega)] at hk
      have : k = i := of_decide_eq_true hk
      subst this
      obtain ⟨t, h3, h4⟩ := and_ne.mp hb
      obtain ⟨a, ha, h5⟩ := bt_nb.mp h3
      exact h2 a k t ha (by omega) h5 (hy t h4)
/-- the reference's closure -/
def clM (A : am_Au) (x : Int32) : Int32 := am_to (fun _ y => y ||| ((stp A y 0 ||| stp A y 1) ||| stp A y 2)) 6 x
theorem clo_clM {A : am_Au} (hw : aw A) {x : Int32} (hx : lon A.1 x) : isClo A x (clM A x) := by
  refine clo_of (f := fun y => y ||| ((stp A y 0 ||| stp A y 1) ||| stp A y 2)) (Nat.le_refl 6) (fun x => sb_orl _ _) (fun x h => ?_) ?_ (fun y h a s ha hs hb => ?_) (fun x z h1 h2 => ?_) x (hx.le hw.2.1)
  · exact lon_or h (lon_or (lon_or ((lon_stp hw x 0).le hw.2.1) ((lon_stp hw x 1).le hw.2.1)) ((lon_stp hw x 2).le hw.2.1))
  · simp only [stp_0]; decide
  · have h1 := or_fix h
    by_cases hs1 : s < A.1
    · intro k hk
      have h2 : bt (stp A y a) k = true := bt_stp.mpr ⟨s, hs1, hb, hk⟩
      apply h1
      have : a = 0 ∨ a = 1 ∨ a = 2 := by omega
      rcases this with rfl | rfl | rfl
      · rw [bt_or, bt_or, h2]; rfl
      · rw [bt_or, bt_or, h2, Bool.or_true]; rfl
      · rw [bt_or, h2, Bool.or_true]
    · rw [hw.2.2.2.2 a s (Or.inl (by omega))]; exact sb0 _
  · have key : ∀ a, a < 3 → sb (stp A x a) z := fun a ha k hk => by
      obtain ⟨s, hs, h3, h4⟩ := bt_stp.mp hk
      exact h2 a s ha (by have := hw.2.1; omega) (h1 s h3) k h4
    exact sb_or h1 (sb_or (sb_or (key 0 (by omega)) (key 1 (by omega))) (key 2 (by omega)))
theorem clM_eq {A : am_Au} (hw : aw A) {x : Int32} (hx : lon A.1 x) : clM A x = cl A x := (clo_clM hw hx).uniq (clo_cl hw hx)
theorem e_reachedFromM {J : am_I} {A : am_Au} (hA : isM J A) (hw : aw A) {x : Int32} (hx : lon A.1 x) : pX11_reachedFrom rM J 1 x = some (cl A x) := by
  rw [← clM_eq hw hx]
  unfold pX11_reachedFrom
  refine am_forF (fun n i y => lX11_reachedFrom_4 rM J 1 n y (nI i)) 6 (fun _ y => y ||| ((stp A y 0 ||| stp A y 1) ||| stp A y 2)) some (by omega) (fun n i y hi => ?_) (fun n y => ?_) x
  · simp only [lX11_reachedFrom_4, sX11_reachedFrom_4, ng6 hi, if_false, show (0 : Int32) = nI 0 from rfl, show (1 : Int32) = nI 1 from rfl, show (2 : Int32) = nI 2 from rfl, e_step hA hw y (show 0 < 3 by omega), e_step hA hw y (show 1 < 3 by omega), e_step hA hw y (show 2 < 3 by omega), am_bd, am_let_e, nI_add]
  · simp only [lX11_reachedFrom_4, sX11_reachedFrom_4, yg6, if_true]
theorem lon_1s {n s : Nat} (hs : s < n) (hn : n ≤ 6) : lon n ((1 : Int32) <<< (nI s &&& 31)) := fun k hk => by
  rw [bt_1s (by omega)]; exact decide_eq_false (by omega)
theorem lon_uA {A : am_Au} (hw : aw A) : lon A.1 (uA A) := fun k hk => by
  have h := (clo_cl hw (x := A.2.1) (fun k hk => (hw.2.2.1 k hk).1)).2.2 (cl A A.2.1)
  cases e : bt (uA A) k with
  | false => rfl
  | true =>
    unfold uA at e
    rw [bt_and, Bool.and_eq_true] at e
    have hl : lon A.1 (cl A A.2.1) := by
      refine am_to_ind (fun y => lon A.1 y) A.1 _ (fun i y _ hy => ?_) (fun k hk => (hw.2.2.1 k hk).1)
      refine am_to_ind (fun y => lon A.1 y) A.1 y (fun i y _ hy => lon_or hy ?_) hy
      by_cases hb : bt y i = true
      · rw [if_pos hb]; exact lon_nb hw i
      · rw [if_neg hb]; exact lon0 _
    rw [hl k hk] at e; exact absurd e.1 (by decide)
theorem e_useful {J : am_I} {A : am_Au} (hA : isM J A) (hw : aw A) : pX11_useful rM J 1 = some (uA A) := by
  have h0 := hA.1
  have h1 := hA.2.1
  have h2 := hA.2.2.1
  have h6 := hw.2.1
  have li : lon A.1 A.2.1 := fun k hk => (hw.2.2.1 k hk).1
  have lf : lon A.1 A.2.2.1 := fun k hk => (hw.2.2.1 k hk).2
  unfold pX11_useful
  rw [h1, e_reachedFromM hA hw li, am_bd]
  have key := am_forF (fun n i y => lX11_useful_13 rM J 1 (cl A A.2.1) n y (nI i)) A.1 (fun s y => y ||| (if bt (uA A) s = true then (1 : Int32) <<< (nI s &&& 31) else 0)) some (by omega) (fun n i y hi => ?_) (fun n y => ?_) (0 : Int32)
  · refine key.trans ?_
    congr 1
    refine bt_iff_eq fun k hk => ?_
    rw [bt_to_or (fun s => if bt (uA A) s = true then (1 : Int32) <<< (nI s &&& 31) else 0)]
    constructor
    · rintro (h | ⟨s, hs, h⟩)
      · rw [bt_zero] at h; cases h
      · by_cases hb : bt (uA A) s = true
        · rw [if_pos hb, bt_1s (by omega)] at h
          have : k = s := of_decide_eq_true h
          subst this; exact hb
        · rw [if_neg hb, bt_zero] at h; cases h
    · intro h
      have hk1 : k < A.1 := Nat.lt_of_not_le fun q => by rw [lon_uA hw k q] at h; cases h
      exact Or.inr ⟨k, hk1, by rw [if_pos h, bt_1s (by omega)]; exact decide_eq_true rfl⟩
  · have hc := clo_cl hw (lon_1s hi h6)
    have hq := isCo_iff hw lf (co_co hw lf) hi hc
    simp only [lX11_useful_13, sX11_useful_13, h0, nIge hi (by omega), if_false, e_hb _ (show i < 32 by omega), am_bd, am_jn_e, am_let_e, bI0, ite_not, e_reachedFromM hA hw (lon_1s hi h6), h2, nI_1]
    have e : bt (uA A) i = (bt (cl A A.2.1) i && bt (co A A.2.2.1) i) := by unfold uA; rw [bt_and]
    rw [e]
    by_cases g : cl A ((1 : Int32) <<< (nI i &&& 31)) &&& A.2.2.1 = 0
    · have : bt (co A A.2.2.1) i = false := by
        cases e2 : bt (co A A.2.2.1) i with
        | false => rfl
        | true => exact absurd g (hq.mp e2)
      rw [this, if_pos g]
      cases bt (cl A A.2.1) i <;> rfl
    · rw [hq.mpr g, if_neg g]
      cases bt (cl A A.2.1) i <;> rfl
  · simp only [lX11_useful_13, sX11_useful_13, h0, nIle (show A.1 < 1000000 by omega), if_true]
