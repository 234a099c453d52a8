/-! rows of numbers of paths: what both sides make, and the class's store -/
section
variable {R : am_R} {A : am_Au} {I : am_I} {L : am_L} {n : Nat}
abbrev am_Rw : Type := Nat × (Nat → Nat → Int64)
/-- the row of a word from the row of the word without its last letter -/
def fr (A : am_Au) (U : Int32) (f : Nat → Int64) (a t : Nat) : Int64 := am_to (fun s v => v + (if bt (A.2.2.2 a s &&& U) t = true then f s else 0)) 6 0
/-- the sum of a row over the final states -/
def sm (A : am_Au) (f : Nat → Int64) : Int64 := am_to (fun s v => v + (if bt A.2.2.1 s = true then f s else 0)) 6 0
def eqf (f g : Nat → Int64) : Prop := ∀ s, s < 6 → f s = g s
noncomputable def kp (S : am_Rw) (f : Nat → Int64) : Option am_Rw := if dcd (∃ r, r < S.1 ∧ eqf (S.2 r) f) = true then some S else if S.1 = 1000 then none else some (S.1 + 1, fun r => if r = S.1 then f else S.2 r)
noncomputable def ltr (A : am_Au) (U : Int32) (r : Nat) : Nat → am_Rw → Option am_Rw
  | 0, S => some S
  | k + 1, S => Option.bind (kp S (fr A U (S.2 r) (2 - k))) (fun S' => ltr A U r k S')
def mx (v w : Int64) : Int64 := if w < v then v else w
noncomputable def bfs (A : am_Au) (U : Int32) : Nat → am_Rw → Int64 → Nat → Int64
  | 0, _, hi, _ => hi
  | k + 1, S, hi, r => if S.1 ≤ r then hi else match ltr A U r 3 S with
    | none => -5
    | some S' => bfs A U k S' (mx hi (sm A (S.2 r))) (r + 1)
theorem fr_congr {U : Int32} {f g : Nat → Int64} (h : eqf f g) (a t : Nat) : fr A U f a t = fr A U g a t := am_to_congr 6 0 (fun i s hi => by rw [h i hi])
theorem sm_congr {f g : Nat → Int64} (h : eqf f g) : sm A f = sm A g := am_to_congr 6 0 (fun i s hi => by rw [h i hi])
/-! buckets -/
def hv (f : Nat → Int64) : Int64 := am_to (fun s v => v * 31 + f s) 6 0
theorem and255 (x : Int32) : ∃ h : Nat, h < 256 ∧ x &&& (255 : Int32) = nI h := by
  refine ⟨x.toBitVec.toNat % 256, Nat.mod_lt _ (by decide), ?_⟩
  apply Int32.toBitVec_inj.mp
  apply BitVec.eq_of_toNat_eq
  show (x.toBitVec &&& (255#32)).toNat = (BitVec.ofNat 32 (x.toBitVec.toNat % 256)).toNat
  rw [BitVec.toNat_and, BitVec.toNat_ofNat, BitVec.toNat_ofNat]
  show x.toBitVec.toNat &&& (2 ^ 8 - 1) = _
  rw [Nat.and_two_pow_sub_one_eq_mod]
  omega
noncomputable def hb (f : Nat → Int64) : Nat := Classical.choose (and255 (Int64.toInt32 (hv f ^^^ (hv f >>> (Int32.toInt64 (8 : Int32) &&& 63)))))
theorem hb_lt (f : Nat → Int64) : hb f < 256 := (Classical.choose_spec (and255 (Int64.toInt32 (hv f ^^^ (hv f >>> (Int32.toInt64 (8 : Int32) &&& 63)))))).1
theorem hb_e (f : Nat → Int64) : Int64.toInt32 (hv f ^^^ (hv f >>> (Int32.toInt64 (8 : Int32) &&& 63))) &&& (255 : Int32) = nI (hb f) := (Classical.choose_spec (and255 (Int64.toInt32 (hv f ^^^ (hv f >>> (Int32.toInt64 (8 : Int32) &&& 63)))))).2
theorem hb_congr {f g : Nat → Int64} (h : eqf f g) : hb f = hb g := by
  have : hv f = hv g := am_to_congr 6 0 (fun i s hi => by rw [h i hi])
  unfold hb
  simp only [this]
/-- the newest of the rows below m in bucket b -/
def lst (h : Nat → Nat) (b : Nat) : Nat → Int32
  | 0 => -1
  | m + 1 => if h m = b then nI m else lst h b m
theorem lst_congr {h g : Nat → Nat} {b : Nat} : ∀ {m : Nat}, (∀ r, r < m → h r = g r) → lst h b m = lst g b m
  | 0, _ => rfl
  | m + 1, q => by
    show (if h m = b then nI m else lst h b m) = (if g m = b then nI m else lst g b m)
    rw [q m (Nat.lt_succ_self m), lst_congr (fun r hr => q r (Nat.lt_succ_of_lt hr))]
/-- the store's cells -/
def stR (R : am_R) (n : Nat) : Prop := 49 ≤ n ∧ R n 0 = n + 1 ∧ R n 1 = n + 2 ∧ R n 2 = n + 3 ∧ R n 3 = n + 4
def RSc (I : am_I) (L : am_L) (n : Nat) (S : am_Rw) : Prop := I n 4 = nI S.1 ∧ S.1 ≤ 1000 ∧ (∀ r s, r < S.1 → s < 6 → L (n + 1) (6 * r + s) = S.2 r s) ∧ (∀ b, b < 256 → I (n + 3) b = lst (fun r => hb (S.2 r)) b S.1) ∧ ∀ r, r < S.1 → I (n + 4) r = lst (fun r => hb (S.2 r)) (hb (S.2 r)) r
def fsc (L : am_L) (n : Nat) (f : Nat → Int64) : Prop := ∀ s, s < 6 → L (n + 2) s = f s
theorem e_bucket (hS : stR R n) {f : Nat → Int64} (hf : fsc L n f) : pX4_bucketOfFresh R L n = some (nI (hb f)) := by
  unfold pX4_bucketOfFresh
  have e := am_forF (fun k i (v : Int64) => lX4_bucketOfFresh_4 R L n k v (nI i)) 6 (fun s v => v * 31 + f s) (fun v => some (Int64.toInt32 (v ^^^ (v >>> (Int32.toInt64 (8 : Int32) &&& 63))) &&& (255 : Int32))) (by omega) (fun k i v hi => by
    show sX4_bucketOfFresh_4 R L n (lX4_bucketOfFresh_4 R L n k) v (nI i) = _
    unfold sX4_bucketOfFresh_4
    rw [if_neg (ng6 hi), inb hi (by omega), am_ck_true, am_let_e, hS.2.2.1, nIcl (show i < 1000000 by omega), hf i hi, nI_1]) (fun k v => by
    show sX4_bucketOfFresh_4 R L n (lX4_bucketOfFresh_4 R L n k) v (nI 6) = _
    unfold sX4_bucketOfFresh_4
    rw [if_pos yg6]) 0
  rw [nI_0] at e
  refine e.trans ?_
  exact congrArg some (hb_e f)
theorem e_cell (hS : stR R n) {r s : Nat} (h : 6 * r + s < 6000) : pX4_cell R L n (nI r) (nI s) = some (L (n + 1) (6 * r + s)) := by
  unfold pX4_cell
  have e : nI r * (6 : Int32) + nI s = nI (6 * r + s) := by rw [show (6 : Int32) = nI 6 from rfl, pk_mul, nI_add, Nat.mul_comm]
  rw [e, am_let_e, if_neg (nI_pos (by omega)), if_neg (show ¬ (6000 : Int32) ≤ nI (6 * r + s) from nI_ge (b := 6000) h (by omega)), inb h (by omega), am_ck_true, hS.2.1, nIcl (show 6 * r + s < 1000000 by omega)]
theorem dcdT {p : Prop} (h : p) : dcd p = true := by unfold dcd; exact @decide_eq_true p (Classical.propDecidable p) h
theorem dcdF {p : Prop} (h : ¬ p) : dcd p = false := by unfold dcd; exact @decide_eq_false p (Classical.propDecidable p) h
theorem e_equalsFresh (hS : stR R n) {S : am_Rw} (hR : RSc I L n S) {f : Nat → Int64} (hf : fsc L n f) {r : Nat} (hr : r < S.1) : pX4_equalsFresh R L n (nI r) = some (bI (dcd (eqf (S.2 r) f))) := by
  have h1 := hR.2.1
  unfold pX4_equalsFresh
  have key := am_forQ (fun k i (_ : Unit) => lX4_equalsFresh_2 R L n (nI r) k (nI i)) 6 (fun i _ => ∀ s, s < i → S.2 r s = f s) (fun o => o = some (bI (dcd (eqf (S.2 r) f)))) (by omega) (fun k i _ hi hP => by
    have ec := e_cell (L := L) hS (r := r) (s := i) (by omega)
    by_cases q : S.2 r i = f i
    · left
      refine ⟨(), ?_, fun s hs => ?_⟩
      · show sX4_equalsFresh_2 R L n (nI r) (lX4_equalsFresh_2 R L n (nI r) k) (nI i) = _
        unfold sX4_equalsFresh_2
        rw [if_neg (ng6 hi), ec, am_bd, inb hi (by omega), am_ck_true, hS.2.2.1, nIcl (show i < 1000000 by omega), hf i hi, hR.2.2.1 r i hr hi, if_pos (lg_cmp0.mpr q), nI_1]
      · by_cases e : s = i
        · rw [e]; exact q
        · exact hP s (by omega)
    · right
      show sX4_equalsFresh_2 R L n (nI r) (lX4_equalsFresh_2 R L n (nI r) k) (nI i) = _
      unfold sX4_equalsFresh_2
      rw [if_neg (ng6 hi), ec, am_bd, inb hi (by omega), am_ck_true, hS.2.2.1, nIcl (show i < 1000000 by omega), hf i hi, hR.2.2.1 r i hr hi, if_neg (fun h => q (lg_cmp0.mp h)), dcdF (fun h => q (h i hi))]
      rfl) (fun k _ hP => by
    show sX4_equalsFresh_2 R L n (nI r) (lX4_equalsFresh_2 R L n (nI r) k) (nI 6) = _
    unfold sX4_equalsFresh_2
    rw [if_pos yg6, dcdT (p := eqf (S.2 r) f) (fun s hs => hP s hs)]
    rfl) () (fun s hs => absurd hs (Nat.not_lt_zero s))
  rw [nI_0] at key
  exact key
theorem e_isKept4 (hS : stR R n) {S : am_Rw} (hR : RSc I L n S) {f : Nat → Int64} (hf : fsc L n f) (b : Nat) : ∀ (k u c : Nat), k ≤ S.1 → k < u → c + k ≤ 1000 → lX4_isKept_4 R I L n u (lst (fun r => hb (S.2 r)) b k) (nI c) = some (bI (dcd (∃ r, r < k ∧ hb (S.2 r) = b ∧ eqf (S.2 r) f))) := by
  have h1 := hR.2.1
  intro k
  induction k with
  | zero =>
    intro u c hk hu hc
    obtain ⟨u, rfl⟩ : ∃ g, u = g + 1 := ⟨u - 1, by omega⟩
    show sX4_isKept_4 R I L n (lX4_isKept_4 R I L n u) (-1 : Int32) (nI c) = _
    unfold sX4_isKept_4
    rw [dcdF (fun ⟨r, hr, _⟩ => absurd hr (Nat.not_lt_zero r))]
    by_cases q : (1000 : Int32) ≤ nI c
    · rw [if_pos q]; rfl
    · rw [if_neg q, if_pos (show (-1 : Int32) < 0 by decide)]; rfl
  | succ k ih =>
    intro u c hk hu hc
    by_cases q : hb (S.2 k) = b
    · obtain ⟨u, rfl⟩ : ∃ g, u = g + 1 := ⟨u - 1, by omega⟩
      have e1 : lst (fun r => hb (S.2 r)) b (k + 1) = nI k := if_pos q
      rw [e1]
      show sX4_isKept_4 R I L n (lX4_isKept_4 R I L n u) (nI k) (nI c) = _
      unfold sX4_isKept_4
      rw [if_neg (show ¬ (1000 : Int32) ≤ nI c from nI_ge (b := 1000) (by omega) (by omega)), if_neg (nI_pos (by omega)), if_neg (show ¬ (1000 : Int32) ≤ nI k from nI_ge (b := 1000) (by omega) (by omega)), e_equalsFresh hS hR hf (show k < S.1 by omega), am_bd]
      by_cases g : eqf (S.2 k) f
      · rw [dcdT g, if_neg (show ¬ bI true = 0 by decide), dcdT ⟨k, Nat.lt_succ_self k, q, g⟩]
        rfl
      · rw [dcdF g, if_pos (show bI false = 0 from rfl), inb (show k < 1000 by omega) (by omega), am_ck_true, am_let_e, hS.2.2.2.2, nIcl (show k < 1000000 by omega), hR.2.2.2.2 k (by omega), q, nI_1, ih u (c + 1) (by omega) (by omega) (by omega)]
        congr 3
        refine propext ⟨fun ⟨r, a, b'⟩ => ⟨r, Nat.lt_succ_of_lt a, b'⟩, fun ⟨r, a, b'⟩ => ⟨r, ?_, b'⟩⟩
        rcases Nat.lt_succ_iff_lt_or_eq.mp a with a | a
        · exact a
        · subst a; exact absurd b'.2 g
    · have e1 : lst (fun r => hb (S.2 r)) b (k + 1) = lst (fun r => hb (S.2 r)) b k := if_neg q
      rw [e1, ih u c (by omega) (by omega) (by omega)]
      congr 3
      refine propext ⟨fun ⟨r, a, b'⟩ => ⟨r, Nat.lt_succ_of_lt a, b'⟩, fun ⟨r, a, b'⟩ => ⟨r, ?_, b'⟩⟩
      rcases Nat.lt_succ_iff_lt_or_eq.mp a with a | a
      · exact a
      · subst a; exact absurd b'.1 q
theorem e_isKept (hS : stR R n) {S : am_Rw} (hR : RSc I L n S) {f : Nat → Int64} (hf : fsc L n f) : pX4_isKept R I L n (lst (fun r => hb (S.2 r)) (hb f) S.1) = some (bI (dcd (∃ r, r < S.1 ∧ eqf (S.2 r) f))) := by
  have h1 := hR.2.1
  unfold pX4_isKept
  have e := e_isKept4 hS hR hf (hb f) S.1 am_fu 0 (Nat.le_refl _) (by have := am_fu_ge; omega) (by omega)
  rw [nI_0] at e
  rw [e]
  congr 3
  exact propext ⟨fun ⟨r, a, _, b⟩ => ⟨r, a, b⟩, fun ⟨r, a, b⟩ => ⟨r, a, hb_congr b, b⟩⟩
/-- nothing below the store is touched -/
def rwf (I : am_I) (L : am_L) (n : Nat) (I' : am_I) (L' : am_L) : Prop := ∀ b, b < n → I' b = I b ∧ L' b = L b
theorem rwf.rf (I : am_I) (L : am_L) (n : Nat) : rwf I L n I L := fun _ _ => ⟨rfl, rfl⟩
theorem rwf.tr {I1 I2 : am_I} {L1 L2 : am_L} (h : rwf I L n I1 L1) (g : rwf I1 L1 n I2 L2) : rwf I L n I2 L2 := fun b hb => ⟨(g b hb).1.trans (h b hb).1, (g b hb).2.trans (h b hb).2⟩
theorem e_keepFresh (hS : stR R n) {S : am_Rw} (hR : RSc I L n S) {f : Nat → Int64} (hf : fsc L n f) : ∃ I' L', pX4_keepFresh R I L n = some (bI (kp S f).isSome, I', L') ∧ rwf I L n I' L' ∧ L' (n + 2) = L (n + 2) ∧ ∀ S', kp S f = some S' → RSc I' L' n S' := by
  have h1 := hR.2.1
  have hb6 := hb_lt f
  unfold pX4_keepFresh
  rw [e_bucket hS hf, am_bd, inb hb6 (by omega), am_ck_true, hS.2.2.2.1, nIcl (show hb f < 1000000 by omega), hR.2.2.2.1 (hb f) hb6, e_isKept hS hR hf, am_bd]
  unfold kp
  cases hd : dcd (∃ r, r < S.1 ∧ eqf (S.2 r) f) with
  | true =>
    rw [if_neg (show ¬ bI true = 0 by decide), if_pos rfl]
    exact ⟨I, L, rfl, rwf.rf I L n, rfl, fun S' e => by cases e; exact hR⟩
  | false =>
    rw [if_pos (show bI false = 0 from rfl), if_neg (show ¬ false = true by decide), hR.1]
    by_cases hm : S.1 = 1000
    · rw [if_neg (show ¬ nI S.1 < (1000 : Int32) by rw [hm]; decide), if_pos hm]
      exact ⟨I, L, rfl, rwf.rf I L n, rfl, fun S' e => by cases e⟩
    · rw [if_pos (show nI S.1 < (1000 : Int32) from nI_lt0 (b := 1000) (by omega) (by omega)), if_neg hm, am_jn_e]
      obtain ⟨j6, hj6⟩ : ∃ j : am_L → Option (Int32 × am_I × am_L), j = (fun (J7 : am_L) =>
  am_ck true (
  am_ck (am_inb (nI S.1) 1000) (
  am_let (am_upI I (R n 3) (Int32.toNatClampNeg (nI S.1)) (lst (fun r => hb (S.2 r)) (hb f) S.1)) (fun J10 =>
  am_ck true (
  am_let (am_upI J10 (n + 3) (hb f) (J10 n 4)) (fun J12 =>
  am_let (am_upI J12 n 4 ((J12 n 4) + (1 : Int32))) (fun J13 =>
  some ((1 : Int32), J13, J7)))))))) := ⟨_, rfl⟩
      rw [← hj6]
      have e := am_for0 (fun k i J => lX4_keepFresh_34 R I n (nI (hb f)) j6 k (nI i) J) 6 (fun i J => (∀ s, s < i → J (n + 1) (6 * S.1 + s) = f s) ∧ (∀ x, x < 6 * S.1 → J (n + 1) x = L (n + 1) x) ∧ ∀ b, b ≠ n + 1 → J b = L b) (fun J => j6 J) (by omega) (fun k i J hi hP => by
        obtain ⟨p1, p2, p3⟩ := hP
        have ex : nI S.1 * (6 : Int32) + nI i = nI (6 * S.1 + i) := by rw [show (6 : Int32) = nI 6 from rfl, pk_mul, nI_add, Nat.mul_comm]
        refine ⟨am_upL J (n + 1) (6 * S.1 + i) (f i), ?_, fun s hs => ?_, fun x hx => ?_, fun b x => by rw [am_upL_n x]; exact p3 b x⟩
        · show sX4_keepFresh_34 R I n (nI (hb f)) j6 (lX4_keepFresh_34 R I n (nI (hb f)) j6 k) (nI i) J = _
          unfold sX4_keepFresh_34
          rw [if_neg (ng6 hi), inb hi (by omega), am_ck_true, hR.1, ex, inb (show 6 * S.1 + i < 6000 by omega) (by omega), am_ck_true, am_let_e, hS.2.1, hS.2.2.1, nIcl (show 6 * S.1 + i < 1000000 by omega), nIcl (show i < 1000000 by omega), p3 (n + 2) (by omega), hf i hi, nI_1]
        · by_cases e : s = i
          · rw [e, am_upL_s]
          · rw [am_upL_o (by omega)]; exact p1 s (by omega)
        · rw [am_upL_o (by omega)]; exact p2 x hx) (fun k J _ => by
        show sX4_keepFresh_34 R I n (nI (hb f)) j6 (lX4_keepFresh_34 R I n (nI (hb f)) j6 k) (nI 6) J = _
        unfold sX4_keepFresh_34
        rw [if_pos yg6]) L ⟨fun s hs => absurd hs (Nat.not_lt_zero s), fun _ _ => rfl, fun _ _ => rfl⟩
      obtain ⟨L', e, g1, g2, g3⟩ := e
      rw [nI_0] at e
      refine ⟨am_upI (am_upI (am_upI I (n + 4) S.1 (lst (fun r => hb (S.2 r)) (hb f) S.1)) (n + 3) (hb f) (nI S.1)) n 4 (nI (S.1 + 1)), L', ?_, fun b hb => ⟨by rw [am_upI_ne (by omega), am_upI_ne (by omega), am_upI_ne (by omega)], g3 b (by omega)⟩, g3 _ (by omega), fun S' e' => ?_⟩
      · refine e.trans ?_
        rw [hj6]
        dsimp only
        rw [am_ck_true, inb (show S.1 < 1000 by omega) (by omega), am_ck_true, am_let_e, am_ck_true, am_let_e, am_let_e, hS.2.2.2.2, nIcl (show S.1 < 1000000 by omega), am_upI_ne (show n ≠ n + 4 by omega), hR.1, am_upI_ne (show n ≠ n + 3 by omega), am_upI_ne (show n ≠ n + 4 by omega), hR.1, nI_1]
        rfl
      · cases e'
        have hg : ∀ r, r < S.1 → hb ((fun r => if r = S.1 then f else S.2 r) r) = hb (S.2 r) := fun r hr => by
          show hb (if r = S.1 then f else S.2 r) = _
          rw [if_neg (by omega)]
        have hgm : hb ((fun r => if r = S.1 then f else S.2 r) S.1) = hb f := by
          show hb (if S.1 = S.1 then f else S.2 S.1) = _
          rw [if_pos rfl]
        refine ⟨am_upI_s, by omega, fun r s hr hs => ?_, fun b hb' => ?_, fun r hr => ?_⟩
        · show L' (n + 1) (6 * r + s) = (if r = S.1 then f else S.2 r) s
          by_cases q : r = S.1
          · rw [if_pos q, q]; exact g1 s hs
          · rw [if_neg q, g2 _ (by have : r < S.1 + 1 := hr; omega)]
            exact hR.2.2.1 r s (by have : r < S.1 + 1 := hr; omega) hs
        · rw [am_upI_ne (show n + 3 ≠ n by omega)]
          show _ = (if hb (if S.1 = S.1 then f else S.2 S.1) = b then nI S.1 else lst (fun r => hb (if r = S.1 then f else S.2 r)) b S.1)
          rw [if_pos rfl]
          by_cases q : hb f = b
          · rw [if_pos q, ← q, am_upI_s]
          · rw [if_neg q, am_upI_o (fun h => q h.symm), am_upI_ne (show n + 3 ≠ n + 4 by omega), hR.2.2.2.1 b hb']
            exact (lst_congr hg).symm
        · have hr' : r < S.1 + 1 := hr
          rw [am_upI_ne (show n + 4 ≠ n by omega), am_upI_ne (show n + 4 ≠ n + 3 by omega)]
          show _ = lst (fun r => hb (if r = S.1 then f else S.2 r)) (hb (if r = S.1 then f else S.2 r)) r
          by_cases q : r = S.1
          · rw [if_pos q, q, am_upI_s]
            exact (lst_congr hg).symm
          · rw [if_neg q, am_upI_o q, hR.2.2.2.2 r (by omega)]
            exact (lst_congr (fun r' h' => hg r' (by omega))).symm
end
