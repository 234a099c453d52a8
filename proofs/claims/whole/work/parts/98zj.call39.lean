/-! call 39 -/
section
variable {R : am_R} {I : am_I} {L : am_L} {J : am_I} {K : am_L}
def fK2 (K K' : am_L) : Prop := ∀ b, b ≠ 10 → b ≠ 11 → K' b = K b
theorem e_ra78 {r : am_Rs} (hok : okRs r) (h40 : J 1 40 = nI r.1) {c : Nat → Nat} (hc : ∀ j, c j < 3) {k : Nat} (hk : k < 20) (hU : J 9 k = nI (c k)) {P : Nat → Nat} {t : Nat} (ht : t < r.1) {K : am_L} (hT : ∀ s a, s < r.1 → a < 3 → K 26 (3 * s + a) = r.2.2.2 s a) (hP : ∀ s, s < r.1 → K 10 s = lN (P s)) (h0 : K 11 t = 0) (j : am_L → Option (Int64 × am_L)) :
    ∃ K', lX11_resultAmbiguity_78 rM J 1 (nI k) (nI t) j am_fu (0 : Int32) K = j K' ∧ K' 11 t = lN (sumN (fun s => if btl (r.2.2.2 s (c k)) t = true then P s else 0) r.1) ∧ (∀ x, x ≠ t → K' 11 x = K 11 x) ∧ ∀ b, b ≠ 11 → K' b = K b := by
  have h64 := hok.1
  obtain ⟨K', e, g1, g2, g3⟩ := am_for0 (fun n i M => lX11_resultAmbiguity_78 rM J 1 (nI k) (nI t) j n (nI i) M) r.1 (fun i M => M 11 t = lN (sumN (fun s => if btl (r.2.2.2 s (c k)) t = true then P s else 0) i) ∧ (∀ x, x ≠ t → M 11 x = K 11 x) ∧ ∀ b, b ≠ 11 → M b = K b) (fun M => j M) (by omega) (fun n i M hi hQ => by
    obtain ⟨p1, p2, p3⟩ := hQ
    have hck := hc k
    have ex : (3 : Int32) * nI i + nI (c k) = nI (3 * i + c k) := by rw [show (3 : Int32) = nI 3 from rfl, pk_mul, nI_add]
    refine ⟨am_upL M 11 t (lN (sumN (fun s => if btl (r.2.2.2 s (c k)) t = true then P s else 0) (i + 1))), ?_, am_upL_s, fun x hx => by rw [am_upL_o hx]; exact p2 x hx, fun b hb => by rw [am_upL_n hb]; exact p3 b hb⟩
    show sX11_resultAmbiguity_78 rM J 1 (nI k) (nI t) j (lX11_resultAmbiguity_78 rM J 1 (nI k) (nI t) j n) (nI i) M = _
    unfold sX11_resultAmbiguity_78
    rw [h40, if_neg (nIge hi (by omega)), inb (show t < 64 by omega) (by omega), am_ck_true, inb (show k < 20 by omega) (by omega), am_ck_true, rM15, nIcl (show k < 1000000 by omega), hU, ex, inb (show 3 * i + c k < 192 by omega) (by omega), am_ck_true, rM38, nIcl (show 3 * i + c k < 1000000 by omega), p3 26 (by decide), hT i (c k) hi hck, e_hbL _ (show t < 64 by omega), am_bd, am_jn_e, inb (show i < 64 by omega) (by omega), am_ck_true, rM17, rM18, nIcl (show i < 1000000 by omega), nIcl (show t < 1000000 by omega), p3 10 (by decide), hP i hi, p1]
    dsimp only
    rw [am_ck_true, am_let_e, am_ck_true, am_let_e, nI_1, sumN_s]
    cases btl (r.2.2.2 i (c k)) t with
    | false =>
      rw [if_pos (show bI false = 0 from rfl), if_neg (show ¬ false = true by decide), Int64.add_zero]
      rfl
    | true =>
      rw [if_neg (show ¬ bI true = 0 by decide), if_pos rfl, lN_add]) (fun n M _ => by
    show sX11_resultAmbiguity_78 rM J 1 (nI k) (nI t) j (lX11_resultAmbiguity_78 rM J 1 (nI k) (nI t) j n) (nI r.1) M = _
    unfold sX11_resultAmbiguity_78
    rw [h40, if_pos (nIle (by omega))]) K ⟨h0, fun _ _ => rfl, fun _ _ => rfl⟩
  rw [nI_0] at e
  exact ⟨K', e, g1, g2, g3⟩
theorem e_ra51 {r : am_Rs} (hok : okRs r) (h40 : J 1 40 = nI r.1) {c : Nat → Nat} (hc : ∀ j, c j < 3) {wn : Nat} (hwn : wn ≤ 20) (h16 : J 1 16 = nI wn) (hU : ∀ j, j < wn → J 9 j = nI (c j)) {K : am_L} (hT : ∀ s a, s < r.1 → a < 3 → K 26 (3 * s + a) = r.2.2.2 s a) (hP : ∀ s, s < r.1 → K 10 s = lN (rsP r c 0 s)) (j : am_L → Option (Int64 × am_L)) :
    ∃ K', lX11_resultAmbiguity_51 rM J 1 j am_fu (0 : Int32) K = j K' ∧ (∀ s, s < r.1 → K' 10 s = lN (rsP r c wn s)) ∧ fK2 K K' := by
  have h64 := hok.1
  obtain ⟨K', e, g1, g2⟩ := am_for0 (fun n i M => lX11_resultAmbiguity_51 rM J 1 j n (nI i) M) wn (fun i M => (∀ s, s < r.1 → M 10 s = lN (rsP r c i s)) ∧ fK2 K M) (fun M => j M) (by omega) (fun n k M hk hQ => by
    obtain ⟨p1, p2⟩ := hQ
    have hT' : ∀ s a, s < r.1 → a < 3 → M 26 (3 * s + a) = r.2.2.2 s a := fun s a hs ha => by rw [p2 26 (by decide) (by decide)]; exact hT s a hs ha
    obtain ⟨j24, hj24⟩ : ∃ j' : am_L → Option (Int64 × am_L), j' = fun (J25 : am_L) => lX11_resultAmbiguity_51 rM J 1 j n (nI k + (1 : Int32)) J25 := ⟨_, rfl⟩
    obtain ⟨j22, hj22⟩ : ∃ j' : am_L → Option (Int64 × am_L), j' = fun (J23 : am_L) => am_jn j24 (fun j24 => lX11_resultAmbiguity_141 rM J 1 (nI k) j24 am_fu (0 : Int32) J23) := ⟨_, rfl⟩
    obtain ⟨M1, e1, a1, a2⟩ := am_for0 (fun m t N => lX11_resultAmbiguity_61 rM J 1 (nI k) j22 m (nI t) N) r.1 (fun t N => (∀ s, s < t → N 11 s = lN (rsP r c (k + 1) s)) ∧ ∀ b, b ≠ 11 → N b = M b) (fun N => j22 N) (by omega) (fun m t N ht hQ => by
      obtain ⟨b1, b2⟩ := hQ
      obtain ⟨N', c1, c2, c3, c4⟩ := e_ra78 hok h40 hc (show k < 20 by omega) (hU k hk) (P := rsP r c k) (t := t) ht (K := am_upL N 11 t 0) (fun s a hs ha => by rw [am_upL_n (by decide), b2 26 (by decide)]; exact hT' s a hs ha) (fun s hs => by rw [am_upL_n (by decide), b2 10 (by decide)]; exact p1 s hs) am_upL_s (fun (J42 : am_L) => lX11_resultAmbiguity_61 rM J 1 (nI k) j22 m (nI t + (1 : Int32)) J42)
      refine ⟨N', ?_, fun s hs => ?_, fun b hb => by rw [c4 b hb, am_upL_n hb]; exact b2 b hb⟩
      · show sX11_resultAmbiguity_61 rM J 1 (nI k) j22 (lX11_resultAmbiguity_61 rM J 1 (nI k) j22 m) (nI t) N = _
        unfold sX11_resultAmbiguity_61
        rw [h40, if_neg (nIge ht (by omega)), inb (show t < 64 by omega) (by omega), am_ck_true, am_let_e, am_jn_e, rM18, nIcl (show t < 1000000 by omega), c1, nI_1]
      · by_cases q : s = t
        · rw [q]; exact c2
        · rw [c3 s q, am_upL_o q]; exact b1 s (by omega)) (fun m N _ => by
      show sX11_resultAmbiguity_61 rM J 1 (nI k) j22 (lX11_resultAmbiguity_61 rM J 1 (nI k) j22 m) (nI r.1) N = _
      unfold sX11_resultAmbiguity_61
      rw [h40, if_pos (nIle (by omega))]) M ⟨fun s hs => absurd hs (Nat.not_lt_zero s), fun _ _ => rfl⟩
    rw [nI_0] at e1
    obtain ⟨M2, e2, a3, a4⟩ := am_for0 (fun m t N => lX11_resultAmbiguity_141 rM J 1 (nI k) j24 m (nI t) N) r.1 (fun t N => (∀ s, s < t → N 10 s = lN (rsP r c (k + 1) s)) ∧ ∀ b, b ≠ 10 → N b = M1 b) (fun N => j24 N) (by omega) (fun m t N ht hQ => by
      obtain ⟨b1, b2⟩ := hQ
      refine ⟨am_upL N 10 t (lN (rsP r c (k + 1) t)), ?_, fun s hs => ?_, fun b hb => by rw [am_upL_n hb]; exact b2 b hb⟩
      · show sX11_resultAmbiguity_141 rM J 1 (nI k) j24 (lX11_resultAmbiguity_141 rM J 1 (nI k) j24 m) (nI t) N = _
        unfold sX11_resultAmbiguity_141
        rw [h40, if_neg (nIge ht (by omega)), inb (show t < 64 by omega) (by omega), am_ck_true, am_ck_true, am_let_e, rM17, rM18, nIcl (show t < 1000000 by omega), b2 11 (by decide), a1 t ht, nI_1]
      · by_cases q : s = t
        · rw [q, am_upL_s]
        · rw [am_upL_o q]; exact b1 s (by omega)) (fun m N _ => by
      show sX11_resultAmbiguity_141 rM J 1 (nI k) j24 (lX11_resultAmbiguity_141 rM J 1 (nI k) j24 m) (nI r.1) N = _
      unfold sX11_resultAmbiguity_141
      rw [h40, if_pos (nIle (by omega))]) M1 ⟨fun s hs => absurd hs (Nat.not_lt_zero s), fun _ _ => rfl⟩
    rw [nI_0] at e2
    refine ⟨M2, ?_, a3, fun b x y => (a4 b x).trans ((a2 b y).trans (p2 b x y))⟩
    show sX11_resultAmbiguity_51 rM J 1 j (lX11_resultAmbiguity_51 rM J 1 j n) (nI k) M = _
    unfold sX11_resultAmbiguity_51
    rw [h16, if_neg (nIge hk (by omega)), am_jn_e, ← hj24, ← hj22, e1, hj22]
    dsimp only
    rw [am_jn_e, e2, hj24]
    dsimp only
    rw [nI_1]) (fun n M _ => by
    show sX11_resultAmbiguity_51 rM J 1 j (lX11_resultAmbiguity_51 rM J 1 j n) (nI wn) M = _
    unfold sX11_resultAmbiguity_51
    rw [h16, if_pos (nIle (by omega))]) K ⟨hP, fun _ _ _ => rfl⟩
  rw [nI_0] at e
  exact ⟨K', e, g1, g2⟩
theorem e_resM {r : am_Rs} (hok : okRs r) (hr : mR J K (some r)) {c : Nat → Nat} (hc : ∀ j, c j < 3) {wn : Nat} (hwn : wn ≤ 20) (h16 : J 1 16 = nI wn) (hU : ∀ j, j < wn → J 9 j = nI (c j)) : ∃ K', pX11_resultAmbiguity rM J K 1 = some (lN (rsF r c wn), K') ∧ fK2 K K' := by
  have h64 := hok.1
  obtain ⟨h40, h42, h43, hT⟩ := hr
  unfold pX11_resultAmbiguity
  rw [if_pos (show (0 : Int32) ≤ J 1 40 by rw [h40, ← nI_0]; exact nI_le (Nat.zero_le _) (by omega)), am_jn_e]
  obtain ⟨j4, hj4⟩ : ∃ j : am_L → Option (Int64 × am_L), j = fun (J5 : am_L) => lX11_resultAmbiguity_177 rM J 1 J5 am_fu (0 : Int64) (0 : Int32) := ⟨_, rfl⟩
  rw [← hj4]
  obtain ⟨j2, hj2⟩ : ∃ j : am_L → Option (Int64 × am_L), j = fun (J3 : am_L) => am_jn j4 (fun j4 => lX11_resultAmbiguity_51 rM J 1 j4 am_fu (0 : Int32) J3) := ⟨_, rfl⟩
  rw [← hj2]
  obtain ⟨K1, e1, a1, a2⟩ := am_for0 (fun n i M => lX11_resultAmbiguity_13 rM J 1 j2 n (nI i) M) r.1 (fun i M => (∀ s, s < i → M 10 s = lN (rsP r c 0 s)) ∧ ∀ b, b ≠ 10 → M b = K b) (fun M => j2 M) (by omega) (fun n i M hi hQ => by
    obtain ⟨p1, p2⟩ := hQ
    refine ⟨am_upL M 10 i (lN (rsP r c 0 i)), ?_, fun s hs => ?_, fun b hb => by rw [am_upL_n hb]; exact p2 b hb⟩
    · show sX11_resultAmbiguity_13 rM J 1 j2 (lX11_resultAmbiguity_13 rM J 1 j2 n) (nI i) M = _
      unfold sX11_resultAmbiguity_13
      rw [h40, if_neg (nIge hi (by omega)), p2 1 (by decide), h42, e_hbL _ (show i < 64 by omega), am_bd, am_let_e, inb (show i < 64 by omega) (by omega), am_ck_true, am_let_e, rM17, nIcl (show i < 1000000 by omega), nI_1]
      show _ = lX11_resultAmbiguity_13 rM J 1 j2 n (nI (i + 1)) (am_upL M 10 i (lN (if btl r.2.1 i = true then 1 else 0)))
      cases btl r.2.1 i <;> rfl
    · by_cases q : s = i
      · rw [q, am_upL_s]
      · rw [am_upL_o q]; exact p1 s (by omega)) (fun n M _ => by
    show sX11_resultAmbiguity_13 rM J 1 j2 (lX11_resultAmbiguity_13 rM J 1 j2 n) (nI r.1) M = _
    unfold sX11_resultAmbiguity_13
    rw [h40, if_pos (nIle (by omega))]) K ⟨fun s hs => absurd hs (Nat.not_lt_zero s), fun _ _ => rfl⟩
  rw [nI_0] at e1
  obtain ⟨K2, e2, a3, a4⟩ := e_ra51 hok h40 hc hwn h16 hU (K := K1) (fun s a hs ha => by rw [a2 26 (by decide)]; exact hT s a hs ha) a1 j4
  obtain ⟨v, e3, hv⟩ := am_for0 (fun n i (v : Int64) => lX11_resultAmbiguity_177 rM J 1 K2 n v (nI i)) r.1 (fun i v => v = lN (sumN (fun s => if btl r.2.2.1 s = true then rsP r c wn s else 0) i)) (fun v => some (v, K2)) (by omega) (fun n i v hi hQ => by
    refine ⟨_, ?_, rfl⟩
    show sX11_resultAmbiguity_177 rM J 1 K2 (lX11_resultAmbiguity_177 rM J 1 K2 n) v (nI i) = _
    unfold sX11_resultAmbiguity_177
    rw [h40, if_neg (nIge hi (by omega)), a4 1 (by decide) (by decide), a2 1 (by decide), h43, e_hbL _ (show i < 64 by omega), am_bd, am_jn_e, inb (show i < 64 by omega) (by omega), am_ck_true, rM17, nIcl (show i < 1000000 by omega), a3 i hi]
    dsimp only
    rw [am_let_e, am_let_e, nI_1, hQ, sumN_s]
    cases btl r.2.2.1 i with
    | false =>
      rw [if_pos (show bI false = 0 from rfl), if_neg (show ¬ false = true by decide), Int64.add_zero]
      rfl
    | true =>
      rw [if_neg (show ¬ bI true = 0 by decide), if_pos rfl, lN_add]) (fun n v _ => by
    show sX11_resultAmbiguity_177 rM J 1 K2 (lX11_resultAmbiguity_177 rM J 1 K2 n) v (nI r.1) = _
    unfold sX11_resultAmbiguity_177
    rw [h40, if_pos (nIle (by omega))]) 0 rfl
  rw [nI_0] at e3
  refine ⟨K2, ?_, fun b x y => (a4 b x y).trans (a2 b x)⟩
  refine e1.trans ?_
  rw [hj2]
  dsimp only
  rw [am_jn_e, e2, hj4]
  dsimp only
  rw [e3, hv]
  rfl
theorem st39 (h : Inv R I L J K) : ∃ r1 r2, pX10_resultAmbiguity R I L 1 = some r1 ∧ pX11_resultAmbiguity rM J K 1 = some r2 ∧ r1 = r2.1 ∧ Inv R I L J r2.2 := by
  have h' := h
  obtain ⟨A, w, sv, tx, wd, rs, sh, ok, hc, hm⟩ := h'
  have c := hc.2.2.2.2.2.2.1
  have m := hm.2.2.2.2.2.1
  cases rs with
  | none =>
    refine ⟨-4, (-4, K), ?_, ?_, rfl, h⟩
    · unfold pX10_resultAmbiguity
      rw [if_pos (show I 1 17 = 0 from c)]
    · unfold pX11_resultAmbiguity
      rw [if_neg (show ¬ (0 : Int32) ≤ J 1 40 by rw [m.1]; decide)]
  | some r =>
    have hok := ok.2.2.2.2.2.1 r rfl
    obtain ⟨t1, t2⟩ := ok.2.2.2.2.1
    have hU := hc.2.2.2.2.2.1
    have hMU := hm.2.2.2.2.1
    obtain ⟨c1, c2, c3, c4, c5⟩ := c
    have o3 : R (R 1 15) 3 = R 1 15 + 1 := by
      rcases hc.1.2.1 with ⟨q, _⟩ | ⟨q, _⟩
      · rw [q]; exact hc.1.r33_3
      · rw [q]; exact hc.1.r37_3
    rw [o3] at c5
    have e1 := e_accepts (R := R) (I := I) (L := L) (o := R 1 15) o3 hok c2 c3 c4 c5 hU.1 t1 hc.1.r10_1 hU.2 t2
    obtain ⟨K', e2, f2⟩ := e_resM hok m t2 t1 hMU.1 hMU.2
    have hle := hok.2.2.2 wd.2 wd.1 t2
    refine ⟨lN (rsF r wd.2 wd.1), (lN (rsF r wd.2 wd.1), K'), ?_, e2, rfl, h.fr (frC.rf R I L) (frM_L f2)⟩
    unfold pX10_resultAmbiguity
    rw [c1, if_neg i10, hc.1.r1_6, e1, am_bd]
    by_cases q : 1 ≤ rsF r wd.2 wd.1
    · have : rsF r wd.2 wd.1 = 1 := by omega
      rw [this, if_pos (Nat.le_refl 1), if_neg (show ¬ (1 : Int32) = 0 by decide)]
      rfl
    · have : rsF r wd.2 wd.1 = 0 := by omega
      rw [this, if_neg (show ¬ 1 ≤ 0 by decide), if_pos rfl]
      rfl
end
