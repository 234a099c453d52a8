/-! what the class's search looks for: numbers of paths -/
section
variable {A : am_Au}
def stepP (A : am_Au) (a : Nat) (P : Nat → Nat) (t : Nat) : Nat := sumN (fun s => if bt (A.2.2.2 a s) t = true then P s else 0) A.1
def fl (A : am_Au) : List Nat → (Nat → Nat) → Nat → Nat
  | [], P => P
  | a :: w, P => fl A w (stepP A a P)
theorem fl_pn {t : Nat} (ht : t < A.1) : ∀ w P, fl A w P t = sumN (fun s => P s * pn A w s t) A.1
  | [], P => by
    show P t = sumN (fun s => P s * (if s = t then 1 else 0)) A.1
    rw [sumN_one (k := t) A.1 ht (fun i _ hi => by rw [if_neg hi, Nat.mul_zero]), if_pos rfl, Nat.mul_one]
  | a :: w, P => by
    show fl A w (stepP A a P) t = sumN (fun s => P s * sumN (fun u => if bt (A.2.2.2 a s) u = true then pn A w u t else 0) A.1) A.1
    rw [fl_pn ht w (stepP A a P)]
    have e1 : sumN (fun u => stepP A a P u * pn A w u t) A.1 = sumN (fun u => sumN (fun s => if bt (A.2.2.2 a s) u = true then P s * pn A w u t else 0) A.1) A.1 := sumN_congr _ fun u _ => by
      unfold stepP
      rw [← sumN_mulr]
      exact sumN_congr _ fun s _ => by
        by_cases h : bt (A.2.2.2 a s) u = true
        · rw [if_pos h, if_pos h]
        · rw [if_neg h, if_neg h, Nat.zero_mul]
    have e2 : sumN (fun s => P s * sumN (fun u => if bt (A.2.2.2 a s) u = true then pn A w u t else 0) A.1) A.1 = sumN (fun s => sumN (fun u => if bt (A.2.2.2 a s) u = true then P s * pn A w u t else 0) A.1) A.1 := sumN_congr _ fun s _ => by
      rw [← sumN_mul]
      exact sumN_congr _ fun u _ => by
        by_cases h : bt (A.2.2.2 a s) u = true
        · rw [if_pos h, if_pos h]
        · rw [if_neg h, if_neg h, Nat.mul_zero]
    rw [e1, e2, sumN_swap]
/-- the set of the states with at least c -/
def zS (x c : Nat) (P : Nat → Nat) : Prop := ∀ t, t < 6 → (bt (nI x) t = true ↔ c ≤ P t)
theorem zS1 (hw : aw A) {X : Nat} {P : Nat → Nat} (h : zS X 1 P) (a : Nat) : zS (dl A a X) 1 (stepP A a P) := fun t ht => by
  have h6 := hw.2.1
  rw [← dl_e hw, bt_stp]
  unfold stepP
  rw [sum1]
  constructor
  · rintro ⟨s, hs, g1, g2⟩
    exact ⟨s, hs, (ite1 (Nat.le_refl 1)).mpr ⟨g2, (h s (by omega)).mp g1⟩⟩
  · rintro ⟨s, hs, g⟩
    obtain ⟨g1, g2⟩ := (ite1 (Nat.le_refl 1)).mp g
    exact ⟨s, hs, (h s (by omega)).mpr g2, g1⟩
theorem zS2 (hw : aw A) {X Y : Nat} (hX : X < 64) {P : Nat → Nat} (h : zS X 1 P) (g : zS Y 2 P) (a : Nat) : zS (nz (stp A (nI Y) a ||| tw A a (nz (nI X &&& (nI Y ^^^ (-1 : Int32)))))) 2 (stepP A a P) := fun t ht => by
  have h6 := hw.2.1
  have hx : nI X &&& (nI Y ^^^ (-1 : Int32)) = nI (nz (nI X &&& (nI Y ^^^ (-1 : Int32)))) := nz_e (lon_andl (lon_64 hX))
  have hv := nz_e (lon_or ((lon_stp hw (nI Y) a).le hw.2.1) (lon_tw hw a (nz (nI X &&& (nI Y ^^^ (-1 : Int32))))))
  have hbit : ∀ s, s < 6 → ((nz (nI X &&& (nI Y ^^^ (-1 : Int32)))).testBit s = true ↔ 1 ≤ P s ∧ ¬ 2 ≤ P s) := fun s hs => by
    rw [← bt_nI _ (nz_lt _) s (by omega), ← hx, bt_and, bt_xor, bt_m1 s (by omega), Bool.and_eq_true, ← h s hs, ← g s hs]
    cases bt (nI Y) s <;> simp
  rw [← hv, bt_or, Bool.or_eq_true, bt_stp]
  have e : bt (tw A a (nz (nI X &&& (nI Y ^^^ (-1 : Int32))))) t = true ↔ _ := bt_fo2 (A := A) (a := a) (X := nz (nI X &&& (nI Y ^^^ (-1 : Int32)))) (t := t) 6
  rw [e]
  unfold stepP
  rw [sum2]
  have lt1 : ∀ s, bt (A.2.2.2 a s) t = true → s < A.1 := fun s hs => Nat.lt_of_not_le fun c => T_out hw (Or.inl c) hs
  constructor
  · rintro (⟨s, hs, g1, g2⟩ | ⟨s, s', hs, hs', hne, b1, b2, g1, g2⟩)
    · exact Or.inl ⟨s, hs, (ite1 (by decide)).mpr ⟨g2, (g s (by omega)).mp g1⟩⟩
    · exact Or.inr ⟨s, s', lt1 s g1, lt1 s' g2, hne, (ite1 (Nat.le_refl 1)).mpr ⟨g1, ((hbit s hs).mp b1).1⟩, (ite1 (Nat.le_refl 1)).mpr ⟨g2, ((hbit s' hs').mp b2).1⟩⟩
  · rintro (⟨s, hs, k⟩ | ⟨s, s', hs, hs', hne, k1, k2⟩)
    · obtain ⟨k1, k2⟩ := (ite1 (by decide)).mp k
      exact Or.inl ⟨s, hs, (g s (by omega)).mpr k2, k1⟩
    · obtain ⟨a1, a2⟩ := (ite1 (Nat.le_refl 1)).mp k1
      obtain ⟨b1, b2⟩ := (ite1 (Nat.le_refl 1)).mp k2
      by_cases c1 : 2 ≤ P s
      · exact Or.inl ⟨s, hs, (g s (by omega)).mpr c1, a1⟩
      · by_cases c2 : 2 ≤ P s'
        · exact Or.inl ⟨s', hs', (g s' (by omega)).mpr c2, b1⟩
        · exact Or.inr ⟨s, s', by omega, by omega, hne, (hbit s (by omega)).mpr ⟨a2, c1⟩, (hbit s' (by omega)).mpr ⟨b2, c2⟩, a1, b1⟩
/-- a word leads to the sets of the states with one path and with two -/
theorem rn_f (hw : aw A) : ∀ w z P, z < 4096 → zS (z / 64) 1 P → zS (z % 64) 2 P → zS (rn (nxS A false) z w / 64) 1 (fl A w P) ∧ zS (rn (nxS A false) z w % 64) 2 (fl A w P)
  | [], _, _, _, h, g => ⟨h, g⟩
  | a :: w, z, P, hz, h, g => by
    have hX : z / 64 < 64 := by omega
    have n1 := dl_lt A a (z / 64)
    have n2 := nz_lt (stp A (nI (z % 64)) a ||| tw A a (nz (nI (z / 64) &&& (nI (z % 64) ^^^ (-1 : Int32)))))
    have e1 : nxS A false a z / 64 = dl A a (z / 64) := by unfold nxS; rw [if_neg (by decide)]; omega
    have e2 : nxS A false a z % 64 = nz (stp A (nI (z % 64)) a ||| tw A a (nz (nI (z / 64) &&& (nI (z % 64) ^^^ (-1 : Int32))))) := by unfold nxS; rw [if_neg (by decide)]; omega
    exact rn_f hw w (nxS A false a z) (stepP A a P) (nxS_lt A false a z) (by rw [e1]; exact zS1 hw h a) (by rw [e2]; exact zS2 hw hX h g a)
/-- two sets of states on their own -/
theorem rn_t (hw : aw A) : ∀ w z P Q, z < 4096 → zS (z / 64) 1 P → zS (z % 64) 1 Q → zS (rn (nxS A true) z w / 64) 1 (fl A w P) ∧ zS (rn (nxS A true) z w % 64) 1 (fl A w Q)
  | [], _, _, _, _, h, g => ⟨h, g⟩
  | a :: w, z, P, Q, hz, h, g => by
    have n1 := dl_lt A a (z / 64)
    have n2 := dl_lt A a (z % 64)
    have e1 : nxS A true a z / 64 = dl A a (z / 64) := by unfold nxS; rw [if_pos rfl]; omega
    have e2 : nxS A true a z % 64 = dl A a (z % 64) := by unfold nxS; rw [if_pos rfl]; omega
    exact rn_t hw w (nxS A true a z) (stepP A a P) (stepP A a Q) (nxS_lt A true a z) (by rw [e1]; exact zS1 hw h a) (by rw [e2]; exact zS1 hw g a)
theorem fl_one {s t : Nat} (hs : s < A.1) (ht : t < A.1) (w : List Nat) : fl A w (fun x => if x = s then 1 else 0) t = pn A w s t := by
  rw [fl_pn ht, sumN_one (k := s) A.1 hs (fun i _ hi => by rw [if_neg hi, Nat.zero_mul]), if_pos rfl, Nat.one_mul]
theorem rn_lt (sp : Bool) : ∀ w z, z < 4096 → rn (nxS A sp) z w < 4096
  | [], _, h => h
  | a :: w, z, _ => rn_lt sp w _ (nxS_lt A sp a z)
end
