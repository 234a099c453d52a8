/-! fields, arrays, calls of the light judgement -/
def am_cls (c : Nat) (C : String) (T : u_T) (N : Nat) : Prop := vwCl[c]? = some (C, T, N) ∧ (∀ k, k < N → parseFieldDescriptor (T k).2.2.1 = some (am_ty c k)) ∧ ∀ a, a < N → ∀ b, b < N → a ≠ b → (T a).2.1 ≠ (T b).2.1
theorem clX0 : am_cls 0 RX0 TX0 4 := ⟨rfl, tyX0_ok, nmX0⟩
theorem clX1 : am_cls 1 RX1 TX1 4 := ⟨rfl, tyX1_ok, nmX1⟩
theorem clX2 : am_cls 2 RX2 TX2 1 := ⟨rfl, tyX2_ok, nmX2⟩
theorem clX3 : am_cls 3 RX3 TX3 6 := ⟨rfl, tyX3_ok, nmX3⟩
theorem clX4 : am_cls 4 RX4 TX4 5 := ⟨rfl, tyX4_ok, nmX4⟩
theorem clX5 : am_cls 5 RX5 TX5 3 := ⟨rfl, tyX5_ok, nmX5⟩
theorem clX6 : am_cls 6 RX6 TX6 2 := ⟨rfl, tyX6_ok, nmX6⟩
theorem clX7 : am_cls 7 RX7 TX7 2 := ⟨rfl, tyX7_ok, nmX7⟩
theorem clX8 : am_cls 8 RX8 TX8 2 := ⟨rfl, tyX8_ok, nmX8⟩
theorem clX9 : am_cls 9 RX9 TX9 13 := ⟨rfl, tyX9_ok, nmX9⟩
theorem clX10 : am_cls 10 RX10 TX10 18 := ⟨rfl, tyX10_ok, nmX10⟩
theorem clX11 : am_cls 11 RX11 TX11 50 := ⟨rfl, tyX11_ok, nmX11⟩
theorem am_P.set {Z : am_Z} {R R' : am_R} {I I' : am_I} {L L' : am_L} {H H1 : Heap} {a : Nat} {sh : am_Sh} (hP : am_P Z R I L H) (hG : am_G Z a = some sh) (hat : am_at Z R' I' L' a sh H1) (oq : ∀ q : Nat, q ≠ am_B Z + a → H1[q]? = H[q]?) (ho : ∀ b, b ≠ a → R' b = R b ∧ I' b = I b ∧ L' b = L b) : am_P Z R' I' L' H1 := by
  intro b sh' hb
  by_cases hba : b = a
  · subst hba
    cases hG.symm.trans hb
    exact hat
  · have h := hP b sh' hb
    obtain ⟨e1, e2, e3⟩ := ho b hba
    have hq : H1[am_B Z + b]? = H[am_B Z + b]? := oq _ (by omega)
    cases sh' with
    | inl c =>
      obtain ⟨q, h1, h2⟩ := h
      refine ⟨q, h1, ?_⟩
      have h3 := h2.kept hq
      have e : am_obv (am_B Z) c b R' I' L' = am_obv (am_B Z) c b R I L := by
        funext k; simp only [am_obv, e1, e2, e3]
      rw [e]; exact h3
    | inr x =>
      obtain ⟨t, n⟩ := x
      show H1[am_B Z + b]? = _
      rw [hq]
      have e : am_arv (am_B Z) t b R' I' L' = am_arv (am_B Z) t b R I L := by
        funext k; simp only [am_arv, e1, e2, e3]
      rw [e]; exact h
theorem am_upI_ne {I : am_I} {a k : Nat} {v : Int32} {b : Nat} (h : b ≠ a) : am_upI I a k v b = I b := by funext j; simp [am_upI, h]
theorem am_upL_ne {I : am_L} {a k : Nat} {v : Int64} {b : Nat} (h : b ≠ a) : am_upL I a k v b = I b := by funext j; simp [am_upL, h]
theorem am_upR_ne {I : am_R} {a k : Nat} {v : Nat} {b : Nat} (h : b ≠ a) : am_upR I a k v b = I b := by funext j; simp [am_upR, h]
theorem am_inA {Z : am_Z} {a : Nat} {sh : am_Sh} (hG : am_G Z a = some sh) : am_A Z (am_B Z + a) := ⟨a, (fun h => by rw [hG] at h; cases h), rfl⟩
section
variable {α : Type} {Z : am_Z} {X : am_X} {K : am_K} {g : α → am_O} {pc : Nat} {ls : List (Nat × Value)} {st : List Value} {R : am_R} {I : am_I} {L : am_L} {f : Option α}
theorem am_get (c k : Nat) {C : String} {T : u_T} {N idx a : Nat} {v : Value} (hc : am_cls c C T N) (hk : k < N) (hG : am_G Z a = some (.inl c)) (hin : ∀ w ∈ u_ws C T N, w ∈ K.2.2.2.1) (hlink : Cond.fieldLink K.2.2.1 idx (T k).1 (T k).2.1 (T k).2.2.1 ∈ K.2.2.2.1) (hv : am_obv (am_B Z) c a R I L k = v) (d : decode K.1 pc = .ok (.getfield idx, 3)) (kk : am_V Z X K g (pc + 3) ls (v :: st) R I L f) : am_V Z X K g pc ls (.ref (am_B Z + a) :: st) R I L f := fun ok hT r hf H locs lsA hl hP hS => by
  obtain ⟨q, hq, cell, q1, q2, q3, q4⟩ := hP a _ hG
  have hr : q = (C, T, N) := Option.some.inj (hq.symm.trans hc.1)
  subst hr
  obtain ⟨hSl, hfc, kC, hkC, hkind⟩ := ok.2.2.2.2.2.1.1.1 c _ hc.1
  obtain ⟨cf, kf, fi, fd, hi, hsl⟩ := hSl k hk
  refine W.getf ok.1 ok.2.1 ok.2.2.2.1 (ok.2.2.2.2.1 _ hlink) hi (u_facts hfc hkC (u_lays ok.2.2.2.2.1 hin hk) hi).1 q1 (by rw [q3]; exact fun h => by cases h) (v := v) ?_ rfl rfl d (kk ok hT r hf H locs lsA hl hP hS)
  rw [hsl, q4 k hk, hv]
theorem am_getR (c k : Nat) {C : String} {T : u_T} {N idx a : Nat} {sh : am_Sh} (hc : am_cls c C T N) (hk : k < N) (hG : am_G Z a = some (.inl c)) (hin : ∀ w ∈ u_ws C T N, w ∈ K.2.2.2.1) (hlink : Cond.fieldLink K.2.2.1 idx (T k).1 (T k).2.1 (T k).2.2.1 ∈ K.2.2.2.1) (hrk : am_rk c k = some sh) (hv : am_obv (am_B Z) c a R I L k = am_rv (am_B Z) (R a k)) (d : decode K.1 pc = .ok (.getfield idx, 3)) (kk : am_G Z (R a k) = some sh → am_V Z X K g (pc + 3) ls (.ref (am_B Z + R a k) :: st) R I L f) : am_V Z X K g pc ls (.ref (am_B Z + a) :: st) R I L f := fun ok hT r hf H locs lsA hl hP hS => by
  obtain ⟨h1, h2⟩ := hT.1 a c k sh hG hrk
  exact am_get c k (idx := idx) hc hk hG hin hlink (hv.trans (am_rv_pos h1)) d (kk h2) ok hT r hf H locs lsA hl hP hS
theorem am_putG (c k : Nat) {C : String} {T : u_T} {N idx a : Nat} {v : Value} {R' : am_R} {I' : am_I} {L' : am_L} (hc : am_cls c C T N) (hk : k < N) (hG : am_G Z a = some (.inl c)) (hin : ∀ w ∈ u_ws C T N, w ∈ K.2.2.2.1) (hlink : Cond.fieldLink K.2.2.1 idx (T k).1 (T k).2.1 (T k).2.2.1 ∈ K.2.2.2.1) (hfin : (T k).2.2.2 = false) (hn : narrow (am_ty c k) v = v) (hfit : fits (am_ty c k) v = true) (hval : ∀ j, am_obv (am_B Z) c a R' I' L' j = if j = k then v else am_obv (am_B Z) c a R I L j) (ho : ∀ b, b ≠ a → R' b = R b ∧ I' b = I b ∧ L' b = L b) (hT' : am_T (am_G Z) R → am_T (am_G Z) R') (d : decode K.1 pc = .ok (.putfield idx, 3)) (kk : am_V Z X K g (pc + 3) ls st R' I' L' f) : am_V Z X K g pc ls (v :: .ref (am_B Z + a) :: st) R I L f := fun ok hT r hf H locs lsA hl hP hS => by
  have hap := va_apart (own := K.2.2.1) ok.2.2.2.2.1 hin (am_ty c) hc.2.1 hc.2.2 ok.2.2.2.2.2.1.1 hc.1
  obtain ⟨q, hq, cell, q1, q2, q3, q4⟩ := hP a _ hG
  have hr : q = (C, T, N) := Option.some.inj (hq.symm.trans hc.1)
  subst hr
  obtain ⟨hSl, hfc, kC, hkC, hkind⟩ := ok.2.2.2.2.2.1.1.1 c _ hc.1
  obtain ⟨cf, kf, fi, fd, hi, hsl⟩ := hSl k hk
  have hlay := ok.2.2.2.2.1 _ (hin _ (u_in_lay hk))
  unfold u_lay at hlay
  rw [if_neg (by rw [hfin]; decide)] at hlay
  have hst := (u_facts hfc hkC (u_lays ok.2.2.2.2.1 hin hk) hi).1
  have h6 := u_store hfc hkC hkind hlay hi (hc.2.1 k hk) hn hfit
  refine W.putK ok.1 ok.2.1 (f := fd) ⟨ok.2.2.2.1, ok.2.2.2.2.1 _ hlink, ⟨_, _, _, hi⟩, hst⟩ (by rw [q2]; exact h6) q1 q3 (by rw [hsl]; exact k2_hasslot (q4 k hk)) rfl rfl d fun H' e1 e2 e3 => ?_
  rw [hsl] at e1 ⊢
  refine kk ok (hT' hT) r hf H' _ lsA hl (hP.set hG ⟨_, hc.1, t_OB.to (V := updV (am_obv (am_B Z) c a R I L) k v) ⟨_, e1, q2, q3, t_set q4 hap hk v⟩ (fun j _ => (hval j).symm)⟩ e3 ho) (hS.put e2 e3 (am_inA hG))
theorem am_putI (c k : Nat) {C : String} {T : u_T} {N idx a : Nat} {x : Int32} (hc : am_cls c C T N) (hk : k < N) (hG : am_G Z a = some (.inl c)) (hin : ∀ w ∈ u_ws C T N, w ∈ K.2.2.2.1) (hlink : Cond.fieldLink K.2.2.1 idx (T k).1 (T k).2.1 (T k).2.2.1 ∈ K.2.2.2.1) (hfin : (T k).2.2.2 = false) (hty : am_ty c k = .int) (d : decode K.1 pc = .ok (.putfield idx, 3)) (kk : am_V Z X K g (pc + 3) ls st R (am_upI I a k x) L f) : am_V Z X K g pc ls (.int x :: .ref (am_B Z + a) :: st) R I L f := by
  refine am_putG c k (idx := idx) hc hk hG hin hlink hfin (by rw [hty]; rfl) (by rw [hty]; rfl) (fun j => ?_) (fun b hb => ⟨rfl, am_upI_ne hb, rfl⟩) (fun h => h) d kk
  by_cases hj : j = k
  · subst hj; simp [am_obv, am_upI, hty, am_val]
  · simp [am_obv, am_upI, hj]
theorem am_putZ (c k : Nat) {C : String} {T : u_T} {N idx a : Nat} {x : Int32} (hc : am_cls c C T N) (hk : k < N) (hG : am_G Z a = some (.inl c)) (hin : ∀ w ∈ u_ws C T N, w ∈ K.2.2.2.1) (hlink : Cond.fieldLink K.2.2.1 idx (T k).1 (T k).2.1 (T k).2.2.1 ∈ K.2.2.2.1) (hfin : (T k).2.2.2 = false) (hty : am_ty c k = .boolean) (hb : am_isb x = true) (d : decode K.1 pc = .ok (.putfield idx, 3)) (kk : am_V Z X K g (pc + 3) ls st R (am_upI I a k x) L f) : am_V Z X K g pc ls (.int x :: .ref (am_B Z + a) :: st) R I L f := by
  refine am_putG c k (idx := idx) hc hk hG hin hlink hfin (by rw [hty]; exact am_zn hb) (by
    rw [hty]
    simp only [am_isb, Bool.or_eq_true, beq_iff_eq] at hb
    rcases hb with h | h <;> subst h <;> decide) (fun j => ?_) (fun b hb => ⟨rfl, am_upI_ne hb, rfl⟩) (fun h => h) d kk
  by_cases hj : j = k
  · subst hj; simp [am_obv, am_upI, hty, am_val]
  · simp [am_obv, am_upI, hj]
theorem am_putL (c k : Nat) {C : String} {T : u_T} {N idx a : Nat} {x : Int64} (hc : am_cls c C T N) (hk : k < N) (hG : am_G Z a = some (.inl c)) (hin : ∀ w ∈ u_ws C T N, w ∈ K.2.2.2.1) (hlink : Cond.fieldLink K.2.2.1 idx (T k).1 (T k).2.1 (T k).2.2.1 ∈ K.2.2.2.1) (hfin : (T k).2.2.2 = false) (hty : am_ty c k = .long) (d : decode K.1 pc = .ok (.putfield idx, 3)) (kk : am_V Z X K g (pc + 3) ls st R I (am_upL L a k x) f) : am_V Z X K g pc ls (.long x :: .ref (am_B Z + a) :: st) R I L f := by
  refine am_putG c k (idx := idx) hc hk hG hin hlink hfin (by rw [hty]; rfl) (by rw [hty]; rfl) (fun j => ?_) (fun b hb => ⟨rfl, rfl, am_upL_ne hb⟩) (fun h => h) d kk
  by_cases hj : j = k
  · subst hj; simp [am_obv, am_upL, hty, am_val]
  · simp [am_obv, am_upL, hj]
theorem am_arr {t n : Nat} {ty : FieldType} (ht : (am_tys Z.2.2.1)[t]? = some (Z.2.2.1 t, ty)) {U : State} (hE : am_E Z U) (z : Nat → Value) : U.isArrayOf (arrV (Z.2.2.1 t) n z) ty := (hE.1.2 t _ ht).1 n z
theorem am_alen {a t n : Nat} {ty : FieldType} {v : Int32} (ht : (am_tys Z.2.2.1)[t]? = some (Z.2.2.1 t, ty)) (hG : am_G Z a = some (.inr (t, n))) (hv : n.toInt32 = v) (d : decode K.1 pc = .ok (.arraylength, 1)) (kk : am_V Z X K g (pc + 1) ls (.int v :: st) R I L f) : am_V Z X K g pc ls (.ref (am_B Z + a) :: st) R I L f := fun ok hT r hf H locs lsA hl hP hS =>
  W.alen ok.1 ok.2.1 (hP a _ hG) (am_arr ht ok.2.2.2.2.2.1 _) (by rw [arrV_size]; exact hv) rfl rfl d (kk ok hT r hf H locs lsA hl hP hS)
theorem am_lt_of {i : Int32} {n : Nat} (h : am_inb i n = true) : i.toNatClampNeg < n := by
  simp only [am_inb, Bool.and_eq_true, decide_eq_true_eq] at h
  exact h.2
theorem am_iald {a n : Nat} {i : Int32} (hG : am_G Z a = some (.inr (0, n))) (d : decode K.1 pc = .ok (.iaload, 1)) (kk : am_V Z X K g (pc + 1) ls (.int (I a i.toNatClampNeg) :: st) R I L f) : am_V Z X K g pc ls (.int i :: .ref (am_B Z + a) :: st) R I L (am_ck (am_inb i n) f) := am_ckV fun hb ok hT r hf H locs lsA hl hP hS =>
  W.iald (v := .int (I a i.toNatClampNeg)) ok.1 ok.2.1 (hP a _ hG) (am_arr (t := 0) rfl ok.2.2.2.2.2.1 _) (fun q => by cases q) (by rw [arrV_size]; exact am_inb_vp hb) (by rw [arrV_read _ _ (am_lt_of hb)]; rfl) rfl rfl d (kk ok hT r hf H locs lsA hl hP hS)
theorem am_zald {a n : Nat} {i : Int32} (hG : am_G Z a = some (.inr (2, n))) (d : decode K.1 pc = .ok (.baload, 1)) (kk : am_V Z X K g (pc + 1) ls (.int (I a i.toNatClampNeg) :: st) R I L f) : am_V Z X K g pc ls (.int i :: .ref (am_B Z + a) :: st) R I L (am_ck (am_inb i n) f) := am_ckV fun hb ok hT r hf H locs lsA hl hP hS =>
  W.zald (v := .int (I a i.toNatClampNeg)) ok.1 ok.2.1 (hP a _ hG) (am_arr (t := 2) rfl ok.2.2.2.2.2.1 _) (fun q => by cases q) (by rw [arrV_size]; exact am_inb_vp hb) (by rw [arrV_read _ _ (am_lt_of hb)]; rfl) rfl rfl d (kk ok hT r hf H locs lsA hl hP hS)
theorem am_lald {a n : Nat} {i : Int32} (hG : am_G Z a = some (.inr (1, n))) (d : decode K.1 pc = .ok (.laload, 1)) (kk : am_V Z X K g (pc + 1) ls (.long (L a i.toNatClampNeg) :: st) R I L f) : am_V Z X K g pc ls (.int i :: .ref (am_B Z + a) :: st) R I L (am_ck (am_inb i n) f) := am_ckV fun hb ok hT r hf H locs lsA hl hP hS =>
  W.lald (v := .long (L a i.toNatClampNeg)) ok.1 ok.2.1 (hP a _ hG) (am_arr (t := 1) rfl ok.2.2.2.2.2.1 _) (fun q => by cases q) (by rw [arrV_size]; exact am_inb_vp hb) (by rw [arrV_read _ _ (am_lt_of hb)]; rfl) rfl rfl d (kk ok hT r hf H locs lsA hl hP hS)
theorem am_aald {a n : Nat} {i : Int32} (hG : am_G Z a = some (.inr (3, n))) (d : decode K.1 pc = .ok (.aaload, 1)) (kk : am_G Z (R a i.toNatClampNeg) = some (.inl 5) → am_V Z X K g (pc + 1) ls (.ref (am_B Z + R a i.toNatClampNeg) :: st) R I L f) : am_V Z X K g pc ls (.int i :: .ref (am_B Z + a) :: st) R I L (am_ck (am_inb i n) f) := am_ckV fun hb ok hT r hf H locs lsA hl hP hS => by
  obtain ⟨h1, h2⟩ := hT.2.1 a n i.toNatClampNeg hG (am_lt_of hb)
  exact W.aald (v := .ref (am_B Z + R a i.toNatClampNeg)) ok.1 ok.2.1 (hP a _ hG) (am_arr (t := 3) rfl ok.2.2.2.2.2.1 _) rfl (fun q => by cases q) (by rw [arrV_size]; exact am_inb_vp hb) (by rw [arrV_read _ _ (am_lt_of hb)]; exact congrArg some (am_rv_pos h1)) rfl rfl d (kk h2 ok hT r hf H locs lsA hl hP hS)
theorem am_iast {a n : Nat} {i x : Int32} (hG : am_G Z a = some (.inr (0, n))) (d : decode K.1 pc = .ok (.iastore, 1)) (kk : am_V Z X K g (pc + 1) ls st R (am_upI I a i.toNatClampNeg x) L f) : am_V Z X K g pc ls (.int x :: .int i :: .ref (am_B Z + a) :: st) R I L (am_ck (am_inb i n) f) := am_ckV fun hb ok hT r hf H locs lsA hl hP hS => by
  refine W.iast ok.1 ok.2.1 (hP a _ hG) (am_arr (t := 0) rfl ok.2.2.2.2.2.1 _) (fun q => by cases q) (by rw [arrV_size]; exact am_inb_vp hb) rfl rfl d fun H1 e z oq => ?_
  refine kk ok hT r hf H1 _ lsA hl (hP.set hG ?_ oq (fun b hb => ⟨rfl, am_upI_ne hb, rfl⟩)) (hS.put z oq (am_inA hG))
  show H1[am_B Z + a]? = some (arrV _ _ _)
  rw [e, arrV_store]
  congr 2
  funext j
  by_cases hj : j = i.toNatClampNeg
  · subst hj; simp [updV, am_arv, am_upI, am_elt]
  · simp [updV, am_arv, am_upI, hj]
theorem am_zast {a n : Nat} {i x : Int32} (hG : am_G Z a = some (.inr (2, n))) (hx : am_isb x = true) (d : decode K.1 pc = .ok (.bastore, 1)) (kk : am_V Z X K g (pc + 1) ls st R (am_upI I a i.toNatClampNeg x) L f) : am_V Z X K g pc ls (.int x :: .int i :: .ref (am_B Z + a) :: st) R I L (am_ck (am_inb i n) f) := am_ckV fun hb ok hT r hf H locs lsA hl hP hS => by
  refine W.zast ok.1 ok.2.1 (hP a _ hG) (am_arr (t := 2) rfl ok.2.2.2.2.2.1 _) (fun q => by cases q) (by rw [arrV_size]; exact am_inb_vp hb) rfl rfl d fun H1 e z oq => ?_
  refine kk ok hT r hf H1 _ lsA hl (hP.set hG ?_ oq (fun b hb => ⟨rfl, am_upI_ne hb, rfl⟩)) (hS.put z oq (am_inA hG))
  show H1[am_B Z + a]? = some (arrV _ _ _)
  rw [e, am_zn hx, arrV_store]
  congr 2
  funext j
  by_cases hj : j = i.toNatClampNeg
  · subst hj; simp [updV, am_arv, am_upI, am_elt]
  · simp [updV, am_arv, am_upI, hj]
theorem am_last {a n : Nat} {i : Int32} {x : Int64} (hG : am_G Z a = some (.inr (1, n))) (d : decode K.1 pc = .ok (.lastore, 1)) (kk : am_V Z X K g (pc + 1) ls st R I (am_upL L a i.toNatClampNeg x) f) : am_V Z X K g pc ls (.long x :: .int i :: .ref (am_B Z + a) :: st) R I L (am_ck (am_inb i n) f) := am_ckV fun hb ok hT r hf H locs lsA hl hP hS => by
  refine W.last ok.1 ok.2.1 (hP a _ hG) (am_arr (t := 1) rfl ok.2.2.2.2.2.1 _) (fun q => by cases q) (by rw [arrV_size]; exact am_inb_vp hb) rfl rfl d fun H1 e z oq => ?_
  refine kk ok hT r hf H1 _ lsA hl (hP.set hG ?_ oq (fun b hb => ⟨rfl, rfl, am_upL_ne hb⟩)) (hS.put z oq (am_inA hG))
  show H1[am_B Z + a]? = some (arrV _ _ _)
  rw [e, arrV_store]
  congr 2
  funext j
  by_cases hj : j = i.toNatClampNeg
  · subst hj; simp [updV, am_arv, am_upL, am_elt]
  · simp [updV, am_arv, am_upL, hj]
end
