/-! refs that are written, refs that may be null -/
section
variable {α : Type} {Z : am_Z} {X : am_X} {K : am_K} {g : α → am_O} {pc : Nat} {ls : List (Nat × Value)} {st : List Value} {R : am_R} {I : am_I} {L : am_L} {f : Option α}
theorem am_T.up {G : am_S} {R : am_R} {a c k v : Nat} {sh : am_Sh} (hG : G a = some (.inl c)) (hrk : am_rk c k = some sh) (h0 : v ≠ 0) (hv : G v = some sh) (hT : am_T G R) : am_T G (am_upR R a k v) := by
  refine ⟨fun a' c' k' sh' h1 h2 => ?_, fun a' n j h1 h2 => ?_, fun a' h1 => ?_⟩
  · by_cases ha : a' = a
    · subst ha
      cases hG.symm.trans h1
      by_cases hk : k' = k
      · subst hk
        cases hrk.symm.trans h2
        simpa [am_upR] using ⟨h0, hv⟩
      · have := hT.1 a' c k' sh' h1 h2
        simpa [am_upR, hk] using this
    · have := hT.1 a' c' k' sh' h1 h2
      simpa [am_upR, ha] using this
  · have ha : a' ≠ a := fun e => by rw [e, hG] at h1; cases h1
    have := hT.2.1 a' n j h1 h2
    simpa [am_upR, ha] using this
  · by_cases ha : a' = a
    · subst ha
      cases hG.symm.trans h1
      have hk : (14 : Nat) ≠ k := fun e => by subst e; cases hrk
      have := hT.2.2 a' h1
      simpa [am_upR, hk] using this
    · have := hT.2.2 a' h1
      simpa [am_upR, ha] using this
theorem am_getR2 (c k : Nat) {C : String} {T : u_T} {N idx a : Nat} {sh : am_Sh} (hc : am_cls c C T N) (hk : k < N) (hG : am_G Z a = some (.inl c)) (hin : ∀ w ∈ u_ws C T N, w ∈ K.2.2.2.1) (hlink : Cond.fieldLink K.2.2.1 idx (T k).1 (T k).2.1 (T k).2.2.1 ∈ K.2.2.2.1) (hrk : am_rk c k = some sh) (hv : am_obv (am_B Z) c a R I L k = am_rv (am_B Z) (R a k)) (d : decode K.1 pc = .ok (.getfield idx, 3)) (kk : R a k ≠ 0 → am_G Z (R a k) = some sh → am_V Z X K g (pc + 3) ls (.ref (am_B Z + R a k) :: st) R I L f) : am_V Z X K g pc ls (.ref (am_B Z + a) :: st) R I L f := fun ok hT r hf H locs lsA hl hP hS => by
  obtain ⟨h1, h2⟩ := hT.1 a c k sh hG hrk
  exact am_get c k (idx := idx) hc hk hG hin hlink (hv.trans (am_rv_pos h1)) d (kk h1 h2) ok hT r hf H locs lsA hl hP hS
theorem am_getN (c k : Nat) {C : String} {T : u_T} {N idx a : Nat} (hc : am_cls c C T N) (hk : k < N) (hG : am_G Z a = some (.inl c)) (hin : ∀ w ∈ u_ws C T N, w ∈ K.2.2.2.1) (hlink : Cond.fieldLink K.2.2.1 idx (T k).1 (T k).2.1 (T k).2.2.1 ∈ K.2.2.2.1) (hv : am_obv (am_B Z) c a R I L k = am_rv (am_B Z) (R a k)) (d : decode K.1 pc = .ok (.getfield idx, 3)) (kk : am_V Z X K g (pc + 3) ls (am_rv (am_B Z) (R a k) :: st) R I L f) : am_V Z X K g pc ls (.ref (am_B Z + a) :: st) R I L f := am_get c k (idx := idx) hc hk hG hin hlink hv d kk
theorem am_putR (c k : Nat) {C : String} {T : u_T} {N idx a v : Nat} {sh : am_Sh} {nm : String} (hc : am_cls c C T N) (hk : k < N) (hG : am_G Z a = some (.inl c)) (hin : ∀ w ∈ u_ws C T N, w ∈ K.2.2.2.1) (hlink : Cond.fieldLink K.2.2.1 idx (T k).1 (T k).2.1 (T k).2.2.1 ∈ K.2.2.2.1) (hfin : (T k).2.2.2 = false) (hty : am_ty c k = .object nm) (hrk : am_rk c k = some sh) (h0 : v ≠ 0) (hv : am_G Z v = some sh) (d : decode K.1 pc = .ok (.putfield idx, 3)) (kk : am_V Z X K g (pc + 3) ls st (am_upR R a k v) I L f) : am_V Z X K g pc ls (.ref (am_B Z + v) :: .ref (am_B Z + a) :: st) R I L f := by
  refine am_putG c k (idx := idx) hc hk hG hin hlink hfin (by rw [hty]; rfl) (by rw [hty]; rfl) (fun j => ?_) (fun b hb => ⟨am_upR_ne hb, rfl, rfl⟩) (am_T.up hG hrk h0 hv) d kk
  by_cases hj : j = k
  · subst hj; simp [am_obv, am_upR, hty, am_val, am_rv, h0]
  · simp [am_obv, am_upR, hj]
theorem am_letR {kk : am_R → Option α} (k : ∀ J, am_V Z X K g pc ls st J I L (kk J)) : am_V Z X K g pc ls st R I L (am_let R kk) := k R
theorem am_top {v v' : Value} (h : v = v') (k : am_V Z X K g pc ls (v' :: st) R I L f) : am_V Z X K g pc ls (v :: st) R I L f := h ▸ k
theorem am_aload_nR {q : Fin 4} {i e : Nat} (d : decode K.1 pc = .ok (.aload_n q, 1)) (hi : (q : Nat) = i) (j : Nat) (hj : ls[j]? = some (i, am_rv (am_B Z) e)) (k : am_V Z X K g (pc + 1) ls (am_rv (am_B Z) e :: st) R I L f) : am_V Z X K g pc ls st R I L f := fun ok hT r hf H locs lsA hl hP hS => by
  by_cases h : e = 0
  · subst h
    exact lv_aload_nN ok.1 ok.2.1 d hi (lv_at hl j hj) (k ok hT r hf H locs lsA hl hP hS)
  · rw [am_rv_pos h] at hj k
    exact lv_aload_n ok.1 ok.2.1 d hi (lv_at hl j hj) (k ok hT r hf H locs lsA hl hP hS)
theorem am_astore_nR {q0 : Fin 4} {i e : Nat} {ls' : List (Nat × Value)} (d : decode K.1 pc = .ok (.astore_n q0, 1)) (hi : (q0 : Nat) = i) (hn : i < K.2.1) (hq : (i, am_rv (am_B Z) e) :: ls.filter (fun q => (!(q.1 == i) && !(q.1 + 1 == i && q.2.category == 2))) = ls') (k : am_V Z X K g (pc + 1) ls' st R I L f) : am_V Z X K g pc ls (am_rv (am_B Z) e :: st) R I L f := fun ok hT r hf H locs lsA hl hP hS => by
  by_cases h : e = 0
  · subst h
    exact lv_astore_nN ok.1 ok.2.1 d hi hl hn hq (fun lsB hlB => k ok hT r hf H locs lsB hlB hP hS)
  · rw [am_rv_pos h] at hq ⊢
    exact lv_astore_n ok.1 ok.2.1 d hi hl hn hq (fun lsB hlB => k ok hT r hf H locs lsB hlB hP hS)
theorem am_ifnn {off : Int} {tgt e : Nat} {f1 f2 : Option α} (d : decode K.1 pc = .ok (.ifnonnull off, 3)) (ht : (pc : Int) + off = (tgt : Int)) (kf : e = 0 → am_V Z X K g (pc + 3) ls st R I L f1) (kt : ¬ e = 0 → am_V Z X K g tgt ls st R I L f2) : am_V Z X K g pc ls (am_rv (am_B Z) e :: st) R I L (if e = 0 then f1 else f2) := fun ok hT r hf H locs lsA hl hP hS => by
  by_cases h : e = 0
  · rw [if_pos h] at hf
    have := kf h
    subst h
    exact lv_ifnonnullN ok.1 ok.2.1 d (this ok hT r hf H locs lsA hl hP hS)
  · rw [if_neg h] at hf
    rw [am_rv_pos h]
    exact lv_ifnonnull ok.1 ok.2.1 d ht (kt h ok hT r hf H locs lsA hl hP hS)
theorem am_callVh {β : Type} {fN : Option β} {gN : β → am_O} {kk : β → Option α} {y : MethodName} {Kn : am_K} {n : Nat} {idx ci a : Nat} {C : String} {T : u_T} {N : Nat} {st0 : List Value} (As : List Value) (hM : am_M Z y Kn (.ref (am_B Z + a) :: As) R I L fN gN) (hG : am_G Z a = some (.inl ci)) (hc : am_cls ci C T N) (hgood : GoodIn K.2.2.2.1 (wsV K.2.2.1 idx C y Kn.2.2.2.1)) (hcl : am_cl y Kn n) (hyC : y.cls = C) (hR : Kn.2.2.2.2.2.frames + 1 ≤ K.2.2.2.2.2.frames ∧ 8 + (Kn.2.1 + 11) + Kn.2.2.2.2.2.locals ≤ K.2.2.2.2.2.locals) (hn : As.length = n) (hst : st0 = As.reverse ++ .ref (am_B Z + a) :: st) (h8 : (st.map fun v => v.category).sum ≤ 8) (d : decode K.1 pc = .ok (.invokevirtual idx, 3))
    (k : ∀ r, am_T (am_G Z) R → fN = some r → am_V Z X K g (pc + 3) ls ((gN r).1.toList ++ st) (gN r).2.1 (gN r).2.2.1 (gN r).2.2.2 (kk r)) : am_V Z X K g pc ls st0 R I L (fN.bind kk) := fun ok hT r hf H locs lsA hl hP hS => by
  cases hfN : fN with
  | none => rw [hfN] at hf; cases hf
  | some r1 =>
    rw [hfN] at hf
    obtain ⟨⟨ws', hw⟩, h1, h2, h3, h4, h5⟩ := hcl
    subst hst
    obtain ⟨q, hq, cell, q1, q2, q3, q4⟩ := hP a _ hG
    have hr : q = (C, T, N) := Option.some.inj (hq.symm.trans hc.1)
    subst hr
    obtain ⟨hSl, hfc, kC, hkC, hkind⟩ := ok.2.2.2.2.2.1.1.1 ci _ hc.1
    have hroom : X.2.2.1 = K.2.2.2.2.2 := ok.2.2.2.2.2.2.2.2
    refine am_back (r1 := r1) (gN := gN) (as := (Value.ref (am_B Z + a) :: As).toArray) ok hf hl hS ?_ (k r1 hT hfN)
    exact va_runV (As := As) (rest := st) ⟨ok.1, ok.2.1, ok.2.2.1, ok.2.2.2.1, ok.2.2.2.2.1⟩ (hM hT r1 hfN) (cwV n ok.2.2.2.2.1 hgood hw h1 h2 ⟨hyC, h3, h4, h5⟩ (by rw [hroom]; exact hR)) ⟨am_blind, ⟨cell, q1, by rw [q3]; rfl, by rw [q2]; exact hfc⟩, fun U hU hW => ⟨rfl, by rw [hU]; exact hP, am_E.moved hW ok.2.2.2.2.2.1⟩⟩ rfl hn hl.1 rfl (lv_room h8) d ⟨Nat.zero_le _, Nat.zero_le _⟩
end
