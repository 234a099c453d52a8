/-! maximumAmbiguity where it makes its rows: five cells behind all others -/
def am_Gx (G : am_S) (n : Nat) : am_S := fun a => if a = n then some (.inl 4) else if a = n + 1 then some (.inr (1, 6000)) else if a = n + 2 then some (.inr (1, 6)) else if a = n + 3 then some (.inr (0, 256)) else if a = n + 4 then some (.inr (0, 1000)) else G a
def am_Zx (Z : am_Z) (n : Nat) : am_Z := (Z.1, Z.2.1, Z.2.2.1, Z.2.2.2.1, am_Gx (am_G Z) n)
def am_cR (n : Nat) (R : am_R) : am_R := fun a j => if a < n then R a j else 0
def am_cI (n : Nat) (I : am_I) : am_I := fun a j => if a < n then I a j else 0
def am_cL (n : Nat) (L : am_L) : am_L := fun a j => if a < n then L a j else 0
theorem am_cz (n : Nat) (R : am_R) (I : am_I) (L : am_L) : am_z n (am_cR n R) (am_cI n I) (am_cL n L) := fun b hb j => by
  have h : ¬ b < n := by omega
  simp [am_cR, am_cI, am_cL, h]
theorem am_P.cut {Z : am_Z} {R : am_R} {I : am_I} {L : am_L} {H : Heap} {n : Nat} (hn : ∀ a, n ≤ a → am_G Z a = none) (hP : am_P Z R I L H) : am_P (am_Zn (am_Zx Z n) n) (am_cR n R) (am_cI n I) (am_cL n L) H := by
  intro a sh ha
  obtain ⟨hl, hG⟩ := am_G_to ha
  have hG : am_Gx (am_G Z) n a = some sh := hG
  have e0 : ¬ a = n := by omega
  have e1 : ¬ a = n + 1 := by omega
  have e2 : ¬ a = n + 2 := by omega
  have e3 : ¬ a = n + 3 := by omega
  have e4 : ¬ a = n + 4 := by omega
  simp only [am_Gx, e0, e1, e2, e3, e4, if_false] at hG
  have h := hP a sh hG
  have c1 : am_cR n R a = R a := by funext j; simp [am_cR, hl]
  have c2 : am_cI n I a = I a := by funext j; simp [am_cI, hl]
  have c3 : am_cL n L a = L a := by funext j; simp [am_cL, hl]
  cases sh with
  | inl c =>
    obtain ⟨q, h1, h2⟩ := h
    refine ⟨q, h1, ?_⟩
    have e : am_obv (am_B Z) c a (am_cR n R) (am_cI n I) (am_cL n L) = am_obv (am_B Z) c a R I L := by
      funext k; simp only [am_obv, c1, c2, c3]
    show t_OB (am_B Z + a) (Z.2.1.1 c) q.2.2 (Z.2.1.2 c) H (am_obv (am_B Z) c a (am_cR n R) (am_cI n I) (am_cL n L))
    rw [e]; exact h2
  | inr x =>
    obtain ⟨t, k⟩ := x
    have e : am_arv (am_B Z) t a (am_cR n R) (am_cI n I) (am_cL n L) = am_arv (am_B Z) t a R I L := by
      funext k; simp only [am_arv, c1, c2, c3]
    show H[am_B Z + a]? = some (arrV (Z.2.2.1 t) k (am_arv (am_B Z) t a (am_cR n R) (am_cI n I) (am_cL n L)))
    rw [e]; exact h
theorem am_P.full {Z : am_Z} {R : am_R} {I : am_I} {L : am_L} {H : Heap} {n : Nat} (hn : ∀ a, n ≤ a → am_G Z a = none) (hP : am_P (am_Zn Z n) R I L H) : am_P Z R I L H := by
  intro a sh ha
  have hl : a < n := Nat.lt_of_not_le fun h => by rw [hn a h] at ha; cases ha
  have h := hP a sh (am_G_of ha hl)
  cases sh with
  | inl c => exact h
  | inr x => exact h
section
variable {Z : am_Z} {X : am_X} {K : am_K} {Q : State → Prop} {pc : Nat} {st : List Value} {R : am_R} {I : am_I} {L : am_L} {H : Heap} {locs : List Loc} {lsA : Array Slot} {cells slots : Nat} {A : Nat → Prop}
/-- a call by contract, over any end -/
theorem am_callW {β : Type} {fN : Option β} {gN : β → am_O} {r1 : β} {y : MethodName} {Kn : am_K} {n : Nat} {idx ci a : Nat} {C : String} {T : u_T} {N : Nat} {st0 : List Value} (As : List Value) (ok : am_ok Z X K) (hT : am_T (am_G Z) R) (hP : am_P Z R I L H) (hA : ∀ q, am_A Z q → A q) (hS : va_S A X.2.2.2.1.heap H locs) (hl : lsA.size = K.2.1) (hM : am_M Z y Kn (.ref (am_B Z + a) :: As) R I L fN gN) (hf : fN = some r1) (hG : am_G Z a = some (.inl ci)) (hc : am_cls ci C T N) (hgood : GoodIn K.2.2.2.1 (wsV K.2.2.1 idx C y Kn.2.2.2.1)) (hcl : am_cl y Kn n) (hyC : y.cls = C) (hR : Kn.2.2.2.2.2.frames + 1 ≤ K.2.2.2.2.2.frames ∧ 8 + (Kn.2.1 + 11) + Kn.2.2.2.2.2.locals ≤ K.2.2.2.2.2.locals) (hcs : cells ≤ K.2.2.2.2.2.cells ∧ slots ≤ K.2.2.2.2.2.slots) (hn : As.length = n) (hst : st0 = As.reverse ++ .ref (am_B Z + a) :: st) (h8 : (st.map fun v => v.category).sum ≤ 8) (d : decode K.1 pc = .ok (.invokevirtual idx, 3))
    (k : ∀ (H1 : Heap) (locs1 : List Loc), (H.size ≤ H1.size ∧ H1.size ≤ X.2.2.2.1.heap.size + cells) → am_T (am_G Z) (gN r1).2.1 → am_P Z (gN r1).2.1 (gN r1).2.2.1 (gN r1).2.2.2 H1 → (∀ q : Nat, q < H.size → ¬ am_A Z q → H1[q]? = H[q]?) → va_S A X.2.2.2.1.heap H1 locs1 → W X.1 Z.1 X.2.1 X.2.2.1 X.2.2.2.1 X.2.2.2.2.1 X.2.2.2.2.2.1 X.2.2.2.2.2.2.1 X.2.2.2.2.2.2.2.1 X.2.2.2.2.2.2.2.2 H1 locs1 cells slots Q (F0 X.2.2.2.2.1 (pc + 3) lsA ((gN r1).1.toList ++ st))) :
    W X.1 Z.1 X.2.1 X.2.2.1 X.2.2.2.1 X.2.2.2.2.1 X.2.2.2.2.2.1 X.2.2.2.2.2.2.1 X.2.2.2.2.2.2.2.1 X.2.2.2.2.2.2.2.2 H locs cells slots Q (F0 X.2.2.2.2.1 pc lsA st0) := by
  obtain ⟨⟨ws', hw⟩, h1, h2, h3, h4, h5⟩ := hcl
  subst hst
  obtain ⟨q, hq, cell, q1, q2, q3, q4⟩ := hP a _ hG
  have hr : q = (C, T, N) := Option.some.inj (hq.symm.trans hc.1)
  subst hr
  obtain ⟨hSl, hfc, kC, hkC, hkind⟩ := ok.2.2.2.2.2.1.1.1 ci _ hc.1
  have hroom : X.2.2.1 = K.2.2.2.2.2 := ok.2.2.2.2.2.2.2.2
  have hr := va_runV (As := As) (rest := st) (b := am_B Z + a) (cells := cells) (slots := slots) (locs := locs) (H := H) (g := F0 X.2.2.2.2.1 pc lsA (As.reverse ++ .ref (am_B Z + a) :: st)) (e := X.2.1) (below := X.2.2.2.2.2.2.1) (meth := X.2.2.2.2.2.2.2.1) (R := X.2.2.1) ⟨ok.1, ok.2.1, ok.2.2.1, ok.2.2.2.1, ok.2.2.2.2.1⟩ (hM hT r1 hf) (cwV n ok.2.2.2.2.1 hgood hw h1 h2 ⟨hyC, h3, h4, h5⟩ (by rw [hroom]; exact hR)) ⟨am_blind, ⟨cell, q1, by rw [q3]; rfl, by rw [q2]; exact hfc⟩, fun U hU hW => ⟨rfl, by rw [hU]; exact hP, am_E.moved hW ok.2.2.2.2.2.1⟩⟩ rfl hn hl rfl (lv_room h8) d (by rw [hroom]; exact hcs)
  intro Ts hTs X1
  obtain ⟨v, st₀, t, T', Lc, h0, X', hL, e1, e2, ⟨hv, hTy, hP', hz, hk⟩, stp⟩ := hr Ts hTs X1
  cases hv
  rw [h0] at hz hk
  obtain ⟨t2, a1, b1⟩ := k T'.heap (locs ++ Lc) ⟨by rw [e1]; exact hz, X'.same.2.2.1⟩ hTy (by rw [e1]; exact hP') (fun q g1 g2 => by rw [e1]; exact hk q g1 g2)
    ⟨Nat.le_trans hS.1 (by rw [e1]; exact hz), fun q h1 h2 => by rw [e1, hk q (Nat.lt_of_lt_of_le h1 hS.1) (fun hq => h2 (hA q hq))]; exact hS.2.1 q h1 h2, fun q hq => by
      rcases List.mem_append.mp hq with h | h
      · exact hS.2.2 q h
      · exact hA _ (hL q h)⟩ T' rfl X'
  exact ⟨t2, stp t2 a1, b1⟩
theorem am_getW (c k : Nat) {C : String} {T : u_T} {N idx a : Nat} {v : Value} (ok : am_ok Z X K) (hP : am_P Z R I L H) (hc : am_cls c C T N) (hk : k < N) (hG : am_G Z a = some (.inl c)) (hin : ∀ w ∈ u_ws C T N, w ∈ K.2.2.2.1) (hlink : Cond.fieldLink K.2.2.1 idx (T k).1 (T k).2.1 (T k).2.2.1 ∈ K.2.2.2.1) (hv : am_obv (am_B Z) c a R I L k = v) (d : decode K.1 pc = .ok (.getfield idx, 3)) (kk : W X.1 Z.1 X.2.1 X.2.2.1 X.2.2.2.1 X.2.2.2.2.1 X.2.2.2.2.2.1 X.2.2.2.2.2.2.1 X.2.2.2.2.2.2.2.1 X.2.2.2.2.2.2.2.2 H locs cells slots Q (F0 X.2.2.2.2.1 (pc + 3) lsA (v :: st))) : W X.1 Z.1 X.2.1 X.2.2.1 X.2.2.2.1 X.2.2.2.2.1 X.2.2.2.2.2.1 X.2.2.2.2.2.2.1 X.2.2.2.2.2.2.2.1 X.2.2.2.2.2.2.2.2 H locs cells slots Q (F0 X.2.2.2.2.1 pc lsA (.ref (am_B Z + a) :: st)) := by
  obtain ⟨q, hq, cell, q1, q2, q3, q4⟩ := hP a _ hG
  have hr : q = (C, T, N) := Option.some.inj (hq.symm.trans hc.1)
  subst hr
  obtain ⟨hSl, hfc, kC, hkC, hkind⟩ := ok.2.2.2.2.2.1.1.1 c _ hc.1
  obtain ⟨cf, kf, fi, fd, hi, hsl⟩ := hSl k hk
  refine W.getf ok.1 ok.2.1 ok.2.2.2.1 (ok.2.2.2.2.1 _ hlink) hi (u_facts hfc hkC (u_lays ok.2.2.2.2.1 hin hk) hi).1 q1 (by rw [q3]; exact fun h => by cases h) (v := v) ?_ rfl rfl d kk
  rw [hsl, q4 k hk, hv]
theorem am_putW (c k : Nat) {C : String} {T : u_T} {N idx a v : Nat} {nm : String} (ok : am_ok Z X K) (hP : am_P Z R I L H) (hS : va_S A X.2.2.2.1.heap H locs) (hA : A (am_B Z + a)) (hc : am_cls c C T N) (hk : k < N) (hG : am_G Z a = some (.inl c)) (hin : ∀ w ∈ u_ws C T N, w ∈ K.2.2.2.1) (hlink : Cond.fieldLink K.2.2.1 idx (T k).1 (T k).2.1 (T k).2.2.1 ∈ K.2.2.2.1) (hfin : (T k).2.2.2 = false) (hty : am_ty c k = .object nm) (h0 : v ≠ 0) (d : decode K.1 pc = .ok (.putfield idx, 3)) (kk : ∀ (H1 : Heap) (locs1 : List Loc), H1.size = H.size → am_P Z (am_upR R a k v) I L H1 → va_S A X.2.2.2.1.heap H1 locs1 → W X.1 Z.1 X.2.1 X.2.2.1 X.2.2.2.1 X.2.2.2.2.1 X.2.2.2.2.2.1 X.2.2.2.2.2.2.1 X.2.2.2.2.2.2.2.1 X.2.2.2.2.2.2.2.2 H1 locs1 cells slots Q (F0 X.2.2.2.2.1 (pc + 3) lsA st)) : W X.1 Z.1 X.2.1 X.2.2.1 X.2.2.2.1 X.2.2.2.2.1 X.2.2.2.2.2.1 X.2.2.2.2.2.2.1 X.2.2.2.2.2.2.2.1 X.2.2.2.2.2.2.2.2 H locs cells slots Q (F0 X.2.2.2.2.1 pc lsA (.ref (am_B Z + v) :: .ref (am_B Z + a) :: st)) := by
  have hap := va_apart (own := K.2.2.1) ok.2.2.2.2.1 hin (am_ty c) hc.2.1 hc.2.2 ok.2.2.2.2.2.1.1 hc.1
  obtain ⟨q, hq, cell, q1, q2, q3, q4⟩ := hP a _ hG
  have hr : q = (C, T, N) := Option.some.inj (hq.symm.trans hc.1)
  subst hr
  obtain ⟨hSl, hfc, kC, hkC, hkind⟩ := ok.2.2.2.2.2.1.1.1 c _ hc.1
  obtain ⟨cf, kf, fi, fd, hi, hsl⟩ := hSl k hk
  have hlay := ok.2.2.2.2.1 _ (hin _ (u_in_lay hk))
  unfold u_lay at hlay
  rw [if_neg (by rw [hfin]; decide)] at hlay
  have hst := (u_facts hfc hkC (u_lays ok.2.2.2.2.1 hin hk) hi).1
  have h6 := u_store hfc hkC hkind hlay hi (hc.2.1 k hk) (v := .ref (am_B Z + v)) (by rw [hty]; rfl) (by rw [hty]; rfl)
  refine W.putK ok.1 ok.2.1 (f := fd) ⟨ok.2.2.2.1, ok.2.2.2.2.1 _ hlink, ⟨_, _, _, hi⟩, hst⟩ (by rw [q2]; exact h6) q1 q3 (by rw [hsl]; exact k2_hasslot (q4 k hk)) rfl rfl d fun H' e1 e2 e3 => ?_
  rw [hsl] at e1 ⊢
  refine kk H' _ e2 (hP.set hG ⟨_, hc.1, t_OB.to (V := updV (am_obv (am_B Z) c a R I L) k (.ref (am_B Z + v))) ⟨_, e1, q2, q3, t_set q4 hap hk _⟩ (fun j _ => ?_)⟩ e3 (fun b hb => ⟨am_upR_ne hb, rfl, rfl⟩)) (hS.put e2 e3 hA)
  by_cases hj : j = k
  · subst hj; simp [updV, am_obv, am_upR, hty, am_val, am_rv, h0]
  · simp [updV, am_obv, am_upR, hj]
theorem am_newW (c n : Nat) {C : String} {T : u_T} {N idx : Nat} (ok : am_ok Z X K) (hz : am_z n R I L) (hs : H.size = am_B Z + n) (hP : am_P (am_Zn Z n) R I L H) (hS : va_S A X.2.2.2.1.heap H locs) (hc : am_cls c C T N) (hty : ∀ k, k < N → (am_ty c k = .int ∨ am_ty c k = .long ∨ am_ty c k = .boolean ∨ (∃ c', am_ty c k = .object c') ∨ ∃ t, am_ty c k = .array t)) (hG : am_G Z n = some (.inl c)) (hin : ∀ w ∈ u_ws C T N, w ∈ K.2.2.2.1) (h1 : Cond.classLink K.2.2.1 idx C ∈ K.2.2.2.1) (h2 : Cond.instantiable C N ∈ K.2.2.2.1) (h3 : Cond.initialized C ∈ K.2.2.2.1) (hcs : cells + 1 ≤ K.2.2.2.2.2.cells) (hss : slots + N ≤ K.2.2.2.2.2.slots) (d : decode K.1 pc = .ok (.new idx, 3)) (kk : ∀ H1 : Heap, H1.size = am_B Z + (n + 1) → am_P (am_Zn Z (n + 1)) R I L H1 → (∀ q : Nat, q < H.size → H1[q]? = H[q]?) → va_S A X.2.2.2.1.heap H1 locs → W X.1 Z.1 X.2.1 X.2.2.1 X.2.2.2.1 X.2.2.2.2.1 X.2.2.2.2.2.1 X.2.2.2.2.2.2.1 X.2.2.2.2.2.2.2.1 X.2.2.2.2.2.2.2.2 H1 locs (cells + 1) (slots + N) Q (F0 X.2.2.2.2.1 (pc + 3) lsA (.ref (am_B Z + n) :: st))) : W X.1 Z.1 X.2.1 X.2.2.1 X.2.2.2.1 X.2.2.2.2.1 X.2.2.2.2.2.1 X.2.2.2.2.2.2.1 X.2.2.2.2.2.2.2.1 X.2.2.2.2.2.2.2.2 H locs cells slots Q (F0 X.2.2.2.2.1 pc lsA st) := by
  have hKn := ok.2.2.2.2.2.1.1.1 c _ hc.1
  refine W.newcK ok.1 ok.2.1 ok.2.2.2.1 (ok.2.2.2.2.1 _ h1) (ok.2.2.2.2.1 _ h2) (ok.2.2.2.2.1 _ h3) rfl d (by rw [ok.2.2.2.2.2.2.2.2]; exact hcs) (by rw [ok.2.2.2.2.2.2.2.2]; exact hss) hKn.2.1 hs fun H1 kC hkC e1 z1 o1 => ?_
  refine kk H1 z1 (hP.push hs (fun q hq => o1 q (by omega)) (fun sh hsh => ?_)) (fun q hq => o1 q (by omega)) ⟨Nat.le_trans hS.1 (by omega), fun x a1 a2 => (o1 x (by have := hS.1; omega)).trans (hS.2.1 x a1 a2), hS.2.2⟩
  cases hG.symm.trans hsh
  refine ⟨_, hc.1, (u_born (am_ty c) ok.2.2.2.2.1 hin hKn hkC e1 hc.2.1).to (fun j hj => ?_)⟩
  obtain ⟨z1, z2, z3⟩ := hz n (Nat.le_refl _) j
  show defaultValue (am_ty c j) = am_val _ (am_ty c j) (I n j) (L n j) (R n j)
  rw [z1, z2, z3]
  exact am_val0 (hty j hj)
theorem am_initW {y : MethodName} {Kn : am_K} {Fn : am_Fn} {idx a n lo : Nat} {host : String} {ws' : List Cond} (ok : am_ok Z X K) (hO : va_AO "AmbiguityAnalyzer$Shelf" X.2.2.2.1) (hz : am_z n R I L) (hs : H.size = am_B Z + n) (hP : am_P (am_Zn Z n) R I L H) (hl : lsA.size = K.2.1) (hM : am_MN Z lo y Kn [.ref (am_B Z + a)] n R I L Fn) (hgood : GoodIn K.2.2.2.1 Kn.2.2.2.1) (hnest : Cond.methodLinkNest K.2.2.1 idx y host ∈ am_nest) (hini : Cond.initialized y.cls ∈ K.2.2.2.1) (him : Cond.instanceMethod y ∈ K.2.2.2.1) (hw : Kn.2.2.2.1 = Cond.code y Kn.1 Kn.2.1 none :: ws') (hd : y.cls ≠ "java/lang/invoke/MethodHandle" ∧ y.cls ≠ "java/lang/invoke/VarHandle" ∧ (parseMethodDescriptor y.desc).map (fun d => d.parameters.length) = some 0) (hnm : y.name = "<init>") (hR : Kn.2.2.2.2.2.frames + 1 ≤ K.2.2.2.2.2.frames ∧ 8 + (Kn.2.1 + 11) + Kn.2.2.2.2.2.locals ≤ K.2.2.2.2.2.locals) (hcs : cells + Kn.2.2.2.2.2.cells ≤ K.2.2.2.2.2.cells ∧ slots + Kn.2.2.2.2.2.slots ≤ K.2.2.2.2.2.slots) (h8 : (st.map fun v => v.category).sum ≤ 8) (d : decode K.1 pc = .ok (.invokespecial idx, 3)) (k : ∀ (H1 : Heap) (Lc : List Loc), H1.size = am_B Z + Fn.1 → H.size ≤ H1.size → am_P (am_Zn Z Fn.1) Fn.2.1 Fn.2.2.1 Fn.2.2.2 H1 → (∀ q : Nat, q < H.size → ¬ am_AN Z lo q → H1[q]? = H[q]?) → (∀ q ∈ Lc, am_AN Z lo q.base) → W X.1 Z.1 X.2.1 X.2.2.1 X.2.2.2.1 X.2.2.2.2.1 X.2.2.2.2.2.1 X.2.2.2.2.2.2.1 X.2.2.2.2.2.2.2.1 X.2.2.2.2.2.2.2.2 H1 (locs ++ Lc) (cells + Kn.2.2.2.2.2.cells) (slots + Kn.2.2.2.2.2.slots) Q (F0 X.2.2.2.2.1 (pc + 3) lsA st)) : W X.1 Z.1 X.2.1 X.2.2.1 X.2.2.2.1 X.2.2.2.2.1 X.2.2.2.2.2.1 X.2.2.2.2.2.2.1 X.2.2.2.2.2.2.2.1 X.2.2.2.2.2.2.2.2 H locs cells slots Q (F0 X.2.2.2.2.1 pc lsA (.ref (am_B Z + a) :: st)) := by
  have hroom : X.2.2.1 = K.2.2.2.2.2 := ok.2.2.2.2.2.2.2.2
  have hr := va_runIN (As := []) (rest := st) (b := am_B Z + a) (cells := cells) (slots := slots) (locs := locs) (H := H) (g := F0 X.2.2.2.2.1 pc lsA (.ref (am_B Z + a) :: st)) (e := X.2.1) (below := X.2.2.2.2.2.2.1) (meth := X.2.2.2.2.2.2.2.1) ⟨ok.1, ok.2.1, ok.2.2.1, ok.2.2.2.1, ok.2.2.2.2.1⟩ (hM hz) ⟨va_cnB (R := X.2.2.1) 0 ok.2.2.2.2.1 hgood hw rfl rfl (ok.2.2.2.2.2.1.2 _ hnest) (ok.2.2.2.2.1 _ hini) hd (by rw [hroom]; exact hR), hnm, ok.2.2.2.2.1 _ him⟩ ⟨am_blindN, fun U hU hW => ⟨rfl, by rw [hU]; exact hs, by rw [hU]; exact hP, am_E.moved hW ok.2.2.2.2.2.1, va_AO.moved hW.alike hO⟩⟩ rfl rfl hl rfl (lv_room h8) d (by rw [hroom]; exact hcs)
  intro T hT X1
  obtain ⟨v, st₀, t, T', Lc, h0, X', hL, e1, e2, ⟨hv, hsz, hP', hzz, hk⟩, stp⟩ := hr T hT X1
  cases hv
  rw [h0] at hzz hk
  obtain ⟨t2, a1, b1⟩ := k T'.heap Lc (by rw [e1]; exact hsz) (by rw [e1]; exact hzz) (by rw [e1]; exact hP') (fun q g1 g2 => by rw [e1]; exact hk q g1 g2) hL T' rfl X'
  exact ⟨t2, stp t2 a1, b1⟩
end
theorem am_Gx_at {G : am_S} {n : Nat} : am_Gx G n n = some (.inl 4) ∧ am_Gx G n (n + 1) = some (.inr (1, 6000)) ∧ am_Gx G n (n + 2) = some (.inr (1, 6)) ∧ am_Gx G n (n + 3) = some (.inr (0, 256)) ∧ am_Gx G n (n + 4) = some (.inr (0, 1000)) := by
  refine ⟨?_, ?_, ?_, ?_, ?_⟩ <;> simp [am_Gx]
theorem am_Gx_lt {G : am_S} {n a : Nat} (h : a < n) : am_Gx G n a = G a := by
  have e0 : ¬ a = n := by omega
  have e1 : ¬ a = n + 1 := by omega
  have e2 : ¬ a = n + 2 := by omega
  have e3 : ¬ a = n + 3 := by omega
  have e4 : ¬ a = n + 4 := by omega
  simp [am_Gx, e0, e1, e2, e3, e4]
/-- the refs behind the making of the rows -/
def am_Rx (R : am_R) (n : Nat) : am_R := am_upR (am_upR (am_upR (am_upR (am_upR (am_cR n R) n 0 (n + 1)) n 1 (n + 1 + 1)) n 2 (n + 1 + 2)) n 3 (n + 1 + 3)) 1 14 n
theorem am_Rx_lt {R : am_R} {n a k : Nat} (h : a < n) (hk : ¬ (a = 1 ∧ k = 14)) : am_Rx R n a k = R a k := by
  have e : ¬ a = n := by omega
  by_cases h1 : a = 1
  · have h2 : ¬ k = 14 := fun q => hk ⟨h1, q⟩
    subst h1
    simp [am_Rx, am_upR, am_cR, e, h2, h]
  · simp [am_Rx, am_upR, am_cR, e, h1, h]
theorem am_T.x {G : am_S} {R : am_R} {n : Nat} (hn : ∀ a, n ≤ a → G a = none) (h1 : G 1 = some (.inl 10)) (hT : am_T G R) : am_T (am_Gx G n) (am_Rx R n) := by
  have n1 : 1 < n := Nat.lt_of_not_le fun h => by rw [hn 1 h] at h1; cases h1
  have nn : ¬ n = 1 := by omega
  have lt : ∀ a sh, G a = some sh → a < n := fun a sh h => Nat.lt_of_not_le fun q => by rw [hn a q] at h; cases h
  have old : ∀ a sh, am_Gx G n a = some sh → ¬ a = n → ¬ a = n + 1 → ¬ a = n + 2 → ¬ a = n + 3 → ¬ a = n + 4 → G a = some sh := fun a sh h e0 e1 e2 e3 e4 => by simpa [am_Gx, e0, e1, e2, e3, e4] using h
  refine ⟨fun a c k sh g1 g2 => ?_, fun a m j g1 g2 => ?_, fun a g1 => ?_⟩
  · by_cases e0 : a = n
    · subst e0
      rw [am_Gx_at.1] at g1
      cases g1
      have : k = 0 ∨ k = 1 ∨ k = 2 ∨ k = 3 := by
        match k, g2 with
        | 0, _ => exact Or.inl rfl
        | 1, _ => exact Or.inr (Or.inl rfl)
        | 2, _ => exact Or.inr (Or.inr (Or.inl rfl))
        | 3, _ => exact Or.inr (Or.inr (Or.inr rfl))
        | k + 4, h => cases h
      rcases this with rfl | rfl | rfl | rfl
      · cases g2
        refine ⟨by simp [am_Rx, am_upR, nn], ?_⟩
        rw [show am_Rx R a a 0 = a + 1 by simp [am_Rx, am_upR, nn]]
        exact am_Gx_at.2.1
      · cases g2
        refine ⟨by simp [am_Rx, am_upR, nn], ?_⟩
        rw [show am_Rx R a a 1 = a + 2 by simp [am_Rx, am_upR, nn]]
        exact am_Gx_at.2.2.1
      · cases g2
        refine ⟨by simp [am_Rx, am_upR, nn], ?_⟩
        rw [show am_Rx R a a 2 = a + 3 by simp [am_Rx, am_upR, nn]]
        exact am_Gx_at.2.2.2.1
      · cases g2
        refine ⟨by simp [am_Rx, am_upR, nn], ?_⟩
        rw [show am_Rx R a a 3 = a + 4 by simp [am_Rx, am_upR, nn]]
        exact am_Gx_at.2.2.2.2
    by_cases e1 : a = n + 1
    · subst e1; rw [am_Gx_at.2.1] at g1; cases g1
    by_cases e2 : a = n + 2
    · subst e2; rw [am_Gx_at.2.2.1] at g1; cases g1
    by_cases e3 : a = n + 3
    · subst e3; rw [am_Gx_at.2.2.2.1] at g1; cases g1
    by_cases e4 : a = n + 4
    · subst e4; rw [am_Gx_at.2.2.2.2] at g1; cases g1
    have hG := old a _ g1 e0 e1 e2 e3 e4
    have hl := lt a _ hG
    have hk : ¬ (a = 1 ∧ k = 14) := by
      rintro ⟨rfl, rfl⟩
      cases h1.symm.trans hG
      cases g2
    rw [am_Rx_lt hl hk]
    obtain ⟨q1, q2⟩ := hT.1 a c k sh hG g2
    exact ⟨q1, by rw [am_Gx_lt (lt _ _ q2)]; exact q2⟩
  · by_cases e0 : a = n
    · subst e0; rw [am_Gx_at.1] at g1; cases g1
    by_cases e1 : a = n + 1
    · subst e1; rw [am_Gx_at.2.1] at g1; cases g1
    by_cases e2 : a = n + 2
    · subst e2; rw [am_Gx_at.2.2.1] at g1; cases g1
    by_cases e3 : a = n + 3
    · subst e3; rw [am_Gx_at.2.2.2.1] at g1; cases g1
    by_cases e4 : a = n + 4
    · subst e4; rw [am_Gx_at.2.2.2.2] at g1; cases g1
    have hG := old a _ g1 e0 e1 e2 e3 e4
    have hl := lt a _ hG
    have hk : ¬ (a = 1 ∧ j = 14) := by
      rintro ⟨rfl, rfl⟩
      cases h1.symm.trans hG
    rw [am_Rx_lt hl hk]
    obtain ⟨q1, q2⟩ := hT.2.1 a m j hG g2
    exact ⟨q1, by rw [am_Gx_lt (lt _ _ q2)]; exact q2⟩
  · by_cases e0 : a = n
    · subst e0; rw [am_Gx_at.1] at g1; cases g1
    by_cases e1 : a = n + 1
    · subst e1; rw [am_Gx_at.2.1] at g1; cases g1
    by_cases e2 : a = n + 2
    · subst e2; rw [am_Gx_at.2.2.1] at g1; cases g1
    by_cases e3 : a = n + 3
    · subst e3; rw [am_Gx_at.2.2.2.1] at g1; cases g1
    by_cases e4 : a = n + 4
    · subst e4; rw [am_Gx_at.2.2.2.2] at g1; cases g1
    have hG := old a _ g1 e0 e1 e2 e3 e4
    have hl := lt a _ hG
    by_cases ha : a = 1
    · subst ha
      right
      rw [show am_Rx R n 1 14 = n by simp [am_Rx, am_upR]]
      exact am_Gx_at.1
    · rw [am_Rx_lt hl (fun q => ha q.1)]
      rcases hT.2.2 a hG with q | q
      · exact Or.inl q
      · exact Or.inr (by rw [am_Gx_lt (lt _ _ q)]; exact q)
abbrev kX10_maxB : am_K := (cX10_maximumAmbiguity, 1, RX10, wsX10_maximumAmbiguity, some .long, { frames := 7, cells := 5, slots := 7267, locals := 156 })
theorem iX10_maxB_4 : ∀ w ∈ u_ws RX4 TX4 5, w ∈ wsX10_maximumAmbiguity := by decide +kernel
theorem mX10_maxB_c : Cond.classLink RX10 210 RX4 ∈ wsX10_maximumAmbiguity := by decide +kernel
theorem mX10_maxB_i : Cond.instantiable RX4 5 ∈ wsX10_maximumAmbiguity := by decide +kernel
theorem mX10_maxB_z : Cond.initialized RX4 ∈ wsX10_maximumAmbiguity := by decide +kernel
theorem mX10_maxB_m : Cond.instanceMethod yX4_init ∈ wsX10_maximumAmbiguity := by decide +kernel
set_option maxRecDepth 100000 in
set_option maxHeartbeats 4000000 in
theorem tX10_maxB {Z : am_Z} (R : am_R) (I : am_I) (L : am_L) (n : Nat) (hG : am_G Z 1 = some (.inl 10)) (hT : am_T (am_G Z) R) (h0 : R 1 14 = 0) (hn : ∀ a, n ≤ a → am_G Z a = none) {I1 : am_I} (hf1 : pX10_freshSearch R I 1 = some I1) {r2 : Int32 × am_I × am_L} (hf2 : pX9_growthKind R I1 L (R 1 12) = some r2) (hlt : r2.1 < 2) {r3 : Int64 × am_I × am_L} (hf3 : pX4_highestAmbiguity (am_Rx R n) (am_cI n r2.2.1) (am_cL n r2.2.2) n (R 1 0) = some r3) :
    Met Z.1 yX10_maximumAmbiguity wsX10_maximumAmbiguity kX10_maxB.2.2.2.2.2 (va_Pc [.ref (am_B Z + 1)] (fun U => U.heap.size = am_B Z + n ∧ am_P Z R I L U.heap ∧ am_EN Z U)) (fun _ st oc t => oc = .returned (some (.long r3.1)) ∧ am_T (am_G (am_Zx Z n)) (am_Rx R n) ∧ am_P (am_Zx Z n) (am_Rx R n) r3.2.1 r3.2.2 t.heap ∧ va_F (fun q => am_A Z q ∨ am_B Z + n ≤ q) st t) 5 7267 (fun q => am_A Z q ∨ am_B Z + n ≤ q) := by
  have n1 : 1 < n := Nat.lt_of_not_le fun h => by rw [hn 1 h] at hG; cases hG
  refine Met.ofW (cc := cX10_maximumAmbiguity) (maxL := 1) (ret := some .long) (by decide) rfl ?_
  intro p e s m args below meth c s₁ B hml hv
  obtain ⟨rfl, hs, hP, hE, hO⟩ := hv
  have ok : am_ok Z (p, e, kX10_maxB.2.2.2.2.2, s, m, [Value.ref (am_B Z + 1)].toArray, below, meth, c) kX10_maxB := ⟨B.exec, B.bytes, hml, findClass_of_methodNamed B.named, atoms_spec (ws := wsX10_maximumAmbiguity) B.pre, hE, B.returns, B.notSynchronized, rfl⟩
  have okx : am_ok (am_Zx Z n) (p, e, kX10_maxB.2.2.2.2.2, s, m, [Value.ref (am_B Z + 1)].toArray, below, meth, c) kX10_maxB := ⟨B.exec, B.bytes, hml, findClass_of_methodNamed B.named, atoms_spec (ws := wsX10_maximumAmbiguity) B.pre, hE, B.returns, B.notSynchronized, rfl⟩
  have hlocks := B.notSynchronized
  rw [lg_entry_eq]
  have hl := lv_entry [Value.ref (am_B Z + 1)] (n := 1) (Nat.le_of_ble_eq_true rfl)
  generalize (lg_sl [Value.ref (am_B Z + 1)] ++ List.replicate (1 - (lg_sl [Value.ref (am_B Z + 1)]).length) Slot.unset).toArray = ls at hl ⊢
  have hl : lv_has ls 1 [(0, .ref (am_B Z + 1))] := hl
  have hA : ∀ q, am_A Z q → (fun q => am_A Z q ∨ am_B Z + n ≤ q) q := fun q h => Or.inl h
  obtain ⟨z12, hG12⟩ := hT.1 1 10 12 _ hG rfl
  obtain ⟨z0, hG0⟩ := hT.1 1 10 0 _ hG rfl
  refine lv_aload_n B.exec B.bytes dX10_maximumAmbiguity_0 rfl (lv_at hl 0 rfl) ?_
  refine am_callW (Z := Z) (X := (p, e, kX10_maxB.2.2.2.2.2, s, m, [Value.ref (am_B Z + 1)].toArray, below, meth, c)) (K := kX10_maxB) (A := fun q => am_A Z q ∨ am_B Z + n ≤ q) [] ok hT hP hA va_S.rf hl.1 (tX10_freshSearch R I L 1 hG) hf1 hG clX10 gX10_maximumAmbiguity_X10_freshSearch hX10_freshSearch rfl ⟨Nat.le_of_ble_eq_true rfl, Nat.le_of_ble_eq_true rfl⟩ ⟨Nat.zero_le _, Nat.zero_le _⟩ rfl rfl (Nat.le_of_ble_eq_true rfl) dX10_maximumAmbiguity_1 (fun H1 locs1 y1 hT1 hP1 o1 hS1 => ?_)
  refine am_callW (Z := Z) (X := (p, e, kX10_maxB.2.2.2.2.2, s, m, [Value.ref (am_B Z + 1)].toArray, below, meth, c)) (K := kX10_maxB) (A := fun q => am_A Z q ∨ am_B Z + n ≤ q) (a := R 1 12) (st := []) [] ok hT hP1 hA hS1 hl.1 (tX9_growthKind R I1 L (R 1 12) hG12) hf2 hG12 clX9 gX10_maximumAmbiguity_X9_growthKind hX9_growthKind rfl ⟨Nat.le_of_ble_eq_true rfl, Nat.le_of_ble_eq_true rfl⟩ ⟨Nat.zero_le _, Nat.zero_le _⟩ rfl rfl (Nat.le_of_ble_eq_true rfl) dX10_maximumAmbiguity_4 (fun H2 locs2 y2 hT2 hP2 o2 hS2 => ?_)
  have hs2 : H2.size = am_B Z + n := by
    have a1 : s.heap.size ≤ H2.size := hS2.1
    have a2 : H2.size ≤ s.heap.size + 0 := y2.2
    omega
  refine lv_iconst (v := 2) B.exec B.bytes dX10_maximumAmbiguity_7 (by decide) ?_
  refine lv_icmp_lt (tgt := 15) B.exec B.bytes dX10_maximumAmbiguity_8 rfl (fun _ => ?_) (fun q => absurd hlt q)
  refine lv_aload_n B.exec B.bytes dX10_maximumAmbiguity_15 rfl (lv_at hl 0 rfl) ?_
  refine am_getW (Z := Z) (X := (p, e, kX10_maxB.2.2.2.2.2, s, m, [Value.ref (am_B Z + 1)].toArray, below, meth, c)) (K := kX10_maxB) (v := .null) 10 14 ok hP2 clX10 (Nat.le_of_ble_eq_true rfl) hG iX10_maximumAmbiguity_10 fX10_maximumAmbiguity_206 (show am_rv (am_B Z) (R 1 14) = .null by rw [h0]; rfl) dX10_maximumAmbiguity_16 ?_
  refine lv_ifnonnullN B.exec B.bytes dX10_maximumAmbiguity_19 ?_
  refine lv_aload_n B.exec B.bytes dX10_maximumAmbiguity_22 rfl (lv_at hl 0 rfl) ?_
  have hPc : am_P (am_Zn (am_Zx Z n) n) (am_cR n R) (am_cI n r2.2.1) (am_cL n r2.2.2) H2 := am_P.cut hn hP2
  have hzc := am_cz n R r2.2.1 r2.2.2
  refine am_newW (Z := am_Zx Z n) (X := (p, e, kX10_maxB.2.2.2.2.2, s, m, [Value.ref (am_B Z + 1)].toArray, below, meth, c)) (K := kX10_maxB) (A := fun q => am_A Z q ∨ am_B Z + n ≤ q) 4 n okx hzc hs2 hPc hS2 clX4 am_tykX4 am_Gx_at.1 iX10_maxB_4 mX10_maxB_c mX10_maxB_i mX10_maxB_z (Nat.le_of_ble_eq_true rfl) (Nat.le_of_ble_eq_true rfl) dX10_maximumAmbiguity_23 (fun H3 hs3 hP3 o3 hS3 => ?_)
  refine lv_dup B.exec B.bytes dX10_maximumAmbiguity_26 rfl ?_
  refine am_initW (Z := am_Zx Z n) (X := (p, e, kX10_maxB.2.2.2.2.2, s, m, [Value.ref (am_B Z + 1)].toArray, below, meth, c)) (K := kX10_maxB) (host := RX10) (lo := n) (a := n) (n := n + 1) okx hO hzc.up hs3 hP3 hl.1 (tX4_init n (n + 1) _ _ _ am_Gx_at.1 (by omega) (by omega) am_Gx_at.2.1 am_Gx_at.2.2.1 am_Gx_at.2.2.2.1 am_Gx_at.2.2.2.2) gX10_maximumAmbiguity_X4_init_n212 (by decide +kernel) mX10_maxB_z mX10_maxB_m rfl ⟨by decide +kernel, by decide +kernel, by decide +kernel⟩ rfl ⟨Nat.le_of_ble_eq_true rfl, Nat.le_of_ble_eq_true rfl⟩ ⟨Nat.le_of_ble_eq_true rfl, Nat.le_of_ble_eq_true rfl⟩ (Nat.le_of_ble_eq_true rfl) dX10_maximumAmbiguity_27 (fun H4 Lc hs4 y4 hP4 o4 hL4 => ?_)
  have hn5 : ∀ a, n + 1 + 4 ≤ a → am_G (am_Zx Z n) a = none := fun a h => by
    show am_Gx (am_G Z) n a = none
    have e0 : ¬ a = n := by omega
    have e1 : ¬ a = n + 1 := by omega
    have e2 : ¬ a = n + 2 := by omega
    have e3 : ¬ a = n + 3 := by omega
    have e4 : ¬ a = n + 4 := by omega
    simp only [am_Gx, e0, e1, e2, e3, e4, if_false]
    exact hn a (by omega)
  have hP4 := am_P.full hn5 hP4
  have hS4 : va_S (fun q => am_A Z q ∨ am_B Z + n ≤ q) s.heap H4 (locs2 ++ Lc) := ⟨Nat.le_trans hS3.1 y4, fun q g1 g2 => by
      rw [o4 q (Nat.lt_of_lt_of_le g1 hS3.1) (fun h => g2 (Or.inr h))]; exact hS3.2.1 q g1 g2, fun q hq => by
      rcases List.mem_append.mp hq with h | h
      · exact hS3.2.2 q h
      · exact Or.inr (hL4 q h)⟩
  have hGx1 : am_G (am_Zx Z n) 1 = some (.inl 10) := by show am_Gx (am_G Z) n 1 = _; rw [am_Gx_lt n1]; exact hG
  refine am_putW (Z := am_Zx Z n) (X := (p, e, kX10_maxB.2.2.2.2.2, s, m, [Value.ref (am_B Z + 1)].toArray, below, meth, c)) (K := kX10_maxB) (A := fun q => am_A Z q ∨ am_B Z + n ≤ q) 10 14 okx hP4 hS4 (Or.inl (am_inA hG)) clX10 (Nat.le_of_ble_eq_true rfl) hGx1 iX10_maximumAmbiguity_10 fX10_maximumAmbiguity_206 rfl rfl (show n ≠ 0 by omega) dX10_maximumAmbiguity_30 (fun H5 locs5 y5 hP5 hS5 => ?_)
  have hP5 : am_P (am_Zx Z n) (am_Rx R n) (am_cI n r2.2.1) (am_cL n r2.2.2) H5 := hP5
  have hTx : am_T (am_G (am_Zx Z n)) (am_Rx R n) := am_T.x hn hG hT
  have hA5 : ∀ q, am_A (am_Zx Z n) q → (fun q => am_A Z q ∨ am_B Z + n ≤ q) q := by
    rintro q ⟨a, ha, rfl⟩
    by_cases h : a < n
    · refine Or.inl ⟨a, ?_, rfl⟩
      have ha : am_Gx (am_G Z) n a ≠ none := ha
      rw [am_Gx_lt h] at ha
      exact ha
    · exact Or.inr (show am_B Z + n ≤ am_B Z + a by omega)
  refine lv_aload_n B.exec B.bytes dX10_maximumAmbiguity_33 rfl (lv_at hl 0 rfl) ?_
  refine am_getW (Z := am_Zx Z n) (X := (p, e, kX10_maxB.2.2.2.2.2, s, m, [Value.ref (am_B Z + 1)].toArray, below, meth, c)) (K := kX10_maxB) (v := .ref (am_B Z + n)) 10 14 okx hP5 clX10 (Nat.le_of_ble_eq_true rfl) hGx1 iX10_maximumAmbiguity_10 fX10_maximumAmbiguity_206 (show am_rv (am_B Z) (am_Rx R n 1 14) = .ref (am_B Z + n) by rw [show am_Rx R n 1 14 = n by simp [am_Rx, am_upR]]; exact am_rv_pos (by omega)) dX10_maximumAmbiguity_34 ?_
  refine lv_aload_n B.exec B.bytes dX10_maximumAmbiguity_37 rfl (lv_at hl 0 rfl) ?_
  have hR0 : am_Rx R n 1 0 = R 1 0 := am_Rx_lt n1 (by omega)
  have hlt0 : R 1 0 < n := Nat.lt_of_not_le fun h => by rw [hn _ h] at hG0; cases hG0
  have hGx0 : am_G (am_Zx Z n) (R 1 0) = some (.inl 0) := by show am_Gx (am_G Z) n _ = _; rw [am_Gx_lt hlt0]; exact hG0
  refine am_getW (Z := am_Zx Z n) (X := (p, e, kX10_maxB.2.2.2.2.2, s, m, [Value.ref (am_B Z + 1)].toArray, below, meth, c)) (K := kX10_maxB) (v := .ref (am_B Z + R 1 0)) 10 0 okx hP5 clX10 (Nat.le_of_ble_eq_true rfl) hGx1 iX10_maximumAmbiguity_10 fX10_maximumAmbiguity_12 (show am_rv (am_B Z) (am_Rx R n 1 0) = .ref (am_B Z + R 1 0) by rw [hR0]; exact am_rv_pos z0) dX10_maximumAmbiguity_38 ?_
  refine am_callW (Z := am_Zx Z n) (X := (p, e, kX10_maxB.2.2.2.2.2, s, m, [Value.ref (am_B Z + 1)].toArray, below, meth, c)) (K := kX10_maxB) (A := fun q => am_A Z q ∨ am_B Z + n ≤ q) (a := n) (st := []) [.ref (am_B Z + R 1 0)] okx hTx hP5 hA5 hS5 hl.1 (tX4_highestAmbiguity (am_Rx R n) (am_cI n r2.2.1) (am_cL n r2.2.2) n (R 1 0) am_Gx_at.1 hGx0) hf3 am_Gx_at.1 clX4 gX10_maximumAmbiguity_X4_highestAmbiguity hX4_highestAmbiguity rfl ⟨Nat.le_of_ble_eq_true rfl, Nat.le_of_ble_eq_true rfl⟩ ⟨Nat.le_of_ble_eq_true rfl, Nat.le_of_ble_eq_true rfl⟩ rfl rfl (Nat.le_of_ble_eq_true rfl) dX10_maximumAmbiguity_41 (fun H6 locs6 y6 hT6 hP6 o6 hS6 => ?_)
  exact W.lret B.exec B.bytes B.returns (fun t ht hW => ⟨rfl, hTx, by rw [ht]; exact hP6, hS6.F ht⟩) hS6.2.2 dX10_maximumAmbiguity_44
