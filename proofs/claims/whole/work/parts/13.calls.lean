/-! entry and calls of the light judgement -/
def am_cl (y : MethodName) (k : am_K) (n : Nat) : Prop := (∃ ws', k.2.2.2.1 = Cond.code y k.1 k.2.1 k.2.2.2.2.1 :: ws') ∧ k.2.2.2.2.2.cells = 0 ∧ k.2.2.2.2.2.slots = 0 ∧ y.cls ≠ "java/lang/invoke/MethodHandle" ∧ y.cls ≠ "java/lang/invoke/VarHandle" ∧ (parseMethodDescriptor y.desc).map (fun d => d.parameters.length) = some n
theorem am_entry {α : Type} {Z : am_Z} {y : MethodName} {K : am_K} {as : List Value} {R : am_R} {I : am_I} {L : am_L} {f : Option α} {g : α → am_O} {n : Nat} {ls : List (Nat × Value)} (hy : plainName y.cls = true) (hcl : am_cl y K n) (hown : y.cls = K.2.2.1) (hlen : (lg_sl as).length ≤ K.2.1) (hls : lv_args 0 as = ls) (h : ∀ X, am_V Z X K g 0 ls [] R I L f) : am_M Z y K as R I L f g := by
  intro hT r hf
  obtain ⟨⟨ws', hw⟩, h1, h2, -⟩ := hcl
  refine Met.ofW (cc := K.1) (maxL := K.2.1) (ret := K.2.2.2.2.1) hy hw ?_
  intro p e s m args below meth c s₁ B hml hv
  obtain ⟨rfl, hP, hE⟩ := hv
  have hown2 : s.vm.findClass K.2.2.1 = some m.cls := by rw [← hown]; exact findClass_of_methodNamed B.named
  rw [lg_entry_eq]
  have hl := lv_entry as hlen
  rw [hls] at hl
  exact h (p, e, K.2.2.2.2.2, s, m, as.toArray, below, meth, c) ⟨B.exec, B.bytes, hml, hown2, atoms_spec (ws := K.2.2.2.1) B.pre, hE, B.returns, B.notSynchronized, rfl⟩ hT r hf s.heap [] _ hl hP va_S.rf
theorem am_blind {Z : am_Z} {as : List Value} {R : am_R} {I : am_I} {L : am_L} : FrameBlind (va_Pc as (fun U => am_P Z R I L U.heap ∧ am_E Z U)) := fun a U g mk q => ⟨q.1, q.2.1, am_E.vm (u := U) (U := U.calling g mk a) rfl q.2.2⟩
section
variable {α : Type} {Z : am_Z} {X : am_X} {K : am_K} {g : α → am_O} {pc : Nat} {ls : List (Nat × Value)} {st : List Value} {R : am_R} {I : am_I} {L : am_L} {f : Option α}
theorem am_back {β : Type} {r1 : β} {gN : β → am_O} {as : Array Value} {st0 : List Value} {fA : Option α} {H : Heap} {locs : List Loc} {lsA : Array Slot} {r : α} (ok : am_ok Z X K) (hf : fA = some r) (hl : lv_has lsA K.2.1 ls) (hS : va_S (am_A Z) X.2.2.2.1.heap H locs)
    (hr : va_Run X.1 Z.1 X.2.1 X.2.2.1 X.2.2.2.1 X.2.2.2.2.1 X.2.2.2.2.2.1 X.2.2.2.2.2.2.1 X.2.2.2.2.2.2.2.1 X.2.2.2.2.2.2.2.2 H locs 0 0 0 0 (F0 X.2.2.2.2.1 pc lsA st0) st (am_Q Z (gN r1) as) (am_A Z))
    (k : am_V Z X K g (pc + 3) ls ((gN r1).1.toList ++ st) (gN r1).2.1 (gN r1).2.2.1 (gN r1).2.2.2 fA) :
    W X.1 Z.1 X.2.1 X.2.2.1 X.2.2.2.1 X.2.2.2.2.1 X.2.2.2.2.2.1 X.2.2.2.2.2.2.1 X.2.2.2.2.2.2.2.1 X.2.2.2.2.2.2.2.2 H locs 0 0 (MQ X.2.2.2.2.2.2.1 (am_Q Z (g r)) X.2.2.2.2.2.1 X.2.2.2.1 0 0 (am_A Z)) (F0 X.2.2.2.2.1 pc lsA st0) := by
  intro T hT X1
  obtain ⟨v, st₀, t, T', Lc, h0, X', hL, e1, e2, ⟨hv, hTy, hP', hz, hk⟩, stp⟩ := hr T hT X1
  cases hv
  rw [h0] at hz hk
  obtain ⟨t2, a1, b1⟩ := k ok hTy r hf T'.heap (locs ++ Lc) lsA hl (by rw [e1]; exact hP')
    ⟨Nat.le_trans hS.1 (by rw [e1]; exact hz), fun q h1 h2 => by rw [e1, hk q (Nat.lt_of_lt_of_le h1 hS.1) h2]; exact hS.2.1 q h1 h2, fun q hq => by
      rcases List.mem_append.mp hq with h | h
      · exact hS.2.2 q h
      · exact hL q h⟩ T' rfl X'
  exact ⟨t2, stp t2 a1, b1⟩
theorem am_callV {β : Type} {fN : Option β} {gN : β → am_O} {kk : β → Option α} {y : MethodName} {Kn : am_K} {n : Nat} {idx ci a : Nat} {C : String} {T : u_T} {N : Nat} {st0 : List Value} (As : List Value) (hM : am_M Z y Kn (.ref (am_B Z + a) :: As) R I L fN gN) (hG : am_G Z a = some (.inl ci)) (hc : am_cls ci C T N) (hgood : GoodIn K.2.2.2.1 (wsV K.2.2.1 idx C y Kn.2.2.2.1)) (hcl : am_cl y Kn n) (hyC : y.cls = C) (hR : Kn.2.2.2.2.2.frames + 1 ≤ K.2.2.2.2.2.frames ∧ 8 + (Kn.2.1 + 11) + Kn.2.2.2.2.2.locals ≤ K.2.2.2.2.2.locals) (hn : As.length = n) (hst : st0 = As.reverse ++ .ref (am_B Z + a) :: st) (h8 : (st.map fun v => v.category).sum ≤ 8) (d : decode K.1 pc = .ok (.invokevirtual idx, 3))
    (k : ∀ r, am_V Z X K g (pc + 3) ls ((gN r).1.toList ++ st) (gN r).2.1 (gN r).2.2.1 (gN r).2.2.2 (kk r)) : am_V Z X K g pc ls st0 R I L (fN.bind kk) := fun ok hT r hf H locs lsA hl hP hS => by
  cases hfN : fN with
  | none => rw [hfN] at hf; cases hf
  | some r1 =>
    rw [hfN] at hf
    obtain ⟨⟨ws', hw⟩, h1, h2, h3, h4, h5⟩ := hcl
    subst hst
    obtain ⟨q, hq, cell, q1, q2, q3, q4⟩ := hP a _ hG
    have hr : q = (C, T, N) := Option.some.inj (hq.symm.trans hc.1)
    subst hr
    obtain ⟨hSl, hfc, kC, hkC, hkind⟩ := ok.2.2.2.2.2.1.1.1 ci _ hc.1
    have hroom : X.2.2.1 = K.2.2.2.2.2 := ok.2.2.2.2.2.2.2.2
    refine am_back (r1 := r1) (gN := gN) (as := (Value.ref (am_B Z + a) :: As).toArray) ok hf hl hS ?_ (k r1)
    exact va_runV (As := As) (rest := st) ⟨ok.1, ok.2.1, ok.2.2.1, ok.2.2.2.1, ok.2.2.2.2.1⟩ (hM hT r1 hfN) (cwV n ok.2.2.2.2.1 hgood hw h1 h2 ⟨hyC, h3, h4, h5⟩ (by rw [hroom]; exact hR)) ⟨am_blind, ⟨cell, q1, by rw [q3]; rfl, by rw [q2]; exact hfc⟩, fun U hU hW => ⟨rfl, by rw [hU]; exact hP, am_E.moved hW ok.2.2.2.2.2.1⟩⟩ rfl hn hl.1 rfl (lv_room h8) d ⟨Nat.zero_le _, Nat.zero_le _⟩
theorem am_callS {β : Type} {fN : Option β} {gN : β → am_O} {kk : β → Option α} {y : MethodName} {Kn : am_K} {n : Nat} {idx : Nat} {st0 : List Value} (As : List Value) (hM : am_M Z y Kn As R I L fN gN) (hgood : GoodIn K.2.2.2.1 (va_wsS K.2.2.1 idx y Kn.2.2.2.1)) (hcl : am_cl y Kn n) (hR : Kn.2.2.2.2.2.frames + 1 ≤ K.2.2.2.2.2.frames ∧ 8 + (Kn.2.1 + 11) + Kn.2.2.2.2.2.locals ≤ K.2.2.2.2.2.locals) (hn : As.length = n) (hst : st0 = As.reverse ++ st) (h8 : (st.map fun v => v.category).sum ≤ 8) (d : decode K.1 pc = .ok (.invokestatic idx, 3))
    (k : ∀ r, am_V Z X K g (pc + 3) ls ((gN r).1.toList ++ st) (gN r).2.1 (gN r).2.2.1 (gN r).2.2.2 (kk r)) : am_V Z X K g pc ls st0 R I L (fN.bind kk) := fun ok hT r hf H locs lsA hl hP hS => by
  cases hfN : fN with
  | none => rw [hfN] at hf; cases hf
  | some r1 =>
    rw [hfN] at hf
    obtain ⟨⟨ws', hw⟩, h1, h2, h3, h4, h5⟩ := hcl
    subst hst
    have hroom : X.2.2.1 = K.2.2.2.2.2 := ok.2.2.2.2.2.2.2.2
    refine am_back (r1 := r1) (gN := gN) (as := As.toArray) ok hf hl hS ?_ (k r1)
    exact va_runS (As := As) (rest := st) ⟨ok.1, ok.2.1, ok.2.2.1, ok.2.2.2.1, ok.2.2.2.2.1⟩ (hM hT r1 hfN) (va_cwS n ok.2.2.2.2.1 hgood hw h1 h2 ⟨h3, h4, h5⟩ (by rw [hroom]; exact hR)) ⟨am_blind, fun U hU hW => ⟨rfl, by rw [hU]; exact hP, am_E.moved hW ok.2.2.2.2.2.1⟩⟩ rfl hn hl.1 rfl (lv_room h8) d ⟨Nat.zero_le _, Nat.zero_le _⟩
theorem am_callN {β : Type} {fN : Option β} {gN : β → am_O} {kk : β → Option α} {y : MethodName} {Kn : am_K} {n : Nat} {idx : Nat} {host : String} {st0 : List Value} (As : List Value) (hM : am_M Z y Kn As R I L fN gN) (hgood : GoodIn K.2.2.2.1 Kn.2.2.2.1) (hnest : Cond.methodLinkNest K.2.2.1 idx y host ∈ am_nest) (hini : Cond.initialized y.cls ∈ K.2.2.2.1) (hstat : Cond.static y ∈ K.2.2.2.1) (hcl : am_cl y Kn n) (hR : Kn.2.2.2.2.2.frames + 1 ≤ K.2.2.2.2.2.frames ∧ 8 + (Kn.2.1 + 11) + Kn.2.2.2.2.2.locals ≤ K.2.2.2.2.2.locals) (hn : As.length = n) (hst : st0 = As.reverse ++ st) (h8 : (st.map fun v => v.category).sum ≤ 8) (d : decode K.1 pc = .ok (.invokestatic idx, 3))
    (k : ∀ r, am_V Z X K g (pc + 3) ls ((gN r).1.toList ++ st) (gN r).2.1 (gN r).2.2.1 (gN r).2.2.2 (kk r)) : am_V Z X K g pc ls st0 R I L (fN.bind kk) := fun ok hT r hf H locs lsA hl hP hS => by
  cases hfN : fN with
  | none => rw [hfN] at hf; cases hf
  | some r1 =>
    rw [hfN] at hf
    obtain ⟨⟨ws', hw⟩, h1, h2, h3, h4, h5⟩ := hcl
    subst hst
    have hroom : X.2.2.1 = K.2.2.2.2.2 := ok.2.2.2.2.2.2.2.2
    refine am_back (r1 := r1) (gN := gN) (as := As.toArray) ok hf hl hS ?_ (k r1)
    exact va_runSN (As := As) (rest := st) ⟨ok.1, ok.2.1, ok.2.2.1, ok.2.2.2.1, ok.2.2.2.2.1⟩ (hM hT r1 hfN) ⟨va_cnB n ok.2.2.2.2.1 hgood hw h1 h2 (ok.2.2.2.2.2.1.2 _ hnest) (ok.2.2.2.2.1 _ hini) ⟨h3, h4, h5⟩ (by rw [hroom]; exact hR), ok.2.2.2.2.1 _ hstat, trivial⟩ ⟨am_blind, fun U hU hW => ⟨rfl, by rw [hU]; exact hP, am_E.moved hW ok.2.2.2.2.2.1⟩⟩ rfl hn hl.1 rfl (lv_room h8) d ⟨Nat.zero_le _, Nat.zero_le _⟩
end
