/-! the law's end: the start, the loop, the end -/
def lw_KL : am_K := (code, 4, RL, lw_tbl, ret, room_1)
theorem lw_AO {s : State} {args : Array Value} (hts : ∀ w ∈ lw_tbl, w.before args s = true) : va_AO "AmbiguityAnalyzer$Shelf" s := va_AO.of (hts _ (am_mem1 lw_over 0 rfl))
theorem lw_good {ws : List Cond} (h : GoodIn wsL_law ws) : GoodIn lw_tbl ws := fun w hw => ⟨wsL_law_in _ (h w hw).1, (h w hw).2⟩
section
variable {Z : am_Z} {X : am_X} {R : am_R} {I : am_I} {L : am_L} {H : Heap} {locs : List Loc} {lsA : Array Slot} {st : List Value} {pc cells slots : Nat} {Q : State → Prop}
theorem lw_initW {y : MethodName} {Kn : am_K} {Fn : am_Fn} {idx a n lo : Nat} {ws' : List Cond} (ok : am_ok Z X lw_KL) (hO : va_AO "AmbiguityAnalyzer$Shelf" X.2.2.2.1) (hz : am_z n R I L) (hs : H.size = am_B Z + n) (hP : am_P (am_Zn Z n) R I L H) (hl : lsA.size = 4) (hM : am_MN Z lo y Kn [.ref (am_B Z + a)] n R I L Fn) (hgood : GoodIn lw_tbl Kn.2.2.2.1) (hlink : Cond.methodLink RL idx y ∈ lw_tbl) (hini : Cond.initialized y.cls ∈ lw_tbl) (him : Cond.instanceMethod y ∈ lw_tbl) (hw : Kn.2.2.2.1 = Cond.code y Kn.1 Kn.2.1 none :: ws') (hd : y.cls ≠ "java/lang/invoke/MethodHandle" ∧ y.cls ≠ "java/lang/invoke/VarHandle" ∧ (parseMethodDescriptor y.desc).map (fun d => d.parameters.length) = some 0) (hnm : y.name = "<init>") (hR : Kn.2.2.2.2.2.frames + 1 ≤ room_1.frames ∧ 8 + (Kn.2.1 + 11) + Kn.2.2.2.2.2.locals ≤ room_1.locals) (hcs : cells + Kn.2.2.2.2.2.cells ≤ room_1.cells ∧ slots + Kn.2.2.2.2.2.slots ≤ room_1.slots) (h8 : (st.map fun v => v.category).sum ≤ 8) (d : decode code pc = .ok (.invokespecial idx, 3)) (k : ∀ (H1 : Heap) (Lc : List Loc), H1.size = am_B Z + Fn.1 → H.size ≤ H1.size → am_P (am_Zn Z Fn.1) Fn.2.1 Fn.2.2.1 Fn.2.2.2 H1 → (∀ q : Nat, q < H.size → ¬ am_AN Z lo q → H1[q]? = H[q]?) → (∀ q ∈ Lc, am_AN Z lo q.base) → W X.1 Z.1 X.2.1 X.2.2.1 X.2.2.2.1 X.2.2.2.2.1 X.2.2.2.2.2.1 X.2.2.2.2.2.2.1 X.2.2.2.2.2.2.2.1 X.2.2.2.2.2.2.2.2 H1 (locs ++ Lc) (cells + Kn.2.2.2.2.2.cells) (slots + Kn.2.2.2.2.2.slots) Q (F0 X.2.2.2.2.1 (pc + 3) lsA st)) : W X.1 Z.1 X.2.1 X.2.2.1 X.2.2.2.1 X.2.2.2.2.1 X.2.2.2.2.2.1 X.2.2.2.2.2.2.1 X.2.2.2.2.2.2.2.1 X.2.2.2.2.2.2.2.2 H locs cells slots Q (F0 X.2.2.2.2.1 pc lsA (.ref (am_B Z + a) :: st)) := by
  have hroom : X.2.2.1 = room_1 := ok.2.2.2.2.2.2.2.2
  have hts : ∀ w ∈ lw_tbl, w.before X.2.2.2.2.2.1 X.2.2.2.1 = true := ok.2.2.2.2.1
  have hr := va_runI (As := []) (rest := st) (b := am_B Z + a) (cells := cells) (slots := slots) (locs := locs) (H := H) (g := F0 X.2.2.2.2.1 pc lsA (.ref (am_B Z + a) :: st)) (e := X.2.1) (below := X.2.2.2.2.2.2.1) (meth := X.2.2.2.2.2.2.2.1) (R := X.2.2.1) ⟨ok.1, ok.2.1, ok.2.2.1, ok.2.2.2.1, ok.2.2.2.2.1⟩ (hM hz) (cwI 0 hts hgood hw rfl rfl (hts _ hini) (hts _ hlink) (hts _ him) hnm hd (by rw [hroom]; exact hR)) ⟨am_blindN, fun U hU hW => ⟨rfl, by rw [hU]; exact hs, by rw [hU]; exact hP, am_E.moved hW ok.2.2.2.2.2.1, va_AO.moved hW.alike hO⟩⟩ rfl rfl hl rfl (lv_room h8) d (by rw [hroom]; exact hcs)
  intro T hT X1
  obtain ⟨v, st₀, t, T', Lc, h0, X', hL, e1, e2, ⟨hv, hsz, hP', hzz, hk⟩, stp⟩ := hr T hT X1
  cases hv
  rw [h0] at hzz hk
  obtain ⟨t2, a1, b1⟩ := k T'.heap Lc (by rw [e1]; exact hsz) (by rw [e1]; exact hzz) (by rw [e1]; exact hP') (fun q g1 g2 => by rw [e1]; exact hk q g1 g2) hL T' rfl X'
  exact ⟨t2, stp t2 a1, b1⟩
end
section
variable {l : Launch} {X : am_X} {b Ln : Nat} {xs : Nat → Int32} {Q : State → Prop} {ls : List (Nat × Value)} {Z : am_Z} {R : am_R} {I : am_I} {L : am_L} {m : lw_Wd} {cells slots : Nat}
theorem am_B0 {Z : am_Z} {as : List Value} {n : Nat} {R : am_R} {I : am_I} {L : am_L} : FrameBlind (va_Pc as (fun U => U.heap.size = am_B Z + n ∧ am_P Z R I L U.heap ∧ am_EN Z U)) := fun a U g mk q => ⟨q.1, q.2.1, q.2.2.1, am_E.vm (u := U) (U := U.calling g mk a) rfl q.2.2.2.1, va_AO.moved (u := U) (U := U.calling g mk a) (Vm.Alike.refl U.vm) q.2.2.2.2⟩
set_option maxRecDepth 100000 in
set_option maxHeartbeats 4000000 in
/-- the class makes its rows -/
theorem lw_callX (ok : lw_ok l X b (Z, R, I, L) m) (hO : va_AO "AmbiguityAnalyzer$Shelf" X.2.2.2.1) {H : Heap} {locs : List Loc} {lsA : Array Slot} (hl : lv_has lsA 4 ls) (hh : lw_h X.2.2.2.1 (Z, R, I, L) m H) (hS : va_S (fun q => X.2.2.2.1.heap.size ≤ q) X.2.2.2.1.heap H locs) (hX : va_X b Ln xs X.2.2.2.1 H) {n : Nat} (hs : H.size = am_B Z + n) (hG : am_G Z 1 = some (.inl 10)) (h0 : R 1 14 = 0) (hn : ∀ a, n ≤ a → am_G Z a = none) {I1 : am_I} (hf1 : pX10_freshSearch R I 1 = some I1) {r2 : Int32 × am_I × am_L} (hf2 : pX9_growthKind R I1 L (R 1 12) = some r2) (hlt : r2.1 < 2) {r3 : Int64 × am_I × am_L} (hf3 : pX4_highestAmbiguity (am_Rx R n) (am_cI n r2.2.1) (am_cL n r2.2.2) n (R 1 0) = some r3) (hcs : cells + 5 ≤ room_1.cells ∧ slots + 7267 ≤ room_1.slots)
    (k : lw_V l X b Ln xs Q 807 ls [.long r3.1] (am_Zx Z n, am_Rx R n, r3.2.1, r3.2.2) m (cells + 5) (slots + 7267)) : W X.1 l X.2.1 X.2.2.1 X.2.2.2.1 X.2.2.2.2.1 X.2.2.2.2.2.1 X.2.2.2.2.2.2.1 X.2.2.2.2.2.2.2.1 X.2.2.2.2.2.2.2.2 H locs cells slots Q (F0 X.2.2.2.2.1 804 lsA [.ref (am_B Z + 1)]) := by
  obtain ⟨hEc, hEm, hTc, hPc, hTm, hPm, hdc, hdm⟩ := hh
  have hEc : am_E Z X.2.2.2.1 := hEc
  have hTc : am_T (am_G Z) R := hTc
  have hPc : am_P Z R I L H := hPc
  have hdc : ∀ q, am_A Z q → X.2.2.2.1.heap.size ≤ q ∧ ¬ am_A m.1 q := hdc
  obtain ⟨⟨ws', hw⟩, h1, h2, h3, h4, h5⟩ := hX10_maximumAmbiguity
  have hro : X.2.2.1 = room_1 := ok.2.2.2.2.2.1
  obtain ⟨q, hq, cell, q1, q2, q3, q4⟩ := hPc 1 _ hG
  have hr : q = (RX10, TX10, 18) := Option.some.inj (hq.symm.trans clX10.1)
  subst hr
  obtain ⟨hSl, hfc, kC, hkC, hkind⟩ := hEc.1.1 10 _ clX10.1
  have hM1 := tX10_maxB R I L n hG hTc h0 hn hf1 hf2 hlt hf3
  rw [show Z.1 = l from ok.2.2.2.2.2.2.2.1] at hM1
  have hr := va_runV (As := []) (rest := []) (b := am_B Z + 1) (cells := cells) (slots := slots) (locs := locs) (H := H) (g := F0 X.2.2.2.2.1 804 lsA [.ref (am_B Z + 1)]) (e := X.2.1) (below := X.2.2.2.2.2.2.1) (meth := X.2.2.2.2.2.2.2.1) (R := X.2.2.1) ⟨ok.1, ok.2.1, ok.2.2.1, ok.2.2.2.1, ok.2.2.2.2.1⟩ hM1 (cwV 0 ok.2.2.2.2.1 gL_law_X10_maximumAmbiguity hw rfl rfl ⟨rfl, h3, h4, h5⟩ (by rw [hro]; exact ⟨Nat.le_of_ble_eq_true rfl, Nat.le_of_ble_eq_true rfl⟩)) ⟨am_B0, ⟨cell, q1, by rw [q3]; rfl, by rw [q2]; exact hfc⟩, fun U hU hW => ⟨rfl, by rw [hU]; exact hs, by rw [hU]; exact hPc, am_E.moved hW hEc, va_AO.moved hW.alike hO⟩⟩ rfl rfl hl.1 rfl (lv_room (Nat.le_of_ble_eq_true rfl)) dL_law_804 (by rw [hro]; exact hcs)
  intro T hT X1
  obtain ⟨v, st₀, t, T', Lc, h0', X', hL, e1, e2, ⟨hv, hTy, hP', hz, hk⟩, stp⟩ := hr T hT X1
  cases hv
  rw [h0'] at hz hk
  have hge : X.2.2.2.1.heap.size ≤ am_B Z + n := by rw [← hs]; exact hS.1
  have hout : ∀ q, q < H.size → ¬ am_A Z q → T'.heap[q]? = H[q]? := fun q a1 a2 => by
    rw [e1]
    exact hk q a1 (fun h => h.elim a2 (fun h => by omega))
  have hlt' : ∀ q, am_A m.1 q → q < H.size := by
    rintro q ⟨a, ha, rfl⟩
    cases hga : am_G m.1 a with
    | none => exact absurd hga ha
    | some sh =>
      have := hPm a sh hga
      cases sh with
      | inl c0 =>
        obtain ⟨_, _, cell, g1, _⟩ := this
        exact (Array.getElem?_eq_some_iff.mp g1).1
      | inr x => exact (Array.getElem?_eq_some_iff.mp this).1
  have hOt := hPm.kept (fun q hq => hout q (hlt' q hq) (fun hA => (hdc q hA).2 hq))
  have hXb : va_X b Ln xs X.2.2.2.1 T'.heap := hX.kept (hout b (Nat.lt_of_lt_of_le ok.2.2.2.2.2.2.1 hS.1) (fun hA => by have := (hdc b hA).1; have := ok.2.2.2.2.2.2.1; omega))
  have ok2 : lw_ok l X b (am_Zx Z n, am_Rx R n, r3.2.1, r3.2.2) m := ⟨ok.1, ok.2.1, ok.2.2.1, ok.2.2.2.1, ok.2.2.2.2.1, ok.2.2.2.2.2.1, ok.2.2.2.2.2.2.1, ok.2.2.2.2.2.2.2.1, ok.2.2.2.2.2.2.2.2⟩
  have hdx : ∀ q, am_A (am_Zx Z n) q → X.2.2.2.1.heap.size ≤ q ∧ ¬ am_A m.1 q := by
    rintro q ⟨a, ha, rfl⟩
    by_cases g : a < n
    · have e : am_G (am_Zx Z n) a = am_G Z a := am_Gx_lt g
      rw [e] at ha
      exact hdc _ ⟨a, ha, rfl⟩
    · have eB : am_B (am_Zx Z n) = am_B Z := rfl
      rw [eB]
      exact ⟨by omega, fun h => by have := hlt' _ h; omega⟩
  obtain ⟨t2, a1, b1⟩ := k ok2 T'.heap (locs ++ Lc) lsA hl ⟨hEc, hEm, hTy, by rw [e1]; exact hP', hTm, hOt, hdx, hdm⟩
    ⟨Nat.le_trans hS.1 (by rw [e1]; exact hz), fun q g1 g2 => by rw [hout q (Nat.lt_of_lt_of_le g1 hS.1) (fun hA => g2 ((hdc q hA).1))]; exact hS.2.1 q g1 g2, fun q hq => by
      rcases List.mem_append.mp hq with h | h
      · exact hS.2.2 q h
      · rcases hL q h with h | h
        · exact (hdc _ h).1
        · show X.2.2.2.1.heap.size ≤ q.base
          omega⟩ hXb T' rfl X'
  exact ⟨t2, stp t2 a1, b1⟩
end
