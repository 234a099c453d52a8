/-! the law's own walk: two worlds, the class's and the reference's -/
abbrev lw_Wd : Type := am_Z × am_R × am_I × am_L
def lw_ok (l : Launch) (X : am_X) (b : Nat) (c m : lw_Wd) : Prop := X.1.tables.exec = Jvm.exec ∧ X.2.2.2.2.2.2.2.2.code = code ∧ X.2.2.2.2.2.2.2.2.maxLocals = 4 ∧ X.2.2.2.1.vm.findClass RL = some X.2.2.2.2.1.cls ∧ (∀ w ∈ wsL_law, w.before X.2.2.2.2.2.1 X.2.2.2.1 = true) ∧ X.2.2.1 = room_1 ∧ b < X.2.2.2.1.heap.size ∧ c.1.1 = l ∧ m.1.1 = l
def lw_h (s : State) (c m : lw_Wd) (H : Heap) : Prop := am_E c.1 s ∧ am_E m.1 s ∧ am_T (am_G c.1) c.2.1 ∧ am_P c.1 c.2.1 c.2.2.1 c.2.2.2 H ∧ am_T (am_G m.1) m.2.1 ∧ am_P m.1 m.2.1 m.2.2.1 m.2.2.2 H ∧ (∀ q, am_A c.1 q → s.heap.size ≤ q ∧ ¬ am_A m.1 q) ∧ (∀ q, am_A m.1 q → s.heap.size ≤ q)
def lw_V (l : Launch) (X : am_X) (b Ln : Nat) (xs : Nat → Int32) (Q : State → Prop) (pc : Nat) (ls : List (Nat × Value)) (st : List Value) (c m : lw_Wd) (cells slots : Nat) : Prop :=
  lw_ok l X b c m → ∀ (H : Heap) (locs : List Loc) (lsA : Array Slot), lv_has lsA 4 ls → lw_h X.2.2.2.1 c m H → va_S (fun q => X.2.2.2.1.heap.size ≤ q) X.2.2.2.1.heap H locs → va_X b Ln xs X.2.2.2.1 H →
    W X.1 l X.2.1 X.2.2.1 X.2.2.2.1 X.2.2.2.2.1 X.2.2.2.2.2.1 X.2.2.2.2.2.2.1 X.2.2.2.2.2.2.2.1 X.2.2.2.2.2.2.2.2 H locs cells slots Q (F0 X.2.2.2.2.1 pc lsA st)
theorem am_P.kept {Z : am_Z} {R : am_R} {I : am_I} {L : am_L} {H H1 : Heap} (hP : am_P Z R I L H) (hq : ∀ q, am_A Z q → H1[q]? = H[q]?) : am_P Z R I L H1 := by
  intro a sh ha
  have h := hP a sh ha
  have e := hq _ (am_inA ha)
  cases sh with
  | inl c =>
    obtain ⟨q, h1, h2⟩ := h
    exact ⟨q, h1, h2.kept e⟩
  | inr x =>
    obtain ⟨t, n⟩ := x
    exact e.trans h
section
variable {l : Launch} {X : am_X} {b Ln : Nat} {xs : Nat → Int32} {Q : State → Prop} {pc : Nat} {ls : List (Nat × Value)} {st : List Value} {c m : lw_Wd} {cells slots : Nat}
theorem lw_iconst {q : Int} {v : Int32} (d : decode code pc = .ok (.iconst q, 1)) (hv : Int32.ofInt q = v) (k : lw_V l X b Ln xs Q (pc + 1) ls (.int v :: st) c m cells slots) : lw_V l X b Ln xs Q (pc) ls (st) c m cells slots := fun ok H locs lsA hl hh hS hX => lv_iconst ok.1 ok.2.1 d hv (k ok H locs lsA hl hh hS hX)
theorem lw_bipush {q : Int} {v : Int32} (d : decode code pc = .ok (.bipush q, 2)) (hv : (Int8.ofInt q).toInt32 = v) (k : lw_V l X b Ln xs Q (pc + 2) ls (.int v :: st) c m cells slots) : lw_V l X b Ln xs Q (pc) ls (st) c m cells slots := fun ok H locs lsA hl hh hS hX => lv_bipush ok.1 ok.2.1 d hv (k ok H locs lsA hl hh hS hX)
theorem lw_aload {q : Fin 4} {i : Nat} {x : Nat} (d : decode code pc = .ok (.aload_n q, 1)) (hi : (q : Nat) = i) (j : Nat) (hj : ls[j]? = some (i, .ref x)) (k : lw_V l X b Ln xs Q (pc + 1) ls (.ref x :: st) c m cells slots) : lw_V l X b Ln xs Q (pc) ls (st) c m cells slots := fun ok H locs lsA hl hh hS hX => lv_aload_n ok.1 ok.2.1 d hi (lv_at hl j hj) (k ok H locs lsA hl hh hS hX)
theorem lw_iload {q : Fin 4} {i : Nat} {x : Int32} (d : decode code pc = .ok (.iload_n q, 1)) (hi : (q : Nat) = i) (j : Nat) (hj : ls[j]? = some (i, .int x)) (k : lw_V l X b Ln xs Q (pc + 1) ls (.int x :: st) c m cells slots) : lw_V l X b Ln xs Q (pc) ls (st) c m cells slots := fun ok H locs lsA hl hh hS hX => lv_iload_n ok.1 ok.2.1 d hi (lv_at hl j hj) (k ok H locs lsA hl hh hS hX)
theorem lw_iadd {x y v : Int32} (d : decode code pc = .ok (.iadd, 1)) (hv : x + y = v) (k : lw_V l X b Ln xs Q (pc + 1) ls (.int v :: st) c m cells slots) : lw_V l X b Ln xs Q (pc) ls (.int y :: .int x :: st) c m cells slots := fun ok H locs lsA hl hh hS hX => lv_iadd ok.1 ok.2.1 d (hv ▸ (k ok H locs lsA hl hh hS hX))
theorem lw_isub {x y v : Int32} (d : decode code pc = .ok (.isub, 1)) (hv : x - y = v) (k : lw_V l X b Ln xs Q (pc + 1) ls (.int v :: st) c m cells slots) : lw_V l X b Ln xs Q (pc) ls (.int y :: .int x :: st) c m cells slots := fun ok H locs lsA hl hh hS hX => lv_isub ok.1 ok.2.1 d (hv ▸ (k ok H locs lsA hl hh hS hX))
theorem lw_iand {x y : Int32} (d : decode code pc = .ok (.iand, 1))  (k : lw_V l X b Ln xs Q (pc + 1) ls (.int (x &&& y) :: st) c m cells slots) : lw_V l X b Ln xs Q (pc) ls (.int y :: .int x :: st) c m cells slots := fun ok H locs lsA hl hh hS hX => lv_iand ok.1 ok.2.1 d (k ok H locs lsA hl hh hS hX)
theorem lw_lcmp {x y : Int64} (d : decode code pc = .ok (.lcmp, 1))  (k : lw_V l X b Ln xs Q (pc + 1) ls (.int (lg_cmp x y) :: st) c m cells slots) : lw_V l X b Ln xs Q (pc) ls (.long y :: .long x :: st) c m cells slots := fun ok H locs lsA hl hh hS hX => W.lcmp ok.1 ok.2.1 d (k ok H locs lsA hl hh hS hX)
theorem lw_goto {off : Int} {tgt : Nat} (d : decode code pc = .ok (.goto off, 3)) (ht : (pc : Int) + off = (tgt : Int)) (k : lw_V l X b Ln xs Q (tgt) ls (st) c m cells slots) : lw_V l X b Ln xs Q (pc) ls (st) c m cells slots := fun ok H locs lsA hl hh hS hX => lv_goto ok.1 ok.2.1 d ht (k ok H locs lsA hl hh hS hX)
theorem lw_eqT {x : Int32} {off : Int} {tgt : Nat} (d : decode code pc = .ok (.ifCond .eq off, 3)) (ht : (pc : Int) + off = (tgt : Int)) (h : x = 0) (k : lw_V l X b Ln xs Q (tgt) ls (st) c m cells slots) : lw_V l X b Ln xs Q (pc) ls (.int x :: st) c m cells slots := fun ok H locs lsA hl hh hS hX => lv_if_eq ok.1 ok.2.1 d ht (fun _ => (k ok H locs lsA hl hh hS hX)) (fun q => absurd h q)
theorem lw_eqF {x : Int32} {off : Int} {tgt : Nat} (d : decode code pc = .ok (.ifCond .eq off, 3)) (ht : (pc : Int) + off = (tgt : Int)) (h : ¬ x = 0) (k : lw_V l X b Ln xs Q (pc + 3) ls (st) c m cells slots) : lw_V l X b Ln xs Q (pc) ls (.int x :: st) c m cells slots := fun ok H locs lsA hl hh hS hX => lv_if_eq ok.1 ok.2.1 d ht (fun q => absurd q h) (fun _ => (k ok H locs lsA hl hh hS hX))
theorem lw_ieqT {x y : Int32} {off : Int} {tgt : Nat} (d : decode code pc = .ok (.if_icmp .eq off, 3)) (ht : (pc : Int) + off = (tgt : Int)) (h : x = y) (k : lw_V l X b Ln xs Q (tgt) ls (st) c m cells slots) : lw_V l X b Ln xs Q (pc) ls (.int y :: .int x :: st) c m cells slots := fun ok H locs lsA hl hh hS hX => lv_icmp_eq ok.1 ok.2.1 d ht (fun _ => (k ok H locs lsA hl hh hS hX)) (fun q => absurd h q)
theorem lw_igtT {x y : Int32} {off : Int} {tgt : Nat} (d : decode code pc = .ok (.if_icmp .gt off, 3)) (ht : (pc : Int) + off = (tgt : Int)) (h : y < x) (k : lw_V l X b Ln xs Q (tgt) ls (st) c m cells slots) : lw_V l X b Ln xs Q (pc) ls (.int y :: .int x :: st) c m cells slots := fun ok H locs lsA hl hh hS hX => lv_icmp_gt ok.1 ok.2.1 d ht (fun _ => (k ok H locs lsA hl hh hS hX)) (fun q => absurd h q)
theorem lw_igtF {x y : Int32} {off : Int} {tgt : Nat} (d : decode code pc = .ok (.if_icmp .gt off, 3)) (ht : (pc : Int) + off = (tgt : Int)) (h : ¬ y < x) (k : lw_V l X b Ln xs Q (pc + 3) ls (st) c m cells slots) : lw_V l X b Ln xs Q (pc) ls (.int y :: .int x :: st) c m cells slots := fun ok H locs lsA hl hh hS hX => lv_icmp_gt ok.1 ok.2.1 d ht (fun q => absurd q h) (fun _ => (k ok H locs lsA hl hh hS hX))
theorem lw_iinc {i j : Nat} {q : Int} {x v : Int32} {ls' : List (Nat × Value)} (d : decode code pc = .ok (.iinc i q, 3)) (hj : ls[j]? = some (i, .int x)) (hv : x + Int32.ofInt q = v) (hn : i < 4) (hq : (i, Value.int v) :: ls.filter (fun q => !(q.1 == i) && !(q.1 + 1 == i && q.2.category == 2)) = ls') (k : lw_V l X b Ln xs Q (pc + 3) ls' (st) c m cells slots) : lw_V l X b Ln xs Q (pc) ls (st) c m cells slots := fun ok H locs lsA hl hh hS hX => lv_iinc ok.1 ok.2.1 d hl hj hv hn hq (fun lsB hlB => k ok H locs lsB hlB hh hS hX)
theorem lw_sub {ls' : List (Nat × Value)} (ks : List Nat) (h : lv_pick ls ks = ls') (k : lw_V l X b Ln xs Q (pc) ls' (st) c m cells slots) : lw_V l X b Ln xs Q (pc) ls (st) c m cells slots := fun ok H locs lsA hl hh hS hX => k ok H locs lsA (lv_sub hl ks h) hh hS hX
theorem lw_tabIn {dflt lo hi : Int} {offs : Array Int} {len : Nat} {x : Int32} {off : Int} {tgt : Nat} (d : decode code pc = .ok (.tableswitch dflt lo hi offs, len)) (h1 : ¬ x.toInt < lo) (h2 : ¬ hi < x.toInt) (ho : offs[(x.toInt - lo).toNat]? = some off) (ht : (pc : Int) + off = (tgt : Int)) (k : lw_V l X b Ln xs Q (tgt) ls (st) c m cells slots) : lw_V l X b Ln xs Q (pc) ls (.int x :: st) c m cells slots := fun ok H locs lsA hl hh hS hX => lv_tableIn ok.1 ok.2.1 d h1 h2 ho ht (k ok H locs lsA hl hh hS hX)
theorem lw_tabOut {dflt lo hi : Int} {offs : Array Int} {len : Nat} {x : Int32} {tgt : Nat} (d : decode code pc = .ok (.tableswitch dflt lo hi offs, len)) (h : x.toInt < lo ∨ hi < x.toInt) (ht : (pc : Int) + dflt = (tgt : Int)) (k : lw_V l X b Ln xs Q (tgt) ls (st) c m cells slots) : lw_V l X b Ln xs Q (pc) ls (.int x :: st) c m cells slots := fun ok H locs lsA hl hh hS hX => lv_tableOut ok.1 ok.2.1 d h ht (k ok H locs lsA hl hh hS hX)
theorem lw_sld {i : Nat} (hi : i < Ln) (h31 : Ln < 2 ^ 31) (d : decode code pc = .ok (.iaload, 1)) (k : lw_V l X b Ln xs Q (pc + 1) ls (.int (xs i) :: st) c m cells slots) : lw_V l X b Ln xs Q pc ls (.int (nI i) :: .ref b :: st) c m cells slots := fun ok H locs lsA hl hh hS hX => by
  obtain ⟨scr, h1, h2, h3, h4, h5⟩ := hX
  exact W.iald (v := .int (xs i)) ok.1 ok.2.1 h1 h2 h3 (by rw [h4]; exact vp_in_nI hi h31) (by rw [nI_clamp (by omega)]; exact h5 i hi) rfl rfl d (k ok H locs lsA hl hh hS ⟨scr, h1, h2, h3, h4, h5⟩)
theorem lw_slen {v : Int32} (hv : Ln.toInt32 = v) (d : decode code pc = .ok (.arraylength, 1)) (k : lw_V l X b Ln xs Q (pc + 1) ls (.int v :: st) c m cells slots) : lw_V l X b Ln xs Q pc ls (.ref b :: st) c m cells slots := fun ok H locs lsA hl hh hS hX => by
  obtain ⟨scr, h1, h2, h3, h4, h5⟩ := hX
  exact W.alen ok.1 ok.2.1 h1 h2 (by rw [h4]; exact hv) rfl rfl d (k ok H locs lsA hl hh hS ⟨scr, h1, h2, h3, h4, h5⟩)
theorem lw_callC {β : Type} {fN : Option β} {gN : β → am_O} {r1 : β} {y : MethodName} {Kn : am_K} {n idx : Nat} {st0 : List Value} (As : List Value) (hM : am_M c.1 y Kn (.ref (am_B c.1 + 1) :: As) c.2.1 c.2.2.1 c.2.2.2 fN gN) (hf : fN = some r1) (hG : am_G c.1 1 = some (.inl 10)) (hgood : GoodIn wsL_law (wsV RL idx RX10 y Kn.2.2.2.1)) (hcl : am_cl y Kn n) (hyC : y.cls = RX10) (hR : Kn.2.2.2.2.2.frames + 1 ≤ room_1.frames ∧ 8 + (Kn.2.1 + 11) + Kn.2.2.2.2.2.locals ≤ room_1.locals) (hn : As.length = n) (hst : st0 = As.reverse ++ .ref (am_B c.1 + 1) :: st) (h8 : (st.map fun v => v.category).sum ≤ 8) (hcs : cells ≤ room_1.cells ∧ slots ≤ room_1.slots) (d : decode code pc = .ok (.invokevirtual idx, 3))
    (k : lw_V l X b Ln xs Q (pc + 3) ls ((gN r1).1.toList ++ st) (c.1, (gN r1).2.1, (gN r1).2.2.1, (gN r1).2.2.2) m cells slots) : lw_V l X b Ln xs Q pc ls st0 c m cells slots := fun ok H locs lsA hl hh hS hX => by
  obtain ⟨hEc, hEm, hTc, hPc, hTm, hPm, hdc, hdm⟩ := hh
  obtain ⟨⟨ws', hw⟩, h1, h2, h3, h4, h5⟩ := hcl
  subst hst
  have hro : X.2.2.1 = room_1 := ok.2.2.2.2.2.1
  obtain ⟨q, hq, cell, q1, q2, q3, q4⟩ := hPc 1 _ hG
  have hr : q = (RX10, TX10, 18) := Option.some.inj (hq.symm.trans clX10.1)
  subst hr
  obtain ⟨hSl, hfc, kC, hkC, hkind⟩ := hEc.1.1 10 _ clX10.1
  have hM1 := hM hTc r1 hf
  rw [show c.1.1 = l from ok.2.2.2.2.2.2.2.1] at hM1
  have hr := va_runV (As := As) (rest := st) (b := am_B c.1 + 1) (cells := cells) (slots := slots) (locs := locs) (H := H) (g := F0 X.2.2.2.2.1 pc lsA (As.reverse ++ .ref (am_B c.1 + 1) :: st)) (e := X.2.1) (below := X.2.2.2.2.2.2.1) (meth := X.2.2.2.2.2.2.2.1) (R := X.2.2.1) ⟨ok.1, ok.2.1, ok.2.2.1, ok.2.2.2.1, ok.2.2.2.2.1⟩ hM1 (cwV n ok.2.2.2.2.1 hgood hw h1 h2 ⟨hyC, h3, h4, h5⟩ (by rw [hro]; exact hR)) ⟨am_blind, ⟨cell, q1, by rw [q3]; rfl, by rw [q2]; exact hfc⟩, fun U hU hW => ⟨rfl, by rw [hU]; exact hPc, am_E.moved hW hEc⟩⟩ rfl hn hl.1 rfl (lv_room h8) d (by rw [hro]; exact hcs)
  intro T hT X1
  obtain ⟨v, st₀, t, T', Lc, h0, X', hL, e1, e2, ⟨hv, hTy, hP', hz, hk⟩, stp⟩ := hr T hT X1
  cases hv
  rw [h0] at hz hk
  have hout : ∀ q, q < H.size → ¬ am_A c.1 q → T'.heap[q]? = H[q]? := fun q a1 a2 => by rw [e1]; exact hk q a1 a2
  have hlt : ∀ q, am_A m.1 q → q < H.size := by
    rintro q ⟨a, ha, rfl⟩
    cases hga : am_G m.1 a with
    | none => exact absurd hga ha
    | some sh =>
      have := hPm a sh hga
      cases sh with
      | inl c0 =>
        obtain ⟨_, _, cell, g1, _⟩ := this
        exact (Array.getElem?_eq_some_iff.mp g1).1
      | inr x => exact (Array.getElem?_eq_some_iff.mp this).1
  have hOt := hPm.kept (fun q hq => hout q (hlt q hq) (fun hA => (hdc q hA).2 hq))
  have hXb : va_X b Ln xs X.2.2.2.1 T'.heap := hX.kept (hout b (Nat.lt_of_lt_of_le ok.2.2.2.2.2.2.1 hS.1) (fun hA => by have := (hdc b hA).1; have := ok.2.2.2.2.2.2.1; omega))
  obtain ⟨t2, a1, b1⟩ := k ok T'.heap (locs ++ Lc) lsA hl ⟨hEc, hEm, hTy, by rw [e1]; exact hP', hTm, hOt, hdc, hdm⟩
    ⟨Nat.le_trans hS.1 (by rw [e1]; exact hz), fun q g1 g2 => by rw [hout q (Nat.lt_of_lt_of_le g1 hS.1) (fun hA => g2 ((hdc q hA).1))]; exact hS.2.1 q g1 g2, fun q hq => by
      rcases List.mem_append.mp hq with h | h
      · exact hS.2.2 q h
      · exact (hdc _ (hL q h)).1⟩ hXb T' rfl X'
  exact ⟨t2, stp t2 a1, b1⟩
theorem lw_callM {β : Type} {fN : Option β} {gN : β → am_O} {r1 : β} {y : MethodName} {Kn : am_K} {n idx : Nat} {st0 : List Value} (As : List Value) (hM : am_M m.1 y Kn (.ref (am_B m.1 + 1) :: As) m.2.1 m.2.2.1 m.2.2.2 fN gN) (hf : fN = some r1) (hG : am_G m.1 1 = some (.inl 11)) (hgood : GoodIn wsL_law (wsV RL idx RX11 y Kn.2.2.2.1)) (hcl : am_cl y Kn n) (hyC : y.cls = RX11) (hR : Kn.2.2.2.2.2.frames + 1 ≤ room_1.frames ∧ 8 + (Kn.2.1 + 11) + Kn.2.2.2.2.2.locals ≤ room_1.locals) (hn : As.length = n) (hst : st0 = As.reverse ++ .ref (am_B m.1 + 1) :: st) (h8 : (st.map fun v => v.category).sum ≤ 8) (hcs : cells ≤ room_1.cells ∧ slots ≤ room_1.slots) (d : decode code pc = .ok (.invokevirtual idx, 3))
    (k : lw_V l X b Ln xs Q (pc + 3) ls ((gN r1).1.toList ++ st) c (m.1, (gN r1).2.1, (gN r1).2.2.1, (gN r1).2.2.2) cells slots) : lw_V l X b Ln xs Q pc ls st0 c m cells slots := fun ok H locs lsA hl hh hS hX => by
  obtain ⟨hEc, hEm, hTc, hPc, hTm, hPm, hdc, hdm⟩ := hh
  obtain ⟨⟨ws', hw⟩, h1, h2, h3, h4, h5⟩ := hcl
  subst hst
  have hro : X.2.2.1 = room_1 := ok.2.2.2.2.2.1
  obtain ⟨q, hq, cell, q1, q2, q3, q4⟩ := hPm 1 _ hG
  have hr : q = (RX11, TX11, 50) := Option.some.inj (hq.symm.trans clX11.1)
  subst hr
  obtain ⟨hSl, hfc, kC, hkC, hkind⟩ := hEm.1.1 11 _ clX11.1
  have hM1 := hM hTm r1 hf
  rw [show m.1.1 = l from ok.2.2.2.2.2.2.2.2] at hM1
  have hr := va_runV (As := As) (rest := st) (b := am_B m.1 + 1) (cells := cells) (slots := slots) (locs := locs) (H := H) (g := F0 X.2.2.2.2.1 pc lsA (As.reverse ++ .ref (am_B m.1 + 1) :: st)) (e := X.2.1) (below := X.2.2.2.2.2.2.1) (meth := X.2.2.2.2.2.2.2.1) (R := X.2.2.1) ⟨ok.1, ok.2.1, ok.2.2.1, ok.2.2.2.1, ok.2.2.2.2.1⟩ hM1 (cwV n ok.2.2.2.2.1 hgood hw h1 h2 ⟨hyC, h3, h4, h5⟩ (by rw [hro]; exact hR)) ⟨am_blind, ⟨cell, q1, by rw [q3]; rfl, by rw [q2]; exact hfc⟩, fun U hU hW => ⟨rfl, by rw [hU]; exact hPm, am_E.moved hW hEm⟩⟩ rfl hn hl.1 rfl (lv_room h8) d (by rw [hro]; exact hcs)
  intro T hT X1
  obtain ⟨v, st₀, t, T', Lc, h0, X', hL, e1, e2, ⟨hv, hTy, hP', hz, hk⟩, stp⟩ := hr T hT X1
  cases hv
  rw [h0] at hz hk
  have hout : ∀ q, q < H.size → ¬ am_A m.1 q → T'.heap[q]? = H[q]? := fun q a1 a2 => by rw [e1]; exact hk q a1 a2
  have hlt : ∀ q, am_A c.1 q → q < H.size := by
    rintro q ⟨a, ha, rfl⟩
    cases hga : am_G c.1 a with
    | none => exact absurd hga ha
    | some sh =>
      have := hPc a sh hga
      cases sh with
      | inl c0 =>
        obtain ⟨_, _, cell, g1, _⟩ := this
        exact (Array.getElem?_eq_some_iff.mp g1).1
      | inr x => exact (Array.getElem?_eq_some_iff.mp this).1
  have hOt := hPc.kept (fun q hq => hout q (hlt q hq) (fun hA => (hdc q hq).2 hA))
  have hXb : va_X b Ln xs X.2.2.2.1 T'.heap := hX.kept (hout b (Nat.lt_of_lt_of_le ok.2.2.2.2.2.2.1 hS.1) (fun hA => by have := hdm b hA; have := ok.2.2.2.2.2.2.1; omega))
  obtain ⟨t2, a1, b1⟩ := k ok T'.heap (locs ++ Lc) lsA hl ⟨hEc, hEm, hTc, hOt, hTy, by rw [e1]; exact hP', hdc, hdm⟩
    ⟨Nat.le_trans hS.1 (by rw [e1]; exact hz), fun q g1 g2 => by rw [hout q (Nat.lt_of_lt_of_le g1 hS.1) (fun hA => g2 (hdm q hA))]; exact hS.2.1 q g1 g2, fun q hq => by
      rcases List.mem_append.mp hq with h | h
      · exact hS.2.2 q h
      · exact hdm _ (hL q h)⟩ hXb T' rfl X'
  exact ⟨t2, stp t2 a1, b1⟩
end
