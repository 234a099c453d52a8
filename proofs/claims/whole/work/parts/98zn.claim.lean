/-! THE CLAIM OUT OF ONE WALK OF THE LAW'S BODY. Your part is whole_start (and what it stands on); all else here is the same for every law, but numbers. -/
def R_law : String := "AmbiguityAnalyzerLaw"
def lw_P (b : Addr) (xs : List Int32) (args : Array Value) (s : State) : Prop := args = #[.ref b] ∧ s.IntsAt b xs ∧ xs.length ≤ 2048 ∧ (Jvm.Cond.and given_1 narrow_1).before args s = true
/-- what a walk over the start with the record d0 says of its end, said of the start itself -/
theorem lw_closed {s t : State} {o : Outcome} {d0 : Drawn} {L : List Loc} {k n : Nat} (hd0 : s.drawn.sameBut d0 lw_cs) (hv : ∃ v, o = .returned v) (hW : (s.setDrawn d0).WarmedH t.vm) (hs : (s.setDrawn d0).sameButNew ({ t with vm := s.vm } : State) L k n) : State.butDraws s t lw_cs (fun t1 => Framed s o t1 L k n) := by
  have h2 : t.drawn = d0 := congrArg State.drawn hs.1
  refine ⟨⟨hv, hW, State.sameButNew.setDrawn hs s.drawn⟩, ?_, by decide⟩
  rw [h2]
  exact hd0
def lw_Q (_ : Array Value) (s : State) (o : Outcome) (t : State) : Prop := o = .returned (some (.int 1)) ∧ State.butDraws s t lw_cs (fun t1 => Framed s o t1 [] 216904 8451538)
def lw_Z (below : List Frame) (a : Array Value) (s : State) : State → Prop := fun t => ∃ o, t.status = .running ∧ Ended t below o ∧ lw_Q a s o t
/-- the law's own end, with 1 on the stack, nothing written that was there before, its room as the claim has it; d0: the record of draws at this point (at the entry s.drawn: begin with 'refine W.base ?_' and 'have hd0 := Drawn.sameBut.refl s.drawn lw_cs') -/
theorem lw_ret {p : Program} {l : Launch} {e : Env} {s : State} {m : MethodId} {below : List Frame} {meth : Method} {c : Code} {b : Nat} {d0 : Drawn} (hd0 : s.drawn.sameBut d0 lw_cs) (hx : p.tables.exec = Jvm.exec) (hb : c.code = code) (hr : meth.sig.returnType = ret) (hlocks : meth.locks = false) {pc : Nat} {H : Heap} {ls : Array Slot} (hdg : decode code pc = .ok (.ireturn, 1)) : W p l e room_1 (s.setDrawn d0) m #[Value.ref b] below meth c H [] 216904 8451538 (lw_Z below #[Value.ref b] s) (F0 m pc ls [.int 1]) := by
  intro T hT X
  obtain ⟨fs, hret, hrun, hended, hW, hframe⟩ := X.leave (v := some (.int 1)) (hlocks := hlocks) (fun h => by rw [hr] at h; cases h)
  have hmeth' : T.vm.method? m = some meth := X.method'
  refine ⟨T.setFrames fs, ?_, .returned (some (.int 1)), hrun, hended, rfl, lw_closed hd0 ⟨_, rfl⟩ hW hframe⟩
  jvm_step X.here [X.here.top, hx, hb, hdg, hmeth', hr, ret, narrow_b1]
  (try refine ⟨rfl, ?_⟩); (try refine ⟨rfl, ?_⟩)
  first | (intro acts; rw [hret _ acts rfl rfl rfl]) | rw [hret _ _ rfl rfl rfl]
  exact Steps.refl _
/-- what holds at the law's entry: the machine, the code, the tables' words (any of lw_tbl by 'hts w (by decide +kernel)'), the script of L ints xs at the cell b, what the Statement gives of the start (any of its parts by flat_of_before) -/
def lw_At (p : Program) (s : State) (m : MethodId) (meth : Method) (c : Code) (b L : Nat) (xs : Nat → Int32) : Prop :=
  p.tables.exec = Jvm.exec ∧ c.code = code ∧ meth.sig.returnType = ret ∧ c.maxLocals = 4 ∧ s.vm.findClass R_law = some m.cls ∧ (∀ w ∈ lw_tbl, w.before #[Value.ref b] s = true) ∧ va_X b L xs s s.heap ∧ b < s.heap.size ∧ meth.locks = false ∧ (Jvm.Cond.and given_1 narrow_1).before #[Value.ref b] s = true
theorem lw_A_C {l : Launch} {D : va_G} {dA : Nat → ClassId} {B q : Nat} (h : am_A (l, D, dA, B, am_GC) q) : B + 1 ≤ q ∧ q < B + 49 := by
  obtain ⟨a, ha, rfl⟩ := h
  have h1 : a < 49 := Nat.lt_of_not_le fun g => ha (GC_none g)
  have h0 : a ≠ 0 := fun g => by subst g; exact ha rfl
  show B + 1 ≤ B + a ∧ B + a < B + 49
  omega
theorem lw_A_M {l : Launch} {D : va_G} {dA : Nat → ClassId} {B q : Nat} (h : am_A (l, D, dA, B, am_GM) q) : B + 1 ≤ q ∧ q < B + 33 := by
  obtain ⟨a, ha, rfl⟩ := h
  have h1 : a < 33 := Nat.lt_of_not_le fun g => ha (GM_none g)
  have h0 : a ≠ 0 := fun g => by subst g; exact ha rfl
  show B + 1 ≤ B + a ∧ B + a < B + 33
  omega
/-- nothing is there yet -/
theorem lw_P0 {Z : am_Z} {R : am_R} {I : am_I} {L : am_L} {H : Heap} (h0 : am_G Z 0 = none) : am_P (am_Zn Z 1) R I L H := by
  intro a sh ha
  obtain ⟨h1, h2⟩ := am_G_to ha
  have e : a = 0 := by omega
  subst e
  rw [h0] at h2
  cases h2
set_option maxHeartbeats 4000000 in
set_option maxRecDepth 100000 in
/-- from the entry, for every script of at most 2048 ints, the law comes to its end with true -/
theorem whole_start {p : Program} {e : Env} {s : State} {m : MethodId} {below : List Frame} {meth : Method} {c : Code} (l : Launch) (hflags : l.flags = flags0) {b L : Nat} {xs : Nat → Int32} (hL : L ≤ 2048) (C0 : lw_At p s m meth c b L xs) : W p l e room_1 s m #[Value.ref b] below meth c s.heap [] 0 0 (lw_Z below #[Value.ref b] s) (entryFrame m ([Value.ref b] : List Value).toArray 4) := by
  obtain ⟨hx, hb, hr, hml, hown, hts, hX, hbl, hlocks, hgv⟩ := id C0
  obtain ⟨D, dA, hEN⟩ := lw_env hts
  have hO : va_AO "AmbiguityAnalyzer$Shelf" s := lw_AO hts
  obtain ⟨B, hB⟩ : ∃ B, s.heap.size = B + 1 := ⟨s.heap.size - 1, by omega⟩
  have okc : am_ok (l, D, dA, B, am_GC) (p, e, room_1, s, m, #[Value.ref b], below, meth, c) lw_KL := ⟨hx, hb, hml, hown, hts, (hEN l B am_GC).1, hr, hlocks, rfl⟩
  have okm : am_ok (l, D, dA, B + 48, am_GM) (p, e, room_1, s, m, #[Value.ref b], below, meth, c) lw_KL := ⟨hx, hb, hml, hown, hts, (hEN l (B + 48) am_GM).1, hr, hlocks, rfl⟩
  have hz : ∀ n, am_z n (fun _ _ => 0) (fun _ _ => 0) (fun _ _ => 0) := fun n q _ j => ⟨rfl, rfl, rfl⟩
  have hl := lv_entry ([Value.ref b]) (n := 4) (Nat.le_of_ble_eq_true rfl)
  rw [lg_entry_eq]
  generalize (lg_sl ([Value.ref b]) ++ List.replicate (4 - (lg_sl ([Value.ref b])).length) Slot.unset).toArray = ls at hl ⊢
  have hl : lv_has ls 4 [(0, .ref b)] := hl
  refine am_newW (Z := (l, D, dA, B, am_GC)) (X := (p, e, room_1, s, m, #[Value.ref b], below, meth, c)) (K := lw_KL) (A := fun q => s.heap.size ≤ q) (R := fun _ _ => 0) (I := fun _ _ => 0) (L := fun _ _ => 0) 10 1 okc (hz 1) hB (lw_P0 rfl) va_S.rf clX10 am_tykX10 rfl inwsX100 (am_mem1 inwsL_law_r1 0 rfl) (am_mem1 inwsL_law_r1 1 rfl) (am_mem1 inwsL_law_r1 2 rfl) (Nat.le_of_ble_eq_true rfl) (Nat.le_of_ble_eq_true rfl) dL_law_0 (fun H1 hs1 hP1 o1 hS1 => ?_)
  refine lv_dup hx hb dL_law_3 rfl ?_
  refine lw_initW (Z := (l, D, dA, B, am_GC)) (X := (p, e, room_1, s, m, #[Value.ref b], below, meth, c)) (a := 1) (n := 2) (lo := 1) okc hO (hz 2) hs1 hP1 hl.1 (tX10_init _ _ _ rfl) (lw_good gL_law_X10_init) (am_mem1 inwsL_law_r1 6 rfl) (am_mem1 inwsL_law_r1 2 rfl) (am_mem1 inwsL_law_r1 7 rfl) rfl ⟨by decide +kernel, by decide +kernel, by decide +kernel⟩ rfl ⟨Nat.le_of_ble_eq_true rfl, Nat.le_of_ble_eq_true rfl⟩ ⟨Nat.le_of_ble_eq_true rfl, Nat.le_of_ble_eq_true rfl⟩ (Nat.le_of_ble_eq_true rfl) dL_law_4 (fun H2 L2 hs2 y2 hP2 o2 hL2 => ?_)
  have hS2 : va_S (fun q => s.heap.size ≤ q) s.heap H2 ([] ++ L2) := ⟨Nat.le_trans hS1.1 y2, fun q g1 g2 => (o2 q (Nat.lt_of_lt_of_le g1 hS1.1) (fun (h : B + 1 ≤ q) => by omega)).trans (hS1.2.1 q g1 g2), fun q hq => by
    have h : B + 1 ≤ q.base := hL2 q hq
    show s.heap.size ≤ q.base
    omega⟩
  have hs2 : H2.size = B + 49 := hs2
  have hP2 : am_P (am_Zn (l, D, dA, B, am_GC) 49) rC IC0 L00 H2 := hP2
  refine W.widen (k := 48) (n := 7131) (Nat.le_of_ble_eq_true rfl) (Nat.le_of_ble_eq_true rfl) ?_
  refine lv_astore_n (lv' := [(1, .ref (B + 1)), (0, .ref b)]) hx hb dL_law_7 rfl hl (by decide) rfl (fun ls hl => ?_)
  refine am_newW (Z := (l, D, dA, B + 48, am_GM)) (X := (p, e, room_1, s, m, #[Value.ref b], below, meth, c)) (K := lw_KL) (A := fun q => s.heap.size ≤ q) (R := fun _ _ => 0) (I := fun _ _ => 0) (L := fun _ _ => 0) 11 1 okm (hz 1) hs2 (lw_P0 rfl) hS2 clX11 am_tykX11 rfl inwsX110 (am_mem1 inwsL_law_r1 3 rfl) (am_mem1 inwsL_law_r1 4 rfl) (am_mem1 inwsL_law_r1 5 rfl) (Nat.le_of_ble_eq_true rfl) (Nat.le_of_ble_eq_true rfl) dL_law_8 (fun H3 hs3 hP3 o3 hS3 => ?_)
  refine lv_dup hx hb dL_law_11 rfl ?_
  refine lw_initW (Z := (l, D, dA, B + 48, am_GM)) (X := (p, e, room_1, s, m, #[Value.ref b], below, meth, c)) (a := 1) (n := 2) (lo := 1) okm hO (hz 2) hs3 hP3 hl.1 (tX11_init _ _ _ rfl) (lw_good gL_law_X11_init) (am_mem1 inwsL_law_r5 9 rfl) (am_mem1 inwsL_law_r1 5 rfl) (am_mem1 inwsL_law_r5 10 rfl) rfl ⟨by decide +kernel, by decide +kernel, by decide +kernel⟩ rfl ⟨Nat.le_of_ble_eq_true rfl, Nat.le_of_ble_eq_true rfl⟩ ⟨Nat.le_of_ble_eq_true rfl, Nat.le_of_ble_eq_true rfl⟩ (Nat.le_of_ble_eq_true rfl) dL_law_12 (fun H4 L4 hs4 y4 hP4 o4 hL4 => ?_)
  have hs3 : H3.size = B + 50 := hs3
  have hs4 : H4.size = B + 48 + 33 := hs4
  have hP4 : am_P (am_Zn (l, D, dA, B + 48, am_GM) 33) rM IM0 L00 H4 := hP4
  have hS4 : va_S (fun q => s.heap.size ≤ q) s.heap H4 (([] ++ L2) ++ L4) := ⟨Nat.le_trans hS3.1 y4, fun q g1 g2 => (o4 q (Nat.lt_of_lt_of_le g1 hS3.1) (fun (h : B + 48 + 1 ≤ q) => by omega)).trans (hS3.2.1 q g1 g2), fun q hq => by
    rcases List.mem_append.mp hq with h | h
    · exact hS3.2.2 q h
    · have h : B + 48 + 1 ≤ q.base := hL4 q h
      show s.heap.size ≤ q.base
      omega⟩
  refine W.widen (k := 80) (n := 15533) (Nat.le_of_ble_eq_true rfl) (Nat.le_of_ble_eq_true rfl) ?_
  refine lv_astore_n (lv' := [(2, .ref (B + 48 + 1)), (1, .ref (B + 1)), (0, .ref b)]) hx hb dL_law_15 rfl hl (by decide) rfl (fun ls hl => ?_)
  refine lv_iconst (v := nI 0) hx hb dL_law_16 (by decide) ?_
  refine lv_istore_n (lv' := [(3, .int (nI 0)), (2, .ref (B + 48 + 1)), (1, .ref (B + 1)), (0, .ref b)]) hx hb dL_law_17 rfl hl (by decide) rfl (fun ls hl => ?_)
  have hl : lv_has ls 4 (lw_ls b (l, D, dA, B, am_GC) (l, D, dA, B + 48, am_GM) 0) := lv_sub hl [3, 2, 1, 0] rfl
  have hPc2 : am_P (l, D, dA, B, am_GC) rC IC0 L00 H2 := hP2.full (fun a h => GC_none h)
  have hPc : am_P (l, D, dA, B, am_GC) rC IC0 L00 H4 := hPc2.kept (fun q hq => by
    obtain ⟨g1, g2⟩ := lw_A_C hq
    exact (o4 q (by omega) (fun (h : B + 48 + 1 ≤ q) => by omega)).trans (o3 q (by omega)))
  have hPm : am_P (l, D, dA, B + 48, am_GM) rM IM0 L00 H4 := hP4.full (fun a h => GM_none h)
  have hX4 : va_X b L xs s H4 := hX.kept (hS4.2.1 b hbl (by omega))
  have ok : lw_ok l (p, e, room_1, s, m, #[Value.ref b], below, meth, c) b ((l, D, dA, B, am_GC), rC, IC0, L00) ((l, D, dA, B + 48, am_GM), rM, IM0, L00) := ⟨hx, hb, hml, hown, fun w hw => hts w (wsL_law_in w hw), rfl, hbl, rfl, rfl⟩
  have hh : lw_h s ((l, D, dA, B, am_GC), rC, IC0, L00) ((l, D, dA, B + 48, am_GM), rM, IM0, L00) H4 := ⟨(hEN l B am_GC).1, (hEN l (B + 48) am_GM).1, T_C, hPc, T_M, hPm, fun q hq => by
    obtain ⟨g1, g2⟩ := lw_A_C hq
    exact ⟨by omega, fun h => by have := (lw_A_M h).1; omega⟩, fun q hq => by have := (lw_A_M hq).1; omega⟩
  have ex : ∀ (ls : List (Nat × Value)) (c' m' : lw_Wd) (cells slots : Nat), cells ≤ 85 ∧ slots ≤ 22800 → lw_V l (p, e, room_1, s, m, #[Value.ref b], below, meth, c) b L xs (lw_Z below #[Value.ref b] s) 1278 ls [] c' m' cells slots := fun ls c' m' cells slots hcs => by
    refine lw_iconst (v := 1) dL_law_1278 (by decide) ?_
    intro ok H locs lsA hl hh hS hX
    refine W.widen (k := 216904) (n := 8451538) (by omega) (by omega) ?_
    refine va_forget (fun q hq => hS.2.2 q hq) ?_
    refine W.base ?_
    exact lw_ret (Drawn.sameBut.refl s.drawn lw_cs) hx hb hr hlocks dL_law_1279
  exact lw_loop (X := (p, e, room_1, s, m, #[Value.ref b], below, meth, c)) (Q := lw_Z below #[Value.ref b] s) (B := B) hL hO rfl ex (L + 1) 0 (l, D, dA, B, am_GC) rC IC0 L00 IM0 L00 80 15533 (by omega) (by omega) rfl rfl Inv00 (Or.inl ⟨rfl, rfl, rfl, rfl⟩) ok H4 _ ls hl hh hS4 hX4
set_option maxHeartbeats 4000000 in
theorem lw_walk (l : Launch) (hflags : l.flags = flags0) (b : Addr) (xs : List Int32) : MetFree l x (headSpec (Jvm.Cond.code x code maxLocals ret :: tables_1) room_1) (lw_P b xs) (fun _ _ _ _ _ => True) lw_Q := by
  refine MetFree.of_bodyS (code := code) (maxLocals := maxLocals) (ret := ret) (by decide) ?_ ?_
  · intro args s m h hn
    obtain ⟨meth, c, h1, h2, h3, h4, h5, h6, -, -⟩ := Cond.code_spec hn (atoms_spec (ws := Jvm.Cond.code x code maxLocals ret :: tables_1) h _ List.mem_cons_self)
    exact ⟨meth, c, h1, h2, h3, h4, h5, h6⟩
  · intro p e s m args below meth c s₁ B hml0 hP _
    obtain ⟨rfl, hx, hbd, hgv⟩ := hP
    obtain ⟨scr, harrAt, hlist, hof, hsmall⟩ := hx
    obtain ⟨hcb, hkn, -, -⟩ := State.arrayAt?_spec harrAt
    have hown : s.vm.findClass R_law = some m.cls := findClass_of_methodNamed B.named
    have hts0 : ∀ c ∈ (Jvm.Cond.code x code maxLocals ret :: tables_1), c.before #[Value.ref b] s = true := atoms_spec (ws := Jvm.Cond.code x code maxLocals ret :: tables_1) B.pre
    have hts : ∀ w ∈ lw_tbl, w.before #[Value.ref b] s = true := k2_hts_sels lw_privs (fun w hw => hts0 w (List.mem_cons_of_mem _ hw)) lw_privs_ok
    have hml : c.maxLocals = 4 := B.maxLocals_eq (hts0 _ List.mem_cons_self)
    have X₀ : Stand p l e room_1 s m #[Value.ref b] below meth c s₁ [] 0 0 := Stand.of_body B
    have hh0 : s₁.heap = s.heap := by rw [B.state]; rfl
    have hsz : scr.slots.size = xs.length := by rw [← Array.length_toList, hlist, List.length_map]
    have hval : ∀ j : Nat, j < xs.length → scr.slots[j]? = some (.int (xs.getD j 0)) := fun j hj => by
      rw [← Array.getElem?_toList, hlist]
      simp [hj]
    have hbl : b < s.heap.size := (Array.getElem?_eq_some_iff.mp hcb).1
    have hX : va_X b xs.length (fun j => xs.getD j 0) s s.heap := ⟨scr, hcb, hof, hkn, hsz, hval⟩
    have K : W p l e room_1 s m #[Value.ref b] below meth c s₁.heap [] 0 0 (lw_Z below #[Value.ref b] s) (entryFrame m ([Value.ref b] : List Value).toArray 4) := by
      rw [hh0]
      exact whole_start l hflags hbd ⟨B.exec, B.bytes, B.returns, hml, hown, hts, hX, hbl, B.notSynchronized, hgv⟩
    obtain ⟨t, a1, o, b1, b2, b3⟩ := K s₁ rfl X₀
    exact ⟨t, o, a1, b1, b2, b3⟩
theorem lw_pre_spec {args : Array Value} {s : State} (h : (Jvm.Cond.and given_1 narrow_1).before args s = true) (hr : rest_1_c.before args s = true) : ∃ (b : Addr) (xs : List Int32), lw_P b xs args s := by
  have hs := flat_of_before _ h
  have hq := flat_of_before _ hr
  have hc : (Cond.count 1).before args s = true := hs _ (by decide +kernel)
  have harr : (Cond.arrayOf (.arg 0) .int).before args s = true := hs _ (by decide +kernel)
  have hle : (Cond.le (.length (.arg 0)) (.int 2048)).before args s = true := hs _ (by decide +kernel)
  have hlen : (Cond.isInt (.length (.arg 0))).before args s = true := hq _ (by decide +kernel)
  have hall : (Cond.all (.arg 0) (.isInt (.elem (.arg 0) (.index 0)))).before args s = true := hq _ (by decide +kernel)
  obtain ⟨b, xs, hb, hx⟩ := State.ints_of_pre rfl harr hlen hall
  have hsm : xs.length < 2 ^ 31 := hx.choose_spec.2.2.2
  have hev : (Term.length (.arg 0)).eval args s none [] s = some (.int xs.length.toInt32) := hx.length_eval hb
  have hv := Cond.le_ints hev (show (Term.int 2048).eval args s none [] s = some (.int 2048) from rfl)
  have hd : xs.length.toInt32 ≤ 2048 := by
    simpa [Cond.before, Cond.holds, hv] using hle
  have hN : xs.length ≤ 2048 := (Int32.ofNat_le_ofNat hsm (by decide)).mp (show Int32.ofNat xs.length ≤ Int32.ofNat 2048 from hd)
  exact ⟨b, xs, Cond.one_arg hc (show args[0]? = some (.ref b) from hb), hx, hN, h⟩
theorem lw_comes (l : Launch) (hflags : l.flags = flags0) : Comes l x (Jvm.Cond.code x code maxLocals ret :: tables_1) room_1 (fun tb e args s => Calls_1 tb e args s ∧ rest_1 tb e args s ∧ Pre_1 tb e args s)
    (fun _ _ args s o t => lw_Q args s o t) := by
  intro p e ha hc hk s m args below hf hfit hheap happ hpre
  obtain ⟨b, xs, hP⟩ := lw_pre_spec hpre.2.2 hpre.2.1
  obtain ⟨k, o, h1, h2, h3, hQ⟩ := lw_walk l hflags b xs p e ha hc hk s m args below hf ((Spec.applies_iff_loose hf).mp happ).1 hP trivial
  exact ⟨k, o, h1, h2, h3, hQ⟩
theorem lw_frame {s t : State} {o : Outcome} {args : Array Value} (h : State.butDraws s t lw_cs (fun t1 => Framed s o t1 [] 216904 8451538)) :
    State.butDraws s t [Jvm.Choice.named "NaN.bits"] (fun t1 => Framed s o t1 (fieldLocs frame_1_writes args s ++ arrayLocs frame_1_arrays args s ++ staticLocs frame_1_statics s) 216904 8451538) := h
theorem lw_limb (L : Cond) (hL : ∀ (args : Array Value) (s t : State), L.after args s (.returned (some (.int 1))) t = true) :
    ArmFor flags0 classFile x code maxLocals ret World_1 tables_1 room_1 Calls_1 rest_1 Pre_1
      (fun tb e a s o t => postC L tb e a s o t ∧ State.butDraws s t [Jvm.Choice.named "NaN.bits"] (fun t1 => Framed s o t1 (fieldLocs frame_1_writes a s ++ arrayLocs frame_1_arrays a s ++ staticLocs frame_1_statics s) 216904 8451538)) := by
  intro l hflags _ _ p e ha hc hk s m args below hf hfit hheap happ hpre
  obtain ⟨k, o, h1, h2, h3, rfl, hF⟩ := lw_comes l hflags p e ha hc hk s m args below hf hfit hheap happ hpre
  exact ⟨k, _, h1, h2, h3, hL args s _, lw_frame hF⟩
theorem i_vc : Claimed_1_1 ∧ Claimed_1_2 := ⟨lw_limb limb_1_1 (fun args s t => by simp [limb_1_1, Cond.after, Cond.holds, Cond.value]), lw_limb limb_1_2 (fun args s t => Cond.after_iff.mpr (by
  first | (rw [show limb_1_2 = Cond.eq .result (.int 1) from rfl, Cond.eq_ints (x := 1) (y := 1) rfl rfl]; simp; done) | (simp [limb_1_2, Cond.value, Term.eval]; done)))⟩
