/-! constructors: cells 1 .. n - 1 are there, the next is n; what isn't there yet is zero everywhere -/
def am_Gn (G : am_S) (n : Nat) : am_S := fun a => if a < n then G a else none
def am_Zn (Z : am_Z) (n : Nat) : am_Z := (Z.1, Z.2.1, Z.2.2.1, Z.2.2.2.1, am_Gn (am_G Z) n)
def am_z (n : Nat) (R : am_R) (I : am_I) (L : am_L) : Prop := ∀ b, n ≤ b → ∀ j, R b j = 0 ∧ I b j = 0 ∧ L b j = 0
abbrev am_Fn : Type := Nat × am_R × am_I × am_L
def am_AN (Z : am_Z) (lo : Nat) : Nat → Prop := fun q => am_B Z + lo ≤ q
def am_QN (Z : am_Z) (lo : Nat) (F : am_Fn) : Array Value → State → Outcome → State → Prop := fun _ st oc t => oc = .returned none ∧ t.heap.size = am_B Z + F.1 ∧ am_P (am_Zn Z F.1) F.2.1 F.2.2.1 F.2.2.2 t.heap ∧ va_F (am_AN Z lo) st t
def am_EN (Z : am_Z) (U : State) : Prop := am_E Z U ∧ va_AO "AmbiguityAnalyzer$Shelf" U
def am_MN (Z : am_Z) (lo : Nat) (y : MethodName) (k : am_K) (as : List Value) (n : Nat) (R : am_R) (I : am_I) (L : am_L) (F : am_Fn) : Prop :=
  am_z n R I L → Met Z.1 y k.2.2.2.1 k.2.2.2.2.2 (va_Pc as (fun U => U.heap.size = am_B Z + n ∧ am_P (am_Zn Z n) R I L U.heap ∧ am_EN Z U)) (am_QN Z lo F) k.2.2.2.2.2.cells k.2.2.2.2.2.slots (am_AN Z lo)
def am_okN (Z : am_Z) (X : am_X) (k : am_K) : Prop := am_ok Z X k ∧ X.2.2.2.2.2.2.2.1.name = "<init>" ∧ va_AO "AmbiguityAnalyzer$Shelf" X.2.2.2.1
def am_VN (Z : am_Z) (X : am_X) (k : am_K) (lo : Nat) (F : am_Fn) (pc : Nat) (ls : List (Nat × Value)) (st : List Value) (n : Nat) (R : am_R) (I : am_I) (L : am_L) (cells slots : Nat) : Prop :=
  am_okN Z X k → am_z n R I L → ∀ (H : Heap) (locs : List Loc) (lsA : Array Slot), lv_has lsA k.2.1 ls → H.size = am_B Z + n → am_P (am_Zn Z n) R I L H → va_S (am_AN Z lo) X.2.2.2.1.heap H locs →
    W X.1 Z.1 X.2.1 X.2.2.1 X.2.2.2.1 X.2.2.2.2.1 X.2.2.2.2.2.1 X.2.2.2.2.2.2.1 X.2.2.2.2.2.2.2.1 X.2.2.2.2.2.2.2.2 H locs cells slots (MQ X.2.2.2.2.2.2.1 (am_QN Z lo F) X.2.2.2.2.2.1 X.2.2.2.1 k.2.2.2.2.2.cells k.2.2.2.2.2.slots (am_AN Z lo)) (F0 X.2.2.2.2.1 pc lsA st)
theorem am_val0 {B : Nat} {ty : FieldType} (h : ty = .int ∨ ty = .long ∨ ty = .boolean ∨ (∃ c, ty = .object c) ∨ ∃ t, ty = .array t) : defaultValue ty = am_val B ty 0 0 0 := by
  rcases h with rfl | rfl | rfl | ⟨c, rfl⟩ | ⟨t, rfl⟩ <;> rfl
theorem am_G_of {Z : am_Z} {n a : Nat} {sh : am_Sh} (h : am_G Z a = some sh) (hl : a < n) : am_G (am_Zn Z n) a = some sh := by
  show (if a < n then am_G Z a else none) = some sh
  rw [if_pos hl]; exact h
theorem am_G_to {Z : am_Z} {n a : Nat} {sh : am_Sh} (h : am_G (am_Zn Z n) a = some sh) : a < n ∧ am_G Z a = some sh := by
  have h : (if a < n then am_G Z a else none) = some sh := h
  split at h
  · rename_i hl; exact ⟨hl, h⟩
  · cases h
theorem am_at_n {Z : am_Z} {n m a : Nat} {sh : am_Sh} {R : am_R} {I : am_I} {L : am_L} {H H1 : Heap} (h : am_at (am_Zn Z n) R I L a sh H) (hq : H1[am_B Z + a]? = H[am_B Z + a]?) : am_at (am_Zn Z m) R I L a sh H1 := by
  cases sh with
  | inl c =>
    obtain ⟨q, h1, h2⟩ := h
    exact ⟨q, h1, h2.kept hq⟩
  | inr x =>
    obtain ⟨t, k⟩ := x
    exact hq.trans h
theorem am_P.push {Z : am_Z} {n : Nat} {R : am_R} {I : am_I} {L : am_L} {H H1 : Heap} (hP : am_P (am_Zn Z n) R I L H) (hs : H.size = am_B Z + n) (oq : ∀ q : Nat, q < H.size → H1[q]? = H[q]?) (hn : ∀ sh, am_G Z n = some sh → am_at (am_Zn Z (n + 1)) R I L n sh H1) : am_P (am_Zn Z (n + 1)) R I L H1 := by
  intro a sh ha
  obtain ⟨hl, hG⟩ := am_G_to ha
  by_cases e : a = n
  · subst e; exact hn sh hG
  · exact am_at_n (hP a sh (am_G_of hG (by omega))) (oq _ (by omega))
theorem am_z.up {n : Nat} {R : am_R} {I : am_I} {L : am_L} (h : am_z n R I L) : am_z (n + 1) R I L := fun b hb j => h b (by omega) j
theorem am_z.I {n a k : Nat} {v : Int32} {R : am_R} {I : am_I} {L : am_L} (h : am_z n R I L) (ha : a < n) : am_z n R (am_upI I a k v) L := fun b hb j => by rw [am_upI_ne (by omega)]; exact h b hb j
theorem am_z.R {n a k v : Nat} {R : am_R} {I : am_I} {L : am_L} (h : am_z n R I L) (ha : a < n) : am_z n (am_upR R a k v) I L := fun b hb j => by rw [am_upR_ne (by omega)]; exact h b hb j
theorem am_entryN {Z : am_Z} {y : MethodName} {K : am_K} {as : List Value} {n : Nat} {R : am_R} {I : am_I} {L : am_L} {lo : Nat} {F : am_Fn} {ls : List (Nat × Value)} {ws' : List Cond} (hy : plainName y.cls = true) (hw : K.2.2.2.1 = Cond.code y K.1 K.2.1 K.2.2.2.2.1 :: ws') (hown : y.cls = K.2.2.1) (hnm : y.name = "<init>") (hlen : (lg_sl as).length ≤ K.2.1) (hls : lv_args 0 as = ls) (h : ∀ X, am_VN Z X K lo F 0 ls [] n R I L 0 0) : am_MN Z lo y K as n R I L F := by
  intro hz
  refine Met.ofW (cc := K.1) (maxL := K.2.1) (ret := K.2.2.2.2.1) hy hw ?_
  intro p e s m args below meth c s₁ B hml hv
  obtain ⟨rfl, hs, hP, hE, hO⟩ := hv
  have hown2 : s.vm.findClass K.2.2.1 = some m.cls := by rw [← hown]; exact findClass_of_methodNamed B.named
  have hin : meth.name = "<init>" := by rw [← hnm]; exact (name_of_methodNamed B.named B.method).1
  rw [lg_entry_eq]
  have hl := lv_entry as hlen
  rw [hls] at hl
  exact h (p, e, K.2.2.2.2.2, s, m, as.toArray, below, meth, c) ⟨⟨B.exec, B.bytes, hml, hown2, atoms_spec (ws := K.2.2.2.1) B.pre, hE, B.returns, B.notSynchronized, rfl⟩, hin, hO⟩ hz s.heap [] _ hl hs hP va_S.rf
theorem am_blindN {Z : am_Z} {as : List Value} {n : Nat} {R : am_R} {I : am_I} {L : am_L} : FrameBlind (va_Pc as (fun U => U.heap.size = am_B Z + n ∧ am_P (am_Zn Z n) R I L U.heap ∧ am_EN Z U)) := fun a U g mk q => ⟨q.1, q.2.1, q.2.2.1, am_E.vm (u := U) (U := U.calling g mk a) rfl q.2.2.2.1, va_AO.moved (u := U) (U := U.calling g mk a) (Vm.Alike.refl U.vm) q.2.2.2.2⟩
section
variable {Z : am_Z} {X : am_X} {K : am_K} {lo : Nat} {F : am_Fn} {pc : Nat} {ls : List (Nat × Value)} {st : List Value} {n : Nat} {R : am_R} {I : am_I} {L : am_L} {cells slots : Nat}
theorem nv_iconst {q : Int} {v : Int32} (d : decode K.1 pc = .ok (.iconst q, 1)) (hv : Int32.ofInt q = v) (k : am_VN Z X K lo F (pc + 1) ls (.int v :: st) (n) R I L (cells) (slots)) : am_VN Z X K lo F (pc) ls (st) (n) R I L (cells) (slots) := fun ok hz H locs lsA hl hs hP hS => lv_iconst ok.1.1 ok.1.2.1 d hv (k ok hz H locs lsA hl hs hP hS)
theorem nv_bipush {q : Int} {v : Int32} (d : decode K.1 pc = .ok (.bipush q, 2)) (hv : (Int8.ofInt q).toInt32 = v) (k : am_VN Z X K lo F (pc + 2) ls (.int v :: st) (n) R I L (cells) (slots)) : am_VN Z X K lo F (pc) ls (st) (n) R I L (cells) (slots) := fun ok hz H locs lsA hl hs hP hS => lv_bipush ok.1.1 ok.1.2.1 d hv (k ok hz H locs lsA hl hs hP hS)
theorem nv_sipush {q : Int} {v : Int32} (d : decode K.1 pc = .ok (.sipush q, 3)) (hv : (Int16.ofInt q).toInt32 = v) (k : am_VN Z X K lo F (pc + 3) ls (.int v :: st) (n) R I L (cells) (slots)) : am_VN Z X K lo F (pc) ls (st) (n) R I L (cells) (slots) := fun ok hz H locs lsA hl hs hP hS => lv_sipush ok.1.1 ok.1.2.1 d hv (k ok hz H locs lsA hl hs hP hS)
theorem nv_aload_n {q : Fin 4} {i : Nat} {x : Nat} (d : decode K.1 pc = .ok (.aload_n q, 1)) (hi : (q : Nat) = i) (j : Nat) (hj : ls[j]? = some (i, .ref x)) (k : am_VN Z X K lo F (pc + 1) ls (.ref x :: st) (n) R I L (cells) (slots)) : am_VN Z X K lo F (pc) ls (st) (n) R I L (cells) (slots) := fun ok hz H locs lsA hl hs hP hS => lv_aload_n ok.1.1 ok.1.2.1 d hi (lv_at hl j hj) (k ok hz H locs lsA hl hs hP hS)
theorem nv_iload_n {q : Fin 4} {i : Nat} {x : Int32} (d : decode K.1 pc = .ok (.iload_n q, 1)) (hi : (q : Nat) = i) (j : Nat) (hj : ls[j]? = some (i, .int x)) (k : am_VN Z X K lo F (pc + 1) ls (.int x :: st) (n) R I L (cells) (slots)) : am_VN Z X K lo F (pc) ls (st) (n) R I L (cells) (slots) := fun ok hz H locs lsA hl hs hP hS => lv_iload_n ok.1.1 ok.1.2.1 d hi (lv_at hl j hj) (k ok hz H locs lsA hl hs hP hS)
theorem nv_dup {v : Value} (d : decode K.1 pc = .ok (.dup, 1)) (h1 : v.category = 1) (k : am_VN Z X K lo F (pc + 1) ls (v :: v :: st) (n) R I L (cells) (slots)) : am_VN Z X K lo F (pc) ls (v :: st) (n) R I L (cells) (slots) := fun ok hz H locs lsA hl hs hP hS => lv_dup ok.1.1 ok.1.2.1 d h1 (k ok hz H locs lsA hl hs hP hS)
theorem nv_istore_n {q0 : Fin 4} {i : Nat} {x : Int32} {ls' : List (Nat × Value)} (d : decode K.1 pc = .ok (.istore_n q0, 1)) (hi : (q0 : Nat) = i) (hn : i < K.2.1) (hq : (i, Value.int x) :: ls.filter (fun q => (!(q.1 == i) && !(q.1 + 1 == i && q.2.category == 2))) = ls') (k : am_VN Z X K lo F (pc + 1) ls' (st) (n) R I L (cells) (slots)) : am_VN Z X K lo F (pc) ls (.int x :: st) (n) R I L (cells) (slots) := fun ok hz H locs lsA hl hs hP hS => lv_istore_n ok.1.1 ok.1.2.1 d hi hl hn hq (fun lsB hlB => k ok hz H locs lsB hlB hs hP hS)
theorem nv_iinc {i j : Nat} {q : Int} {x v : Int32} {ls' : List (Nat × Value)} (d : decode K.1 pc = .ok (.iinc i q, 3)) (hj : ls[j]? = some (i, .int x)) (hv : x + Int32.ofInt q = v) (hn : i < K.2.1) (hq : (i, Value.int v) :: ls.filter (fun q => !(q.1 == i) && !(q.1 + 1 == i && q.2.category == 2)) = ls') (k : am_VN Z X K lo F (pc + 3) ls' (st) (n) R I L (cells) (slots)) : am_VN Z X K lo F (pc) ls (st) (n) R I L (cells) (slots) := fun ok hz H locs lsA hl hs hP hS => lv_iinc ok.1.1 ok.1.2.1 d hl hj hv hn hq (fun lsB hlB => k ok hz H locs lsB hlB hs hP hS)
theorem nv_goto {off : Int} {tgt : Nat} (d : decode K.1 pc = .ok (.goto off, 3)) (ht : (pc : Int) + off = (tgt : Int)) (k : am_VN Z X K lo F (tgt) ls (st) (n) R I L (cells) (slots)) : am_VN Z X K lo F (pc) ls (st) (n) R I L (cells) (slots) := fun ok hz H locs lsA hl hs hP hS => lv_goto ok.1.1 ok.1.2.1 d ht (k ok hz H locs lsA hl hs hP hS)
theorem nv_geT {x y : Int32} {off : Int} {tgt : Nat} (d : decode K.1 pc = .ok (.if_icmp .ge off, 3)) (ht : (pc : Int) + off = (tgt : Int)) (h : y ≤ x) (k : am_VN Z X K lo F (tgt) ls (st) (n) R I L (cells) (slots)) : am_VN Z X K lo F (pc) ls (.int y :: .int x :: st) (n) R I L (cells) (slots) := fun ok hz H locs lsA hl hs hP hS => lv_icmp_ge ok.1.1 ok.1.2.1 d ht (fun _ => (k ok hz H locs lsA hl hs hP hS)) (fun q => absurd h q)
theorem nv_geF {x y : Int32} {off : Int} {tgt : Nat} (d : decode K.1 pc = .ok (.if_icmp .ge off, 3)) (ht : (pc : Int) + off = (tgt : Int)) (h : ¬ y ≤ x) (k : am_VN Z X K lo F (pc + 3) ls (st) (n) R I L (cells) (slots)) : am_VN Z X K lo F (pc) ls (.int y :: .int x :: st) (n) R I L (cells) (slots) := fun ok hz H locs lsA hl hs hP hS => lv_icmp_ge ok.1.1 ok.1.2.1 d ht (fun q => absurd q h) (fun _ => (k ok hz H locs lsA hl hs hP hS))
theorem nv_obj {i a : Nat} (h1 : Cond.methodLink K.2.2.1 i objectInit ∈ K.2.2.2.1) (h2 : Cond.instanceMethod objectInit ∈ K.2.2.2.1) (h3 : Cond.code objectInit ⟨#[0xb1]⟩ 1 none ∈ K.2.2.2.1) (h4 : 1 ≤ K.2.2.2.2.2.frames) (h5 : (st.map fun v => v.category).sum + 12 ≤ K.2.2.2.2.2.locals) (d : decode K.1 pc = .ok (.invokespecial i, 3)) (k : am_VN Z X K lo F (pc + 3) ls (st) (n) R I L (cells) (slots)) : am_VN Z X K lo F (pc) ls (.ref a :: st) (n) R I L (cells) (slots) := fun ok hz H locs lsA hl hs hP hS => W.objInit ok.1.1 ok.1.2.1 ok.1.2.2.2.1 (ok.1.2.2.2.2.1 _ h1) (ok.1.2.2.2.2.1 _ h2) (ok.1.2.2.2.2.1 _ h3) rfl (by rw [ok.1.2.2.1]; exact hl.1) rfl d (by rw [ok.1.2.2.2.2.2.2.2.2]; exact h4) (by rw [ok.1.2.2.2.2.2.2.2.2]; show 2 * 0 + _ + 12 ≤ _; omega) (k ok hz H locs lsA hl hs hP hS)
theorem nv_ret (hc : cells = K.2.2.2.2.2.cells) (hs' : slots = K.2.2.2.2.2.slots) (hF : F = (n, R, I, L)) (hr : K.2.2.2.2.1 = none) (d : decode K.1 pc = .ok (.return_, 1)) : am_VN Z X K lo F pc ls [] n R I L cells slots := fun ok hz H locs lsA hl hs hP hS => by
  subst hc; subst hs'; subst hF
  exact W.vret (Qc := am_QN Z lo _) ok.1.1 ok.1.2.1 (ok.1.2.2.2.2.2.2.1.trans hr) (fun t ht hW => ⟨rfl, by rw [ht]; exact hs, by rw [ht]; exact hP, hS.F ht⟩) hS.2.2 d ok.1.2.2.2.2.2.2.2.1
theorem nv_new (c : Nat) {C : String} {T : u_T} {N idx : Nat} (hc : am_cls c C T N) (hty : ∀ k, k < N → (am_ty c k = .int ∨ am_ty c k = .long ∨ am_ty c k = .boolean ∨ (∃ c', am_ty c k = .object c') ∨ ∃ t, am_ty c k = .array t)) (hG : am_G Z n = some (.inl c)) (hin : ∀ w ∈ u_ws C T N, w ∈ K.2.2.2.1) (h1 : Cond.classLink K.2.2.1 idx C ∈ K.2.2.2.1) (h2 : Cond.instantiable C N ∈ K.2.2.2.1) (h3 : Cond.initialized C ∈ K.2.2.2.1) (hcs : cells + 1 ≤ K.2.2.2.2.2.cells) (hss : slots + N ≤ K.2.2.2.2.2.slots) (d : decode K.1 pc = .ok (.new idx, 3)) (k : am_VN Z X K lo F (pc + 3) ls (.ref (am_B Z + n) :: st) (n + 1) R I L (cells + 1) (slots + N)) : am_VN Z X K lo F pc ls st n R I L cells slots := fun ok hz H locs lsA hl hs hP hS => by
  have hKn := ok.1.2.2.2.2.2.1.1.1 c _ hc.1
  refine W.newcK ok.1.1 ok.1.2.1 ok.1.2.2.2.1 (ok.1.2.2.2.2.1 _ h1) (ok.1.2.2.2.2.1 _ h2) (ok.1.2.2.2.2.1 _ h3) rfl d (by rw [ok.1.2.2.2.2.2.2.2.2]; exact hcs) (by rw [ok.1.2.2.2.2.2.2.2.2]; exact hss) hKn.2.1 hs fun H1 kC hkC e1 z1 o1 => ?_
  refine k ok hz.up H1 locs lsA hl z1 (hP.push hs (fun q hq => o1 q (by omega)) (fun sh hsh => ?_)) ⟨Nat.le_trans hS.1 (by omega), fun x a1 a2 => (o1 x (by have := hS.1; omega)).trans (hS.2.1 x a1 a2), hS.2.2⟩
  cases hG.symm.trans hsh
  refine ⟨_, hc.1, (u_born (am_ty c) ok.1.2.2.2.2.1 hin hKn hkC e1 hc.2.1).to (fun j hj => ?_)⟩
  obtain ⟨z1, z2, z3⟩ := hz n (Nat.le_refl _) j
  show defaultValue (am_ty c j) = am_val _ (am_ty c j) (I n j) (L n j) (R n j)
  rw [z1, z2, z3]
  exact am_val0 (hty j hj)
theorem nv_newa (t : Nat) {atype : ArrayType} {v : Int32} {N : Nat} (hat : newarray.typeOf atype = am_aty t) (ht : t < 3) (hG : am_G Z n = some (.inr (t, N))) (harr : Cond.arrayClass (newarray.typeOf atype) ∈ K.2.2.2.1) (hv : ¬ v < 0) (hN : v.toNatClampNeg = N) (hb : N * componentBytes (newarray.typeOf atype) ≤ 536870912) (hcs : cells + 1 ≤ K.2.2.2.2.2.cells) (hss : slots + N ≤ K.2.2.2.2.2.slots) (d : decode K.1 pc = .ok (.newarray atype, 2)) (k : am_VN Z X K lo F (pc + 2) ls (.ref (am_B Z + n) :: st) (n + 1) R I L (cells + 1) (slots + N)) : am_VN Z X K lo F pc ls (.int v :: st) n R I L cells slots := fun ok hz H locs lsA hl hs hP hS => by
  refine va_newaK ok.1.1 ok.1.2.1 (ok.1.2.2.2.2.1 _ harr) rfl d rfl hv hN hb (by rw [ok.1.2.2.2.2.2.2.2.2]; exact hcs) (by rw [ok.1.2.2.2.2.2.2.2.2]; exact hss) hs fun H1 cA e1 z1 o1 hAr hNm => ?_
  have hcA : cA = Z.2.2.1 t := by
    have hE := ok.1.2.2.2.2.2.1.1.2
    rw [hat] at hNm
    match t, ht with
    | 0, _ => exact Option.some.inj (hNm.symm.trans (hE 0 _ rfl).2)
    | 1, _ => exact Option.some.inj (hNm.symm.trans (hE 1 _ rfl).2)
    | 2, _ => exact Option.some.inj (hNm.symm.trans (hE 2 _ rfl).2)
  subst hcA
  refine k ok hz.up H1 locs lsA hl z1 (hP.push hs (fun q hq => o1 q (by omega)) (fun sh hsh => ?_)) ⟨Nat.le_trans hS.1 (by omega), fun x a1 a2 => (o1 x (by have := hS.1; omega)).trans (hS.2.1 x a1 a2), hS.2.2⟩
  cases hG.symm.trans hsh
  show H1[am_B Z + n]? = some (arrV _ _ _)
  rw [e1, hat]
  congr 2
  funext j
  obtain ⟨z1, z2, z3⟩ := hz n (Nat.le_refl _) j
  show defaultValue (am_aty t) = am_elt _ t (I n j) (L n j) (R n j)
  rw [z1, z2, z3]
  match t, ht with
  | 0, _ => rfl
  | 1, _ => rfl
  | 2, _ => rfl
theorem nv_anew {idx : Nat} {v : Int32} {N : Nat} (hG : am_G Z n = some (.inr (3, N))) (h1 : Cond.classLink K.2.2.1 idx RX5 ∈ K.2.2.2.1) (hv : ¬ v < 0) (hN : v.toNatClampNeg = N) (hb : N * 4 ≤ 536870912) (hcs : cells + 1 ≤ K.2.2.2.2.2.cells) (hss : slots + N ≤ K.2.2.2.2.2.slots) (d : decode K.1 pc = .ok (.anewarray idx, 3)) (k : am_VN Z X K lo F (pc + 3) ls (.ref (am_B Z + n) :: st) (n + 1) R I L (cells + 1) (slots + N)) : am_VN Z X K lo F pc ls (.int v :: st) n R I L cells slots := fun ok hz H locs lsA hl hs hP hS => by
  subst hN
  refine W.anew ok.1.1 ok.1.2.1 ok.1.2.2.2.1 (ok.1.2.2.2.2.1 _ h1) (va_AO.use ok.2.2) rfl d rfl hv hb (by rw [ok.1.2.2.2.2.2.2.2.2]; exact hcs) (by rw [ok.1.2.2.2.2.2.2.2.2]; exact hss) fun cA kA comp f1 f2 f3 f4 => ?_
  have hcA : cA = Z.2.2.1 3 := by
    obtain ⟨kA', comp', g1, g2, g3, g4⟩ := (ok.1.2.2.2.2.2.1.1.2 3 _ rfl).2
    exact Option.some.inj (f1.symm.trans g4)
  subst hcA
  generalize hH1 : H.push ({ cls := Z.2.2.1 3, slots := Array.replicate v.toNatClampNeg .null, vm := .none } : Cell) = H1
  have z1 : H1.size = H.size + 1 := by rw [← hH1, Array.size_push]
  have e1 : H1[H.size]? = some (arrV (Z.2.2.1 3) v.toNatClampNeg (fun _ => .null)) := by rw [← hH1, Array.getElem?_push_size, ← arrV_new]
  have o1 : ∀ q : Nat, q < H.size → H1[q]? = H[q]? := fun q hq => by rw [← hH1, Array.getElem?_push, if_neg (Nat.ne_of_lt hq)]
  rw [hs] at e1 z1 ⊢
  refine k ok hz.up H1 locs lsA hl z1 (hP.push hs o1 (fun sh hsh => ?_)) ⟨Nat.le_trans hS.1 (by omega), fun x a1 a2 => (o1 x (by have := hS.1; omega)).trans (hS.2.1 x a1 a2), hS.2.2⟩
  cases hG.symm.trans hsh
  show H1[am_B Z + n]? = some (arrV _ _ _)
  rw [e1]
  congr 2
  funext j
  obtain ⟨z1, z2, z3⟩ := hz n (Nat.le_refl _) j
  show Value.null = am_elt _ 3 (I n j) (L n j) (R n j)
  rw [z1]; rfl
theorem nv_putG (fin : Bool) (c k : Nat) {C : String} {T : u_T} {N idx a : Nat} {v : Value} {R' : am_R} {I' : am_I} {L' : am_L} (hc : am_cls c C T N) (hk : k < N) (hG : am_G Z a = some (.inl c)) (ha : a < n) (ha0 : lo ≤ a) (hin : ∀ w ∈ u_ws C T N, w ∈ K.2.2.2.1) (hlink : Cond.fieldLink K.2.2.1 idx (T k).1 (T k).2.1 (T k).2.2.1 ∈ K.2.2.2.1) (hfin : (T k).2.2.2 = fin) (hdecl : (T k).1 = K.2.2.1) (hn : narrow (am_ty c k) v = v) (hfit : fits (am_ty c k) v = true) (hval : ∀ j, am_obv (am_B Z) c a R' I' L' j = if j = k then v else am_obv (am_B Z) c a R I L j) (ho : ∀ b, b ≠ a → R' b = R b ∧ I' b = I b ∧ L' b = L b) (d : decode K.1 pc = .ok (.putfield idx, 3)) (kk : am_VN Z X K lo F (pc + 3) ls st n R' I' L' cells slots) : am_VN Z X K lo F pc ls (v :: .ref (am_B Z + a) :: st) n R I L cells slots := fun ok hz H locs lsA hl hs hP hS => by
  have hz' : am_z n R' I' L' := fun b hb j => by
    obtain ⟨e1, e2, e3⟩ := ho b (by omega)
    rw [e1, e2, e3]; exact hz b hb j
  have hap := va_apart (own := K.2.2.1) ok.1.2.2.2.2.1 hin (am_ty c) hc.2.1 hc.2.2 ok.1.2.2.2.2.2.1.1 hc.1
  obtain ⟨q, hq, cell, q1, q2, q3, q4⟩ := hP a _ (am_G_of hG ha)
  have hr : q = (C, T, N) := Option.some.inj (hq.symm.trans hc.1)
  subst hr
  obtain ⟨hSl, hfc, kC, hkC, hkind⟩ := ok.1.2.2.2.2.2.1.1.1 c _ hc.1
  obtain ⟨cf, kf, fi, fd, hi, hsl⟩ := hSl k hk
  have hlay := ok.1.2.2.2.2.1 _ (hin _ (u_in_lay hk))
  unfold u_lay at hlay
  have hst := (u_facts hfc hkC (u_lays ok.1.2.2.2.2.1 hin hk) hi).1
  have fin_ : ∀ H', H'[am_B Z + a]? = some (cell.setSlot fd.slot v) → H'.size = H.size → (∀ q : Nat, q ≠ am_B Z + a → H'[q]? = H[q]?) → W X.1 Z.1 X.2.1 X.2.2.1 X.2.2.2.1 X.2.2.2.2.1 X.2.2.2.2.2.1 X.2.2.2.2.2.2.1 X.2.2.2.2.2.2.2.1 X.2.2.2.2.2.2.2.2 H' (locs ++ [⟨am_B Z + a, fd.slot⟩]) cells slots (MQ X.2.2.2.2.2.2.1 (am_QN Z lo F) X.2.2.2.2.2.1 X.2.2.2.1 K.2.2.2.2.2.cells K.2.2.2.2.2.slots (am_AN Z lo)) (F0 X.2.2.2.2.1 (pc + 3) lsA st) := by
    intro H' e1 e2 e3
    rw [hsl] at e1 ⊢
    exact kk ok hz' H' _ lsA hl (e2.trans hs) (hP.set (am_G_of hG ha) ⟨_, hc.1, t_OB.to (V := updV (am_obv (am_B Z) c a R I L) k v) ⟨_, e1, q2, q3, t_set q4 hap hk v⟩ (fun j _ => (hval j).symm)⟩ e3 ho) (hS.put e2 e3 (show am_B Z + lo ≤ am_B Z + a by omega))
  cases fin with
  | false =>
    rw [if_neg (by rw [hfin]; decide)] at hlay
    have h6 := u_store hfc hkC hkind hlay hi (hc.2.1 k hk) hn hfit
    exact W.putK ok.1.1 ok.1.2.1 (f := fd) ⟨ok.1.2.2.2.1, ok.1.2.2.2.2.1 _ hlink, ⟨_, _, _, hi⟩, hst⟩ (by rw [q2]; exact h6) q1 q3 (by rw [hsl]; exact k2_hasslot (q4 k hk)) rfl rfl d fin_
  | true =>
    rw [if_pos hfin] at hlay
    have hcf : X.2.2.2.2.1.cls = cf := by
      obtain ⟨_, _, c', _, _, _, -, -, hf', -, -, -, hown2, -⟩ := Cond.laysFinal_spec hlay
      have e1 : c' = cf := by have := hi.symm.trans hf'; simp at this; exact this.1.symm
      rw [hdecl] at hown2
      rw [← e1]; exact Option.some.inj (ok.1.2.2.2.1.symm.trans hown2)
    have h6 := u_fits hfc hkC hkind (Or.inr hlay) hi (hc.2.1 k hk) hn hfit
    exact W.putFinK ok.1.1 ok.1.2.1 ok.1.2.2.2.1 (ok.1.2.2.2.2.1 _ hlink) hi hst hcf ok.2.1 (by rw [q2]; exact h6) q1 q3 (by rw [hsl]; exact k2_hasslot (q4 k hk)) rfl rfl d fin_
theorem nv_putR (fin : Bool) (c k : Nat) {C : String} {T : u_T} {N idx a v : Nat} (hc : am_cls c C T N) (hk : k < N) (hG : am_G Z a = some (.inl c)) (ha : a < n) (ha0 : lo ≤ a) (hin : ∀ w ∈ u_ws C T N, w ∈ K.2.2.2.1) (hlink : Cond.fieldLink K.2.2.1 idx (T k).1 (T k).2.1 (T k).2.2.1 ∈ K.2.2.2.1) (hfin : (T k).2.2.2 = fin) (hdecl : (T k).1 = K.2.2.1) (hty : (∃ nm, am_ty c k = .object nm) ∨ ∃ t, am_ty c k = .array t) (h0 : v ≠ 0) (d : decode K.1 pc = .ok (.putfield idx, 3)) (kk : am_VN Z X K lo F (pc + 3) ls st n (am_upR R a k v) I L cells slots) : am_VN Z X K lo F pc ls (.ref (am_B Z + v) :: .ref (am_B Z + a) :: st) n R I L cells slots := by
  have e1 : narrow (am_ty c k) (.ref (am_B Z + v)) = .ref (am_B Z + v) := by rcases hty with ⟨_, e⟩ | ⟨_, e⟩ <;> rw [e] <;> rfl
  have e2 : fits (am_ty c k) (.ref (am_B Z + v)) = true := by rcases hty with ⟨_, e⟩ | ⟨_, e⟩ <;> rw [e] <;> rfl
  refine nv_putG fin c k (idx := idx) hc hk hG ha ha0 hin hlink hfin hdecl e1 e2 (fun j => ?_) (fun b hb => ⟨am_upR_ne hb, rfl, rfl⟩) d kk
  by_cases hj : j = k
  · subst hj
    rcases hty with ⟨_, e⟩ | ⟨_, e⟩ <;> simp [am_obv, am_upR, e, am_val, am_rv, h0]
  · simp [am_obv, am_upR, hj]
theorem nv_putI (fin : Bool) (c k : Nat) {C : String} {T : u_T} {N idx a : Nat} {x : Int32} (hc : am_cls c C T N) (hk : k < N) (hG : am_G Z a = some (.inl c)) (ha : a < n) (ha0 : lo ≤ a) (hin : ∀ w ∈ u_ws C T N, w ∈ K.2.2.2.1) (hlink : Cond.fieldLink K.2.2.1 idx (T k).1 (T k).2.1 (T k).2.2.1 ∈ K.2.2.2.1) (hfin : (T k).2.2.2 = fin) (hdecl : (T k).1 = K.2.2.1) (hty : am_ty c k = .int) (d : decode K.1 pc = .ok (.putfield idx, 3)) (kk : am_VN Z X K lo F (pc + 3) ls st n R (am_upI I a k x) L cells slots) : am_VN Z X K lo F pc ls (.int x :: .ref (am_B Z + a) :: st) n R I L cells slots := by
  refine nv_putG fin c k (idx := idx) hc hk hG ha ha0 hin hlink hfin hdecl (by rw [hty]; rfl) (by rw [hty]; rfl) (fun j => ?_) (fun b hb => ⟨rfl, am_upI_ne hb, rfl⟩) d kk
  by_cases hj : j = k
  · subst hj; simp [am_obv, am_upI, hty, am_val]
  · simp [am_obv, am_upI, hj]
theorem nv_get (c k : Nat) {C : String} {T : u_T} {N idx a : Nat} {v : Value} (hc : am_cls c C T N) (hk : k < N) (hG : am_G Z a = some (.inl c)) (ha : a < n) (hin : ∀ w ∈ u_ws C T N, w ∈ K.2.2.2.1) (hlink : Cond.fieldLink K.2.2.1 idx (T k).1 (T k).2.1 (T k).2.2.1 ∈ K.2.2.2.1) (hv : am_obv (am_B Z) c a R I L k = v) (d : decode K.1 pc = .ok (.getfield idx, 3)) (kk : am_VN Z X K lo F (pc + 3) ls (v :: st) n R I L cells slots) : am_VN Z X K lo F pc ls (.ref (am_B Z + a) :: st) n R I L cells slots := fun ok hz H locs lsA hl hs hP hS => by
  obtain ⟨q, hq, cell, q1, q2, q3, q4⟩ := hP a _ (am_G_of hG ha)
  have hr : q = (C, T, N) := Option.some.inj (hq.symm.trans hc.1)
  subst hr
  obtain ⟨hSl, hfc, kC, hkC, hkind⟩ := ok.1.2.2.2.2.2.1.1.1 c _ hc.1
  obtain ⟨cf, kf, fi, fd, hi, hsl⟩ := hSl k hk
  refine W.getf ok.1.1 ok.1.2.1 ok.1.2.2.2.1 (ok.1.2.2.2.2.1 _ hlink) hi (u_facts hfc hkC (u_lays ok.1.2.2.2.2.1 hin hk) hi).1 q1 (by rw [q3]; exact fun h => by cases h) (v := v) ?_ rfl rfl d (kk ok hz H locs lsA hl hs hP hS)
  rw [hsl]
  exact (q4 k hk).trans (congrArg some hv)
theorem nv_iast {a N : Nat} {i x : Int32} (hG : am_G Z a = some (.inr (0, N))) (ha : a < n) (ha0 : lo ≤ a) (hi : am_inb i N = true) (d : decode K.1 pc = .ok (.iastore, 1)) (kk : am_VN Z X K lo F (pc + 1) ls st n R (am_upI I a i.toNatClampNeg x) L cells slots) : am_VN Z X K lo F pc ls (.int x :: .int i :: .ref (am_B Z + a) :: st) n R I L cells slots := fun ok hz H locs lsA hl hs hP hS => by
  refine W.iast ok.1.1 ok.1.2.1 (hP a _ (am_G_of hG ha)) (am_arr (t := 0) rfl ok.1.2.2.2.2.2.1 _) (fun q => by cases q) (by rw [arrV_size]; exact am_inb_vp hi) rfl rfl d fun H1 e z oq => ?_
  refine kk ok (hz.I ha) H1 _ lsA hl (z.trans hs) (hP.set (am_G_of hG ha) ?_ oq (fun b hb => ⟨rfl, am_upI_ne hb, rfl⟩)) (hS.put z oq (show am_B Z + lo ≤ am_B Z + a by omega))
  refine Eq.trans e ?_
  rw [arrV_store]
  congr 2
  funext j
  by_cases hj : j = i.toNatClampNeg
  · subst hj; simp [updV, am_arv, am_upI, am_elt]
  · simp [updV, am_arv, am_upI, hj]
theorem nv_aast {a N v : Nat} {i : Int32} (hG : am_G Z a = some (.inr (3, N))) (ha : a < n) (ha0 : lo ≤ a) (hi : am_inb i N = true) (hv : am_G Z v = some (.inl 5)) (hvn : v < n) (h0 : v ≠ 0) (d : decode K.1 pc = .ok (.aastore, 1)) (kk : am_VN Z X K lo F (pc + 1) ls st n (am_upR R a i.toNatClampNeg v) I L cells slots) : am_VN Z X K lo F pc ls (.ref (am_B Z + v) :: .int i :: .ref (am_B Z + a) :: st) n R I L cells slots := fun ok hz H locs lsA hl hs hP hS => by
  have hin := am_inb_vp hi
  have hlt : i.toNatClampNeg < N := am_lt_of hi
  obtain ⟨q, hq, cellV, g1, g2, g3, -⟩ := hP v _ (am_G_of hv hvn)
  have hcls := (ok.1.2.2.2.2.2.1.1.1 5 _ (rfl : vwCl[5]? = some (RX5, TX5, 3))).2
  obtain ⟨kA, comp, k1, k2, k3, -⟩ := (ok.1.2.2.2.2.2.1.1.2 3 _ rfl).2
  have hcomp : comp = Z.2.1.1 5 := Option.some.inj (k3.symm.trans hcls.1)
  subst hcomp
  obtain ⟨kC, hkC, -⟩ := hcls.2
  refine W.aast ok.1.1 ok.1.2.1 (hP a _ (am_G_of hG ha)) (fun q h => by cases h) (fun h => by cases h) k1 k2 rfl hkC ⟨fun h => hin (Or.inl h), by show _ < (arrV _ _ _).slots.size; rw [arrV_size]; exact hlt⟩ g1 (fun q h => by rw [g3] at h; cases h) (by rw [g2]; exact hkC) (by rw [g2]; exact va_assign hcls) rfl rfl d fun H1 e z oq => ?_
  refine kk ok (hz.R ha) H1 _ lsA hl (z.trans hs) (hP.set (am_G_of hG ha) ?_ oq (fun b hb => ⟨am_upR_ne hb, rfl, rfl⟩)) (hS.put z oq (show am_B Z + lo ≤ am_B Z + a by omega))
  refine Eq.trans e ?_
  rw [arrV_store]
  congr 2
  funext j
  by_cases hj : j = i.toNatClampNeg
  · subst hj; simp [updV, am_arv, am_upR, am_elt, am_rv, h0]
  · simp [updV, am_arv, am_upR, hj]
theorem nv_callI {y : MethodName} {Kn : am_K} {Fn : am_Fn} {idx a : Nat} {host : String} {ws' : List Cond} (hM : am_MN Z lo y Kn [.ref (am_B Z + a)] n R I L Fn) (hgood : GoodIn K.2.2.2.1 Kn.2.2.2.1) (hnest : Cond.methodLinkNest K.2.2.1 idx y host ∈ am_nest) (hini : Cond.initialized y.cls ∈ K.2.2.2.1) (him : Cond.instanceMethod y ∈ K.2.2.2.1) (hw : Kn.2.2.2.1 = Cond.code y Kn.1 Kn.2.1 none :: ws') (hd : y.cls ≠ "java/lang/invoke/MethodHandle" ∧ y.cls ≠ "java/lang/invoke/VarHandle" ∧ (parseMethodDescriptor y.desc).map (fun d => d.parameters.length) = some 0) (hnm : y.name = "<init>") (hR : Kn.2.2.2.2.2.frames + 1 ≤ K.2.2.2.2.2.frames ∧ 8 + (Kn.2.1 + 11) + Kn.2.2.2.2.2.locals ≤ K.2.2.2.2.2.locals) (hcs : cells + Kn.2.2.2.2.2.cells ≤ K.2.2.2.2.2.cells ∧ slots + Kn.2.2.2.2.2.slots ≤ K.2.2.2.2.2.slots) (h8 : (st.map fun v => v.category).sum ≤ 8) (hz' : am_z n R I L → am_z Fn.1 Fn.2.1 Fn.2.2.1 Fn.2.2.2) (hle : n ≤ Fn.1) (d : decode K.1 pc = .ok (.invokespecial idx, 3)) (k : am_VN Z X K lo F (pc + 3) ls st Fn.1 Fn.2.1 Fn.2.2.1 Fn.2.2.2 (cells + Kn.2.2.2.2.2.cells) (slots + Kn.2.2.2.2.2.slots)) : am_VN Z X K lo F pc ls (.ref (am_B Z + a) :: st) n R I L cells slots := fun ok hz H locs lsA hl hs hP hS => by
  have hroom : X.2.2.1 = K.2.2.2.2.2 := ok.1.2.2.2.2.2.2.2.2
  have hr := va_runIN (As := []) (rest := st) (b := am_B Z + a) (cells := cells) (slots := slots) (locs := locs) (H := H) (g := F0 X.2.2.2.2.1 pc lsA (.ref (am_B Z + a) :: st)) (e := X.2.1) (below := X.2.2.2.2.2.2.1) (meth := X.2.2.2.2.2.2.2.1) ⟨ok.1.1, ok.1.2.1, ok.1.2.2.1, ok.1.2.2.2.1, ok.1.2.2.2.2.1⟩ (hM hz) ⟨va_cnB (R := X.2.2.1) 0 ok.1.2.2.2.2.1 hgood hw rfl rfl (ok.1.2.2.2.2.2.1.2 _ hnest) (ok.1.2.2.2.2.1 _ hini) hd (by rw [hroom]; exact hR), hnm, ok.1.2.2.2.2.1 _ him⟩ ⟨am_blindN, fun U hU hW => ⟨rfl, by rw [hU]; exact hs, by rw [hU]; exact hP, am_E.moved hW ok.1.2.2.2.2.2.1, va_AO.moved hW.alike ok.2.2⟩⟩ rfl rfl hl.1 rfl (lv_room h8) d (by rw [hroom]; exact hcs)
  intro T hT X1
  obtain ⟨v, st₀, t, T', Lc, h0, X', hL, e1, e2, ⟨hv, hsz, hP', hzz, hk⟩, stp⟩ := hr T hT X1
  cases hv
  rw [h0] at hzz hk
  obtain ⟨t2, a1, b1⟩ := k ok (hz' hz) T'.heap (locs ++ Lc) lsA hl (by rw [e1]; exact hsz) (by rw [e1]; exact hP')
    ⟨Nat.le_trans hS.1 (by rw [e1]; exact hzz), fun q h1 h2 => by rw [e1, hk q (Nat.lt_of_lt_of_le h1 hS.1) h2]; exact hS.2.1 q h1 h2, fun q hq => by
      rcases List.mem_append.mp hq with h | h
      · exact hS.2.2 q h
      · exact hL q h⟩ T' rfl X'
  exact ⟨t2, stp t2 a1, b1⟩
end
