/-! the light judgement: refs are numbers of cells behind a base B (0 is null); ints and longs of all cells are two functions; a cell's shape never changes -/
abbrev am_I : Type := Nat → Nat → Int32
abbrev am_L : Type := Nat → Nat → Int64
abbrev am_R : Type := Nat → Nat → Nat
abbrev am_Sh : Type := Nat ⊕ (Nat × Nat)
abbrev am_S : Type := Nat → Option am_Sh
abbrev am_O : Type := Option Value × am_R × am_I × am_L
/-- launch, class numbers and slots, array classes, base, shapes -/
abbrev am_Z : Type := Launch × va_G × (Nat → ClassId) × Nat × am_S
abbrev am_B (Z : am_Z) : Nat := Z.2.2.2.1
abbrev am_G (Z : am_Z) : am_S := Z.2.2.2.2
/-- the machine round a method -/
abbrev am_X : Type := Program × Env × Room × State × MethodId × Array Value × List Frame × Method × Code
/-- a method's constants: code, locals, own class, words, answer's type, room -/
abbrev am_K : Type := ByteArray × Nat × String × List Cond × Option FieldType × Room
def am_rv (B r : Nat) : Value := if r = 0 then .null else .ref (B + r)
theorem am_rv_pos {B r : Nat} (h : r ≠ 0) : am_rv B r = .ref (B + r) := if_neg h
theorem am_rv_0 {B : Nat} : am_rv B 0 = .null := rfl
def am_ty (c : Nat) : Nat → FieldType := match c with
  | 0 => tyX0
  | 1 => tyX1
  | 2 => tyX2
  | 3 => tyX3
  | 4 => tyX4
  | 5 => tyX5
  | 6 => tyX6
  | 7 => tyX7
  | 8 => tyX8
  | 9 => tyX9
  | 10 => tyX10
  | _ => tyX11
/-- what a field that is never null points to -/
def am_rk (c : Nat) : Nat → Option am_Sh := match c with
  | 0 => fun k => match k with | 3 => some (.inr (0, 18)) | _ => none
  | 1 => fun k => match k with | 0 => some (.inr (1, 6)) | 1 => some (.inr (1, 6)) | 2 => some (.inr (1, 64)) | 3 => some (.inr (1, 64)) | _ => none
  | 2 => fun k => match k with | 0 => some (.inr (0, 6)) | _ => none
  | 3 => fun k => match k with | 3 => some (.inr (1, 192)) | 4 => some (.inr (0, 64)) | 5 => some (.inr (0, 384)) | _ => none
  | 4 => fun k => match k with | 0 => some (.inr (1, 6000)) | 1 => some (.inr (1, 6)) | 2 => some (.inr (0, 256)) | 3 => some (.inr (0, 1000)) | _ => none
  | 5 => fun k => match k with | 2 => some (.inr (1, 31)) | _ => none
  | 6 => fun k => match k with | 0 => some (.inr (0, 192)) | 1 => some (.inr (0, 192)) | _ => none
  | 7 => fun k => match k with | 1 => some (.inr (0, 60)) | _ => none
  | 8 => fun k => match k with | 1 => some (.inr (0, 216)) | _ => none
  | 9 => fun k => match k with | 0 => some (.inl 6) | 8 => some (.inr (0, 4096)) | 11 => some (.inr (1, 64)) | 12 => some (.inr (0, 6)) | _ => none
  | 10 => fun k => match k with | 0 => some (.inl 0) | 1 => some (.inl 0) | 2 => some (.inr (0, 3)) | 3 => some (.inr (0, 3)) | 5 => some (.inl 7) | 6 => some (.inl 8) | 7 => some (.inl 8) | 8 => some (.inr (3, 4)) | 9 => some (.inr (1, 31)) | 10 => some (.inl 6) | 11 => some (.inl 1) | 12 => some (.inl 9) | 13 => some (.inl 2) | 15 => some (.inl 3) | 16 => some (.inl 3) | _ => none
  | _ => fun k => match k with | 0 => some (.inr (0, 18)) | 1 => some (.inr (0, 18)) | 2 => some (.inr (0, 3)) | 7 => some (.inr (0, 6)) | 8 => some (.inr (0, 18)) | 10 => some (.inr (0, 60)) | 11 => some (.inr (0, 90)) | 15 => some (.inr (0, 20)) | 17 => some (.inr (1, 64)) | 18 => some (.inr (1, 64)) | 19 => some (.inr (0, 216)) | 20 => some (.inr (0, 216)) | 22 => some (.inr (0, 216)) | 23 => some (.inr (2, 216)) | 24 => some (.inr (2, 216)) | 26 => some (.inr (2, 36)) | 30 => some (.inr (0, 36)) | 31 => some (.inr (1, 6000)) | 32 => some (.inr (1, 6)) | 33 => some (.inr (0, 6)) | 34 => some (.inr (0, 64)) | 35 => some (.inr (0, 64)) | 36 => some (.inr (0, 64)) | 37 => some (.inr (0, 64)) | 38 => some (.inr (1, 192)) | 39 => some (.inr (1, 192)) | 44 => some (.inr (0, 4)) | 45 => some (.inr (0, 4)) | 46 => some (.inr (1, 124)) | 47 => some (.inr (1, 31)) | 48 => some (.inr (0, 24)) | _ => none
def am_val (B : Nat) (ty : FieldType) (i : Int32) (l : Int64) (r : Nat) : Value := match ty with
  | .long => .long l
  | .object _ => am_rv B r
  | .array _ => am_rv B r
  | _ => .int i
def am_elt (B t : Nat) (i : Int32) (l : Int64) (r : Nat) : Value := match t with
  | 1 => .long l
  | 3 => am_rv B r
  | _ => .int i
def am_obv (B c a : Nat) (R : am_R) (I : am_I) (L : am_L) : Nat → Value := fun k => am_val B (am_ty c k) (I a k) (L a k) (R a k)
def am_arv (B t a : Nat) (R : am_R) (I : am_I) (L : am_L) : Nat → Value := fun j => am_elt B t (I a j) (L a j) (R a j)
def am_at (Z : am_Z) (R : am_R) (I : am_I) (L : am_L) (a : Nat) (sh : am_Sh) (H : Heap) : Prop := match sh with
  | .inl c => ∃ q : vw_C, vwCl[c]? = some q ∧ t_OB (am_B Z + a) (Z.2.1.1 c) q.2.2 (Z.2.1.2 c) H (am_obv (am_B Z) c a R I L)
  | .inr (t, n) => H[am_B Z + a]? = some (arrV (Z.2.2.1 t) n (am_arv (am_B Z) t a R I L))
def am_P (Z : am_Z) (R : am_R) (I : am_I) (L : am_L) (H : Heap) : Prop := ∀ (a : Nat) (sh : am_Sh), am_G Z a = some sh → am_at Z R I L a sh H
/-- refs lead where their fields' types say -/
def am_T (G : am_S) (R : am_R) : Prop := (∀ (a c k : Nat) (sh : am_Sh), G a = some (.inl c) → am_rk c k = some sh → R a k ≠ 0 ∧ G (R a k) = some sh) ∧ (∀ (a n j : Nat), G a = some (.inr (3, n)) → j < n → R a j ≠ 0 ∧ G (R a j) = some (.inl 5)) ∧ ∀ a : Nat, G a = some (.inl 10) → R a 14 = 0 ∨ G (R a 14) = some (.inl 4)
abbrev am_tys (dA : Nat → ClassId) : List (ClassId × FieldType) := [(dA 0, .int), (dA 1, .long), (dA 2, .boolean), (dA 3, .object RX5)]
def am_aty (t : Nat) : FieldType := match t with
  | 0 => .int
  | 1 => .long
  | 2 => .boolean
  | _ => .object RX5
/-- links to private members of nest mates -/
def am_nest : List Cond := [.methodLinkNest RX10 11 yX0_init RX10, .methodLinkNest RX10 28 yX7_init RX10, .methodLinkNest RX10 35 yX8_init RX10, .methodLinkNest RX10 55 yX6_init RX10, .methodLinkNest RX10 62 yX1_init RX10, .methodLinkNest RX10 69 yX9_init RX10, .methodLinkNest RX9 13 yX6_init RX10, .methodLinkNest RX10 76 yX2_init RX10, .methodLinkNest RX10 83 yX3_init RX10, .methodLinkNest RX10 91 yX5_init RX10, .methodLinkNest RX0 29 yX10_isLetter RX10, .methodLinkNest RX0 40 yX10_contains RX10, .methodLinkNest RX7 27 yX10_isLetter RX10, .methodLinkNest RX1 59 yX10_contains RX10, .methodLinkNest RX6 28 yX10_isLetter RX10, .methodLinkNest RX9 78 yX10_contains RX10, .methodLinkNest RX10 212 yX4_init RX10, .methodLinkNest RX4 38 yX10_contains RX10, .methodLinkNest RX2 58 yX10_contains RX10, .methodLinkNest RX3 59 yX10_contains RX10, .methodLinkNest RX3 77 yX10_isLetter RX10]
def am_E (Z : am_Z) (U : State) : Prop := va_K Z.2.1 vwCl (am_tys Z.2.2.1) U ∧ ∀ w ∈ am_nest, va_Nw w U
def am_A (Z : am_Z) : Nat → Prop := fun q => ∃ a : Nat, am_G Z a ≠ none ∧ q = am_B Z + a
def am_Q (Z : am_Z) (r : am_O) : Array Value → State → Outcome → State → Prop := fun _ st oc t => oc = .returned r.1 ∧ am_T (am_G Z) r.2.1 ∧ am_P Z r.2.1 r.2.2.1 r.2.2.2 t.heap ∧ va_F (am_A Z) st t
/-- a method's contract: where f has an answer, the method returns it -/
def am_M {α : Type} (Z : am_Z) (y : MethodName) (k : am_K) (as : List Value) (R : am_R) (I : am_I) (L : am_L) (f : Option α) (g : α → am_O) : Prop :=
  am_T (am_G Z) R → ∀ r, f = some r → Met Z.1 y k.2.2.2.1 k.2.2.2.2.2 (va_Pc as (fun U => am_P Z R I L U.heap ∧ am_E Z U)) (am_Q Z (g r)) 0 0 (am_A Z)
def am_ok (Z : am_Z) (X : am_X) (k : am_K) : Prop := X.1.tables.exec = Jvm.exec ∧ X.2.2.2.2.2.2.2.2.code = k.1 ∧ X.2.2.2.2.2.2.2.2.maxLocals = k.2.1 ∧ X.2.2.2.1.vm.findClass k.2.2.1 = some X.2.2.2.2.1.cls ∧ (∀ w ∈ k.2.2.2.1, w.before X.2.2.2.2.2.1 X.2.2.2.1 = true) ∧ am_E Z X.2.2.2.1 ∧ X.2.2.2.2.2.2.2.1.sig.returnType = k.2.2.2.2.1 ∧ X.2.2.2.2.2.2.2.1.locks = false ∧ X.2.2.1 = k.2.2.2.2.2
def am_V {α : Type} (Z : am_Z) (X : am_X) (k : am_K) (g : α → am_O) (pc : Nat) (ls : List (Nat × Value)) (st : List Value) (R : am_R) (I : am_I) (L : am_L) (f : Option α) : Prop :=
  am_ok Z X k → am_T (am_G Z) R → ∀ r, f = some r → ∀ (H : Heap) (locs : List Loc) (lsA : Array Slot), lv_has lsA k.2.1 ls → am_P Z R I L H → va_S (am_A Z) X.2.2.2.1.heap H locs →
    W X.1 Z.1 X.2.1 X.2.2.1 X.2.2.2.1 X.2.2.2.2.1 X.2.2.2.2.2.1 X.2.2.2.2.2.2.1 X.2.2.2.2.2.2.2.1 X.2.2.2.2.2.2.2.2 H locs 0 0 (MQ X.2.2.2.2.2.2.1 (am_Q Z (g r)) X.2.2.2.2.2.1 X.2.2.2.1 0 0 (am_A Z)) (F0 X.2.2.2.2.1 pc lsA st)
def am_ck {α : Type} (b : Bool) (f : Option α) : Option α := if b = true then f else none
def am_let {α β : Type} (v : β) (f : β → Option α) : Option α := f v
def am_jn {α : Type} {β : Type} (j : β) (f : β → Option α) : Option α := f j
def am_inb (i : Int32) (n : Nat) : Bool := !decide (i < 0) && decide (i.toNatClampNeg < n)
def am_isb (v : Int32) : Bool := v == 0 || v == 1
def am_upI (I : am_I) (a k : Nat) (v : Int32) : am_I := fun b j => if b = a then (if j = k then v else I a j) else I b j
def am_upL (L : am_L) (a k : Nat) (v : Int64) : am_L := fun b j => if b = a then (if j = k then v else L a j) else L b j
def am_upR (R : am_R) (a k : Nat) (v : Nat) : am_R := fun b j => if b = a then (if j = k then v else R a j) else R b j
theorem am_inb_vp {i : Int32} {n : Nat} (h : am_inb i n = true) : vp_in i n := by
  simp only [am_inb, Bool.and_eq_true, Bool.not_eq_true', decide_eq_false_iff_not, decide_eq_true_eq] at h
  intro q
  rcases q with q | q
  · exact h.1 q
  · omega
theorem am_E.moved {Z : am_Z} {u U : State} (hW : u.WarmedH U.vm) (h : am_E Z u) : am_E Z U := by
  refine ⟨va_K.moved hW.alike h.1, ?_⟩
  intro w hw
  have h2 := h.2 w hw
  simp only [am_nest, List.mem_cons, List.not_mem_nil, or_false] at hw

  rcases hw with rfl | rfl | rfl | rfl | rfl | rfl | rfl | rfl | rfl | rfl | rfl | rfl | rfl | rfl | rfl | rfl | rfl | rfl | rfl | rfl | rfl
  · exact va_Nw.warmM hW h2
  · exact va_Nw.warmM hW h2
  · exact va_Nw.warmM hW h2
  · exact va_Nw.warmM hW h2
  · exact va_Nw.warmM hW h2
  · exact va_Nw.warmM hW h2
  · exact va_Nw.warmM hW h2
  · exact va_Nw.warmM hW h2
  · exact va_Nw.warmM hW h2
  · exact va_Nw.warmM hW h2
  · exact va_Nw.warmM hW h2
  · exact va_Nw.warmM hW h2
  · exact va_Nw.warmM hW h2
  · exact va_Nw.warmM hW h2
  · exact va_Nw.warmM hW h2
  · exact va_Nw.warmM hW h2
  · exact va_Nw.warmM hW h2
  · exact va_Nw.warmM hW h2
  · exact va_Nw.warmM hW h2
  · exact va_Nw.warmM hW h2
  · exact va_Nw.warmM hW h2
theorem am_E.vm {Z : am_Z} {u U : State} (hv : u.vm = U.vm) (h : am_E Z u) : am_E Z U := by
  refine ⟨va_K.moved (by rw [hv]; exact Vm.Alike.refl _) h.1, ?_⟩
  intro w hw
  have h2 := h.2 w hw
  simp only [am_nest, List.mem_cons, List.not_mem_nil, or_false] at hw

  rcases hw with rfl | rfl | rfl | rfl | rfl | rfl | rfl | rfl | rfl | rfl | rfl | rfl | rfl | rfl | rfl | rfl | rfl | rfl | rfl | rfl | rfl <;> exact va_Nw.same rfl hv h2
