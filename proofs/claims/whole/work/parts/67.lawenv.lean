set_option maxRecDepth 100000 in
theorem lw_inst : ∀ w ∈ ([.instantiable RX0 4, .instantiable RX1 4, .instantiable RX2 1, .instantiable RX3 6, .instantiable RX4 5, .instantiable RX5 3, .instantiable RX6 2, .instantiable RX7 2, .instantiable RX8 2, .instantiable RX9 13, .instantiable RX10 18, .instantiable RX11 50] : List Cond), w ∈ lw_tbl := am_inr _ [103, 190, 257, 267, 752, 294, 176, 141, 155, 209, 95, 1039] (by rfl)
set_option maxRecDepth 100000 in
theorem lw_arrs : ∀ w ∈ ([.arrayClass .int, .arrayClass .long, .arrayClass .boolean] : List Cond), w ∈ lw_tbl := am_inr _ [139, 188, 1195] (by rfl)
set_option maxRecDepth 100000 in
theorem lw_over : ∀ w ∈ ([.arrayOver (.object "AmbiguityAnalyzer$Shelf")] : List Cond), w ∈ lw_tbl := am_inr _ [174] (by rfl)
set_option maxRecDepth 100000 in
theorem lw_nest : ∀ w ∈ ([.methodLinkNest RX10 11 yX0_init RX10, .methodLinkNest RX10 28 yX7_init RX10, .methodLinkNest RX10 35 yX8_init RX10, .methodLinkNest RX10 55 yX6_init RX10, .methodLinkNest RX10 62 yX1_init RX10, .methodLinkNest RX10 69 yX9_init RX10, .methodLinkNest RX9 13 yX6_init RX10, .methodLinkNest RX10 76 yX2_init RX10, .methodLinkNest RX10 83 yX3_init RX10, .methodLinkNest RX10 91 yX5_init RX10, .methodLinkNest RX0 29 yX10_isLetter RX10, .methodLinkNest RX0 40 yX10_contains RX10, .methodLinkNest RX7 27 yX10_isLetter RX10, .methodLinkNest RX1 59 yX10_contains RX10, .methodLinkNest RX6 28 yX10_isLetter RX10, .methodLinkNest RX9 78 yX10_contains RX10, .methodLinkNest RX10 212 yX4_init RX10, .methodLinkNest RX4 38 yX10_contains RX10, .methodLinkNest RX2 58 yX10_contains RX10, .methodLinkNest RX3 59 yX10_contains RX10, .methodLinkNest RX3 77 yX10_isLetter RX10] : List Cond), w ∈ lw_tbl := am_inr _ [104, 142, 156, 177, 191, 210, 215, 258, 268, 295, 389, 401, 526, 581, 629, 717, 753, 782, 852, 929, 962] (by rfl)
theorem am_mem1 {α : Type} {P : α → Prop} {l : List α} (h : ∀ w ∈ l, P w) (i : Nat) {w : α} (hw : l[i]? = some w) : P w := h w (List.mem_of_getElem? hw)
theorem lw_arrK {s : State} {args : Array Value} {ty : FieldType} (h : (Cond.arrayClass ty).before args s = true) : ∃ cA, ArrOfT s cA ty ∧ s.vm.findClass ("[" ++ ty.toString) = some cA := by
  obtain ⟨cA, kA, comp, h1, h2, h3⟩ := Cond.arrayClass_spec h
  exact ⟨cA, fun n z => ⟨fun k h => (by cases h), kA, h2, comp, h3⟩, h1⟩
theorem lw_arrR {s : State} {args : Array Value} {C : String} (h : (Cond.arrayOver (.object C)).before args s = true) : ∃ cA, ArrOfT s cA (.object C) ∧ va_RA s cA (.object C) := by
  obtain ⟨comp, cA, kA, h1, h2, h3, h4, h5⟩ := Cond.arrayOver_spec h
  exact ⟨cA, fun n z => ⟨fun k h => (by cases h), kA, h3, comp, h4⟩, kA, comp, h3, h4, h1, h5⟩
set_option maxRecDepth 100000 in
theorem lw_env {s : State} {args : Array Value} (hts : ∀ w ∈ lw_tbl, w.before args s = true) : ∃ (D : va_G) (dA : Nat → ClassId), ∀ (l : Launch) (B : Nat) (G : am_S), am_EN (l, D, dA, B, G) s := by
  obtain ⟨c0, i0, k0⟩ := u_known (T := TX0) (N := 4) hts inwsX00 (hts _ (am_mem1 lw_inst 0 rfl))
  obtain ⟨c1, i1, k1⟩ := u_known (T := TX1) (N := 4) hts inwsX10 (hts _ (am_mem1 lw_inst 1 rfl))
  obtain ⟨c2, i2, k2⟩ := u_known (T := TX2) (N := 1) hts inwsX20 (hts _ (am_mem1 lw_inst 2 rfl))
  obtain ⟨c3, i3, k3⟩ := u_known (T := TX3) (N := 6) hts inwsX30 (hts _ (am_mem1 lw_inst 3 rfl))
  obtain ⟨c4, i4, k4⟩ := u_known (T := TX4) (N := 5) hts inwsX40 (hts _ (am_mem1 lw_inst 4 rfl))
  obtain ⟨c5, i5, k5⟩ := u_known (T := TX5) (N := 3) hts inwsX50 (hts _ (am_mem1 lw_inst 5 rfl))
  obtain ⟨c6, i6, k6⟩ := u_known (T := TX6) (N := 2) hts inwsX60 (hts _ (am_mem1 lw_inst 6 rfl))
  obtain ⟨c7, i7, k7⟩ := u_known (T := TX7) (N := 2) hts inwsX70 (hts _ (am_mem1 lw_inst 7 rfl))
  obtain ⟨c8, i8, k8⟩ := u_known (T := TX8) (N := 2) hts inwsX80 (hts _ (am_mem1 lw_inst 8 rfl))
  obtain ⟨c9, i9, k9⟩ := u_known (T := TX9) (N := 13) hts inwsX90 (hts _ (am_mem1 lw_inst 9 rfl))
  obtain ⟨c10, i10, k10⟩ := u_known (T := TX10) (N := 18) hts inwsX100 (hts _ (am_mem1 lw_inst 10 rfl))
  obtain ⟨c11, i11, k11⟩ := u_known (T := TX11) (N := 50) hts inwsX110 (hts _ (am_mem1 lw_inst 11 rfl))
  obtain ⟨d0, e0, f0⟩ := lw_arrK (hts _ (am_mem1 lw_arrs 0 rfl))
  obtain ⟨d1, e1, f1⟩ := lw_arrK (hts _ (am_mem1 lw_arrs 1 rfl))
  obtain ⟨d2, e2, f2⟩ := lw_arrK (hts _ (am_mem1 lw_arrs 2 rfl))
  obtain ⟨d3, e3, f3⟩ := lw_arrR (hts _ (am_mem1 lw_over 0 rfl))
  refine ⟨(fun c => match c with | 0 => c0 | 1 => c1 | 2 => c2 | 3 => c3 | 4 => c4 | 5 => c5 | 6 => c6 | 7 => c7 | 8 => c8 | 9 => c9 | 10 => c10 | _ => c11, fun c => match c with | 0 => i0 | 1 => i1 | 2 => i2 | 3 => i3 | 4 => i4 | 5 => i5 | 6 => i6 | 7 => i7 | 8 => i8 | 9 => i9 | 10 => i10 | _ => i11), fun t => match t with | 0 => d0 | 1 => d1 | 2 => d2 | _ => d3, fun l B G => ⟨⟨⟨fun c q hq => ?_, fun k q hq => ?_⟩, fun w hw => ?_⟩, va_AO.of (hts _ (am_mem1 lw_over 0 rfl))⟩⟩
  · match c, hq with
    | 0, hq => cases hq; exact k0
    | 1, hq => cases hq; exact k1
    | 2, hq => cases hq; exact k2
    | 3, hq => cases hq; exact k3
    | 4, hq => cases hq; exact k4
    | 5, hq => cases hq; exact k5
    | 6, hq => cases hq; exact k6
    | 7, hq => cases hq; exact k7
    | 8, hq => cases hq; exact k8
    | 9, hq => cases hq; exact k9
    | 10, hq => cases hq; exact k10
    | 11, hq => cases hq; exact k11
    | n + 12, hq => simp at hq
  · match k, hq with
    | 0, hq => cases hq; exact ⟨e0, f0⟩
    | 1, hq => cases hq; exact ⟨e1, f1⟩
    | 2, hq => cases hq; exact ⟨e2, f2⟩
    | 3, hq => cases hq; exact ⟨e3, f3⟩
    | n + 4, hq => simp [am_tys] at hq
  · have h1 : w ∈ lw_tbl := lw_nest w hw
    have h2 := hts w h1
    simp only [am_nest, List.mem_cons, List.not_mem_nil, or_false] at hw
    rcases hw with rfl | rfl | rfl | rfl | rfl | rfl | rfl | rfl | rfl | rfl | rfl | rfl | rfl | rfl | rfl | rfl | rfl | rfl | rfl | rfl | rfl <;> exact va_Nw.of rfl h2
