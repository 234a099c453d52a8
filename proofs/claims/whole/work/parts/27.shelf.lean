/-! shelfAt: a shelf, or null -/
section
variable {α : Type} {Z : am_Z} {X : am_X} {K : am_K} {g : α → am_O} {pc : Nat} {ls : List (Nat × Value)} {st : List Value} {R : am_R} {I : am_I} {L : am_L} {f : Option α}
theorem am_aald2 {a n : Nat} {i : Int32} (hG : am_G Z a = some (.inr (3, n))) (d : decode K.1 pc = .ok (.aaload, 1)) (kk : R a i.toNatClampNeg ≠ 0 → am_V Z X K g (pc + 1) ls (.ref (am_B Z + R a i.toNatClampNeg) :: st) R I L f) : am_V Z X K g pc ls (.int i :: .ref (am_B Z + a) :: st) R I L (am_ck (am_inb i n) f) := am_ckV fun hb ok hT r hf H locs lsA hl hP hS => by
  obtain ⟨h1, h2⟩ := hT.2.1 a n i.toNatClampNeg hG (am_lt_of hb)
  exact W.aald (v := .ref (am_B Z + R a i.toNatClampNeg)) ok.1 ok.2.1 (hP a _ hG) (am_arr (t := 3) rfl ok.2.2.2.2.2.1 _) rfl (fun q => by cases q) (by rw [arrV_size]; exact am_inb_vp hb) (by rw [arrV_read _ _ (am_lt_of hb)]; exact congrArg some (am_rv_pos h1)) rfl rfl d (kk h1 ok hT r hf H locs lsA hl hP hS)
end
def pX10_shelfAt (R : am_R) (a0 : Nat) (x1 : Int32) : Option Nat :=
  if x1 < 0 then some 0 else if (4 : Int32) ≤ x1 then some 0 else am_ck (am_inb x1 4) (some (R (R a0 8) (Int32.toNatClampNeg x1)))
abbrev kX10_shelfAt : am_K := (cX10_shelfAt, 2, RX10, wsX10_shelfAt, some (.object "AmbiguityAnalyzer$Shelf"), { frames := 0, cells := 0, slots := 0, locals := 0 })
theorem hX10_shelfAt : am_cl yX10_shelfAt kX10_shelfAt 1 := ⟨⟨_, rfl⟩, rfl, rfl, by decide +kernel, by decide +kernel, by decide +kernel⟩
theorem iX10_shelfAt_10 : ∀ w ∈ u_ws RX10 TX10 18, w ∈ wsX10_shelfAt := by decide +kernel
theorem fX10_shelfAt_45 : Cond.fieldLink RX10 45 "AmbiguityAnalyzer" "shelves" "[LAmbiguityAnalyzer$Shelf;" ∈ wsX10_shelfAt := by decide +kernel
set_option maxRecDepth 100000 in
set_option maxHeartbeats 4000000 in
theorem tX10_shelfAt {Z : am_Z} (R : am_R) (I : am_I) (L : am_L) (a0 : Nat) (x1 : Int32) (h_a0 : am_G Z a0 = some (.inl 10)) : am_M Z yX10_shelfAt kX10_shelfAt [.ref (am_B Z + a0), .int x1] R I L (pX10_shelfAt R a0 x1) (fun r => (some (am_rv (am_B Z) r), R, I, L)) := by
  refine am_entry (ls := [(0, .ref (am_B Z + a0)), (1, .int x1)]) (by decide) hX10_shelfAt rfl (Nat.le_of_ble_eq_true rfl) rfl (fun X => ?_)
  unfold pX10_shelfAt
  refine am_iload_n dX10_shelfAt_0 rfl 1 rfl ?_
  refine am_if_lt (tgt := 18) dX10_shelfAt_1 rfl (fun e1 => ?_) (fun e1 => ?_)
  · refine am_aconst_null dX10_shelfAt_18 ?_
    exact am_aret (Or.inl ⟨_, rfl⟩) (Or.inl rfl) dX10_shelfAt_19 rfl rfl
  · refine am_iload_n dX10_shelfAt_4 rfl 1 rfl ?_
    refine am_iconst (v := 4) dX10_shelfAt_5 (by decide) ?_
    refine am_icmp_ge (tgt := 18) dX10_shelfAt_6 rfl (fun e2 => ?_) (fun e2 => ?_)
    · refine am_aconst_null dX10_shelfAt_18 ?_
      exact am_aret (Or.inl ⟨_, rfl⟩) (Or.inl rfl) dX10_shelfAt_19 rfl rfl
    · refine am_aload_n dX10_shelfAt_9 rfl 0 rfl ?_
      refine am_getR 10 8 clX10 (Nat.le_of_ble_eq_true rfl) h_a0 iX10_shelfAt_10 fX10_shelfAt_45 rfl rfl dX10_shelfAt_10 (fun h3 => ?_)
      refine am_iload_n dX10_shelfAt_13 rfl 1 rfl ?_
      refine am_aald2 h3 dX10_shelfAt_14 (fun h4 => ?_)
      refine am_goto (tgt := 19) dX10_shelfAt_15 rfl ?_
      exact am_aret (Or.inl ⟨_, rfl⟩) (Or.inr ⟨_, rfl⟩) dX10_shelfAt_19 rfl (by rw [am_rv_pos h4])
theorem am_shelfAt {G : am_S} {R : am_R} {a0 r : Nat} {x1 : Int32} (hT : am_T G R) (hG : G a0 = some (.inl 10)) (h : pX10_shelfAt R a0 x1 = some r) : ¬ r = 0 → G r = some (.inl 5) := by
  intro h0
  unfold pX10_shelfAt at h
  split at h
  · cases h; exact absurd rfl h0
  · split at h
    · cases h; exact absurd rfl h0
    · unfold am_ck at h
      split at h
      · rename_i hb
        cases h
        exact (hT.2.1 _ 4 _ (hT.1 a0 10 8 _ hG rfl).2 (am_lt_of hb)).2
      · cases h
