/-! the law's loop -/
section
variable {l : Launch} {X : am_X} {b Ln : Nat} {xs : Nat → Int32} {Q : State → Prop} {Z Zm : am_Z} {R : am_R} {I : am_I} {L : am_L} {J : am_I} {K : am_L} {cells slots i : Nat}
abbrev lw_ls (b : Nat) (Z Zm : am_Z) (i : Nat) : List (Nat × Value) := [(0, .ref b), (1, .ref (am_B Z + 1)), (2, .ref (am_B Zm + 1)), (3, .int (nI i))]
theorem lw_max {c m : lw_Wd} (hGc : am_G c.1 1 = some (.inl 10)) (hGm : am_G m.1 1 = some (.inl 11)) (hcs : cells ≤ room_1.cells ∧ slots ≤ room_1.slots) {v : Int64} {r2 : Int64 × am_I × am_L} (h2 : pX11_maximumAmbiguity m.2.1 m.2.2.1 m.2.2.2 1 = some r2) (heq : v = r2.1) (k : lw_V l X b Ln xs Q 1272 [(0, .ref b), (1, .ref (am_B c.1 + 1)), (2, .ref (am_B m.1 + 1)), (3, .int (nI i))] [] c (m.1, m.2.1, r2.2.1, r2.2.2) cells slots) : lw_V l X b Ln xs Q 807 [(0, .ref b), (1, .ref (am_B c.1 + 1)), (2, .ref (am_B m.1 + 1)), (3, .int (nI i))] [.long v] c m cells slots := by
  refine lw_aload dL_law_807 rfl 2 rfl ?_
  refine lw_callM [] (tX11_maximumAmbiguity m.2.1 m.2.2.1 m.2.2.2 1 hGm) h2 hGm gL_law_X11_maximumAmbiguity hX11_maximumAmbiguity rfl ⟨Nat.le_of_ble_eq_true rfl, Nat.le_of_ble_eq_true rfl⟩ rfl rfl (Nat.le_of_ble_eq_true rfl) hcs dL_law_808 ?_
  show lw_V l X b Ln xs Q 811 [(0, .ref b), (1, .ref (am_B c.1 + 1)), (2, .ref (am_B m.1 + 1)), (3, .int (nI i))] [.long r2.1, .long v] c (m.1, m.2.1, r2.2.1, r2.2.2) cells slots
  refine lw_lcmp dL_law_811 ?_
  refine lw_eqT (tgt := 1272) dL_law_812 rfl (lg_cmp0.mpr heq) ?_
  exact k
theorem lw_max0 {c m : lw_Wd} (hGc : am_G c.1 1 = some (.inl 10)) (hGm : am_G m.1 1 = some (.inl 11)) (hcs : cells ≤ room_1.cells ∧ slots ≤ room_1.slots) {r1 : Int64 × am_I × am_L} {r2 : Int64 × am_I × am_L} (h1 : pX10_maximumAmbiguity c.2.1 c.2.2.1 c.2.2.2 1 = some r1) (h2 : pX11_maximumAmbiguity m.2.1 m.2.2.1 m.2.2.2 1 = some r2) (heq : r1.1 = r2.1) (k : lw_V l X b Ln xs Q 1272 [(0, .ref b), (1, .ref (am_B c.1 + 1)), (2, .ref (am_B m.1 + 1)), (3, .int (nI i))] [] (c.1, c.2.1, r1.2.1, r1.2.2) (m.1, m.2.1, r2.2.1, r2.2.2) cells slots) : lw_V l X b Ln xs Q 803 [(0, .ref b), (1, .ref (am_B c.1 + 1)), (2, .ref (am_B m.1 + 1)), (3, .int (nI i))] [] c m cells slots := by
  refine lw_aload dL_law_803 rfl 1 rfl ?_
  refine lw_callC [] (tX10_maximumAmbiguity c.2.1 c.2.2.1 c.2.2.2 1 hGc) h1 hGc gL_law_X10_maximumAmbiguity hX10_maximumAmbiguity rfl ⟨Nat.le_of_ble_eq_true rfl, Nat.le_of_ble_eq_true rfl⟩ rfl rfl (Nat.le_of_ble_eq_true rfl) hcs dL_law_804 ?_
  exact lw_max (c := (c.1, c.2.1, r1.2.1, r1.2.2)) hGc hGm hcs h2 heq k
theorem and63 (x : Int32) : ∃ h : Nat, h < 64 ∧ x &&& (63 : Int32) = nI h := by
  refine ⟨x.toBitVec.toNat % 64, Nat.mod_lt _ (by decide), ?_⟩
  apply Int32.toBitVec_inj.mp
  apply BitVec.eq_of_toNat_eq
  show (x.toBitVec &&& (63#32)).toNat = (BitVec.ofNat 32 (x.toBitVec.toNat % 64)).toNat
  rw [BitVec.toNat_and, BitVec.toNat_ofNat, BitVec.toNat_ofNat]
  show x.toBitVec.toNat &&& (2 ^ 6 - 1) = _
  rw [Nat.and_two_pow_sub_one_eq_mod]
  omega
theorem GC_none {a : Nat} (h : 49 ≤ a) : am_GC a = none := by
  match a, h with
  | 0, h => omega
  | k + 1, h => exact List.getElem?_eq_none (show 48 ≤ k by omega)
/-- the shapes behind: the first ones, or with rows -/
def lw_SP (G : am_S) (R : am_R) (cells slots : Nat) : Prop := (G = am_GC ∧ R 1 14 = 0 ∧ cells = 80 ∧ slots = 15533) ∨ (R 1 14 ≠ 0 ∧ cells ≤ 85 ∧ slots ≤ 22800)
theorem lw_SP.cs {G : am_S} {R : am_R} {cells slots : Nat} (h : lw_SP G R cells slots) : cells ≤ 85 ∧ slots ≤ 22800 := by
  rcases h with ⟨_, _, a, b⟩ | ⟨_, a, b⟩
  · omega
  · exact ⟨a, b⟩
theorem rm_le {cells slots : Nat} (h : cells ≤ 85 ∧ slots ≤ 22800) : cells ≤ room_1.cells ∧ slots ≤ room_1.slots := ⟨Nat.le_trans h.1 (Nat.le_of_ble_eq_true rfl), Nat.le_trans h.2 (Nat.le_of_ble_eq_true rfl)⟩
set_option maxRecDepth 100000 in
set_option maxHeartbeats 4000000 in
/-- one call of the script, then on -/
theorem lw_body (hi : i + 4 ≤ Ln) (hLn : Ln ≤ 2048) (hO : va_AO "AmbiguityAnalyzer$Shelf" X.2.2.2.1) (hGm : am_G Zm 1 = some (.inl 11)) (hGc : am_G Z 1 = some (.inl 10)) (h : Inv R I L J K) (hSP : lw_SP (am_G Z) R cells slots)
    (on : ∀ (Z' : am_Z) (R' : am_R) (I' : am_I) (L' : am_L) (J' : am_I) (K' : am_L) (cells' slots' : Nat), am_B Z' = am_B Z → am_G Z' 1 = some (.inl 10) → Inv R' I' L' J' K' → lw_SP (am_G Z') R' cells' slots' → lw_V l X b Ln xs Q 1272 (lw_ls b Z Zm i) [] (Z', R', I', L') (Zm, rM, J', K') cells' slots') :
    lw_V l X b Ln xs Q 26 (lw_ls b Z Zm i) [] (Z, R, I, L) (Zm, rM, J, K) cells slots := by
  have hcs := rm_le hSP.cs
  have nx : ∀ (R' : am_R) (I' : am_I) (L' : am_L) (J' : am_I) (K' : am_L), Inv R' I' L' J' K' → R' 1 14 = R 1 14 → lw_V l X b Ln xs Q 1272 [(0, .ref b), (1, .ref (am_B Z + 1)), (2, .ref (am_B Zm + 1)), (3, .int (nI i))] [] (Z, R', I', L') (Zm, rM, J', K') cells slots := fun R' I' L' J' K' hI hR => on Z R' I' L' J' K' cells slots rfl hGc hI (by unfold lw_SP at hSP ⊢; rw [hR]; exact hSP)
  have c25 : lw_V l X b Ln xs Q 803 [(0, .ref b), (1, .ref (am_B Z + 1)), (2, .ref (am_B Zm + 1)), (3, .int (nI i))] [] (Z, R, I, L) (Zm, rM, J, K) cells slots := by
    by_cases h14 : R 1 14 = 0
    · rcases hSP with ⟨hG, _, hc1, hs1⟩ | ⟨q, _⟩
      · refine lw_aload dL_law_803 rfl 1 rfl ?_
        intro ok H locs lsA hl hh hS hX
        have hPc : am_P Z R I L H := hh.2.2.2.1
        have h48 : am_G Z 48 = some (.inr (1, 31)) := by rw [hG]; rfl
        have hsz : am_B Z + 48 < H.size := by
          have : H[am_B Z + 48]? = _ := hPc 48 _ h48
          exact (Array.getElem?_eq_some_iff.mp this).1
        obtain ⟨n, hn⟩ : ∃ n, H.size = am_B Z + n := ⟨H.size - am_B Z, by omega⟩
        have hn49 : 49 ≤ n := by omega
        obtain ⟨I1, r2, rm, a1, a2, a3, a4⟩ := st25b h h14 hn49
        rcases a4 with ⟨b1, r3, b2, b3, b4⟩ | ⟨_, r1, b2, b3, b4⟩
        · refine lw_callX ok hO hl hh hS hX hn hGc h14 (fun a ha => by rw [hG]; exact GC_none (by omega)) a1 a2 b1 b2 (rm_le (by omega)) ?_
          refine lw_max (c := (am_Zx Z n, am_Rx R n, r3.2.1, r3.2.2)) (m := (Zm, rM, J, K)) ?_ hGm (rm_le (by omega)) a3 b3 ?_
          · show am_Gx (am_G Z) n 1 = _
            rw [am_Gx_lt (by omega)]; exact hGc
          · refine on (am_Zx Z n) (am_Rx R n) r3.2.1 r3.2.2 rm.2.1 rm.2.2 (cells + 5) (slots + 7267) rfl ?_ b4 (Or.inr ⟨?_, by omega, by omega⟩)
            · show am_Gx (am_G Z) n 1 = _
              rw [am_Gx_lt (by omega)]; exact hGc
            · have : am_Rx R n 1 14 = n := by simp [am_Rx, am_upR]
              rw [this]; omega
        · exact (lw_callC [] (tX10_maximumAmbiguity R I L 1 hGc) b2 hGc gL_law_X10_maximumAmbiguity hX10_maximumAmbiguity rfl ⟨Nat.le_of_ble_eq_true rfl, Nat.le_of_ble_eq_true rfl⟩ rfl rfl (Nat.le_of_ble_eq_true rfl) hcs dL_law_804 (lw_max (c := (Z, R, r1.2.1, r1.2.2)) (m := (Zm, rM, J, K)) hGc hGm hcs a3 b3 (nx _ _ _ _ _ b4 rfl))) ok H locs lsA hl hh hS hX
      · exact absurd h14 q
    · obtain ⟨r1, r2, h1, h2, heq, hI⟩ := st25a h h14
      exact lw_max0 (c := (Z, R, I, L)) (m := (Zm, rM, J, K)) hGc hGm hcs h1 h2 heq (nx _ _ _ _ _ hI rfl)
  refine lw_aload dL_law_26 rfl 0 rfl ?_
  refine lw_iload dL_law_27 rfl 3 rfl ?_
  refine lw_sld (show i < Ln by omega) (by omega) dL_law_28 ?_
  refine lw_bipush (v := 63) dL_law_29 (by decide) ?_
  refine lw_iand dL_law_31 ?_
  obtain ⟨n, hn, e⟩ := and63 (xs i)
  rw [e]
  by_cases h46 : 46 ≤ n
  · refine lw_tabOut (tgt := 1272) dL_law_32 (Or.inr ?_) (by decide) (nx _ _ _ _ _ h rfl)
    rw [nI_toInt (by omega)]
    omega
  have hcase : n = 0 ∨ n = 1 ∨ n = 2 ∨ n = 3 ∨ n = 4 ∨ n = 5 ∨ n = 6 ∨ n = 7 ∨ n = 8 ∨ n = 9 ∨ n = 10 ∨ n = 11 ∨ n = 12 ∨ n = 13 ∨ n = 14 ∨ n = 15 ∨ n = 16 ∨ n = 17 ∨ n = 18 ∨ n = 19 ∨ n = 20 ∨ n = 21 ∨ n = 22 ∨ n = 23 ∨ n = 24 ∨ n = 25 ∨ n = 26 ∨ n = 27 ∨ n = 28 ∨ n = 29 ∨ n = 30 ∨ n = 31 ∨ n = 32 ∨ n = 33 ∨ n = 34 ∨ n = 35 ∨ n = 36 ∨ n = 37 ∨ n = 38 ∨ n = 39 ∨ n = 40 ∨ n = 41 ∨ n = 42 ∨ n = 43 ∨ n = 44 ∨ n = 45 := by omega
  rcases hcase with rfl | rfl | rfl | rfl | rfl | rfl | rfl | rfl | rfl | rfl | rfl | rfl | rfl | rfl | rfl | rfl | rfl | rfl | rfl | rfl | rfl | rfl | rfl | rfl | rfl | rfl | rfl | rfl | rfl | rfl | rfl | rfl | rfl | rfl | rfl | rfl | rfl | rfl | rfl | rfl | rfl | rfl | rfl | rfl | rfl | rfl
  · refine lw_tabIn (tgt := 232) (off := 200) dL_law_32 (by decide) (by decide) (by decide) (by decide) ?_
    obtain ⟨r1, r2, h1, h2, heq, hI⟩ := st0 h (xs (i + 1))
    exact lw_case0 (c := (Z, R, I, L)) (m := (Zm, rM, J, K)) hi hLn hGc hGm hcs h1 h2 heq (nx _ _ _ _ _ hI rfl)
  · refine lw_tabIn (tgt := 255) (off := 223) dL_law_32 (by decide) (by decide) (by decide) (by decide) ?_
    obtain ⟨r1, r2, h1, h2, heq⟩ := st1 h
    exact lw_case1 (c := (Z, R, I, L)) (m := (Zm, rM, J, K)) hi hLn hGc hGm hcs h1 h2 heq (nx _ _ _ _ _ h rfl)
  · refine lw_tabIn (tgt := 268) (off := 236) dL_law_32 (by decide) (by decide) (by decide) (by decide) ?_
    obtain ⟨r1, r2, h1, h2, heq, hI⟩ := st2 h (xs (i + 1)) (xs (i + 2)) (xs (i + 3))
    exact lw_case2 (c := (Z, R, I, L)) (m := (Zm, rM, J, K)) hi hLn hGc hGm hcs h1 h2 heq (nx _ _ _ _ _ hI rfl)
  · refine lw_tabIn (tgt := 311) (off := 279) dL_law_32 (by decide) (by decide) (by decide) (by decide) ?_
    obtain ⟨r1, r2, h1, h2, heq, hI⟩ := st3 h (xs (i + 1)) (xs (i + 2)) (xs (i + 3))
    exact lw_case3 (c := (Z, R, I, L)) (m := (Zm, rM, J, K)) hi hLn hGc hGm hcs h1 h2 heq (nx _ _ _ _ _ hI rfl)
  · refine lw_tabIn (tgt := 354) (off := 322) dL_law_32 (by decide) (by decide) (by decide) (by decide) ?_
    obtain ⟨r1, r2, h1, h2, heq⟩ := st4 h
    exact lw_case4 (c := (Z, R, I, L)) (m := (Zm, rM, J, K)) hi hLn hGc hGm hcs h1 h2 heq (nx _ _ _ _ _ h rfl)
  · refine lw_tabIn (tgt := 367) (off := 335) dL_law_32 (by decide) (by decide) (by decide) (by decide) ?_
    by_cases hz : xs (i + 2) = 0
    · obtain ⟨r1, r2, h1, h2, heq, hI⟩ := st5 h (xs (i + 1)) 0
      exact lw_case5z (c := (Z, R, I, L)) (m := (Zm, rM, J, K)) hi hLn hGc hGm hcs hz h1 h2 heq (nx _ _ _ _ _ hI rfl)
    · obtain ⟨r1, r2, h1, h2, heq, hI⟩ := st5 h (xs (i + 1)) 1
      exact lw_case5n (c := (Z, R, I, L)) (m := (Zm, rM, J, K)) hi hLn hGc hGm hcs hz h1 h2 heq (nx _ _ _ _ _ hI rfl)
  · refine lw_tabIn (tgt := 416) (off := 384) dL_law_32 (by decide) (by decide) (by decide) (by decide) ?_
    by_cases hz : xs (i + 2) = 0
    · obtain ⟨r1, r2, h1, h2, heq, hI⟩ := st6 h (xs (i + 1)) 0
      exact lw_case6z (c := (Z, R, I, L)) (m := (Zm, rM, J, K)) hi hLn hGc hGm hcs hz h1 h2 heq (nx _ _ _ _ _ hI rfl)
    · obtain ⟨r1, r2, h1, h2, heq, hI⟩ := st6 h (xs (i + 1)) 1
      exact lw_case6n (c := (Z, R, I, L)) (m := (Zm, rM, J, K)) hi hLn hGc hGm hcs hz h1 h2 heq (nx _ _ _ _ _ hI rfl)
  · refine lw_tabIn (tgt := 465) (off := 433) dL_law_32 (by decide) (by decide) (by decide) (by decide) ?_
    obtain ⟨r1, r2, h1, h2, heq⟩ := st7 h
    exact lw_case7 (c := (Z, R, I, L)) (m := (Zm, rM, J, K)) hi hLn hGc hGm hcs h1 h2 heq (nx _ _ _ _ _ h rfl)
  · refine lw_tabIn (tgt := 478) (off := 446) dL_law_32 (by decide) (by decide) (by decide) (by decide) ?_
    obtain ⟨r1, r2, h1, h2, heq⟩ := st8 h
    exact lw_case8 (c := (Z, R, I, L)) (m := (Zm, rM, J, K)) hi hLn hGc hGm hcs h1 h2 heq (nx _ _ _ _ _ h rfl)
  · refine lw_tabIn (tgt := 491) (off := 459) dL_law_32 (by decide) (by decide) (by decide) (by decide) ?_
    obtain ⟨r1, r2, h1, h2, heq⟩ := st9 h (xs (i + 1)) (xs (i + 2))
    exact lw_case9 (c := (Z, R, I, L)) (m := (Zm, rM, J, K)) hi hLn hGc hGm hcs h1 h2 heq (nx _ _ _ _ _ h rfl)
  · refine lw_tabIn (tgt := 524) (off := 492) dL_law_32 (by decide) (by decide) (by decide) (by decide) ?_
    obtain ⟨r1, r2, h1, h2, heq⟩ := st10 h
    exact lw_case10 (c := (Z, R, I, L)) (m := (Zm, rM, J, K)) hi hLn hGc hGm hcs h1 h2 heq (nx _ _ _ _ _ h rfl)
  · refine lw_tabIn (tgt := 537) (off := 505) dL_law_32 (by decide) (by decide) (by decide) (by decide) ?_
    obtain ⟨r1, r2, h1, h2, heq, hI⟩ := st11 h
    exact lw_case11 (c := (Z, R, I, L)) (m := (Zm, rM, J, K)) hi hLn hGc hGm hcs h1 h2 heq (nx _ _ _ _ _ hI rfl)
  · refine lw_tabIn (tgt := 550) (off := 518) dL_law_32 (by decide) (by decide) (by decide) (by decide) ?_
    obtain ⟨r1, r2, h1, h2, heq, hI⟩ := st12 h (xs (i + 1)) (xs (i + 2))
    exact lw_case12 (c := (Z, R, I, L)) (m := (Zm, rM, J, K)) hi hLn hGc hGm hcs h1 h2 heq (nx _ _ _ _ _ hI rfl)
  · refine lw_tabIn (tgt := 583) (off := 551) dL_law_32 (by decide) (by decide) (by decide) (by decide) ?_
    obtain ⟨r1, r2, h1, h2, heq, hI⟩ := st13 h (xs (i + 1))
    exact lw_case13 (c := (Z, R, I, L)) (m := (Zm, rM, J, K)) hi hLn hGc hGm hcs h1 h2 heq (nx _ _ _ _ _ hI rfl)
  · refine lw_tabIn (tgt := 606) (off := 574) dL_law_32 (by decide) (by decide) (by decide) (by decide) ?_
    obtain ⟨r1, r2, h1, h2, heq, hI⟩ := st14 h
    exact lw_case14 (c := (Z, R, I, L)) (m := (Zm, rM, J, K)) hi hLn hGc hGm hcs h1 h2 heq (nx _ _ _ _ _ hI rfl)
  · refine lw_tabIn (tgt := 619) (off := 587) dL_law_32 (by decide) (by decide) (by decide) (by decide) ?_
    obtain ⟨r1, r2, h1, h2, heq, hI⟩ := st15 h (xs (i + 1))
    exact lw_case15 (c := (Z, R, I, L)) (m := (Zm, rM, J, K)) hi hLn hGc hGm hcs h1 h2 heq (nx _ _ _ _ _ hI rfl)
  · refine lw_tabIn (tgt := 642) (off := 610) dL_law_32 (by decide) (by decide) (by decide) (by decide) ?_
    obtain ⟨r1, r2, h1, h2, heq, hI⟩ := st16 h
    exact lw_case16 (c := (Z, R, I, L)) (m := (Zm, rM, J, K)) hi hLn hGc hGm hcs h1 h2 heq (nx _ _ _ _ _ hI rfl)
  · refine lw_tabIn (tgt := 655) (off := 623) dL_law_32 (by decide) (by decide) (by decide) (by decide) ?_
    obtain ⟨r1, r2, h1, h2, heq⟩ := st17 h
    exact lw_case17 (c := (Z, R, I, L)) (m := (Zm, rM, J, K)) hi hLn hGc hGm hcs h1 h2 heq (nx _ _ _ _ _ h rfl)
  · refine lw_tabIn (tgt := 668) (off := 636) dL_law_32 (by decide) (by decide) (by decide) (by decide) ?_
    obtain ⟨r1, r2, h1, h2, heq⟩ := st18 h (xs (i + 1))
    exact lw_case18 (c := (Z, R, I, L)) (m := (Zm, rM, J, K)) hi hLn hGc hGm hcs h1 h2 heq (nx _ _ _ _ _ h rfl)
  · refine lw_tabIn (tgt := 691) (off := 659) dL_law_32 (by decide) (by decide) (by decide) (by decide) ?_
    obtain ⟨r1, r2, h1, h2, heq, hI⟩ := st19 h
    exact lw_case19 (c := (Z, R, I, L)) (m := (Zm, rM, J, K)) hi hLn hGc hGm hcs h1 h2 heq (nx _ _ _ _ _ hI rfl)
  · refine lw_tabIn (tgt := 705) (off := 673) dL_law_32 (by decide) (by decide) (by decide) (by decide) ?_
    obtain ⟨r1, r2, h1, h2, heq, hI⟩ := st20 h (xs (i + 1))
    exact lw_case20 (c := (Z, R, I, L)) (m := (Zm, rM, J, K)) hi hLn hGc hGm hcs h1 h2 heq (nx _ _ _ _ _ hI rfl)
  · refine lw_tabIn (tgt := 729) (off := 697) dL_law_32 (by decide) (by decide) (by decide) (by decide) ?_
    obtain ⟨r1, r2, h1, h2, heq, hI⟩ := st21 h (xs (i + 1))
    exact lw_case21 (c := (Z, R, I, L)) (m := (Zm, rM, J, K)) hi hLn hGc hGm hcs h1 h2 heq (nx _ _ _ _ _ hI rfl)
  · refine lw_tabIn (tgt := 753) (off := 721) dL_law_32 (by decide) (by decide) (by decide) (by decide) ?_
    obtain ⟨r1, r2, h1, h2, heq, hI⟩ := st22 h (xs (i + 1))
    exact lw_case22 (c := (Z, R, I, L)) (m := (Zm, rM, J, K)) hi hLn hGc hGm hcs h1 h2 heq (nx _ _ _ _ _ hI rfl)
  · refine lw_tabIn (tgt := 777) (off := 745) dL_law_32 (by decide) (by decide) (by decide) (by decide) ?_
    obtain ⟨r1, r2, h1, h2, heq, hI⟩ := st23 h
    exact lw_case23 (c := (Z, R, I, L)) (m := (Zm, rM, J, K)) hi hLn hGc hGm hcs h1 h2 heq (nx _ _ _ _ _ hI rfl)
  · refine lw_tabIn (tgt := 790) (off := 758) dL_law_32 (by decide) (by decide) (by decide) (by decide) ?_
    obtain ⟨r1, r2, h1, h2, heq, hI⟩ := st24 h
    exact lw_case24 (c := (Z, R, I, L)) (m := (Zm, rM, J, K)) hi hLn hGc hGm hcs h1 h2 heq (nx _ _ _ _ _ hI rfl)
  · refine lw_tabIn (tgt := 803) (off := 771) dL_law_32 (by decide) (by decide) (by decide) (by decide) ?_
    exact c25
  · refine lw_tabIn (tgt := 817) (off := 785) dL_law_32 (by decide) (by decide) (by decide) (by decide) ?_
    obtain ⟨r1, r2, h1, h2, heq, hI⟩ := st26 h (xs (i + 1))
    exact lw_case26 (c := (Z, R, I, L)) (m := (Zm, rM, J, K)) hi hLn hGc hGm hcs h1 h2 heq (nx _ _ _ _ _ hI rfl)
  · refine lw_tabIn (tgt := 840) (off := 808) dL_law_32 (by decide) (by decide) (by decide) (by decide) ?_
    obtain ⟨r1, r2, h1, h2, heq, hI⟩ := st27 h (xs (i + 1)) (xs (i + 2))
    exact lw_case27 (c := (Z, R, I, L)) (m := (Zm, rM, J, K)) hi hLn hGc hGm hcs h1 h2 heq (nx _ _ _ _ _ hI rfl)
  · refine lw_tabIn (tgt := 873) (off := 841) dL_law_32 (by decide) (by decide) (by decide) (by decide) ?_
    obtain ⟨r1, r2, h1, h2, heq, hI⟩ := st28 h (xs (i + 1))
    exact lw_case28 (c := (Z, R, I, L)) (m := (Zm, rM, J, K)) hi hLn hGc hGm hcs h1 h2 heq (nx _ _ _ _ _ hI rfl)
  · refine lw_tabIn (tgt := 896) (off := 864) dL_law_32 (by decide) (by decide) (by decide) (by decide) ?_
    obtain ⟨r1, r2, h1, h2, heq, hI⟩ := st29 h (xs (i + 1))
    exact lw_case29 (c := (Z, R, I, L)) (m := (Zm, rM, J, K)) hi hLn hGc hGm hcs h1 h2 heq (nx _ _ _ _ _ hI rfl)
  · refine lw_tabIn (tgt := 919) (off := 887) dL_law_32 (by decide) (by decide) (by decide) (by decide) ?_
    obtain ⟨r1, r2, h1, h2, heq, hI⟩ := st30 h (xs (i + 1)) (xs (i + 2))
    exact lw_case30 (c := (Z, R, I, L)) (m := (Zm, rM, J, K)) hi hLn hGc hGm hcs h1 h2 heq (nx _ _ _ _ _ hI rfl)
  · refine lw_tabIn (tgt := 952) (off := 920) dL_law_32 (by decide) (by decide) (by decide) (by decide) ?_
    obtain ⟨r1, r2, h1, h2, heq, hI⟩ := st31 h (xs (i + 1))
    exact lw_case31 (c := (Z, R, I, L)) (m := (Zm, rM, J, K)) hi hLn hGc hGm hcs h1 h2 heq (nx _ _ _ _ _ hI rfl)
  · refine lw_tabIn (tgt := 975) (off := 943) dL_law_32 (by decide) (by decide) (by decide) (by decide) ?_
    obtain ⟨r1, r2, h1, h2, heq, hI⟩ := st32 h (xs (i + 1)) (xs (i + 2))
    exact lw_case32 (c := (Z, R, I, L)) (m := (Zm, rM, J, K)) hi hLn hGc hGm hcs h1 h2 heq (nx _ _ _ _ _ hI rfl)
  · refine lw_tabIn (tgt := 1008) (off := 976) dL_law_32 (by decide) (by decide) (by decide) (by decide) ?_
    obtain ⟨r1, r2, h1, h2, heq, hI⟩ := st33 h
    exact lw_case33 (c := (Z, R, I, L)) (m := (Zm, rM, J, K)) hi hLn hGc hGm hcs h1 h2 heq (nx _ _ _ _ _ hI rfl)
  · refine lw_tabIn (tgt := 1021) (off := 989) dL_law_32 (by decide) (by decide) (by decide) (by decide) ?_
    obtain ⟨r1, r2, h1, h2, heq, hI, hR⟩ := st34 h (xs (i + 1))
    exact lw_case34 (c := (Z, R, I, L)) (m := (Zm, rM, J, K)) hi hLn hGc hGm hcs h1 h2 heq (nx _ _ _ _ _ hI hR)
  · refine lw_tabIn (tgt := 1044) (off := 1012) dL_law_32 (by decide) (by decide) (by decide) (by decide) ?_
    obtain ⟨r1, r2, h1, h2, heq⟩ := st35 h
    exact lw_case35 (c := (Z, R, I, L)) (m := (Zm, rM, J, K)) hi hLn hGc hGm hcs h1 h2 heq (nx _ _ _ _ _ h rfl)
  · refine lw_tabIn (tgt := 1057) (off := 1025) dL_law_32 (by decide) (by decide) (by decide) (by decide) ?_
    obtain ⟨r1, r2, h1, h2, heq⟩ := st36 h
    exact lw_case36 (c := (Z, R, I, L)) (m := (Zm, rM, J, K)) hi hLn hGc hGm hcs h1 h2 heq (nx _ _ _ _ _ h rfl)
  · refine lw_tabIn (tgt := 1071) (off := 1039) dL_law_32 (by decide) (by decide) (by decide) (by decide) ?_
    obtain ⟨r1, r2, h1, h2, heq⟩ := st37 h
    exact lw_case37 (c := (Z, R, I, L)) (m := (Zm, rM, J, K)) hi hLn hGc hGm hcs h1 h2 heq (nx _ _ _ _ _ h rfl)
  · refine lw_tabIn (tgt := 1085) (off := 1053) dL_law_32 (by decide) (by decide) (by decide) (by decide) ?_
    obtain ⟨r1, r2, h1, h2, heq⟩ := st38 h (xs (i + 1)) (xs (i + 2))
    exact lw_case38 (c := (Z, R, I, L)) (m := (Zm, rM, J, K)) hi hLn hGc hGm hcs h1 h2 heq (nx _ _ _ _ _ h rfl)
  · refine lw_tabIn (tgt := 1119) (off := 1087) dL_law_32 (by decide) (by decide) (by decide) (by decide) ?_
    obtain ⟨r1, r2, h1, h2, heq, hI⟩ := st39 h
    exact lw_case39 (c := (Z, R, I, L)) (m := (Zm, rM, J, K)) hi hLn hGc hGm hcs h1 h2 heq (nx _ _ _ _ _ hI rfl)
  · refine lw_tabIn (tgt := 1133) (off := 1101) dL_law_32 (by decide) (by decide) (by decide) (by decide) ?_
    obtain ⟨r1, r2, h1, h2, heq, hI⟩ := st40 h (xs (i + 1))
    exact lw_case40 (c := (Z, R, I, L)) (m := (Zm, rM, J, K)) hi hLn hGc hGm hcs h1 h2 heq (nx _ _ _ _ _ hI rfl)
  · refine lw_tabIn (tgt := 1156) (off := 1124) dL_law_32 (by decide) (by decide) (by decide) (by decide) ?_
    obtain ⟨r1, r2, h1, h2, heq, hI⟩ := st41 h (xs (i + 1)) (xs (i + 2))
    exact lw_case41 (c := (Z, R, I, L)) (m := (Zm, rM, J, K)) hi hLn hGc hGm hcs h1 h2 heq (nx _ _ _ _ _ hI rfl)
  · refine lw_tabIn (tgt := 1189) (off := 1157) dL_law_32 (by decide) (by decide) (by decide) (by decide) ?_
    obtain ⟨r1, r2, h1, h2, heq, hI⟩ := st42 h (xs (i + 1))
    exact lw_case42 (c := (Z, R, I, L)) (m := (Zm, rM, J, K)) hi hLn hGc hGm hcs h1 h2 heq (nx _ _ _ _ _ hI rfl)
  · refine lw_tabIn (tgt := 1212) (off := 1180) dL_law_32 (by decide) (by decide) (by decide) (by decide) ?_
    obtain ⟨r1, r2, h1, h2, heq⟩ := st43 h (xs (i + 1)) (xs (i + 2))
    exact lw_case43 (c := (Z, R, I, L)) (m := (Zm, rM, J, K)) hi hLn hGc hGm hcs h1 h2 heq (nx _ _ _ _ _ h rfl)
  · refine lw_tabIn (tgt := 1246) (off := 1214) dL_law_32 (by decide) (by decide) (by decide) (by decide) ?_
    obtain ⟨r1, r2, h1, h2, heq, hI⟩ := st44 h
    exact lw_case44 (c := (Z, R, I, L)) (m := (Zm, rM, J, K)) hi hLn hGc hGm hcs h1 h2 heq (nx _ _ _ _ _ hI rfl)
  · refine lw_tabIn (tgt := 1259) (off := 1227) dL_law_32 (by decide) (by decide) (by decide) (by decide) ?_
    obtain ⟨r1, r2, h1, h2, heq, hI⟩ := st45 h
    exact lw_case45 (c := (Z, R, I, L)) (m := (Zm, rM, J, K)) hi hLn hGc hGm hcs h1 h2 heq (nx _ _ _ _ _ hI rfl)
set_option maxRecDepth 100000 in
set_option maxHeartbeats 4000000 in
theorem lw_loop (hLn : Ln ≤ 2048) (hO : va_AO "AmbiguityAnalyzer$Shelf" X.2.2.2.1) (hGm : am_G Zm 1 = some (.inl 11)) {B : Nat}
    (ex : ∀ (ls : List (Nat × Value)) (c m : lw_Wd) (cells slots : Nat), cells ≤ 85 ∧ slots ≤ 22800 → lw_V l X b Ln xs Q 1278 ls [] c m cells slots) :
    ∀ (f i : Nat) (Z : am_Z) (R : am_R) (I : am_I) (L : am_L) (J : am_I) (K : am_L) (cells slots : Nat), Ln < i + 4 * f → i < 4096 → am_B Z = B → am_G Z 1 = some (.inl 10) → Inv R I L J K → lw_SP (am_G Z) R cells slots →
      lw_V l X b Ln xs Q 18 (lw_ls b Z Zm i) [] (Z, R, I, L) (Zm, rM, J, K) cells slots := by
  intro f
  induction f with
  | zero =>
    intro i Z R I L J K cells slots hf hi hB hG h hSP
    refine lw_iload dL_law_18 rfl 3 rfl ?_
    refine lw_aload dL_law_19 rfl 0 rfl ?_
    refine lw_slen (v := nI Ln) rfl dL_law_20 ?_
    refine lw_iconst (v := 4) dL_law_21 (by decide) ?_
    refine lw_isub (v := nI Ln - nI 4) dL_law_22 rfl ?_
    refine lw_igtT (tgt := 1278) dL_law_23 (by decide) ?_ (ex _ _ _ _ _ hSP.cs)
    rw [Int32.lt_iff_toInt_lt, pk_sub_toInt (by omega) (by omega), nI_toInt (by omega)]
    omega
  | succ f ih =>
    intro i Z R I L J K cells slots hf hi hB hG h hSP
    refine lw_iload dL_law_18 rfl 3 rfl ?_
    refine lw_aload dL_law_19 rfl 0 rfl ?_
    refine lw_slen (v := nI Ln) rfl dL_law_20 ?_
    refine lw_iconst (v := 4) dL_law_21 (by decide) ?_
    refine lw_isub (v := nI Ln - nI 4) dL_law_22 rfl ?_
    by_cases hi4 : i + 4 ≤ Ln
    · refine lw_igtF (tgt := 1278) dL_law_23 (by decide) ?_ ?_
      · rw [Int32.lt_iff_toInt_lt, pk_sub_toInt (by omega) (by omega), nI_toInt (by omega)]
        omega
      · refine lw_body hi4 hLn hO hGm hG h hSP (fun Z' R' I' L' J' K' cells' slots' e1 e2 e3 e4 => ?_)
        have el : lw_ls b Z' Zm (i + 4) = [(0, .ref b), (1, .ref (am_B Z + 1)), (2, .ref (am_B Zm + 1)), (3, .int (nI (i + 4)))] := by
          show [(0, Value.ref b), (1, Value.ref (am_B Z' + 1)), _, _] = _
          rw [e1]
        have := ih (i + 4) Z' R' I' L' J' K' cells' slots' (by omega) (by omega) (e1.trans hB) e2 e3 e4
        rw [el] at this
        refine lw_iinc (i := 3) (j := 3) (v := nI (i + 4)) (ls' := [(3, .int (nI (i + 4))), (0, .ref b), (1, .ref (am_B Z + 1)), (2, .ref (am_B Zm + 1))]) dL_law_1272 rfl (nI_add i 4) (by omega) rfl ?_
        refine lw_sub (ls' := [(0, .ref b), (1, .ref (am_B Z + 1)), (2, .ref (am_B Zm + 1)), (3, .int (nI (i + 4)))]) [1, 2, 3, 0] rfl ?_
        exact lw_goto (tgt := 18) dL_law_1275 (by decide) this
    · refine lw_igtT (tgt := 1278) dL_law_23 (by decide) ?_ (ex _ _ _ _ _ hSP.cs)
      rw [Int32.lt_iff_toInt_lt, pk_sub_toInt (by omega) (by omega), nI_toInt (by omega)]
      omega
end
