set_option maxRecDepth 100000 in
set_option maxHeartbeats 4000000 in
theorem lw_case21 {l : Launch} {X : am_X} {b Ln : Nat} {xs : Nat → Int32} {Q : State → Prop} {c m : lw_Wd} {cells slots i : Nat} (hi : i + 4 ≤ Ln) (hLn : Ln ≤ 2048) (hGc : am_G c.1 1 = some (.inl 10)) (hGm : am_G m.1 1 = some (.inl 11)) (hcs : cells ≤ room_1.cells ∧ slots ≤ room_1.slots) {r1 : Int64 × am_I × am_L} {r2 : Int64 × am_L} (h1 : pX10_wordsOfLength c.2.1 c.2.2.1 c.2.2.2 1 (xs (i + 1)) = some r1) (h2 : pX11_wordsOfLength m.2.1 m.2.2.1 m.2.2.2 1 (xs (i + 1)) = some r2) (heq : r1.1 = r2.1) (k : lw_V l X b Ln xs Q 1272 [(0, .ref b), (1, .ref (am_B c.1 + 1)), (2, .ref (am_B m.1 + 1)), (3, .int (nI i))] [] (c.1, c.2.1, r1.2.1, r1.2.2) (m.1, m.2.1, m.2.2.1, r2.2) cells slots) : lw_V l X b Ln xs Q 729 [(0, .ref b), (1, .ref (am_B c.1 + 1)), (2, .ref (am_B m.1 + 1)), (3, .int (nI i))] [] c m cells slots := by
  refine lw_aload dL_law_729 rfl 1 rfl ?_
  refine lw_aload dL_law_730 rfl 0 rfl ?_
  refine lw_iload dL_law_731 rfl 3 rfl ?_
  refine lw_iconst (v := 1) dL_law_732 (by decide) ?_
  refine lw_iadd (v := nI (i + 1)) dL_law_733 (nI_add i 1) ?_
  refine lw_sld (i := i + 1) (by omega) (by omega) dL_law_734 ?_
  refine lw_callC [.int (xs (i + 1))] (tX10_wordsOfLength c.2.1 c.2.2.1 c.2.2.2 1 (xs (i + 1)) hGc) h1 hGc gL_law_X10_wordsOfLength hX10_wordsOfLength rfl ⟨Nat.le_of_ble_eq_true rfl, Nat.le_of_ble_eq_true rfl⟩ rfl rfl (Nat.le_of_ble_eq_true rfl) hcs dL_law_735 ?_
  show lw_V l X b Ln xs Q 738 [(0, .ref b), (1, .ref (am_B c.1 + 1)), (2, .ref (am_B m.1 + 1)), (3, .int (nI i))] [.long r1.1] (c.1, c.2.1, r1.2.1, r1.2.2) m cells slots
  refine lw_aload dL_law_738 rfl 2 rfl ?_
  refine lw_aload dL_law_739 rfl 0 rfl ?_
  refine lw_iload dL_law_740 rfl 3 rfl ?_
  refine lw_iconst (v := 1) dL_law_741 (by decide) ?_
  refine lw_iadd (v := nI (i + 1)) dL_law_742 (nI_add i 1) ?_
  refine lw_sld (i := i + 1) (by omega) (by omega) dL_law_743 ?_
  refine lw_callM [.int (xs (i + 1))] (tX11_wordsOfLength m.2.1 m.2.2.1 m.2.2.2 1 (xs (i + 1)) hGm) h2 hGm gL_law_X11_wordsOfLength hX11_wordsOfLength rfl ⟨Nat.le_of_ble_eq_true rfl, Nat.le_of_ble_eq_true rfl⟩ rfl rfl (Nat.le_of_ble_eq_true rfl) hcs dL_law_744 ?_
  show lw_V l X b Ln xs Q 747 [(0, .ref b), (1, .ref (am_B c.1 + 1)), (2, .ref (am_B m.1 + 1)), (3, .int (nI i))] [.long r2.1, .long r1.1] (c.1, c.2.1, r1.2.1, r1.2.2) (m.1, m.2.1, m.2.2.1, r2.2) cells slots
  refine lw_lcmp dL_law_747 ?_
  refine lw_eqT (tgt := 1272) dL_law_748 rfl (lg_cmp0.mpr heq) ?_
  exact k
set_option maxRecDepth 100000 in
set_option maxHeartbeats 4000000 in
theorem lw_case22 {l : Launch} {X : am_X} {b Ln : Nat} {xs : Nat → Int32} {Q : State → Prop} {c m : lw_Wd} {cells slots i : Nat} (hi : i + 4 ≤ Ln) (hLn : Ln ≤ 2048) (hGc : am_G c.1 1 = some (.inl 10)) (hGm : am_G m.1 1 = some (.inl 11)) (hcs : cells ≤ room_1.cells ∧ slots ≤ room_1.slots) {r1 : Int64 × am_I × am_L} {r2 : Int64 × am_L} (h1 : pX10_averageBits c.2.1 c.2.2.1 c.2.2.2 1 (xs (i + 1)) = some r1) (h2 : pX11_averageBits m.2.1 m.2.2.1 m.2.2.2 1 (xs (i + 1)) = some r2) (heq : r1.1 = r2.1) (k : lw_V l X b Ln xs Q 1272 [(0, .ref b), (1, .ref (am_B c.1 + 1)), (2, .ref (am_B m.1 + 1)), (3, .int (nI i))] [] (c.1, c.2.1, r1.2.1, r1.2.2) (m.1, m.2.1, m.2.2.1, r2.2) cells slots) : lw_V l X b Ln xs Q 753 [(0, .ref b), (1, .ref (am_B c.1 + 1)), (2, .ref (am_B m.1 + 1)), (3, .int (nI i))] [] c m cells slots := by
  refine lw_aload dL_law_753 rfl 1 rfl ?_
  refine lw_aload dL_law_754 rfl 0 rfl ?_
  refine lw_iload dL_law_755 rfl 3 rfl ?_
  refine lw_iconst (v := 1) dL_law_756 (by decide) ?_
  refine lw_iadd (v := nI (i + 1)) dL_law_757 (nI_add i 1) ?_
  refine lw_sld (i := i + 1) (by omega) (by omega) dL_law_758 ?_
  refine lw_callC [.int (xs (i + 1))] (tX10_averageBits c.2.1 c.2.2.1 c.2.2.2 1 (xs (i + 1)) hGc) h1 hGc gL_law_X10_averageBits hX10_averageBits rfl ⟨Nat.le_of_ble_eq_true rfl, Nat.le_of_ble_eq_true rfl⟩ rfl rfl (Nat.le_of_ble_eq_true rfl) hcs dL_law_759 ?_
  show lw_V l X b Ln xs Q 762 [(0, .ref b), (1, .ref (am_B c.1 + 1)), (2, .ref (am_B m.1 + 1)), (3, .int (nI i))] [.long r1.1] (c.1, c.2.1, r1.2.1, r1.2.2) m cells slots
  refine lw_aload dL_law_762 rfl 2 rfl ?_
  refine lw_aload dL_law_763 rfl 0 rfl ?_
  refine lw_iload dL_law_764 rfl 3 rfl ?_
  refine lw_iconst (v := 1) dL_law_765 (by decide) ?_
  refine lw_iadd (v := nI (i + 1)) dL_law_766 (nI_add i 1) ?_
  refine lw_sld (i := i + 1) (by omega) (by omega) dL_law_767 ?_
  refine lw_callM [.int (xs (i + 1))] (tX11_averageBits m.2.1 m.2.2.1 m.2.2.2 1 (xs (i + 1)) hGm) h2 hGm gL_law_X11_averageBits hX11_averageBits rfl ⟨Nat.le_of_ble_eq_true rfl, Nat.le_of_ble_eq_true rfl⟩ rfl rfl (Nat.le_of_ble_eq_true rfl) hcs dL_law_768 ?_
  show lw_V l X b Ln xs Q 771 [(0, .ref b), (1, .ref (am_B c.1 + 1)), (2, .ref (am_B m.1 + 1)), (3, .int (nI i))] [.long r2.1, .long r1.1] (c.1, c.2.1, r1.2.1, r1.2.2) (m.1, m.2.1, m.2.2.1, r2.2) cells slots
  refine lw_lcmp dL_law_771 ?_
  refine lw_eqT (tgt := 1272) dL_law_772 rfl (lg_cmp0.mpr heq) ?_
  exact k
set_option maxRecDepth 100000 in
set_option maxHeartbeats 4000000 in
theorem lw_case23 {l : Launch} {X : am_X} {b Ln : Nat} {xs : Nat → Int32} {Q : State → Prop} {c m : lw_Wd} {cells slots i : Nat} (hi : i + 4 ≤ Ln) (hLn : Ln ≤ 2048) (hGc : am_G c.1 1 = some (.inl 10)) (hGm : am_G m.1 1 = some (.inl 11)) (hcs : cells ≤ room_1.cells ∧ slots ≤ room_1.slots) {r1 : Int32 × am_I × am_L} {r2 : Int32 × am_I} (h1 : pX10_kind c.2.1 c.2.2.1 c.2.2.2 1 = some r1) (h2 : pX11_kind m.2.1 m.2.2.1 1 = some r2) (heq : r1.1 = r2.1) (k : lw_V l X b Ln xs Q 1272 [(0, .ref b), (1, .ref (am_B c.1 + 1)), (2, .ref (am_B m.1 + 1)), (3, .int (nI i))] [] (c.1, c.2.1, r1.2.1, r1.2.2) (m.1, m.2.1, r2.2, m.2.2.2) cells slots) : lw_V l X b Ln xs Q 777 [(0, .ref b), (1, .ref (am_B c.1 + 1)), (2, .ref (am_B m.1 + 1)), (3, .int (nI i))] [] c m cells slots := by
  refine lw_aload dL_law_777 rfl 1 rfl ?_
  refine lw_callC [] (tX10_kind c.2.1 c.2.2.1 c.2.2.2 1  hGc) h1 hGc gL_law_X10_kind hX10_kind rfl ⟨Nat.le_of_ble_eq_true rfl, Nat.le_of_ble_eq_true rfl⟩ rfl rfl (Nat.le_of_ble_eq_true rfl) hcs dL_law_778 ?_
  show lw_V l X b Ln xs Q 781 [(0, .ref b), (1, .ref (am_B c.1 + 1)), (2, .ref (am_B m.1 + 1)), (3, .int (nI i))] [.int r1.1] (c.1, c.2.1, r1.2.1, r1.2.2) m cells slots
  refine lw_aload dL_law_781 rfl 2 rfl ?_
  refine lw_callM [] (tX11_kind m.2.1 m.2.2.1 m.2.2.2 1  hGm) h2 hGm gL_law_X11_kind hX11_kind rfl ⟨Nat.le_of_ble_eq_true rfl, Nat.le_of_ble_eq_true rfl⟩ rfl rfl (Nat.le_of_ble_eq_true rfl) hcs dL_law_782 ?_
  show lw_V l X b Ln xs Q 785 [(0, .ref b), (1, .ref (am_B c.1 + 1)), (2, .ref (am_B m.1 + 1)), (3, .int (nI i))] [.int r2.1, .int r1.1] (c.1, c.2.1, r1.2.1, r1.2.2) (m.1, m.2.1, r2.2, m.2.2.2) cells slots
  refine lw_ieqT (tgt := 1272) dL_law_785 rfl heq ?_
  exact k
set_option maxRecDepth 100000 in
set_option maxHeartbeats 4000000 in
theorem lw_case24 {l : Launch} {X : am_X} {b Ln : Nat} {xs : Nat → Int32} {Q : State → Prop} {c m : lw_Wd} {cells slots i : Nat} (hi : i + 4 ≤ Ln) (hLn : Ln ≤ 2048) (hGc : am_G c.1 1 = some (.inl 10)) (hGm : am_G m.1 1 = some (.inl 11)) (hcs : cells ≤ room_1.cells ∧ slots ≤ room_1.slots) {r1 : Int32 × am_I × am_L} {r2 : Int32 × am_I} (h1 : pX10_degree c.2.1 c.2.2.1 c.2.2.2 1 = some r1) (h2 : pX11_degree m.2.1 m.2.2.1 1 = some r2) (heq : r1.1 = r2.1) (k : lw_V l X b Ln xs Q 1272 [(0, .ref b), (1, .ref (am_B c.1 + 1)), (2, .ref (am_B m.1 + 1)), (3, .int (nI i))] [] (c.1, c.2.1, r1.2.1, r1.2.2) (m.1, m.2.1, r2.2, m.2.2.2) cells slots) : lw_V l X b Ln xs Q 790 [(0, .ref b), (1, .ref (am_B c.1 + 1)), (2, .ref (am_B m.1 + 1)), (3, .int (nI i))] [] c m cells slots := by
  refine lw_aload dL_law_790 rfl 1 rfl ?_
  refine lw_callC [] (tX10_degree c.2.1 c.2.2.1 c.2.2.2 1  hGc) h1 hGc gL_law_X10_degree hX10_degree rfl ⟨Nat.le_of_ble_eq_true rfl, Nat.le_of_ble_eq_true rfl⟩ rfl rfl (Nat.le_of_ble_eq_true rfl) hcs dL_law_791 ?_
  show lw_V l X b Ln xs Q 794 [(0, .ref b), (1, .ref (am_B c.1 + 1)), (2, .ref (am_B m.1 + 1)), (3, .int (nI i))] [.int r1.1] (c.1, c.2.1, r1.2.1, r1.2.2) m cells slots
  refine lw_aload dL_law_794 rfl 2 rfl ?_
  refine lw_callM [] (tX11_degree m.2.1 m.2.2.1 m.2.2.2 1  hGm) h2 hGm gL_law_X11_degree hX11_degree rfl ⟨Nat.le_of_ble_eq_true rfl, Nat.le_of_ble_eq_true rfl⟩ rfl rfl (Nat.le_of_ble_eq_true rfl) hcs dL_law_795 ?_
  show lw_V l X b Ln xs Q 798 [(0, .ref b), (1, .ref (am_B c.1 + 1)), (2, .ref (am_B m.1 + 1)), (3, .int (nI i))] [.int r2.1, .int r1.1] (c.1, c.2.1, r1.2.1, r1.2.2) (m.1, m.2.1, r2.2, m.2.2.2) cells slots
  refine lw_ieqT (tgt := 1272) dL_law_798 rfl heq ?_
  exact k
set_option maxRecDepth 100000 in
set_option maxHeartbeats 4000000 in
theorem lw_case26 {l : Launch} {X : am_X} {b Ln : Nat} {xs : Nat → Int32} {Q : State → Prop} {c m : lw_Wd} {cells slots i : Nat} (hi : i + 4 ≤ Ln) (hLn : Ln ≤ 2048) (hGc : am_G c.1 1 = some (.inl 10)) (hGm : am_G m.1 1 = some (.inl 11)) (hcs : cells ≤ room_1.cells ∧ slots ≤ room_1.slots) {r1 : Int32 × am_I × am_L} {r2 : Int32 × am_I} (h1 : pX10_isLoopState c.2.1 c.2.2.1 c.2.2.2 1 (xs (i + 1)) = some r1) (h2 : pX11_isLoopState m.2.1 m.2.2.1 1 (xs (i + 1)) = some r2) (heq : r1.1 = r2.1) (k : lw_V l X b Ln xs Q 1272 [(0, .ref b), (1, .ref (am_B c.1 + 1)), (2, .ref (am_B m.1 + 1)), (3, .int (nI i))] [] (c.1, c.2.1, r1.2.1, r1.2.2) (m.1, m.2.1, r2.2, m.2.2.2) cells slots) : lw_V l X b Ln xs Q 817 [(0, .ref b), (1, .ref (am_B c.1 + 1)), (2, .ref (am_B m.1 + 1)), (3, .int (nI i))] [] c m cells slots := by
  refine lw_aload dL_law_817 rfl 1 rfl ?_
  refine lw_aload dL_law_818 rfl 0 rfl ?_
  refine lw_iload dL_law_819 rfl 3 rfl ?_
  refine lw_iconst (v := 1) dL_law_820 (by decide) ?_
  refine lw_iadd (v := nI (i + 1)) dL_law_821 (nI_add i 1) ?_
  refine lw_sld (i := i + 1) (by omega) (by omega) dL_law_822 ?_
  refine lw_callC [.int (xs (i + 1))] (tX10_isLoopState c.2.1 c.2.2.1 c.2.2.2 1 (xs (i + 1)) hGc) h1 hGc gL_law_X10_isLoopState hX10_isLoopState rfl ⟨Nat.le_of_ble_eq_true rfl, Nat.le_of_ble_eq_true rfl⟩ rfl rfl (Nat.le_of_ble_eq_true rfl) hcs dL_law_823 ?_
  show lw_V l X b Ln xs Q 826 [(0, .ref b), (1, .ref (am_B c.1 + 1)), (2, .ref (am_B m.1 + 1)), (3, .int (nI i))] [.int r1.1] (c.1, c.2.1, r1.2.1, r1.2.2) m cells slots
  refine lw_aload dL_law_826 rfl 2 rfl ?_
  refine lw_aload dL_law_827 rfl 0 rfl ?_
  refine lw_iload dL_law_828 rfl 3 rfl ?_
  refine lw_iconst (v := 1) dL_law_829 (by decide) ?_
  refine lw_iadd (v := nI (i + 1)) dL_law_830 (nI_add i 1) ?_
  refine lw_sld (i := i + 1) (by omega) (by omega) dL_law_831 ?_
  refine lw_callM [.int (xs (i + 1))] (tX11_isLoopState m.2.1 m.2.2.1 m.2.2.2 1 (xs (i + 1)) hGm) h2 hGm gL_law_X11_isLoopState hX11_isLoopState rfl ⟨Nat.le_of_ble_eq_true rfl, Nat.le_of_ble_eq_true rfl⟩ rfl rfl (Nat.le_of_ble_eq_true rfl) hcs dL_law_832 ?_
  show lw_V l X b Ln xs Q 835 [(0, .ref b), (1, .ref (am_B c.1 + 1)), (2, .ref (am_B m.1 + 1)), (3, .int (nI i))] [.int r2.1, .int r1.1] (c.1, c.2.1, r1.2.1, r1.2.2) (m.1, m.2.1, r2.2, m.2.2.2) cells slots
  refine lw_ieqT (tgt := 1272) dL_law_835 rfl heq ?_
  exact k
set_option maxRecDepth 100000 in
set_option maxHeartbeats 4000000 in
theorem lw_case27 {l : Launch} {X : am_X} {b Ln : Nat} {xs : Nat → Int32} {Q : State → Prop} {c m : lw_Wd} {cells slots i : Nat} (hi : i + 4 ≤ Ln) (hLn : Ln ≤ 2048) (hGc : am_G c.1 1 = some (.inl 10)) (hGm : am_G m.1 1 = some (.inl 11)) (hcs : cells ≤ room_1.cells ∧ slots ≤ room_1.slots) {r1 : Int32 × am_I × am_L} {r2 : Int32 × am_I} (h1 : pX10_isSplitPair c.2.1 c.2.2.1 c.2.2.2 1 (xs (i + 1)) (xs (i + 2)) = some r1) (h2 : pX11_isSplitPair m.2.1 m.2.2.1 1 (xs (i + 1)) (xs (i + 2)) = some r2) (heq : r1.1 = r2.1) (k : lw_V l X b Ln xs Q 1272 [(0, .ref b), (1, .ref (am_B c.1 + 1)), (2, .ref (am_B m.1 + 1)), (3, .int (nI i))] [] (c.1, c.2.1, r1.2.1, r1.2.2) (m.1, m.2.1, r2.2, m.2.2.2) cells slots) : lw_V l X b Ln xs Q 840 [(0, .ref b), (1, .ref (am_B c.1 + 1)), (2, .ref (am_B m.1 + 1)), (3, .int (nI i))] [] c m cells slots := by
  refine lw_aload dL_law_840 rfl 1 rfl ?_
  refine lw_aload dL_law_841 rfl 0 rfl ?_
  refine lw_iload dL_law_842 rfl 3 rfl ?_
  refine lw_iconst (v := 1) dL_law_843 (by decide) ?_
  refine lw_iadd (v := nI (i + 1)) dL_law_844 (nI_add i 1) ?_
  refine lw_sld (i := i + 1) (by omega) (by omega) dL_law_845 ?_
  refine lw_aload dL_law_846 rfl 0 rfl ?_
  refine lw_iload dL_law_847 rfl 3 rfl ?_
  refine lw_iconst (v := 2) dL_law_848 (by decide) ?_
  refine lw_iadd (v := nI (i + 2)) dL_law_849 (nI_add i 2) ?_
  refine lw_sld (i := i + 2) (by omega) (by omega) dL_law_850 ?_
  refine lw_callC [.int (xs (i + 1)), .int (xs (i + 2))] (tX10_isSplitPair c.2.1 c.2.2.1 c.2.2.2 1 (xs (i + 1)) (xs (i + 2)) hGc) h1 hGc gL_law_X10_isSplitPair hX10_isSplitPair rfl ⟨Nat.le_of_ble_eq_true rfl, Nat.le_of_ble_eq_true rfl⟩ rfl rfl (Nat.le_of_ble_eq_true rfl) hcs dL_law_851 ?_
  show lw_V l X b Ln xs Q 854 [(0, .ref b), (1, .ref (am_B c.1 + 1)), (2, .ref (am_B m.1 + 1)), (3, .int (nI i))] [.int r1.1] (c.1, c.2.1, r1.2.1, r1.2.2) m cells slots
  refine lw_aload dL_law_854 rfl 2 rfl ?_
  refine lw_aload dL_law_855 rfl 0 rfl ?_
  refine lw_iload dL_law_856 rfl 3 rfl ?_
  refine lw_iconst (v := 1) dL_law_857 (by decide) ?_
  refine lw_iadd (v := nI (i + 1)) dL_law_858 (nI_add i 1) ?_
  refine lw_sld (i := i + 1) (by omega) (by omega) dL_law_859 ?_
  refine lw_aload dL_law_860 rfl 0 rfl ?_
  refine lw_iload dL_law_861 rfl 3 rfl ?_
  refine lw_iconst (v := 2) dL_law_862 (by decide) ?_
  refine lw_iadd (v := nI (i + 2)) dL_law_863 (nI_add i 2) ?_
  refine lw_sld (i := i + 2) (by omega) (by omega) dL_law_864 ?_
  refine lw_callM [.int (xs (i + 1)), .int (xs (i + 2))] (tX11_isSplitPair m.2.1 m.2.2.1 m.2.2.2 1 (xs (i + 1)) (xs (i + 2)) hGm) h2 hGm gL_law_X11_isSplitPair hX11_isSplitPair rfl ⟨Nat.le_of_ble_eq_true rfl, Nat.le_of_ble_eq_true rfl⟩ rfl rfl (Nat.le_of_ble_eq_true rfl) hcs dL_law_865 ?_
  show lw_V l X b Ln xs Q 868 [(0, .ref b), (1, .ref (am_B c.1 + 1)), (2, .ref (am_B m.1 + 1)), (3, .int (nI i))] [.int r2.1, .int r1.1] (c.1, c.2.1, r1.2.1, r1.2.2) (m.1, m.2.1, r2.2, m.2.2.2) cells slots
  refine lw_ieqT (tgt := 1272) dL_law_868 rfl heq ?_
  exact k
set_option maxRecDepth 100000 in
set_option maxHeartbeats 4000000 in
theorem lw_case28 {l : Launch} {X : am_X} {b Ln : Nat} {xs : Nat → Int32} {Q : State → Prop} {c m : lw_Wd} {cells slots i : Nat} (hi : i + 4 ≤ Ln) (hLn : Ln ≤ 2048) (hGc : am_G c.1 1 = some (.inl 10)) (hGm : am_G m.1 1 = some (.inl 11)) (hcs : cells ≤ room_1.cells ∧ slots ≤ room_1.slots) {r1 : Int32 × am_I × am_L} {r2 : Int32 × am_I} (h1 : pX10_witnessState c.2.1 c.2.2.1 c.2.2.2 1 (xs (i + 1)) = some r1) (h2 : pX11_witnessState m.2.1 m.2.2.1 1 (xs (i + 1)) = some r2) (heq : r1.1 = r2.1) (k : lw_V l X b Ln xs Q 1272 [(0, .ref b), (1, .ref (am_B c.1 + 1)), (2, .ref (am_B m.1 + 1)), (3, .int (nI i))] [] (c.1, c.2.1, r1.2.1, r1.2.2) (m.1, m.2.1, r2.2, m.2.2.2) cells slots) : lw_V l X b Ln xs Q 873 [(0, .ref b), (1, .ref (am_B c.1 + 1)), (2, .ref (am_B m.1 + 1)), (3, .int (nI i))] [] c m cells slots := by
  refine lw_aload dL_law_873 rfl 1 rfl ?_
  refine lw_aload dL_law_874 rfl 0 rfl ?_
  refine lw_iload dL_law_875 rfl 3 rfl ?_
  refine lw_iconst (v := 1) dL_law_876 (by decide) ?_
  refine lw_iadd (v := nI (i + 1)) dL_law_877 (nI_add i 1) ?_
  refine lw_sld (i := i + 1) (by omega) (by omega) dL_law_878 ?_
  refine lw_callC [.int (xs (i + 1))] (tX10_witnessState c.2.1 c.2.2.1 c.2.2.2 1 (xs (i + 1)) hGc) h1 hGc gL_law_X10_witnessState hX10_witnessState rfl ⟨Nat.le_of_ble_eq_true rfl, Nat.le_of_ble_eq_true rfl⟩ rfl rfl (Nat.le_of_ble_eq_true rfl) hcs dL_law_879 ?_
  show lw_V l X b Ln xs Q 882 [(0, .ref b), (1, .ref (am_B c.1 + 1)), (2, .ref (am_B m.1 + 1)), (3, .int (nI i))] [.int r1.1] (c.1, c.2.1, r1.2.1, r1.2.2) m cells slots
  refine lw_aload dL_law_882 rfl 2 rfl ?_
  refine lw_aload dL_law_883 rfl 0 rfl ?_
  refine lw_iload dL_law_884 rfl 3 rfl ?_
  refine lw_iconst (v := 1) dL_law_885 (by decide) ?_
  refine lw_iadd (v := nI (i + 1)) dL_law_886 (nI_add i 1) ?_
  refine lw_sld (i := i + 1) (by omega) (by omega) dL_law_887 ?_
  refine lw_callM [.int (xs (i + 1))] (tX11_witnessState m.2.1 m.2.2.1 m.2.2.2 1 (xs (i + 1)) hGm) h2 hGm gL_law_X11_witnessState hX11_witnessState rfl ⟨Nat.le_of_ble_eq_true rfl, Nat.le_of_ble_eq_true rfl⟩ rfl rfl (Nat.le_of_ble_eq_true rfl) hcs dL_law_888 ?_
  show lw_V l X b Ln xs Q 891 [(0, .ref b), (1, .ref (am_B c.1 + 1)), (2, .ref (am_B m.1 + 1)), (3, .int (nI i))] [.int r2.1, .int r1.1] (c.1, c.2.1, r1.2.1, r1.2.2) (m.1, m.2.1, r2.2, m.2.2.2) cells slots
  refine lw_ieqT (tgt := 1272) dL_law_891 rfl heq ?_
  exact k
set_option maxRecDepth 100000 in
set_option maxHeartbeats 4000000 in
theorem lw_case29 {l : Launch} {X : am_X} {b Ln : Nat} {xs : Nat → Int32} {Q : State → Prop} {c m : lw_Wd} {cells slots i : Nat} (hi : i + 4 ≤ Ln) (hLn : Ln ≤ 2048) (hGc : am_G c.1 1 = some (.inl 10)) (hGm : am_G m.1 1 = some (.inl 11)) (hcs : cells ≤ room_1.cells ∧ slots ≤ room_1.slots) {r1 : Int32 × am_I × am_L} {r2 : Int32 × am_I} (h1 : pX10_witnessLength c.2.1 c.2.2.1 c.2.2.2 1 (xs (i + 1)) = some r1) (h2 : pX11_witnessLength m.2.1 m.2.2.1 1 (xs (i + 1)) = some r2) (heq : r1.1 = r2.1) (k : lw_V l X b Ln xs Q 1272 [(0, .ref b), (1, .ref (am_B c.1 + 1)), (2, .ref (am_B m.1 + 1)), (3, .int (nI i))] [] (c.1, c.2.1, r1.2.1, r1.2.2) (m.1, m.2.1, r2.2, m.2.2.2) cells slots) : lw_V l X b Ln xs Q 896 [(0, .ref b), (1, .ref (am_B c.1 + 1)), (2, .ref (am_B m.1 + 1)), (3, .int (nI i))] [] c m cells slots := by
  refine lw_aload dL_law_896 rfl 1 rfl ?_
  refine lw_aload dL_law_897 rfl 0 rfl ?_
  refine lw_iload dL_law_898 rfl 3 rfl ?_
  refine lw_iconst (v := 1) dL_law_899 (by decide) ?_
  refine lw_iadd (v := nI (i + 1)) dL_law_900 (nI_add i 1) ?_
  refine lw_sld (i := i + 1) (by omega) (by omega) dL_law_901 ?_
  refine lw_callC [.int (xs (i + 1))] (tX10_witnessLength c.2.1 c.2.2.1 c.2.2.2 1 (xs (i + 1)) hGc) h1 hGc gL_law_X10_witnessLength hX10_witnessLength rfl ⟨Nat.le_of_ble_eq_true rfl, Nat.le_of_ble_eq_true rfl⟩ rfl rfl (Nat.le_of_ble_eq_true rfl) hcs dL_law_902 ?_
  show lw_V l X b Ln xs Q 905 [(0, .ref b), (1, .ref (am_B c.1 + 1)), (2, .ref (am_B m.1 + 1)), (3, .int (nI i))] [.int r1.1] (c.1, c.2.1, r1.2.1, r1.2.2) m cells slots
  refine lw_aload dL_law_905 rfl 2 rfl ?_
  refine lw_aload dL_law_906 rfl 0 rfl ?_
  refine lw_iload dL_law_907 rfl 3 rfl ?_
  refine lw_iconst (v := 1) dL_law_908 (by decide) ?_
  refine lw_iadd (v := nI (i + 1)) dL_law_909 (nI_add i 1) ?_
  refine lw_sld (i := i + 1) (by omega) (by omega) dL_law_910 ?_
  refine lw_callM [.int (xs (i + 1))] (tX11_witnessLength m.2.1 m.2.2.1 m.2.2.2 1 (xs (i + 1)) hGm) h2 hGm gL_law_X11_witnessLength hX11_witnessLength rfl ⟨Nat.le_of_ble_eq_true rfl, Nat.le_of_ble_eq_true rfl⟩ rfl rfl (Nat.le_of_ble_eq_true rfl) hcs dL_law_911 ?_
  show lw_V l X b Ln xs Q 914 [(0, .ref b), (1, .ref (am_B c.1 + 1)), (2, .ref (am_B m.1 + 1)), (3, .int (nI i))] [.int r2.1, .int r1.1] (c.1, c.2.1, r1.2.1, r1.2.2) (m.1, m.2.1, r2.2, m.2.2.2) cells slots
  refine lw_ieqT (tgt := 1272) dL_law_914 rfl heq ?_
  exact k
set_option maxRecDepth 100000 in
set_option maxHeartbeats 4000000 in
theorem lw_case30 {l : Launch} {X : am_X} {b Ln : Nat} {xs : Nat → Int32} {Q : State → Prop} {c m : lw_Wd} {cells slots i : Nat} (hi : i + 4 ≤ Ln) (hLn : Ln ≤ 2048) (hGc : am_G c.1 1 = some (.inl 10)) (hGm : am_G m.1 1 = some (.inl 11)) (hcs : cells ≤ room_1.cells ∧ slots ≤ room_1.slots) {r1 : Int32 × am_I × am_L} {r2 : Int32 × am_I} (h1 : pX10_witnessLetter c.2.1 c.2.2.1 c.2.2.2 1 (xs (i + 1)) (xs (i + 2)) = some r1) (h2 : pX11_witnessLetter m.2.1 m.2.2.1 1 (xs (i + 1)) (xs (i + 2)) = some r2) (heq : r1.1 = r2.1) (k : lw_V l X b Ln xs Q 1272 [(0, .ref b), (1, .ref (am_B c.1 + 1)), (2, .ref (am_B m.1 + 1)), (3, .int (nI i))] [] (c.1, c.2.1, r1.2.1, r1.2.2) (m.1, m.2.1, r2.2, m.2.2.2) cells slots) : lw_V l X b Ln xs Q 919 [(0, .ref b), (1, .ref (am_B c.1 + 1)), (2, .ref (am_B m.1 + 1)), (3, .int (nI i))] [] c m cells slots := by
  refine lw_aload dL_law_919 rfl 1 rfl ?_
  refine lw_aload dL_law_920 rfl 0 rfl ?_
  refine lw_iload dL_law_921 rfl 3 rfl ?_
  refine lw_iconst (v := 1) dL_law_922 (by decide) ?_
  refine lw_iadd (v := nI (i + 1)) dL_law_923 (nI_add i 1) ?_
  refine lw_sld (i := i + 1) (by omega) (by omega) dL_law_924 ?_
  refine lw_aload dL_law_925 rfl 0 rfl ?_
  refine lw_iload dL_law_926 rfl 3 rfl ?_
  refine lw_iconst (v := 2) dL_law_927 (by decide) ?_
  refine lw_iadd (v := nI (i + 2)) dL_law_928 (nI_add i 2) ?_
  refine lw_sld (i := i + 2) (by omega) (by omega) dL_law_929 ?_
  refine lw_callC [.int (xs (i + 1)), .int (xs (i + 2))] (tX10_witnessLetter c.2.1 c.2.2.1 c.2.2.2 1 (xs (i + 1)) (xs (i + 2)) hGc) h1 hGc gL_law_X10_witnessLetter hX10_witnessLetter rfl ⟨Nat.le_of_ble_eq_true rfl, Nat.le_of_ble_eq_true rfl⟩ rfl rfl (Nat.le_of_ble_eq_true rfl) hcs dL_law_930 ?_
  show lw_V l X b Ln xs Q 933 [(0, .ref b), (1, .ref (am_B c.1 + 1)), (2, .ref (am_B m.1 + 1)), (3, .int (nI i))] [.int r1.1] (c.1, c.2.1, r1.2.1, r1.2.2) m cells slots
  refine lw_aload dL_law_933 rfl 2 rfl ?_
  refine lw_aload dL_law_934 rfl 0 rfl ?_
  refine lw_iload dL_law_935 rfl 3 rfl ?_
  refine lw_iconst (v := 1) dL_law_936 (by decide) ?_
  refine lw_iadd (v := nI (i + 1)) dL_law_937 (nI_add i 1) ?_
  refine lw_sld (i := i + 1) (by omega) (by omega) dL_law_938 ?_
  refine lw_aload dL_law_939 rfl 0 rfl ?_
  refine lw_iload dL_law_940 rfl 3 rfl ?_
  refine lw_iconst (v := 2) dL_law_941 (by decide) ?_
  refine lw_iadd (v := nI (i + 2)) dL_law_942 (nI_add i 2) ?_
  refine lw_sld (i := i + 2) (by omega) (by omega) dL_law_943 ?_
  refine lw_callM [.int (xs (i + 1)), .int (xs (i + 2))] (tX11_witnessLetter m.2.1 m.2.2.1 m.2.2.2 1 (xs (i + 1)) (xs (i + 2)) hGm) h2 hGm gL_law_X11_witnessLetter hX11_witnessLetter rfl ⟨Nat.le_of_ble_eq_true rfl, Nat.le_of_ble_eq_true rfl⟩ rfl rfl (Nat.le_of_ble_eq_true rfl) hcs dL_law_944 ?_
  show lw_V l X b Ln xs Q 947 [(0, .ref b), (1, .ref (am_B c.1 + 1)), (2, .ref (am_B m.1 + 1)), (3, .int (nI i))] [.int r2.1, .int r1.1] (c.1, c.2.1, r1.2.1, r1.2.2) (m.1, m.2.1, r2.2, m.2.2.2) cells slots
  refine lw_ieqT (tgt := 1272) dL_law_947 rfl heq ?_
  exact k
set_option maxRecDepth 100000 in
set_option maxHeartbeats 4000000 in
theorem lw_case31 {l : Launch} {X : am_X} {b Ln : Nat} {xs : Nat → Int32} {Q : State → Prop} {c m : lw_Wd} {cells slots i : Nat} (hi : i + 4 ≤ Ln) (hLn : Ln ≤ 2048) (hGc : am_G c.1 1 = some (.inl 10)) (hGm : am_G m.1 1 = some (.inl 11)) (hcs : cells ≤ room_1.cells ∧ slots ≤ room_1.slots) {r1 : Int32 × am_I × am_L} {r2 : Int32 × am_I} (h1 : pX10_takeWitness c.2.1 c.2.2.1 c.2.2.2 1 (xs (i + 1)) = some r1) (h2 : pX11_takeWitness m.2.1 m.2.2.1 1 (xs (i + 1)) = some r2) (heq : r1.1 = r2.1) (k : lw_V l X b Ln xs Q 1272 [(0, .ref b), (1, .ref (am_B c.1 + 1)), (2, .ref (am_B m.1 + 1)), (3, .int (nI i))] [] (c.1, c.2.1, r1.2.1, r1.2.2) (m.1, m.2.1, r2.2, m.2.2.2) cells slots) : lw_V l X b Ln xs Q 952 [(0, .ref b), (1, .ref (am_B c.1 + 1)), (2, .ref (am_B m.1 + 1)), (3, .int (nI i))] [] c m cells slots := by
  refine lw_aload dL_law_952 rfl 1 rfl ?_
  refine lw_aload dL_law_953 rfl 0 rfl ?_
  refine lw_iload dL_law_954 rfl 3 rfl ?_
  refine lw_iconst (v := 1) dL_law_955 (by decide) ?_
  refine lw_iadd (v := nI (i + 1)) dL_law_956 (nI_add i 1) ?_
  refine lw_sld (i := i + 1) (by omega) (by omega) dL_law_957 ?_
  refine lw_callC [.int (xs (i + 1))] (tX10_takeWitness c.2.1 c.2.2.1 c.2.2.2 1 (xs (i + 1)) hGc) h1 hGc gL_law_X10_takeWitness hX10_takeWitness rfl ⟨Nat.le_of_ble_eq_true rfl, Nat.le_of_ble_eq_true rfl⟩ rfl rfl (Nat.le_of_ble_eq_true rfl) hcs dL_law_958 ?_
  show lw_V l X b Ln xs Q 961 [(0, .ref b), (1, .ref (am_B c.1 + 1)), (2, .ref (am_B m.1 + 1)), (3, .int (nI i))] [.int r1.1] (c.1, c.2.1, r1.2.1, r1.2.2) m cells slots
  refine lw_aload dL_law_961 rfl 2 rfl ?_
  refine lw_aload dL_law_962 rfl 0 rfl ?_
  refine lw_iload dL_law_963 rfl 3 rfl ?_
  refine lw_iconst (v := 1) dL_law_964 (by decide) ?_
  refine lw_iadd (v := nI (i + 1)) dL_law_965 (nI_add i 1) ?_
  refine lw_sld (i := i + 1) (by omega) (by omega) dL_law_966 ?_
  refine lw_callM [.int (xs (i + 1))] (tX11_takeWitness m.2.1 m.2.2.1 m.2.2.2 1 (xs (i + 1)) hGm) h2 hGm gL_law_X11_takeWitness hX11_takeWitness rfl ⟨Nat.le_of_ble_eq_true rfl, Nat.le_of_ble_eq_true rfl⟩ rfl rfl (Nat.le_of_ble_eq_true rfl) hcs dL_law_967 ?_
  show lw_V l X b Ln xs Q 970 [(0, .ref b), (1, .ref (am_B c.1 + 1)), (2, .ref (am_B m.1 + 1)), (3, .int (nI i))] [.int r2.1, .int r1.1] (c.1, c.2.1, r1.2.1, r1.2.2) (m.1, m.2.1, r2.2, m.2.2.2) cells slots
  refine lw_ieqT (tgt := 1272) dL_law_970 rfl heq ?_
  exact k
set_option maxRecDepth 100000 in
set_option maxHeartbeats 4000000 in
theorem lw_case32 {l : Launch} {X : am_X} {b Ln : Nat} {xs : Nat → Int32} {Q : State → Prop} {c m : lw_Wd} {cells slots i : Nat} (hi : i + 4 ≤ Ln) (hLn : Ln ≤ 2048) (hGc : am_G c.1 1 = some (.inl 10)) (hGm : am_G m.1 1 = some (.inl 11)) (hcs : cells ≤ room_1.cells ∧ slots ≤ room_1.slots) {r1 : Int32 × am_I} {r2 : Int32 × am_I} (h1 : pX10_setWeight c.2.1 c.2.2.1 1 (xs (i + 1)) (xs (i + 2)) = some r1) (h2 : pX11_setWeight m.2.1 m.2.2.1 1 (xs (i + 1)) (xs (i + 2)) = some r2) (heq : r1.1 = r2.1) (k : lw_V l X b Ln xs Q 1272 [(0, .ref b), (1, .ref (am_B c.1 + 1)), (2, .ref (am_B m.1 + 1)), (3, .int (nI i))] [] (c.1, c.2.1, r1.2, c.2.2.2) (m.1, m.2.1, r2.2, m.2.2.2) cells slots) : lw_V l X b Ln xs Q 975 [(0, .ref b), (1, .ref (am_B c.1 + 1)), (2, .ref (am_B m.1 + 1)), (3, .int (nI i))] [] c m cells slots := by
  refine lw_aload dL_law_975 rfl 1 rfl ?_
  refine lw_aload dL_law_976 rfl 0 rfl ?_
  refine lw_iload dL_law_977 rfl 3 rfl ?_
  refine lw_iconst (v := 1) dL_law_978 (by decide) ?_
  refine lw_iadd (v := nI (i + 1)) dL_law_979 (nI_add i 1) ?_
  refine lw_sld (i := i + 1) (by omega) (by omega) dL_law_980 ?_
  refine lw_aload dL_law_981 rfl 0 rfl ?_
  refine lw_iload dL_law_982 rfl 3 rfl ?_
  refine lw_iconst (v := 2) dL_law_983 (by decide) ?_
  refine lw_iadd (v := nI (i + 2)) dL_law_984 (nI_add i 2) ?_
  refine lw_sld (i := i + 2) (by omega) (by omega) dL_law_985 ?_
  refine lw_callC [.int (xs (i + 1)), .int (xs (i + 2))] (tX10_setWeight c.2.1 c.2.2.1 c.2.2.2 1 (xs (i + 1)) (xs (i + 2)) hGc) h1 hGc gL_law_X10_setWeight hX10_setWeight rfl ⟨Nat.le_of_ble_eq_true rfl, Nat.le_of_ble_eq_true rfl⟩ rfl rfl (Nat.le_of_ble_eq_true rfl) hcs dL_law_986 ?_
  show lw_V l X b Ln xs Q 989 [(0, .ref b), (1, .ref (am_B c.1 + 1)), (2, .ref (am_B m.1 + 1)), (3, .int (nI i))] [.int r1.1] (c.1, c.2.1, r1.2, c.2.2.2) m cells slots
  refine lw_aload dL_law_989 rfl 2 rfl ?_
  refine lw_aload dL_law_990 rfl 0 rfl ?_
  refine lw_iload dL_law_991 rfl 3 rfl ?_
  refine lw_iconst (v := 1) dL_law_992 (by decide) ?_
  refine lw_iadd (v := nI (i + 1)) dL_law_993 (nI_add i 1) ?_
  refine lw_sld (i := i + 1) (by omega) (by omega) dL_law_994 ?_
  refine lw_aload dL_law_995 rfl 0 rfl ?_
  refine lw_iload dL_law_996 rfl 3 rfl ?_
  refine lw_iconst (v := 2) dL_law_997 (by decide) ?_
  refine lw_iadd (v := nI (i + 2)) dL_law_998 (nI_add i 2) ?_
  refine lw_sld (i := i + 2) (by omega) (by omega) dL_law_999 ?_
  refine lw_callM [.int (xs (i + 1)), .int (xs (i + 2))] (tX11_setWeight m.2.1 m.2.2.1 m.2.2.2 1 (xs (i + 1)) (xs (i + 2)) hGm) h2 hGm gL_law_X11_setWeight hX11_setWeight rfl ⟨Nat.le_of_ble_eq_true rfl, Nat.le_of_ble_eq_true rfl⟩ rfl rfl (Nat.le_of_ble_eq_true rfl) hcs dL_law_1000 ?_
  show lw_V l X b Ln xs Q 1003 [(0, .ref b), (1, .ref (am_B c.1 + 1)), (2, .ref (am_B m.1 + 1)), (3, .int (nI i))] [.int r2.1, .int r1.1] (c.1, c.2.1, r1.2, c.2.2.2) (m.1, m.2.1, r2.2, m.2.2.2) cells slots
  refine lw_ieqT (tgt := 1272) dL_law_1003 rfl heq ?_
  exact k
set_option maxRecDepth 100000 in
set_option maxHeartbeats 4000000 in
theorem lw_case33 {l : Launch} {X : am_X} {b Ln : Nat} {xs : Nat → Int32} {Q : State → Prop} {c m : lw_Wd} {cells slots i : Nat} (hi : i + 4 ≤ Ln) (hLn : Ln ≤ 2048) (hGc : am_G c.1 1 = some (.inl 10)) (hGm : am_G m.1 1 = some (.inl 11)) (hcs : cells ≤ room_1.cells ∧ slots ≤ room_1.slots) {r1 : Int32 × am_I × am_L} {r2 : Int32 × am_I} (h1 : pX10_lightestWeight c.2.1 c.2.2.1 c.2.2.2 1 = some r1) (h2 : pX11_lightestWeight m.2.1 m.2.2.1 1 = some r2) (heq : r1.1 = r2.1) (k : lw_V l X b Ln xs Q 1272 [(0, .ref b), (1, .ref (am_B c.1 + 1)), (2, .ref (am_B m.1 + 1)), (3, .int (nI i))] [] (c.1, c.2.1, r1.2.1, r1.2.2) (m.1, m.2.1, r2.2, m.2.2.2) cells slots) : lw_V l X b Ln xs Q 1008 [(0, .ref b), (1, .ref (am_B c.1 + 1)), (2, .ref (am_B m.1 + 1)), (3, .int (nI i))] [] c m cells slots := by
  refine lw_aload dL_law_1008 rfl 1 rfl ?_
  refine lw_callC [] (tX10_lightestWeight c.2.1 c.2.2.1 c.2.2.2 1  hGc) h1 hGc gL_law_X10_lightestWeight hX10_lightestWeight rfl ⟨Nat.le_of_ble_eq_true rfl, Nat.le_of_ble_eq_true rfl⟩ rfl rfl (Nat.le_of_ble_eq_true rfl) hcs dL_law_1009 ?_
  show lw_V l X b Ln xs Q 1012 [(0, .ref b), (1, .ref (am_B c.1 + 1)), (2, .ref (am_B m.1 + 1)), (3, .int (nI i))] [.int r1.1] (c.1, c.2.1, r1.2.1, r1.2.2) m cells slots
  refine lw_aload dL_law_1012 rfl 2 rfl ?_
  refine lw_callM [] (tX11_lightestWeight m.2.1 m.2.2.1 m.2.2.2 1  hGm) h2 hGm gL_law_X11_lightestWeight hX11_lightestWeight rfl ⟨Nat.le_of_ble_eq_true rfl, Nat.le_of_ble_eq_true rfl⟩ rfl rfl (Nat.le_of_ble_eq_true rfl) hcs dL_law_1013 ?_
  show lw_V l X b Ln xs Q 1016 [(0, .ref b), (1, .ref (am_B c.1 + 1)), (2, .ref (am_B m.1 + 1)), (3, .int (nI i))] [.int r2.1, .int r1.1] (c.1, c.2.1, r1.2.1, r1.2.2) (m.1, m.2.1, r2.2, m.2.2.2) cells slots
  refine lw_ieqT (tgt := 1272) dL_law_1016 rfl heq ?_
  exact k
set_option maxRecDepth 100000 in
set_option maxHeartbeats 4000000 in
theorem lw_case34 {l : Launch} {X : am_X} {b Ln : Nat} {xs : Nat → Int32} {Q : State → Prop} {c m : lw_Wd} {cells slots i : Nat} (hi : i + 4 ≤ Ln) (hLn : Ln ≤ 2048) (hGc : am_G c.1 1 = some (.inl 10)) (hGm : am_G m.1 1 = some (.inl 11)) (hcs : cells ≤ room_1.cells ∧ slots ≤ room_1.slots) {r1 : Int32 × am_R × am_I × am_L} {r2 : Int32 × am_I × am_L} (h1 : pX10_build c.2.1 c.2.2.1 c.2.2.2 1 (xs (i + 1)) = some r1) (h2 : pX11_build m.2.1 m.2.2.1 m.2.2.2 1 (xs (i + 1)) = some r2) (heq : r1.1 = r2.1) (k : lw_V l X b Ln xs Q 1272 [(0, .ref b), (1, .ref (am_B c.1 + 1)), (2, .ref (am_B m.1 + 1)), (3, .int (nI i))] [] (c.1, r1.2.1, r1.2.2.1, r1.2.2.2) (m.1, m.2.1, r2.2.1, r2.2.2) cells slots) : lw_V l X b Ln xs Q 1021 [(0, .ref b), (1, .ref (am_B c.1 + 1)), (2, .ref (am_B m.1 + 1)), (3, .int (nI i))] [] c m cells slots := by
  refine lw_aload dL_law_1021 rfl 1 rfl ?_
  refine lw_aload dL_law_1022 rfl 0 rfl ?_
  refine lw_iload dL_law_1023 rfl 3 rfl ?_
  refine lw_iconst (v := 1) dL_law_1024 (by decide) ?_
  refine lw_iadd (v := nI (i + 1)) dL_law_1025 (nI_add i 1) ?_
  refine lw_sld (i := i + 1) (by omega) (by omega) dL_law_1026 ?_
  refine lw_callC [.int (xs (i + 1))] (tX10_build c.2.1 c.2.2.1 c.2.2.2 1 (xs (i + 1)) hGc) h1 hGc gL_law_X10_build hX10_build rfl ⟨Nat.le_of_ble_eq_true rfl, Nat.le_of_ble_eq_true rfl⟩ rfl rfl (Nat.le_of_ble_eq_true rfl) hcs dL_law_1027 ?_
  show lw_V l X b Ln xs Q 1030 [(0, .ref b), (1, .ref (am_B c.1 + 1)), (2, .ref (am_B m.1 + 1)), (3, .int (nI i))] [.int r1.1] (c.1, r1.2.1, r1.2.2.1, r1.2.2.2) m cells slots
  refine lw_aload dL_law_1030 rfl 2 rfl ?_
  refine lw_aload dL_law_1031 rfl 0 rfl ?_
  refine lw_iload dL_law_1032 rfl 3 rfl ?_
  refine lw_iconst (v := 1) dL_law_1033 (by decide) ?_
  refine lw_iadd (v := nI (i + 1)) dL_law_1034 (nI_add i 1) ?_
  refine lw_sld (i := i + 1) (by omega) (by omega) dL_law_1035 ?_
  refine lw_callM [.int (xs (i + 1))] (tX11_build m.2.1 m.2.2.1 m.2.2.2 1 (xs (i + 1)) hGm) h2 hGm gL_law_X11_build hX11_build rfl ⟨Nat.le_of_ble_eq_true rfl, Nat.le_of_ble_eq_true rfl⟩ rfl rfl (Nat.le_of_ble_eq_true rfl) hcs dL_law_1036 ?_
  show lw_V l X b Ln xs Q 1039 [(0, .ref b), (1, .ref (am_B c.1 + 1)), (2, .ref (am_B m.1 + 1)), (3, .int (nI i))] [.int r2.1, .int r1.1] (c.1, r1.2.1, r1.2.2.1, r1.2.2.2) (m.1, m.2.1, r2.2.1, r2.2.2) cells slots
  refine lw_ieqT (tgt := 1272) dL_law_1039 rfl heq ?_
  exact k
set_option maxRecDepth 100000 in
set_option maxHeartbeats 4000000 in
theorem lw_case35 {l : Launch} {X : am_X} {b Ln : Nat} {xs : Nat → Int32} {Q : State → Prop} {c m : lw_Wd} {cells slots i : Nat} (hi : i + 4 ≤ Ln) (hLn : Ln ≤ 2048) (hGc : am_G c.1 1 = some (.inl 10)) (hGm : am_G m.1 1 = some (.inl 11)) (hcs : cells ≤ room_1.cells ∧ slots ≤ room_1.slots) {r1 : Int32} {r2 : Int32} (h1 : pX10_resultStateCount c.2.1 c.2.2.1 1 = some r1) (h2 : pX11_resultStateCount m.2.2.1 1 = some r2) (heq : r1 = r2) (k : lw_V l X b Ln xs Q 1272 [(0, .ref b), (1, .ref (am_B c.1 + 1)), (2, .ref (am_B m.1 + 1)), (3, .int (nI i))] [] (c.1, c.2.1, c.2.2.1, c.2.2.2) (m.1, m.2.1, m.2.2.1, m.2.2.2) cells slots) : lw_V l X b Ln xs Q 1044 [(0, .ref b), (1, .ref (am_B c.1 + 1)), (2, .ref (am_B m.1 + 1)), (3, .int (nI i))] [] c m cells slots := by
  refine lw_aload dL_law_1044 rfl 1 rfl ?_
  refine lw_callC [] (tX10_resultStateCount c.2.1 c.2.2.1 c.2.2.2 1  hGc) h1 hGc gL_law_X10_resultStateCount hX10_resultStateCount rfl ⟨Nat.le_of_ble_eq_true rfl, Nat.le_of_ble_eq_true rfl⟩ rfl rfl (Nat.le_of_ble_eq_true rfl) hcs dL_law_1045 ?_
  show lw_V l X b Ln xs Q 1048 [(0, .ref b), (1, .ref (am_B c.1 + 1)), (2, .ref (am_B m.1 + 1)), (3, .int (nI i))] [.int r1] (c.1, c.2.1, c.2.2.1, c.2.2.2) m cells slots
  refine lw_aload dL_law_1048 rfl 2 rfl ?_
  refine lw_callM [] (tX11_resultStateCount m.2.1 m.2.2.1 m.2.2.2 1  hGm) h2 hGm gL_law_X11_resultStateCount hX11_resultStateCount rfl ⟨Nat.le_of_ble_eq_true rfl, Nat.le_of_ble_eq_true rfl⟩ rfl rfl (Nat.le_of_ble_eq_true rfl) hcs dL_law_1049 ?_
  show lw_V l X b Ln xs Q 1052 [(0, .ref b), (1, .ref (am_B c.1 + 1)), (2, .ref (am_B m.1 + 1)), (3, .int (nI i))] [.int r2, .int r1] (c.1, c.2.1, c.2.2.1, c.2.2.2) (m.1, m.2.1, m.2.2.1, m.2.2.2) cells slots
  refine lw_ieqT (tgt := 1272) dL_law_1052 rfl heq ?_
  exact k
set_option maxRecDepth 100000 in
set_option maxHeartbeats 4000000 in
theorem lw_case36 {l : Launch} {X : am_X} {b Ln : Nat} {xs : Nat → Int32} {Q : State → Prop} {c m : lw_Wd} {cells slots i : Nat} (hi : i + 4 ≤ Ln) (hLn : Ln ≤ 2048) (hGc : am_G c.1 1 = some (.inl 10)) (hGm : am_G m.1 1 = some (.inl 11)) (hcs : cells ≤ room_1.cells ∧ slots ≤ room_1.slots) {r1 : Int64} {r2 : Int64} (h1 : pX10_resultInitials c.2.1 c.2.2.1 c.2.2.2 1 = some r1) (h2 : pX11_resultInitials m.2.2.2 1 = some r2) (heq : r1 = r2) (k : lw_V l X b Ln xs Q 1272 [(0, .ref b), (1, .ref (am_B c.1 + 1)), (2, .ref (am_B m.1 + 1)), (3, .int (nI i))] [] (c.1, c.2.1, c.2.2.1, c.2.2.2) (m.1, m.2.1, m.2.2.1, m.2.2.2) cells slots) : lw_V l X b Ln xs Q 1057 [(0, .ref b), (1, .ref (am_B c.1 + 1)), (2, .ref (am_B m.1 + 1)), (3, .int (nI i))] [] c m cells slots := by
  refine lw_aload dL_law_1057 rfl 1 rfl ?_
  refine lw_callC [] (tX10_resultInitials c.2.1 c.2.2.1 c.2.2.2 1  hGc) h1 hGc gL_law_X10_resultInitials hX10_resultInitials rfl ⟨Nat.le_of_ble_eq_true rfl, Nat.le_of_ble_eq_true rfl⟩ rfl rfl (Nat.le_of_ble_eq_true rfl) hcs dL_law_1058 ?_
  show lw_V l X b Ln xs Q 1061 [(0, .ref b), (1, .ref (am_B c.1 + 1)), (2, .ref (am_B m.1 + 1)), (3, .int (nI i))] [.long r1] (c.1, c.2.1, c.2.2.1, c.2.2.2) m cells slots
  refine lw_aload dL_law_1061 rfl 2 rfl ?_
  refine lw_callM [] (tX11_resultInitials m.2.1 m.2.2.1 m.2.2.2 1  hGm) h2 hGm gL_law_X11_resultInitials hX11_resultInitials rfl ⟨Nat.le_of_ble_eq_true rfl, Nat.le_of_ble_eq_true rfl⟩ rfl rfl (Nat.le_of_ble_eq_true rfl) hcs dL_law_1062 ?_
  show lw_V l X b Ln xs Q 1065 [(0, .ref b), (1, .ref (am_B c.1 + 1)), (2, .ref (am_B m.1 + 1)), (3, .int (nI i))] [.long r2, .long r1] (c.1, c.2.1, c.2.2.1, c.2.2.2) (m.1, m.2.1, m.2.2.1, m.2.2.2) cells slots
  refine lw_lcmp dL_law_1065 ?_
  refine lw_eqT (tgt := 1272) dL_law_1066 rfl (lg_cmp0.mpr heq) ?_
  exact k
set_option maxRecDepth 100000 in
set_option maxHeartbeats 4000000 in
theorem lw_case37 {l : Launch} {X : am_X} {b Ln : Nat} {xs : Nat → Int32} {Q : State → Prop} {c m : lw_Wd} {cells slots i : Nat} (hi : i + 4 ≤ Ln) (hLn : Ln ≤ 2048) (hGc : am_G c.1 1 = some (.inl 10)) (hGm : am_G m.1 1 = some (.inl 11)) (hcs : cells ≤ room_1.cells ∧ slots ≤ room_1.slots) {r1 : Int64} {r2 : Int64} (h1 : pX10_resultFinals c.2.1 c.2.2.1 c.2.2.2 1 = some r1) (h2 : pX11_resultFinals m.2.2.2 1 = some r2) (heq : r1 = r2) (k : lw_V l X b Ln xs Q 1272 [(0, .ref b), (1, .ref (am_B c.1 + 1)), (2, .ref (am_B m.1 + 1)), (3, .int (nI i))] [] (c.1, c.2.1, c.2.2.1, c.2.2.2) (m.1, m.2.1, m.2.2.1, m.2.2.2) cells slots) : lw_V l X b Ln xs Q 1071 [(0, .ref b), (1, .ref (am_B c.1 + 1)), (2, .ref (am_B m.1 + 1)), (3, .int (nI i))] [] c m cells slots := by
  refine lw_aload dL_law_1071 rfl 1 rfl ?_
  refine lw_callC [] (tX10_resultFinals c.2.1 c.2.2.1 c.2.2.2 1  hGc) h1 hGc gL_law_X10_resultFinals hX10_resultFinals rfl ⟨Nat.le_of_ble_eq_true rfl, Nat.le_of_ble_eq_true rfl⟩ rfl rfl (Nat.le_of_ble_eq_true rfl) hcs dL_law_1072 ?_
  show lw_V l X b Ln xs Q 1075 [(0, .ref b), (1, .ref (am_B c.1 + 1)), (2, .ref (am_B m.1 + 1)), (3, .int (nI i))] [.long r1] (c.1, c.2.1, c.2.2.1, c.2.2.2) m cells slots
  refine lw_aload dL_law_1075 rfl 2 rfl ?_
  refine lw_callM [] (tX11_resultFinals m.2.1 m.2.2.1 m.2.2.2 1  hGm) h2 hGm gL_law_X11_resultFinals hX11_resultFinals rfl ⟨Nat.le_of_ble_eq_true rfl, Nat.le_of_ble_eq_true rfl⟩ rfl rfl (Nat.le_of_ble_eq_true rfl) hcs dL_law_1076 ?_
  show lw_V l X b Ln xs Q 1079 [(0, .ref b), (1, .ref (am_B c.1 + 1)), (2, .ref (am_B m.1 + 1)), (3, .int (nI i))] [.long r2, .long r1] (c.1, c.2.1, c.2.2.1, c.2.2.2) (m.1, m.2.1, m.2.2.1, m.2.2.2) cells slots
  refine lw_lcmp dL_law_1079 ?_
  refine lw_eqT (tgt := 1272) dL_law_1080 rfl (lg_cmp0.mpr heq) ?_
  exact k
set_option maxRecDepth 100000 in
set_option maxHeartbeats 4000000 in
theorem lw_case38 {l : Launch} {X : am_X} {b Ln : Nat} {xs : Nat → Int32} {Q : State → Prop} {c m : lw_Wd} {cells slots i : Nat} (hi : i + 4 ≤ Ln) (hLn : Ln ≤ 2048) (hGc : am_G c.1 1 = some (.inl 10)) (hGm : am_G m.1 1 = some (.inl 11)) (hcs : cells ≤ room_1.cells ∧ slots ≤ room_1.slots) {r1 : Int64} {r2 : Int64} (h1 : pX10_resultSuccessors c.2.1 c.2.2.1 c.2.2.2 1 (xs (i + 1)) (xs (i + 2)) = some r1) (h2 : pX11_resultSuccessors m.2.1 m.2.2.1 m.2.2.2 1 (xs (i + 1)) (xs (i + 2)) = some r2) (heq : r1 = r2) (k : lw_V l X b Ln xs Q 1272 [(0, .ref b), (1, .ref (am_B c.1 + 1)), (2, .ref (am_B m.1 + 1)), (3, .int (nI i))] [] (c.1, c.2.1, c.2.2.1, c.2.2.2) (m.1, m.2.1, m.2.2.1, m.2.2.2) cells slots) : lw_V l X b Ln xs Q 1085 [(0, .ref b), (1, .ref (am_B c.1 + 1)), (2, .ref (am_B m.1 + 1)), (3, .int (nI i))] [] c m cells slots := by
  refine lw_aload dL_law_1085 rfl 1 rfl ?_
  refine lw_aload dL_law_1086 rfl 0 rfl ?_
  refine lw_iload dL_law_1087 rfl 3 rfl ?_
  refine lw_iconst (v := 1) dL_law_1088 (by decide) ?_
  refine lw_iadd (v := nI (i + 1)) dL_law_1089 (nI_add i 1) ?_
  refine lw_sld (i := i + 1) (by omega) (by omega) dL_law_1090 ?_
  refine lw_aload dL_law_1091 rfl 0 rfl ?_
  refine lw_iload dL_law_1092 rfl 3 rfl ?_
  refine lw_iconst (v := 2) dL_law_1093 (by decide) ?_
  refine lw_iadd (v := nI (i + 2)) dL_law_1094 (nI_add i 2) ?_
  refine lw_sld (i := i + 2) (by omega) (by omega) dL_law_1095 ?_
  refine lw_callC [.int (xs (i + 1)), .int (xs (i + 2))] (tX10_resultSuccessors c.2.1 c.2.2.1 c.2.2.2 1 (xs (i + 1)) (xs (i + 2)) hGc) h1 hGc gL_law_X10_resultSuccessors hX10_resultSuccessors rfl ⟨Nat.le_of_ble_eq_true rfl, Nat.le_of_ble_eq_true rfl⟩ rfl rfl (Nat.le_of_ble_eq_true rfl) hcs dL_law_1096 ?_
  show lw_V l X b Ln xs Q 1099 [(0, .ref b), (1, .ref (am_B c.1 + 1)), (2, .ref (am_B m.1 + 1)), (3, .int (nI i))] [.long r1] (c.1, c.2.1, c.2.2.1, c.2.2.2) m cells slots
  refine lw_aload dL_law_1099 rfl 2 rfl ?_
  refine lw_aload dL_law_1100 rfl 0 rfl ?_
  refine lw_iload dL_law_1101 rfl 3 rfl ?_
  refine lw_iconst (v := 1) dL_law_1102 (by decide) ?_
  refine lw_iadd (v := nI (i + 1)) dL_law_1103 (nI_add i 1) ?_
  refine lw_sld (i := i + 1) (by omega) (by omega) dL_law_1104 ?_
  refine lw_aload dL_law_1105 rfl 0 rfl ?_
  refine lw_iload dL_law_1106 rfl 3 rfl ?_
  refine lw_iconst (v := 2) dL_law_1107 (by decide) ?_
  refine lw_iadd (v := nI (i + 2)) dL_law_1108 (nI_add i 2) ?_
  refine lw_sld (i := i + 2) (by omega) (by omega) dL_law_1109 ?_
  refine lw_callM [.int (xs (i + 1)), .int (xs (i + 2))] (tX11_resultSuccessors m.2.1 m.2.2.1 m.2.2.2 1 (xs (i + 1)) (xs (i + 2)) hGm) h2 hGm gL_law_X11_resultSuccessors hX11_resultSuccessors rfl ⟨Nat.le_of_ble_eq_true rfl, Nat.le_of_ble_eq_true rfl⟩ rfl rfl (Nat.le_of_ble_eq_true rfl) hcs dL_law_1110 ?_
  show lw_V l X b Ln xs Q 1113 [(0, .ref b), (1, .ref (am_B c.1 + 1)), (2, .ref (am_B m.1 + 1)), (3, .int (nI i))] [.long r2, .long r1] (c.1, c.2.1, c.2.2.1, c.2.2.2) (m.1, m.2.1, m.2.2.1, m.2.2.2) cells slots
  refine lw_lcmp dL_law_1113 ?_
  refine lw_eqT (tgt := 1272) dL_law_1114 rfl (lg_cmp0.mpr heq) ?_
  exact k
set_option maxRecDepth 100000 in
set_option maxHeartbeats 4000000 in
theorem lw_case39 {l : Launch} {X : am_X} {b Ln : Nat} {xs : Nat → Int32} {Q : State → Prop} {c m : lw_Wd} {cells slots i : Nat} (hi : i + 4 ≤ Ln) (hLn : Ln ≤ 2048) (hGc : am_G c.1 1 = some (.inl 10)) (hGm : am_G m.1 1 = some (.inl 11)) (hcs : cells ≤ room_1.cells ∧ slots ≤ room_1.slots) {r1 : Int64} {r2 : Int64 × am_L} (h1 : pX10_resultAmbiguity c.2.1 c.2.2.1 c.2.2.2 1 = some r1) (h2 : pX11_resultAmbiguity m.2.1 m.2.2.1 m.2.2.2 1 = some r2) (heq : r1 = r2.1) (k : lw_V l X b Ln xs Q 1272 [(0, .ref b), (1, .ref (am_B c.1 + 1)), (2, .ref (am_B m.1 + 1)), (3, .int (nI i))] [] (c.1, c.2.1, c.2.2.1, c.2.2.2) (m.1, m.2.1, m.2.2.1, r2.2) cells slots) : lw_V l X b Ln xs Q 1119 [(0, .ref b), (1, .ref (am_B c.1 + 1)), (2, .ref (am_B m.1 + 1)), (3, .int (nI i))] [] c m cells slots := by
  refine lw_aload dL_law_1119 rfl 1 rfl ?_
  refine lw_callC [] (tX10_resultAmbiguity c.2.1 c.2.2.1 c.2.2.2 1  hGc) h1 hGc gL_law_X10_resultAmbiguity hX10_resultAmbiguity rfl ⟨Nat.le_of_ble_eq_true rfl, Nat.le_of_ble_eq_true rfl⟩ rfl rfl (Nat.le_of_ble_eq_true rfl) hcs dL_law_1120 ?_
  show lw_V l X b Ln xs Q 1123 [(0, .ref b), (1, .ref (am_B c.1 + 1)), (2, .ref (am_B m.1 + 1)), (3, .int (nI i))] [.long r1] (c.1, c.2.1, c.2.2.1, c.2.2.2) m cells slots
  refine lw_aload dL_law_1123 rfl 2 rfl ?_
  refine lw_callM [] (tX11_resultAmbiguity m.2.1 m.2.2.1 m.2.2.2 1  hGm) h2 hGm gL_law_X11_resultAmbiguity hX11_resultAmbiguity rfl ⟨Nat.le_of_ble_eq_true rfl, Nat.le_of_ble_eq_true rfl⟩ rfl rfl (Nat.le_of_ble_eq_true rfl) hcs dL_law_1124 ?_
  show lw_V l X b Ln xs Q 1127 [(0, .ref b), (1, .ref (am_B c.1 + 1)), (2, .ref (am_B m.1 + 1)), (3, .int (nI i))] [.long r2.1, .long r1] (c.1, c.2.1, c.2.2.1, c.2.2.2) (m.1, m.2.1, m.2.2.1, r2.2) cells slots
  refine lw_lcmp dL_law_1127 ?_
  refine lw_eqT (tgt := 1272) dL_law_1128 rfl (lg_cmp0.mpr heq) ?_
  exact k
set_option maxRecDepth 100000 in
set_option maxHeartbeats 4000000 in
theorem lw_case40 {l : Launch} {X : am_X} {b Ln : Nat} {xs : Nat → Int32} {Q : State → Prop} {c m : lw_Wd} {cells slots i : Nat} (hi : i + 4 ≤ Ln) (hLn : Ln ≤ 2048) (hGc : am_G c.1 1 = some (.inl 10)) (hGm : am_G m.1 1 = some (.inl 11)) (hcs : cells ≤ room_1.cells ∧ slots ≤ room_1.slots) {r1 : Int32 × am_I × am_L} {r2 : Int32 × am_I × am_L} (h1 : pX10_keepWord c.2.1 c.2.2.1 c.2.2.2 1 (xs (i + 1)) = some r1) (h2 : pX11_keepWord m.2.1 m.2.2.1 m.2.2.2 1 (xs (i + 1)) = some r2) (heq : r1.1 = r2.1) (k : lw_V l X b Ln xs Q 1272 [(0, .ref b), (1, .ref (am_B c.1 + 1)), (2, .ref (am_B m.1 + 1)), (3, .int (nI i))] [] (c.1, c.2.1, r1.2.1, r1.2.2) (m.1, m.2.1, r2.2.1, r2.2.2) cells slots) : lw_V l X b Ln xs Q 1133 [(0, .ref b), (1, .ref (am_B c.1 + 1)), (2, .ref (am_B m.1 + 1)), (3, .int (nI i))] [] c m cells slots := by
  refine lw_aload dL_law_1133 rfl 1 rfl ?_
  refine lw_aload dL_law_1134 rfl 0 rfl ?_
  refine lw_iload dL_law_1135 rfl 3 rfl ?_
  refine lw_iconst (v := 1) dL_law_1136 (by decide) ?_
  refine lw_iadd (v := nI (i + 1)) dL_law_1137 (nI_add i 1) ?_
  refine lw_sld (i := i + 1) (by omega) (by omega) dL_law_1138 ?_
  refine lw_callC [.int (xs (i + 1))] (tX10_keepWord c.2.1 c.2.2.1 c.2.2.2 1 (xs (i + 1)) hGc) h1 hGc gL_law_X10_keepWord hX10_keepWord rfl ⟨Nat.le_of_ble_eq_true rfl, Nat.le_of_ble_eq_true rfl⟩ rfl rfl (Nat.le_of_ble_eq_true rfl) hcs dL_law_1139 ?_
  show lw_V l X b Ln xs Q 1142 [(0, .ref b), (1, .ref (am_B c.1 + 1)), (2, .ref (am_B m.1 + 1)), (3, .int (nI i))] [.int r1.1] (c.1, c.2.1, r1.2.1, r1.2.2) m cells slots
  refine lw_aload dL_law_1142 rfl 2 rfl ?_
  refine lw_aload dL_law_1143 rfl 0 rfl ?_
  refine lw_iload dL_law_1144 rfl 3 rfl ?_
  refine lw_iconst (v := 1) dL_law_1145 (by decide) ?_
  refine lw_iadd (v := nI (i + 1)) dL_law_1146 (nI_add i 1) ?_
  refine lw_sld (i := i + 1) (by omega) (by omega) dL_law_1147 ?_
  refine lw_callM [.int (xs (i + 1))] (tX11_keepWord m.2.1 m.2.2.1 m.2.2.2 1 (xs (i + 1)) hGm) h2 hGm gL_law_X11_keepWord hX11_keepWord rfl ⟨Nat.le_of_ble_eq_true rfl, Nat.le_of_ble_eq_true rfl⟩ rfl rfl (Nat.le_of_ble_eq_true rfl) hcs dL_law_1148 ?_
  show lw_V l X b Ln xs Q 1151 [(0, .ref b), (1, .ref (am_B c.1 + 1)), (2, .ref (am_B m.1 + 1)), (3, .int (nI i))] [.int r2.1, .int r1.1] (c.1, c.2.1, r1.2.1, r1.2.2) (m.1, m.2.1, r2.2.1, r2.2.2) cells slots
  refine lw_ieqT (tgt := 1272) dL_law_1151 rfl heq ?_
  exact k
set_option maxRecDepth 100000 in
set_option maxHeartbeats 4000000 in
theorem lw_case41 {l : Launch} {X : am_X} {b Ln : Nat} {xs : Nat → Int32} {Q : State → Prop} {c m : lw_Wd} {cells slots i : Nat} (hi : i + 4 ≤ Ln) (hLn : Ln ≤ 2048) (hGc : am_G c.1 1 = some (.inl 10)) (hGm : am_G m.1 1 = some (.inl 11)) (hcs : cells ≤ room_1.cells ∧ slots ≤ room_1.slots) {r1 : Int32 × am_I × am_L} {r2 : Int32 × am_I × am_L} (h1 : pX10_keepCounts c.2.1 c.2.2.1 c.2.2.2 1 (xs (i + 1)) (xs (i + 2)) = some r1) (h2 : pX11_keepCounts m.2.1 m.2.2.1 m.2.2.2 1 (xs (i + 1)) (xs (i + 2)) = some r2) (heq : r1.1 = r2.1) (k : lw_V l X b Ln xs Q 1272 [(0, .ref b), (1, .ref (am_B c.1 + 1)), (2, .ref (am_B m.1 + 1)), (3, .int (nI i))] [] (c.1, c.2.1, r1.2.1, r1.2.2) (m.1, m.2.1, r2.2.1, r2.2.2) cells slots) : lw_V l X b Ln xs Q 1156 [(0, .ref b), (1, .ref (am_B c.1 + 1)), (2, .ref (am_B m.1 + 1)), (3, .int (nI i))] [] c m cells slots := by
  refine lw_aload dL_law_1156 rfl 1 rfl ?_
  refine lw_aload dL_law_1157 rfl 0 rfl ?_
  refine lw_iload dL_law_1158 rfl 3 rfl ?_
  refine lw_iconst (v := 1) dL_law_1159 (by decide) ?_
  refine lw_iadd (v := nI (i + 1)) dL_law_1160 (nI_add i 1) ?_
  refine lw_sld (i := i + 1) (by omega) (by omega) dL_law_1161 ?_
  refine lw_aload dL_law_1162 rfl 0 rfl ?_
  refine lw_iload dL_law_1163 rfl 3 rfl ?_
  refine lw_iconst (v := 2) dL_law_1164 (by decide) ?_
  refine lw_iadd (v := nI (i + 2)) dL_law_1165 (nI_add i 2) ?_
  refine lw_sld (i := i + 2) (by omega) (by omega) dL_law_1166 ?_
  refine lw_callC [.int (xs (i + 1)), .int (xs (i + 2))] (tX10_keepCounts c.2.1 c.2.2.1 c.2.2.2 1 (xs (i + 1)) (xs (i + 2)) hGc) h1 hGc gL_law_X10_keepCounts hX10_keepCounts rfl ⟨Nat.le_of_ble_eq_true rfl, Nat.le_of_ble_eq_true rfl⟩ rfl rfl (Nat.le_of_ble_eq_true rfl) hcs dL_law_1167 ?_
  show lw_V l X b Ln xs Q 1170 [(0, .ref b), (1, .ref (am_B c.1 + 1)), (2, .ref (am_B m.1 + 1)), (3, .int (nI i))] [.int r1.1] (c.1, c.2.1, r1.2.1, r1.2.2) m cells slots
  refine lw_aload dL_law_1170 rfl 2 rfl ?_
  refine lw_aload dL_law_1171 rfl 0 rfl ?_
  refine lw_iload dL_law_1172 rfl 3 rfl ?_
  refine lw_iconst (v := 1) dL_law_1173 (by decide) ?_
  refine lw_iadd (v := nI (i + 1)) dL_law_1174 (nI_add i 1) ?_
  refine lw_sld (i := i + 1) (by omega) (by omega) dL_law_1175 ?_
  refine lw_aload dL_law_1176 rfl 0 rfl ?_
  refine lw_iload dL_law_1177 rfl 3 rfl ?_
  refine lw_iconst (v := 2) dL_law_1178 (by decide) ?_
  refine lw_iadd (v := nI (i + 2)) dL_law_1179 (nI_add i 2) ?_
  refine lw_sld (i := i + 2) (by omega) (by omega) dL_law_1180 ?_
  refine lw_callM [.int (xs (i + 1)), .int (xs (i + 2))] (tX11_keepCounts m.2.1 m.2.2.1 m.2.2.2 1 (xs (i + 1)) (xs (i + 2)) hGm) h2 hGm gL_law_X11_keepCounts hX11_keepCounts rfl ⟨Nat.le_of_ble_eq_true rfl, Nat.le_of_ble_eq_true rfl⟩ rfl rfl (Nat.le_of_ble_eq_true rfl) hcs dL_law_1181 ?_
  show lw_V l X b Ln xs Q 1184 [(0, .ref b), (1, .ref (am_B c.1 + 1)), (2, .ref (am_B m.1 + 1)), (3, .int (nI i))] [.int r2.1, .int r1.1] (c.1, c.2.1, r1.2.1, r1.2.2) (m.1, m.2.1, r2.2.1, r2.2.2) cells slots
  refine lw_ieqT (tgt := 1272) dL_law_1184 rfl heq ?_
  exact k
set_option maxRecDepth 100000 in
set_option maxHeartbeats 4000000 in
theorem lw_case42 {l : Launch} {X : am_X} {b Ln : Nat} {xs : Nat → Int32} {Q : State → Prop} {c m : lw_Wd} {cells slots i : Nat} (hi : i + 4 ≤ Ln) (hLn : Ln ≤ 2048) (hGc : am_G c.1 1 = some (.inl 10)) (hGm : am_G m.1 1 = some (.inl 11)) (hcs : cells ≤ room_1.cells ∧ slots ≤ room_1.slots) {r1 : Int32 × am_I} {r2 : Int32 × am_I} (h1 : pX10_useWord c.2.1 c.2.2.1 c.2.2.2 1 (xs (i + 1)) = some r1) (h2 : pX11_useWord m.2.1 m.2.2.1 m.2.2.2 1 (xs (i + 1)) = some r2) (heq : r1.1 = r2.1) (k : lw_V l X b Ln xs Q 1272 [(0, .ref b), (1, .ref (am_B c.1 + 1)), (2, .ref (am_B m.1 + 1)), (3, .int (nI i))] [] (c.1, c.2.1, r1.2, c.2.2.2) (m.1, m.2.1, r2.2, m.2.2.2) cells slots) : lw_V l X b Ln xs Q 1189 [(0, .ref b), (1, .ref (am_B c.1 + 1)), (2, .ref (am_B m.1 + 1)), (3, .int (nI i))] [] c m cells slots := by
  refine lw_aload dL_law_1189 rfl 1 rfl ?_
  refine lw_aload dL_law_1190 rfl 0 rfl ?_
  refine lw_iload dL_law_1191 rfl 3 rfl ?_
  refine lw_iconst (v := 1) dL_law_1192 (by decide) ?_
  refine lw_iadd (v := nI (i + 1)) dL_law_1193 (nI_add i 1) ?_
  refine lw_sld (i := i + 1) (by omega) (by omega) dL_law_1194 ?_
  refine lw_callC [.int (xs (i + 1))] (tX10_useWord c.2.1 c.2.2.1 c.2.2.2 1 (xs (i + 1)) hGc) h1 hGc gL_law_X10_useWord hX10_useWord rfl ⟨Nat.le_of_ble_eq_true rfl, Nat.le_of_ble_eq_true rfl⟩ rfl rfl (Nat.le_of_ble_eq_true rfl) hcs dL_law_1195 ?_
  show lw_V l X b Ln xs Q 1198 [(0, .ref b), (1, .ref (am_B c.1 + 1)), (2, .ref (am_B m.1 + 1)), (3, .int (nI i))] [.int r1.1] (c.1, c.2.1, r1.2, c.2.2.2) m cells slots
  refine lw_aload dL_law_1198 rfl 2 rfl ?_
  refine lw_aload dL_law_1199 rfl 0 rfl ?_
  refine lw_iload dL_law_1200 rfl 3 rfl ?_
  refine lw_iconst (v := 1) dL_law_1201 (by decide) ?_
  refine lw_iadd (v := nI (i + 1)) dL_law_1202 (nI_add i 1) ?_
  refine lw_sld (i := i + 1) (by omega) (by omega) dL_law_1203 ?_
  refine lw_callM [.int (xs (i + 1))] (tX11_useWord m.2.1 m.2.2.1 m.2.2.2 1 (xs (i + 1)) hGm) h2 hGm gL_law_X11_useWord hX11_useWord rfl ⟨Nat.le_of_ble_eq_true rfl, Nat.le_of_ble_eq_true rfl⟩ rfl rfl (Nat.le_of_ble_eq_true rfl) hcs dL_law_1204 ?_
  show lw_V l X b Ln xs Q 1207 [(0, .ref b), (1, .ref (am_B c.1 + 1)), (2, .ref (am_B m.1 + 1)), (3, .int (nI i))] [.int r2.1, .int r1.1] (c.1, c.2.1, r1.2, c.2.2.2) (m.1, m.2.1, r2.2, m.2.2.2) cells slots
  refine lw_ieqT (tgt := 1272) dL_law_1207 rfl heq ?_
  exact k
set_option maxRecDepth 100000 in
set_option maxHeartbeats 4000000 in
theorem lw_case43 {l : Launch} {X : am_X} {b Ln : Nat} {xs : Nat → Int32} {Q : State → Prop} {c m : lw_Wd} {cells slots i : Nat} (hi : i + 4 ≤ Ln) (hLn : Ln ≤ 2048) (hGc : am_G c.1 1 = some (.inl 10)) (hGm : am_G m.1 1 = some (.inl 11)) (hcs : cells ≤ room_1.cells ∧ slots ≤ room_1.slots) {r1 : Int64} {r2 : Int64} (h1 : pX10_shelfElement c.2.1 c.2.2.1 c.2.2.2 1 (xs (i + 1)) (xs (i + 2)) = some r1) (h2 : pX11_shelfElement m.2.1 m.2.2.1 m.2.2.2 1 (xs (i + 1)) (xs (i + 2)) = some r2) (heq : r1 = r2) (k : lw_V l X b Ln xs Q 1272 [(0, .ref b), (1, .ref (am_B c.1 + 1)), (2, .ref (am_B m.1 + 1)), (3, .int (nI i))] [] (c.1, c.2.1, c.2.2.1, c.2.2.2) (m.1, m.2.1, m.2.2.1, m.2.2.2) cells slots) : lw_V l X b Ln xs Q 1212 [(0, .ref b), (1, .ref (am_B c.1 + 1)), (2, .ref (am_B m.1 + 1)), (3, .int (nI i))] [] c m cells slots := by
  refine lw_aload dL_law_1212 rfl 1 rfl ?_
  refine lw_aload dL_law_1213 rfl 0 rfl ?_
  refine lw_iload dL_law_1214 rfl 3 rfl ?_
  refine lw_iconst (v := 1) dL_law_1215 (by decide) ?_
  refine lw_iadd (v := nI (i + 1)) dL_law_1216 (nI_add i 1) ?_
  refine lw_sld (i := i + 1) (by omega) (by omega) dL_law_1217 ?_
  refine lw_aload dL_law_1218 rfl 0 rfl ?_
  refine lw_iload dL_law_1219 rfl 3 rfl ?_
  refine lw_iconst (v := 2) dL_law_1220 (by decide) ?_
  refine lw_iadd (v := nI (i + 2)) dL_law_1221 (nI_add i 2) ?_
  refine lw_sld (i := i + 2) (by omega) (by omega) dL_law_1222 ?_
  refine lw_callC [.int (xs (i + 1)), .int (xs (i + 2))] (tX10_shelfElement c.2.1 c.2.2.1 c.2.2.2 1 (xs (i + 1)) (xs (i + 2)) hGc) h1 hGc gL_law_X10_shelfElement hX10_shelfElement rfl ⟨Nat.le_of_ble_eq_true rfl, Nat.le_of_ble_eq_true rfl⟩ rfl rfl (Nat.le_of_ble_eq_true rfl) hcs dL_law_1223 ?_
  show lw_V l X b Ln xs Q 1226 [(0, .ref b), (1, .ref (am_B c.1 + 1)), (2, .ref (am_B m.1 + 1)), (3, .int (nI i))] [.long r1] (c.1, c.2.1, c.2.2.1, c.2.2.2) m cells slots
  refine lw_aload dL_law_1226 rfl 2 rfl ?_
  refine lw_aload dL_law_1227 rfl 0 rfl ?_
  refine lw_iload dL_law_1228 rfl 3 rfl ?_
  refine lw_iconst (v := 1) dL_law_1229 (by decide) ?_
  refine lw_iadd (v := nI (i + 1)) dL_law_1230 (nI_add i 1) ?_
  refine lw_sld (i := i + 1) (by omega) (by omega) dL_law_1231 ?_
  refine lw_aload dL_law_1232 rfl 0 rfl ?_
  refine lw_iload dL_law_1233 rfl 3 rfl ?_
  refine lw_iconst (v := 2) dL_law_1234 (by decide) ?_
  refine lw_iadd (v := nI (i + 2)) dL_law_1235 (nI_add i 2) ?_
  refine lw_sld (i := i + 2) (by omega) (by omega) dL_law_1236 ?_
  refine lw_callM [.int (xs (i + 1)), .int (xs (i + 2))] (tX11_shelfElement m.2.1 m.2.2.1 m.2.2.2 1 (xs (i + 1)) (xs (i + 2)) hGm) h2 hGm gL_law_X11_shelfElement hX11_shelfElement rfl ⟨Nat.le_of_ble_eq_true rfl, Nat.le_of_ble_eq_true rfl⟩ rfl rfl (Nat.le_of_ble_eq_true rfl) hcs dL_law_1237 ?_
  show lw_V l X b Ln xs Q 1240 [(0, .ref b), (1, .ref (am_B c.1 + 1)), (2, .ref (am_B m.1 + 1)), (3, .int (nI i))] [.long r2, .long r1] (c.1, c.2.1, c.2.2.1, c.2.2.2) (m.1, m.2.1, m.2.2.1, m.2.2.2) cells slots
  refine lw_lcmp dL_law_1240 ?_
  refine lw_eqT (tgt := 1272) dL_law_1241 rfl (lg_cmp0.mpr heq) ?_
  exact k
set_option maxRecDepth 100000 in
set_option maxHeartbeats 4000000 in
theorem lw_case44 {l : Launch} {X : am_X} {b Ln : Nat} {xs : Nat → Int32} {Q : State → Prop} {c m : lw_Wd} {cells slots i : Nat} (hi : i + 4 ≤ Ln) (hLn : Ln ≤ 2048) (hGc : am_G c.1 1 = some (.inl 10)) (hGm : am_G m.1 1 = some (.inl 11)) (hcs : cells ≤ room_1.cells ∧ slots ≤ room_1.slots) {r1 : Int32 × am_I} {r2 : Int32 × am_I} (h1 : pX10_save c.2.1 c.2.2.1 1 = some r1) (h2 : pX11_save m.2.1 m.2.2.1 1 = some r2) (heq : r1.1 = r2.1) (k : lw_V l X b Ln xs Q 1272 [(0, .ref b), (1, .ref (am_B c.1 + 1)), (2, .ref (am_B m.1 + 1)), (3, .int (nI i))] [] (c.1, c.2.1, r1.2, c.2.2.2) (m.1, m.2.1, r2.2, m.2.2.2) cells slots) : lw_V l X b Ln xs Q 1246 [(0, .ref b), (1, .ref (am_B c.1 + 1)), (2, .ref (am_B m.1 + 1)), (3, .int (nI i))] [] c m cells slots := by
  refine lw_aload dL_law_1246 rfl 1 rfl ?_
  refine lw_callC [] (tX10_save c.2.1 c.2.2.1 c.2.2.2 1  hGc) h1 hGc gL_law_X10_save hX10_save rfl ⟨Nat.le_of_ble_eq_true rfl, Nat.le_of_ble_eq_true rfl⟩ rfl rfl (Nat.le_of_ble_eq_true rfl) hcs dL_law_1247 ?_
  show lw_V l X b Ln xs Q 1250 [(0, .ref b), (1, .ref (am_B c.1 + 1)), (2, .ref (am_B m.1 + 1)), (3, .int (nI i))] [.int r1.1] (c.1, c.2.1, r1.2, c.2.2.2) m cells slots
  refine lw_aload dL_law_1250 rfl 2 rfl ?_
  refine lw_callM [] (tX11_save m.2.1 m.2.2.1 m.2.2.2 1  hGm) h2 hGm gL_law_X11_save hX11_save rfl ⟨Nat.le_of_ble_eq_true rfl, Nat.le_of_ble_eq_true rfl⟩ rfl rfl (Nat.le_of_ble_eq_true rfl) hcs dL_law_1251 ?_
  show lw_V l X b Ln xs Q 1254 [(0, .ref b), (1, .ref (am_B c.1 + 1)), (2, .ref (am_B m.1 + 1)), (3, .int (nI i))] [.int r2.1, .int r1.1] (c.1, c.2.1, r1.2, c.2.2.2) (m.1, m.2.1, r2.2, m.2.2.2) cells slots
  refine lw_ieqT (tgt := 1272) dL_law_1254 rfl heq ?_
  exact k
set_option maxRecDepth 100000 in
set_option maxHeartbeats 4000000 in
theorem lw_case45 {l : Launch} {X : am_X} {b Ln : Nat} {xs : Nat → Int32} {Q : State → Prop} {c m : lw_Wd} {cells slots i : Nat} (hi : i + 4 ≤ Ln) (hLn : Ln ≤ 2048) (hGc : am_G c.1 1 = some (.inl 10)) (hGm : am_G m.1 1 = some (.inl 11)) (hcs : cells ≤ room_1.cells ∧ slots ≤ room_1.slots) {r1 : Int32 × am_I} {r2 : Int32 × am_I} (h1 : pX10_restore c.2.1 c.2.2.1 1 = some r1) (h2 : pX11_restore m.2.1 m.2.2.1 1 = some r2) (heq : r1.1 = r2.1) (k : lw_V l X b Ln xs Q 1272 [(0, .ref b), (1, .ref (am_B c.1 + 1)), (2, .ref (am_B m.1 + 1)), (3, .int (nI i))] [] (c.1, c.2.1, r1.2, c.2.2.2) (m.1, m.2.1, r2.2, m.2.2.2) cells slots) : lw_V l X b Ln xs Q 1259 [(0, .ref b), (1, .ref (am_B c.1 + 1)), (2, .ref (am_B m.1 + 1)), (3, .int (nI i))] [] c m cells slots := by
  refine lw_aload dL_law_1259 rfl 1 rfl ?_
  refine lw_callC [] (tX10_restore c.2.1 c.2.2.1 c.2.2.2 1  hGc) h1 hGc gL_law_X10_restore hX10_restore rfl ⟨Nat.le_of_ble_eq_true rfl, Nat.le_of_ble_eq_true rfl⟩ rfl rfl (Nat.le_of_ble_eq_true rfl) hcs dL_law_1260 ?_
  show lw_V l X b Ln xs Q 1263 [(0, .ref b), (1, .ref (am_B c.1 + 1)), (2, .ref (am_B m.1 + 1)), (3, .int (nI i))] [.int r1.1] (c.1, c.2.1, r1.2, c.2.2.2) m cells slots
  refine lw_aload dL_law_1263 rfl 2 rfl ?_
  refine lw_callM [] (tX11_restore m.2.1 m.2.2.1 m.2.2.2 1  hGm) h2 hGm gL_law_X11_restore hX11_restore rfl ⟨Nat.le_of_ble_eq_true rfl, Nat.le_of_ble_eq_true rfl⟩ rfl rfl (Nat.le_of_ble_eq_true rfl) hcs dL_law_1264 ?_
  show lw_V l X b Ln xs Q 1267 [(0, .ref b), (1, .ref (am_B c.1 + 1)), (2, .ref (am_B m.1 + 1)), (3, .int (nI i))] [.int r2.1, .int r1.1] (c.1, c.2.1, r1.2, c.2.2.2) (m.1, m.2.1, r2.2, m.2.2.2) cells slots
  refine lw_ieqT (tgt := 1272) dL_law_1267 rfl heq ?_
  exact k
