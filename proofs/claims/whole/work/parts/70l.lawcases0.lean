set_option maxRecDepth 100000 in
set_option maxHeartbeats 4000000 in
theorem lw_case0 {l : Launch} {X : am_X} {b Ln : Nat} {xs : Nat → Int32} {Q : State → Prop} {c m : lw_Wd} {cells slots i : Nat} (hi : i + 4 ≤ Ln) (hLn : Ln ≤ 2048) (hGc : am_G c.1 1 = some (.inl 10)) (hGm : am_G m.1 1 = some (.inl 11)) (hcs : cells ≤ room_1.cells ∧ slots ≤ room_1.slots) {r1 : Int32 × am_I} {r2 : Int32 × am_I} (h1 : pX10_reset c.2.1 c.2.2.1 1 (xs (i + 1)) = some r1) (h2 : pX11_reset m.2.1 m.2.2.1 1 (xs (i + 1)) = some r2) (heq : r1.1 = r2.1) (k : lw_V l X b Ln xs Q 1272 [(0, .ref b), (1, .ref (am_B c.1 + 1)), (2, .ref (am_B m.1 + 1)), (3, .int (nI i))] [] (c.1, c.2.1, r1.2, c.2.2.2) (m.1, m.2.1, r2.2, m.2.2.2) cells slots) : lw_V l X b Ln xs Q 232 [(0, .ref b), (1, .ref (am_B c.1 + 1)), (2, .ref (am_B m.1 + 1)), (3, .int (nI i))] [] c m cells slots := by
  refine lw_aload dL_law_232 rfl 1 rfl ?_
  refine lw_aload dL_law_233 rfl 0 rfl ?_
  refine lw_iload dL_law_234 rfl 3 rfl ?_
  refine lw_iconst (v := 1) dL_law_235 (by decide) ?_
  refine lw_iadd (v := nI (i + 1)) dL_law_236 (nI_add i 1) ?_
  refine lw_sld (i := i + 1) (by omega) (by omega) dL_law_237 ?_
  refine lw_callC [.int (xs (i + 1))] (tX10_reset c.2.1 c.2.2.1 c.2.2.2 1 (xs (i + 1)) hGc) h1 hGc gL_law_X10_reset hX10_reset rfl ⟨Nat.le_of_ble_eq_true rfl, Nat.le_of_ble_eq_true rfl⟩ rfl rfl (Nat.le_of_ble_eq_true rfl) hcs dL_law_238 ?_
  show lw_V l X b Ln xs Q 241 [(0, .ref b), (1, .ref (am_B c.1 + 1)), (2, .ref (am_B m.1 + 1)), (3, .int (nI i))] [.int r1.1] (c.1, c.2.1, r1.2, c.2.2.2) m cells slots
  refine lw_aload dL_law_241 rfl 2 rfl ?_
  refine lw_aload dL_law_242 rfl 0 rfl ?_
  refine lw_iload dL_law_243 rfl 3 rfl ?_
  refine lw_iconst (v := 1) dL_law_244 (by decide) ?_
  refine lw_iadd (v := nI (i + 1)) dL_law_245 (nI_add i 1) ?_
  refine lw_sld (i := i + 1) (by omega) (by omega) dL_law_246 ?_
  refine lw_callM [.int (xs (i + 1))] (tX11_reset m.2.1 m.2.2.1 m.2.2.2 1 (xs (i + 1)) hGm) h2 hGm gL_law_X11_reset hX11_reset rfl ⟨Nat.le_of_ble_eq_true rfl, Nat.le_of_ble_eq_true rfl⟩ rfl rfl (Nat.le_of_ble_eq_true rfl) hcs dL_law_247 ?_
  show lw_V l X b Ln xs Q 250 [(0, .ref b), (1, .ref (am_B c.1 + 1)), (2, .ref (am_B m.1 + 1)), (3, .int (nI i))] [.int r2.1, .int r1.1] (c.1, c.2.1, r1.2, c.2.2.2) (m.1, m.2.1, r2.2, m.2.2.2) cells slots
  refine lw_ieqT (tgt := 1272) dL_law_250 rfl heq ?_
  exact k
set_option maxRecDepth 100000 in
set_option maxHeartbeats 4000000 in
theorem lw_case1 {l : Launch} {X : am_X} {b Ln : Nat} {xs : Nat → Int32} {Q : State → Prop} {c m : lw_Wd} {cells slots i : Nat} (hi : i + 4 ≤ Ln) (hLn : Ln ≤ 2048) (hGc : am_G c.1 1 = some (.inl 10)) (hGm : am_G m.1 1 = some (.inl 11)) (hcs : cells ≤ room_1.cells ∧ slots ≤ room_1.slots) {r1 : Int32} {r2 : Int32} (h1 : pX10_stateCount c.2.1 c.2.2.1 1 = some r1) (h2 : pX11_stateCount m.2.2.1 1 = some r2) (heq : r1 = r2) (k : lw_V l X b Ln xs Q 1272 [(0, .ref b), (1, .ref (am_B c.1 + 1)), (2, .ref (am_B m.1 + 1)), (3, .int (nI i))] [] (c.1, c.2.1, c.2.2.1, c.2.2.2) (m.1, m.2.1, m.2.2.1, m.2.2.2) cells slots) : lw_V l X b Ln xs Q 255 [(0, .ref b), (1, .ref (am_B c.1 + 1)), (2, .ref (am_B m.1 + 1)), (3, .int (nI i))] [] c m cells slots := by
  refine lw_aload dL_law_255 rfl 1 rfl ?_
  refine lw_callC [] (tX10_stateCount c.2.1 c.2.2.1 c.2.2.2 1  hGc) h1 hGc gL_law_X10_stateCount hX10_stateCount rfl ⟨Nat.le_of_ble_eq_true rfl, Nat.le_of_ble_eq_true rfl⟩ rfl rfl (Nat.le_of_ble_eq_true rfl) hcs dL_law_256 ?_
  show lw_V l X b Ln xs Q 259 [(0, .ref b), (1, .ref (am_B c.1 + 1)), (2, .ref (am_B m.1 + 1)), (3, .int (nI i))] [.int r1] (c.1, c.2.1, c.2.2.1, c.2.2.2) m cells slots
  refine lw_aload dL_law_259 rfl 2 rfl ?_
  refine lw_callM [] (tX11_stateCount m.2.1 m.2.2.1 m.2.2.2 1  hGm) h2 hGm gL_law_X11_stateCount hX11_stateCount rfl ⟨Nat.le_of_ble_eq_true rfl, Nat.le_of_ble_eq_true rfl⟩ rfl rfl (Nat.le_of_ble_eq_true rfl) hcs dL_law_260 ?_
  show lw_V l X b Ln xs Q 263 [(0, .ref b), (1, .ref (am_B c.1 + 1)), (2, .ref (am_B m.1 + 1)), (3, .int (nI i))] [.int r2, .int r1] (c.1, c.2.1, c.2.2.1, c.2.2.2) (m.1, m.2.1, m.2.2.1, m.2.2.2) cells slots
  refine lw_ieqT (tgt := 1272) dL_law_263 rfl heq ?_
  exact k
set_option maxRecDepth 100000 in
set_option maxHeartbeats 4000000 in
theorem lw_case2 {l : Launch} {X : am_X} {b Ln : Nat} {xs : Nat → Int32} {Q : State → Prop} {c m : lw_Wd} {cells slots i : Nat} (hi : i + 4 ≤ Ln) (hLn : Ln ≤ 2048) (hGc : am_G c.1 1 = some (.inl 10)) (hGm : am_G m.1 1 = some (.inl 11)) (hcs : cells ≤ room_1.cells ∧ slots ≤ room_1.slots) {r1 : Int32 × am_I} {r2 : Int32 × am_I} (h1 : pX10_addTransition c.2.1 c.2.2.1 1 (xs (i + 1)) (xs (i + 2)) (xs (i + 3)) = some r1) (h2 : pX11_addTransition m.2.1 m.2.2.1 1 (xs (i + 1)) (xs (i + 2)) (xs (i + 3)) = some r2) (heq : r1.1 = r2.1) (k : lw_V l X b Ln xs Q 1272 [(0, .ref b), (1, .ref (am_B c.1 + 1)), (2, .ref (am_B m.1 + 1)), (3, .int (nI i))] [] (c.1, c.2.1, r1.2, c.2.2.2) (m.1, m.2.1, r2.2, m.2.2.2) cells slots) : lw_V l X b Ln xs Q 268 [(0, .ref b), (1, .ref (am_B c.1 + 1)), (2, .ref (am_B m.1 + 1)), (3, .int (nI i))] [] c m cells slots := by
  refine lw_aload dL_law_268 rfl 1 rfl ?_
  refine lw_aload dL_law_269 rfl 0 rfl ?_
  refine lw_iload dL_law_270 rfl 3 rfl ?_
  refine lw_iconst (v := 1) dL_law_271 (by decide) ?_
  refine lw_iadd (v := nI (i + 1)) dL_law_272 (nI_add i 1) ?_
  refine lw_sld (i := i + 1) (by omega) (by omega) dL_law_273 ?_
  refine lw_aload dL_law_274 rfl 0 rfl ?_
  refine lw_iload dL_law_275 rfl 3 rfl ?_
  refine lw_iconst (v := 2) dL_law_276 (by decide) ?_
  refine lw_iadd (v := nI (i + 2)) dL_law_277 (nI_add i 2) ?_
  refine lw_sld (i := i + 2) (by omega) (by omega) dL_law_278 ?_
  refine lw_aload dL_law_279 rfl 0 rfl ?_
  refine lw_iload dL_law_280 rfl 3 rfl ?_
  refine lw_iconst (v := 3) dL_law_281 (by decide) ?_
  refine lw_iadd (v := nI (i + 3)) dL_law_282 (nI_add i 3) ?_
  refine lw_sld (i := i + 3) (by omega) (by omega) dL_law_283 ?_
  refine lw_callC [.int (xs (i + 1)), .int (xs (i + 2)), .int (xs (i + 3))] (tX10_addTransition c.2.1 c.2.2.1 c.2.2.2 1 (xs (i + 1)) (xs (i + 2)) (xs (i + 3)) hGc) h1 hGc gL_law_X10_addTransition hX10_addTransition rfl ⟨Nat.le_of_ble_eq_true rfl, Nat.le_of_ble_eq_true rfl⟩ rfl rfl (Nat.le_of_ble_eq_true rfl) hcs dL_law_284 ?_
  show lw_V l X b Ln xs Q 287 [(0, .ref b), (1, .ref (am_B c.1 + 1)), (2, .ref (am_B m.1 + 1)), (3, .int (nI i))] [.int r1.1] (c.1, c.2.1, r1.2, c.2.2.2) m cells slots
  refine lw_aload dL_law_287 rfl 2 rfl ?_
  refine lw_aload dL_law_288 rfl 0 rfl ?_
  refine lw_iload dL_law_289 rfl 3 rfl ?_
  refine lw_iconst (v := 1) dL_law_290 (by decide) ?_
  refine lw_iadd (v := nI (i + 1)) dL_law_291 (nI_add i 1) ?_
  refine lw_sld (i := i + 1) (by omega) (by omega) dL_law_292 ?_
  refine lw_aload dL_law_293 rfl 0 rfl ?_
  refine lw_iload dL_law_294 rfl 3 rfl ?_
  refine lw_iconst (v := 2) dL_law_295 (by decide) ?_
  refine lw_iadd (v := nI (i + 2)) dL_law_296 (nI_add i 2) ?_
  refine lw_sld (i := i + 2) (by omega) (by omega) dL_law_297 ?_
  refine lw_aload dL_law_298 rfl 0 rfl ?_
  refine lw_iload dL_law_299 rfl 3 rfl ?_
  refine lw_iconst (v := 3) dL_law_300 (by decide) ?_
  refine lw_iadd (v := nI (i + 3)) dL_law_301 (nI_add i 3) ?_
  refine lw_sld (i := i + 3) (by omega) (by omega) dL_law_302 ?_
  refine lw_callM [.int (xs (i + 1)), .int (xs (i + 2)), .int (xs (i + 3))] (tX11_addTransition m.2.1 m.2.2.1 m.2.2.2 1 (xs (i + 1)) (xs (i + 2)) (xs (i + 3)) hGm) h2 hGm gL_law_X11_addTransition hX11_addTransition rfl ⟨Nat.le_of_ble_eq_true rfl, Nat.le_of_ble_eq_true rfl⟩ rfl rfl (Nat.le_of_ble_eq_true rfl) hcs dL_law_303 ?_
  show lw_V l X b Ln xs Q 306 [(0, .ref b), (1, .ref (am_B c.1 + 1)), (2, .ref (am_B m.1 + 1)), (3, .int (nI i))] [.int r2.1, .int r1.1] (c.1, c.2.1, r1.2, c.2.2.2) (m.1, m.2.1, r2.2, m.2.2.2) cells slots
  refine lw_ieqT (tgt := 1272) dL_law_306 rfl heq ?_
  exact k
set_option maxRecDepth 100000 in
set_option maxHeartbeats 4000000 in
theorem lw_case3 {l : Launch} {X : am_X} {b Ln : Nat} {xs : Nat → Int32} {Q : State → Prop} {c m : lw_Wd} {cells slots i : Nat} (hi : i + 4 ≤ Ln) (hLn : Ln ≤ 2048) (hGc : am_G c.1 1 = some (.inl 10)) (hGm : am_G m.1 1 = some (.inl 11)) (hcs : cells ≤ room_1.cells ∧ slots ≤ room_1.slots) {r1 : Int32 × am_I} {r2 : Int32 × am_I} (h1 : pX10_removeTransition c.2.1 c.2.2.1 1 (xs (i + 1)) (xs (i + 2)) (xs (i + 3)) = some r1) (h2 : pX11_removeTransition m.2.1 m.2.2.1 1 (xs (i + 1)) (xs (i + 2)) (xs (i + 3)) = some r2) (heq : r1.1 = r2.1) (k : lw_V l X b Ln xs Q 1272 [(0, .ref b), (1, .ref (am_B c.1 + 1)), (2, .ref (am_B m.1 + 1)), (3, .int (nI i))] [] (c.1, c.2.1, r1.2, c.2.2.2) (m.1, m.2.1, r2.2, m.2.2.2) cells slots) : lw_V l X b Ln xs Q 311 [(0, .ref b), (1, .ref (am_B c.1 + 1)), (2, .ref (am_B m.1 + 1)), (3, .int (nI i))] [] c m cells slots := by
  refine lw_aload dL_law_311 rfl 1 rfl ?_
  refine lw_aload dL_law_312 rfl 0 rfl ?_
  refine lw_iload dL_law_313 rfl 3 rfl ?_
  refine lw_iconst (v := 1) dL_law_314 (by decide) ?_
  refine lw_iadd (v := nI (i + 1)) dL_law_315 (nI_add i 1) ?_
  refine lw_sld (i := i + 1) (by omega) (by omega) dL_law_316 ?_
  refine lw_aload dL_law_317 rfl 0 rfl ?_
  refine lw_iload dL_law_318 rfl 3 rfl ?_
  refine lw_iconst (v := 2) dL_law_319 (by decide) ?_
  refine lw_iadd (v := nI (i + 2)) dL_law_320 (nI_add i 2) ?_
  refine lw_sld (i := i + 2) (by omega) (by omega) dL_law_321 ?_
  refine lw_aload dL_law_322 rfl 0 rfl ?_
  refine lw_iload dL_law_323 rfl 3 rfl ?_
  refine lw_iconst (v := 3) dL_law_324 (by decide) ?_
  refine lw_iadd (v := nI (i + 3)) dL_law_325 (nI_add i 3) ?_
  refine lw_sld (i := i + 3) (by omega) (by omega) dL_law_326 ?_
  refine lw_callC [.int (xs (i + 1)), .int (xs (i + 2)), .int (xs (i + 3))] (tX10_removeTransition c.2.1 c.2.2.1 c.2.2.2 1 (xs (i + 1)) (xs (i + 2)) (xs (i + 3)) hGc) h1 hGc gL_law_X10_removeTransition hX10_removeTransition rfl ⟨Nat.le_of_ble_eq_true rfl, Nat.le_of_ble_eq_true rfl⟩ rfl rfl (Nat.le_of_ble_eq_true rfl) hcs dL_law_327 ?_
  show lw_V l X b Ln xs Q 330 [(0, .ref b), (1, .ref (am_B c.1 + 1)), (2, .ref (am_B m.1 + 1)), (3, .int (nI i))] [.int r1.1] (c.1, c.2.1, r1.2, c.2.2.2) m cells slots
  refine lw_aload dL_law_330 rfl 2 rfl ?_
  refine lw_aload dL_law_331 rfl 0 rfl ?_
  refine lw_iload dL_law_332 rfl 3 rfl ?_
  refine lw_iconst (v := 1) dL_law_333 (by decide) ?_
  refine lw_iadd (v := nI (i + 1)) dL_law_334 (nI_add i 1) ?_
  refine lw_sld (i := i + 1) (by omega) (by omega) dL_law_335 ?_
  refine lw_aload dL_law_336 rfl 0 rfl ?_
  refine lw_iload dL_law_337 rfl 3 rfl ?_
  refine lw_iconst (v := 2) dL_law_338 (by decide) ?_
  refine lw_iadd (v := nI (i + 2)) dL_law_339 (nI_add i 2) ?_
  refine lw_sld (i := i + 2) (by omega) (by omega) dL_law_340 ?_
  refine lw_aload dL_law_341 rfl 0 rfl ?_
  refine lw_iload dL_law_342 rfl 3 rfl ?_
  refine lw_iconst (v := 3) dL_law_343 (by decide) ?_
  refine lw_iadd (v := nI (i + 3)) dL_law_344 (nI_add i 3) ?_
  refine lw_sld (i := i + 3) (by omega) (by omega) dL_law_345 ?_
  refine lw_callM [.int (xs (i + 1)), .int (xs (i + 2)), .int (xs (i + 3))] (tX11_removeTransition m.2.1 m.2.2.1 m.2.2.2 1 (xs (i + 1)) (xs (i + 2)) (xs (i + 3)) hGm) h2 hGm gL_law_X11_removeTransition hX11_removeTransition rfl ⟨Nat.le_of_ble_eq_true rfl, Nat.le_of_ble_eq_true rfl⟩ rfl rfl (Nat.le_of_ble_eq_true rfl) hcs dL_law_346 ?_
  show lw_V l X b Ln xs Q 349 [(0, .ref b), (1, .ref (am_B c.1 + 1)), (2, .ref (am_B m.1 + 1)), (3, .int (nI i))] [.int r2.1, .int r1.1] (c.1, c.2.1, r1.2, c.2.2.2) (m.1, m.2.1, r2.2, m.2.2.2) cells slots
  refine lw_ieqT (tgt := 1272) dL_law_349 rfl heq ?_
  exact k
set_option maxRecDepth 100000 in
set_option maxHeartbeats 4000000 in
theorem lw_case4 {l : Launch} {X : am_X} {b Ln : Nat} {xs : Nat → Int32} {Q : State → Prop} {c m : lw_Wd} {cells slots i : Nat} (hi : i + 4 ≤ Ln) (hLn : Ln ≤ 2048) (hGc : am_G c.1 1 = some (.inl 10)) (hGm : am_G m.1 1 = some (.inl 11)) (hcs : cells ≤ room_1.cells ∧ slots ≤ room_1.slots) {r1 : Int32} {r2 : Int32} (h1 : pX10_transitionCount c.2.1 c.2.2.1 1 = some r1) (h2 : pX11_transitionCount m.2.1 m.2.2.1 1 = some r2) (heq : r1 = r2) (k : lw_V l X b Ln xs Q 1272 [(0, .ref b), (1, .ref (am_B c.1 + 1)), (2, .ref (am_B m.1 + 1)), (3, .int (nI i))] [] (c.1, c.2.1, c.2.2.1, c.2.2.2) (m.1, m.2.1, m.2.2.1, m.2.2.2) cells slots) : lw_V l X b Ln xs Q 354 [(0, .ref b), (1, .ref (am_B c.1 + 1)), (2, .ref (am_B m.1 + 1)), (3, .int (nI i))] [] c m cells slots := by
  refine lw_aload dL_law_354 rfl 1 rfl ?_
  refine lw_callC [] (tX10_transitionCount c.2.1 c.2.2.1 c.2.2.2 1  hGc) h1 hGc gL_law_X10_transitionCount hX10_transitionCount rfl ⟨Nat.le_of_ble_eq_true rfl, Nat.le_of_ble_eq_true rfl⟩ rfl rfl (Nat.le_of_ble_eq_true rfl) hcs dL_law_355 ?_
  show lw_V l X b Ln xs Q 358 [(0, .ref b), (1, .ref (am_B c.1 + 1)), (2, .ref (am_B m.1 + 1)), (3, .int (nI i))] [.int r1] (c.1, c.2.1, c.2.2.1, c.2.2.2) m cells slots
  refine lw_aload dL_law_358 rfl 2 rfl ?_
  refine lw_callM [] (tX11_transitionCount m.2.1 m.2.2.1 m.2.2.2 1  hGm) h2 hGm gL_law_X11_transitionCount hX11_transitionCount rfl ⟨Nat.le_of_ble_eq_true rfl, Nat.le_of_ble_eq_true rfl⟩ rfl rfl (Nat.le_of_ble_eq_true rfl) hcs dL_law_359 ?_
  show lw_V l X b Ln xs Q 362 [(0, .ref b), (1, .ref (am_B c.1 + 1)), (2, .ref (am_B m.1 + 1)), (3, .int (nI i))] [.int r2, .int r1] (c.1, c.2.1, c.2.2.1, c.2.2.2) (m.1, m.2.1, m.2.2.1, m.2.2.2) cells slots
  refine lw_ieqT (tgt := 1272) dL_law_362 rfl heq ?_
  exact k
set_option maxRecDepth 100000 in
set_option maxHeartbeats 4000000 in
theorem lw_case5z {l : Launch} {X : am_X} {b Ln : Nat} {xs : Nat → Int32} {Q : State → Prop} {c m : lw_Wd} {cells slots i : Nat} (hi : i + 4 ≤ Ln) (hLn : Ln ≤ 2048) (hGc : am_G c.1 1 = some (.inl 10)) (hGm : am_G m.1 1 = some (.inl 11)) (hcs : cells ≤ room_1.cells ∧ slots ≤ room_1.slots) (hz : xs (i + 2) = 0) {r1 : Int32 × am_I} {r2 : Int32 × am_I} (h1 : pX10_setInitial c.2.1 c.2.2.1 1 (xs (i + 1)) (0 : Int32) = some r1) (h2 : pX11_setInitial m.2.2.1 1 (xs (i + 1)) (0 : Int32) = some r2) (heq : r1.1 = r2.1) (k : lw_V l X b Ln xs Q 1272 [(0, .ref b), (1, .ref (am_B c.1 + 1)), (2, .ref (am_B m.1 + 1)), (3, .int (nI i))] [] (c.1, c.2.1, r1.2, c.2.2.2) (m.1, m.2.1, r2.2, m.2.2.2) cells slots) : lw_V l X b Ln xs Q 367 [(0, .ref b), (1, .ref (am_B c.1 + 1)), (2, .ref (am_B m.1 + 1)), (3, .int (nI i))] [] c m cells slots := by
  refine lw_aload dL_law_367 rfl 1 rfl ?_
  refine lw_aload dL_law_368 rfl 0 rfl ?_
  refine lw_iload dL_law_369 rfl 3 rfl ?_
  refine lw_iconst (v := 1) dL_law_370 (by decide) ?_
  refine lw_iadd (v := nI (i + 1)) dL_law_371 (nI_add i 1) ?_
  refine lw_sld (i := i + 1) (by omega) (by omega) dL_law_372 ?_
  refine lw_aload dL_law_373 rfl 0 rfl ?_
  refine lw_iload dL_law_374 rfl 3 rfl ?_
  refine lw_iconst (v := 2) dL_law_375 (by decide) ?_
  refine lw_iadd (v := nI (i + 2)) dL_law_376 (nI_add i 2) ?_
  refine lw_sld (i := i + 2) (by omega) (by omega) dL_law_377 ?_
  refine lw_eqT (tgt := 385) dL_law_378 rfl hz ?_
  refine lw_iconst (v := 0) dL_law_385 (by decide) ?_
  refine lw_callC [.int (xs (i + 1)), .int (0 : Int32)] (tX10_setInitial c.2.1 c.2.2.1 c.2.2.2 1 (xs (i + 1)) (0 : Int32) hGc) h1 hGc gL_law_X10_setInitial hX10_setInitial rfl ⟨Nat.le_of_ble_eq_true rfl, Nat.le_of_ble_eq_true rfl⟩ rfl rfl (Nat.le_of_ble_eq_true rfl) hcs dL_law_386 ?_
  show lw_V l X b Ln xs Q 389 [(0, .ref b), (1, .ref (am_B c.1 + 1)), (2, .ref (am_B m.1 + 1)), (3, .int (nI i))] [.int r1.1] (c.1, c.2.1, r1.2, c.2.2.2) m cells slots
  refine lw_aload dL_law_389 rfl 2 rfl ?_
  refine lw_aload dL_law_390 rfl 0 rfl ?_
  refine lw_iload dL_law_391 rfl 3 rfl ?_
  refine lw_iconst (v := 1) dL_law_392 (by decide) ?_
  refine lw_iadd (v := nI (i + 1)) dL_law_393 (nI_add i 1) ?_
  refine lw_sld (i := i + 1) (by omega) (by omega) dL_law_394 ?_
  refine lw_aload dL_law_395 rfl 0 rfl ?_
  refine lw_iload dL_law_396 rfl 3 rfl ?_
  refine lw_iconst (v := 2) dL_law_397 (by decide) ?_
  refine lw_iadd (v := nI (i + 2)) dL_law_398 (nI_add i 2) ?_
  refine lw_sld (i := i + 2) (by omega) (by omega) dL_law_399 ?_
  refine lw_eqT (tgt := 407) dL_law_400 rfl hz ?_
  refine lw_iconst (v := 0) dL_law_407 (by decide) ?_
  refine lw_callM [.int (xs (i + 1)), .int (0 : Int32)] (tX11_setInitial m.2.1 m.2.2.1 m.2.2.2 1 (xs (i + 1)) (0 : Int32) hGm) h2 hGm gL_law_X11_setInitial hX11_setInitial rfl ⟨Nat.le_of_ble_eq_true rfl, Nat.le_of_ble_eq_true rfl⟩ rfl rfl (Nat.le_of_ble_eq_true rfl) hcs dL_law_408 ?_
  show lw_V l X b Ln xs Q 411 [(0, .ref b), (1, .ref (am_B c.1 + 1)), (2, .ref (am_B m.1 + 1)), (3, .int (nI i))] [.int r2.1, .int r1.1] (c.1, c.2.1, r1.2, c.2.2.2) (m.1, m.2.1, r2.2, m.2.2.2) cells slots
  refine lw_ieqT (tgt := 1272) dL_law_411 rfl heq ?_
  exact k
set_option maxRecDepth 100000 in
set_option maxHeartbeats 4000000 in
theorem lw_case5n {l : Launch} {X : am_X} {b Ln : Nat} {xs : Nat → Int32} {Q : State → Prop} {c m : lw_Wd} {cells slots i : Nat} (hi : i + 4 ≤ Ln) (hLn : Ln ≤ 2048) (hGc : am_G c.1 1 = some (.inl 10)) (hGm : am_G m.1 1 = some (.inl 11)) (hcs : cells ≤ room_1.cells ∧ slots ≤ room_1.slots) (hz : ¬ xs (i + 2) = 0) {r1 : Int32 × am_I} {r2 : Int32 × am_I} (h1 : pX10_setInitial c.2.1 c.2.2.1 1 (xs (i + 1)) (1 : Int32) = some r1) (h2 : pX11_setInitial m.2.2.1 1 (xs (i + 1)) (1 : Int32) = some r2) (heq : r1.1 = r2.1) (k : lw_V l X b Ln xs Q 1272 [(0, .ref b), (1, .ref (am_B c.1 + 1)), (2, .ref (am_B m.1 + 1)), (3, .int (nI i))] [] (c.1, c.2.1, r1.2, c.2.2.2) (m.1, m.2.1, r2.2, m.2.2.2) cells slots) : lw_V l X b Ln xs Q 367 [(0, .ref b), (1, .ref (am_B c.1 + 1)), (2, .ref (am_B m.1 + 1)), (3, .int (nI i))] [] c m cells slots := by
  refine lw_aload dL_law_367 rfl 1 rfl ?_
  refine lw_aload dL_law_368 rfl 0 rfl ?_
  refine lw_iload dL_law_369 rfl 3 rfl ?_
  refine lw_iconst (v := 1) dL_law_370 (by decide) ?_
  refine lw_iadd (v := nI (i + 1)) dL_law_371 (nI_add i 1) ?_
  refine lw_sld (i := i + 1) (by omega) (by omega) dL_law_372 ?_
  refine lw_aload dL_law_373 rfl 0 rfl ?_
  refine lw_iload dL_law_374 rfl 3 rfl ?_
  refine lw_iconst (v := 2) dL_law_375 (by decide) ?_
  refine lw_iadd (v := nI (i + 2)) dL_law_376 (nI_add i 2) ?_
  refine lw_sld (i := i + 2) (by omega) (by omega) dL_law_377 ?_
  refine lw_eqF (tgt := 385) dL_law_378 rfl hz ?_
  refine lw_iconst (v := 1) dL_law_381 (by decide) ?_
  refine lw_goto (tgt := 386) dL_law_382 rfl ?_
  refine lw_callC [.int (xs (i + 1)), .int (1 : Int32)] (tX10_setInitial c.2.1 c.2.2.1 c.2.2.2 1 (xs (i + 1)) (1 : Int32) hGc) h1 hGc gL_law_X10_setInitial hX10_setInitial rfl ⟨Nat.le_of_ble_eq_true rfl, Nat.le_of_ble_eq_true rfl⟩ rfl rfl (Nat.le_of_ble_eq_true rfl) hcs dL_law_386 ?_
  show lw_V l X b Ln xs Q 389 [(0, .ref b), (1, .ref (am_B c.1 + 1)), (2, .ref (am_B m.1 + 1)), (3, .int (nI i))] [.int r1.1] (c.1, c.2.1, r1.2, c.2.2.2) m cells slots
  refine lw_aload dL_law_389 rfl 2 rfl ?_
  refine lw_aload dL_law_390 rfl 0 rfl ?_
  refine lw_iload dL_law_391 rfl 3 rfl ?_
  refine lw_iconst (v := 1) dL_law_392 (by decide) ?_
  refine lw_iadd (v := nI (i + 1)) dL_law_393 (nI_add i 1) ?_
  refine lw_sld (i := i + 1) (by omega) (by omega) dL_law_394 ?_
  refine lw_aload dL_law_395 rfl 0 rfl ?_
  refine lw_iload dL_law_396 rfl 3 rfl ?_
  refine lw_iconst (v := 2) dL_law_397 (by decide) ?_
  refine lw_iadd (v := nI (i + 2)) dL_law_398 (nI_add i 2) ?_
  refine lw_sld (i := i + 2) (by omega) (by omega) dL_law_399 ?_
  refine lw_eqF (tgt := 407) dL_law_400 rfl hz ?_
  refine lw_iconst (v := 1) dL_law_403 (by decide) ?_
  refine lw_goto (tgt := 408) dL_law_404 rfl ?_
  refine lw_callM [.int (xs (i + 1)), .int (1 : Int32)] (tX11_setInitial m.2.1 m.2.2.1 m.2.2.2 1 (xs (i + 1)) (1 : Int32) hGm) h2 hGm gL_law_X11_setInitial hX11_setInitial rfl ⟨Nat.le_of_ble_eq_true rfl, Nat.le_of_ble_eq_true rfl⟩ rfl rfl (Nat.le_of_ble_eq_true rfl) hcs dL_law_408 ?_
  show lw_V l X b Ln xs Q 411 [(0, .ref b), (1, .ref (am_B c.1 + 1)), (2, .ref (am_B m.1 + 1)), (3, .int (nI i))] [.int r2.1, .int r1.1] (c.1, c.2.1, r1.2, c.2.2.2) (m.1, m.2.1, r2.2, m.2.2.2) cells slots
  refine lw_ieqT (tgt := 1272) dL_law_411 rfl heq ?_
  exact k
set_option maxRecDepth 100000 in
set_option maxHeartbeats 4000000 in
theorem lw_case6z {l : Launch} {X : am_X} {b Ln : Nat} {xs : Nat → Int32} {Q : State → Prop} {c m : lw_Wd} {cells slots i : Nat} (hi : i + 4 ≤ Ln) (hLn : Ln ≤ 2048) (hGc : am_G c.1 1 = some (.inl 10)) (hGm : am_G m.1 1 = some (.inl 11)) (hcs : cells ≤ room_1.cells ∧ slots ≤ room_1.slots) (hz : xs (i + 2) = 0) {r1 : Int32 × am_I} {r2 : Int32 × am_I} (h1 : pX10_setFinal c.2.1 c.2.2.1 1 (xs (i + 1)) (0 : Int32) = some r1) (h2 : pX11_setFinal m.2.2.1 1 (xs (i + 1)) (0 : Int32) = some r2) (heq : r1.1 = r2.1) (k : lw_V l X b Ln xs Q 1272 [(0, .ref b), (1, .ref (am_B c.1 + 1)), (2, .ref (am_B m.1 + 1)), (3, .int (nI i))] [] (c.1, c.2.1, r1.2, c.2.2.2) (m.1, m.2.1, r2.2, m.2.2.2) cells slots) : lw_V l X b Ln xs Q 416 [(0, .ref b), (1, .ref (am_B c.1 + 1)), (2, .ref (am_B m.1 + 1)), (3, .int (nI i))] [] c m cells slots := by
  refine lw_aload dL_law_416 rfl 1 rfl ?_
  refine lw_aload dL_law_417 rfl 0 rfl ?_
  refine lw_iload dL_law_418 rfl 3 rfl ?_
  refine lw_iconst (v := 1) dL_law_419 (by decide) ?_
  refine lw_iadd (v := nI (i + 1)) dL_law_420 (nI_add i 1) ?_
  refine lw_sld (i := i + 1) (by omega) (by omega) dL_law_421 ?_
  refine lw_aload dL_law_422 rfl 0 rfl ?_
  refine lw_iload dL_law_423 rfl 3 rfl ?_
  refine lw_iconst (v := 2) dL_law_424 (by decide) ?_
  refine lw_iadd (v := nI (i + 2)) dL_law_425 (nI_add i 2) ?_
  refine lw_sld (i := i + 2) (by omega) (by omega) dL_law_426 ?_
  refine lw_eqT (tgt := 434) dL_law_427 rfl hz ?_
  refine lw_iconst (v := 0) dL_law_434 (by decide) ?_
  refine lw_callC [.int (xs (i + 1)), .int (0 : Int32)] (tX10_setFinal c.2.1 c.2.2.1 c.2.2.2 1 (xs (i + 1)) (0 : Int32) hGc) h1 hGc gL_law_X10_setFinal hX10_setFinal rfl ⟨Nat.le_of_ble_eq_true rfl, Nat.le_of_ble_eq_true rfl⟩ rfl rfl (Nat.le_of_ble_eq_true rfl) hcs dL_law_435 ?_
  show lw_V l X b Ln xs Q 438 [(0, .ref b), (1, .ref (am_B c.1 + 1)), (2, .ref (am_B m.1 + 1)), (3, .int (nI i))] [.int r1.1] (c.1, c.2.1, r1.2, c.2.2.2) m cells slots
  refine lw_aload dL_law_438 rfl 2 rfl ?_
  refine lw_aload dL_law_439 rfl 0 rfl ?_
  refine lw_iload dL_law_440 rfl 3 rfl ?_
  refine lw_iconst (v := 1) dL_law_441 (by decide) ?_
  refine lw_iadd (v := nI (i + 1)) dL_law_442 (nI_add i 1) ?_
  refine lw_sld (i := i + 1) (by omega) (by omega) dL_law_443 ?_
  refine lw_aload dL_law_444 rfl 0 rfl ?_
  refine lw_iload dL_law_445 rfl 3 rfl ?_
  refine lw_iconst (v := 2) dL_law_446 (by decide) ?_
  refine lw_iadd (v := nI (i + 2)) dL_law_447 (nI_add i 2) ?_
  refine lw_sld (i := i + 2) (by omega) (by omega) dL_law_448 ?_
  refine lw_eqT (tgt := 456) dL_law_449 rfl hz ?_
  refine lw_iconst (v := 0) dL_law_456 (by decide) ?_
  refine lw_callM [.int (xs (i + 1)), .int (0 : Int32)] (tX11_setFinal m.2.1 m.2.2.1 m.2.2.2 1 (xs (i + 1)) (0 : Int32) hGm) h2 hGm gL_law_X11_setFinal hX11_setFinal rfl ⟨Nat.le_of_ble_eq_true rfl, Nat.le_of_ble_eq_true rfl⟩ rfl rfl (Nat.le_of_ble_eq_true rfl) hcs dL_law_457 ?_
  show lw_V l X b Ln xs Q 460 [(0, .ref b), (1, .ref (am_B c.1 + 1)), (2, .ref (am_B m.1 + 1)), (3, .int (nI i))] [.int r2.1, .int r1.1] (c.1, c.2.1, r1.2, c.2.2.2) (m.1, m.2.1, r2.2, m.2.2.2) cells slots
  refine lw_ieqT (tgt := 1272) dL_law_460 rfl heq ?_
  exact k
set_option maxRecDepth 100000 in
set_option maxHeartbeats 4000000 in
theorem lw_case6n {l : Launch} {X : am_X} {b Ln : Nat} {xs : Nat → Int32} {Q : State → Prop} {c m : lw_Wd} {cells slots i : Nat} (hi : i + 4 ≤ Ln) (hLn : Ln ≤ 2048) (hGc : am_G c.1 1 = some (.inl 10)) (hGm : am_G m.1 1 = some (.inl 11)) (hcs : cells ≤ room_1.cells ∧ slots ≤ room_1.slots) (hz : ¬ xs (i + 2) = 0) {r1 : Int32 × am_I} {r2 : Int32 × am_I} (h1 : pX10_setFinal c.2.1 c.2.2.1 1 (xs (i + 1)) (1 : Int32) = some r1) (h2 : pX11_setFinal m.2.2.1 1 (xs (i + 1)) (1 : Int32) = some r2) (heq : r1.1 = r2.1) (k : lw_V l X b Ln xs Q 1272 [(0, .ref b), (1, .ref (am_B c.1 + 1)), (2, .ref (am_B m.1 + 1)), (3, .int (nI i))] [] (c.1, c.2.1, r1.2, c.2.2.2) (m.1, m.2.1, r2.2, m.2.2.2) cells slots) : lw_V l X b Ln xs Q 416 [(0, .ref b), (1, .ref (am_B c.1 + 1)), (2, .ref (am_B m.1 + 1)), (3, .int (nI i))] [] c m cells slots := by
  refine lw_aload dL_law_416 rfl 1 rfl ?_
  refine lw_aload dL_law_417 rfl 0 rfl ?_
  refine lw_iload dL_law_418 rfl 3 rfl ?_
  refine lw_iconst (v := 1) dL_law_419 (by decide) ?_
  refine lw_iadd (v := nI (i + 1)) dL_law_420 (nI_add i 1) ?_
  refine lw_sld (i := i + 1) (by omega) (by omega) dL_law_421 ?_
  refine lw_aload dL_law_422 rfl 0 rfl ?_
  refine lw_iload dL_law_423 rfl 3 rfl ?_
  refine lw_iconst (v := 2) dL_law_424 (by decide) ?_
  refine lw_iadd (v := nI (i + 2)) dL_law_425 (nI_add i 2) ?_
  refine lw_sld (i := i + 2) (by omega) (by omega) dL_law_426 ?_
  refine lw_eqF (tgt := 434) dL_law_427 rfl hz ?_
  refine lw_iconst (v := 1) dL_law_430 (by decide) ?_
  refine lw_goto (tgt := 435) dL_law_431 rfl ?_
  refine lw_callC [.int (xs (i + 1)), .int (1 : Int32)] (tX10_setFinal c.2.1 c.2.2.1 c.2.2.2 1 (xs (i + 1)) (1 : Int32) hGc) h1 hGc gL_law_X10_setFinal hX10_setFinal rfl ⟨Nat.le_of_ble_eq_true rfl, Nat.le_of_ble_eq_true rfl⟩ rfl rfl (Nat.le_of_ble_eq_true rfl) hcs dL_law_435 ?_
  show lw_V l X b Ln xs Q 438 [(0, .ref b), (1, .ref (am_B c.1 + 1)), (2, .ref (am_B m.1 + 1)), (3, .int (nI i))] [.int r1.1] (c.1, c.2.1, r1.2, c.2.2.2) m cells slots
  refine lw_aload dL_law_438 rfl 2 rfl ?_
  refine lw_aload dL_law_439 rfl 0 rfl ?_
  refine lw_iload dL_law_440 rfl 3 rfl ?_
  refine lw_iconst (v := 1) dL_law_441 (by decide) ?_
  refine lw_iadd (v := nI (i + 1)) dL_law_442 (nI_add i 1) ?_
  refine lw_sld (i := i + 1) (by omega) (by omega) dL_law_443 ?_
  refine lw_aload dL_law_444 rfl 0 rfl ?_
  refine lw_iload dL_law_445 rfl 3 rfl ?_
  refine lw_iconst (v := 2) dL_law_446 (by decide) ?_
  refine lw_iadd (v := nI (i + 2)) dL_law_447 (nI_add i 2) ?_
  refine lw_sld (i := i + 2) (by omega) (by omega) dL_law_448 ?_
  refine lw_eqF (tgt := 456) dL_law_449 rfl hz ?_
  refine lw_iconst (v := 1) dL_law_452 (by decide) ?_
  refine lw_goto (tgt := 457) dL_law_453 rfl ?_
  refine lw_callM [.int (xs (i + 1)), .int (1 : Int32)] (tX11_setFinal m.2.1 m.2.2.1 m.2.2.2 1 (xs (i + 1)) (1 : Int32) hGm) h2 hGm gL_law_X11_setFinal hX11_setFinal rfl ⟨Nat.le_of_ble_eq_true rfl, Nat.le_of_ble_eq_true rfl⟩ rfl rfl (Nat.le_of_ble_eq_true rfl) hcs dL_law_457 ?_
  show lw_V l X b Ln xs Q 460 [(0, .ref b), (1, .ref (am_B c.1 + 1)), (2, .ref (am_B m.1 + 1)), (3, .int (nI i))] [.int r2.1, .int r1.1] (c.1, c.2.1, r1.2, c.2.2.2) (m.1, m.2.1, r2.2, m.2.2.2) cells slots
  refine lw_ieqT (tgt := 1272) dL_law_460 rfl heq ?_
  exact k
set_option maxRecDepth 100000 in
set_option maxHeartbeats 4000000 in
theorem lw_case7 {l : Launch} {X : am_X} {b Ln : Nat} {xs : Nat → Int32} {Q : State → Prop} {c m : lw_Wd} {cells slots i : Nat} (hi : i + 4 ≤ Ln) (hLn : Ln ≤ 2048) (hGc : am_G c.1 1 = some (.inl 10)) (hGm : am_G m.1 1 = some (.inl 11)) (hcs : cells ≤ room_1.cells ∧ slots ≤ room_1.slots) {r1 : Int32} {r2 : Int32} (h1 : pX10_initialStates c.2.1 c.2.2.1 1 = some r1) (h2 : pX11_initialStates m.2.2.1 1 = some r2) (heq : r1 = r2) (k : lw_V l X b Ln xs Q 1272 [(0, .ref b), (1, .ref (am_B c.1 + 1)), (2, .ref (am_B m.1 + 1)), (3, .int (nI i))] [] (c.1, c.2.1, c.2.2.1, c.2.2.2) (m.1, m.2.1, m.2.2.1, m.2.2.2) cells slots) : lw_V l X b Ln xs Q 465 [(0, .ref b), (1, .ref (am_B c.1 + 1)), (2, .ref (am_B m.1 + 1)), (3, .int (nI i))] [] c m cells slots := by
  refine lw_aload dL_law_465 rfl 1 rfl ?_
  refine lw_callC [] (tX10_initialStates c.2.1 c.2.2.1 c.2.2.2 1  hGc) h1 hGc gL_law_X10_initialStates hX10_initialStates rfl ⟨Nat.le_of_ble_eq_true rfl, Nat.le_of_ble_eq_true rfl⟩ rfl rfl (Nat.le_of_ble_eq_true rfl) hcs dL_law_466 ?_
  show lw_V l X b Ln xs Q 469 [(0, .ref b), (1, .ref (am_B c.1 + 1)), (2, .ref (am_B m.1 + 1)), (3, .int (nI i))] [.int r1] (c.1, c.2.1, c.2.2.1, c.2.2.2) m cells slots
  refine lw_aload dL_law_469 rfl 2 rfl ?_
  refine lw_callM [] (tX11_initialStates m.2.1 m.2.2.1 m.2.2.2 1  hGm) h2 hGm gL_law_X11_initialStates hX11_initialStates rfl ⟨Nat.le_of_ble_eq_true rfl, Nat.le_of_ble_eq_true rfl⟩ rfl rfl (Nat.le_of_ble_eq_true rfl) hcs dL_law_470 ?_
  show lw_V l X b Ln xs Q 473 [(0, .ref b), (1, .ref (am_B c.1 + 1)), (2, .ref (am_B m.1 + 1)), (3, .int (nI i))] [.int r2, .int r1] (c.1, c.2.1, c.2.2.1, c.2.2.2) (m.1, m.2.1, m.2.2.1, m.2.2.2) cells slots
  refine lw_ieqT (tgt := 1272) dL_law_473 rfl heq ?_
  exact k
set_option maxRecDepth 100000 in
set_option maxHeartbeats 4000000 in
theorem lw_case8 {l : Launch} {X : am_X} {b Ln : Nat} {xs : Nat → Int32} {Q : State → Prop} {c m : lw_Wd} {cells slots i : Nat} (hi : i + 4 ≤ Ln) (hLn : Ln ≤ 2048) (hGc : am_G c.1 1 = some (.inl 10)) (hGm : am_G m.1 1 = some (.inl 11)) (hcs : cells ≤ room_1.cells ∧ slots ≤ room_1.slots) {r1 : Int32} {r2 : Int32} (h1 : pX10_finalStates c.2.1 c.2.2.1 1 = some r1) (h2 : pX11_finalStates m.2.2.1 1 = some r2) (heq : r1 = r2) (k : lw_V l X b Ln xs Q 1272 [(0, .ref b), (1, .ref (am_B c.1 + 1)), (2, .ref (am_B m.1 + 1)), (3, .int (nI i))] [] (c.1, c.2.1, c.2.2.1, c.2.2.2) (m.1, m.2.1, m.2.2.1, m.2.2.2) cells slots) : lw_V l X b Ln xs Q 478 [(0, .ref b), (1, .ref (am_B c.1 + 1)), (2, .ref (am_B m.1 + 1)), (3, .int (nI i))] [] c m cells slots := by
  refine lw_aload dL_law_478 rfl 1 rfl ?_
  refine lw_callC [] (tX10_finalStates c.2.1 c.2.2.1 c.2.2.2 1  hGc) h1 hGc gL_law_X10_finalStates hX10_finalStates rfl ⟨Nat.le_of_ble_eq_true rfl, Nat.le_of_ble_eq_true rfl⟩ rfl rfl (Nat.le_of_ble_eq_true rfl) hcs dL_law_479 ?_
  show lw_V l X b Ln xs Q 482 [(0, .ref b), (1, .ref (am_B c.1 + 1)), (2, .ref (am_B m.1 + 1)), (3, .int (nI i))] [.int r1] (c.1, c.2.1, c.2.2.1, c.2.2.2) m cells slots
  refine lw_aload dL_law_482 rfl 2 rfl ?_
  refine lw_callM [] (tX11_finalStates m.2.1 m.2.2.1 m.2.2.2 1  hGm) h2 hGm gL_law_X11_finalStates hX11_finalStates rfl ⟨Nat.le_of_ble_eq_true rfl, Nat.le_of_ble_eq_true rfl⟩ rfl rfl (Nat.le_of_ble_eq_true rfl) hcs dL_law_483 ?_
  show lw_V l X b Ln xs Q 486 [(0, .ref b), (1, .ref (am_B c.1 + 1)), (2, .ref (am_B m.1 + 1)), (3, .int (nI i))] [.int r2, .int r1] (c.1, c.2.1, c.2.2.1, c.2.2.2) (m.1, m.2.1, m.2.2.1, m.2.2.2) cells slots
  refine lw_ieqT (tgt := 1272) dL_law_486 rfl heq ?_
  exact k
set_option maxRecDepth 100000 in
set_option maxHeartbeats 4000000 in
theorem lw_case9 {l : Launch} {X : am_X} {b Ln : Nat} {xs : Nat → Int32} {Q : State → Prop} {c m : lw_Wd} {cells slots i : Nat} (hi : i + 4 ≤ Ln) (hLn : Ln ≤ 2048) (hGc : am_G c.1 1 = some (.inl 10)) (hGm : am_G m.1 1 = some (.inl 11)) (hcs : cells ≤ room_1.cells ∧ slots ≤ room_1.slots) {r1 : Int32} {r2 : Int32} (h1 : pX10_successors c.2.1 c.2.2.1 1 (xs (i + 1)) (xs (i + 2)) = some r1) (h2 : pX11_successors m.2.1 m.2.2.1 1 (xs (i + 1)) (xs (i + 2)) = some r2) (heq : r1 = r2) (k : lw_V l X b Ln xs Q 1272 [(0, .ref b), (1, .ref (am_B c.1 + 1)), (2, .ref (am_B m.1 + 1)), (3, .int (nI i))] [] (c.1, c.2.1, c.2.2.1, c.2.2.2) (m.1, m.2.1, m.2.2.1, m.2.2.2) cells slots) : lw_V l X b Ln xs Q 491 [(0, .ref b), (1, .ref (am_B c.1 + 1)), (2, .ref (am_B m.1 + 1)), (3, .int (nI i))] [] c m cells slots := by
  refine lw_aload dL_law_491 rfl 1 rfl ?_
  refine lw_aload dL_law_492 rfl 0 rfl ?_
  refine lw_iload dL_law_493 rfl 3 rfl ?_
  refine lw_iconst (v := 1) dL_law_494 (by decide) ?_
  refine lw_iadd (v := nI (i + 1)) dL_law_495 (nI_add i 1) ?_
  refine lw_sld (i := i + 1) (by omega) (by omega) dL_law_496 ?_
  refine lw_aload dL_law_497 rfl 0 rfl ?_
  refine lw_iload dL_law_498 rfl 3 rfl ?_
  refine lw_iconst (v := 2) dL_law_499 (by decide) ?_
  refine lw_iadd (v := nI (i + 2)) dL_law_500 (nI_add i 2) ?_
  refine lw_sld (i := i + 2) (by omega) (by omega) dL_law_501 ?_
  refine lw_callC [.int (xs (i + 1)), .int (xs (i + 2))] (tX10_successors c.2.1 c.2.2.1 c.2.2.2 1 (xs (i + 1)) (xs (i + 2)) hGc) h1 hGc gL_law_X10_successors hX10_successors rfl ⟨Nat.le_of_ble_eq_true rfl, Nat.le_of_ble_eq_true rfl⟩ rfl rfl (Nat.le_of_ble_eq_true rfl) hcs dL_law_502 ?_
  show lw_V l X b Ln xs Q 505 [(0, .ref b), (1, .ref (am_B c.1 + 1)), (2, .ref (am_B m.1 + 1)), (3, .int (nI i))] [.int r1] (c.1, c.2.1, c.2.2.1, c.2.2.2) m cells slots
  refine lw_aload dL_law_505 rfl 2 rfl ?_
  refine lw_aload dL_law_506 rfl 0 rfl ?_
  refine lw_iload dL_law_507 rfl 3 rfl ?_
  refine lw_iconst (v := 1) dL_law_508 (by decide) ?_
  refine lw_iadd (v := nI (i + 1)) dL_law_509 (nI_add i 1) ?_
  refine lw_sld (i := i + 1) (by omega) (by omega) dL_law_510 ?_
  refine lw_aload dL_law_511 rfl 0 rfl ?_
  refine lw_iload dL_law_512 rfl 3 rfl ?_
  refine lw_iconst (v := 2) dL_law_513 (by decide) ?_
  refine lw_iadd (v := nI (i + 2)) dL_law_514 (nI_add i 2) ?_
  refine lw_sld (i := i + 2) (by omega) (by omega) dL_law_515 ?_
  refine lw_callM [.int (xs (i + 1)), .int (xs (i + 2))] (tX11_successors m.2.1 m.2.2.1 m.2.2.2 1 (xs (i + 1)) (xs (i + 2)) hGm) h2 hGm gL_law_X11_successors hX11_successors rfl ⟨Nat.le_of_ble_eq_true rfl, Nat.le_of_ble_eq_true rfl⟩ rfl rfl (Nat.le_of_ble_eq_true rfl) hcs dL_law_516 ?_
  show lw_V l X b Ln xs Q 519 [(0, .ref b), (1, .ref (am_B c.1 + 1)), (2, .ref (am_B m.1 + 1)), (3, .int (nI i))] [.int r2, .int r1] (c.1, c.2.1, c.2.2.1, c.2.2.2) (m.1, m.2.1, m.2.2.1, m.2.2.2) cells slots
  refine lw_ieqT (tgt := 1272) dL_law_519 rfl heq ?_
  exact k
set_option maxRecDepth 100000 in
set_option maxHeartbeats 4000000 in
theorem lw_case10 {l : Launch} {X : am_X} {b Ln : Nat} {xs : Nat → Int32} {Q : State → Prop} {c m : lw_Wd} {cells slots i : Nat} (hi : i + 4 ≤ Ln) (hLn : Ln ≤ 2048) (hGc : am_G c.1 1 = some (.inl 10)) (hGm : am_G m.1 1 = some (.inl 11)) (hcs : cells ≤ room_1.cells ∧ slots ≤ room_1.slots) {r1 : Int32} {r2 : Int32} (h1 : pX10_usefulStates c.2.1 c.2.2.1 1 = some r1) (h2 : pX11_usefulStates m.2.1 m.2.2.1 1 = some r2) (heq : r1 = r2) (k : lw_V l X b Ln xs Q 1272 [(0, .ref b), (1, .ref (am_B c.1 + 1)), (2, .ref (am_B m.1 + 1)), (3, .int (nI i))] [] (c.1, c.2.1, c.2.2.1, c.2.2.2) (m.1, m.2.1, m.2.2.1, m.2.2.2) cells slots) : lw_V l X b Ln xs Q 524 [(0, .ref b), (1, .ref (am_B c.1 + 1)), (2, .ref (am_B m.1 + 1)), (3, .int (nI i))] [] c m cells slots := by
  refine lw_aload dL_law_524 rfl 1 rfl ?_
  refine lw_callC [] (tX10_usefulStates c.2.1 c.2.2.1 c.2.2.2 1  hGc) h1 hGc gL_law_X10_usefulStates hX10_usefulStates rfl ⟨Nat.le_of_ble_eq_true rfl, Nat.le_of_ble_eq_true rfl⟩ rfl rfl (Nat.le_of_ble_eq_true rfl) hcs dL_law_525 ?_
  show lw_V l X b Ln xs Q 528 [(0, .ref b), (1, .ref (am_B c.1 + 1)), (2, .ref (am_B m.1 + 1)), (3, .int (nI i))] [.int r1] (c.1, c.2.1, c.2.2.1, c.2.2.2) m cells slots
  refine lw_aload dL_law_528 rfl 2 rfl ?_
  refine lw_callM [] (tX11_usefulStates m.2.1 m.2.2.1 m.2.2.2 1  hGm) h2 hGm gL_law_X11_usefulStates hX11_usefulStates rfl ⟨Nat.le_of_ble_eq_true rfl, Nat.le_of_ble_eq_true rfl⟩ rfl rfl (Nat.le_of_ble_eq_true rfl) hcs dL_law_529 ?_
  show lw_V l X b Ln xs Q 532 [(0, .ref b), (1, .ref (am_B c.1 + 1)), (2, .ref (am_B m.1 + 1)), (3, .int (nI i))] [.int r2, .int r1] (c.1, c.2.1, c.2.2.1, c.2.2.2) (m.1, m.2.1, m.2.2.1, m.2.2.2) cells slots
  refine lw_ieqT (tgt := 1272) dL_law_532 rfl heq ?_
  exact k
set_option maxRecDepth 100000 in
set_option maxHeartbeats 4000000 in
theorem lw_case11 {l : Launch} {X : am_X} {b Ln : Nat} {xs : Nat → Int32} {Q : State → Prop} {c m : lw_Wd} {cells slots i : Nat} (hi : i + 4 ≤ Ln) (hLn : Ln ≤ 2048) (hGc : am_G c.1 1 = some (.inl 10)) (hGm : am_G m.1 1 = some (.inl 11)) (hcs : cells ≤ room_1.cells ∧ slots ≤ room_1.slots) {r1 : Int32 × am_I} {r2 : Int32 × am_I} (h1 : pX10_trim c.2.1 c.2.2.1 1 = some r1) (h2 : pX11_trim m.2.1 m.2.2.1 1 = some r2) (heq : r1.1 = r2.1) (k : lw_V l X b Ln xs Q 1272 [(0, .ref b), (1, .ref (am_B c.1 + 1)), (2, .ref (am_B m.1 + 1)), (3, .int (nI i))] [] (c.1, c.2.1, r1.2, c.2.2.2) (m.1, m.2.1, r2.2, m.2.2.2) cells slots) : lw_V l X b Ln xs Q 537 [(0, .ref b), (1, .ref (am_B c.1 + 1)), (2, .ref (am_B m.1 + 1)), (3, .int (nI i))] [] c m cells slots := by
  refine lw_aload dL_law_537 rfl 1 rfl ?_
  refine lw_callC [] (tX10_trim c.2.1 c.2.2.1 c.2.2.2 1  hGc) h1 hGc gL_law_X10_trim hX10_trim rfl ⟨Nat.le_of_ble_eq_true rfl, Nat.le_of_ble_eq_true rfl⟩ rfl rfl (Nat.le_of_ble_eq_true rfl) hcs dL_law_538 ?_
  show lw_V l X b Ln xs Q 541 [(0, .ref b), (1, .ref (am_B c.1 + 1)), (2, .ref (am_B m.1 + 1)), (3, .int (nI i))] [.int r1.1] (c.1, c.2.1, r1.2, c.2.2.2) m cells slots
  refine lw_aload dL_law_541 rfl 2 rfl ?_
  refine lw_callM [] (tX11_trim m.2.1 m.2.2.1 m.2.2.2 1  hGm) h2 hGm gL_law_X11_trim hX11_trim rfl ⟨Nat.le_of_ble_eq_true rfl, Nat.le_of_ble_eq_true rfl⟩ rfl rfl (Nat.le_of_ble_eq_true rfl) hcs dL_law_542 ?_
  show lw_V l X b Ln xs Q 545 [(0, .ref b), (1, .ref (am_B c.1 + 1)), (2, .ref (am_B m.1 + 1)), (3, .int (nI i))] [.int r2.1, .int r1.1] (c.1, c.2.1, r1.2, c.2.2.2) (m.1, m.2.1, r2.2, m.2.2.2) cells slots
  refine lw_ieqT (tgt := 1272) dL_law_545 rfl heq ?_
  exact k
set_option maxRecDepth 100000 in
set_option maxHeartbeats 4000000 in
theorem lw_case12 {l : Launch} {X : am_X} {b Ln : Nat} {xs : Nat → Int32} {Q : State → Prop} {c m : lw_Wd} {cells slots i : Nat} (hi : i + 4 ≤ Ln) (hLn : Ln ≤ 2048) (hGc : am_G c.1 1 = some (.inl 10)) (hGm : am_G m.1 1 = some (.inl 11)) (hcs : cells ≤ room_1.cells ∧ slots ≤ room_1.slots) {r1 : Int32 × am_I} {r2 : Int32 × am_I} (h1 : pX10_randomize c.2.1 c.2.2.1 1 (xs (i + 1)) (xs (i + 2)) = some r1) (h2 : pX11_randomize m.2.1 m.2.2.1 1 (xs (i + 1)) (xs (i + 2)) = some r2) (heq : r1.1 = r2.1) (k : lw_V l X b Ln xs Q 1272 [(0, .ref b), (1, .ref (am_B c.1 + 1)), (2, .ref (am_B m.1 + 1)), (3, .int (nI i))] [] (c.1, c.2.1, r1.2, c.2.2.2) (m.1, m.2.1, r2.2, m.2.2.2) cells slots) : lw_V l X b Ln xs Q 550 [(0, .ref b), (1, .ref (am_B c.1 + 1)), (2, .ref (am_B m.1 + 1)), (3, .int (nI i))] [] c m cells slots := by
  refine lw_aload dL_law_550 rfl 1 rfl ?_
  refine lw_aload dL_law_551 rfl 0 rfl ?_
  refine lw_iload dL_law_552 rfl 3 rfl ?_
  refine lw_iconst (v := 1) dL_law_553 (by decide) ?_
  refine lw_iadd (v := nI (i + 1)) dL_law_554 (nI_add i 1) ?_
  refine lw_sld (i := i + 1) (by omega) (by omega) dL_law_555 ?_
  refine lw_aload dL_law_556 rfl 0 rfl ?_
  refine lw_iload dL_law_557 rfl 3 rfl ?_
  refine lw_iconst (v := 2) dL_law_558 (by decide) ?_
  refine lw_iadd (v := nI (i + 2)) dL_law_559 (nI_add i 2) ?_
  refine lw_sld (i := i + 2) (by omega) (by omega) dL_law_560 ?_
  refine lw_callC [.int (xs (i + 1)), .int (xs (i + 2))] (tX10_randomize c.2.1 c.2.2.1 c.2.2.2 1 (xs (i + 1)) (xs (i + 2)) hGc) h1 hGc gL_law_X10_randomize hX10_randomize rfl ⟨Nat.le_of_ble_eq_true rfl, Nat.le_of_ble_eq_true rfl⟩ rfl rfl (Nat.le_of_ble_eq_true rfl) hcs dL_law_561 ?_
  show lw_V l X b Ln xs Q 564 [(0, .ref b), (1, .ref (am_B c.1 + 1)), (2, .ref (am_B m.1 + 1)), (3, .int (nI i))] [.int r1.1] (c.1, c.2.1, r1.2, c.2.2.2) m cells slots
  refine lw_aload dL_law_564 rfl 2 rfl ?_
  refine lw_aload dL_law_565 rfl 0 rfl ?_
  refine lw_iload dL_law_566 rfl 3 rfl ?_
  refine lw_iconst (v := 1) dL_law_567 (by decide) ?_
  refine lw_iadd (v := nI (i + 1)) dL_law_568 (nI_add i 1) ?_
  refine lw_sld (i := i + 1) (by omega) (by omega) dL_law_569 ?_
  refine lw_aload dL_law_570 rfl 0 rfl ?_
  refine lw_iload dL_law_571 rfl 3 rfl ?_
  refine lw_iconst (v := 2) dL_law_572 (by decide) ?_
  refine lw_iadd (v := nI (i + 2)) dL_law_573 (nI_add i 2) ?_
  refine lw_sld (i := i + 2) (by omega) (by omega) dL_law_574 ?_
  refine lw_callM [.int (xs (i + 1)), .int (xs (i + 2))] (tX11_randomize m.2.1 m.2.2.1 m.2.2.2 1 (xs (i + 1)) (xs (i + 2)) hGm) h2 hGm gL_law_X11_randomize hX11_randomize rfl ⟨Nat.le_of_ble_eq_true rfl, Nat.le_of_ble_eq_true rfl⟩ rfl rfl (Nat.le_of_ble_eq_true rfl) hcs dL_law_575 ?_
  show lw_V l X b Ln xs Q 578 [(0, .ref b), (1, .ref (am_B c.1 + 1)), (2, .ref (am_B m.1 + 1)), (3, .int (nI i))] [.int r2.1, .int r1.1] (c.1, c.2.1, r1.2, c.2.2.2) (m.1, m.2.1, r2.2, m.2.2.2) cells slots
  refine lw_ieqT (tgt := 1272) dL_law_578 rfl heq ?_
  exact k
set_option maxRecDepth 100000 in
set_option maxHeartbeats 4000000 in
theorem lw_case13 {l : Launch} {X : am_X} {b Ln : Nat} {xs : Nat → Int32} {Q : State → Prop} {c m : lw_Wd} {cells slots i : Nat} (hi : i + 4 ≤ Ln) (hLn : Ln ≤ 2048) (hGc : am_G c.1 1 = some (.inl 10)) (hGm : am_G m.1 1 = some (.inl 11)) (hcs : cells ≤ room_1.cells ∧ slots ≤ room_1.slots) {r1 : Int32 × am_I} {r2 : Int32 × am_I} (h1 : pX10_append c.2.1 c.2.2.1 1 (xs (i + 1)) = some r1) (h2 : pX11_append m.2.1 m.2.2.1 1 (xs (i + 1)) = some r2) (heq : r1.1 = r2.1) (k : lw_V l X b Ln xs Q 1272 [(0, .ref b), (1, .ref (am_B c.1 + 1)), (2, .ref (am_B m.1 + 1)), (3, .int (nI i))] [] (c.1, c.2.1, r1.2, c.2.2.2) (m.1, m.2.1, r2.2, m.2.2.2) cells slots) : lw_V l X b Ln xs Q 583 [(0, .ref b), (1, .ref (am_B c.1 + 1)), (2, .ref (am_B m.1 + 1)), (3, .int (nI i))] [] c m cells slots := by
  refine lw_aload dL_law_583 rfl 1 rfl ?_
  refine lw_aload dL_law_584 rfl 0 rfl ?_
  refine lw_iload dL_law_585 rfl 3 rfl ?_
  refine lw_iconst (v := 1) dL_law_586 (by decide) ?_
  refine lw_iadd (v := nI (i + 1)) dL_law_587 (nI_add i 1) ?_
  refine lw_sld (i := i + 1) (by omega) (by omega) dL_law_588 ?_
  refine lw_callC [.int (xs (i + 1))] (tX10_append c.2.1 c.2.2.1 c.2.2.2 1 (xs (i + 1)) hGc) h1 hGc gL_law_X10_append hX10_append rfl ⟨Nat.le_of_ble_eq_true rfl, Nat.le_of_ble_eq_true rfl⟩ rfl rfl (Nat.le_of_ble_eq_true rfl) hcs dL_law_589 ?_
  show lw_V l X b Ln xs Q 592 [(0, .ref b), (1, .ref (am_B c.1 + 1)), (2, .ref (am_B m.1 + 1)), (3, .int (nI i))] [.int r1.1] (c.1, c.2.1, r1.2, c.2.2.2) m cells slots
  refine lw_aload dL_law_592 rfl 2 rfl ?_
  refine lw_aload dL_law_593 rfl 0 rfl ?_
  refine lw_iload dL_law_594 rfl 3 rfl ?_
  refine lw_iconst (v := 1) dL_law_595 (by decide) ?_
  refine lw_iadd (v := nI (i + 1)) dL_law_596 (nI_add i 1) ?_
  refine lw_sld (i := i + 1) (by omega) (by omega) dL_law_597 ?_
  refine lw_callM [.int (xs (i + 1))] (tX11_append m.2.1 m.2.2.1 m.2.2.2 1 (xs (i + 1)) hGm) h2 hGm gL_law_X11_append hX11_append rfl ⟨Nat.le_of_ble_eq_true rfl, Nat.le_of_ble_eq_true rfl⟩ rfl rfl (Nat.le_of_ble_eq_true rfl) hcs dL_law_598 ?_
  show lw_V l X b Ln xs Q 601 [(0, .ref b), (1, .ref (am_B c.1 + 1)), (2, .ref (am_B m.1 + 1)), (3, .int (nI i))] [.int r2.1, .int r1.1] (c.1, c.2.1, r1.2, c.2.2.2) (m.1, m.2.1, r2.2, m.2.2.2) cells slots
  refine lw_ieqT (tgt := 1272) dL_law_601 rfl heq ?_
  exact k
set_option maxRecDepth 100000 in
set_option maxHeartbeats 4000000 in
theorem lw_case14 {l : Launch} {X : am_X} {b Ln : Nat} {xs : Nat → Int32} {Q : State → Prop} {c m : lw_Wd} {cells slots i : Nat} (hi : i + 4 ≤ Ln) (hLn : Ln ≤ 2048) (hGc : am_G c.1 1 = some (.inl 10)) (hGm : am_G m.1 1 = some (.inl 11)) (hcs : cells ≤ room_1.cells ∧ slots ≤ room_1.slots) {r1 : Int32 × am_I} {r2 : Int32 × am_I} (h1 : pX10_parse c.2.1 c.2.2.1 1 = some r1) (h2 : pX11_parse m.2.1 m.2.2.1 1 = some r2) (heq : r1.1 = r2.1) (k : lw_V l X b Ln xs Q 1272 [(0, .ref b), (1, .ref (am_B c.1 + 1)), (2, .ref (am_B m.1 + 1)), (3, .int (nI i))] [] (c.1, c.2.1, r1.2, c.2.2.2) (m.1, m.2.1, r2.2, m.2.2.2) cells slots) : lw_V l X b Ln xs Q 606 [(0, .ref b), (1, .ref (am_B c.1 + 1)), (2, .ref (am_B m.1 + 1)), (3, .int (nI i))] [] c m cells slots := by
  refine lw_aload dL_law_606 rfl 1 rfl ?_
  refine lw_callC [] (tX10_parse c.2.1 c.2.2.1 c.2.2.2 1  hGc) h1 hGc gL_law_X10_parse hX10_parse rfl ⟨Nat.le_of_ble_eq_true rfl, Nat.le_of_ble_eq_true rfl⟩ rfl rfl (Nat.le_of_ble_eq_true rfl) hcs dL_law_607 ?_
  show lw_V l X b Ln xs Q 610 [(0, .ref b), (1, .ref (am_B c.1 + 1)), (2, .ref (am_B m.1 + 1)), (3, .int (nI i))] [.int r1.1] (c.1, c.2.1, r1.2, c.2.2.2) m cells slots
  refine lw_aload dL_law_610 rfl 2 rfl ?_
  refine lw_callM [] (tX11_parse m.2.1 m.2.2.1 m.2.2.2 1  hGm) h2 hGm gL_law_X11_parse hX11_parse rfl ⟨Nat.le_of_ble_eq_true rfl, Nat.le_of_ble_eq_true rfl⟩ rfl rfl (Nat.le_of_ble_eq_true rfl) hcs dL_law_611 ?_
  show lw_V l X b Ln xs Q 614 [(0, .ref b), (1, .ref (am_B c.1 + 1)), (2, .ref (am_B m.1 + 1)), (3, .int (nI i))] [.int r2.1, .int r1.1] (c.1, c.2.1, r1.2, c.2.2.2) (m.1, m.2.1, r2.2, m.2.2.2) cells slots
  refine lw_ieqT (tgt := 1272) dL_law_614 rfl heq ?_
  exact k
set_option maxRecDepth 100000 in
set_option maxHeartbeats 4000000 in
theorem lw_case15 {l : Launch} {X : am_X} {b Ln : Nat} {xs : Nat → Int32} {Q : State → Prop} {c m : lw_Wd} {cells slots i : Nat} (hi : i + 4 ≤ Ln) (hLn : Ln ≤ 2048) (hGc : am_G c.1 1 = some (.inl 10)) (hGm : am_G m.1 1 = some (.inl 11)) (hcs : cells ≤ room_1.cells ∧ slots ≤ room_1.slots) {r1 : Int32 × am_I} {r2 : Int32 × am_I} (h1 : pX10_appendLetter c.2.1 c.2.2.1 1 (xs (i + 1)) = some r1) (h2 : pX11_appendLetter m.2.1 m.2.2.1 1 (xs (i + 1)) = some r2) (heq : r1.1 = r2.1) (k : lw_V l X b Ln xs Q 1272 [(0, .ref b), (1, .ref (am_B c.1 + 1)), (2, .ref (am_B m.1 + 1)), (3, .int (nI i))] [] (c.1, c.2.1, r1.2, c.2.2.2) (m.1, m.2.1, r2.2, m.2.2.2) cells slots) : lw_V l X b Ln xs Q 619 [(0, .ref b), (1, .ref (am_B c.1 + 1)), (2, .ref (am_B m.1 + 1)), (3, .int (nI i))] [] c m cells slots := by
  refine lw_aload dL_law_619 rfl 1 rfl ?_
  refine lw_aload dL_law_620 rfl 0 rfl ?_
  refine lw_iload dL_law_621 rfl 3 rfl ?_
  refine lw_iconst (v := 1) dL_law_622 (by decide) ?_
  refine lw_iadd (v := nI (i + 1)) dL_law_623 (nI_add i 1) ?_
  refine lw_sld (i := i + 1) (by omega) (by omega) dL_law_624 ?_
  refine lw_callC [.int (xs (i + 1))] (tX10_appendLetter c.2.1 c.2.2.1 c.2.2.2 1 (xs (i + 1)) hGc) h1 hGc gL_law_X10_appendLetter hX10_appendLetter rfl ⟨Nat.le_of_ble_eq_true rfl, Nat.le_of_ble_eq_true rfl⟩ rfl rfl (Nat.le_of_ble_eq_true rfl) hcs dL_law_625 ?_
  show lw_V l X b Ln xs Q 628 [(0, .ref b), (1, .ref (am_B c.1 + 1)), (2, .ref (am_B m.1 + 1)), (3, .int (nI i))] [.int r1.1] (c.1, c.2.1, r1.2, c.2.2.2) m cells slots
  refine lw_aload dL_law_628 rfl 2 rfl ?_
  refine lw_aload dL_law_629 rfl 0 rfl ?_
  refine lw_iload dL_law_630 rfl 3 rfl ?_
  refine lw_iconst (v := 1) dL_law_631 (by decide) ?_
  refine lw_iadd (v := nI (i + 1)) dL_law_632 (nI_add i 1) ?_
  refine lw_sld (i := i + 1) (by omega) (by omega) dL_law_633 ?_
  refine lw_callM [.int (xs (i + 1))] (tX11_appendLetter m.2.1 m.2.2.1 m.2.2.2 1 (xs (i + 1)) hGm) h2 hGm gL_law_X11_appendLetter hX11_appendLetter rfl ⟨Nat.le_of_ble_eq_true rfl, Nat.le_of_ble_eq_true rfl⟩ rfl rfl (Nat.le_of_ble_eq_true rfl) hcs dL_law_634 ?_
  show lw_V l X b Ln xs Q 637 [(0, .ref b), (1, .ref (am_B c.1 + 1)), (2, .ref (am_B m.1 + 1)), (3, .int (nI i))] [.int r2.1, .int r1.1] (c.1, c.2.1, r1.2, c.2.2.2) (m.1, m.2.1, r2.2, m.2.2.2) cells slots
  refine lw_ieqT (tgt := 1272) dL_law_637 rfl heq ?_
  exact k
set_option maxRecDepth 100000 in
set_option maxHeartbeats 4000000 in
theorem lw_case16 {l : Launch} {X : am_X} {b Ln : Nat} {xs : Nat → Int32} {Q : State → Prop} {c m : lw_Wd} {cells slots i : Nat} (hi : i + 4 ≤ Ln) (hLn : Ln ≤ 2048) (hGc : am_G c.1 1 = some (.inl 10)) (hGm : am_G m.1 1 = some (.inl 11)) (hcs : cells ≤ room_1.cells ∧ slots ≤ room_1.slots) {r1 : Int32 × am_I} {r2 : Int32 × am_I} (h1 : pX10_clearWord c.2.1 c.2.2.1 1 = some r1) (h2 : pX11_clearWord m.2.2.1 1 = some r2) (heq : r1.1 = r2.1) (k : lw_V l X b Ln xs Q 1272 [(0, .ref b), (1, .ref (am_B c.1 + 1)), (2, .ref (am_B m.1 + 1)), (3, .int (nI i))] [] (c.1, c.2.1, r1.2, c.2.2.2) (m.1, m.2.1, r2.2, m.2.2.2) cells slots) : lw_V l X b Ln xs Q 642 [(0, .ref b), (1, .ref (am_B c.1 + 1)), (2, .ref (am_B m.1 + 1)), (3, .int (nI i))] [] c m cells slots := by
  refine lw_aload dL_law_642 rfl 1 rfl ?_
  refine lw_callC [] (tX10_clearWord c.2.1 c.2.2.1 c.2.2.2 1  hGc) h1 hGc gL_law_X10_clearWord hX10_clearWord rfl ⟨Nat.le_of_ble_eq_true rfl, Nat.le_of_ble_eq_true rfl⟩ rfl rfl (Nat.le_of_ble_eq_true rfl) hcs dL_law_643 ?_
  show lw_V l X b Ln xs Q 646 [(0, .ref b), (1, .ref (am_B c.1 + 1)), (2, .ref (am_B m.1 + 1)), (3, .int (nI i))] [.int r1.1] (c.1, c.2.1, r1.2, c.2.2.2) m cells slots
  refine lw_aload dL_law_646 rfl 2 rfl ?_
  refine lw_callM [] (tX11_clearWord m.2.1 m.2.2.1 m.2.2.2 1  hGm) h2 hGm gL_law_X11_clearWord hX11_clearWord rfl ⟨Nat.le_of_ble_eq_true rfl, Nat.le_of_ble_eq_true rfl⟩ rfl rfl (Nat.le_of_ble_eq_true rfl) hcs dL_law_647 ?_
  show lw_V l X b Ln xs Q 650 [(0, .ref b), (1, .ref (am_B c.1 + 1)), (2, .ref (am_B m.1 + 1)), (3, .int (nI i))] [.int r2.1, .int r1.1] (c.1, c.2.1, r1.2, c.2.2.2) (m.1, m.2.1, r2.2, m.2.2.2) cells slots
  refine lw_ieqT (tgt := 1272) dL_law_650 rfl heq ?_
  exact k
set_option maxRecDepth 100000 in
set_option maxHeartbeats 4000000 in
theorem lw_case17 {l : Launch} {X : am_X} {b Ln : Nat} {xs : Nat → Int32} {Q : State → Prop} {c m : lw_Wd} {cells slots i : Nat} (hi : i + 4 ≤ Ln) (hLn : Ln ≤ 2048) (hGc : am_G c.1 1 = some (.inl 10)) (hGm : am_G m.1 1 = some (.inl 11)) (hcs : cells ≤ room_1.cells ∧ slots ≤ room_1.slots) {r1 : Int32} {r2 : Int32} (h1 : pX10_wordLength c.2.1 c.2.2.1 1 = some r1) (h2 : pX11_wordLength m.2.2.1 1 = some r2) (heq : r1 = r2) (k : lw_V l X b Ln xs Q 1272 [(0, .ref b), (1, .ref (am_B c.1 + 1)), (2, .ref (am_B m.1 + 1)), (3, .int (nI i))] [] (c.1, c.2.1, c.2.2.1, c.2.2.2) (m.1, m.2.1, m.2.2.1, m.2.2.2) cells slots) : lw_V l X b Ln xs Q 655 [(0, .ref b), (1, .ref (am_B c.1 + 1)), (2, .ref (am_B m.1 + 1)), (3, .int (nI i))] [] c m cells slots := by
  refine lw_aload dL_law_655 rfl 1 rfl ?_
  refine lw_callC [] (tX10_wordLength c.2.1 c.2.2.1 c.2.2.2 1  hGc) h1 hGc gL_law_X10_wordLength hX10_wordLength rfl ⟨Nat.le_of_ble_eq_true rfl, Nat.le_of_ble_eq_true rfl⟩ rfl rfl (Nat.le_of_ble_eq_true rfl) hcs dL_law_656 ?_
  show lw_V l X b Ln xs Q 659 [(0, .ref b), (1, .ref (am_B c.1 + 1)), (2, .ref (am_B m.1 + 1)), (3, .int (nI i))] [.int r1] (c.1, c.2.1, c.2.2.1, c.2.2.2) m cells slots
  refine lw_aload dL_law_659 rfl 2 rfl ?_
  refine lw_callM [] (tX11_wordLength m.2.1 m.2.2.1 m.2.2.2 1  hGm) h2 hGm gL_law_X11_wordLength hX11_wordLength rfl ⟨Nat.le_of_ble_eq_true rfl, Nat.le_of_ble_eq_true rfl⟩ rfl rfl (Nat.le_of_ble_eq_true rfl) hcs dL_law_660 ?_
  show lw_V l X b Ln xs Q 663 [(0, .ref b), (1, .ref (am_B c.1 + 1)), (2, .ref (am_B m.1 + 1)), (3, .int (nI i))] [.int r2, .int r1] (c.1, c.2.1, c.2.2.1, c.2.2.2) (m.1, m.2.1, m.2.2.1, m.2.2.2) cells slots
  refine lw_ieqT (tgt := 1272) dL_law_663 rfl heq ?_
  exact k
set_option maxRecDepth 100000 in
set_option maxHeartbeats 4000000 in
theorem lw_case18 {l : Launch} {X : am_X} {b Ln : Nat} {xs : Nat → Int32} {Q : State → Prop} {c m : lw_Wd} {cells slots i : Nat} (hi : i + 4 ≤ Ln) (hLn : Ln ≤ 2048) (hGc : am_G c.1 1 = some (.inl 10)) (hGm : am_G m.1 1 = some (.inl 11)) (hcs : cells ≤ room_1.cells ∧ slots ≤ room_1.slots) {r1 : Int32} {r2 : Int32} (h1 : pX10_wordLetter c.2.1 c.2.2.1 1 (xs (i + 1)) = some r1) (h2 : pX11_wordLetter m.2.1 m.2.2.1 1 (xs (i + 1)) = some r2) (heq : r1 = r2) (k : lw_V l X b Ln xs Q 1272 [(0, .ref b), (1, .ref (am_B c.1 + 1)), (2, .ref (am_B m.1 + 1)), (3, .int (nI i))] [] (c.1, c.2.1, c.2.2.1, c.2.2.2) (m.1, m.2.1, m.2.2.1, m.2.2.2) cells slots) : lw_V l X b Ln xs Q 668 [(0, .ref b), (1, .ref (am_B c.1 + 1)), (2, .ref (am_B m.1 + 1)), (3, .int (nI i))] [] c m cells slots := by
  refine lw_aload dL_law_668 rfl 1 rfl ?_
  refine lw_aload dL_law_669 rfl 0 rfl ?_
  refine lw_iload dL_law_670 rfl 3 rfl ?_
  refine lw_iconst (v := 1) dL_law_671 (by decide) ?_
  refine lw_iadd (v := nI (i + 1)) dL_law_672 (nI_add i 1) ?_
  refine lw_sld (i := i + 1) (by omega) (by omega) dL_law_673 ?_
  refine lw_callC [.int (xs (i + 1))] (tX10_wordLetter c.2.1 c.2.2.1 c.2.2.2 1 (xs (i + 1)) hGc) h1 hGc gL_law_X10_wordLetter hX10_wordLetter rfl ⟨Nat.le_of_ble_eq_true rfl, Nat.le_of_ble_eq_true rfl⟩ rfl rfl (Nat.le_of_ble_eq_true rfl) hcs dL_law_674 ?_
  show lw_V l X b Ln xs Q 677 [(0, .ref b), (1, .ref (am_B c.1 + 1)), (2, .ref (am_B m.1 + 1)), (3, .int (nI i))] [.int r1] (c.1, c.2.1, c.2.2.1, c.2.2.2) m cells slots
  refine lw_aload dL_law_677 rfl 2 rfl ?_
  refine lw_aload dL_law_678 rfl 0 rfl ?_
  refine lw_iload dL_law_679 rfl 3 rfl ?_
  refine lw_iconst (v := 1) dL_law_680 (by decide) ?_
  refine lw_iadd (v := nI (i + 1)) dL_law_681 (nI_add i 1) ?_
  refine lw_sld (i := i + 1) (by omega) (by omega) dL_law_682 ?_
  refine lw_callM [.int (xs (i + 1))] (tX11_wordLetter m.2.1 m.2.2.1 m.2.2.2 1 (xs (i + 1)) hGm) h2 hGm gL_law_X11_wordLetter hX11_wordLetter rfl ⟨Nat.le_of_ble_eq_true rfl, Nat.le_of_ble_eq_true rfl⟩ rfl rfl (Nat.le_of_ble_eq_true rfl) hcs dL_law_683 ?_
  show lw_V l X b Ln xs Q 686 [(0, .ref b), (1, .ref (am_B c.1 + 1)), (2, .ref (am_B m.1 + 1)), (3, .int (nI i))] [.int r2, .int r1] (c.1, c.2.1, c.2.2.1, c.2.2.2) (m.1, m.2.1, m.2.2.1, m.2.2.2) cells slots
  refine lw_ieqT (tgt := 1272) dL_law_686 rfl heq ?_
  exact k
set_option maxRecDepth 100000 in
set_option maxHeartbeats 4000000 in
theorem lw_case19 {l : Launch} {X : am_X} {b Ln : Nat} {xs : Nat → Int32} {Q : State → Prop} {c m : lw_Wd} {cells slots i : Nat} (hi : i + 4 ≤ Ln) (hLn : Ln ≤ 2048) (hGc : am_G c.1 1 = some (.inl 10)) (hGm : am_G m.1 1 = some (.inl 11)) (hcs : cells ≤ room_1.cells ∧ slots ≤ room_1.slots) {r1 : Int64 × am_L} {r2 : Int64 × am_L} (h1 : pX10_wordAmbiguity c.2.1 c.2.2.1 c.2.2.2 1 = some r1) (h2 : pX11_wordAmbiguity m.2.1 m.2.2.1 m.2.2.2 1 = some r2) (heq : r1.1 = r2.1) (k : lw_V l X b Ln xs Q 1272 [(0, .ref b), (1, .ref (am_B c.1 + 1)), (2, .ref (am_B m.1 + 1)), (3, .int (nI i))] [] (c.1, c.2.1, c.2.2.1, r1.2) (m.1, m.2.1, m.2.2.1, r2.2) cells slots) : lw_V l X b Ln xs Q 691 [(0, .ref b), (1, .ref (am_B c.1 + 1)), (2, .ref (am_B m.1 + 1)), (3, .int (nI i))] [] c m cells slots := by
  refine lw_aload dL_law_691 rfl 1 rfl ?_
  refine lw_callC [] (tX10_wordAmbiguity c.2.1 c.2.2.1 c.2.2.2 1  hGc) h1 hGc gL_law_X10_wordAmbiguity hX10_wordAmbiguity rfl ⟨Nat.le_of_ble_eq_true rfl, Nat.le_of_ble_eq_true rfl⟩ rfl rfl (Nat.le_of_ble_eq_true rfl) hcs dL_law_692 ?_
  show lw_V l X b Ln xs Q 695 [(0, .ref b), (1, .ref (am_B c.1 + 1)), (2, .ref (am_B m.1 + 1)), (3, .int (nI i))] [.long r1.1] (c.1, c.2.1, c.2.2.1, r1.2) m cells slots
  refine lw_aload dL_law_695 rfl 2 rfl ?_
  refine lw_callM [] (tX11_wordAmbiguity m.2.1 m.2.2.1 m.2.2.2 1  hGm) h2 hGm gL_law_X11_wordAmbiguity hX11_wordAmbiguity rfl ⟨Nat.le_of_ble_eq_true rfl, Nat.le_of_ble_eq_true rfl⟩ rfl rfl (Nat.le_of_ble_eq_true rfl) hcs dL_law_696 ?_
  show lw_V l X b Ln xs Q 699 [(0, .ref b), (1, .ref (am_B c.1 + 1)), (2, .ref (am_B m.1 + 1)), (3, .int (nI i))] [.long r2.1, .long r1.1] (c.1, c.2.1, c.2.2.1, r1.2) (m.1, m.2.1, m.2.2.1, r2.2) cells slots
  refine lw_lcmp dL_law_699 ?_
  refine lw_eqT (tgt := 1272) dL_law_700 rfl (lg_cmp0.mpr heq) ?_
  exact k
set_option maxRecDepth 100000 in
set_option maxHeartbeats 4000000 in
theorem lw_case20 {l : Launch} {X : am_X} {b Ln : Nat} {xs : Nat → Int32} {Q : State → Prop} {c m : lw_Wd} {cells slots i : Nat} (hi : i + 4 ≤ Ln) (hLn : Ln ≤ 2048) (hGc : am_G c.1 1 = some (.inl 10)) (hGm : am_G m.1 1 = some (.inl 11)) (hcs : cells ≤ room_1.cells ∧ slots ≤ room_1.slots) {r1 : Int64 × am_L} {r2 : Int64 × am_L} (h1 : pX10_pathsOfLength c.2.1 c.2.2.1 c.2.2.2 1 (xs (i + 1)) = some r1) (h2 : pX11_pathsOfLength m.2.1 m.2.2.1 m.2.2.2 1 (xs (i + 1)) = some r2) (heq : r1.1 = r2.1) (k : lw_V l X b Ln xs Q 1272 [(0, .ref b), (1, .ref (am_B c.1 + 1)), (2, .ref (am_B m.1 + 1)), (3, .int (nI i))] [] (c.1, c.2.1, c.2.2.1, r1.2) (m.1, m.2.1, m.2.2.1, r2.2) cells slots) : lw_V l X b Ln xs Q 705 [(0, .ref b), (1, .ref (am_B c.1 + 1)), (2, .ref (am_B m.1 + 1)), (3, .int (nI i))] [] c m cells slots := by
  refine lw_aload dL_law_705 rfl 1 rfl ?_
  refine lw_aload dL_law_706 rfl 0 rfl ?_
  refine lw_iload dL_law_707 rfl 3 rfl ?_
  refine lw_iconst (v := 1) dL_law_708 (by decide) ?_
  refine lw_iadd (v := nI (i + 1)) dL_law_709 (nI_add i 1) ?_
  refine lw_sld (i := i + 1) (by omega) (by omega) dL_law_710 ?_
  refine lw_callC [.int (xs (i + 1))] (tX10_pathsOfLength c.2.1 c.2.2.1 c.2.2.2 1 (xs (i + 1)) hGc) h1 hGc gL_law_X10_pathsOfLength hX10_pathsOfLength rfl ⟨Nat.le_of_ble_eq_true rfl, Nat.le_of_ble_eq_true rfl⟩ rfl rfl (Nat.le_of_ble_eq_true rfl) hcs dL_law_711 ?_
  show lw_V l X b Ln xs Q 714 [(0, .ref b), (1, .ref (am_B c.1 + 1)), (2, .ref (am_B m.1 + 1)), (3, .int (nI i))] [.long r1.1] (c.1, c.2.1, c.2.2.1, r1.2) m cells slots
  refine lw_aload dL_law_714 rfl 2 rfl ?_
  refine lw_aload dL_law_715 rfl 0 rfl ?_
  refine lw_iload dL_law_716 rfl 3 rfl ?_
  refine lw_iconst (v := 1) dL_law_717 (by decide) ?_
  refine lw_iadd (v := nI (i + 1)) dL_law_718 (nI_add i 1) ?_
  refine lw_sld (i := i + 1) (by omega) (by omega) dL_law_719 ?_
  refine lw_callM [.int (xs (i + 1))] (tX11_pathsOfLength m.2.1 m.2.2.1 m.2.2.2 1 (xs (i + 1)) hGm) h2 hGm gL_law_X11_pathsOfLength hX11_pathsOfLength rfl ⟨Nat.le_of_ble_eq_true rfl, Nat.le_of_ble_eq_true rfl⟩ rfl rfl (Nat.le_of_ble_eq_true rfl) hcs dL_law_720 ?_
  show lw_V l X b Ln xs Q 723 [(0, .ref b), (1, .ref (am_B c.1 + 1)), (2, .ref (am_B m.1 + 1)), (3, .int (nI i))] [.long r2.1, .long r1.1] (c.1, c.2.1, c.2.2.1, r1.2) (m.1, m.2.1, m.2.2.1, r2.2) cells slots
  refine lw_lcmp dL_law_723 ?_
  refine lw_eqT (tgt := 1272) dL_law_724 rfl (lg_cmp0.mpr heq) ?_
  exact k
