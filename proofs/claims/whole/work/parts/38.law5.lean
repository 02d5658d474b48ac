theorem dL_law_320 : decode cL_law 320 = .ok (.aload_n 1, 1) := by decide +kernel
theorem dL_law_321 : decode cL_law 321 = .ok (.aload_n 0, 1) := by decide +kernel
theorem dL_law_322 : decode cL_law 322 = .ok (.iload 4, 2) := by decide +kernel
theorem dL_law_324 : decode cL_law 324 = .ok (.iconst 1, 1) := by decide +kernel
theorem dL_law_325 : decode cL_law 325 = .ok (.iadd, 1) := by decide +kernel
theorem dL_law_326 : decode cL_law 326 = .ok (.iaload, 1) := by decide +kernel
theorem dL_law_327 : decode cL_law 327 = .ok (.aload_n 0, 1) := by decide +kernel
theorem dL_law_328 : decode cL_law 328 = .ok (.iload 4, 2) := by decide +kernel
theorem dL_law_330 : decode cL_law 330 = .ok (.iconst 2, 1) := by decide +kernel
theorem dL_law_331 : decode cL_law 331 = .ok (.iadd, 1) := by decide +kernel
theorem dL_law_332 : decode cL_law 332 = .ok (.iaload, 1) := by decide +kernel
theorem dL_law_333 : decode cL_law 333 = .ok (.i2l, 1) := by decide +kernel
theorem dL_law_334 : decode cL_law 334 = .ok (.bipush 32, 2) := by decide +kernel
theorem dL_law_336 : decode cL_law 336 = .ok (.lshl, 1) := by decide +kernel
theorem dL_law_337 : decode cL_law 337 = .ok (.aload_n 0, 1) := by decide +kernel
theorem dL_law_338 : decode cL_law 338 = .ok (.iload 4, 2) := by decide +kernel
theorem dL_law_340 : decode cL_law 340 = .ok (.iconst 3, 1) := by decide +kernel
theorem dL_law_341 : decode cL_law 341 = .ok (.iadd, 1) := by decide +kernel
theorem dL_law_342 : decode cL_law 342 = .ok (.iaload, 1) := by decide +kernel
theorem dL_law_343 : decode cL_law 343 = .ok (.i2l, 1) := by decide +kernel
theorem q_1008 : Cond.constantLong "FieldMemberLaw" 43 (4294967295 : Int64) ∈ TT := tt_t (i := 1008) (by decide +kernel) (by decide +kernel)
theorem dL_law_344 : decode cL_law 344 = .ok (.ldc2_w 43, 3) := by decide +kernel
theorem dL_law_347 : decode cL_law 347 = .ok (.land, 1) := by decide +kernel
theorem dL_law_348 : decode cL_law 348 = .ok (.lor, 1) := by decide +kernel
theorem q_263 : Cond.methodLink "FieldMemberLaw" 45 ⟨"FieldMember", "constant", "(IJ)I"⟩ ∈ TT := tt_t (i := 263) (by decide +kernel) (by decide +kernel)
theorem q_266 : Cond.code ⟨"FieldMember", "constant", "(IJ)I"⟩ prog_1_method_6_code 6 (some .int) ∈ TT := tt_t (i := 266) (by decide +kernel) (by decide +kernel)
theorem q_264 : Cond.instanceMethod ⟨"FieldMember", "constant", "(IJ)I"⟩ ∈ TT := tt_t (i := 264) (by decide +kernel) (by decide +kernel)
theorem q_265 : Cond.selects "FieldMember" ⟨"FieldMember", "constant", "(IJ)I"⟩ ⟨"FieldMember", "constant", "(IJ)I"⟩ ∈ TT := tt_t (i := 265) (by decide +kernel) (by decide +kernel)
theorem gV_L_X7_constant : GoodIn TT (wsV RL 45 RX7 yX7_constant (ww yX7_constant cX7_constant 6 (some .int))) := tt_V q_263 q_264 q_265 q_1 q_266
theorem hdV_X7_constant : yX7_constant.cls = RX7 ∧ yX7_constant.cls ≠ "java/lang/invoke/MethodHandle" ∧ yX7_constant.cls ≠ "java/lang/invoke/VarHandle" ∧ (parseMethodDescriptor yX7_constant.desc).map (fun d => d.parameters.length) = some 2 := by decide +kernel
theorem dL_law_349 : decode cL_law 349 = .ok (.invokevirtual 45, 3) := by decide +kernel
theorem dL_law_352 : decode cL_law 352 = .ok (.aload_n 2, 1) := by decide +kernel
theorem dL_law_353 : decode cL_law 353 = .ok (.aload_n 0, 1) := by decide +kernel
theorem dL_law_354 : decode cL_law 354 = .ok (.iload 4, 2) := by decide +kernel
theorem dL_law_356 : decode cL_law 356 = .ok (.iconst 1, 1) := by decide +kernel
theorem dL_law_357 : decode cL_law 357 = .ok (.iadd, 1) := by decide +kernel
theorem dL_law_358 : decode cL_law 358 = .ok (.iaload, 1) := by decide +kernel
theorem dL_law_359 : decode cL_law 359 = .ok (.aload_n 0, 1) := by decide +kernel
theorem dL_law_360 : decode cL_law 360 = .ok (.iload 4, 2) := by decide +kernel
theorem dL_law_362 : decode cL_law 362 = .ok (.iconst 2, 1) := by decide +kernel
theorem dL_law_363 : decode cL_law 363 = .ok (.iadd, 1) := by decide +kernel
theorem dL_law_364 : decode cL_law 364 = .ok (.iaload, 1) := by decide +kernel
theorem dL_law_365 : decode cL_law 365 = .ok (.i2l, 1) := by decide +kernel
theorem dL_law_366 : decode cL_law 366 = .ok (.bipush 32, 2) := by decide +kernel
theorem dL_law_368 : decode cL_law 368 = .ok (.lshl, 1) := by decide +kernel
theorem dL_law_369 : decode cL_law 369 = .ok (.aload_n 0, 1) := by decide +kernel
theorem dL_law_370 : decode cL_law 370 = .ok (.iload 4, 2) := by decide +kernel
theorem dL_law_372 : decode cL_law 372 = .ok (.iconst 3, 1) := by decide +kernel
theorem dL_law_373 : decode cL_law 373 = .ok (.iadd, 1) := by decide +kernel
theorem dL_law_374 : decode cL_law 374 = .ok (.iaload, 1) := by decide +kernel
theorem dL_law_375 : decode cL_law 375 = .ok (.i2l, 1) := by decide +kernel
theorem dL_law_376 : decode cL_law 376 = .ok (.ldc2_w 43, 3) := by decide +kernel
theorem dL_law_379 : decode cL_law 379 = .ok (.land, 1) := by decide +kernel
theorem dL_law_380 : decode cL_law 380 = .ok (.lor, 1) := by decide +kernel
theorem q_850 : Cond.methodLink "FieldMemberLaw" 49 ⟨"FieldMemberModel", "constant", "(IJ)I"⟩ ∈ TT := tt_t (i := 850) (by decide +kernel) (by decide +kernel)
theorem q_853 : Cond.code ⟨"FieldMemberModel", "constant", "(IJ)I"⟩ prog_10_method_21_code 6 (some .int) ∈ TT := tt_t (i := 853) (by decide +kernel) (by decide +kernel)
theorem q_851 : Cond.instanceMethod ⟨"FieldMemberModel", "constant", "(IJ)I"⟩ ∈ TT := tt_t (i := 851) (by decide +kernel) (by decide +kernel)
theorem q_852 : Cond.selects "FieldMemberModel" ⟨"FieldMemberModel", "constant", "(IJ)I"⟩ ⟨"FieldMemberModel", "constant", "(IJ)I"⟩ ∈ TT := tt_t (i := 852) (by decide +kernel) (by decide +kernel)
theorem gV_L_X8_constant : GoodIn TT (wsV RL 49 RX8 yX8_constant (ww yX8_constant cX8_constant 6 (some .int))) := tt_V q_850 q_851 q_852 q_4 q_853
theorem hdV_X8_constant : yX8_constant.cls = RX8 ∧ yX8_constant.cls ≠ "java/lang/invoke/MethodHandle" ∧ yX8_constant.cls ≠ "java/lang/invoke/VarHandle" ∧ (parseMethodDescriptor yX8_constant.desc).map (fun d => d.parameters.length) = some 2 := by decide +kernel
theorem dL_law_381 : decode cL_law 381 = .ok (.invokevirtual 49, 3) := by decide +kernel
theorem dL_law_384 : decode cL_law 384 = .ok (.if_icmp .eq 635, 3) := by decide +kernel
theorem dL_law_389 : decode cL_law 389 = .ok (.aload_n 1, 1) := by decide +kernel
theorem dL_law_390 : decode cL_law 390 = .ok (.aload_n 0, 1) := by decide +kernel
theorem dL_law_391 : decode cL_law 391 = .ok (.iload 4, 2) := by decide +kernel
theorem dL_law_393 : decode cL_law 393 = .ok (.iconst 1, 1) := by decide +kernel
theorem dL_law_394 : decode cL_law 394 = .ok (.iadd, 1) := by decide +kernel
theorem dL_law_395 : decode cL_law 395 = .ok (.iaload, 1) := by decide +kernel
theorem dL_law_396 : decode cL_law 396 = .ok (.aload_n 3, 1) := by decide +kernel
theorem q_548 : Cond.methodLink "FieldMemberLaw" 50 ⟨"FieldMemberLaw", "value", "(LFieldMember;I[J)I"⟩ ∈ TT := tt_t (i := 548) (by decide +kernel) (by decide +kernel)
theorem q_549 : Cond.static ⟨"FieldMemberLaw", "value", "(LFieldMember;I[J)I"⟩ ∈ TT := tt_t (i := 549) (by decide +kernel) (by decide +kernel)
theorem q_0 : Cond.initialized "FieldMemberLaw" ∈ TT := tt_t (i := 0) (by decide +kernel) (by decide +kernel)
theorem q_550 : Cond.codeWith ⟨"FieldMemberLaw", "value", "(LFieldMember;I[J)I"⟩ method_3_code 4 (some .int) [(0, 8, 11, 13), (0, 8, 14, 15)] ∈ TT := tt_t (i := 550) (by decide +kernel) (by decide +kernel)
theorem dL_law_397 : decode cL_law 397 = .ok (.invokestatic 50, 3) := by decide +kernel
theorem dL_law_400 : decode cL_law 400 = .ok (.istore 5, 2) := by decide +kernel
theorem dL_law_402 : decode cL_law 402 = .ok (.aload_n 2, 1) := by decide +kernel
theorem dL_law_403 : decode cL_law 403 = .ok (.aload_n 0, 1) := by decide +kernel
theorem dL_law_404 : decode cL_law 404 = .ok (.iload 4, 2) := by decide +kernel
theorem dL_law_406 : decode cL_law 406 = .ok (.iconst 1, 1) := by decide +kernel
theorem dL_law_407 : decode cL_law 407 = .ok (.iadd, 1) := by decide +kernel
theorem dL_law_408 : decode cL_law 408 = .ok (.iaload, 1) := by decide +kernel
theorem q_878 : Cond.methodLink "FieldMemberLaw" 55 ⟨"FieldMemberModel", "value", "(I)J"⟩ ∈ TT := tt_t (i := 878) (by decide +kernel) (by decide +kernel)
theorem q_881 : Cond.code ⟨"FieldMemberModel", "value", "(I)J"⟩ prog_10_method_22_code 2 (some .long) ∈ TT := tt_t (i := 881) (by decide +kernel) (by decide +kernel)
theorem q_879 : Cond.instanceMethod ⟨"FieldMemberModel", "value", "(I)J"⟩ ∈ TT := tt_t (i := 879) (by decide +kernel) (by decide +kernel)
theorem q_880 : Cond.selects "FieldMemberModel" ⟨"FieldMemberModel", "value", "(I)J"⟩ ⟨"FieldMemberModel", "value", "(I)J"⟩ ∈ TT := tt_t (i := 880) (by decide +kernel) (by decide +kernel)
theorem gV_L_X8_value : GoodIn TT (wsV RL 55 RX8 yX8_value (ww yX8_value cX8_value 2 (some .long))) := tt_V q_878 q_879 q_880 q_4 q_881
theorem hdV_X8_value : yX8_value.cls = RX8 ∧ yX8_value.cls ≠ "java/lang/invoke/MethodHandle" ∧ yX8_value.cls ≠ "java/lang/invoke/VarHandle" ∧ (parseMethodDescriptor yX8_value.desc).map (fun d => d.parameters.length) = some 1 := by decide +kernel
theorem dL_law_409 : decode cL_law 409 = .ok (.invokevirtual 55, 3) := by decide +kernel
theorem dL_law_412 : decode cL_law 412 = .ok (.lstore 6, 2) := by decide +kernel
theorem dL_law_414 : decode cL_law 414 = .ok (.aload_n 2, 1) := by decide +kernel
theorem q_780 : Cond.methodLink "FieldMemberLaw" 56 ⟨"FieldMemberModel", "thrown", "()I"⟩ ∈ TT := tt_t (i := 780) (by decide +kernel) (by decide +kernel)
theorem q_783 : Cond.code ⟨"FieldMemberModel", "thrown", "()I"⟩ prog_10_method_2_code 1 (some .int) ∈ TT := tt_t (i := 783) (by decide +kernel) (by decide +kernel)
theorem q_781 : Cond.instanceMethod ⟨"FieldMemberModel", "thrown", "()I"⟩ ∈ TT := tt_t (i := 781) (by decide +kernel) (by decide +kernel)
theorem q_782 : Cond.selects "FieldMemberModel" ⟨"FieldMemberModel", "thrown", "()I"⟩ ⟨"FieldMemberModel", "thrown", "()I"⟩ ∈ TT := tt_t (i := 782) (by decide +kernel) (by decide +kernel)
theorem gV_L_X8_thrown : GoodIn TT (wsV RL 56 RX8 yX8_thrown (ww yX8_thrown cX8_thrown 1 (some .int))) := tt_V q_780 q_781 q_782 q_4 q_783
theorem hdV_X8_thrown : yX8_thrown.cls = RX8 ∧ yX8_thrown.cls ≠ "java/lang/invoke/MethodHandle" ∧ yX8_thrown.cls ≠ "java/lang/invoke/VarHandle" ∧ (parseMethodDescriptor yX8_thrown.desc).map (fun d => d.parameters.length) = some 0 := by decide +kernel
theorem dL_law_415 : decode cL_law 415 = .ok (.invokevirtual 56, 3) := by decide +kernel
theorem dL_law_418 : decode cL_law 418 = .ok (.iload 5, 2) := by decide +kernel
theorem dL_law_420 : decode cL_law 420 = .ok (.if_icmp .eq 5, 3) := by decide +kernel
theorem dL_law_425 : decode cL_law 425 = .ok (.iload 5, 2) := by decide +kernel
theorem dL_law_427 : decode cL_law 427 = .ok (.ifCond .ne 14, 3) := by decide +kernel
theorem dL_law_441 : decode cL_law 441 = .ok (.goto 578, 3) := by decide +kernel
theorem dL_law_430 : decode cL_law 430 = .ok (.aload_n 3, 1) := by decide +kernel
theorem dL_law_431 : decode cL_law 431 = .ok (.iconst 0, 1) := by decide +kernel
theorem dL_law_432 : decode cL_law 432 = .ok (.laload, 1) := by decide +kernel
theorem dL_law_433 : decode cL_law 433 = .ok (.lload 6, 2) := by decide +kernel
theorem dL_law_435 : decode cL_law 435 = .ok (.lcmp, 1) := by decide +kernel
theorem dL_law_436 : decode cL_law 436 = .ok (.ifCond .eq 5, 3) := by decide +kernel
set_option maxHeartbeats 1600000 in
set_option maxRecDepth 100000 in
theorem lc_constant {p : Program} {l : Launch} {e : Env} {s : State} {m : MethodId} {below : List Frame} {meth : Method} {c : Code} {b L : Nat} {xs : Nat → Int32} {D : va_G} {G : Nat → ClassId} {sa : Nat → Nat} {ca : Nat → Nat} {mo : Nat} {ad : Nat → Nat} {o : Nat} {Q : State → Prop} (C0 : LCx p l s m c b L xs D G sa) {j : Nat} (hj : 7 * j + 6 < L) {u : MU} {H : Heap} {locs : List Loc} {ls : Array Slot} {cells slots : Nat} (hW : LW s D G ca mo ad o u H locs) (hl : lv_has ls 8 [(4, .int (nI (7 * j))), (3, .ref o), (2, .ref mo), (1, .ref (ca 0)), (0, .ref b)]) (hc : cells + 4 ≤ 603072 ∧ slots + 22 ≤ 7262314)
    (kk : ∀ (u : MU) (H : Heap) (locs : List Loc) (ls : Array Slot), LW s D G ca mo ad o u H locs → lv_has ls 8 [(4, .int (nI (7 * j))), (3, .ref o), (2, .ref mo), (1, .ref (ca 0)), (0, .ref b)] → W p l e room_1 s m #[Value.ref b] below meth c H locs (cells + 4) (slots + 22) Q (F0 m 1019 ls [])) : W p l e room_1 s m #[Value.ref b] below meth c H locs cells slots Q (F0 m 320 ls []) := by
  obtain ⟨hx, hb, hml, hown, hts, hX, hbl, hK, hXS, hXZ, hst, hL⟩ := id C0
  have hbA : ¬ (fun q : Nat => s.heap.size ≤ q) b := Nat.not_le.mpr hbl
  have hA : ∀ q : Nat, s.heap.size ≤ q → (fun q : Nat => s.heap.size ≤ q) q := fun _ h => h
  obtain ⟨σ, τ⟩ := u
  obtain ⟨f, z, ⟨n, k, w0, κ, x, hV, hC⟩, hP, hD, hS⟩ := hW
  have hP : va_P D vwCl ((mW G mo ad σ τ ++ [(o, .inl (G 1, 1, .inr (.inl f)))]) ++ z) H := hP
  have hD : va_D (fun q => s.heap.size ≤ q) ((mW G mo ad σ τ ++ [(o, .inl (G 1, 1, .inr (.inl f)))]) ++ z) := hD
  have hV : IV σ x τ κ n k w0 := hV
  have hC : CW G ca σ x κ k z := hC
  refine lv_aload_n hx hb dL_law_320 rfl (lv_at hl 3 rfl) ?_
  refine lv_aload_n hx hb dL_law_321 rfl (lv_at hl 4 rfl) ?_
  refine lv_iload hx hb dL_law_322 (lv_at hl 0 rfl) ?_
  refine lv_iconst (v := 1) hx hb dL_law_324 (by decide) ?_
  refine lv_iadd hx hb dL_law_325 ?_
  refine sld_n hx hb hX hbl hbA hS hL ((7 * j) + 1) (n_add (a := (7 * j)) (b := 1) rfl (rfl : (1 : Int32) = nI 1)) (by omega) dL_law_326 ?_
  refine lv_aload_n hx hb dL_law_327 rfl (lv_at hl 4 rfl) ?_
  refine lv_iload hx hb dL_law_328 (lv_at hl 0 rfl) ?_
  refine lv_iconst (v := 2) hx hb dL_law_330 (by decide) ?_
  refine lv_iadd hx hb dL_law_331 ?_
  refine sld_n hx hb hX hbl hbA hS hL ((7 * j) + 2) (n_add (a := (7 * j)) (b := 2) rfl (rfl : (2 : Int32) = nI 2)) (by omega) dL_law_332 ?_
  refine lv_i2l hx hb dL_law_333 rfl ?_
  refine lv_bipush (v := 32) hx hb dL_law_334 (by decide) ?_
  refine lv_lshl hx hb dL_law_336 rfl ?_
  refine lv_aload_n hx hb dL_law_337 rfl (lv_at hl 4 rfl) ?_
  refine lv_iload hx hb dL_law_338 (lv_at hl 0 rfl) ?_
  refine lv_iconst (v := 3) hx hb dL_law_340 (by decide) ?_
  refine lv_iadd hx hb dL_law_341 ?_
  refine sld_n hx hb hX hbl hbA hS hL ((7 * j) + 3) (n_add (a := (7 * j)) (b := 3) rfl (rfl : (3 : Int32) = nI 3)) (by omega) dL_law_342 ?_
  refine lv_i2l hx hb dL_law_343 rfl ?_
  refine lv_ldc2 hx hb hown (hts _ q_1008) dL_law_344 ?_
  refine lv_land hx hb dL_law_347 ?_
  refine lv_lor hx hb dL_law_348 ?_
  refine lv_topl (fun v1 e_v1 => ?_)
  refine fr_Vc (wr := mW G mo ad σ τ ++ [(o, .inl (G 1, 1, .inr (.inl f)))]) (wc := z) (As := [.int (xs ((7 * j) + 1)), .long v1]) (rest := []) ⟨hx, hb, hml, hown, hts⟩ (u_constant l D G ca n k w0 σ x τ κ z _ hV hC (xs ((7 * j) + 1)) v1) gV_L_X7_constant hdV_X7_constant ⟨(Nat.le_of_ble_eq_true rfl), (Nat.le_of_ble_eq_true rfl)⟩ hK (hC.recv hK (fr_P hP)) hP hD hS hA rfl hl.1 rfl (Nat.le_of_ble_eq_true rfl) dL_law_349 ⟨(show cells + 0 ≤ 603072 by omega), (show slots + 0 ≤ 7262314 by omega)⟩ (fun z H locs hN hP hD hS => ?_)
  refine W.eq (g2 := F0 m 352 ls [.int ((oConst σ τ k (xs ((7 * j) + 1)) v1).1)]) rfl ?_
  refine lv_aload_n hx hb dL_law_352 rfl (lv_at hl 2 rfl) ?_
  refine lv_aload_n hx hb dL_law_353 rfl (lv_at hl 4 rfl) ?_
  refine lv_iload hx hb dL_law_354 (lv_at hl 0 rfl) ?_
  refine lv_iconst (v := 1) hx hb dL_law_356 (by decide) ?_
  refine lv_iadd hx hb dL_law_357 ?_
  refine sld_n hx hb hX hbl hbA hS hL ((7 * j) + 1) (n_add (a := (7 * j)) (b := 1) rfl (rfl : (1 : Int32) = nI 1)) (by omega) dL_law_358 ?_
  refine lv_aload_n hx hb dL_law_359 rfl (lv_at hl 4 rfl) ?_
  refine lv_iload hx hb dL_law_360 (lv_at hl 0 rfl) ?_
  refine lv_iconst (v := 2) hx hb dL_law_362 (by decide) ?_
  refine lv_iadd hx hb dL_law_363 ?_
  refine sld_n hx hb hX hbl hbA hS hL ((7 * j) + 2) (n_add (a := (7 * j)) (b := 2) rfl (rfl : (2 : Int32) = nI 2)) (by omega) dL_law_364 ?_
  refine lv_i2l hx hb dL_law_365 rfl ?_
  refine lv_bipush (v := 32) hx hb dL_law_366 (by decide) ?_
  refine lv_lshl hx hb dL_law_368 rfl ?_
  refine lv_aload_n hx hb dL_law_369 rfl (lv_at hl 4 rfl) ?_
  refine lv_iload hx hb dL_law_370 (lv_at hl 0 rfl) ?_
  refine lv_iconst (v := 3) hx hb dL_law_372 (by decide) ?_
  refine lv_iadd hx hb dL_law_373 ?_
  refine sld_n hx hb hX hbl hbA hS hL ((7 * j) + 3) (n_add (a := (7 * j)) (b := 3) rfl (rfl : (3 : Int32) = nI 3)) (by omega) dL_law_374 ?_
  refine lv_i2l hx hb dL_law_375 rfl ?_
  refine lv_ldc2 hx hb hown (hts _ q_1008) dL_law_376 ?_
  refine lv_land hx hb dL_law_379 ?_
  refine lv_lor hx hb dL_law_380 ?_
  refine lv_topl (fun v2 e_v2 => ?_)
  obtain rfl : v1 = v2 := e_v1.trans e_v2.symm
  have hP := P_perm hP pm_m
  have hD := D_perm pm_m hD
  have hP : va_P D vwCl (([(o, .inl (G 1, 1, .inr (.inl f)))] ++ z) ++ mW G mo ad σ τ) H := hP
  have hD : va_D (fun q => s.heap.size ≤ q) (([(o, .inl (G 1, 1, .inr (.inl f)))] ++ z) ++ mW G mo ad σ τ) := hD
  refine fr_Vm (wr := [(o, .inl (G 1, 1, .inr (.inl f)))] ++ z) (u := (σ, τ)) (v := (oConst σ τ k (xs ((7 * j) + 1)) v1).2) (mo := mo) (ad := ad) (As := [.int (xs ((7 * j) + 1)), .long v1]) (rest := [.int ((oConst σ τ k (xs ((7 * j) + 1)) v1).1)]) ⟨hx, hb, hml, hown, hts⟩ (m_constant l D G mo ad σ τ _ k hV.1.2.1.1 hV.1.2.1.2  (xs ((7 * j) + 1)) v1 ) gV_L_X8_constant hdV_X8_constant ⟨(Nat.le_of_ble_eq_true rfl), (Nat.le_of_ble_eq_true rfl)⟩ hK hP hD hS hA rfl hl.1 rfl (Nat.le_of_ble_eq_true rfl) dL_law_381 ⟨(show cells + 0 ≤ 603072 by omega), (show slots + 0 ≤ 7262314 by omega)⟩ (fun H locs hP hD hS => ?_)
  have hP := P_perm hP pm_r
  have hD := D_perm pm_r hD
  have hP : va_P D vwCl ((mW G mo ad (oConst σ τ k (xs ((7 * j) + 1)) v1).2.1 (oConst σ τ k (xs ((7 * j) + 1)) v1).2.2 ++ [(o, .inl (G 1, 1, .inr (.inl f)))]) ++ z) H := hP
  have hD : va_D (fun q => s.heap.size ≤ q) ((mW G mo ad (oConst σ τ k (xs ((7 * j) + 1)) v1).2.1 (oConst σ τ k (xs ((7 * j) + 1)) v1).2.2 ++ [(o, .inl (G 1, 1, .inr (.inl f)))]) ++ z) := hD
  refine W.eq (g2 := F0 m 384 ls [.int ((oConst σ τ k (xs ((7 * j) + 1)) v1).1), .int ((oConst σ τ k (xs ((7 * j) + 1)) v1).1)]) rfl ?_
  refine lv_icmp_eq (tgt := 1019) hx hb dL_law_384 (by decide) (fun hh => ?_) (fun hh => absurd rfl hh)
  refine W.widen (k := cells + 4) (n := slots + 22) (by omega) (by omega) ?_
  exact kk (oConst σ τ k (xs ((7 * j) + 1)) v1).2 _ _ _ ⟨f, z, hN, hP, hD, hS⟩ (lv_sub hl [0, 1, 2, 3, 4] rfl)
set_option maxHeartbeats 1600000 in
set_option maxRecDepth 100000 in
theorem lc_value {p : Program} {l : Launch} {e : Env} {s : State} {m : MethodId} {below : List Frame} {meth : Method} {c : Code} {b L : Nat} {xs : Nat → Int32} {D : va_G} {G : Nat → ClassId} {sa : Nat → Nat} {ca : Nat → Nat} {mo : Nat} {ad : Nat → Nat} {o : Nat} {Q : State → Prop} (C0 : LCx p l s m c b L xs D G sa) {j : Nat} (hj : 7 * j + 6 < L) {u : MU} {H : Heap} {locs : List Loc} {ls : Array Slot} {cells slots : Nat} (hW : LW s D G ca mo ad o u H locs) (hl : lv_has ls 8 [(4, .int (nI (7 * j))), (3, .ref o), (2, .ref mo), (1, .ref (ca 0)), (0, .ref b)]) (hc : cells + 4 ≤ 603072 ∧ slots + 22 ≤ 7262314)
    (kk : ∀ (u : MU) (H : Heap) (locs : List Loc) (ls : Array Slot), LW s D G ca mo ad o u H locs → lv_has ls 8 [(4, .int (nI (7 * j))), (3, .ref o), (2, .ref mo), (1, .ref (ca 0)), (0, .ref b)] → W p l e room_1 s m #[Value.ref b] below meth c H locs (cells + 4) (slots + 22) Q (F0 m 1019 ls [])) : W p l e room_1 s m #[Value.ref b] below meth c H locs cells slots Q (F0 m 389 ls []) := by
  obtain ⟨hx, hb, hml, hown, hts, hX, hbl, hK, hXS, hXZ, hst, hL⟩ := id C0
  have hbA : ¬ (fun q : Nat => s.heap.size ≤ q) b := Nat.not_le.mpr hbl
  have hA : ∀ q : Nat, s.heap.size ≤ q → (fun q : Nat => s.heap.size ≤ q) q := fun _ h => h
  obtain ⟨σ, τ⟩ := u
  obtain ⟨f, z, ⟨n, k, w0, κ, x, hV, hC⟩, hP, hD, hS⟩ := hW
  have hP : va_P D vwCl ((mW G mo ad σ τ ++ [(o, .inl (G 1, 1, .inr (.inl f)))]) ++ z) H := hP
  have hD : va_D (fun q => s.heap.size ≤ q) ((mW G mo ad σ τ ++ [(o, .inl (G 1, 1, .inr (.inl f)))]) ++ z) := hD
  have hV : IV σ x τ κ n k w0 := hV
  have hC : CW G ca σ x κ k z := hC
  refine lv_aload_n hx hb dL_law_389 rfl (lv_at hl 3 rfl) ?_
  refine lv_aload_n hx hb dL_law_390 rfl (lv_at hl 4 rfl) ?_
  refine lv_iload hx hb dL_law_391 (lv_at hl 0 rfl) ?_
  refine lv_iconst (v := 1) hx hb dL_law_393 (by decide) ?_
  refine lv_iadd hx hb dL_law_394 ?_
  refine sld_n hx hb hX hbl hbA hS hL ((7 * j) + 1) (n_add (a := (7 * j)) (b := 1) rfl (rfl : (1 : Int32) = nI 1)) (by omega) dL_law_395 ?_
  refine lv_aload_n hx hb dL_law_396 rfl (lv_at hl 1 rfl) ?_
  have hXZ1 : XZ F0' s H := (hXZ.kept (fun a ha hA9 => hS.2.1 a ha hA9)).narrow (fun q h => h.elim)
  have hP := P_perm hP pm_o
  have hD := D_perm pm_o hD
  have hP : va_P D vwCl ((mW G mo ad σ τ ++ z) ++ [(o, .inl (G 1, 1, .inr (.inl f)))]) H := hP
  have hD : va_D (fun q => s.heap.size ≤ q) ((mW G mo ad σ τ ++ z) ++ [(o, .inl (G 1, 1, .inr (.inl f)))]) := hD
  refine fr_H (wr := mW G mo ad σ τ ++ z) (f := f) (n := 3) (As := [.ref ((ca 0)), .int (xs ((7 * j) + 1)), .ref o]) (rest := []) ⟨hx, hb, hml, hown, hts⟩ (?hM : vx_Met l yL_value (.codeWith yL_value cL_value 4 (some .int) [(0, 8, 11, 13), (0, 8, 14, 15)] :: TT) (rmC 9 1 6) _ (va_Qi (fun r (f' : Nat → Int64) => r = (oValue σ τ k (xs ((7 * j) + 1))).2.1 0 0 ∧ ((oValue σ τ k (xs ((7 * j) + 1))).2.1 0 0 = 0 → f' 0 = (oValue σ τ k (xs ((7 * j) + 1))).1)) _ _) _ 1 6 _) (tt_S q_548 q_549 q_0 q_550) (by decide +kernel) ⟨(Nat.le_of_ble_eq_true rfl), (Nat.le_of_ble_eq_true rfl)⟩ hK hXS hXZ1 hP hD hS hA rfl hl.1 rfl (Nat.le_of_ble_eq_true rfl) dL_law_397 ⟨(show cells + 1 ≤ 603072 by omega), (show slots + 6 ≤ 7262314 by omega)⟩ (fun r f H locs hp hP hD hS => ?_)
  case hM =>
    obtain ⟨ea, ba, bg, pool, hE, hJ, rfl, hb9⟩ := id hC
    exact c_lvalue l D G H ca bg ea n k w0 σ x κ (cF_of (fr_P (fr_Pl hP))) (plE_P (fr_P (fr_Pl hP)) hE) hV.cI hst sa (xs ((7 * j) + 1)) τ hV.2.2.2.2.1 o f (fr_P hP)
  obtain ⟨rfl, hpv⟩ := hp
  have hP := P_perm hP pm_o
  have hD := D_perm pm_o hD
  have hP : va_P D vwCl ((mW G mo ad σ τ ++ [(o, .inl (G 1, 1, .inr (.inl f)))]) ++ z) H := hP
  have hD : va_D (fun q => s.heap.size ≤ q) ((mW G mo ad σ τ ++ [(o, .inl (G 1, 1, .inr (.inl f)))]) ++ z) := hD
  refine W.eq (g2 := F0 m 400 ls [.int ((oValue σ τ k (xs ((7 * j) + 1))).2.1 0 0)]) rfl ?_
  have hN := nx_val hV hC (xs ((7 * j) + 1))
  refine lv_istore (lv' := [(5, .int ((oValue σ τ k (xs ((7 * j) + 1))).2.1 0 0)), (4, .int (nI (7 * j))), (3, .ref o), (2, .ref mo), (1, .ref ((ca 0))), (0, .ref b)]) hx hb dL_law_400 hl (by decide) rfl (fun ls hl => ?_)
  refine lv_aload_n hx hb dL_law_402 rfl (lv_at hl 3 rfl) ?_
  refine lv_aload_n hx hb dL_law_403 rfl (lv_at hl 5 rfl) ?_
  refine lv_iload hx hb dL_law_404 (lv_at hl 1 rfl) ?_
  refine lv_iconst (v := 1) hx hb dL_law_406 (by decide) ?_
  refine lv_iadd hx hb dL_law_407 ?_
  refine sld_n hx hb hX hbl hbA hS hL ((7 * j) + 1) (n_add (a := (7 * j)) (b := 1) rfl (rfl : (1 : Int32) = nI 1)) (by omega) dL_law_408 ?_
  have hP := P_perm hP pm_m
  have hD := D_perm pm_m hD
  have hP : va_P D vwCl (([(o, .inl (G 1, 1, .inr (.inl f)))] ++ z) ++ mW G mo ad σ τ) H := hP
  have hD : va_D (fun q => s.heap.size ≤ q) (([(o, .inl (G 1, 1, .inr (.inl f)))] ++ z) ++ mW G mo ad σ τ) := hD
  refine fr_Vml (wr := [(o, .inl (G 1, 1, .inr (.inl f)))] ++ z) (u := (σ, τ)) (v := (oValue σ τ k (xs ((7 * j) + 1))).2) (mo := mo) (ad := ad) (As := [.int (xs ((7 * j) + 1))]) (rest := []) ⟨hx, hb, hml, hown, hts⟩ (m_value l D G mo ad σ τ _ k hV.1.2.1.1 hV.1.2.1.2  (xs ((7 * j) + 1)) ) gV_L_X8_value hdV_X8_value ⟨(Nat.le_of_ble_eq_true rfl), (Nat.le_of_ble_eq_true rfl)⟩ hK hP hD hS hA rfl hl.1 rfl (Nat.le_of_ble_eq_true rfl) dL_law_409 ⟨(show cells + 1 ≤ 603072 by omega), (show slots + 6 ≤ 7262314 by omega)⟩ (fun H locs hP hD hS => ?_)
  have hP := P_perm hP pm_r
  have hD := D_perm pm_r hD
  have hP : va_P D vwCl ((mW G mo ad (oValue σ τ k (xs ((7 * j) + 1))).2.1 (oValue σ τ k (xs ((7 * j) + 1))).2.2 ++ [(o, .inl (G 1, 1, .inr (.inl f)))]) ++ z) H := hP
  have hD : va_D (fun q => s.heap.size ≤ q) ((mW G mo ad (oValue σ τ k (xs ((7 * j) + 1))).2.1 (oValue σ τ k (xs ((7 * j) + 1))).2.2 ++ [(o, .inl (G 1, 1, .inr (.inl f)))]) ++ z) := hD
  refine W.eq (g2 := F0 m 412 ls [.long ((oValue σ τ k (xs ((7 * j) + 1))).1)]) rfl ?_
  refine lv_lstore (lv' := [(6, .long ((oValue σ τ k (xs ((7 * j) + 1))).1)), (5, .int ((oValue σ τ k (xs ((7 * j) + 1))).2.1 0 0)), (4, .int (nI (7 * j))), (3, .ref o), (2, .ref mo), (1, .ref ((ca 0))), (0, .ref b)]) hx hb dL_law_412 hl (by decide) rfl (fun ls hl => ?_)
  refine lv_aload_n hx hb dL_law_414 rfl (lv_at hl 4 rfl) ?_
  refine ro_Vi (D := D) (G := G) (As := []) (rest := []) ⟨hx, hb, hml, hown, hts⟩ (m_thrown l D G H mo ad _ _ (fr_Pl (fr_Pl hP))) gV_L_X8_thrown hdV_X8_thrown ⟨(Nat.le_of_ble_eq_true rfl), (Nat.le_of_ble_eq_true rfl)⟩ hK (va_recv hK.1 hP (ci := 8) (q0 := 0) rfl rfl) rfl hl.1 rfl (Nat.le_of_ble_eq_true rfl) dL_law_415 ⟨(show cells + 1 ≤ 603072 by omega), (show slots + 6 ≤ 7262314 by omega)⟩ (fun r1 e_r1 => ?_)
  subst e_r1
  refine W.eq (g2 := F0 m 418 ls [.int ((oValue σ τ k (xs ((7 * j) + 1))).2.1 0 0)]) rfl ?_
  refine lv_iload hx hb dL_law_418 (lv_at hl 1 rfl) ?_
  refine lv_icmp_eq (tgt := 425) hx hb dL_law_420 (by decide) (fun hh => ?_) (fun hh => absurd rfl hh)
  refine lv_iload hx hb dL_law_425 (lv_at hl 1 rfl) ?_
  refine lv_if_ne (tgt := 441) hx hb dL_law_427 (by decide) (fun c2 => ?_) (fun c2 => ?_)
  · -- 427 taken
    refine lv_goto (tgt := 1019) hx hb dL_law_441 (by decide) ?_
    refine W.widen (k := cells + 4) (n := slots + 22) (by omega) (by omega) ?_
    exact kk (oValue σ τ k (xs ((7 * j) + 1))).2 _ _ _ ⟨f, z, hN, hP, hD, hS⟩ (lv_sub hl [2, 3, 4, 5, 6] rfl)
  · -- 427 not
    refine lv_aload_n hx hb dL_law_430 rfl (lv_at hl 3 rfl) ?_
    refine lv_iconst (v := 0) hx hb dL_law_431 (by decide) ?_
    refine lald_n (f := f) hx hb hK.1 hP 27 1 rfl rfl (0) rfl (by decide) (by decide) dL_law_432 ?_
    refine lv_lload hx hb dL_law_433 (lv_at hl 0 rfl) ?_
    refine W.lcmp hx hb dL_law_435 ?_
    refine lv_if_eq (tgt := 441) hx hb dL_law_436 (by decide) (fun hh => ?_) (fun hh => absurd ((lg_cmp_eq _ _).mpr (hpv c2)) hh)
    refine lv_goto (tgt := 1019) hx hb dL_law_441 (by decide) ?_
    refine W.widen (k := cells + 4) (n := slots + 22) (by omega) (by omega) ?_
    exact kk (oValue σ τ k (xs ((7 * j) + 1))).2 _ _ _ ⟨f, z, hN, hP, hD, hS⟩ (lv_sub hl [2, 3, 4, 5, 6] rfl)
