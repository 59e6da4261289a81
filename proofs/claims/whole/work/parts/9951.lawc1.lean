theorem d_L_344 : decode code 344 = .ok (.aload_n 1, 1) := by decide +kernel
theorem d_L_345 : decode code 345 = .ok (.aload_n 0, 1) := by decide +kernel
theorem d_L_346 : decode code 346 = .ok (.iload_n 3, 1) := by decide +kernel
theorem d_L_347 : decode code 347 = .ok (.iconst 1, 1) := by decide +kernel
theorem d_L_348 : decode code 348 = .ok (.iadd, 1) := by decide +kernel
theorem d_L_349 : decode code 349 = .ok (.iaload, 1) := by decide +kernel
theorem d_L_350 : decode code 350 = .ok (.aload_n 0, 1) := by decide +kernel
theorem d_L_351 : decode code 351 = .ok (.iload_n 3, 1) := by decide +kernel
theorem d_L_352 : decode code 352 = .ok (.iconst 2, 1) := by decide +kernel
theorem d_L_353 : decode code 353 = .ok (.iadd, 1) := by decide +kernel
theorem d_L_354 : decode code 354 = .ok (.iaload, 1) := by decide +kernel
theorem d_L_355 : decode code 355 = .ok (.aload_n 0, 1) := by decide +kernel
theorem d_L_356 : decode code 356 = .ok (.iload_n 3, 1) := by decide +kernel
theorem d_L_357 : decode code 357 = .ok (.iconst 3, 1) := by decide +kernel
theorem d_L_358 : decode code 358 = .ok (.iadd, 1) := by decide +kernel
theorem d_L_359 : decode code 359 = .ok (.iaload, 1) := by decide +kernel
theorem d_L_360 : decode code 360 = .ok (.i2l, 1) := by decide +kernel
theorem d_L_361 : decode code 361 = .ok (.bipush 32, 2) := by decide +kernel
theorem d_L_363 : decode code 363 = .ok (.lshl, 1) := by decide +kernel
theorem d_L_364 : decode code 364 = .ok (.aload_n 0, 1) := by decide +kernel
theorem d_L_365 : decode code 365 = .ok (.iload_n 3, 1) := by decide +kernel
theorem d_L_366 : decode code 366 = .ok (.iconst 4, 1) := by decide +kernel
theorem d_L_367 : decode code 367 = .ok (.iadd, 1) := by decide +kernel
theorem d_L_368 : decode code 368 = .ok (.iaload, 1) := by decide +kernel
theorem d_L_369 : decode code 369 = .ok (.i2l, 1) := by decide +kernel
theorem d_L_370 : decode code 370 = .ok (.ldc2_w 23, 3) := by decide +kernel
theorem d_L_373 : decode code 373 = .ok (.land, 1) := by decide +kernel
theorem d_L_374 : decode code 374 = .ok (.lor, 1) := by decide +kernel
theorem d_L_375 : decode code 375 = .ok (.aload_n 0, 1) := by decide +kernel
theorem d_L_376 : decode code 376 = .ok (.iload_n 3, 1) := by decide +kernel
theorem d_L_377 : decode code 377 = .ok (.iconst 5, 1) := by decide +kernel
theorem d_L_378 : decode code 378 = .ok (.iadd, 1) := by decide +kernel
theorem d_L_379 : decode code 379 = .ok (.iaload, 1) := by decide +kernel
theorem d_L_380 : decode code 380 = .ok (.invokevirtual 34, 3) := by decide +kernel
theorem d_L_383 : decode code 383 = .ok (.aload_n 2, 1) := by decide +kernel
theorem d_L_384 : decode code 384 = .ok (.aload_n 0, 1) := by decide +kernel
theorem d_L_385 : decode code 385 = .ok (.iload_n 3, 1) := by decide +kernel
theorem d_L_386 : decode code 386 = .ok (.iconst 1, 1) := by decide +kernel
theorem d_L_387 : decode code 387 = .ok (.iadd, 1) := by decide +kernel
theorem d_L_388 : decode code 388 = .ok (.iaload, 1) := by decide +kernel
theorem d_L_389 : decode code 389 = .ok (.aload_n 0, 1) := by decide +kernel
theorem d_L_390 : decode code 390 = .ok (.iload_n 3, 1) := by decide +kernel
theorem d_L_391 : decode code 391 = .ok (.iconst 2, 1) := by decide +kernel
theorem d_L_392 : decode code 392 = .ok (.iadd, 1) := by decide +kernel
theorem d_L_393 : decode code 393 = .ok (.iaload, 1) := by decide +kernel
theorem d_L_394 : decode code 394 = .ok (.aload_n 0, 1) := by decide +kernel
theorem d_L_395 : decode code 395 = .ok (.iload_n 3, 1) := by decide +kernel
theorem d_L_396 : decode code 396 = .ok (.iconst 3, 1) := by decide +kernel
theorem d_L_397 : decode code 397 = .ok (.iadd, 1) := by decide +kernel
theorem d_L_398 : decode code 398 = .ok (.iaload, 1) := by decide +kernel
theorem d_L_399 : decode code 399 = .ok (.i2l, 1) := by decide +kernel
theorem d_L_400 : decode code 400 = .ok (.bipush 32, 2) := by decide +kernel
theorem d_L_402 : decode code 402 = .ok (.lshl, 1) := by decide +kernel
theorem d_L_403 : decode code 403 = .ok (.aload_n 0, 1) := by decide +kernel
theorem d_L_404 : decode code 404 = .ok (.iload_n 3, 1) := by decide +kernel
theorem d_L_405 : decode code 405 = .ok (.iconst 4, 1) := by decide +kernel
theorem d_L_406 : decode code 406 = .ok (.iadd, 1) := by decide +kernel
theorem d_L_407 : decode code 407 = .ok (.iaload, 1) := by decide +kernel
theorem d_L_408 : decode code 408 = .ok (.i2l, 1) := by decide +kernel
theorem d_L_409 : decode code 409 = .ok (.ldc2_w 23, 3) := by decide +kernel
theorem d_L_412 : decode code 412 = .ok (.land, 1) := by decide +kernel
theorem d_L_413 : decode code 413 = .ok (.lor, 1) := by decide +kernel
theorem d_L_414 : decode code 414 = .ok (.aload_n 0, 1) := by decide +kernel
theorem d_L_415 : decode code 415 = .ok (.iload_n 3, 1) := by decide +kernel
theorem d_L_416 : decode code 416 = .ok (.iconst 5, 1) := by decide +kernel
theorem d_L_417 : decode code 417 = .ok (.iadd, 1) := by decide +kernel
theorem d_L_418 : decode code 418 = .ok (.iaload, 1) := by decide +kernel
theorem d_L_419 : decode code 419 = .ok (.invokevirtual 38, 3) := by decide +kernel
theorem d_L_422 : decode code 422 = .ok (.if_icmp .eq 748, 3) := by decide +kernel
theorem d_L_425 : decode code 425 = .ok (.iconst 0, 1) := by decide +kernel
theorem d_L_426 : decode code 426 = .ok (.ireturn, 1) := by decide +kernel
set_option maxHeartbeats 4000000 in
set_option maxRecDepth 100000 in
theorem law_c4 (l : Launch) {p : Program} {e : Env} {s : State} {m : MethodId} {below : List Frame} {meth : Method} {c : Code} {b L : Nat} {xs : Nat → Int32} (hL : L ≤ 3072) (C0 : lw_At p s m meth c b L xs) (D : va_G) (dT : Nat → ClassId) (hK : z_K D dT s) (vv rg li : Nat) (mm : Nat → Nat) (k9 : Nat) (hk9 : 6 * k9 + 6 ≤ L) (H : Heap) (locs : List Loc) (cells slots : Nat) (ls : Array Slot) (hl : lv_has ls 4 [(3, .int (nI (6 * k9))), (2, .ref (mm 0)), (1, .ref vv), (0, .ref b)]) (hS : va_S (fun q => s.heap.size ≤ q) s.heap H locs) (hI : lI D dT s.heap.size vv rg li mm H) (hc : cells + 5 ≤ 600000) (hs : slots + 3100 ≤ 7302250) (kk : ∀ (H : Heap) (locs : List Loc) (ls : Array Slot), lv_has ls 4 [(3, .int (nI (6 * k9))), (2, .ref (mm 0)), (1, .ref vv), (0, .ref b)] → va_S (fun q => s.heap.size ≤ q) s.heap H locs → lI D dT s.heap.size vv rg li mm H → W p l e room_1 s m #[Value.ref b] below meth c H locs (cells + 5) (slots + 3100) (lw_Z below #[Value.ref b] s) (F0 m 1170 ls [])) : W p l e room_1 s m #[Value.ref b] below meth c H locs (cells) (slots) (lw_Z below #[Value.ref b] s) (F0 m 344 ls []) := by
  obtain ⟨hx, hb, hr, hml, hown, hts, hX, hbl, hlocks, hgv⟩ := C0
  have hown : s.vm.findClass "ValueTreesLaw" = some m.cls := hown
  have ht : ∀ w ∈ gt, w.before #[Value.ref b] s = true := fun w h => hts w (gt_in h)
  have hbA : ¬ (fun q => s.heap.size ≤ q) b := Nat.not_le.mpr hbl
  obtain ⟨B, ed, tb, tc, RV, hC, hm, hmm, hrg0, hli0, hed0⟩ := hI
  have hV := mI_vOK hm
  refine lv_aload_n hx hb d_L_344 rfl (lv_at hl 2 rfl) ?_
  refine lv_aload_n hx hb d_L_345 rfl (lv_at hl 3 rfl) ?_
  refine lv_iload_n hx hb d_L_346 rfl (lv_at hl 0 rfl) ?_
  refine lv_iconst (v := 1) hx hb d_L_347 (by decide) ?_
  refine lv_iadd hx hb d_L_348 ?_
  rw [show (((nI (6 * k9)) + 1) : Int32) = nI ((6 * k9) + 1) from nI_add (6 * k9) 1]
  refine z_sld hx hb hX hbl hbA hS ((6 * k9) + 1) rfl (by omega) hL d_L_349 ?_
  refine lv_aload_n hx hb d_L_350 rfl (lv_at hl 3 rfl) ?_
  refine lv_iload_n hx hb d_L_351 rfl (lv_at hl 0 rfl) ?_
  refine lv_iconst (v := 2) hx hb d_L_352 (by decide) ?_
  refine lv_iadd hx hb d_L_353 ?_
  rw [show (((nI (6 * k9)) + 2) : Int32) = nI ((6 * k9) + 2) from nI_add (6 * k9) 2]
  refine z_sld hx hb hX hbl hbA hS ((6 * k9) + 2) rfl (by omega) hL d_L_354 ?_
  refine lv_aload_n hx hb d_L_355 rfl (lv_at hl 3 rfl) ?_
  refine lv_iload_n hx hb d_L_356 rfl (lv_at hl 0 rfl) ?_
  refine lv_iconst (v := 3) hx hb d_L_357 (by decide) ?_
  refine lv_iadd hx hb d_L_358 ?_
  rw [show (((nI (6 * k9)) + 3) : Int32) = nI ((6 * k9) + 3) from nI_add (6 * k9) 3]
  refine z_sld hx hb hX hbl hbA hS ((6 * k9) + 3) rfl (by omega) hL d_L_359 ?_
  refine lv_i2l (v := (xs ((6 * k9) + 3)).toInt64) hx hb d_L_360 rfl ?_
  refine lv_bipush (v := 32) hx hb d_L_361 (by decide) ?_
  refine lv_lshl (v := (((xs ((6 * k9) + 3)).toInt64) <<< ((32 : Int32).toInt64 &&& 63))) hx hb d_L_363 rfl ?_
  refine lv_aload_n hx hb d_L_364 rfl (lv_at hl 3 rfl) ?_
  refine lv_iload_n hx hb d_L_365 rfl (lv_at hl 0 rfl) ?_
  refine lv_iconst (v := 4) hx hb d_L_366 (by decide) ?_
  refine lv_iadd hx hb d_L_367 ?_
  rw [show (((nI (6 * k9)) + 4) : Int32) = nI ((6 * k9) + 4) from nI_add (6 * k9) 4]
  refine z_sld hx hb hX hbl hbA hS ((6 * k9) + 4) rfl (by omega) hL d_L_368 ?_
  refine lv_i2l (v := (xs ((6 * k9) + 4)).toInt64) hx hb d_L_369 rfl ?_
  refine lv_ldc2 (v := 4294967295) hx hb hown (ht _ q843) d_L_370 ?_
  refine lv_land hx hb d_L_373 ?_
  refine lv_lor hx hb d_L_374 ?_
  refine lv_aload_n hx hb d_L_375 rfl (lv_at hl 3 rfl) ?_
  refine lv_iload_n hx hb d_L_376 rfl (lv_at hl 0 rfl) ?_
  refine lv_iconst (v := 5) hx hb d_L_377 (by decide) ?_
  refine lv_iadd hx hb d_L_378 ?_
  rw [show (((nI (6 * k9)) + 5) : Int32) = nI ((6 * k9) + 5) from nI_add (6 * k9) 5]
  refine z_sld hx hb hX hbl hbA hS ((6 * k9) + 5) rfl (by omega) hL d_L_379 ?_
  have hSp := hS
  have hlt9 := fun (k : Nat) (hk : k < 10) => mI_lt hm hk
  refine z_callQ (va_runV (C := "ValueTrees") (As := [.int (xs ((6 * k9) + 1)), .int (xs ((6 * k9) + 2)), .long ((((xs ((6 * k9) + 3)).toInt64) <<< ((32 : Int32).toInt64 &&& 63)) ||| (((xs ((6 * k9) + 4)).toInt64) &&& 4294967295)), .int (xs ((6 * k9) + 5))]) (rest := []) ⟨hx, hb, hml, hown, hts⟩ (p_V_bytes l D dT _ B vv rg li ed tb tc RV hC hV (xs ((6 * k9) + 1)) (xs ((6 * k9) + 2)) ((((xs ((6 * k9) + 3)).toInt64) <<< ((32 : Int32).toInt64 &&& 63)) ||| (((xs ((6 * k9) + 4)).toInt64) &&& 4294967295)) (xs ((6 * k9) + 5))) ⟨callB_of 4 hts (gI gd_lw gd_l q282) rfl rfl rfl (ht _ q1) (ht _ q279) hd_V_bytes ⟨Nat.le_of_ble_eq_true rfl, Nat.le_of_ble_eq_true rfl⟩, ht _ q280, ht _ q281⟩ (z_preV hK (va_recv hK.1 (z_1 hC.2.1) (ci := 0) (q0 := 0) rfl rfl)) rfl rfl hl.1 rfl (lv_room (Nat.le_of_ble_eq_true rfl)) d_L_380 ⟨by show cells + 1 ≤ 600000; omega, by show slots + 4 ≤ 7302250; omega⟩) hS (fun q9 h9 => h9.elim (fun e9 => by rw [e9]; exact hrg0) (fun h8 => Nat.le_trans hSp.1 h8)) (fun v2 H locs hv1 hz3 hf4 hS => ?_)
  obtain ⟨rfl, hC⟩ := hv1
  have hm := hm.keep (fun k hk => hf4 _ (hlt9 k hk) (fun h9 => h9.elim (hmm k hk).2.1 (Nat.not_le.mpr (hlt9 k hk))))
  refine W.eq (g2 := F0 m 383 ls [.int ((kp RV (xs ((6 * k9) + 1)) (o_bytes (xs ((6 * k9) + 2)) ((((xs ((6 * k9) + 3)).toInt64) <<< ((32 : Int32).toInt64 &&& 63)) ||| (((xs ((6 * k9) + 4)).toInt64) &&& 4294967295)) (xs ((6 * k9) + 5)))).1)]) rfl ?_
  refine lv_aload_n hx hb d_L_383 rfl (lv_at hl 1 rfl) ?_
  refine lv_aload_n hx hb d_L_384 rfl (lv_at hl 3 rfl) ?_
  refine lv_iload_n hx hb d_L_385 rfl (lv_at hl 0 rfl) ?_
  refine lv_iconst (v := 1) hx hb d_L_386 (by decide) ?_
  refine lv_iadd hx hb d_L_387 ?_
  rw [show (((nI (6 * k9)) + 1) : Int32) = nI ((6 * k9) + 1) from nI_add (6 * k9) 1]
  refine z_sld hx hb hX hbl hbA hS ((6 * k9) + 1) rfl (by omega) hL d_L_388 ?_
  refine lv_aload_n hx hb d_L_389 rfl (lv_at hl 3 rfl) ?_
  refine lv_iload_n hx hb d_L_390 rfl (lv_at hl 0 rfl) ?_
  refine lv_iconst (v := 2) hx hb d_L_391 (by decide) ?_
  refine lv_iadd hx hb d_L_392 ?_
  rw [show (((nI (6 * k9)) + 2) : Int32) = nI ((6 * k9) + 2) from nI_add (6 * k9) 2]
  refine z_sld hx hb hX hbl hbA hS ((6 * k9) + 2) rfl (by omega) hL d_L_393 ?_
  refine lv_aload_n hx hb d_L_394 rfl (lv_at hl 3 rfl) ?_
  refine lv_iload_n hx hb d_L_395 rfl (lv_at hl 0 rfl) ?_
  refine lv_iconst (v := 3) hx hb d_L_396 (by decide) ?_
  refine lv_iadd hx hb d_L_397 ?_
  rw [show (((nI (6 * k9)) + 3) : Int32) = nI ((6 * k9) + 3) from nI_add (6 * k9) 3]
  refine z_sld hx hb hX hbl hbA hS ((6 * k9) + 3) rfl (by omega) hL d_L_398 ?_
  refine lv_i2l (v := (xs ((6 * k9) + 3)).toInt64) hx hb d_L_399 rfl ?_
  refine lv_bipush (v := 32) hx hb d_L_400 (by decide) ?_
  refine lv_lshl (v := (((xs ((6 * k9) + 3)).toInt64) <<< ((32 : Int32).toInt64 &&& 63))) hx hb d_L_402 rfl ?_
  refine lv_aload_n hx hb d_L_403 rfl (lv_at hl 3 rfl) ?_
  refine lv_iload_n hx hb d_L_404 rfl (lv_at hl 0 rfl) ?_
  refine lv_iconst (v := 4) hx hb d_L_405 (by decide) ?_
  refine lv_iadd hx hb d_L_406 ?_
  rw [show (((nI (6 * k9)) + 4) : Int32) = nI ((6 * k9) + 4) from nI_add (6 * k9) 4]
  refine z_sld hx hb hX hbl hbA hS ((6 * k9) + 4) rfl (by omega) hL d_L_407 ?_
  refine lv_i2l (v := (xs ((6 * k9) + 4)).toInt64) hx hb d_L_408 rfl ?_
  refine lv_ldc2 (v := 4294967295) hx hb hown (ht _ q843) d_L_409 ?_
  refine lv_land hx hb d_L_412 ?_
  refine lv_lor hx hb d_L_413 ?_
  refine lv_aload_n hx hb d_L_414 rfl (lv_at hl 3 rfl) ?_
  refine lv_iload_n hx hb d_L_415 rfl (lv_at hl 0 rfl) ?_
  refine lv_iconst (v := 5) hx hb d_L_416 (by decide) ?_
  refine lv_iadd hx hb d_L_417 ?_
  rw [show (((nI (6 * k9)) + 5) : Int32) = nI ((6 * k9) + 5) from nI_add (6 * k9) 5]
  refine z_sld hx hb hX hbl hbA hS ((6 * k9) + 5) rfl (by omega) hL d_L_418 ?_
  obtain ⟨fs9, hmo⟩ := mI_obj hm
  refine z_callQ (va_runV (C := "ValueTreesModel") (As := [.int (xs ((6 * k9) + 1)), .int (xs ((6 * k9) + 2)), .long ((((xs ((6 * k9) + 3)).toInt64) <<< ((32 : Int32).toInt64 &&& 63)) ||| (((xs ((6 * k9) + 4)).toInt64) &&& 4294967295)), .int (xs ((6 * k9) + 5))]) (rest := [.int ((kp RV (xs ((6 * k9) + 1)) (o_bytes (xs ((6 * k9) + 2)) ((((xs ((6 * k9) + 3)).toInt64) <<< ((32 : Int32).toInt64 &&& 63)) ||| (((xs ((6 * k9) + 4)).toInt64) &&& 4294967295)) (xs ((6 * k9) + 5)))).1)]) ⟨hx, hb, hml, hown, hts⟩ (p_M_bytes l D dT _ mm tb tc RV hm (xs ((6 * k9) + 1)) (xs ((6 * k9) + 2)) ((((xs ((6 * k9) + 3)).toInt64) <<< ((32 : Int32).toInt64 &&& 63)) ||| (((xs ((6 * k9) + 4)).toInt64) &&& 4294967295)) (xs ((6 * k9) + 5))) ⟨callB_of 4 hts (gI gd_lw gd_l q683) rfl rfl rfl (ht _ q10) (ht _ q680) hd_M_bytes ⟨Nat.le_of_ble_eq_true rfl, Nat.le_of_ble_eq_true rfl⟩, ht _ q681, ht _ q682⟩ (z_preV hK (z_recv hK hmo rfl)) rfl rfl hl.1 rfl (lv_room (Nat.le_of_ble_eq_true rfl)) d_L_419 ⟨by show cells + 1 + 0 ≤ 600000; omega, by show slots + 4 + 0 ≤ 7302250; omega⟩) hS (fun q9 h9 => by obtain ⟨k, hk, e9⟩ := h9; rw [e9]; exact (hmm k hk).2.2.2.2) (fun v6 H locs hv5 hz7 hf8 hS => ?_)
  obtain ⟨rfl, hm⟩ := hv5
  have hC := hC.keepM hz7 hf8 (fun k hk => (hmm k hk).1) (fun k hk => (hmm k hk).2.1) (fun k hk => (hmm k hk).2.2.1) (fun k hk => (hmm k hk).2.2.2.1)
  refine W.eq (g2 := F0 m 422 ls [.int ((kp RV (xs ((6 * k9) + 1)) (o_bytes (xs ((6 * k9) + 2)) ((((xs ((6 * k9) + 3)).toInt64) <<< ((32 : Int32).toInt64 &&& 63)) ||| (((xs ((6 * k9) + 4)).toInt64) &&& 4294967295)) (xs ((6 * k9) + 5)))).1), .int ((kp RV (xs ((6 * k9) + 1)) (o_bytes (xs ((6 * k9) + 2)) ((((xs ((6 * k9) + 3)).toInt64) <<< ((32 : Int32).toInt64 &&& 63)) ||| (((xs ((6 * k9) + 4)).toInt64) &&& 4294967295)) (xs ((6 * k9) + 5)))).1)]) rfl ?_
  refine lv_icmp_eq (tgt := 1170) hx hb d_L_422 (by decide) (fun _ => ?_) (fun h9 => absurd rfl h9)
  refine W.widen (k := cells + 5) (n := slots + 3100) (by omega) (by omega) ?_
  exact kk _ _ ls hl hS ⟨B, ed, _, _, _, hC, hm, hmm, hrg0, hli0, hed0⟩
theorem d_L_427 : decode code 427 = .ok (.aload_n 1, 1) := by decide +kernel
theorem d_L_428 : decode code 428 = .ok (.aload_n 0, 1) := by decide +kernel
theorem d_L_429 : decode code 429 = .ok (.iload_n 3, 1) := by decide +kernel
theorem d_L_430 : decode code 430 = .ok (.iconst 1, 1) := by decide +kernel
theorem d_L_431 : decode code 431 = .ok (.iadd, 1) := by decide +kernel
theorem d_L_432 : decode code 432 = .ok (.iaload, 1) := by decide +kernel
theorem d_L_433 : decode code 433 = .ok (.aload_n 0, 1) := by decide +kernel
theorem d_L_434 : decode code 434 = .ok (.iload_n 3, 1) := by decide +kernel
theorem d_L_435 : decode code 435 = .ok (.iconst 2, 1) := by decide +kernel
theorem d_L_436 : decode code 436 = .ok (.iadd, 1) := by decide +kernel
theorem d_L_437 : decode code 437 = .ok (.iaload, 1) := by decide +kernel
theorem d_L_438 : decode code 438 = .ok (.invokevirtual 39, 3) := by decide +kernel
theorem d_L_441 : decode code 441 = .ok (.aload_n 2, 1) := by decide +kernel
theorem d_L_442 : decode code 442 = .ok (.aload_n 0, 1) := by decide +kernel
theorem d_L_443 : decode code 443 = .ok (.iload_n 3, 1) := by decide +kernel
theorem d_L_444 : decode code 444 = .ok (.iconst 1, 1) := by decide +kernel
theorem d_L_445 : decode code 445 = .ok (.iadd, 1) := by decide +kernel
theorem d_L_446 : decode code 446 = .ok (.iaload, 1) := by decide +kernel
theorem d_L_447 : decode code 447 = .ok (.aload_n 0, 1) := by decide +kernel
theorem d_L_448 : decode code 448 = .ok (.iload_n 3, 1) := by decide +kernel
theorem d_L_449 : decode code 449 = .ok (.iconst 2, 1) := by decide +kernel
theorem d_L_450 : decode code 450 = .ok (.iadd, 1) := by decide +kernel
theorem d_L_451 : decode code 451 = .ok (.iaload, 1) := by decide +kernel
theorem d_L_452 : decode code 452 = .ok (.invokevirtual 42, 3) := by decide +kernel
theorem d_L_455 : decode code 455 = .ok (.if_icmp .eq 715, 3) := by decide +kernel
theorem d_L_458 : decode code 458 = .ok (.iconst 0, 1) := by decide +kernel
theorem d_L_459 : decode code 459 = .ok (.ireturn, 1) := by decide +kernel
set_option maxHeartbeats 4000000 in
set_option maxRecDepth 100000 in
theorem law_c5 (l : Launch) {p : Program} {e : Env} {s : State} {m : MethodId} {below : List Frame} {meth : Method} {c : Code} {b L : Nat} {xs : Nat → Int32} (hL : L ≤ 3072) (C0 : lw_At p s m meth c b L xs) (D : va_G) (dT : Nat → ClassId) (hK : z_K D dT s) (vv rg li : Nat) (mm : Nat → Nat) (k9 : Nat) (hk9 : 6 * k9 + 6 ≤ L) (H : Heap) (locs : List Loc) (cells slots : Nat) (ls : Array Slot) (hl : lv_has ls 4 [(3, .int (nI (6 * k9))), (2, .ref (mm 0)), (1, .ref vv), (0, .ref b)]) (hS : va_S (fun q => s.heap.size ≤ q) s.heap H locs) (hI : lI D dT s.heap.size vv rg li mm H) (hc : cells + 5 ≤ 600000) (hs : slots + 3100 ≤ 7302250) (kk : ∀ (H : Heap) (locs : List Loc) (ls : Array Slot), lv_has ls 4 [(3, .int (nI (6 * k9))), (2, .ref (mm 0)), (1, .ref vv), (0, .ref b)] → va_S (fun q => s.heap.size ≤ q) s.heap H locs → lI D dT s.heap.size vv rg li mm H → W p l e room_1 s m #[Value.ref b] below meth c H locs (cells + 5) (slots + 3100) (lw_Z below #[Value.ref b] s) (F0 m 1170 ls [])) : W p l e room_1 s m #[Value.ref b] below meth c H locs (cells) (slots) (lw_Z below #[Value.ref b] s) (F0 m 427 ls []) := by
  obtain ⟨hx, hb, hr, hml, hown, hts, hX, hbl, hlocks, hgv⟩ := C0
  have hown : s.vm.findClass "ValueTreesLaw" = some m.cls := hown
  have ht : ∀ w ∈ gt, w.before #[Value.ref b] s = true := fun w h => hts w (gt_in h)
  have hbA : ¬ (fun q => s.heap.size ≤ q) b := Nat.not_le.mpr hbl
  obtain ⟨B, ed, tb, tc, RV, hC, hm, hmm, hrg0, hli0, hed0⟩ := hI
  have hV := mI_vOK hm
  refine lv_aload_n hx hb d_L_427 rfl (lv_at hl 2 rfl) ?_
  refine lv_aload_n hx hb d_L_428 rfl (lv_at hl 3 rfl) ?_
  refine lv_iload_n hx hb d_L_429 rfl (lv_at hl 0 rfl) ?_
  refine lv_iconst (v := 1) hx hb d_L_430 (by decide) ?_
  refine lv_iadd hx hb d_L_431 ?_
  rw [show (((nI (6 * k9)) + 1) : Int32) = nI ((6 * k9) + 1) from nI_add (6 * k9) 1]
  refine z_sld hx hb hX hbl hbA hS ((6 * k9) + 1) rfl (by omega) hL d_L_432 ?_
  refine lv_aload_n hx hb d_L_433 rfl (lv_at hl 3 rfl) ?_
  refine lv_iload_n hx hb d_L_434 rfl (lv_at hl 0 rfl) ?_
  refine lv_iconst (v := 2) hx hb d_L_435 (by decide) ?_
  refine lv_iadd hx hb d_L_436 ?_
  rw [show (((nI (6 * k9)) + 2) : Int32) = nI ((6 * k9) + 2) from nI_add (6 * k9) 2]
  refine z_sld hx hb hX hbl hbA hS ((6 * k9) + 2) rfl (by omega) hL d_L_437 ?_
  have hSp := hS
  have hlt9 := fun (k : Nat) (hk : k < 10) => mI_lt hm hk
  refine z_callQ (va_runV (C := "ValueTrees") (As := [.int (xs ((6 * k9) + 1)), .int (xs ((6 * k9) + 2))]) (rest := []) ⟨hx, hb, hml, hown, hts⟩ (p_V_simple l D dT _ B vv rg li ed tb tc RV hC hV (xs ((6 * k9) + 1)) (xs ((6 * k9) + 2))) ⟨callB_of 2 hts (gI gd_lw gd_l q302) rfl rfl rfl (ht _ q1) (ht _ q299) hd_V_simple ⟨Nat.le_of_ble_eq_true rfl, Nat.le_of_ble_eq_true rfl⟩, ht _ q300, ht _ q301⟩ (z_preV hK (va_recv hK.1 (z_1 hC.2.1) (ci := 0) (q0 := 0) rfl rfl)) rfl rfl hl.1 rfl (lv_room (Nat.le_of_ble_eq_true rfl)) d_L_438 ⟨by show cells + 1 ≤ 600000; omega, by show slots + 4 ≤ 7302250; omega⟩) hS (fun q9 h9 => h9.elim (fun e9 => by rw [e9]; exact hrg0) (fun h8 => Nat.le_trans hSp.1 h8)) (fun v2 H locs hv1 hz3 hf4 hS => ?_)
  obtain ⟨rfl, hC⟩ := hv1
  have hm := hm.keep (fun k hk => hf4 _ (hlt9 k hk) (fun h9 => h9.elim (hmm k hk).2.1 (Nat.not_le.mpr (hlt9 k hk))))
  refine W.eq (g2 := F0 m 441 ls [.int ((kp RV (xs ((6 * k9) + 1)) (o_simple (xs ((6 * k9) + 2)))).1)]) rfl ?_
  refine lv_aload_n hx hb d_L_441 rfl (lv_at hl 1 rfl) ?_
  refine lv_aload_n hx hb d_L_442 rfl (lv_at hl 3 rfl) ?_
  refine lv_iload_n hx hb d_L_443 rfl (lv_at hl 0 rfl) ?_
  refine lv_iconst (v := 1) hx hb d_L_444 (by decide) ?_
  refine lv_iadd hx hb d_L_445 ?_
  rw [show (((nI (6 * k9)) + 1) : Int32) = nI ((6 * k9) + 1) from nI_add (6 * k9) 1]
  refine z_sld hx hb hX hbl hbA hS ((6 * k9) + 1) rfl (by omega) hL d_L_446 ?_
  refine lv_aload_n hx hb d_L_447 rfl (lv_at hl 3 rfl) ?_
  refine lv_iload_n hx hb d_L_448 rfl (lv_at hl 0 rfl) ?_
  refine lv_iconst (v := 2) hx hb d_L_449 (by decide) ?_
  refine lv_iadd hx hb d_L_450 ?_
  rw [show (((nI (6 * k9)) + 2) : Int32) = nI ((6 * k9) + 2) from nI_add (6 * k9) 2]
  refine z_sld hx hb hX hbl hbA hS ((6 * k9) + 2) rfl (by omega) hL d_L_451 ?_
  obtain ⟨fs9, hmo⟩ := mI_obj hm
  refine z_callQ (va_runV (C := "ValueTreesModel") (As := [.int (xs ((6 * k9) + 1)), .int (xs ((6 * k9) + 2))]) (rest := [.int ((kp RV (xs ((6 * k9) + 1)) (o_simple (xs ((6 * k9) + 2)))).1)]) ⟨hx, hb, hml, hown, hts⟩ (p_M_simple l D dT _ mm tb tc RV hm (xs ((6 * k9) + 1)) (xs ((6 * k9) + 2))) ⟨callB_of 2 hts (gI gd_lw gd_l q692) rfl rfl rfl (ht _ q10) (ht _ q689) hd_M_simple ⟨Nat.le_of_ble_eq_true rfl, Nat.le_of_ble_eq_true rfl⟩, ht _ q690, ht _ q691⟩ (z_preV hK (z_recv hK hmo rfl)) rfl rfl hl.1 rfl (lv_room (Nat.le_of_ble_eq_true rfl)) d_L_452 ⟨by show cells + 1 + 0 ≤ 600000; omega, by show slots + 4 + 0 ≤ 7302250; omega⟩) hS (fun q9 h9 => by obtain ⟨k, hk, e9⟩ := h9; rw [e9]; exact (hmm k hk).2.2.2.2) (fun v6 H locs hv5 hz7 hf8 hS => ?_)
  obtain ⟨rfl, hm⟩ := hv5
  have hC := hC.keepM hz7 hf8 (fun k hk => (hmm k hk).1) (fun k hk => (hmm k hk).2.1) (fun k hk => (hmm k hk).2.2.1) (fun k hk => (hmm k hk).2.2.2.1)
  refine W.eq (g2 := F0 m 455 ls [.int ((kp RV (xs ((6 * k9) + 1)) (o_simple (xs ((6 * k9) + 2)))).1), .int ((kp RV (xs ((6 * k9) + 1)) (o_simple (xs ((6 * k9) + 2)))).1)]) rfl ?_
  refine lv_icmp_eq (tgt := 1170) hx hb d_L_455 (by decide) (fun _ => ?_) (fun h9 => absurd rfl h9)
  refine W.widen (k := cells + 5) (n := slots + 3100) (by omega) (by omega) ?_
  exact kk _ _ ls hl hS ⟨B, ed, _, _, _, hC, hm, hmm, hrg0, hli0, hed0⟩
theorem d_L_460 : decode code 460 = .ok (.aload_n 1, 1) := by decide +kernel
theorem d_L_461 : decode code 461 = .ok (.aload_n 0, 1) := by decide +kernel
theorem d_L_462 : decode code 462 = .ok (.iload_n 3, 1) := by decide +kernel
theorem d_L_463 : decode code 463 = .ok (.iconst 1, 1) := by decide +kernel
theorem d_L_464 : decode code 464 = .ok (.iadd, 1) := by decide +kernel
theorem d_L_465 : decode code 465 = .ok (.iaload, 1) := by decide +kernel
theorem d_L_466 : decode code 466 = .ok (.aload_n 0, 1) := by decide +kernel
theorem d_L_467 : decode code 467 = .ok (.iload_n 3, 1) := by decide +kernel
theorem d_L_468 : decode code 468 = .ok (.iconst 2, 1) := by decide +kernel
theorem d_L_469 : decode code 469 = .ok (.iadd, 1) := by decide +kernel
theorem d_L_470 : decode code 470 = .ok (.iaload, 1) := by decide +kernel
theorem d_L_471 : decode code 471 = .ok (.invokevirtual 43, 3) := by decide +kernel
theorem d_L_474 : decode code 474 = .ok (.aload_n 2, 1) := by decide +kernel
theorem d_L_475 : decode code 475 = .ok (.aload_n 0, 1) := by decide +kernel
theorem d_L_476 : decode code 476 = .ok (.iload_n 3, 1) := by decide +kernel
theorem d_L_477 : decode code 477 = .ok (.iconst 1, 1) := by decide +kernel
theorem d_L_478 : decode code 478 = .ok (.iadd, 1) := by decide +kernel
theorem d_L_479 : decode code 479 = .ok (.iaload, 1) := by decide +kernel
theorem d_L_480 : decode code 480 = .ok (.aload_n 0, 1) := by decide +kernel
theorem d_L_481 : decode code 481 = .ok (.iload_n 3, 1) := by decide +kernel
theorem d_L_482 : decode code 482 = .ok (.iconst 2, 1) := by decide +kernel
theorem d_L_483 : decode code 483 = .ok (.iadd, 1) := by decide +kernel
theorem d_L_484 : decode code 484 = .ok (.iaload, 1) := by decide +kernel
theorem d_L_485 : decode code 485 = .ok (.invokevirtual 46, 3) := by decide +kernel
theorem d_L_488 : decode code 488 = .ok (.if_icmp .eq 682, 3) := by decide +kernel
theorem d_L_491 : decode code 491 = .ok (.iconst 0, 1) := by decide +kernel
theorem d_L_492 : decode code 492 = .ok (.ireturn, 1) := by decide +kernel
set_option maxHeartbeats 4000000 in
set_option maxRecDepth 100000 in
theorem law_c6 (l : Launch) {p : Program} {e : Env} {s : State} {m : MethodId} {below : List Frame} {meth : Method} {c : Code} {b L : Nat} {xs : Nat → Int32} (hL : L ≤ 3072) (C0 : lw_At p s m meth c b L xs) (D : va_G) (dT : Nat → ClassId) (hK : z_K D dT s) (vv rg li : Nat) (mm : Nat → Nat) (k9 : Nat) (hk9 : 6 * k9 + 6 ≤ L) (H : Heap) (locs : List Loc) (cells slots : Nat) (ls : Array Slot) (hl : lv_has ls 4 [(3, .int (nI (6 * k9))), (2, .ref (mm 0)), (1, .ref vv), (0, .ref b)]) (hS : va_S (fun q => s.heap.size ≤ q) s.heap H locs) (hI : lI D dT s.heap.size vv rg li mm H) (hc : cells + 5 ≤ 600000) (hs : slots + 3100 ≤ 7302250) (kk : ∀ (H : Heap) (locs : List Loc) (ls : Array Slot), lv_has ls 4 [(3, .int (nI (6 * k9))), (2, .ref (mm 0)), (1, .ref vv), (0, .ref b)] → va_S (fun q => s.heap.size ≤ q) s.heap H locs → lI D dT s.heap.size vv rg li mm H → W p l e room_1 s m #[Value.ref b] below meth c H locs (cells + 5) (slots + 3100) (lw_Z below #[Value.ref b] s) (F0 m 1170 ls [])) : W p l e room_1 s m #[Value.ref b] below meth c H locs (cells) (slots) (lw_Z below #[Value.ref b] s) (F0 m 460 ls []) := by
  obtain ⟨hx, hb, hr, hml, hown, hts, hX, hbl, hlocks, hgv⟩ := C0
  have hown : s.vm.findClass "ValueTreesLaw" = some m.cls := hown
  have ht : ∀ w ∈ gt, w.before #[Value.ref b] s = true := fun w h => hts w (gt_in h)
  have hbA : ¬ (fun q => s.heap.size ≤ q) b := Nat.not_le.mpr hbl
  obtain ⟨B, ed, tb, tc, RV, hC, hm, hmm, hrg0, hli0, hed0⟩ := hI
  have hV := mI_vOK hm
  refine lv_aload_n hx hb d_L_460 rfl (lv_at hl 2 rfl) ?_
  refine lv_aload_n hx hb d_L_461 rfl (lv_at hl 3 rfl) ?_
  refine lv_iload_n hx hb d_L_462 rfl (lv_at hl 0 rfl) ?_
  refine lv_iconst (v := 1) hx hb d_L_463 (by decide) ?_
  refine lv_iadd hx hb d_L_464 ?_
  rw [show (((nI (6 * k9)) + 1) : Int32) = nI ((6 * k9) + 1) from nI_add (6 * k9) 1]
  refine z_sld hx hb hX hbl hbA hS ((6 * k9) + 1) rfl (by omega) hL d_L_465 ?_
  refine lv_aload_n hx hb d_L_466 rfl (lv_at hl 3 rfl) ?_
  refine lv_iload_n hx hb d_L_467 rfl (lv_at hl 0 rfl) ?_
  refine lv_iconst (v := 2) hx hb d_L_468 (by decide) ?_
  refine lv_iadd hx hb d_L_469 ?_
  rw [show (((nI (6 * k9)) + 2) : Int32) = nI ((6 * k9) + 2) from nI_add (6 * k9) 2]
  refine z_sld hx hb hX hbl hbA hS ((6 * k9) + 2) rfl (by omega) hL d_L_470 ?_
  have hSp := hS
  have hlt9 := fun (k : Nat) (hk : k < 10) => mI_lt hm hk
  refine z_callQ (va_runV (C := "ValueTrees") (As := [.int (xs ((6 * k9) + 1)), .int (xs ((6 * k9) + 2))]) (rest := []) ⟨hx, hb, hml, hown, hts⟩ (p_V_empty l D dT _ B vv rg li ed tb tc RV hC hV (xs ((6 * k9) + 1)) (xs ((6 * k9) + 2))) ⟨callB_of 2 hts (gI gd_lw gd_l q323) rfl rfl rfl (ht _ q1) (ht _ q320) hd_V_empty ⟨Nat.le_of_ble_eq_true rfl, Nat.le_of_ble_eq_true rfl⟩, ht _ q321, ht _ q322⟩ (z_preV hK (va_recv hK.1 (z_1 hC.2.1) (ci := 0) (q0 := 0) rfl rfl)) rfl rfl hl.1 rfl (lv_room (Nat.le_of_ble_eq_true rfl)) d_L_471 ⟨by show cells + 2 ≤ 600000; omega, by show slots + 5 ≤ 7302250; omega⟩) hS (fun q9 h9 => h9.elim (fun e9 => by rw [e9]; exact hrg0) (fun h8 => Nat.le_trans hSp.1 h8)) (fun v2 H locs hv1 hz3 hf4 hS => ?_)
  obtain ⟨rfl, hC⟩ := hv1
  have hm := hm.keep (fun k hk => hf4 _ (hlt9 k hk) (fun h9 => h9.elim (hmm k hk).2.1 (Nat.not_le.mpr (hlt9 k hk))))
  refine W.eq (g2 := F0 m 474 ls [.int ((kp RV (xs ((6 * k9) + 1)) (o_empty tb tc (xs ((6 * k9) + 2)))).1)]) rfl ?_
  refine lv_aload_n hx hb d_L_474 rfl (lv_at hl 1 rfl) ?_
  refine lv_aload_n hx hb d_L_475 rfl (lv_at hl 3 rfl) ?_
  refine lv_iload_n hx hb d_L_476 rfl (lv_at hl 0 rfl) ?_
  refine lv_iconst (v := 1) hx hb d_L_477 (by decide) ?_
  refine lv_iadd hx hb d_L_478 ?_
  rw [show (((nI (6 * k9)) + 1) : Int32) = nI ((6 * k9) + 1) from nI_add (6 * k9) 1]
  refine z_sld hx hb hX hbl hbA hS ((6 * k9) + 1) rfl (by omega) hL d_L_479 ?_
  refine lv_aload_n hx hb d_L_480 rfl (lv_at hl 3 rfl) ?_
  refine lv_iload_n hx hb d_L_481 rfl (lv_at hl 0 rfl) ?_
  refine lv_iconst (v := 2) hx hb d_L_482 (by decide) ?_
  refine lv_iadd hx hb d_L_483 ?_
  rw [show (((nI (6 * k9)) + 2) : Int32) = nI ((6 * k9) + 2) from nI_add (6 * k9) 2]
  refine z_sld hx hb hX hbl hbA hS ((6 * k9) + 2) rfl (by omega) hL d_L_484 ?_
  obtain ⟨fs9, hmo⟩ := mI_obj hm
  refine z_callQ (va_runV (C := "ValueTreesModel") (As := [.int (xs ((6 * k9) + 1)), .int (xs ((6 * k9) + 2))]) (rest := [.int ((kp RV (xs ((6 * k9) + 1)) (o_empty tb tc (xs ((6 * k9) + 2)))).1)]) ⟨hx, hb, hml, hown, hts⟩ (p_M_empty l D dT _ mm tb tc RV hm (xs ((6 * k9) + 1)) (xs ((6 * k9) + 2))) ⟨callB_of 2 hts (gI gd_lw gd_l q696) rfl rfl rfl (ht _ q10) (ht _ q693) hd_M_empty ⟨Nat.le_of_ble_eq_true rfl, Nat.le_of_ble_eq_true rfl⟩, ht _ q694, ht _ q695⟩ (z_preV hK (z_recv hK hmo rfl)) rfl rfl hl.1 rfl (lv_room (Nat.le_of_ble_eq_true rfl)) d_L_485 ⟨by show cells + 2 + 0 ≤ 600000; omega, by show slots + 5 + 0 ≤ 7302250; omega⟩) hS (fun q9 h9 => by obtain ⟨k, hk, e9⟩ := h9; rw [e9]; exact (hmm k hk).2.2.2.2) (fun v6 H locs hv5 hz7 hf8 hS => ?_)
  obtain ⟨rfl, hm⟩ := hv5
  have hC := hC.keepM hz7 hf8 (fun k hk => (hmm k hk).1) (fun k hk => (hmm k hk).2.1) (fun k hk => (hmm k hk).2.2.1) (fun k hk => (hmm k hk).2.2.2.1)
  refine W.eq (g2 := F0 m 488 ls [.int ((kp RV (xs ((6 * k9) + 1)) (o_empty tb tc (xs ((6 * k9) + 2)))).1), .int ((kp RV (xs ((6 * k9) + 1)) (o_empty tb tc (xs ((6 * k9) + 2)))).1)]) rfl ?_
  refine lv_icmp_eq (tgt := 1170) hx hb d_L_488 (by decide) (fun _ => ?_) (fun h9 => absurd rfl h9)
  refine W.widen (k := cells + 5) (n := slots + 3100) (by omega) (by omega) ?_
  exact kk _ _ ls hl hS ⟨B, ed, _, _, _, hC, hm, hmm, hrg0, hli0, hed0⟩
theorem d_L_493 : decode code 493 = .ok (.aload_n 1, 1) := by decide +kernel
theorem d_L_494 : decode code 494 = .ok (.aload_n 0, 1) := by decide +kernel
theorem d_L_495 : decode code 495 = .ok (.iload_n 3, 1) := by decide +kernel
theorem d_L_496 : decode code 496 = .ok (.iconst 1, 1) := by decide +kernel
theorem d_L_497 : decode code 497 = .ok (.iadd, 1) := by decide +kernel
theorem d_L_498 : decode code 498 = .ok (.iaload, 1) := by decide +kernel
theorem d_L_499 : decode code 499 = .ok (.aload_n 0, 1) := by decide +kernel
theorem d_L_500 : decode code 500 = .ok (.iload_n 3, 1) := by decide +kernel
theorem d_L_501 : decode code 501 = .ok (.iconst 2, 1) := by decide +kernel
theorem d_L_502 : decode code 502 = .ok (.iadd, 1) := by decide +kernel
theorem d_L_503 : decode code 503 = .ok (.iaload, 1) := by decide +kernel
theorem d_L_504 : decode code 504 = .ok (.aload_n 0, 1) := by decide +kernel
theorem d_L_505 : decode code 505 = .ok (.iload_n 3, 1) := by decide +kernel
theorem d_L_506 : decode code 506 = .ok (.iconst 3, 1) := by decide +kernel
theorem d_L_507 : decode code 507 = .ok (.iadd, 1) := by decide +kernel
theorem d_L_508 : decode code 508 = .ok (.iaload, 1) := by decide +kernel
theorem d_L_509 : decode code 509 = .ok (.aload_n 0, 1) := by decide +kernel
theorem d_L_510 : decode code 510 = .ok (.iload_n 3, 1) := by decide +kernel
theorem d_L_511 : decode code 511 = .ok (.iconst 4, 1) := by decide +kernel
theorem d_L_512 : decode code 512 = .ok (.iadd, 1) := by decide +kernel
theorem d_L_513 : decode code 513 = .ok (.iaload, 1) := by decide +kernel
theorem d_L_514 : decode code 514 = .ok (.invokevirtual 47, 3) := by decide +kernel
theorem d_L_517 : decode code 517 = .ok (.aload_n 2, 1) := by decide +kernel
theorem d_L_518 : decode code 518 = .ok (.aload_n 0, 1) := by decide +kernel
theorem d_L_519 : decode code 519 = .ok (.iload_n 3, 1) := by decide +kernel
theorem d_L_520 : decode code 520 = .ok (.iconst 1, 1) := by decide +kernel
theorem d_L_521 : decode code 521 = .ok (.iadd, 1) := by decide +kernel
theorem d_L_522 : decode code 522 = .ok (.iaload, 1) := by decide +kernel
theorem d_L_523 : decode code 523 = .ok (.aload_n 0, 1) := by decide +kernel
theorem d_L_524 : decode code 524 = .ok (.iload_n 3, 1) := by decide +kernel
theorem d_L_525 : decode code 525 = .ok (.iconst 2, 1) := by decide +kernel
theorem d_L_526 : decode code 526 = .ok (.iadd, 1) := by decide +kernel
theorem d_L_527 : decode code 527 = .ok (.iaload, 1) := by decide +kernel
theorem d_L_528 : decode code 528 = .ok (.aload_n 0, 1) := by decide +kernel
theorem d_L_529 : decode code 529 = .ok (.iload_n 3, 1) := by decide +kernel
theorem d_L_530 : decode code 530 = .ok (.iconst 3, 1) := by decide +kernel
theorem d_L_531 : decode code 531 = .ok (.iadd, 1) := by decide +kernel
theorem d_L_532 : decode code 532 = .ok (.iaload, 1) := by decide +kernel
theorem d_L_533 : decode code 533 = .ok (.aload_n 0, 1) := by decide +kernel
theorem d_L_534 : decode code 534 = .ok (.iload_n 3, 1) := by decide +kernel
theorem d_L_535 : decode code 535 = .ok (.iconst 4, 1) := by decide +kernel
theorem d_L_536 : decode code 536 = .ok (.iadd, 1) := by decide +kernel
theorem d_L_537 : decode code 537 = .ok (.iaload, 1) := by decide +kernel
theorem d_L_538 : decode code 538 = .ok (.invokevirtual 51, 3) := by decide +kernel
theorem d_L_541 : decode code 541 = .ok (.if_icmp .eq 629, 3) := by decide +kernel
theorem d_L_544 : decode code 544 = .ok (.iconst 0, 1) := by decide +kernel
theorem d_L_545 : decode code 545 = .ok (.ireturn, 1) := by decide +kernel
set_option maxHeartbeats 4000000 in
set_option maxRecDepth 100000 in
theorem law_c7 (l : Launch) {p : Program} {e : Env} {s : State} {m : MethodId} {below : List Frame} {meth : Method} {c : Code} {b L : Nat} {xs : Nat → Int32} (hL : L ≤ 3072) (C0 : lw_At p s m meth c b L xs) (D : va_G) (dT : Nat → ClassId) (hK : z_K D dT s) (vv rg li : Nat) (mm : Nat → Nat) (k9 : Nat) (hk9 : 6 * k9 + 6 ≤ L) (H : Heap) (locs : List Loc) (cells slots : Nat) (ls : Array Slot) (hl : lv_has ls 4 [(3, .int (nI (6 * k9))), (2, .ref (mm 0)), (1, .ref vv), (0, .ref b)]) (hS : va_S (fun q => s.heap.size ≤ q) s.heap H locs) (hI : lI D dT s.heap.size vv rg li mm H) (hc : cells + 5 ≤ 600000) (hs : slots + 3100 ≤ 7302250) (kk : ∀ (H : Heap) (locs : List Loc) (ls : Array Slot), lv_has ls 4 [(3, .int (nI (6 * k9))), (2, .ref (mm 0)), (1, .ref vv), (0, .ref b)] → va_S (fun q => s.heap.size ≤ q) s.heap H locs → lI D dT s.heap.size vv rg li mm H → W p l e room_1 s m #[Value.ref b] below meth c H locs (cells + 5) (slots + 3100) (lw_Z below #[Value.ref b] s) (F0 m 1170 ls [])) : W p l e room_1 s m #[Value.ref b] below meth c H locs (cells) (slots) (lw_Z below #[Value.ref b] s) (F0 m 493 ls []) := by
  obtain ⟨hx, hb, hr, hml, hown, hts, hX, hbl, hlocks, hgv⟩ := C0
  have hown : s.vm.findClass "ValueTreesLaw" = some m.cls := hown
  have ht : ∀ w ∈ gt, w.before #[Value.ref b] s = true := fun w h => hts w (gt_in h)
  have hbA : ¬ (fun q => s.heap.size ≤ q) b := Nat.not_le.mpr hbl
  obtain ⟨B, ed, tb, tc, RV, hC, hm, hmm, hrg0, hli0, hed0⟩ := hI
  have hV := mI_vOK hm
  refine lv_aload_n hx hb d_L_493 rfl (lv_at hl 2 rfl) ?_
  refine lv_aload_n hx hb d_L_494 rfl (lv_at hl 3 rfl) ?_
  refine lv_iload_n hx hb d_L_495 rfl (lv_at hl 0 rfl) ?_
  refine lv_iconst (v := 1) hx hb d_L_496 (by decide) ?_
  refine lv_iadd hx hb d_L_497 ?_
  rw [show (((nI (6 * k9)) + 1) : Int32) = nI ((6 * k9) + 1) from nI_add (6 * k9) 1]
  refine z_sld hx hb hX hbl hbA hS ((6 * k9) + 1) rfl (by omega) hL d_L_498 ?_
  refine lv_aload_n hx hb d_L_499 rfl (lv_at hl 3 rfl) ?_
  refine lv_iload_n hx hb d_L_500 rfl (lv_at hl 0 rfl) ?_
  refine lv_iconst (v := 2) hx hb d_L_501 (by decide) ?_
  refine lv_iadd hx hb d_L_502 ?_
  rw [show (((nI (6 * k9)) + 2) : Int32) = nI ((6 * k9) + 2) from nI_add (6 * k9) 2]
  refine z_sld hx hb hX hbl hbA hS ((6 * k9) + 2) rfl (by omega) hL d_L_503 ?_
  refine lv_aload_n hx hb d_L_504 rfl (lv_at hl 3 rfl) ?_
  refine lv_iload_n hx hb d_L_505 rfl (lv_at hl 0 rfl) ?_
  refine lv_iconst (v := 3) hx hb d_L_506 (by decide) ?_
  refine lv_iadd hx hb d_L_507 ?_
  rw [show (((nI (6 * k9)) + 3) : Int32) = nI ((6 * k9) + 3) from nI_add (6 * k9) 3]
  refine z_sld hx hb hX hbl hbA hS ((6 * k9) + 3) rfl (by omega) hL d_L_508 ?_
  refine lv_aload_n hx hb d_L_509 rfl (lv_at hl 3 rfl) ?_
  refine lv_iload_n hx hb d_L_510 rfl (lv_at hl 0 rfl) ?_
  refine lv_iconst (v := 4) hx hb d_L_511 (by decide) ?_
  refine lv_iadd hx hb d_L_512 ?_
  rw [show (((nI (6 * k9)) + 4) : Int32) = nI ((6 * k9) + 4) from nI_add (6 * k9) 4]
  refine z_sld hx hb hX hbl hbA hS ((6 * k9) + 4) rfl (by omega) hL d_L_513 ?_
  have hSp := hS
  have hlt9 := fun (k : Nat) (hk : k < 10) => mI_lt hm hk
  refine z_callQ (va_runV (C := "ValueTrees") (As := [.int (xs ((6 * k9) + 1)), .int (xs ((6 * k9) + 2)), .int (xs ((6 * k9) + 3)), .int (xs ((6 * k9) + 4))]) (rest := []) ⟨hx, hb, hml, hown, hts⟩ (p_V_wrap l D dT _ B vv rg li ed tb tc RV hC hV (xs ((6 * k9) + 1)) (xs ((6 * k9) + 2)) (xs ((6 * k9) + 3)) (xs ((6 * k9) + 4))) ⟨callB_of 4 hts (gI gd_lw gd_l q367) rfl rfl rfl (ht _ q1) (ht _ q364) hd_V_wrap ⟨Nat.le_of_ble_eq_true rfl, Nat.le_of_ble_eq_true rfl⟩, ht _ q365, ht _ q366⟩ (z_preV hK (va_recv hK.1 (z_1 hC.2.1) (ci := 0) (q0 := 0) rfl rfl)) rfl rfl hl.1 rfl (lv_room (Nat.le_of_ble_eq_true rfl)) d_L_514 ⟨by show cells + 1 ≤ 600000; omega, by show slots + 4 ≤ 7302250; omega⟩) hS (fun q9 h9 => h9.elim (fun e9 => by rw [e9]; exact hrg0) (fun h8 => Nat.le_trans hSp.1 h8)) (fun v2 H locs hv1 hz3 hf4 hS => ?_)
  obtain ⟨rfl, hC⟩ := hv1
  have hm := hm.keep (fun k hk => hf4 _ (hlt9 k hk) (fun h9 => h9.elim (hmm k hk).2.1 (Nat.not_le.mpr (hlt9 k hk))))
  refine W.eq (g2 := F0 m 517 ls [.int ((kp RV (xs ((6 * k9) + 1)) (o_wrap tb tc RV (xs ((6 * k9) + 2)) (xs ((6 * k9) + 3)) (xs ((6 * k9) + 4)))).1)]) rfl ?_
  refine lv_aload_n hx hb d_L_517 rfl (lv_at hl 1 rfl) ?_
  refine lv_aload_n hx hb d_L_518 rfl (lv_at hl 3 rfl) ?_
  refine lv_iload_n hx hb d_L_519 rfl (lv_at hl 0 rfl) ?_
  refine lv_iconst (v := 1) hx hb d_L_520 (by decide) ?_
  refine lv_iadd hx hb d_L_521 ?_
  rw [show (((nI (6 * k9)) + 1) : Int32) = nI ((6 * k9) + 1) from nI_add (6 * k9) 1]
  refine z_sld hx hb hX hbl hbA hS ((6 * k9) + 1) rfl (by omega) hL d_L_522 ?_
  refine lv_aload_n hx hb d_L_523 rfl (lv_at hl 3 rfl) ?_
  refine lv_iload_n hx hb d_L_524 rfl (lv_at hl 0 rfl) ?_
  refine lv_iconst (v := 2) hx hb d_L_525 (by decide) ?_
  refine lv_iadd hx hb d_L_526 ?_
  rw [show (((nI (6 * k9)) + 2) : Int32) = nI ((6 * k9) + 2) from nI_add (6 * k9) 2]
  refine z_sld hx hb hX hbl hbA hS ((6 * k9) + 2) rfl (by omega) hL d_L_527 ?_
  refine lv_aload_n hx hb d_L_528 rfl (lv_at hl 3 rfl) ?_
  refine lv_iload_n hx hb d_L_529 rfl (lv_at hl 0 rfl) ?_
  refine lv_iconst (v := 3) hx hb d_L_530 (by decide) ?_
  refine lv_iadd hx hb d_L_531 ?_
  rw [show (((nI (6 * k9)) + 3) : Int32) = nI ((6 * k9) + 3) from nI_add (6 * k9) 3]
  refine z_sld hx hb hX hbl hbA hS ((6 * k9) + 3) rfl (by omega) hL d_L_532 ?_
  refine lv_aload_n hx hb d_L_533 rfl (lv_at hl 3 rfl) ?_
  refine lv_iload_n hx hb d_L_534 rfl (lv_at hl 0 rfl) ?_
  refine lv_iconst (v := 4) hx hb d_L_535 (by decide) ?_
  refine lv_iadd hx hb d_L_536 ?_
  rw [show (((nI (6 * k9)) + 4) : Int32) = nI ((6 * k9) + 4) from nI_add (6 * k9) 4]
  refine z_sld hx hb hX hbl hbA hS ((6 * k9) + 4) rfl (by omega) hL d_L_537 ?_
  obtain ⟨fs9, hmo⟩ := mI_obj hm
  refine z_callQ (va_runV (C := "ValueTreesModel") (As := [.int (xs ((6 * k9) + 1)), .int (xs ((6 * k9) + 2)), .int (xs ((6 * k9) + 3)), .int (xs ((6 * k9) + 4))]) (rest := [.int ((kp RV (xs ((6 * k9) + 1)) (o_wrap tb tc RV (xs ((6 * k9) + 2)) (xs ((6 * k9) + 3)) (xs ((6 * k9) + 4)))).1)]) ⟨hx, hb, hml, hown, hts⟩ (p_M_wrap l D dT _ mm tb tc RV hm (xs ((6 * k9) + 1)) (xs ((6 * k9) + 2)) (xs ((6 * k9) + 3)) (xs ((6 * k9) + 4))) ⟨callB_of 4 hts (gI gd_lw gd_l q703) rfl rfl rfl (ht _ q10) (ht _ q700) hd_M_wrap ⟨Nat.le_of_ble_eq_true rfl, Nat.le_of_ble_eq_true rfl⟩, ht _ q701, ht _ q702⟩ (z_preV hK (z_recv hK hmo rfl)) rfl rfl hl.1 rfl (lv_room (Nat.le_of_ble_eq_true rfl)) d_L_538 ⟨by show cells + 1 + 0 ≤ 600000; omega, by show slots + 4 + 0 ≤ 7302250; omega⟩) hS (fun q9 h9 => by obtain ⟨k, hk, e9⟩ := h9; rw [e9]; exact (hmm k hk).2.2.2.2) (fun v6 H locs hv5 hz7 hf8 hS => ?_)
  obtain ⟨rfl, hm⟩ := hv5
  have hC := hC.keepM hz7 hf8 (fun k hk => (hmm k hk).1) (fun k hk => (hmm k hk).2.1) (fun k hk => (hmm k hk).2.2.1) (fun k hk => (hmm k hk).2.2.2.1)
  refine W.eq (g2 := F0 m 541 ls [.int ((kp RV (xs ((6 * k9) + 1)) (o_wrap tb tc RV (xs ((6 * k9) + 2)) (xs ((6 * k9) + 3)) (xs ((6 * k9) + 4)))).1), .int ((kp RV (xs ((6 * k9) + 1)) (o_wrap tb tc RV (xs ((6 * k9) + 2)) (xs ((6 * k9) + 3)) (xs ((6 * k9) + 4)))).1)]) rfl ?_
  refine lv_icmp_eq (tgt := 1170) hx hb d_L_541 (by decide) (fun _ => ?_) (fun h9 => absurd rfl h9)
  refine W.widen (k := cells + 5) (n := slots + 3100) (by omega) (by omega) ?_
  exact kk _ _ ls hl hS ⟨B, ed, _, _, _, hC, hm, hmm, hrg0, hli0, hed0⟩
