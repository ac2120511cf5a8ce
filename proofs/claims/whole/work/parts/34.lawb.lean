set_option maxHeartbeats 4000000 in
set_option maxRecDepth 100000 in
theorem lc_tally {p : Program} {l : Launch} {e : Env} {s : State} {m : MethodId} {below : List Frame} {meth : Method} {c : Code} {D : va_G} {b L : Nat} {xs : Nat → Int32} {a : XA} {z : MA} (C0 : lw_At p s m meth c b L xs) (K : lwK D s a z) {i : Int32} (h1 : vp_in (i + 1) L) (h2 : vp_in (i + 2) L) (h3 : vp_in (i + 3) L) (h4 : vp_in (i + 4) L) {X : XS} {M : MS} {H : Heap} {locs : List Loc} {ls : Array Slot} (S : lwS D s b a z i X M H locs ls) (J : ∀ (X : XS) (M : MS) (H : Heap) (locs : List Loc) (ls : Array Slot), lwS D s b a z i X M H locs ls → W p l e room_1 s m #[Value.ref b] below meth c H locs 37 1453 (lw_Z below #[Value.ref b] s) (F0 m 692 ls [])) : W p l e room_1 s m #[Value.ref b] below meth c H locs 37 1453 (lw_Z below #[Value.ref b] s) (F0 m 336 ls []) := by
  obtain ⟨hx, hb, hr, hml, hown0, hts0, hX, hbl, hlocks, hgv⟩ := C0
  have hts := fun w h => hts0 w (wsL_law_in w h)
  have hown : s.vm.findClass RL = some m.cls := hown0
  have hbA : ¬ (fun q : Nat => s.heap.size ≤ q) b := Nat.not_le.mpr hbl
  obtain ⟨hKx, hKm, hOx, hOm, hdj, hAx, hAm⟩ := K
  obtain ⟨R, hPx, hPm, hS, hl⟩ := S
  refine lv_aload_n hx hb dL_law_336 rfl (lv_at hl 2 rfl) ?_
  refine lv_aload_n hx hb dL_law_337 rfl (lv_at hl 1 rfl) ?_
  refine lv_iload_n hx hb dL_law_338 rfl (lv_at hl 0 rfl) ?_
  refine lv_iconst (v := 1) hx hb dL_law_339 (by decide) ?_
  refine lv_iadd hx hb dL_law_340 ?_
  refine va_sld hx hb hX hbl hbA hS h1 dL_law_341 ?_
  refine va_calli (va_runV (As := [.int (xs (Int32.toNatClampNeg (i + 1)))]) (rest := []) ⟨hx, hb, hml, hown, hts⟩ (c_X0_tally l D a hOx X (xs (Int32.toNatClampNeg (i + 1))) (RRI R)) (cwV 1 hts gL_law_X0_tally rfl rfl rfl hdX0_tally ⟨Nat.le_of_ble_eq_true rfl, Nat.le_of_ble_eq_true rfl⟩) (xPreV hKx hPx) rfl rfl hl.1 rfl (lv_room (Nat.le_of_ble_eq_true rfl)) dL_law_342 ⟨Nat.le_of_ble_eq_true rfl, Nat.le_of_ble_eq_true rfl⟩) hS (fun q _ h => hAx q h) (fun q h => hAx q h) (fun rx X1 t H1 locs ht hvm hwx hB hz1 hk1 hS => ?_)
  obtain ⟨hQ, -⟩ := hB
  rw [ht] at hQ
  have hPm := keepM hPm hk1 hdj
  have hPx := hQ
  refine lv_aload_n hx hb dL_law_345 rfl (lv_at hl 3 rfl) ?_
  refine lv_aload_n hx hb dL_law_346 rfl (lv_at hl 1 rfl) ?_
  refine lv_iload_n hx hb dL_law_347 rfl (lv_at hl 0 rfl) ?_
  refine lv_iconst (v := 1) hx hb dL_law_348 (by decide) ?_
  refine lv_iadd hx hb dL_law_349 ?_
  refine va_sld hx hb hX hbl hbA hS h1 dL_law_350 ?_
  refine va_calli (va_runV (As := [.int (xs (Int32.toNatClampNeg (i + 1)))]) (rest := [.int rx]) ⟨hx, hb, hml, hown, hts⟩ (c_X1_tally l D z hOm M (xs (Int32.toNatClampNeg (i + 1))) R.2.2.2.2.2.2.1) (cwV 1 hts gL_law_X1_tally rfl rfl rfl hdX1_tally ⟨Nat.le_of_ble_eq_true rfl, Nat.le_of_ble_eq_true rfl⟩) (mPreV hKm hPm) rfl rfl hl.1 rfl (lv_room (Nat.le_of_ble_eq_true rfl)) dL_law_351 ⟨Nat.le_of_ble_eq_true rfl, Nat.le_of_ble_eq_true rfl⟩) hS (fun q _ h => hAm q h) (fun q h => hAm q h) (fun rm M1 t H1 locs ht hvm hwm hB hz1 hk1 hS => ?_)
  obtain ⟨hQ, -⟩ := hB
  rw [ht] at hQ
  have hPx := keepX hPx hk1 (fun q h1 h2 => hdj q h2 h1)
  have hPm := hQ
  have hq := q_tally R (xs (Int32.toNatClampNeg (i + 1)))
  rw [hwx, hwm] at hq
  obtain ⟨he, hR⟩ := hq
  refine lv_icmp_eq (tgt := 692) hx hb dL_law_354 (by decide) (fun c1 => ?_) (fun c1 => absurd he c1)
  exact J _ _ _ _ _ ⟨hR, hPx, hPm, hS, hl⟩
set_option maxHeartbeats 4000000 in
set_option maxRecDepth 100000 in
theorem lc_copy {p : Program} {l : Launch} {e : Env} {s : State} {m : MethodId} {below : List Frame} {meth : Method} {c : Code} {D : va_G} {b L : Nat} {xs : Nat → Int32} {a : XA} {z : MA} (C0 : lw_At p s m meth c b L xs) (K : lwK D s a z) {i : Int32} (h1 : vp_in (i + 1) L) (h2 : vp_in (i + 2) L) (h3 : vp_in (i + 3) L) (h4 : vp_in (i + 4) L) {X : XS} {M : MS} {H : Heap} {locs : List Loc} {ls : Array Slot} (S : lwS D s b a z i X M H locs ls) (J : ∀ (X : XS) (M : MS) (H : Heap) (locs : List Loc) (ls : Array Slot), lwS D s b a z i X M H locs ls → W p l e room_1 s m #[Value.ref b] below meth c H locs 37 1453 (lw_Z below #[Value.ref b] s) (F0 m 692 ls [])) : W p l e room_1 s m #[Value.ref b] below meth c H locs 37 1453 (lw_Z below #[Value.ref b] s) (F0 m 359 ls []) := by
  obtain ⟨hx, hb, hr, hml, hown0, hts0, hX, hbl, hlocks, hgv⟩ := C0
  have hts := fun w h => hts0 w (wsL_law_in w h)
  have hown : s.vm.findClass RL = some m.cls := hown0
  have hbA : ¬ (fun q : Nat => s.heap.size ≤ q) b := Nat.not_le.mpr hbl
  obtain ⟨hKx, hKm, hOx, hOm, hdj, hAx, hAm⟩ := K
  obtain ⟨R, hPx, hPm, hS, hl⟩ := S
  refine lv_aload_n hx hb dL_law_359 rfl (lv_at hl 2 rfl) ?_
  refine lv_aload_n hx hb dL_law_360 rfl (lv_at hl 1 rfl) ?_
  refine lv_iload_n hx hb dL_law_361 rfl (lv_at hl 0 rfl) ?_
  refine lv_iconst (v := 1) hx hb dL_law_362 (by decide) ?_
  refine lv_iadd hx hb dL_law_363 ?_
  refine va_sld hx hb hX hbl hbA hS h1 dL_law_364 ?_
  refine lv_aload_n hx hb dL_law_365 rfl (lv_at hl 1 rfl) ?_
  refine lv_iload_n hx hb dL_law_366 rfl (lv_at hl 0 rfl) ?_
  refine lv_iconst (v := 2) hx hb dL_law_367 (by decide) ?_
  refine lv_iadd hx hb dL_law_368 ?_
  refine va_sld hx hb hX hbl hbA hS h2 dL_law_369 ?_
  refine va_calli (va_runV (As := [.int (xs (Int32.toNatClampNeg (i + 1))), .int (xs (Int32.toNatClampNeg (i + 2)))]) (rest := []) ⟨hx, hb, hml, hown, hts⟩ (c_X0_copy l D a hOx X (xs (Int32.toNatClampNeg (i + 1))) (xs (Int32.toNatClampNeg (i + 2))) (RRI R)) (cwV 2 hts gL_law_X0_copy rfl rfl rfl hdX0_copy ⟨Nat.le_of_ble_eq_true rfl, Nat.le_of_ble_eq_true rfl⟩) (xPreV hKx hPx) rfl rfl hl.1 rfl (lv_room (Nat.le_of_ble_eq_true rfl)) dL_law_370 ⟨Nat.le_of_ble_eq_true rfl, Nat.le_of_ble_eq_true rfl⟩) hS (fun q _ h => hAx q h) (fun q h => hAx q h) (fun rx X1 t H1 locs ht hvm hwx hB hz1 hk1 hS => ?_)
  obtain ⟨hQ, -⟩ := hB
  rw [ht] at hQ
  have hPm := keepM hPm hk1 hdj
  have hPx := hQ
  refine lv_aload_n hx hb dL_law_373 rfl (lv_at hl 3 rfl) ?_
  refine lv_aload_n hx hb dL_law_374 rfl (lv_at hl 1 rfl) ?_
  refine lv_iload_n hx hb dL_law_375 rfl (lv_at hl 0 rfl) ?_
  refine lv_iconst (v := 1) hx hb dL_law_376 (by decide) ?_
  refine lv_iadd hx hb dL_law_377 ?_
  refine va_sld hx hb hX hbl hbA hS h1 dL_law_378 ?_
  refine lv_aload_n hx hb dL_law_379 rfl (lv_at hl 1 rfl) ?_
  refine lv_iload_n hx hb dL_law_380 rfl (lv_at hl 0 rfl) ?_
  refine lv_iconst (v := 2) hx hb dL_law_381 (by decide) ?_
  refine lv_iadd hx hb dL_law_382 ?_
  refine va_sld hx hb hX hbl hbA hS h2 dL_law_383 ?_
  refine va_calli (va_runV (As := [.int (xs (Int32.toNatClampNeg (i + 1))), .int (xs (Int32.toNatClampNeg (i + 2)))]) (rest := [.int rx]) ⟨hx, hb, hml, hown, hts⟩ (c_X1_copy l D z hOm M (xs (Int32.toNatClampNeg (i + 1))) (xs (Int32.toNatClampNeg (i + 2))) R.2.2.2.2.2.2.1) (cwV 2 hts gL_law_X1_copy rfl rfl rfl hdX1_copy ⟨Nat.le_of_ble_eq_true rfl, Nat.le_of_ble_eq_true rfl⟩) (mPreV hKm hPm) rfl rfl hl.1 rfl (lv_room (Nat.le_of_ble_eq_true rfl)) dL_law_384 ⟨Nat.le_of_ble_eq_true rfl, Nat.le_of_ble_eq_true rfl⟩) hS (fun q _ h => hAm q h) (fun q h => hAm q h) (fun rm M1 t H1 locs ht hvm hwm hB hz1 hk1 hS => ?_)
  obtain ⟨hQ, -⟩ := hB
  rw [ht] at hQ
  have hPx := keepX hPx hk1 (fun q h1 h2 => hdj q h2 h1)
  have hPm := hQ
  have hq := q_copy R (xs (Int32.toNatClampNeg (i + 1))) (xs (Int32.toNatClampNeg (i + 2)))
  rw [hwx, hwm] at hq
  obtain ⟨he, hR⟩ := hq
  refine lv_icmp_eq (tgt := 692) hx hb dL_law_387 (by decide) (fun c1 => ?_) (fun c1 => absurd he c1)
  exact J _ _ _ _ _ ⟨hR, hPx, hPm, hS, hl⟩
set_option maxHeartbeats 4000000 in
set_option maxRecDepth 100000 in
theorem lc_sluice {p : Program} {l : Launch} {e : Env} {s : State} {m : MethodId} {below : List Frame} {meth : Method} {c : Code} {D : va_G} {b L : Nat} {xs : Nat → Int32} {a : XA} {z : MA} (C0 : lw_At p s m meth c b L xs) (K : lwK D s a z) {i : Int32} (h1 : vp_in (i + 1) L) (h2 : vp_in (i + 2) L) (h3 : vp_in (i + 3) L) (h4 : vp_in (i + 4) L) {X : XS} {M : MS} {H : Heap} {locs : List Loc} {ls : Array Slot} (S : lwS D s b a z i X M H locs ls) (J : ∀ (X : XS) (M : MS) (H : Heap) (locs : List Loc) (ls : Array Slot), lwS D s b a z i X M H locs ls → W p l e room_1 s m #[Value.ref b] below meth c H locs 37 1453 (lw_Z below #[Value.ref b] s) (F0 m 692 ls [])) : W p l e room_1 s m #[Value.ref b] below meth c H locs 37 1453 (lw_Z below #[Value.ref b] s) (F0 m 392 ls []) := by
  obtain ⟨hx, hb, hr, hml, hown0, hts0, hX, hbl, hlocks, hgv⟩ := C0
  have hts := fun w h => hts0 w (wsL_law_in w h)
  have hown : s.vm.findClass RL = some m.cls := hown0
  have hbA : ¬ (fun q : Nat => s.heap.size ≤ q) b := Nat.not_le.mpr hbl
  obtain ⟨hKx, hKm, hOx, hOm, hdj, hAx, hAm⟩ := K
  obtain ⟨R, hPx, hPm, hS, hl⟩ := S
  refine lv_aload_n hx hb dL_law_392 rfl (lv_at hl 2 rfl) ?_
  refine lv_aload_n hx hb dL_law_393 rfl (lv_at hl 1 rfl) ?_
  refine lv_iload_n hx hb dL_law_394 rfl (lv_at hl 0 rfl) ?_
  refine lv_iconst (v := 1) hx hb dL_law_395 (by decide) ?_
  refine lv_iadd hx hb dL_law_396 ?_
  refine va_sld hx hb hX hbl hbA hS h1 dL_law_397 ?_
  refine lv_aload_n hx hb dL_law_398 rfl (lv_at hl 1 rfl) ?_
  refine lv_iload_n hx hb dL_law_399 rfl (lv_at hl 0 rfl) ?_
  refine lv_iconst (v := 2) hx hb dL_law_400 (by decide) ?_
  refine lv_iadd hx hb dL_law_401 ?_
  refine va_sld hx hb hX hbl hbA hS h2 dL_law_402 ?_
  refine va_calli (va_runV (As := [.int (xs (Int32.toNatClampNeg (i + 1))), .int (xs (Int32.toNatClampNeg (i + 2)))]) (rest := []) ⟨hx, hb, hml, hown, hts⟩ (c_X0_sluice l D a hOx X (xs (Int32.toNatClampNeg (i + 1))) (xs (Int32.toNatClampNeg (i + 2))) (RRI R)) (cwV 2 hts gL_law_X0_sluice rfl rfl rfl hdX0_sluice ⟨Nat.le_of_ble_eq_true rfl, Nat.le_of_ble_eq_true rfl⟩) (xPreV hKx hPx) rfl rfl hl.1 rfl (lv_room (Nat.le_of_ble_eq_true rfl)) dL_law_403 ⟨Nat.le_of_ble_eq_true rfl, Nat.le_of_ble_eq_true rfl⟩) hS (fun q _ h => hAx q h) (fun q h => hAx q h) (fun rx X1 t H1 locs ht hvm hwx hB hz1 hk1 hS => ?_)
  obtain ⟨hQ, -⟩ := hB
  rw [ht] at hQ
  have hPm := keepM hPm hk1 hdj
  have hPx := hQ
  refine lv_aload_n hx hb dL_law_406 rfl (lv_at hl 3 rfl) ?_
  refine lv_aload_n hx hb dL_law_407 rfl (lv_at hl 1 rfl) ?_
  refine lv_iload_n hx hb dL_law_408 rfl (lv_at hl 0 rfl) ?_
  refine lv_iconst (v := 1) hx hb dL_law_409 (by decide) ?_
  refine lv_iadd hx hb dL_law_410 ?_
  refine va_sld hx hb hX hbl hbA hS h1 dL_law_411 ?_
  refine lv_aload_n hx hb dL_law_412 rfl (lv_at hl 1 rfl) ?_
  refine lv_iload_n hx hb dL_law_413 rfl (lv_at hl 0 rfl) ?_
  refine lv_iconst (v := 2) hx hb dL_law_414 (by decide) ?_
  refine lv_iadd hx hb dL_law_415 ?_
  refine va_sld hx hb hX hbl hbA hS h2 dL_law_416 ?_
  refine va_calli (va_runV (As := [.int (xs (Int32.toNatClampNeg (i + 1))), .int (xs (Int32.toNatClampNeg (i + 2)))]) (rest := [.int rx]) ⟨hx, hb, hml, hown, hts⟩ (c_X1_sluice l D z hOm M (xs (Int32.toNatClampNeg (i + 1))) (xs (Int32.toNatClampNeg (i + 2))) R.2.2.2.2.2.2.1) (cwV 2 hts gL_law_X1_sluice rfl rfl rfl hdX1_sluice ⟨Nat.le_of_ble_eq_true rfl, Nat.le_of_ble_eq_true rfl⟩) (mPreV hKm hPm) rfl rfl hl.1 rfl (lv_room (Nat.le_of_ble_eq_true rfl)) dL_law_417 ⟨Nat.le_of_ble_eq_true rfl, Nat.le_of_ble_eq_true rfl⟩) hS (fun q _ h => hAm q h) (fun q h => hAm q h) (fun rm M1 t H1 locs ht hvm hwm hB hz1 hk1 hS => ?_)
  obtain ⟨hQ, -⟩ := hB
  rw [ht] at hQ
  have hPx := keepX hPx hk1 (fun q h1 h2 => hdj q h2 h1)
  have hPm := hQ
  have hq := q_sluice R (xs (Int32.toNatClampNeg (i + 1))) (xs (Int32.toNatClampNeg (i + 2)))
  rw [hwx, hwm] at hq
  obtain ⟨he, hR⟩ := hq
  refine lv_icmp_eq (tgt := 692) hx hb dL_law_420 (by decide) (fun c1 => ?_) (fun c1 => absurd he c1)
  exact J _ _ _ _ _ ⟨hR, hPx, hPm, hS, hl⟩
set_option maxHeartbeats 4000000 in
set_option maxRecDepth 100000 in
theorem lc_open {p : Program} {l : Launch} {e : Env} {s : State} {m : MethodId} {below : List Frame} {meth : Method} {c : Code} {D : va_G} {b L : Nat} {xs : Nat → Int32} {a : XA} {z : MA} (C0 : lw_At p s m meth c b L xs) (K : lwK D s a z) {i : Int32} (h1 : vp_in (i + 1) L) (h2 : vp_in (i + 2) L) (h3 : vp_in (i + 3) L) (h4 : vp_in (i + 4) L) {X : XS} {M : MS} {H : Heap} {locs : List Loc} {ls : Array Slot} (S : lwS D s b a z i X M H locs ls) (J : ∀ (X : XS) (M : MS) (H : Heap) (locs : List Loc) (ls : Array Slot), lwS D s b a z i X M H locs ls → W p l e room_1 s m #[Value.ref b] below meth c H locs 37 1453 (lw_Z below #[Value.ref b] s) (F0 m 692 ls [])) : W p l e room_1 s m #[Value.ref b] below meth c H locs 37 1453 (lw_Z below #[Value.ref b] s) (F0 m 425 ls []) := by
  obtain ⟨hx, hb, hr, hml, hown0, hts0, hX, hbl, hlocks, hgv⟩ := C0
  have hts := fun w h => hts0 w (wsL_law_in w h)
  have hown : s.vm.findClass RL = some m.cls := hown0
  have hbA : ¬ (fun q : Nat => s.heap.size ≤ q) b := Nat.not_le.mpr hbl
  obtain ⟨hKx, hKm, hOx, hOm, hdj, hAx, hAm⟩ := K
  obtain ⟨R, hPx, hPm, hS, hl⟩ := S
  refine lv_aload_n hx hb dL_law_425 rfl (lv_at hl 2 rfl) ?_
  refine lv_aload_n hx hb dL_law_426 rfl (lv_at hl 1 rfl) ?_
  refine lv_iload_n hx hb dL_law_427 rfl (lv_at hl 0 rfl) ?_
  refine lv_iconst (v := 1) hx hb dL_law_428 (by decide) ?_
  refine lv_iadd hx hb dL_law_429 ?_
  refine va_sld hx hb hX hbl hbA hS h1 dL_law_430 ?_
  refine va_calli (va_runV (As := [.int (xs (Int32.toNatClampNeg (i + 1)))]) (rest := []) ⟨hx, hb, hml, hown, hts⟩ (c_X0_open l D a hOx X (xs (Int32.toNatClampNeg (i + 1))) (RRI R)) (cwV 1 hts gL_law_X0_open rfl rfl rfl hdX0_open ⟨Nat.le_of_ble_eq_true rfl, Nat.le_of_ble_eq_true rfl⟩) (xPreV hKx hPx) rfl rfl hl.1 rfl (lv_room (Nat.le_of_ble_eq_true rfl)) dL_law_431 ⟨Nat.le_of_ble_eq_true rfl, Nat.le_of_ble_eq_true rfl⟩) hS (fun q _ h => hAx q h) (fun q h => hAx q h) (fun rx X1 t H1 locs ht hvm hwx hB hz1 hk1 hS => ?_)
  obtain ⟨hQ, -⟩ := hB
  rw [ht] at hQ
  have hPm := keepM hPm hk1 hdj
  have hPx := hQ
  refine lv_aload_n hx hb dL_law_434 rfl (lv_at hl 3 rfl) ?_
  refine lv_aload_n hx hb dL_law_435 rfl (lv_at hl 1 rfl) ?_
  refine lv_iload_n hx hb dL_law_436 rfl (lv_at hl 0 rfl) ?_
  refine lv_iconst (v := 1) hx hb dL_law_437 (by decide) ?_
  refine lv_iadd hx hb dL_law_438 ?_
  refine va_sld hx hb hX hbl hbA hS h1 dL_law_439 ?_
  refine va_calli (va_runV (As := [.int (xs (Int32.toNatClampNeg (i + 1)))]) (rest := [.int rx]) ⟨hx, hb, hml, hown, hts⟩ (c_X1_open l D z hOm M (xs (Int32.toNatClampNeg (i + 1))) R.2.2.2.2.2.2.1) (cwV 1 hts gL_law_X1_open rfl rfl rfl hdX1_open ⟨Nat.le_of_ble_eq_true rfl, Nat.le_of_ble_eq_true rfl⟩) (mPreV hKm hPm) rfl rfl hl.1 rfl (lv_room (Nat.le_of_ble_eq_true rfl)) dL_law_440 ⟨Nat.le_of_ble_eq_true rfl, Nat.le_of_ble_eq_true rfl⟩) hS (fun q _ h => hAm q h) (fun q h => hAm q h) (fun rm M1 t H1 locs ht hvm hwm hB hz1 hk1 hS => ?_)
  obtain ⟨hQ, -⟩ := hB
  rw [ht] at hQ
  have hPx := keepX hPx hk1 (fun q h1 h2 => hdj q h2 h1)
  have hPm := hQ
  have hq := q_open R (xs (Int32.toNatClampNeg (i + 1)))
  rw [hwx, hwm] at hq
  obtain ⟨he, hR⟩ := hq
  refine lv_icmp_eq (tgt := 692) hx hb dL_law_443 (by decide) (fun c1 => ?_) (fun c1 => absurd he c1)
  exact J _ _ _ _ _ ⟨hR, hPx, hPm, hS, hl⟩
set_option maxHeartbeats 4000000 in
set_option maxRecDepth 100000 in
theorem lc_shut {p : Program} {l : Launch} {e : Env} {s : State} {m : MethodId} {below : List Frame} {meth : Method} {c : Code} {D : va_G} {b L : Nat} {xs : Nat → Int32} {a : XA} {z : MA} (C0 : lw_At p s m meth c b L xs) (K : lwK D s a z) {i : Int32} (h1 : vp_in (i + 1) L) (h2 : vp_in (i + 2) L) (h3 : vp_in (i + 3) L) (h4 : vp_in (i + 4) L) {X : XS} {M : MS} {H : Heap} {locs : List Loc} {ls : Array Slot} (S : lwS D s b a z i X M H locs ls) (J : ∀ (X : XS) (M : MS) (H : Heap) (locs : List Loc) (ls : Array Slot), lwS D s b a z i X M H locs ls → W p l e room_1 s m #[Value.ref b] below meth c H locs 37 1453 (lw_Z below #[Value.ref b] s) (F0 m 692 ls [])) : W p l e room_1 s m #[Value.ref b] below meth c H locs 37 1453 (lw_Z below #[Value.ref b] s) (F0 m 448 ls []) := by
  obtain ⟨hx, hb, hr, hml, hown0, hts0, hX, hbl, hlocks, hgv⟩ := C0
  have hts := fun w h => hts0 w (wsL_law_in w h)
  have hown : s.vm.findClass RL = some m.cls := hown0
  have hbA : ¬ (fun q : Nat => s.heap.size ≤ q) b := Nat.not_le.mpr hbl
  obtain ⟨hKx, hKm, hOx, hOm, hdj, hAx, hAm⟩ := K
  obtain ⟨R, hPx, hPm, hS, hl⟩ := S
  refine lv_aload_n hx hb dL_law_448 rfl (lv_at hl 2 rfl) ?_
  refine lv_aload_n hx hb dL_law_449 rfl (lv_at hl 1 rfl) ?_
  refine lv_iload_n hx hb dL_law_450 rfl (lv_at hl 0 rfl) ?_
  refine lv_iconst (v := 1) hx hb dL_law_451 (by decide) ?_
  refine lv_iadd hx hb dL_law_452 ?_
  refine va_sld hx hb hX hbl hbA hS h1 dL_law_453 ?_
  refine va_calli (va_runV (As := [.int (xs (Int32.toNatClampNeg (i + 1)))]) (rest := []) ⟨hx, hb, hml, hown, hts⟩ (c_X0_shut l D a hOx X (xs (Int32.toNatClampNeg (i + 1))) (RRI R)) (cwV 1 hts gL_law_X0_shut rfl rfl rfl hdX0_shut ⟨Nat.le_of_ble_eq_true rfl, Nat.le_of_ble_eq_true rfl⟩) (xPreV hKx hPx) rfl rfl hl.1 rfl (lv_room (Nat.le_of_ble_eq_true rfl)) dL_law_454 ⟨Nat.le_of_ble_eq_true rfl, Nat.le_of_ble_eq_true rfl⟩) hS (fun q _ h => hAx q h) (fun q h => hAx q h) (fun rx X1 t H1 locs ht hvm hwx hB hz1 hk1 hS => ?_)
  obtain ⟨hQ, -⟩ := hB
  rw [ht] at hQ
  have hPm := keepM hPm hk1 hdj
  have hPx := hQ
  refine lv_aload_n hx hb dL_law_457 rfl (lv_at hl 3 rfl) ?_
  refine lv_aload_n hx hb dL_law_458 rfl (lv_at hl 1 rfl) ?_
  refine lv_iload_n hx hb dL_law_459 rfl (lv_at hl 0 rfl) ?_
  refine lv_iconst (v := 1) hx hb dL_law_460 (by decide) ?_
  refine lv_iadd hx hb dL_law_461 ?_
  refine va_sld hx hb hX hbl hbA hS h1 dL_law_462 ?_
  refine va_calli (va_runV (As := [.int (xs (Int32.toNatClampNeg (i + 1)))]) (rest := [.int rx]) ⟨hx, hb, hml, hown, hts⟩ (c_X1_shut l D z hOm M (xs (Int32.toNatClampNeg (i + 1))) R.2.2.2.2.2.2.1) (cwV 1 hts gL_law_X1_shut rfl rfl rfl hdX1_shut ⟨Nat.le_of_ble_eq_true rfl, Nat.le_of_ble_eq_true rfl⟩) (mPreV hKm hPm) rfl rfl hl.1 rfl (lv_room (Nat.le_of_ble_eq_true rfl)) dL_law_463 ⟨Nat.le_of_ble_eq_true rfl, Nat.le_of_ble_eq_true rfl⟩) hS (fun q _ h => hAm q h) (fun q h => hAm q h) (fun rm M1 t H1 locs ht hvm hwm hB hz1 hk1 hS => ?_)
  obtain ⟨hQ, -⟩ := hB
  rw [ht] at hQ
  have hPx := keepX hPx hk1 (fun q h1 h2 => hdj q h2 h1)
  have hPm := hQ
  have hq := q_shut R (xs (Int32.toNatClampNeg (i + 1)))
  rw [hwx, hwm] at hq
  obtain ⟨he, hR⟩ := hq
  refine lv_icmp_eq (tgt := 692) hx hb dL_law_466 (by decide) (fun c1 => ?_) (fun c1 => absurd he c1)
  exact J _ _ _ _ _ ⟨hR, hPx, hPm, hS, hl⟩
set_option maxHeartbeats 4000000 in
set_option maxRecDepth 100000 in
theorem lc_enter {p : Program} {l : Launch} {e : Env} {s : State} {m : MethodId} {below : List Frame} {meth : Method} {c : Code} {D : va_G} {b L : Nat} {xs : Nat → Int32} {a : XA} {z : MA} (C0 : lw_At p s m meth c b L xs) (K : lwK D s a z) {i : Int32} (h1 : vp_in (i + 1) L) (h2 : vp_in (i + 2) L) (h3 : vp_in (i + 3) L) (h4 : vp_in (i + 4) L) {X : XS} {M : MS} {H : Heap} {locs : List Loc} {ls : Array Slot} (S : lwS D s b a z i X M H locs ls) (J : ∀ (X : XS) (M : MS) (H : Heap) (locs : List Loc) (ls : Array Slot), lwS D s b a z i X M H locs ls → W p l e room_1 s m #[Value.ref b] below meth c H locs 37 1453 (lw_Z below #[Value.ref b] s) (F0 m 692 ls [])) : W p l e room_1 s m #[Value.ref b] below meth c H locs 37 1453 (lw_Z below #[Value.ref b] s) (F0 m 471 ls []) := by
  obtain ⟨hx, hb, hr, hml, hown0, hts0, hX, hbl, hlocks, hgv⟩ := C0
  have hts := fun w h => hts0 w (wsL_law_in w h)
  have hown : s.vm.findClass RL = some m.cls := hown0
  have hbA : ¬ (fun q : Nat => s.heap.size ≤ q) b := Nat.not_le.mpr hbl
  obtain ⟨hKx, hKm, hOx, hOm, hdj, hAx, hAm⟩ := K
  obtain ⟨R, hPx, hPm, hS, hl⟩ := S
  refine lv_aload_n hx hb dL_law_471 rfl (lv_at hl 2 rfl) ?_
  refine lv_aload_n hx hb dL_law_472 rfl (lv_at hl 1 rfl) ?_
  refine lv_iload_n hx hb dL_law_473 rfl (lv_at hl 0 rfl) ?_
  refine lv_iconst (v := 1) hx hb dL_law_474 (by decide) ?_
  refine lv_iadd hx hb dL_law_475 ?_
  refine va_sld hx hb hX hbl hbA hS h1 dL_law_476 ?_
  refine lv_aload_n hx hb dL_law_477 rfl (lv_at hl 1 rfl) ?_
  refine lv_iload_n hx hb dL_law_478 rfl (lv_at hl 0 rfl) ?_
  refine lv_iconst (v := 2) hx hb dL_law_479 (by decide) ?_
  refine lv_iadd hx hb dL_law_480 ?_
  refine va_sld hx hb hX hbl hbA hS h2 dL_law_481 ?_
  refine va_calli (va_runV (As := [.int (xs (Int32.toNatClampNeg (i + 1))), .int (xs (Int32.toNatClampNeg (i + 2)))]) (rest := []) ⟨hx, hb, hml, hown, hts⟩ (c_X0_enter l D a hOx X (xs (Int32.toNatClampNeg (i + 1))) (xs (Int32.toNatClampNeg (i + 2))) (RRI R)) (cwV 2 hts gL_law_X0_enter rfl rfl rfl hdX0_enter ⟨Nat.le_of_ble_eq_true rfl, Nat.le_of_ble_eq_true rfl⟩) (xPreV hKx hPx) rfl rfl hl.1 rfl (lv_room (Nat.le_of_ble_eq_true rfl)) dL_law_482 ⟨Nat.le_of_ble_eq_true rfl, Nat.le_of_ble_eq_true rfl⟩) hS (fun q _ h => hAx q h) (fun q h => hAx q h) (fun rx X1 t H1 locs ht hvm hwx hB hz1 hk1 hS => ?_)
  obtain ⟨hQ, -⟩ := hB
  rw [ht] at hQ
  have hPm := keepM hPm hk1 hdj
  have hPx := hQ
  refine lv_aload_n hx hb dL_law_485 rfl (lv_at hl 3 rfl) ?_
  refine lv_aload_n hx hb dL_law_486 rfl (lv_at hl 1 rfl) ?_
  refine lv_iload_n hx hb dL_law_487 rfl (lv_at hl 0 rfl) ?_
  refine lv_iconst (v := 1) hx hb dL_law_488 (by decide) ?_
  refine lv_iadd hx hb dL_law_489 ?_
  refine va_sld hx hb hX hbl hbA hS h1 dL_law_490 ?_
  refine lv_aload_n hx hb dL_law_491 rfl (lv_at hl 1 rfl) ?_
  refine lv_iload_n hx hb dL_law_492 rfl (lv_at hl 0 rfl) ?_
  refine lv_iconst (v := 2) hx hb dL_law_493 (by decide) ?_
  refine lv_iadd hx hb dL_law_494 ?_
  refine va_sld hx hb hX hbl hbA hS h2 dL_law_495 ?_
  refine va_calli (va_runV (As := [.int (xs (Int32.toNatClampNeg (i + 1))), .int (xs (Int32.toNatClampNeg (i + 2)))]) (rest := [.int rx]) ⟨hx, hb, hml, hown, hts⟩ (c_X1_enter l D z hOm M (xs (Int32.toNatClampNeg (i + 1))) (xs (Int32.toNatClampNeg (i + 2))) R.2.2.2.2.2.2.1) (cwV 2 hts gL_law_X1_enter rfl rfl rfl hdX1_enter ⟨Nat.le_of_ble_eq_true rfl, Nat.le_of_ble_eq_true rfl⟩) (mPreV hKm hPm) rfl rfl hl.1 rfl (lv_room (Nat.le_of_ble_eq_true rfl)) dL_law_496 ⟨Nat.le_of_ble_eq_true rfl, Nat.le_of_ble_eq_true rfl⟩) hS (fun q _ h => hAm q h) (fun q h => hAm q h) (fun rm M1 t H1 locs ht hvm hwm hB hz1 hk1 hS => ?_)
  obtain ⟨hQ, -⟩ := hB
  rw [ht] at hQ
  have hPx := keepX hPx hk1 (fun q h1 h2 => hdj q h2 h1)
  have hPm := hQ
  have hq := q_enter R (xs (Int32.toNatClampNeg (i + 1))) (xs (Int32.toNatClampNeg (i + 2)))
  rw [hwx, hwm] at hq
  obtain ⟨he, hR⟩ := hq
  refine lv_icmp_eq (tgt := 692) hx hb dL_law_499 (by decide) (fun c1 => ?_) (fun c1 => absurd he c1)
  exact J _ _ _ _ _ ⟨hR, hPx, hPm, hS, hl⟩
