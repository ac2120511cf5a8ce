set_option maxHeartbeats 4000000 in
set_option maxRecDepth 100000 in
theorem lc_pass {p : Program} {l : Launch} {e : Env} {s : State} {m : MethodId} {below : List Frame} {meth : Method} {c : Code} {D : va_G} {b L : Nat} {xs : Nat → Int32} {a : XA} {z : MA} (C0 : lw_At p s m meth c b L xs) (K : lwK D s a z) {i : Int32} (h1 : vp_in (i + 1) L) (h2 : vp_in (i + 2) L) (h3 : vp_in (i + 3) L) (h4 : vp_in (i + 4) L) {X : XS} {M : MS} {H : Heap} {locs : List Loc} {ls : Array Slot} (S : lwS D s b a z i X M H locs ls) (J : ∀ (X : XS) (M : MS) (H : Heap) (locs : List Loc) (ls : Array Slot), lwS D s b a z i X M H locs ls → W p l e room_1 s m #[Value.ref b] below meth c H locs 37 1453 (lw_Z below #[Value.ref b] s) (F0 m 692 ls [])) : W p l e room_1 s m #[Value.ref b] below meth c H locs 37 1453 (lw_Z below #[Value.ref b] s) (F0 m 504 ls []) := by
  obtain ⟨hx, hb, hr, hml, hown0, hts0, hX, hbl, hlocks, hgv⟩ := C0
  have hts := fun w h => hts0 w (wsL_law_in w h)
  have hown : s.vm.findClass RL = some m.cls := hown0
  have hbA : ¬ (fun q : Nat => s.heap.size ≤ q) b := Nat.not_le.mpr hbl
  obtain ⟨hKx, hKm, hOx, hOm, hdj, hAx, hAm⟩ := K
  obtain ⟨R, hPx, hPm, hS, hl⟩ := S
  refine lv_aload_n hx hb dL_law_504 rfl (lv_at hl 2 rfl) ?_
  refine lv_aload_n hx hb dL_law_505 rfl (lv_at hl 1 rfl) ?_
  refine lv_iload_n hx hb dL_law_506 rfl (lv_at hl 0 rfl) ?_
  refine lv_iconst (v := 1) hx hb dL_law_507 (by decide) ?_
  refine lv_iadd hx hb dL_law_508 ?_
  refine va_sld hx hb hX hbl hbA hS h1 dL_law_509 ?_
  refine va_calli (va_runV (As := [.int (xs (Int32.toNatClampNeg (i + 1)))]) (rest := []) ⟨hx, hb, hml, hown, hts⟩ (c_X0_pass l D a hOx X (xs (Int32.toNatClampNeg (i + 1))) (RRI R)) (cwV 1 hts gL_law_X0_pass rfl rfl rfl hdX0_pass ⟨Nat.le_of_ble_eq_true rfl, Nat.le_of_ble_eq_true rfl⟩) (xPreV hKx hPx) rfl rfl hl.1 rfl (lv_room (Nat.le_of_ble_eq_true rfl)) dL_law_510 ⟨Nat.le_of_ble_eq_true rfl, Nat.le_of_ble_eq_true rfl⟩) hS (fun q _ h => hAx q h) (fun q h => hAx q h) (fun rx X1 t H1 locs ht hvm hwx hB hz1 hk1 hS => ?_)
  obtain ⟨hQ, -⟩ := hB
  rw [ht] at hQ
  have hPm := keepM hPm hk1 hdj
  have hPx := hQ
  refine lv_aload_n hx hb dL_law_513 rfl (lv_at hl 3 rfl) ?_
  refine lv_aload_n hx hb dL_law_514 rfl (lv_at hl 1 rfl) ?_
  refine lv_iload_n hx hb dL_law_515 rfl (lv_at hl 0 rfl) ?_
  refine lv_iconst (v := 1) hx hb dL_law_516 (by decide) ?_
  refine lv_iadd hx hb dL_law_517 ?_
  refine va_sld hx hb hX hbl hbA hS h1 dL_law_518 ?_
  refine va_calli (va_runV (As := [.int (xs (Int32.toNatClampNeg (i + 1)))]) (rest := [.int rx]) ⟨hx, hb, hml, hown, hts⟩ (c_X1_pass l D z hOm M (xs (Int32.toNatClampNeg (i + 1))) R.2.2.2.2.2.2.1) (cwV 1 hts gL_law_X1_pass rfl rfl rfl hdX1_pass ⟨Nat.le_of_ble_eq_true rfl, Nat.le_of_ble_eq_true rfl⟩) (mPreV hKm hPm) rfl rfl hl.1 rfl (lv_room (Nat.le_of_ble_eq_true rfl)) dL_law_519 ⟨Nat.le_of_ble_eq_true rfl, Nat.le_of_ble_eq_true rfl⟩) hS (fun q _ h => hAm q h) (fun q h => hAm q h) (fun rm M1 t H1 locs ht hvm hwm hB hz1 hk1 hS => ?_)
  obtain ⟨hQ, -⟩ := hB
  rw [ht] at hQ
  have hPx := keepX hPx hk1 (fun q h1 h2 => hdj q h2 h1)
  have hPm := hQ
  have hq := q_pass R (xs (Int32.toNatClampNeg (i + 1)))
  rw [hwx, hwm] at hq
  obtain ⟨he, hR⟩ := hq
  refine lv_icmp_eq (tgt := 692) hx hb dL_law_522 (by decide) (fun c1 => ?_) (fun c1 => absurd he c1)
  exact J _ _ _ _ _ ⟨hR, hPx, hPm, hS, hl⟩
set_option maxHeartbeats 4000000 in
set_option maxRecDepth 100000 in
theorem lc_survey {p : Program} {l : Launch} {e : Env} {s : State} {m : MethodId} {below : List Frame} {meth : Method} {c : Code} {D : va_G} {b L : Nat} {xs : Nat → Int32} {a : XA} {z : MA} (C0 : lw_At p s m meth c b L xs) (K : lwK D s a z) {i : Int32} (h1 : vp_in (i + 1) L) (h2 : vp_in (i + 2) L) (h3 : vp_in (i + 3) L) (h4 : vp_in (i + 4) L) {X : XS} {M : MS} {H : Heap} {locs : List Loc} {ls : Array Slot} (S : lwS D s b a z i X M H locs ls) (J : ∀ (X : XS) (M : MS) (H : Heap) (locs : List Loc) (ls : Array Slot), lwS D s b a z i X M H locs ls → W p l e room_1 s m #[Value.ref b] below meth c H locs 37 1453 (lw_Z below #[Value.ref b] s) (F0 m 692 ls [])) : W p l e room_1 s m #[Value.ref b] below meth c H locs 37 1453 (lw_Z below #[Value.ref b] s) (F0 m 527 ls []) := by
  obtain ⟨hx, hb, hr, hml, hown0, hts0, hX, hbl, hlocks, hgv⟩ := C0
  have hts := fun w h => hts0 w (wsL_law_in w h)
  have hown : s.vm.findClass RL = some m.cls := hown0
  have hbA : ¬ (fun q : Nat => s.heap.size ≤ q) b := Nat.not_le.mpr hbl
  obtain ⟨hKx, hKm, hOx, hOm, hdj, hAx, hAm⟩ := K
  obtain ⟨R, hPx, hPm, hS, hl⟩ := S
  refine lv_aload_n hx hb dL_law_527 rfl (lv_at hl 2 rfl) ?_
  refine lv_aload_n hx hb dL_law_528 rfl (lv_at hl 1 rfl) ?_
  refine lv_iload_n hx hb dL_law_529 rfl (lv_at hl 0 rfl) ?_
  refine lv_iconst (v := 1) hx hb dL_law_530 (by decide) ?_
  refine lv_iadd hx hb dL_law_531 ?_
  refine va_sld hx hb hX hbl hbA hS h1 dL_law_532 ?_
  refine lv_aload_n hx hb dL_law_533 rfl (lv_at hl 1 rfl) ?_
  refine lv_iload_n hx hb dL_law_534 rfl (lv_at hl 0 rfl) ?_
  refine lv_iconst (v := 2) hx hb dL_law_535 (by decide) ?_
  refine lv_iadd hx hb dL_law_536 ?_
  refine va_sld hx hb hX hbl hbA hS h2 dL_law_537 ?_
  refine va_calli (va_runV (As := [.int (xs (Int32.toNatClampNeg (i + 1))), .int (xs (Int32.toNatClampNeg (i + 2)))]) (rest := []) ⟨hx, hb, hml, hown, hts⟩ (c_X0_survey l D a hOx X (xs (Int32.toNatClampNeg (i + 1))) (xs (Int32.toNatClampNeg (i + 2)))) (cwV 2 hts gL_law_X0_survey rfl rfl rfl hdX0_survey ⟨Nat.le_of_ble_eq_true rfl, Nat.le_of_ble_eq_true rfl⟩) (xPreV hKx hPx) rfl rfl hl.1 rfl (lv_room (Nat.le_of_ble_eq_true rfl)) dL_law_538 ⟨Nat.le_of_ble_eq_true rfl, Nat.le_of_ble_eq_true rfl⟩) hS (fun q _ h => hAx q h) (fun q h => hAx q h) (fun rx X1 t H1 locs ht hvm hwx hB hz1 hk1 hS => ?_)
  obtain ⟨hQ, -⟩ := hB
  rw [ht] at hQ
  have hPm := keepM hPm hk1 hdj
  have hPx := hQ
  refine lv_aload_n hx hb dL_law_541 rfl (lv_at hl 3 rfl) ?_
  refine lv_aload_n hx hb dL_law_542 rfl (lv_at hl 1 rfl) ?_
  refine lv_iload_n hx hb dL_law_543 rfl (lv_at hl 0 rfl) ?_
  refine lv_iconst (v := 1) hx hb dL_law_544 (by decide) ?_
  refine lv_iadd hx hb dL_law_545 ?_
  refine va_sld hx hb hX hbl hbA hS h1 dL_law_546 ?_
  refine lv_aload_n hx hb dL_law_547 rfl (lv_at hl 1 rfl) ?_
  refine lv_iload_n hx hb dL_law_548 rfl (lv_at hl 0 rfl) ?_
  refine lv_iconst (v := 2) hx hb dL_law_549 (by decide) ?_
  refine lv_iadd hx hb dL_law_550 ?_
  refine va_sld hx hb hX hbl hbA hS h2 dL_law_551 ?_
  refine va_calli (va_runV (As := [.int (xs (Int32.toNatClampNeg (i + 1))), .int (xs (Int32.toNatClampNeg (i + 2)))]) (rest := [.int rx]) ⟨hx, hb, hml, hown, hts⟩ (c_X1_survey l D z hOm M (xs (Int32.toNatClampNeg (i + 1))) (xs (Int32.toNatClampNeg (i + 2)))) (cwV 2 hts gL_law_X1_survey rfl rfl rfl hdX1_survey ⟨Nat.le_of_ble_eq_true rfl, Nat.le_of_ble_eq_true rfl⟩) (mPreV hKm hPm) rfl rfl hl.1 rfl (lv_room (Nat.le_of_ble_eq_true rfl)) dL_law_552 ⟨Nat.le_of_ble_eq_true rfl, Nat.le_of_ble_eq_true rfl⟩) hS (fun q _ h => hAm q h) (fun q h => hAm q h) (fun rm M1 t H1 locs ht hvm hwm hB hz1 hk1 hS => ?_)
  obtain ⟨hQ, -⟩ := hB
  rw [ht] at hQ
  have hPx := keepX hPx hk1 (fun q h1 h2 => hdj q h2 h1)
  have hPm := hQ
  have hq := q_survey R (xs (Int32.toNatClampNeg (i + 1))) (xs (Int32.toNatClampNeg (i + 2)))
  rw [hwx, hwm] at hq
  obtain ⟨he, hR⟩ := hq
  refine lv_icmp_eq (tgt := 692) hx hb dL_law_555 (by decide) (fun c1 => ?_) (fun c1 => absurd he c1)
  exact J _ _ _ _ _ ⟨hR, hPx, hPm, hS, hl⟩
set_option maxHeartbeats 4000000 in
set_option maxRecDepth 100000 in
theorem lc_note {p : Program} {l : Launch} {e : Env} {s : State} {m : MethodId} {below : List Frame} {meth : Method} {c : Code} {D : va_G} {b L : Nat} {xs : Nat → Int32} {a : XA} {z : MA} (C0 : lw_At p s m meth c b L xs) (K : lwK D s a z) {i : Int32} (h1 : vp_in (i + 1) L) (h2 : vp_in (i + 2) L) (h3 : vp_in (i + 3) L) (h4 : vp_in (i + 4) L) {X : XS} {M : MS} {H : Heap} {locs : List Loc} {ls : Array Slot} (S : lwS D s b a z i X M H locs ls) (J : ∀ (X : XS) (M : MS) (H : Heap) (locs : List Loc) (ls : Array Slot), lwS D s b a z i X M H locs ls → W p l e room_1 s m #[Value.ref b] below meth c H locs 37 1453 (lw_Z below #[Value.ref b] s) (F0 m 692 ls [])) : W p l e room_1 s m #[Value.ref b] below meth c H locs 37 1453 (lw_Z below #[Value.ref b] s) (F0 m 560 ls []) := by
  obtain ⟨hx, hb, hr, hml, hown0, hts0, hX, hbl, hlocks, hgv⟩ := C0
  have hts := fun w h => hts0 w (wsL_law_in w h)
  have hown : s.vm.findClass RL = some m.cls := hown0
  have hbA : ¬ (fun q : Nat => s.heap.size ≤ q) b := Nat.not_le.mpr hbl
  obtain ⟨hKx, hKm, hOx, hOm, hdj, hAx, hAm⟩ := K
  obtain ⟨R, hPx, hPm, hS, hl⟩ := S
  refine lv_aload_n hx hb dL_law_560 rfl (lv_at hl 2 rfl) ?_
  refine lv_aload_n hx hb dL_law_561 rfl (lv_at hl 1 rfl) ?_
  refine lv_iload_n hx hb dL_law_562 rfl (lv_at hl 0 rfl) ?_
  refine lv_iconst (v := 1) hx hb dL_law_563 (by decide) ?_
  refine lv_iadd hx hb dL_law_564 ?_
  refine va_sld hx hb hX hbl hbA hS h1 dL_law_565 ?_
  refine lv_aload_n hx hb dL_law_566 rfl (lv_at hl 1 rfl) ?_
  refine lv_iload_n hx hb dL_law_567 rfl (lv_at hl 0 rfl) ?_
  refine lv_iconst (v := 2) hx hb dL_law_568 (by decide) ?_
  refine lv_iadd hx hb dL_law_569 ?_
  refine va_sld hx hb hX hbl hbA hS h2 dL_law_570 ?_
  refine lv_aload_n hx hb dL_law_571 rfl (lv_at hl 1 rfl) ?_
  refine lv_iload_n hx hb dL_law_572 rfl (lv_at hl 0 rfl) ?_
  refine lv_iconst (v := 3) hx hb dL_law_573 (by decide) ?_
  refine lv_iadd hx hb dL_law_574 ?_
  refine va_sld hx hb hX hbl hbA hS h3 dL_law_575 ?_
  refine lv_aload_n hx hb dL_law_576 rfl (lv_at hl 1 rfl) ?_
  refine lv_iload_n hx hb dL_law_577 rfl (lv_at hl 0 rfl) ?_
  refine lv_iconst (v := 4) hx hb dL_law_578 (by decide) ?_
  refine lv_iadd hx hb dL_law_579 ?_
  refine va_sld hx hb hX hbl hbA hS h4 dL_law_580 ?_
  refine va_calli (va_runV (As := [.int (xs (Int32.toNatClampNeg (i + 1))), .int (xs (Int32.toNatClampNeg (i + 2))), .int (xs (Int32.toNatClampNeg (i + 3))), .int (xs (Int32.toNatClampNeg (i + 4)))]) (rest := []) ⟨hx, hb, hml, hown, hts⟩ (c_X0_note l D a hOx X (xs (Int32.toNatClampNeg (i + 1))) (xs (Int32.toNatClampNeg (i + 2))) (xs (Int32.toNatClampNeg (i + 3))) (xs (Int32.toNatClampNeg (i + 4))) (RRI R)) (cwV 4 hts gL_law_X0_note rfl rfl rfl hdX0_note ⟨Nat.le_of_ble_eq_true rfl, Nat.le_of_ble_eq_true rfl⟩) (xPreV hKx hPx) rfl rfl hl.1 rfl (lv_room (Nat.le_of_ble_eq_true rfl)) dL_law_581 ⟨Nat.le_of_ble_eq_true rfl, Nat.le_of_ble_eq_true rfl⟩) hS (fun q _ h => hAx q h) (fun q h => hAx q h) (fun rx X1 t H1 locs ht hvm hwx hB hz1 hk1 hS => ?_)
  obtain ⟨hQ, -⟩ := hB
  rw [ht] at hQ
  have hPm := keepM hPm hk1 hdj
  have hPx := hQ
  refine lv_aload_n hx hb dL_law_584 rfl (lv_at hl 3 rfl) ?_
  refine lv_aload_n hx hb dL_law_585 rfl (lv_at hl 1 rfl) ?_
  refine lv_iload_n hx hb dL_law_586 rfl (lv_at hl 0 rfl) ?_
  refine lv_iconst (v := 1) hx hb dL_law_587 (by decide) ?_
  refine lv_iadd hx hb dL_law_588 ?_
  refine va_sld hx hb hX hbl hbA hS h1 dL_law_589 ?_
  refine lv_aload_n hx hb dL_law_590 rfl (lv_at hl 1 rfl) ?_
  refine lv_iload_n hx hb dL_law_591 rfl (lv_at hl 0 rfl) ?_
  refine lv_iconst (v := 2) hx hb dL_law_592 (by decide) ?_
  refine lv_iadd hx hb dL_law_593 ?_
  refine va_sld hx hb hX hbl hbA hS h2 dL_law_594 ?_
  refine lv_aload_n hx hb dL_law_595 rfl (lv_at hl 1 rfl) ?_
  refine lv_iload_n hx hb dL_law_596 rfl (lv_at hl 0 rfl) ?_
  refine lv_iconst (v := 3) hx hb dL_law_597 (by decide) ?_
  refine lv_iadd hx hb dL_law_598 ?_
  refine va_sld hx hb hX hbl hbA hS h3 dL_law_599 ?_
  refine lv_aload_n hx hb dL_law_600 rfl (lv_at hl 1 rfl) ?_
  refine lv_iload_n hx hb dL_law_601 rfl (lv_at hl 0 rfl) ?_
  refine lv_iconst (v := 4) hx hb dL_law_602 (by decide) ?_
  refine lv_iadd hx hb dL_law_603 ?_
  refine va_sld hx hb hX hbl hbA hS h4 dL_law_604 ?_
  refine va_calli (va_runV (As := [.int (xs (Int32.toNatClampNeg (i + 1))), .int (xs (Int32.toNatClampNeg (i + 2))), .int (xs (Int32.toNatClampNeg (i + 3))), .int (xs (Int32.toNatClampNeg (i + 4)))]) (rest := [.int rx]) ⟨hx, hb, hml, hown, hts⟩ (c_X1_note l D z hOm M (xs (Int32.toNatClampNeg (i + 1))) (xs (Int32.toNatClampNeg (i + 2))) (xs (Int32.toNatClampNeg (i + 3))) (xs (Int32.toNatClampNeg (i + 4))) R.2.2.2.2.2.2.1) (cwV 4 hts gL_law_X1_note rfl rfl rfl hdX1_note ⟨Nat.le_of_ble_eq_true rfl, Nat.le_of_ble_eq_true rfl⟩) (mPreV hKm hPm) rfl rfl hl.1 rfl (lv_room (Nat.le_of_ble_eq_true rfl)) dL_law_605 ⟨Nat.le_of_ble_eq_true rfl, Nat.le_of_ble_eq_true rfl⟩) hS (fun q _ h => hAm q h) (fun q h => hAm q h) (fun rm M1 t H1 locs ht hvm hwm hB hz1 hk1 hS => ?_)
  obtain ⟨hQ, -⟩ := hB
  rw [ht] at hQ
  have hPx := keepX hPx hk1 (fun q h1 h2 => hdj q h2 h1)
  have hPm := hQ
  have hq := q_note R (xs (Int32.toNatClampNeg (i + 1))) (xs (Int32.toNatClampNeg (i + 2))) (xs (Int32.toNatClampNeg (i + 3))) (xs (Int32.toNatClampNeg (i + 4)))
  rw [hwx, hwm] at hq
  obtain ⟨he, hR⟩ := hq
  refine lv_icmp_eq (tgt := 692) hx hb dL_law_608 (by decide) (fun c1 => ?_) (fun c1 => absurd he c1)
  exact J _ _ _ _ _ ⟨hR, hPx, hPm, hS, hl⟩
set_option maxHeartbeats 4000000 in
set_option maxRecDepth 100000 in
theorem lc_chart {p : Program} {l : Launch} {e : Env} {s : State} {m : MethodId} {below : List Frame} {meth : Method} {c : Code} {D : va_G} {b L : Nat} {xs : Nat → Int32} {a : XA} {z : MA} (C0 : lw_At p s m meth c b L xs) (K : lwK D s a z) {i : Int32} (h1 : vp_in (i + 1) L) (h2 : vp_in (i + 2) L) (h3 : vp_in (i + 3) L) (h4 : vp_in (i + 4) L) {X : XS} {M : MS} {H : Heap} {locs : List Loc} {ls : Array Slot} (S : lwS D s b a z i X M H locs ls) (J : ∀ (X : XS) (M : MS) (H : Heap) (locs : List Loc) (ls : Array Slot), lwS D s b a z i X M H locs ls → W p l e room_1 s m #[Value.ref b] below meth c H locs 37 1453 (lw_Z below #[Value.ref b] s) (F0 m 692 ls [])) : W p l e room_1 s m #[Value.ref b] below meth c H locs 37 1453 (lw_Z below #[Value.ref b] s) (F0 m 613 ls []) := by
  obtain ⟨hx, hb, hr, hml, hown0, hts0, hX, hbl, hlocks, hgv⟩ := C0
  have hts := fun w h => hts0 w (wsL_law_in w h)
  have hown : s.vm.findClass RL = some m.cls := hown0
  have hbA : ¬ (fun q : Nat => s.heap.size ≤ q) b := Nat.not_le.mpr hbl
  obtain ⟨hKx, hKm, hOx, hOm, hdj, hAx, hAm⟩ := K
  obtain ⟨R, hPx, hPm, hS, hl⟩ := S
  refine lv_aload_n hx hb dL_law_613 rfl (lv_at hl 2 rfl) ?_
  refine lv_aload_n hx hb dL_law_614 rfl (lv_at hl 1 rfl) ?_
  refine lv_iload_n hx hb dL_law_615 rfl (lv_at hl 0 rfl) ?_
  refine lv_iconst (v := 1) hx hb dL_law_616 (by decide) ?_
  refine lv_iadd hx hb dL_law_617 ?_
  refine va_sld hx hb hX hbl hbA hS h1 dL_law_618 ?_
  refine lv_aload_n hx hb dL_law_619 rfl (lv_at hl 1 rfl) ?_
  refine lv_iload_n hx hb dL_law_620 rfl (lv_at hl 0 rfl) ?_
  refine lv_iconst (v := 2) hx hb dL_law_621 (by decide) ?_
  refine lv_iadd hx hb dL_law_622 ?_
  refine va_sld hx hb hX hbl hbA hS h2 dL_law_623 ?_
  refine va_calli (va_runV (As := [.int (xs (Int32.toNatClampNeg (i + 1))), .int (xs (Int32.toNatClampNeg (i + 2)))]) (rest := []) ⟨hx, hb, hml, hown, hts⟩ (c_X0_chart l D a hOx X (xs (Int32.toNatClampNeg (i + 1))) (xs (Int32.toNatClampNeg (i + 2))) (RRI R)) (cwV 2 hts gL_law_X0_chart rfl rfl rfl hdX0_chart ⟨Nat.le_of_ble_eq_true rfl, Nat.le_of_ble_eq_true rfl⟩) (xPreV hKx hPx) rfl rfl hl.1 rfl (lv_room (Nat.le_of_ble_eq_true rfl)) dL_law_624 ⟨Nat.le_of_ble_eq_true rfl, Nat.le_of_ble_eq_true rfl⟩) hS (fun q _ h => hAx q h) (fun q h => hAx q h) (fun rx X1 t H1 locs ht hvm hwx hB hz1 hk1 hS => ?_)
  obtain ⟨hQ, -⟩ := hB
  rw [ht] at hQ
  have hPm := keepM hPm hk1 hdj
  have hPx := hQ
  refine lv_aload_n hx hb dL_law_627 rfl (lv_at hl 3 rfl) ?_
  refine lv_aload_n hx hb dL_law_628 rfl (lv_at hl 1 rfl) ?_
  refine lv_iload_n hx hb dL_law_629 rfl (lv_at hl 0 rfl) ?_
  refine lv_iconst (v := 1) hx hb dL_law_630 (by decide) ?_
  refine lv_iadd hx hb dL_law_631 ?_
  refine va_sld hx hb hX hbl hbA hS h1 dL_law_632 ?_
  refine lv_aload_n hx hb dL_law_633 rfl (lv_at hl 1 rfl) ?_
  refine lv_iload_n hx hb dL_law_634 rfl (lv_at hl 0 rfl) ?_
  refine lv_iconst (v := 2) hx hb dL_law_635 (by decide) ?_
  refine lv_iadd hx hb dL_law_636 ?_
  refine va_sld hx hb hX hbl hbA hS h2 dL_law_637 ?_
  refine va_calli (va_runV (As := [.int (xs (Int32.toNatClampNeg (i + 1))), .int (xs (Int32.toNatClampNeg (i + 2)))]) (rest := [.int rx]) ⟨hx, hb, hml, hown, hts⟩ (c_X1_chart l D z hOm M (xs (Int32.toNatClampNeg (i + 1))) (xs (Int32.toNatClampNeg (i + 2))) R.2.2.2.2.2.2.1) (cwV 2 hts gL_law_X1_chart rfl rfl rfl hdX1_chart ⟨Nat.le_of_ble_eq_true rfl, Nat.le_of_ble_eq_true rfl⟩) (mPreV hKm hPm) rfl rfl hl.1 rfl (lv_room (Nat.le_of_ble_eq_true rfl)) dL_law_638 ⟨Nat.le_of_ble_eq_true rfl, Nat.le_of_ble_eq_true rfl⟩) hS (fun q _ h => hAm q h) (fun q h => hAm q h) (fun rm M1 t H1 locs ht hvm hwm hB hz1 hk1 hS => ?_)
  obtain ⟨hQ, -⟩ := hB
  rw [ht] at hQ
  have hPx := keepX hPx hk1 (fun q h1 h2 => hdj q h2 h1)
  have hPm := hQ
  have hq := q_chart R (xs (Int32.toNatClampNeg (i + 1))) (xs (Int32.toNatClampNeg (i + 2)))
  rw [hwx, hwm] at hq
  obtain ⟨he, hR⟩ := hq
  refine lv_icmp_eq (tgt := 692) hx hb dL_law_641 (by decide) (fun c1 => ?_) (fun c1 => absurd he c1)
  exact J _ _ _ _ _ ⟨hR, hPx, hPm, hS, hl⟩
set_option maxHeartbeats 4000000 in
set_option maxRecDepth 100000 in
theorem lc_columns {p : Program} {l : Launch} {e : Env} {s : State} {m : MethodId} {below : List Frame} {meth : Method} {c : Code} {D : va_G} {b L : Nat} {xs : Nat → Int32} {a : XA} {z : MA} (C0 : lw_At p s m meth c b L xs) (K : lwK D s a z) {i : Int32} (h1 : vp_in (i + 1) L) (h2 : vp_in (i + 2) L) (h3 : vp_in (i + 3) L) (h4 : vp_in (i + 4) L) {X : XS} {M : MS} {H : Heap} {locs : List Loc} {ls : Array Slot} (S : lwS D s b a z i X M H locs ls) (J : ∀ (X : XS) (M : MS) (H : Heap) (locs : List Loc) (ls : Array Slot), lwS D s b a z i X M H locs ls → W p l e room_1 s m #[Value.ref b] below meth c H locs 37 1453 (lw_Z below #[Value.ref b] s) (F0 m 692 ls [])) : W p l e room_1 s m #[Value.ref b] below meth c H locs 37 1453 (lw_Z below #[Value.ref b] s) (F0 m 646 ls []) := by
  obtain ⟨hx, hb, hr, hml, hown0, hts0, hX, hbl, hlocks, hgv⟩ := C0
  have hts := fun w h => hts0 w (wsL_law_in w h)
  have hown : s.vm.findClass RL = some m.cls := hown0
  have hbA : ¬ (fun q : Nat => s.heap.size ≤ q) b := Nat.not_le.mpr hbl
  obtain ⟨hKx, hKm, hOx, hOm, hdj, hAx, hAm⟩ := K
  obtain ⟨R, hPx, hPm, hS, hl⟩ := S
  refine lv_aload_n hx hb dL_law_646 rfl (lv_at hl 2 rfl) ?_
  refine lv_aload_n hx hb dL_law_647 rfl (lv_at hl 1 rfl) ?_
  refine lv_iload_n hx hb dL_law_648 rfl (lv_at hl 0 rfl) ?_
  refine lv_iconst (v := 1) hx hb dL_law_649 (by decide) ?_
  refine lv_iadd hx hb dL_law_650 ?_
  refine va_sld hx hb hX hbl hbA hS h1 dL_law_651 ?_
  refine va_calli (va_runV (As := [.int (xs (Int32.toNatClampNeg (i + 1)))]) (rest := []) ⟨hx, hb, hml, hown, hts⟩ (c_X0_columns l D a hOx X (xs (Int32.toNatClampNeg (i + 1))) (RRI R)) (cwV 1 hts gL_law_X0_columns rfl rfl rfl hdX0_columns ⟨Nat.le_of_ble_eq_true rfl, Nat.le_of_ble_eq_true rfl⟩) (xPreV hKx hPx) rfl rfl hl.1 rfl (lv_room (Nat.le_of_ble_eq_true rfl)) dL_law_652 ⟨Nat.le_of_ble_eq_true rfl, Nat.le_of_ble_eq_true rfl⟩) hS (fun q _ h => hAx q h) (fun q h => hAx q h) (fun rx X1 t H1 locs ht hvm hwx hB hz1 hk1 hS => ?_)
  obtain ⟨hQ, -⟩ := hB
  rw [ht] at hQ
  have hPm := keepM hPm hk1 hdj
  have hPx := hQ
  refine lv_aload_n hx hb dL_law_655 rfl (lv_at hl 3 rfl) ?_
  refine lv_aload_n hx hb dL_law_656 rfl (lv_at hl 1 rfl) ?_
  refine lv_iload_n hx hb dL_law_657 rfl (lv_at hl 0 rfl) ?_
  refine lv_iconst (v := 1) hx hb dL_law_658 (by decide) ?_
  refine lv_iadd hx hb dL_law_659 ?_
  refine va_sld hx hb hX hbl hbA hS h1 dL_law_660 ?_
  refine va_calli (va_runV (As := [.int (xs (Int32.toNatClampNeg (i + 1)))]) (rest := [.int rx]) ⟨hx, hb, hml, hown, hts⟩ (c_X1_columns l D z hOm M (xs (Int32.toNatClampNeg (i + 1)))) (cwV 1 hts gL_law_X1_columns rfl rfl rfl hdX1_columns ⟨Nat.le_of_ble_eq_true rfl, Nat.le_of_ble_eq_true rfl⟩) (mPreV hKm hPm) rfl rfl hl.1 rfl (lv_room (Nat.le_of_ble_eq_true rfl)) dL_law_661 ⟨Nat.le_of_ble_eq_true rfl, Nat.le_of_ble_eq_true rfl⟩) hS (fun q _ h => hAm q h) (fun q h => hAm q h) (fun rm M1 t H1 locs ht hvm hwm hB hz1 hk1 hS => ?_)
  obtain ⟨hQ, -⟩ := hB
  rw [ht] at hQ
  have hPx := keepX hPx hk1 (fun q h1 h2 => hdj q h2 h1)
  have hPm := hQ
  have hq := q_columns R (xs (Int32.toNatClampNeg (i + 1)))
  rw [hwx, hwm] at hq
  obtain ⟨he, hR⟩ := hq
  refine lv_icmp_eq (tgt := 692) hx hb dL_law_664 (by decide) (fun c1 => ?_) (fun c1 => absurd he c1)
  exact J _ _ _ _ _ ⟨hR, hPx, hPm, hS, hl⟩
set_option maxHeartbeats 4000000 in
set_option maxRecDepth 100000 in
theorem lc_look {p : Program} {l : Launch} {e : Env} {s : State} {m : MethodId} {below : List Frame} {meth : Method} {c : Code} {D : va_G} {b L : Nat} {xs : Nat → Int32} {a : XA} {z : MA} (C0 : lw_At p s m meth c b L xs) (K : lwK D s a z) {i : Int32} (h1 : vp_in (i + 1) L) (h2 : vp_in (i + 2) L) (h3 : vp_in (i + 3) L) (h4 : vp_in (i + 4) L) {X : XS} {M : MS} {H : Heap} {locs : List Loc} {ls : Array Slot} (S : lwS D s b a z i X M H locs ls) (J : ∀ (X : XS) (M : MS) (H : Heap) (locs : List Loc) (ls : Array Slot), lwS D s b a z i X M H locs ls → W p l e room_1 s m #[Value.ref b] below meth c H locs 37 1453 (lw_Z below #[Value.ref b] s) (F0 m 692 ls [])) : W p l e room_1 s m #[Value.ref b] below meth c H locs 37 1453 (lw_Z below #[Value.ref b] s) (F0 m 669 ls []) := by
  obtain ⟨hx, hb, hr, hml, hown0, hts0, hX, hbl, hlocks, hgv⟩ := C0
  have hts := fun w h => hts0 w (wsL_law_in w h)
  have hown : s.vm.findClass RL = some m.cls := hown0
  have hbA : ¬ (fun q : Nat => s.heap.size ≤ q) b := Nat.not_le.mpr hbl
  obtain ⟨hKx, hKm, hOx, hOm, hdj, hAx, hAm⟩ := K
  obtain ⟨R, hPx, hPm, hS, hl⟩ := S
  refine lv_aload_n hx hb dL_law_669 rfl (lv_at hl 2 rfl) ?_
  refine lv_aload_n hx hb dL_law_670 rfl (lv_at hl 1 rfl) ?_
  refine lv_iload_n hx hb dL_law_671 rfl (lv_at hl 0 rfl) ?_
  refine lv_iconst (v := 1) hx hb dL_law_672 (by decide) ?_
  refine lv_iadd hx hb dL_law_673 ?_
  refine va_sld hx hb hX hbl hbA hS h1 dL_law_674 ?_
  refine va_calli (va_runV (As := [.int (xs (Int32.toNatClampNeg (i + 1)))]) (rest := []) ⟨hx, hb, hml, hown, hts⟩ (c_X0_look l D a hOx X (xs (Int32.toNatClampNeg (i + 1)))) (cwV 1 hts gL_law_X0_look rfl rfl rfl hdX0_look ⟨Nat.le_of_ble_eq_true rfl, Nat.le_of_ble_eq_true rfl⟩) (xPreV hKx hPx) rfl rfl hl.1 rfl (lv_room (Nat.le_of_ble_eq_true rfl)) dL_law_675 ⟨Nat.le_of_ble_eq_true rfl, Nat.le_of_ble_eq_true rfl⟩) hS (fun q _ h => hAx q h) (fun q h => hAx q h) (fun rx X1 t H1 locs ht hvm hwx hB hz1 hk1 hS => ?_)
  obtain ⟨hQ, -⟩ := hB
  rw [ht] at hQ
  have hPm := keepM hPm hk1 hdj
  have hPx := hQ
  refine lv_aload_n hx hb dL_law_678 rfl (lv_at hl 3 rfl) ?_
  refine lv_aload_n hx hb dL_law_679 rfl (lv_at hl 1 rfl) ?_
  refine lv_iload_n hx hb dL_law_680 rfl (lv_at hl 0 rfl) ?_
  refine lv_iconst (v := 1) hx hb dL_law_681 (by decide) ?_
  refine lv_iadd hx hb dL_law_682 ?_
  refine va_sld hx hb hX hbl hbA hS h1 dL_law_683 ?_
  refine va_calli (va_runV (As := [.int (xs (Int32.toNatClampNeg (i + 1)))]) (rest := [.int rx]) ⟨hx, hb, hml, hown, hts⟩ (c_X1_look l D z hOm M (xs (Int32.toNatClampNeg (i + 1)))) (cwV 1 hts gL_law_X1_look rfl rfl rfl hdX1_look ⟨Nat.le_of_ble_eq_true rfl, Nat.le_of_ble_eq_true rfl⟩) (mPreV hKm hPm) rfl rfl hl.1 rfl (lv_room (Nat.le_of_ble_eq_true rfl)) dL_law_684 ⟨Nat.le_of_ble_eq_true rfl, Nat.le_of_ble_eq_true rfl⟩) hS (fun q _ h => hAm q h) (fun q h => hAm q h) (fun rm M1 t H1 locs ht hvm hwm hB hz1 hk1 hS => ?_)
  obtain ⟨hQ, -⟩ := hB
  rw [ht] at hQ
  have hPx := keepX hPx hk1 (fun q h1 h2 => hdj q h2 h1)
  have hPm := hQ
  obtain ⟨hwx, eX⟩ := hwx
  obtain ⟨hwm, eM⟩ := hwm
  have hPx : va_P D vwCl (xW a X) H1 := by rw [← eX]; exact hPx
  have hPm : va_P D vwCl (mW z M) H1 := by rw [← eM]; exact hPm
  have he : rx = rm := by rw [← hwx, ← hwm]; exact q_look R _
  have hR := R
  refine lv_icmp_eq (tgt := 692) hx hb dL_law_687 (by decide) (fun c1 => ?_) (fun c1 => absurd he c1)
  exact J _ _ _ _ _ ⟨hR, hPx, hPm, hS, hl⟩
