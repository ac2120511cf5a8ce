set_option maxHeartbeats 4000000 in
set_option maxRecDepth 100000 in
/-- THE LAW'S LOOP -/
theorem law_loop {p : Program} {l : Launch} {e : Env} {s : State} {m : MethodId} {below : List Frame} {meth : Method} {c : Code} {D : va_G} {b L : Nat} {xs : Nat → Int32} {a : XA} {z : MA} (hL : L ≤ 2561) (C0 : lw_At p s m meth c b L xs) (K : lwK D s a z) : ∀ (n k : Nat) (i : Int32), k ≤ L + 1 → L + 2 ≤ k + n → i = nI k → ∀ (X : XS) (M : MS) (H : Heap) (locs : List Loc) (ls : Array Slot), lwS D s b a z i X M H locs ls → W p l e room_1 s m #[Value.ref b] below meth c H locs 37 1453 (lw_Z below #[Value.ref b] s) (F0 m 28 ls []) := by
  intro n
  induction n with
  | zero =>
    intro k i h1 h2
    exact absurd h2 (by omega)
  | succ n ih =>
    intro k i hk hkn ei X M H locs ls S
    obtain ⟨hx, hb, hr, hml, hown0, hts0, hX, hbl, hlocks, hgv⟩ := id C0
    have hbA : ¬ (fun q : Nat => s.heap.size ≤ q) b := Nat.not_le.mpr hbl
    obtain ⟨R, hPx, hPm, hS, hl⟩ := id S
    refine lv_iload_n hx hb dL_law_28 rfl (lv_at hl 0 rfl) ?_
    refine lv_aload_n hx hb dL_law_29 rfl (lv_at hl 1 rfl) ?_
    refine va_slen hx hb hX hbl hbA hS dL_law_30 ?_
    refine lv_iconst (v := 5) hx hb dL_law_31 (by decide) ?_
    refine lv_isub hx hb dL_law_32 ?_
    refine lv_icmp_gt (tgt := 698) hx hb dL_law_33 (by decide) (fun c1 => ?_) (fun c1 => ?_)
    · refine lv_iconst (v := 1) hx hb dL_law_698 (by decide) ?_
      refine va_forget (fun q hq => hS.2.2 q hq) ?_
      refine W.widen (k := 600000) (n := 7302250) (by decide) (by decide) ?_
      exact lw_ret hx hb hr hlocks dL_law_699
    · have hkL : k + 5 ≤ L := by
        rw [ei, Int32.lt_iff_toInt_lt, show Int32.ofNat L - 5 = nI L - nI 5 from rfl, pk_sub_toInt (by omega) (by decide), nI_toInt (by omega)] at c1
        omega
      have h0 : vp_in i L := by rw [ei]; exact vp_in_nI (by omega) (by omega)
      have h1 : vp_in (i + 1) L := by rw [ei, show (1 : Int32) = nI 1 by decide, nI_add]; exact vp_in_nI (by omega) (by omega)
      have h2 : vp_in (i + 2) L := by rw [ei, show (2 : Int32) = nI 2 by decide, nI_add]; exact vp_in_nI (by omega) (by omega)
      have h3 : vp_in (i + 3) L := by rw [ei, show (3 : Int32) = nI 3 by decide, nI_add]; exact vp_in_nI (by omega) (by omega)
      have h4 : vp_in (i + 4) L := by rw [ei, show (4 : Int32) = nI 4 by decide, nI_add]; exact vp_in_nI (by omega) (by omega)
      have J : ∀ (X : XS) (M : MS) (H : Heap) (locs : List Loc) (ls : Array Slot), lwS D s b a z i X M H locs ls → W p l e room_1 s m #[Value.ref b] below meth c H locs 37 1453 (lw_Z below #[Value.ref b] s) (F0 m 692 ls []) := by
        intro X M H locs ls S
        obtain ⟨R, hPx, hPm, hS, hl⟩ := S
        refine lv_iinc (v := (i + 5)) (lv' := [(3, .int (i + 5)), (0, .ref b), (1, .ref (xa a)), (2, .ref (ma z))]) hx hb dL_law_692 hl (k := 0) rfl rfl (by decide) rfl (fun ls hl => ?_)
        refine lv_goto (tgt := 28) hx hb dL_law_695 (by decide) ?_
        exact ih (k + 5) (i + 5) (by omega) (by omega) (by rw [ei, show (5 : Int32) = nI 5 by decide, nI_add]) X M H locs ls ⟨R, hPx, hPm, hS, hl⟩
      refine lv_aload_n hx hb dL_law_36 rfl (lv_at hl 1 rfl) ?_
      refine lv_iload_n hx hb dL_law_37 rfl (lv_at hl 0 rfl) ?_
      refine va_sld hx hb hX hbl hbA hS h0 dL_law_38 ?_
      refine lv_bipush (v := 31) hx hb dL_law_39 (by decide) ?_
      refine lv_iand hx hb dL_law_41 ?_
      refine lv_topi (fun v _ => ?_)
      by_cases c100 : v = 0
      · refine lv_tableIn (tgt := 128) hx hb dL_law_42 (by rw [c100]; decide) (by rw [c100]; decide) (by rw [c100]; rfl) (by decide) ?_
        exact lc_keep C0 K h1 h2 h3 h4 S J
      by_cases c101 : v = 1
      · refine lv_tableIn (tgt := 161) hx hb dL_law_42 (by rw [c101]; decide) (by rw [c101]; decide) (by rw [c101]; rfl) (by decide) ?_
        exact lc_lose C0 K h1 h2 h3 h4 S J
      by_cases c102 : v = 2
      · refine lv_tableIn (tgt := 184) hx hb dL_law_42 (by rw [c102]; decide) (by rw [c102]; decide) (by rw [c102]; rfl) (by decide) ?_
        exact lc_lines C0 K h1 h2 h3 h4 S J
      by_cases c103 : v = 3
      · refine lv_tableIn (tgt := 207) hx hb dL_law_42 (by rw [c103]; decide) (by rw [c103]; decide) (by rw [c103]; rfl) (by decide) ?_
        exact lc_read C0 K h1 h2 h3 h4 S J
      by_cases c104 : v = 4
      · refine lv_tableIn (tgt := 240) hx hb dL_law_42 (by rw [c104]; decide) (by rw [c104]; decide) (by rw [c104]; rfl) (by decide) ?_
        exact lc_write C0 K h1 h2 h3 h4 S J
      by_cases c105 : v = 5
      · refine lv_tableIn (tgt := 283) hx hb dL_law_42 (by rw [c105]; decide) (by rw [c105]; decide) (by rw [c105]; rfl) (by decide) ?_
        exact lc_change C0 K h1 h2 h3 h4 S J
      by_cases c106 : v = 6
      · refine lv_tableIn (tgt := 336) hx hb dL_law_42 (by rw [c106]; decide) (by rw [c106]; decide) (by rw [c106]; rfl) (by decide) ?_
        exact lc_tally C0 K h1 h2 h3 h4 S J
      by_cases c107 : v = 7
      · refine lv_tableIn (tgt := 359) hx hb dL_law_42 (by rw [c107]; decide) (by rw [c107]; decide) (by rw [c107]; rfl) (by decide) ?_
        exact lc_copy C0 K h1 h2 h3 h4 S J
      by_cases c108 : v = 8
      · refine lv_tableIn (tgt := 392) hx hb dL_law_42 (by rw [c108]; decide) (by rw [c108]; decide) (by rw [c108]; rfl) (by decide) ?_
        exact lc_sluice C0 K h1 h2 h3 h4 S J
      by_cases c109 : v = 9
      · refine lv_tableIn (tgt := 425) hx hb dL_law_42 (by rw [c109]; decide) (by rw [c109]; decide) (by rw [c109]; rfl) (by decide) ?_
        exact lc_open C0 K h1 h2 h3 h4 S J
      by_cases c110 : v = 10
      · refine lv_tableIn (tgt := 448) hx hb dL_law_42 (by rw [c110]; decide) (by rw [c110]; decide) (by rw [c110]; rfl) (by decide) ?_
        exact lc_shut C0 K h1 h2 h3 h4 S J
      by_cases c111 : v = 11
      · refine lv_tableIn (tgt := 471) hx hb dL_law_42 (by rw [c111]; decide) (by rw [c111]; decide) (by rw [c111]; rfl) (by decide) ?_
        exact lc_enter C0 K h1 h2 h3 h4 S J
      by_cases c112 : v = 12
      · refine lv_tableIn (tgt := 504) hx hb dL_law_42 (by rw [c112]; decide) (by rw [c112]; decide) (by rw [c112]; rfl) (by decide) ?_
        exact lc_pass C0 K h1 h2 h3 h4 S J
      by_cases c113 : v = 13
      · refine lv_tableIn (tgt := 527) hx hb dL_law_42 (by rw [c113]; decide) (by rw [c113]; decide) (by rw [c113]; rfl) (by decide) ?_
        exact lc_survey C0 K h1 h2 h3 h4 S J
      by_cases c114 : v = 14
      · refine lv_tableIn (tgt := 560) hx hb dL_law_42 (by rw [c114]; decide) (by rw [c114]; decide) (by rw [c114]; rfl) (by decide) ?_
        exact lc_note C0 K h1 h2 h3 h4 S J
      by_cases c115 : v = 15
      · refine lv_tableIn (tgt := 613) hx hb dL_law_42 (by rw [c115]; decide) (by rw [c115]; decide) (by rw [c115]; rfl) (by decide) ?_
        exact lc_chart C0 K h1 h2 h3 h4 S J
      by_cases c116 : v = 16
      · refine lv_tableIn (tgt := 646) hx hb dL_law_42 (by rw [c116]; decide) (by rw [c116]; decide) (by rw [c116]; rfl) (by decide) ?_
        exact lc_columns C0 K h1 h2 h3 h4 S J
      by_cases c117 : v = 17
      · refine lv_tableIn (tgt := 669) hx hb dL_law_42 (by rw [c117]; decide) (by rw [c117]; decide) (by rw [c117]; rfl) (by decide) ?_
        exact lc_look C0 K h1 h2 h3 h4 S J
      have n100 := lv_neT c100 (a := 0) (by decide)
      have n101 := lv_neT c101 (a := 1) (by decide)
      have n102 := lv_neT c102 (a := 2) (by decide)
      have n103 := lv_neT c103 (a := 3) (by decide)
      have n104 := lv_neT c104 (a := 4) (by decide)
      have n105 := lv_neT c105 (a := 5) (by decide)
      have n106 := lv_neT c106 (a := 6) (by decide)
      have n107 := lv_neT c107 (a := 7) (by decide)
      have n108 := lv_neT c108 (a := 8) (by decide)
      have n109 := lv_neT c109 (a := 9) (by decide)
      have n110 := lv_neT c110 (a := 10) (by decide)
      have n111 := lv_neT c111 (a := 11) (by decide)
      have n112 := lv_neT c112 (a := 12) (by decide)
      have n113 := lv_neT c113 (a := 13) (by decide)
      have n114 := lv_neT c114 (a := 14) (by decide)
      have n115 := lv_neT c115 (a := 15) (by decide)
      have n116 := lv_neT c116 (a := 16) (by decide)
      have n117 := lv_neT c117 (a := 17) (by decide)
      refine lv_tableOut (tgt := 692) hx hb dL_law_42 (by omega) (by decide) ?_
      exact J X M H locs ls S
