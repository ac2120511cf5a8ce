set_option maxHeartbeats 4000000 in
set_option maxRecDepth 100000 in
theorem lc_keep {p : Program} {l : Launch} {e : Env} {s : State} {m : MethodId} {below : List Frame} {meth : Method} {c : Code} {D : va_G} {b L : Nat} {xs : Nat → Int32} {a : XA} {z : MA} (C0 : lw_At p s m meth c b L xs) (K : lwK D s a z) {i : Int32} (h1 : vp_in (i + 1) L) (h2 : vp_in (i + 2) L) (h3 : vp_in (i + 3) L) (h4 : vp_in (i + 4) L) {X : XS} {M : MS} {H : Heap} {locs : List Loc} {ls : Array Slot} (S : lwS D s b a z i X M H locs ls) (J : ∀ (X : XS) (M : MS) (H : Heap) (locs : List Loc) (ls : Array Slot), lwS D s b a z i X M H locs ls → W p l e room_1 s m #[Value.ref b] below meth c H locs 37 1453 (lw_Z below #[Value.ref b] s) (F0 m 692 ls [])) : W p l e room_1 s m #[Value.ref b] below meth c H locs 37 1453 (lw_Z below #[Value.ref b] s) (F0 m 128 ls []) := by
  obtain ⟨hx, hb, hr, hml, hown0, hts0, hX, hbl, hlocks, hgv⟩ := C0
  have hts := fun w h => hts0 w (wsL_law_in w h)
  have hown : s.vm.findClass RL = some m.cls := hown0
  have hbA : ¬ (fun q : Nat => s.heap.size ≤ q) b := Nat.not_le.mpr hbl
  obtain ⟨hKx, hKm, hOx, hOm, hdj, hAx, hAm⟩ := K
  obtain ⟨R, hPx, hPm, hS, hl⟩ := S
  refine lv_aload_n hx hb dL_law_128 rfl (lv_at hl 2 rfl) ?_
  refine lv_aload_n hx hb dL_law_129 rfl (lv_at hl 1 rfl) ?_
  refine lv_iload_n hx hb dL_law_130 rfl (lv_at hl 0 rfl) ?_
  refine lv_iconst (v := 1) hx hb dL_law_131 (by decide) ?_
  refine lv_iadd hx hb dL_law_132 ?_
  refine va_sld hx hb hX hbl hbA hS h1 dL_law_133 ?_
  refine lv_aload_n hx hb dL_law_134 rfl (lv_at hl 1 rfl) ?_
  refine lv_iload_n hx hb dL_law_135 rfl (lv_at hl 0 rfl) ?_
  refine lv_iconst (v := 2) hx hb dL_law_136 (by decide) ?_
  refine lv_iadd hx hb dL_law_137 ?_
  refine va_sld hx hb hX hbl hbA hS h2 dL_law_138 ?_
  refine va_calli (va_runV (As := [.int (xs (Int32.toNatClampNeg (i + 1))), .int (xs (Int32.toNatClampNeg (i + 2)))]) (rest := []) ⟨hx, hb, hml, hown, hts⟩ (c_X0_keep l D a hOx X (xs (Int32.toNatClampNeg (i + 1))) (xs (Int32.toNatClampNeg (i + 2)))) (cwV 2 hts gL_law_X0_keep rfl rfl rfl hdX0_keep ⟨Nat.le_of_ble_eq_true rfl, Nat.le_of_ble_eq_true rfl⟩) (xPreV hKx hPx) rfl rfl hl.1 rfl (lv_room (Nat.le_of_ble_eq_true rfl)) dL_law_139 ⟨Nat.le_of_ble_eq_true rfl, Nat.le_of_ble_eq_true rfl⟩) hS (fun q _ h => hAx q h) (fun q h => hAx q h) (fun rx X1 t H1 locs ht hvm hwx hB hz1 hk1 hS => ?_)
  obtain ⟨hQ, -⟩ := hB
  rw [ht] at hQ
  have hPm := keepM hPm hk1 hdj
  have hPx := hQ
  refine lv_aload_n hx hb dL_law_142 rfl (lv_at hl 3 rfl) ?_
  refine lv_aload_n hx hb dL_law_143 rfl (lv_at hl 1 rfl) ?_
  refine lv_iload_n hx hb dL_law_144 rfl (lv_at hl 0 rfl) ?_
  refine lv_iconst (v := 1) hx hb dL_law_145 (by decide) ?_
  refine lv_iadd hx hb dL_law_146 ?_
  refine va_sld hx hb hX hbl hbA hS h1 dL_law_147 ?_
  refine lv_aload_n hx hb dL_law_148 rfl (lv_at hl 1 rfl) ?_
  refine lv_iload_n hx hb dL_law_149 rfl (lv_at hl 0 rfl) ?_
  refine lv_iconst (v := 2) hx hb dL_law_150 (by decide) ?_
  refine lv_iadd hx hb dL_law_151 ?_
  refine va_sld hx hb hX hbl hbA hS h2 dL_law_152 ?_
  refine va_calli (va_runV (As := [.int (xs (Int32.toNatClampNeg (i + 1))), .int (xs (Int32.toNatClampNeg (i + 2)))]) (rest := [.int rx]) ⟨hx, hb, hml, hown, hts⟩ (c_X1_keep l D z hOm M (xs (Int32.toNatClampNeg (i + 1))) (xs (Int32.toNatClampNeg (i + 2)))) (cwV 2 hts gL_law_X1_keep rfl rfl rfl hdX1_keep ⟨Nat.le_of_ble_eq_true rfl, Nat.le_of_ble_eq_true rfl⟩) (mPreV hKm hPm) rfl rfl hl.1 rfl (lv_room (Nat.le_of_ble_eq_true rfl)) dL_law_153 ⟨Nat.le_of_ble_eq_true rfl, Nat.le_of_ble_eq_true rfl⟩) hS (fun q _ h => hAm q h) (fun q h => hAm q h) (fun rm M1 t H1 locs ht hvm hwm hB hz1 hk1 hS => ?_)
  obtain ⟨hQ, -⟩ := hB
  rw [ht] at hQ
  have hPx := keepX hPx hk1 (fun q h1 h2 => hdj q h2 h1)
  have hPm := hQ
  have hq := q_keep R (xs (Int32.toNatClampNeg (i + 1))) (xs (Int32.toNatClampNeg (i + 2)))
  rw [hwx, hwm] at hq
  obtain ⟨he, hR⟩ := hq
  refine lv_icmp_eq (tgt := 692) hx hb dL_law_156 (by decide) (fun c1 => ?_) (fun c1 => absurd he c1)
  exact J _ _ _ _ _ ⟨hR, hPx, hPm, hS, hl⟩
set_option maxHeartbeats 4000000 in
set_option maxRecDepth 100000 in
theorem lc_lose {p : Program} {l : Launch} {e : Env} {s : State} {m : MethodId} {below : List Frame} {meth : Method} {c : Code} {D : va_G} {b L : Nat} {xs : Nat → Int32} {a : XA} {z : MA} (C0 : lw_At p s m meth c b L xs) (K : lwK D s a z) {i : Int32} (h1 : vp_in (i + 1) L) (h2 : vp_in (i + 2) L) (h3 : vp_in (i + 3) L) (h4 : vp_in (i + 4) L) {X : XS} {M : MS} {H : Heap} {locs : List Loc} {ls : Array Slot} (S : lwS D s b a z i X M H locs ls) (J : ∀ (X : XS) (M : MS) (H : Heap) (locs : List Loc) (ls : Array Slot), lwS D s b a z i X M H locs ls → W p l e room_1 s m #[Value.ref b] below meth c H locs 37 1453 (lw_Z below #[Value.ref b] s) (F0 m 692 ls [])) : W p l e room_1 s m #[Value.ref b] below meth c H locs 37 1453 (lw_Z below #[Value.ref b] s) (F0 m 161 ls []) := by
  obtain ⟨hx, hb, hr, hml, hown0, hts0, hX, hbl, hlocks, hgv⟩ := C0
  have hts := fun w h => hts0 w (wsL_law_in w h)
  have hown : s.vm.findClass RL = some m.cls := hown0
  have hbA : ¬ (fun q : Nat => s.heap.size ≤ q) b := Nat.not_le.mpr hbl
  obtain ⟨hKx, hKm, hOx, hOm, hdj, hAx, hAm⟩ := K
  obtain ⟨R, hPx, hPm, hS, hl⟩ := S
  refine lv_aload_n hx hb dL_law_161 rfl (lv_at hl 2 rfl) ?_
  refine lv_aload_n hx hb dL_law_162 rfl (lv_at hl 1 rfl) ?_
  refine lv_iload_n hx hb dL_law_163 rfl (lv_at hl 0 rfl) ?_
  refine lv_iconst (v := 1) hx hb dL_law_164 (by decide) ?_
  refine lv_iadd hx hb dL_law_165 ?_
  refine va_sld hx hb hX hbl hbA hS h1 dL_law_166 ?_
  refine va_calli (va_runV (As := [.int (xs (Int32.toNatClampNeg (i + 1)))]) (rest := []) ⟨hx, hb, hml, hown, hts⟩ (c_X0_lose l D a hOx X (xs (Int32.toNatClampNeg (i + 1)))) (cwV 1 hts gL_law_X0_lose rfl rfl rfl hdX0_lose ⟨Nat.le_of_ble_eq_true rfl, Nat.le_of_ble_eq_true rfl⟩) (xPreV hKx hPx) rfl rfl hl.1 rfl (lv_room (Nat.le_of_ble_eq_true rfl)) dL_law_167 ⟨Nat.le_of_ble_eq_true rfl, Nat.le_of_ble_eq_true rfl⟩) hS (fun q _ h => hAx q h) (fun q h => hAx q h) (fun rx X1 t H1 locs ht hvm hwx hB hz1 hk1 hS => ?_)
  obtain ⟨hQ, -⟩ := hB
  rw [ht] at hQ
  have hPm := keepM hPm hk1 hdj
  have hPx := hQ
  refine lv_aload_n hx hb dL_law_170 rfl (lv_at hl 3 rfl) ?_
  refine lv_aload_n hx hb dL_law_171 rfl (lv_at hl 1 rfl) ?_
  refine lv_iload_n hx hb dL_law_172 rfl (lv_at hl 0 rfl) ?_
  refine lv_iconst (v := 1) hx hb dL_law_173 (by decide) ?_
  refine lv_iadd hx hb dL_law_174 ?_
  refine va_sld hx hb hX hbl hbA hS h1 dL_law_175 ?_
  refine va_calli (va_runV (As := [.int (xs (Int32.toNatClampNeg (i + 1)))]) (rest := [.int rx]) ⟨hx, hb, hml, hown, hts⟩ (c_X1_lose l D z hOm M (xs (Int32.toNatClampNeg (i + 1)))) (cwV 1 hts gL_law_X1_lose rfl rfl rfl hdX1_lose ⟨Nat.le_of_ble_eq_true rfl, Nat.le_of_ble_eq_true rfl⟩) (mPreV hKm hPm) rfl rfl hl.1 rfl (lv_room (Nat.le_of_ble_eq_true rfl)) dL_law_176 ⟨Nat.le_of_ble_eq_true rfl, Nat.le_of_ble_eq_true rfl⟩) hS (fun q _ h => hAm q h) (fun q h => hAm q h) (fun rm M1 t H1 locs ht hvm hwm hB hz1 hk1 hS => ?_)
  obtain ⟨hQ, -⟩ := hB
  rw [ht] at hQ
  have hPx := keepX hPx hk1 (fun q h1 h2 => hdj q h2 h1)
  have hPm := hQ
  have hq := q_lose R (xs (Int32.toNatClampNeg (i + 1)))
  rw [hwx, hwm] at hq
  obtain ⟨he, hR⟩ := hq
  refine lv_icmp_eq (tgt := 692) hx hb dL_law_179 (by decide) (fun c1 => ?_) (fun c1 => absurd he c1)
  exact J _ _ _ _ _ ⟨hR, hPx, hPm, hS, hl⟩
set_option maxHeartbeats 4000000 in
set_option maxRecDepth 100000 in
theorem lc_lines {p : Program} {l : Launch} {e : Env} {s : State} {m : MethodId} {below : List Frame} {meth : Method} {c : Code} {D : va_G} {b L : Nat} {xs : Nat → Int32} {a : XA} {z : MA} (C0 : lw_At p s m meth c b L xs) (K : lwK D s a z) {i : Int32} (h1 : vp_in (i + 1) L) (h2 : vp_in (i + 2) L) (h3 : vp_in (i + 3) L) (h4 : vp_in (i + 4) L) {X : XS} {M : MS} {H : Heap} {locs : List Loc} {ls : Array Slot} (S : lwS D s b a z i X M H locs ls) (J : ∀ (X : XS) (M : MS) (H : Heap) (locs : List Loc) (ls : Array Slot), lwS D s b a z i X M H locs ls → W p l e room_1 s m #[Value.ref b] below meth c H locs 37 1453 (lw_Z below #[Value.ref b] s) (F0 m 692 ls [])) : W p l e room_1 s m #[Value.ref b] below meth c H locs 37 1453 (lw_Z below #[Value.ref b] s) (F0 m 184 ls []) := by
  obtain ⟨hx, hb, hr, hml, hown0, hts0, hX, hbl, hlocks, hgv⟩ := C0
  have hts := fun w h => hts0 w (wsL_law_in w h)
  have hown : s.vm.findClass RL = some m.cls := hown0
  have hbA : ¬ (fun q : Nat => s.heap.size ≤ q) b := Nat.not_le.mpr hbl
  obtain ⟨hKx, hKm, hOx, hOm, hdj, hAx, hAm⟩ := K
  obtain ⟨R, hPx, hPm, hS, hl⟩ := S
  refine lv_aload_n hx hb dL_law_184 rfl (lv_at hl 2 rfl) ?_
  refine lv_aload_n hx hb dL_law_185 rfl (lv_at hl 1 rfl) ?_
  refine lv_iload_n hx hb dL_law_186 rfl (lv_at hl 0 rfl) ?_
  refine lv_iconst (v := 1) hx hb dL_law_187 (by decide) ?_
  refine lv_iadd hx hb dL_law_188 ?_
  refine va_sld hx hb hX hbl hbA hS h1 dL_law_189 ?_
  refine va_calli (va_runV (As := [.int (xs (Int32.toNatClampNeg (i + 1)))]) (rest := []) ⟨hx, hb, hml, hown, hts⟩ (c_X0_lines l D a hOx X (xs (Int32.toNatClampNeg (i + 1)))) (cwV 1 hts gL_law_X0_lines rfl rfl rfl hdX0_lines ⟨Nat.le_of_ble_eq_true rfl, Nat.le_of_ble_eq_true rfl⟩) (xPreV hKx hPx) rfl rfl hl.1 rfl (lv_room (Nat.le_of_ble_eq_true rfl)) dL_law_190 ⟨Nat.le_of_ble_eq_true rfl, Nat.le_of_ble_eq_true rfl⟩) hS (fun q _ h => hAx q h) (fun q h => hAx q h) (fun rx X1 t H1 locs ht hvm hwx hB hz1 hk1 hS => ?_)
  obtain ⟨hQ, -⟩ := hB
  rw [ht] at hQ
  have hPm := keepM hPm hk1 hdj
  have hPx := hQ
  refine lv_aload_n hx hb dL_law_193 rfl (lv_at hl 3 rfl) ?_
  refine lv_aload_n hx hb dL_law_194 rfl (lv_at hl 1 rfl) ?_
  refine lv_iload_n hx hb dL_law_195 rfl (lv_at hl 0 rfl) ?_
  refine lv_iconst (v := 1) hx hb dL_law_196 (by decide) ?_
  refine lv_iadd hx hb dL_law_197 ?_
  refine va_sld hx hb hX hbl hbA hS h1 dL_law_198 ?_
  refine va_calli (va_runV (As := [.int (xs (Int32.toNatClampNeg (i + 1)))]) (rest := [.int rx]) ⟨hx, hb, hml, hown, hts⟩ (c_X1_lines l D z hOm M (xs (Int32.toNatClampNeg (i + 1)))) (cwV 1 hts gL_law_X1_lines rfl rfl rfl hdX1_lines ⟨Nat.le_of_ble_eq_true rfl, Nat.le_of_ble_eq_true rfl⟩) (mPreV hKm hPm) rfl rfl hl.1 rfl (lv_room (Nat.le_of_ble_eq_true rfl)) dL_law_199 ⟨Nat.le_of_ble_eq_true rfl, Nat.le_of_ble_eq_true rfl⟩) hS (fun q _ h => hAm q h) (fun q h => hAm q h) (fun rm M1 t H1 locs ht hvm hwm hB hz1 hk1 hS => ?_)
  obtain ⟨hQ, -⟩ := hB
  rw [ht] at hQ
  have hPx := keepX hPx hk1 (fun q h1 h2 => hdj q h2 h1)
  have hPm := hQ
  have hq := q_lines R (xs (Int32.toNatClampNeg (i + 1)))
  rw [hwx, hwm] at hq
  obtain ⟨he, hR⟩ := hq
  refine lv_icmp_eq (tgt := 692) hx hb dL_law_202 (by decide) (fun c1 => ?_) (fun c1 => absurd he c1)
  exact J _ _ _ _ _ ⟨hR, hPx, hPm, hS, hl⟩
set_option maxHeartbeats 4000000 in
set_option maxRecDepth 100000 in
theorem lc_read {p : Program} {l : Launch} {e : Env} {s : State} {m : MethodId} {below : List Frame} {meth : Method} {c : Code} {D : va_G} {b L : Nat} {xs : Nat → Int32} {a : XA} {z : MA} (C0 : lw_At p s m meth c b L xs) (K : lwK D s a z) {i : Int32} (h1 : vp_in (i + 1) L) (h2 : vp_in (i + 2) L) (h3 : vp_in (i + 3) L) (h4 : vp_in (i + 4) L) {X : XS} {M : MS} {H : Heap} {locs : List Loc} {ls : Array Slot} (S : lwS D s b a z i X M H locs ls) (J : ∀ (X : XS) (M : MS) (H : Heap) (locs : List Loc) (ls : Array Slot), lwS D s b a z i X M H locs ls → W p l e room_1 s m #[Value.ref b] below meth c H locs 37 1453 (lw_Z below #[Value.ref b] s) (F0 m 692 ls [])) : W p l e room_1 s m #[Value.ref b] below meth c H locs 37 1453 (lw_Z below #[Value.ref b] s) (F0 m 207 ls []) := by
  obtain ⟨hx, hb, hr, hml, hown0, hts0, hX, hbl, hlocks, hgv⟩ := C0
  have hts := fun w h => hts0 w (wsL_law_in w h)
  have hown : s.vm.findClass RL = some m.cls := hown0
  have hbA : ¬ (fun q : Nat => s.heap.size ≤ q) b := Nat.not_le.mpr hbl
  obtain ⟨hKx, hKm, hOx, hOm, hdj, hAx, hAm⟩ := K
  obtain ⟨R, hPx, hPm, hS, hl⟩ := S
  refine lv_aload_n hx hb dL_law_207 rfl (lv_at hl 2 rfl) ?_
  refine lv_aload_n hx hb dL_law_208 rfl (lv_at hl 1 rfl) ?_
  refine lv_iload_n hx hb dL_law_209 rfl (lv_at hl 0 rfl) ?_
  refine lv_iconst (v := 1) hx hb dL_law_210 (by decide) ?_
  refine lv_iadd hx hb dL_law_211 ?_
  refine va_sld hx hb hX hbl hbA hS h1 dL_law_212 ?_
  refine lv_aload_n hx hb dL_law_213 rfl (lv_at hl 1 rfl) ?_
  refine lv_iload_n hx hb dL_law_214 rfl (lv_at hl 0 rfl) ?_
  refine lv_iconst (v := 2) hx hb dL_law_215 (by decide) ?_
  refine lv_iadd hx hb dL_law_216 ?_
  refine va_sld hx hb hX hbl hbA hS h2 dL_law_217 ?_
  refine va_calli (va_runV (As := [.int (xs (Int32.toNatClampNeg (i + 1))), .int (xs (Int32.toNatClampNeg (i + 2)))]) (rest := []) ⟨hx, hb, hml, hown, hts⟩ (c_X0_read l D a hOx X (xs (Int32.toNatClampNeg (i + 1))) (xs (Int32.toNatClampNeg (i + 2))) (RRI R)) (cwV 2 hts gL_law_X0_read rfl rfl rfl hdX0_read ⟨Nat.le_of_ble_eq_true rfl, Nat.le_of_ble_eq_true rfl⟩) (xPreV hKx hPx) rfl rfl hl.1 rfl (lv_room (Nat.le_of_ble_eq_true rfl)) dL_law_218 ⟨Nat.le_of_ble_eq_true rfl, Nat.le_of_ble_eq_true rfl⟩) hS (fun q _ h => hAx q h) (fun q h => hAx q h) (fun rx X1 t H1 locs ht hvm hwx hB hz1 hk1 hS => ?_)
  obtain ⟨hQ, -⟩ := hB
  rw [ht] at hQ
  have hPm := keepM hPm hk1 hdj
  have hPx := hQ
  refine lv_aload_n hx hb dL_law_221 rfl (lv_at hl 3 rfl) ?_
  refine lv_aload_n hx hb dL_law_222 rfl (lv_at hl 1 rfl) ?_
  refine lv_iload_n hx hb dL_law_223 rfl (lv_at hl 0 rfl) ?_
  refine lv_iconst (v := 1) hx hb dL_law_224 (by decide) ?_
  refine lv_iadd hx hb dL_law_225 ?_
  refine va_sld hx hb hX hbl hbA hS h1 dL_law_226 ?_
  refine lv_aload_n hx hb dL_law_227 rfl (lv_at hl 1 rfl) ?_
  refine lv_iload_n hx hb dL_law_228 rfl (lv_at hl 0 rfl) ?_
  refine lv_iconst (v := 2) hx hb dL_law_229 (by decide) ?_
  refine lv_iadd hx hb dL_law_230 ?_
  refine va_sld hx hb hX hbl hbA hS h2 dL_law_231 ?_
  refine va_calli (va_runV (As := [.int (xs (Int32.toNatClampNeg (i + 1))), .int (xs (Int32.toNatClampNeg (i + 2)))]) (rest := [.int rx]) ⟨hx, hb, hml, hown, hts⟩ (c_X1_read l D z hOm M (xs (Int32.toNatClampNeg (i + 1))) (xs (Int32.toNatClampNeg (i + 2))) R.2.2.2.2.2.2.1) (cwV 2 hts gL_law_X1_read rfl rfl rfl hdX1_read ⟨Nat.le_of_ble_eq_true rfl, Nat.le_of_ble_eq_true rfl⟩) (mPreV hKm hPm) rfl rfl hl.1 rfl (lv_room (Nat.le_of_ble_eq_true rfl)) dL_law_232 ⟨Nat.le_of_ble_eq_true rfl, Nat.le_of_ble_eq_true rfl⟩) hS (fun q _ h => hAm q h) (fun q h => hAm q h) (fun rm M1 t H1 locs ht hvm hwm hB hz1 hk1 hS => ?_)
  obtain ⟨hQ, -⟩ := hB
  rw [ht] at hQ
  have hPx := keepX hPx hk1 (fun q h1 h2 => hdj q h2 h1)
  have hPm := hQ
  have hq := q_read R (xs (Int32.toNatClampNeg (i + 1))) (xs (Int32.toNatClampNeg (i + 2)))
  rw [hwx, hwm] at hq
  obtain ⟨he, hR⟩ := hq
  refine lv_icmp_eq (tgt := 692) hx hb dL_law_235 (by decide) (fun c1 => ?_) (fun c1 => absurd he c1)
  exact J _ _ _ _ _ ⟨hR, hPx, hPm, hS, hl⟩
set_option maxHeartbeats 4000000 in
set_option maxRecDepth 100000 in
theorem lc_write {p : Program} {l : Launch} {e : Env} {s : State} {m : MethodId} {below : List Frame} {meth : Method} {c : Code} {D : va_G} {b L : Nat} {xs : Nat → Int32} {a : XA} {z : MA} (C0 : lw_At p s m meth c b L xs) (K : lwK D s a z) {i : Int32} (h1 : vp_in (i + 1) L) (h2 : vp_in (i + 2) L) (h3 : vp_in (i + 3) L) (h4 : vp_in (i + 4) L) {X : XS} {M : MS} {H : Heap} {locs : List Loc} {ls : Array Slot} (S : lwS D s b a z i X M H locs ls) (J : ∀ (X : XS) (M : MS) (H : Heap) (locs : List Loc) (ls : Array Slot), lwS D s b a z i X M H locs ls → W p l e room_1 s m #[Value.ref b] below meth c H locs 37 1453 (lw_Z below #[Value.ref b] s) (F0 m 692 ls [])) : W p l e room_1 s m #[Value.ref b] below meth c H locs 37 1453 (lw_Z below #[Value.ref b] s) (F0 m 240 ls []) := by
  obtain ⟨hx, hb, hr, hml, hown0, hts0, hX, hbl, hlocks, hgv⟩ := C0
  have hts := fun w h => hts0 w (wsL_law_in w h)
  have hown : s.vm.findClass RL = some m.cls := hown0
  have hbA : ¬ (fun q : Nat => s.heap.size ≤ q) b := Nat.not_le.mpr hbl
  obtain ⟨hKx, hKm, hOx, hOm, hdj, hAx, hAm⟩ := K
  obtain ⟨R, hPx, hPm, hS, hl⟩ := S
  refine lv_aload_n hx hb dL_law_240 rfl (lv_at hl 2 rfl) ?_
  refine lv_aload_n hx hb dL_law_241 rfl (lv_at hl 1 rfl) ?_
  refine lv_iload_n hx hb dL_law_242 rfl (lv_at hl 0 rfl) ?_
  refine lv_iconst (v := 1) hx hb dL_law_243 (by decide) ?_
  refine lv_iadd hx hb dL_law_244 ?_
  refine va_sld hx hb hX hbl hbA hS h1 dL_law_245 ?_
  refine lv_aload_n hx hb dL_law_246 rfl (lv_at hl 1 rfl) ?_
  refine lv_iload_n hx hb dL_law_247 rfl (lv_at hl 0 rfl) ?_
  refine lv_iconst (v := 2) hx hb dL_law_248 (by decide) ?_
  refine lv_iadd hx hb dL_law_249 ?_
  refine va_sld hx hb hX hbl hbA hS h2 dL_law_250 ?_
  refine lv_aload_n hx hb dL_law_251 rfl (lv_at hl 1 rfl) ?_
  refine lv_iload_n hx hb dL_law_252 rfl (lv_at hl 0 rfl) ?_
  refine lv_iconst (v := 3) hx hb dL_law_253 (by decide) ?_
  refine lv_iadd hx hb dL_law_254 ?_
  refine va_sld hx hb hX hbl hbA hS h3 dL_law_255 ?_
  refine va_calli (va_runV (As := [.int (xs (Int32.toNatClampNeg (i + 1))), .int (xs (Int32.toNatClampNeg (i + 2))), .int (xs (Int32.toNatClampNeg (i + 3)))]) (rest := []) ⟨hx, hb, hml, hown, hts⟩ (c_X0_write l D a hOx X (xs (Int32.toNatClampNeg (i + 1))) (xs (Int32.toNatClampNeg (i + 2))) (xs (Int32.toNatClampNeg (i + 3))) (RRI R)) (cwV 3 hts gL_law_X0_write rfl rfl rfl hdX0_write ⟨Nat.le_of_ble_eq_true rfl, Nat.le_of_ble_eq_true rfl⟩) (xPreV hKx hPx) rfl rfl hl.1 rfl (lv_room (Nat.le_of_ble_eq_true rfl)) dL_law_256 ⟨Nat.le_of_ble_eq_true rfl, Nat.le_of_ble_eq_true rfl⟩) hS (fun q _ h => hAx q h) (fun q h => hAx q h) (fun rx X1 t H1 locs ht hvm hwx hB hz1 hk1 hS => ?_)
  obtain ⟨hQ, -⟩ := hB
  rw [ht] at hQ
  have hPm := keepM hPm hk1 hdj
  have hPx := hQ
  refine lv_aload_n hx hb dL_law_259 rfl (lv_at hl 3 rfl) ?_
  refine lv_aload_n hx hb dL_law_260 rfl (lv_at hl 1 rfl) ?_
  refine lv_iload_n hx hb dL_law_261 rfl (lv_at hl 0 rfl) ?_
  refine lv_iconst (v := 1) hx hb dL_law_262 (by decide) ?_
  refine lv_iadd hx hb dL_law_263 ?_
  refine va_sld hx hb hX hbl hbA hS h1 dL_law_264 ?_
  refine lv_aload_n hx hb dL_law_265 rfl (lv_at hl 1 rfl) ?_
  refine lv_iload_n hx hb dL_law_266 rfl (lv_at hl 0 rfl) ?_
  refine lv_iconst (v := 2) hx hb dL_law_267 (by decide) ?_
  refine lv_iadd hx hb dL_law_268 ?_
  refine va_sld hx hb hX hbl hbA hS h2 dL_law_269 ?_
  refine lv_aload_n hx hb dL_law_270 rfl (lv_at hl 1 rfl) ?_
  refine lv_iload_n hx hb dL_law_271 rfl (lv_at hl 0 rfl) ?_
  refine lv_iconst (v := 3) hx hb dL_law_272 (by decide) ?_
  refine lv_iadd hx hb dL_law_273 ?_
  refine va_sld hx hb hX hbl hbA hS h3 dL_law_274 ?_
  refine va_calli (va_runV (As := [.int (xs (Int32.toNatClampNeg (i + 1))), .int (xs (Int32.toNatClampNeg (i + 2))), .int (xs (Int32.toNatClampNeg (i + 3)))]) (rest := [.int rx]) ⟨hx, hb, hml, hown, hts⟩ (c_X1_write l D z hOm M (xs (Int32.toNatClampNeg (i + 1))) (xs (Int32.toNatClampNeg (i + 2))) (xs (Int32.toNatClampNeg (i + 3))) R.2.2.2.2.2.2.1) (cwV 3 hts gL_law_X1_write rfl rfl rfl hdX1_write ⟨Nat.le_of_ble_eq_true rfl, Nat.le_of_ble_eq_true rfl⟩) (mPreV hKm hPm) rfl rfl hl.1 rfl (lv_room (Nat.le_of_ble_eq_true rfl)) dL_law_275 ⟨Nat.le_of_ble_eq_true rfl, Nat.le_of_ble_eq_true rfl⟩) hS (fun q _ h => hAm q h) (fun q h => hAm q h) (fun rm M1 t H1 locs ht hvm hwm hB hz1 hk1 hS => ?_)
  obtain ⟨hQ, -⟩ := hB
  rw [ht] at hQ
  have hPx := keepX hPx hk1 (fun q h1 h2 => hdj q h2 h1)
  have hPm := hQ
  have hq := q_write R (xs (Int32.toNatClampNeg (i + 1))) (xs (Int32.toNatClampNeg (i + 2))) (xs (Int32.toNatClampNeg (i + 3)))
  rw [hwx, hwm] at hq
  obtain ⟨he, hR⟩ := hq
  refine lv_icmp_eq (tgt := 692) hx hb dL_law_278 (by decide) (fun c1 => ?_) (fun c1 => absurd he c1)
  exact J _ _ _ _ _ ⟨hR, hPx, hPm, hS, hl⟩
set_option maxHeartbeats 4000000 in
set_option maxRecDepth 100000 in
theorem lc_change {p : Program} {l : Launch} {e : Env} {s : State} {m : MethodId} {below : List Frame} {meth : Method} {c : Code} {D : va_G} {b L : Nat} {xs : Nat → Int32} {a : XA} {z : MA} (C0 : lw_At p s m meth c b L xs) (K : lwK D s a z) {i : Int32} (h1 : vp_in (i + 1) L) (h2 : vp_in (i + 2) L) (h3 : vp_in (i + 3) L) (h4 : vp_in (i + 4) L) {X : XS} {M : MS} {H : Heap} {locs : List Loc} {ls : Array Slot} (S : lwS D s b a z i X M H locs ls) (J : ∀ (X : XS) (M : MS) (H : Heap) (locs : List Loc) (ls : Array Slot), lwS D s b a z i X M H locs ls → W p l e room_1 s m #[Value.ref b] below meth c H locs 37 1453 (lw_Z below #[Value.ref b] s) (F0 m 692 ls [])) : W p l e room_1 s m #[Value.ref b] below meth c H locs 37 1453 (lw_Z below #[Value.ref b] s) (F0 m 283 ls []) := by
  obtain ⟨hx, hb, hr, hml, hown0, hts0, hX, hbl, hlocks, hgv⟩ := C0
  have hts := fun w h => hts0 w (wsL_law_in w h)
  have hown : s.vm.findClass RL = some m.cls := hown0
  have hbA : ¬ (fun q : Nat => s.heap.size ≤ q) b := Nat.not_le.mpr hbl
  obtain ⟨hKx, hKm, hOx, hOm, hdj, hAx, hAm⟩ := K
  obtain ⟨R, hPx, hPm, hS, hl⟩ := S
  refine lv_aload_n hx hb dL_law_283 rfl (lv_at hl 2 rfl) ?_
  refine lv_aload_n hx hb dL_law_284 rfl (lv_at hl 1 rfl) ?_
  refine lv_iload_n hx hb dL_law_285 rfl (lv_at hl 0 rfl) ?_
  refine lv_iconst (v := 1) hx hb dL_law_286 (by decide) ?_
  refine lv_iadd hx hb dL_law_287 ?_
  refine va_sld hx hb hX hbl hbA hS h1 dL_law_288 ?_
  refine lv_aload_n hx hb dL_law_289 rfl (lv_at hl 1 rfl) ?_
  refine lv_iload_n hx hb dL_law_290 rfl (lv_at hl 0 rfl) ?_
  refine lv_iconst (v := 2) hx hb dL_law_291 (by decide) ?_
  refine lv_iadd hx hb dL_law_292 ?_
  refine va_sld hx hb hX hbl hbA hS h2 dL_law_293 ?_
  refine lv_aload_n hx hb dL_law_294 rfl (lv_at hl 1 rfl) ?_
  refine lv_iload_n hx hb dL_law_295 rfl (lv_at hl 0 rfl) ?_
  refine lv_iconst (v := 3) hx hb dL_law_296 (by decide) ?_
  refine lv_iadd hx hb dL_law_297 ?_
  refine va_sld hx hb hX hbl hbA hS h3 dL_law_298 ?_
  refine lv_aload_n hx hb dL_law_299 rfl (lv_at hl 1 rfl) ?_
  refine lv_iload_n hx hb dL_law_300 rfl (lv_at hl 0 rfl) ?_
  refine lv_iconst (v := 4) hx hb dL_law_301 (by decide) ?_
  refine lv_iadd hx hb dL_law_302 ?_
  refine va_sld hx hb hX hbl hbA hS h4 dL_law_303 ?_
  refine va_calli (va_runV (As := [.int (xs (Int32.toNatClampNeg (i + 1))), .int (xs (Int32.toNatClampNeg (i + 2))), .int (xs (Int32.toNatClampNeg (i + 3))), .int (xs (Int32.toNatClampNeg (i + 4)))]) (rest := []) ⟨hx, hb, hml, hown, hts⟩ (c_X0_change l D a hOx X (xs (Int32.toNatClampNeg (i + 1))) (xs (Int32.toNatClampNeg (i + 2))) (xs (Int32.toNatClampNeg (i + 3))) (xs (Int32.toNatClampNeg (i + 4))) (RRI R)) (cwV 4 hts gL_law_X0_change rfl rfl rfl hdX0_change ⟨Nat.le_of_ble_eq_true rfl, Nat.le_of_ble_eq_true rfl⟩) (xPreV hKx hPx) rfl rfl hl.1 rfl (lv_room (Nat.le_of_ble_eq_true rfl)) dL_law_304 ⟨Nat.le_of_ble_eq_true rfl, Nat.le_of_ble_eq_true rfl⟩) hS (fun q _ h => hAx q h) (fun q h => hAx q h) (fun rx X1 t H1 locs ht hvm hwx hB hz1 hk1 hS => ?_)
  obtain ⟨hQ, -⟩ := hB
  rw [ht] at hQ
  have hPm := keepM hPm hk1 hdj
  have hPx := hQ
  refine lv_aload_n hx hb dL_law_307 rfl (lv_at hl 3 rfl) ?_
  refine lv_aload_n hx hb dL_law_308 rfl (lv_at hl 1 rfl) ?_
  refine lv_iload_n hx hb dL_law_309 rfl (lv_at hl 0 rfl) ?_
  refine lv_iconst (v := 1) hx hb dL_law_310 (by decide) ?_
  refine lv_iadd hx hb dL_law_311 ?_
  refine va_sld hx hb hX hbl hbA hS h1 dL_law_312 ?_
  refine lv_aload_n hx hb dL_law_313 rfl (lv_at hl 1 rfl) ?_
  refine lv_iload_n hx hb dL_law_314 rfl (lv_at hl 0 rfl) ?_
  refine lv_iconst (v := 2) hx hb dL_law_315 (by decide) ?_
  refine lv_iadd hx hb dL_law_316 ?_
  refine va_sld hx hb hX hbl hbA hS h2 dL_law_317 ?_
  refine lv_aload_n hx hb dL_law_318 rfl (lv_at hl 1 rfl) ?_
  refine lv_iload_n hx hb dL_law_319 rfl (lv_at hl 0 rfl) ?_
  refine lv_iconst (v := 3) hx hb dL_law_320 (by decide) ?_
  refine lv_iadd hx hb dL_law_321 ?_
  refine va_sld hx hb hX hbl hbA hS h3 dL_law_322 ?_
  refine lv_aload_n hx hb dL_law_323 rfl (lv_at hl 1 rfl) ?_
  refine lv_iload_n hx hb dL_law_324 rfl (lv_at hl 0 rfl) ?_
  refine lv_iconst (v := 4) hx hb dL_law_325 (by decide) ?_
  refine lv_iadd hx hb dL_law_326 ?_
  refine va_sld hx hb hX hbl hbA hS h4 dL_law_327 ?_
  refine va_calli (va_runV (As := [.int (xs (Int32.toNatClampNeg (i + 1))), .int (xs (Int32.toNatClampNeg (i + 2))), .int (xs (Int32.toNatClampNeg (i + 3))), .int (xs (Int32.toNatClampNeg (i + 4)))]) (rest := [.int rx]) ⟨hx, hb, hml, hown, hts⟩ (c_X1_change l D z hOm M (xs (Int32.toNatClampNeg (i + 1))) (xs (Int32.toNatClampNeg (i + 2))) (xs (Int32.toNatClampNeg (i + 3))) (xs (Int32.toNatClampNeg (i + 4))) R.2.2.2.2.2.2.1) (cwV 4 hts gL_law_X1_change rfl rfl rfl hdX1_change ⟨Nat.le_of_ble_eq_true rfl, Nat.le_of_ble_eq_true rfl⟩) (mPreV hKm hPm) rfl rfl hl.1 rfl (lv_room (Nat.le_of_ble_eq_true rfl)) dL_law_328 ⟨Nat.le_of_ble_eq_true rfl, Nat.le_of_ble_eq_true rfl⟩) hS (fun q _ h => hAm q h) (fun q h => hAm q h) (fun rm M1 t H1 locs ht hvm hwm hB hz1 hk1 hS => ?_)
  obtain ⟨hQ, -⟩ := hB
  rw [ht] at hQ
  have hPx := keepX hPx hk1 (fun q h1 h2 => hdj q h2 h1)
  have hPm := hQ
  have hq := q_change R (xs (Int32.toNatClampNeg (i + 1))) (xs (Int32.toNatClampNeg (i + 2))) (xs (Int32.toNatClampNeg (i + 3))) (xs (Int32.toNatClampNeg (i + 4)))
  rw [hwx, hwm] at hq
  obtain ⟨he, hR⟩ := hq
  refine lv_icmp_eq (tgt := 692) hx hb dL_law_331 (by decide) (fun c1 => ?_) (fun c1 => absurd he c1)
  exact J _ _ _ _ _ ⟨hR, hPx, hPm, hS, hl⟩
