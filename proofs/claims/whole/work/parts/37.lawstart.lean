set_option maxHeartbeats 4000000 in
set_option maxRecDepth 100000 in
/-- THE LAW, from its entry -/
theorem whole_start {p : Program} {e : Env} {s : State} {m : MethodId} {below : List Frame} {meth : Method} {c : Code} (l : Launch) {b L : Nat} {xs : Nat → Int32} (hL : L ≤ 2561) (C0 : lw_At p s m meth c b L xs) : W p l e room_1 s m #[Value.ref b] below meth c s.heap [] 0 0 (lw_Z below #[Value.ref b] s) (entryFrame m ([Value.ref b] : List Value).toArray 4) := by
  obtain ⟨hx, hb, hr, hml, hown0, hts0, hX, hbl, hlocks, hgv⟩ := id C0
  have hts := fun w h => hts0 w (wsL_law_in w h)
  have hown : s.vm.findClass RL = some m.cls := hown0
  have hA : ∀ q : Nat, s.heap.size ≤ q → (fun q : Nat => s.heap.size ≤ q) q := fun _ h => h
  have hbA : ¬ (fun q : Nat => s.heap.size ≤ q) b := Nat.not_le.mpr hbl
  have hAOA : va_AOA .int s := hts0 (.arrayOver (.array .int)) (by decide +kernel)
  obtain ⟨c0, iS0, hKn0⟩ := u_known (C := RX0) (T := TX0) (N := 10) (n := 10) hts0 inX0 (hts (.instantiable RX0 10) (by decide +kernel))
  obtain ⟨c1, iS1, hKn1⟩ := u_known (C := RX1) (T := TX1) (N := 12) (n := 12) hts0 inX1 (hts (.instantiable RX1 12) (by decide +kernel))
  obtain ⟨D, hKc⟩ : ∃ D : va_G, ∀ (k : Nat) (q : vw_C), vwCl[k]? = some q → u_Kn s q.1 q.2.1 q.2.2 (D.1 k) (D.2 k) := by
    refine ⟨(fun k => if k = 0 then c0 else c1, fun k => if k = 0 then iS0 else iS1), ?_⟩
    intro k q hq
    match k, hq with
    | 0, hq => cases hq; exact hKn0
    | 1, hq => cases hq; exact hKn1
    | k + 2, hq => simp [vwCl] at hq
  have hS : va_S (fun q : Nat => s.heap.size ≤ q) s.heap s.heap [] := va_S.rf
  have hK : va_K D vwCl [] s := ⟨hKc, fun k q h => by simp at h⟩
  have hP : va_P D vwCl [] s.heap := fun k q h => by simp at h
  have hD : va_D (fun q : Nat => s.heap.size ≤ q) [] := ⟨fun i j p q h => by simp at h, fun k q h => by simp at h⟩
  have hl := lv_entry ([.ref b]) (n := 4) (Nat.le_of_ble_eq_true rfl)
  rw [lg_entry_eq]
  generalize (lg_sl ([.ref b]) ++ List.replicate (4 - (lg_sl ([.ref b])).length) Slot.unset).toArray = ls at hl ⊢
  have hl : lv_has ls 4 [(0, .ref b)] := hl
  refine va_new (D := D) (ci := 0) (fs := xZ) (C := RX0) (T := TX0) (N := 10) hx hb hts0 inX0 tyX0 tyX0_ok hown (hts (.classLink RL 7 RX0) (by decide +kernel)) (hts (.instantiable RX0 10) (by decide +kernel)) (hts (.initialized RX0) (by decide +kernel)) hK hP hD hS hA rfl (fun j hj => by rcases (show j = 0 ∨ j = 1 ∨ j = 2 ∨ j = 3 ∨ j = 4 ∨ j = 5 ∨ j = 6 ∨ j = 7 ∨ j = 8 ∨ j = 9 by omega) with rfl | rfl | rfl | rfl | rfl | rfl | rfl | rfl | rfl | rfl <;> rfl) (Nat.le_of_ble_eq_true rfl) (Nat.le_of_ble_eq_true rfl) dL_law_0 (fun q0 H hP hD hS => ?_)
  have hP : va_P D vwCl [(q0, .inr (0, xZ))] H := hP
  have hq0 : s.heap.size ≤ q0 := hD.2 0 _ rfl
  refine W.widen (k := 1) (n := 10) (by decide) (by decide) ?_
  refine lv_dup hx hb dL_law_3 rfl ?_
  refine lv_aload_n hx hb dL_law_4 rfl (lv_at hl 0 rfl) ?_
  refine lv_iconst (v := 0) hx hb dL_law_5 (by decide) ?_
  have hXH : va_X b L xs s H := hX.kept (hS.2.1 b hbl hbA)
  refine va_calli (va_runS (As := [.ref b, .int 0]) (rest := [.ref q0, .ref q0]) ⟨hx, hb, hml, hown, hts⟩ (c_L_cell l b L xs (by omega) 0 (by decide)) (va_cwS 2 hts gL_law_L_cell rfl rfl rfl hdL_cell ⟨Nat.le_of_ble_eq_true rfl, Nat.le_of_ble_eq_true rfl⟩) ⟨fun a U g mk h => ⟨h.1, va_X.moved (Vm.Alike.refl U.vm) h.2⟩, fun U hU hW => ⟨rfl, by show va_X b L xs U U.heap; rw [hU]; exact va_X.moved hW.alike hXH⟩⟩ rfl rfl hl.1 rfl (lv_room (Nat.le_of_ble_eq_true rfl)) dL_law_6 ⟨Nat.le_of_ble_eq_true rfl, Nat.le_of_ble_eq_true rfl⟩) hS (fun q _ h => h.elim) (fun q h => h.elim) (fun v u1 t H1 locs ht hvm hv hB hz1 hk1 hS => ?_)
  have hP := P_kept hP hk1
  refine va_callv (va_runI (As := [.int v]) (rest := [.ref q0]) ⟨hx, hb, hml, hown, hts⟩ (c_X0_init l D q0 H1.size v) (cwI 1 hts gL_law_X0_init rfl rfl rfl (hts (.initialized RX0) (by decide +kernel)) (hts (.methodLink RL 15 yX0_init) (by decide +kernel)) (hts (.instanceMethod yX0_init) (by decide +kernel)) rfl (by decide +kernel) ⟨Nat.le_of_ble_eq_true rfl, Nat.le_of_ble_eq_true rfl⟩) ⟨fun a U g mk h => ⟨h.1, h.2.1, va_AOA.moved (u := U) (U := U.calling g mk a) (Vm.Alike.refl U.vm) h.2.2.1, h.2.2.2.1, va_K.moved (u := U) (U := U.calling g mk a) (Vm.Alike.refl U.vm) h.2.2.2.2⟩, fun U hU hW => ⟨rfl, by rw [hU], va_AOA.moved hW.alike hAOA, by rw [hU]; exact hP, va_K.moved hW.alike hK⟩⟩ rfl rfl hl.1 rfl (lv_room (Nat.le_of_ble_eq_true rfl)) dL_law_9 ⟨Nat.le_of_ble_eq_true rfl, Nat.le_of_ble_eq_true rfl⟩) hS (fun q _ h => h.elim (fun e9 => by rw [e9]; exact hq0) (fun e9 => Nat.le_trans hS.1 e9)) (fun q h => h.elim (fun e9 => by rw [e9]; exact hq0) (fun e9 => Nat.le_trans hS.1 e9)) (fun a t2 H2 locs ht2 hvm2 hw hB2 hz2 hk2 hS2 => ?_)
  obtain ⟨ea, hOx, hAx0⟩ := hw
  obtain ⟨hPx, hKx⟩ := hB2
  rw [ht2] at hPx
  have hKx : va_K D vwCl (xT a) s := va_K.moved hvm2.symm hKx
  have hAx : ∀ q, xA a q → s.heap.size ≤ q := fun q h => (hAx0 q h).elim (fun e9 => by rw [e9]; exact hq0) (fun e9 => Nat.le_trans hS.1 e9)
  have hDx : va_D (fun q : Nat => s.heap.size ≤ q) (xW a (xF_init v)) := (xD hOx (xF_init v)).weaken (fun _ q _ h => hAx _ h)
  refine W.widen (k := 33) (n := 740) (by decide) (by decide) ?_
  refine lv_astore_n (lv' := [(1, .ref q0), (0, .ref b)]) hx hb dL_law_12 rfl hl (by decide) rfl (fun ls hl => ?_)
  refine va_new (D := D) (ci := 1) (fs := mZ) (C := RX1) (T := TX1) (N := 12) hx hb hts0 inX1 tyX1 tyX1_ok hown (hts (.classLink RL 18 RX1) (by decide +kernel)) (hts (.instantiable RX1 12) (by decide +kernel)) (hts (.initialized RX1) (by decide +kernel)) hKx hPx hDx hS2 hA rfl (fun j hj => by rcases (show j = 0 ∨ j = 1 ∨ j = 2 ∨ j = 3 ∨ j = 4 ∨ j = 5 ∨ j = 6 ∨ j = 7 ∨ j = 8 ∨ j = 9 ∨ j = 10 ∨ j = 11 by omega) with rfl | rfl | rfl | rfl | rfl | rfl | rfl | rfl | rfl | rfl | rfl | rfl <;> rfl) (Nat.le_of_ble_eq_true rfl) (Nat.le_of_ble_eq_true rfl) dL_law_13 (fun q2 H3 hP3 hD3 hS3 => ?_)
  have hl2 : (xW a (xF_init v)).length = 33 := by
    show (List.length (_ :: _ :: _ :: _ :: (xRows _ 5 _ _ ++ xRows _ 24 _ _))) = 33
    simp only [List.length_cons, List.length_append, xRows_len]
  have hPx : va_P D vwCl (xW a (xF_init v)) H3 := fun k q hk => hP3 k q (by rw [List.getElem?_append_left (List.getElem?_eq_some_iff.mp hk).1]; exact hk)
  have hg2 : (xW a (xF_init v) ++ [(q2, .inr (1, mZ))])[33]? = some (q2, .inr (1, mZ)) := by
    rw [List.getElem?_append_right (by rw [hl2]; exact Nat.le_refl 33), hl2]; rfl
  have hP2 : va_P D vwCl [(q2, .inr (1, mZ))] H3 := fun k q hk => by
    have h1 : k < 1 := (List.getElem?_eq_some_iff.mp hk).1
    rw [show k = 0 by omega] at hk
    cases hk
    exact hP3 33 _ hg2
  have hq2 : s.heap.size ≤ q2 := hD3.2 33 _ hg2
  have hne2 : ∀ q, xA a q → ¬ q = q2 := fun q h e9 => by
    have h : q ∈ xL a := h
    rw [← xW_addr a (xF_init v)] at h
    obtain ⟨x, hx9, rfl⟩ := List.mem_map.mp h
    obtain ⟨k, hk⟩ := List.getElem?_of_mem hx9
    have hlt := (List.getElem?_eq_some_iff.mp hk).1
    have := hD3.1 k 33 x _ (by rw [List.getElem?_append_left hlt]; exact hk) hg2 e9
    omega
  have hlt2 : ∀ q, xA a q → q < H3.size := fun q h => by
    have h : q ∈ xL a := h
    rw [← xW_addr a (xF_init v)] at h
    obtain ⟨x, hx9, rfl⟩ := List.mem_map.mp h
    obtain ⟨k, hk⟩ := List.getElem?_of_mem hx9
    exact (hPx k x hk).lt
  refine W.widen (k := 34) (n := 752) (by decide) (by decide) ?_
  refine lv_dup hx hb dL_law_16 rfl ?_
  refine lv_aload_n hx hb dL_law_17 rfl (lv_at hl 1 rfl) ?_
  refine lv_iconst (v := 0) hx hb dL_law_18 (by decide) ?_
  have hXH : va_X b L xs s H3 := hX.kept (hS3.2.1 b hbl hbA)
  refine va_calli (va_runS (As := [.ref b, .int 0]) (rest := [.ref q2, .ref q2]) ⟨hx, hb, hml, hown, hts⟩ (c_L_cell l b L xs (by omega) 0 (by decide)) (va_cwS 2 hts gL_law_L_cell rfl rfl rfl hdL_cell ⟨Nat.le_of_ble_eq_true rfl, Nat.le_of_ble_eq_true rfl⟩) ⟨fun a U g mk h => ⟨h.1, va_X.moved (Vm.Alike.refl U.vm) h.2⟩, fun U hU hW => ⟨rfl, by show va_X b L xs U U.heap; rw [hU]; exact va_X.moved hW.alike hXH⟩⟩ rfl rfl hl.1 rfl (lv_room (Nat.le_of_ble_eq_true rfl)) dL_law_19 ⟨Nat.le_of_ble_eq_true rfl, Nat.le_of_ble_eq_true rfl⟩) hS3 (fun q _ h => h.elim) (fun q h => h.elim) (fun v2 u2 t4 H4 locs ht4 hvm4 hv2 hB4 hz4 hk4 hS4 => ?_)
  have ev : v2 = v := hv2.trans hv.symm
  subst ev
  have hPx := P_kept hPx hk4
  have hP2 := P_kept hP2 hk4
  refine va_callv (va_runI (As := [.int v2]) (rest := [.ref q2]) ⟨hx, hb, hml, hown, hts⟩ (c_X1_init l D q2 H4.size v2) (cwI 1 hts gL_law_X1_init rfl rfl rfl (hts (.initialized RX1) (by decide +kernel)) (hts (.methodLink RL 20 yX1_init) (by decide +kernel)) (hts (.instanceMethod yX1_init) (by decide +kernel)) rfl (by decide +kernel) ⟨Nat.le_of_ble_eq_true rfl, Nat.le_of_ble_eq_true rfl⟩) ⟨fun a U g mk h => ⟨h.1, h.2.1, h.2.2.1, va_K.moved (u := U) (U := U.calling g mk a) (Vm.Alike.refl U.vm) h.2.2.2⟩, fun U hU hW => ⟨rfl, by rw [hU], by rw [hU]; exact hP2, va_K.moved hW.alike hK⟩⟩ rfl rfl hl.1 rfl (lv_room (Nat.le_of_ble_eq_true rfl)) dL_law_22 ⟨Nat.le_of_ble_eq_true rfl, Nat.le_of_ble_eq_true rfl⟩) hS4 (fun q _ h => h.elim (fun e9 => by rw [e9]; exact hq2) (fun e9 => Nat.le_trans hS4.1 e9)) (fun q h => h.elim (fun e9 => by rw [e9]; exact hq2) (fun e9 => Nat.le_trans hS4.1 e9)) (fun z t5 H5 locs ht5 hvm5 hw5 hB5 hz5 hk5 hS5 => ?_)
  obtain ⟨ez, hOm, hAm0⟩ := hw5
  obtain ⟨hPm, hKm⟩ := hB5
  rw [ht5] at hPm
  have hKm : va_K D vwCl (mT z) s := va_K.moved hvm5.symm hKm
  have hAm : ∀ q, mA z q → s.heap.size ≤ q := fun q h => (hAm0 q h).elim (fun e9 => by rw [e9]; exact hq2) (fun e9 => Nat.le_trans hS4.1 e9)
  have hdj : ∀ q, xA a q → iA q2 H4.size q → False := fun q h1 h2 => h2.elim (hne2 q h1) (fun e9 => by have := hlt2 q h1; omega)
  have hPx := keepX hPx hk5 (fun q h1 h2 => hdj q h2 h1)
  refine W.widen (k := 37) (n := 1453) (by decide) (by decide) ?_
  refine lv_astore_n (lv' := [(2, .ref q2), (1, .ref q0), (0, .ref b)]) hx hb dL_law_25 rfl hl (by decide) rfl (fun ls hl => ?_)
  refine lv_iconst (v := 1) hx hb dL_law_26 (by decide) ?_
  refine lv_istore_n (lv' := [(3, .int 1), (2, .ref q2), (1, .ref q0), (0, .ref b)]) hx hb dL_law_27 rfl hl (by decide) rfl (fun ls hl => ?_)
  have hl : lv_has ls 4 [(3, .int 1), (0, .ref b), (1, .ref (xa a)), (2, .ref (ma z))] := by
    rw [ea, ez]
    exact lv_sub hl [0, 3, 2, 1] rfl
  exact law_loop hL C0 ⟨hKx, hKm, hOx, hOm, fun q h1 h2 => hdj q h1 (hAm0 q h2), hAx, hAm⟩ (L + 1) 1 1 (by omega) (by omega) (by decide) (xF_init v2) (mF_init v2) H5 _ ls ⟨RR_init v2, hPx, hPm, hS5, hl⟩
