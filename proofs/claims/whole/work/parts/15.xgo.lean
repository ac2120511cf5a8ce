def xF_leave (S : XS) (p1 : Int32) : Int32 × XS := (let q1 := xF_put S 2 p1 0; (let q3 := xF_put q1 0 p1 0; ((xh S 2 p1), q3)))
theorem hdX0_leave : yX0_leave.cls = RX0 ∧ yX0_leave.cls ≠ "java/lang/invoke/MethodHandle" ∧ yX0_leave.cls ≠ "java/lang/invoke/VarHandle" ∧ (parseMethodDescriptor yX0_leave.desc).map (fun d => d.parameters.length) = some 1 := by decide +kernel
set_option maxHeartbeats 4000000 in
set_option maxRecDepth 100000 in
theorem c_X0_leave (l : Launch) (D : va_G) (a : XA) (hO : xOk a) (S : XS) (p1 : Int32) (h24_0 : vp_in p1 24) : Met l yX0_leave wsX0_leave ({ frames := 4, cells := 0, slots := 0, locals := 86 }) (va_Pc [.ref (xa a), .int p1] (xB D a S)) (xQi D a (xF_leave S p1)) 0 0 (xA a) := by
  refine Met.ofW (cc := cX0_leave) (maxL := 3) (ret := (some .int)) (by decide) rfl ?_
  intro p e s m args below meth c s₁ B hml hv
  obtain ⟨rfl, hP, hK⟩ := hv
  have hx := B.exec
  have hb := B.bytes
  have hr := B.returns
  have hts := atoms_spec (ws := wsX0_leave) B.pre
  have hown : s.vm.findClass RX0 = some m.cls := findClass_of_methodNamed B.named
  have hlocks := B.notSynchronized
  have hS : va_S (xA a) s.heap s.heap [] := va_S.rf
  have hP : va_P D vwCl (xW a S) s.heap := hP
  have hu : ∀ w ∈ wsX00, w ∈ wsX0_leave := fun _ h => List.mem_cons_of_mem _ (List.mem_append_right _ h)
  have hf15 := hts (.fieldLink RX0 15 "FlightBooks" "held" "[[I") (by decide +kernel)
  have hl := lv_entry ([.ref (xa a), .int p1]) (n := 3) (Nat.le_of_ble_eq_true rfl)
  rw [lg_entry_eq]
  generalize (lg_sl ([.ref (xa a), .int p1]) ++ List.replicate (3 - (lg_sl ([.ref (xa a), .int p1])).length) Slot.unset).toArray = ls at hl ⊢
  have hl : lv_has ls 3 [(0, .ref (xa a)), (1, .int p1)] := hl
  refine lv_aload_n hx hb dX0_leave_0 rfl (lv_at hl 0 rfl) ?_
  refine x_get hx hb hts hu hown hK hP 2 (by decide) hf15 rfl (v := .ref (xah a)) rfl dX0_leave_1 ?_
  refine lv_iconst (v := 2) hx hb dX0_leave_4 (by decide) ?_
  refine x_aldh hx hb hK hP vp_k2_5 dX0_leave_5 ?_
  refine lv_iload_n hx hb dX0_leave_6 rfl (lv_at hl 1 rfl) ?_
  refine x_ldh hx hb hK hP vp_k2_5 h24_0 dX0_leave_7 ?_
  refine lv_istore_n (lv' := [(2, .int (xh S 2 p1)), (0, .ref (xa a)), (1, .int p1)]) hx hb dX0_leave_8 rfl hl (by decide) rfl (fun ls hl => ?_)
  refine lv_aload_n hx hb dX0_leave_9 rfl (lv_at hl 1 rfl) ?_
  refine lv_iconst (v := 2) hx hb dX0_leave_10 (by decide) ?_
  refine lv_iload_n hx hb dX0_leave_11 rfl (lv_at hl 2 rfl) ?_
  refine lv_iconst (v := 0) hx hb dX0_leave_12 (by decide) ?_
  refine va_callv (va_runV (As := [.int 2, .int p1, .int 0]) (rest := []) ⟨hx, hb, hml, hown, hts⟩ (c_X0_put l D a hO S 2 p1 0 vp_k2_5 h24_0) (cwV 3 hts gX0_leave_X0_put rfl rfl rfl hdX0_put ⟨Nat.le_of_ble_eq_true rfl, Nat.le_of_ble_eq_true rfl⟩) (xPreV hK hP) rfl rfl hl.1 rfl (lv_room (Nat.le_of_ble_eq_true rfl)) dX0_leave_13 ⟨Nat.zero_le _, Nat.zero_le _⟩) hS (fun q _ h => h) (fun q h => h) (fun S1 t H1 locs ht hvm hw1 hB hz1 hk1 hS => ?_)
  obtain ⟨hP, -⟩ := hB
  rw [ht] at hP
  refine lv_aload_n hx hb dX0_leave_16 rfl (lv_at hl 1 rfl) ?_
  refine lv_iconst (v := 0) hx hb dX0_leave_17 (by decide) ?_
  refine lv_iload_n hx hb dX0_leave_18 rfl (lv_at hl 2 rfl) ?_
  refine lv_iconst (v := 0) hx hb dX0_leave_19 (by decide) ?_
  refine va_callv (va_runV (As := [.int 0, .int p1, .int 0]) (rest := []) ⟨hx, hb, hml, hown, hts⟩ (c_X0_put l D a hO S1 0 p1 0 vp_k0_5 h24_0) (cwV 3 hts gX0_leave_X0_put rfl rfl rfl hdX0_put ⟨Nat.le_of_ble_eq_true rfl, Nat.le_of_ble_eq_true rfl⟩) (xPreV hK hP) rfl rfl hl.1 rfl (lv_room (Nat.le_of_ble_eq_true rfl)) dX0_leave_20 ⟨Nat.zero_le _, Nat.zero_le _⟩) hS (fun q _ h => h) (fun q h => h) (fun S3 t H1 locs ht hvm hw3 hB hz1 hk1 hS => ?_)
  obtain ⟨hP, -⟩ := hB
  rw [ht] at hP
  refine lv_iload_n hx hb dX0_leave_23 rfl (lv_at hl 0 rfl) ?_
  exact W.iret (v := (xh S 2 p1)) hx hb hr (fun t ht hW => ⟨⟨(xh S 2 p1), S3, rfl, (by simp only [xF_leave, hw1, hw3]), by rw [ht]; exact hP, va_K.moved hW.alike hK⟩, hS.F ht⟩) hS.2.2 dX0_leave_24
def xF_goOut (S : XS) (p1 : Int32) : Int32 × XS := (let q1 := xF_endsAtLine S 2 p1; (if q1.1 = 0 then (let q5 := xF_leave (xsEo (xsBo q1.2 ((xBo q1.2) + 1)) ((xEo (xsBo q1.2 ((xBo q1.2) + 1))) + (xh (xsBo q1.2 ((xBo q1.2) + 1)) 2 p1))) p1; (q5.1, q5.2)) else ((xLf q1.2), q1.2)))
theorem hdX0_goOut : yX0_goOut.cls = RX0 ∧ yX0_goOut.cls ≠ "java/lang/invoke/MethodHandle" ∧ yX0_goOut.cls ≠ "java/lang/invoke/VarHandle" ∧ (parseMethodDescriptor yX0_goOut.desc).map (fun d => d.parameters.length) = some 1 := by decide +kernel
set_option maxHeartbeats 4000000 in
set_option maxRecDepth 100000 in
theorem c_X0_goOut (l : Launch) (D : va_G) (a : XA) (hO : xOk a) (S : XS) (p1 : Int32) (hI : xI S) : Met l yX0_goOut wsX0_goOut ({ frames := 5, cells := 0, slots := 0, locals := 108 }) (va_Pc [.ref (xa a), .int p1] (xB D a S)) (xQi D a (xF_goOut S p1)) 0 0 (xA a) := by
  refine Met.ofW (cc := cX0_goOut) (maxL := 2) (ret := (some .int)) (by decide) rfl ?_
  intro p e s m args below meth c s₁ B hml hv
  obtain ⟨rfl, hP, hK⟩ := hv
  have hx := B.exec
  have hb := B.bytes
  have hr := B.returns
  have hts := atoms_spec (ws := wsX0_goOut) B.pre
  have hown : s.vm.findClass RX0 = some m.cls := findClass_of_methodNamed B.named
  have hlocks := B.notSynchronized
  have hS : va_S (xA a) s.heap s.heap [] := va_S.rf
  have hP : va_P D vwCl (xW a S) s.heap := hP
  have hu : ∀ w ∈ wsX00, w ∈ wsX0_goOut := fun _ h => List.mem_cons_of_mem _ (List.mem_append_right _ h)
  have hf28 := hts (.fieldLink RX0 28 "FlightBooks" "bargesOut" "I") (by decide +kernel)
  have hf31 := hts (.fieldLink RX0 31 "FlightBooks" "eighthsOut" "I") (by decide +kernel)
  have hf15 := hts (.fieldLink RX0 15 "FlightBooks" "held" "[[I") (by decide +kernel)
  have hf37 := hts (.fieldLink RX0 37 "FlightBooks" "latestFault" "I") (by decide +kernel)
  have hl := lv_entry ([.ref (xa a), .int p1]) (n := 2) (Nat.le_of_ble_eq_true rfl)
  rw [lg_entry_eq]
  generalize (lg_sl ([.ref (xa a), .int p1]) ++ List.replicate (2 - (lg_sl ([.ref (xa a), .int p1])).length) Slot.unset).toArray = ls at hl ⊢
  have hl : lv_has ls 2 [(0, .ref (xa a)), (1, .int p1)] := hl
  refine lv_aload_n hx hb dX0_goOut_0 rfl (lv_at hl 0 rfl) ?_
  refine lv_iconst (v := 2) hx hb dX0_goOut_1 (by decide) ?_
  refine lv_iload_n hx hb dX0_goOut_2 rfl (lv_at hl 1 rfl) ?_
  refine va_calli (va_runV (As := [.int 2, .int p1]) (rest := []) ⟨hx, hb, hml, hown, hts⟩ (c_X0_endsAtLine l D a hO S 2 p1 hI vp_k2_5) (cwV 2 hts gX0_goOut_X0_endsAtLine rfl rfl rfl hdX0_endsAtLine ⟨Nat.le_of_ble_eq_true rfl, Nat.le_of_ble_eq_true rfl⟩) (xPreV hK hP) rfl rfl hl.1 rfl (lv_room (Nat.le_of_ble_eq_true rfl)) dX0_goOut_3 ⟨Nat.zero_le _, Nat.zero_le _⟩) hS (fun q _ h => h) (fun q h => h) (fun r1 S1 t H1 locs ht hvm hw1 hB hz1 hk1 hS => ?_)
  obtain ⟨hP, -⟩ := hB
  rw [ht] at hP
  refine lv_if_eq (tgt := 14) hx hb dX0_goOut_6 (by decide) (fun c3 => ?_) (fun c3 => ?_)
  · obtain ⟨hn4, hs4⟩ := xe_endsAtLine hI vp_k2_5 hw1 c3
    subst hs4
    refine lv_aload_n hx hb dX0_goOut_14 rfl (lv_at hl 0 rfl) ?_
    refine lv_dup hx hb dX0_goOut_15 rfl ?_
    refine x_get hx hb hts hu hown hK hP 6 (by decide) hf28 rfl (v := .int (xBo S)) rfl dX0_goOut_16 ?_
    refine lv_iconst (v := 1) hx hb dX0_goOut_19 (by decide) ?_
    refine lv_iadd hx hb dX0_goOut_20 ?_
    refine x_put hx hb hts hu hown hO hK hP hS 6 (by decide) hf28 rfl rfl (by decide +kernel) (xsBo S ((xBo S) + 1)) rfl rfl dX0_goOut_21 (fun H locs hP hS => ?_)
    refine lv_aload_n hx hb dX0_goOut_24 rfl (lv_at hl 0 rfl) ?_
    refine lv_dup hx hb dX0_goOut_25 rfl ?_
    refine x_get hx hb hts hu hown hK hP 7 (by decide) hf31 rfl (v := .int (xEo (xsBo S ((xBo S) + 1)))) rfl dX0_goOut_26 ?_
    refine lv_aload_n hx hb dX0_goOut_29 rfl (lv_at hl 0 rfl) ?_
    refine x_get hx hb hts hu hown hK hP 2 (by decide) hf15 rfl (v := .ref (xah a)) rfl dX0_goOut_30 ?_
    refine lv_iconst (v := 2) hx hb dX0_goOut_33 (by decide) ?_
    refine x_aldh hx hb hK hP vp_k2_5 dX0_goOut_34 ?_
    refine lv_iload_n hx hb dX0_goOut_35 rfl (lv_at hl 1 rfl) ?_
    refine x_ldh hx hb hK hP vp_k2_5 hn4 dX0_goOut_36 ?_
    refine lv_iadd hx hb dX0_goOut_37 ?_
    refine x_put hx hb hts hu hown hO hK hP hS 7 (by decide) hf31 rfl rfl (by decide +kernel) (xsEo (xsBo S ((xBo S) + 1)) ((xEo (xsBo S ((xBo S) + 1))) + (xh (xsBo S ((xBo S) + 1)) 2 p1))) rfl rfl dX0_goOut_38 (fun H locs hP hS => ?_)
    refine lv_aload_n hx hb dX0_goOut_41 rfl (lv_at hl 0 rfl) ?_
    refine lv_iload_n hx hb dX0_goOut_42 rfl (lv_at hl 1 rfl) ?_
    refine va_calli (va_runV (As := [.int p1]) (rest := []) ⟨hx, hb, hml, hown, hts⟩ (c_X0_leave l D a hO (xsEo (xsBo S ((xBo S) + 1)) ((xEo (xsBo S ((xBo S) + 1))) + (xh (xsBo S ((xBo S) + 1)) 2 p1))) p1 hn4) (cwV 1 hts gX0_goOut_X0_leave rfl rfl rfl hdX0_leave ⟨Nat.le_of_ble_eq_true rfl, Nat.le_of_ble_eq_true rfl⟩) (xPreV hK hP) rfl rfl hl.1 rfl (lv_room (Nat.le_of_ble_eq_true rfl)) dX0_goOut_43 ⟨Nat.zero_le _, Nat.zero_le _⟩) hS (fun q _ h => h) (fun q h => h) (fun r5 S5 t H1 locs ht hvm hw5 hB hz1 hk1 hS => ?_)
    obtain ⟨hP, -⟩ := hB
    rw [ht] at hP
    exact W.iret (v := r5) hx hb hr (fun t ht hW => ⟨⟨r5, S5, rfl, (by simp only [xF_goOut, hw1, if_pos c3, hw5]), by rw [ht]; exact hP, va_K.moved hW.alike hK⟩, hS.F ht⟩) hS.2.2 dX0_goOut_46
  · refine lv_aload_n hx hb dX0_goOut_9 rfl (lv_at hl 0 rfl) ?_
    refine x_get hx hb hts hu hown hK hP 9 (by decide) hf37 rfl (v := .int (xLf S1)) rfl dX0_goOut_10 ?_
    exact W.iret (v := (xLf S1)) hx hb hr (fun t ht hW => ⟨⟨(xLf S1), S1, rfl, (by simp only [xF_goOut, hw1, if_neg c3]), by rw [ht]; exact hP, va_K.moved hW.alike hK⟩, hS.F ht⟩) hS.2.2 dX0_goOut_13
def xF_goOn (S : XS) (p1 : Int32) : Int32 × XS := (let q1 := xF_endsAtLine S 0 (p1 + 1); (if q1.1 = 0 then (if (xh q1.2 0 (p1 + 1)) = 0 then (let q6 := xF_endsAtLine q1.2 2 p1; (if q6.1 = 0 then (let q10 := xF_endsAtArrival q6.2 (p1 + 1) (xh q6.2 0 p1) (xh q6.2 2 p1); (if q10.1 = 0 then (let q14 := xF_leave q10.2 p1; (q14.1, q14.2)) else ((xLf q10.2), q10.2))) else ((xLf q6.2), q6.2))) else ((-4), q1.2)) else ((xLf q1.2), q1.2)))
theorem hdX0_goOn : yX0_goOn.cls = RX0 ∧ yX0_goOn.cls ≠ "java/lang/invoke/MethodHandle" ∧ yX0_goOn.cls ≠ "java/lang/invoke/VarHandle" ∧ (parseMethodDescriptor yX0_goOn.desc).map (fun d => d.parameters.length) = some 1 := by decide +kernel
set_option maxHeartbeats 4000000 in
set_option maxRecDepth 100000 in
theorem c_X0_goOn (l : Launch) (D : va_G) (a : XA) (hO : xOk a) (S : XS) (p1 : Int32) (hI : xI S) (h24_0 : vp_in p1 24) : Met l yX0_goOn wsX0_goOn ({ frames := 5, cells := 0, slots := 0, locals := 109 }) (va_Pc [.ref (xa a), .int p1] (xB D a S)) (xQi D a (xF_goOn S p1)) 0 0 (xA a) := by
  refine Met.ofW (cc := cX0_goOn) (maxL := 3) (ret := (some .int)) (by decide) rfl ?_
  intro p e s m args below meth c s₁ B hml hv
  obtain ⟨rfl, hP, hK⟩ := hv
  have hx := B.exec
  have hb := B.bytes
  have hr := B.returns
  have hts := atoms_spec (ws := wsX0_goOn) B.pre
  have hown : s.vm.findClass RX0 = some m.cls := findClass_of_methodNamed B.named
  have hlocks := B.notSynchronized
  have hS : va_S (xA a) s.heap s.heap [] := va_S.rf
  have hP : va_P D vwCl (xW a S) s.heap := hP
  have hu : ∀ w ∈ wsX00, w ∈ wsX0_goOn := fun _ h => List.mem_cons_of_mem _ (List.mem_append_right _ h)
  have hf15 := hts (.fieldLink RX0 15 "FlightBooks" "held" "[[I") (by decide +kernel)
  have hf37 := hts (.fieldLink RX0 37 "FlightBooks" "latestFault" "I") (by decide +kernel)
  have hl := lv_entry ([.ref (xa a), .int p1]) (n := 3) (Nat.le_of_ble_eq_true rfl)
  rw [lg_entry_eq]
  generalize (lg_sl ([.ref (xa a), .int p1]) ++ List.replicate (3 - (lg_sl ([.ref (xa a), .int p1])).length) Slot.unset).toArray = ls at hl ⊢
  have hl : lv_has ls 3 [(0, .ref (xa a)), (1, .int p1)] := hl
  refine lv_iload_n hx hb dX0_goOn_0 rfl (lv_at hl 1 rfl) ?_
  refine lv_iconst (v := 1) hx hb dX0_goOn_1 (by decide) ?_
  refine lv_iadd hx hb dX0_goOn_2 ?_
  refine lv_istore_n (lv' := [(2, .int (p1 + 1)), (0, .ref (xa a)), (1, .int p1)]) hx hb dX0_goOn_3 rfl hl (by decide) rfl (fun ls hl => ?_)
  refine lv_aload_n hx hb dX0_goOn_4 rfl (lv_at hl 1 rfl) ?_
  refine lv_iconst (v := 0) hx hb dX0_goOn_5 (by decide) ?_
  refine lv_iload_n hx hb dX0_goOn_6 rfl (lv_at hl 0 rfl) ?_
  refine va_calli (va_runV (As := [.int 0, .int (p1 + 1)]) (rest := []) ⟨hx, hb, hml, hown, hts⟩ (c_X0_endsAtLine l D a hO S 0 (p1 + 1) hI vp_k0_5) (cwV 2 hts gX0_goOn_X0_endsAtLine rfl rfl rfl hdX0_endsAtLine ⟨Nat.le_of_ble_eq_true rfl, Nat.le_of_ble_eq_true rfl⟩) (xPreV hK hP) rfl rfl hl.1 rfl (lv_room (Nat.le_of_ble_eq_true rfl)) dX0_goOn_7 ⟨Nat.zero_le _, Nat.zero_le _⟩) hS (fun q _ h => h) (fun q h => h) (fun r1 S1 t H1 locs ht hvm hw1 hB hz1 hk1 hS => ?_)
  obtain ⟨hP, -⟩ := hB
  rw [ht] at hP
  refine lv_if_eq (tgt := 18) hx hb dX0_goOn_10 (by decide) (fun c3 => ?_) (fun c3 => ?_)
  · obtain ⟨hn4, hs4⟩ := xe_endsAtLine hI vp_k0_5 hw1 c3
    subst hs4
    refine lv_aload_n hx hb dX0_goOn_18 rfl (lv_at hl 1 rfl) ?_
    refine x_get hx hb hts hu hown hK hP 2 (by decide) hf15 rfl (v := .ref (xah a)) rfl dX0_goOn_19 ?_
    refine lv_iconst (v := 0) hx hb dX0_goOn_22 (by decide) ?_
    refine x_aldh hx hb hK hP vp_k0_5 dX0_goOn_23 ?_
    refine lv_iload_n hx hb dX0_goOn_24 rfl (lv_at hl 0 rfl) ?_
    refine x_ldh hx hb hK hP vp_k0_5 hn4 dX0_goOn_25 ?_
    refine lv_if_eq (tgt := 32) hx hb dX0_goOn_26 (by decide) (fun c5 => ?_) (fun c5 => ?_)
    · refine lv_aload_n hx hb dX0_goOn_32 rfl (lv_at hl 1 rfl) ?_
      refine lv_iconst (v := 2) hx hb dX0_goOn_33 (by decide) ?_
      refine lv_iload_n hx hb dX0_goOn_34 rfl (lv_at hl 2 rfl) ?_
      refine va_calli (va_runV (As := [.int 2, .int p1]) (rest := []) ⟨hx, hb, hml, hown, hts⟩ (c_X0_endsAtLine l D a hO S 2 p1 hI vp_k2_5) (cwV 2 hts gX0_goOn_X0_endsAtLine rfl rfl rfl hdX0_endsAtLine ⟨Nat.le_of_ble_eq_true rfl, Nat.le_of_ble_eq_true rfl⟩) (xPreV hK hP) rfl rfl hl.1 rfl (lv_room (Nat.le_of_ble_eq_true rfl)) dX0_goOn_35 ⟨Nat.zero_le _, Nat.zero_le _⟩) hS (fun q _ h => h) (fun q h => h) (fun r6 S6 t H1 locs ht hvm hw6 hB hz1 hk1 hS => ?_)
      obtain ⟨hP, -⟩ := hB
      rw [ht] at hP
      refine lv_if_eq (tgt := 46) hx hb dX0_goOn_38 (by decide) (fun c8 => ?_) (fun c8 => ?_)
      · obtain ⟨hn9, hs9⟩ := xe_endsAtLine hI vp_k2_5 hw6 c8
        subst hs9
        refine lv_aload_n hx hb dX0_goOn_46 rfl (lv_at hl 1 rfl) ?_
        refine lv_iload_n hx hb dX0_goOn_47 rfl (lv_at hl 0 rfl) ?_
        refine lv_aload_n hx hb dX0_goOn_48 rfl (lv_at hl 1 rfl) ?_
        refine x_get hx hb hts hu hown hK hP 2 (by decide) hf15 rfl (v := .ref (xah a)) rfl dX0_goOn_49 ?_
        refine lv_iconst (v := 0) hx hb dX0_goOn_52 (by decide) ?_
        refine x_aldh hx hb hK hP vp_k0_5 dX0_goOn_53 ?_
        refine lv_iload_n hx hb dX0_goOn_54 rfl (lv_at hl 2 rfl) ?_
        refine x_ldh hx hb hK hP vp_k0_5 hn9 dX0_goOn_55 ?_
        refine lv_aload_n hx hb dX0_goOn_56 rfl (lv_at hl 1 rfl) ?_
        refine x_get hx hb hts hu hown hK hP 2 (by decide) hf15 rfl (v := .ref (xah a)) rfl dX0_goOn_57 ?_
        refine lv_iconst (v := 2) hx hb dX0_goOn_60 (by decide) ?_
        refine x_aldh hx hb hK hP vp_k2_5 dX0_goOn_61 ?_
        refine lv_iload_n hx hb dX0_goOn_62 rfl (lv_at hl 2 rfl) ?_
        refine x_ldh hx hb hK hP vp_k2_5 hn9 dX0_goOn_63 ?_
        refine va_calli (va_runV (As := [.int (p1 + 1), .int (xh S 0 p1), .int (xh S 2 p1)]) (rest := []) ⟨hx, hb, hml, hown, hts⟩ (c_X0_endsAtArrival l D a hO S (p1 + 1) (xh S 0 p1) (xh S 2 p1) hI) (cwV 3 hts gX0_goOn_X0_endsAtArrival rfl rfl rfl hdX0_endsAtArrival ⟨Nat.le_of_ble_eq_true rfl, Nat.le_of_ble_eq_true rfl⟩) (xPreV hK hP) rfl rfl hl.1 rfl (lv_room (Nat.le_of_ble_eq_true rfl)) dX0_goOn_64 ⟨Nat.zero_le _, Nat.zero_le _⟩) hS (fun q _ h => h) (fun q h => h) (fun r10 S10 t H1 locs ht hvm hw10 hB hz1 hk1 hS => ?_)
        obtain ⟨hP, -⟩ := hB
        rw [ht] at hP
        have hI := xI_endsAtArrival hI hw10
        refine lv_if_eq (tgt := 75) hx hb dX0_goOn_67 (by decide) (fun c12 => ?_) (fun c12 => ?_)
        · refine lv_aload_n hx hb dX0_goOn_75 rfl (lv_at hl 1 rfl) ?_
          refine lv_iload_n hx hb dX0_goOn_76 rfl (lv_at hl 2 rfl) ?_
          refine va_calli (va_runV (As := [.int p1]) (rest := []) ⟨hx, hb, hml, hown, hts⟩ (c_X0_leave l D a hO S10 p1 hn9) (cwV 1 hts gX0_goOn_X0_leave rfl rfl rfl hdX0_leave ⟨Nat.le_of_ble_eq_true rfl, Nat.le_of_ble_eq_true rfl⟩) (xPreV hK hP) rfl rfl hl.1 rfl (lv_room (Nat.le_of_ble_eq_true rfl)) dX0_goOn_77 ⟨Nat.zero_le _, Nat.zero_le _⟩) hS (fun q _ h => h) (fun q h => h) (fun r14 S14 t H1 locs ht hvm hw14 hB hz1 hk1 hS => ?_)
          obtain ⟨hP, -⟩ := hB
          rw [ht] at hP
          exact W.iret (v := r14) hx hb hr (fun t ht hW => ⟨⟨r14, S14, rfl, (by simp only [xF_goOn, hw1, if_pos c3, if_pos c5, hw6, if_pos c8, hw10, if_pos c12, hw14]), by rw [ht]; exact hP, va_K.moved hW.alike hK⟩, hS.F ht⟩) hS.2.2 dX0_goOn_80
        · refine lv_aload_n hx hb dX0_goOn_70 rfl (lv_at hl 1 rfl) ?_
          refine x_get hx hb hts hu hown hK hP 9 (by decide) hf37 rfl (v := .int (xLf S10)) rfl dX0_goOn_71 ?_
          exact W.iret (v := (xLf S10)) hx hb hr (fun t ht hW => ⟨⟨(xLf S10), S10, rfl, (by simp only [xF_goOn, hw1, if_pos c3, if_pos c5, hw6, if_pos c8, hw10, if_neg c12]), by rw [ht]; exact hP, va_K.moved hW.alike hK⟩, hS.F ht⟩) hS.2.2 dX0_goOn_74
      · refine lv_aload_n hx hb dX0_goOn_41 rfl (lv_at hl 1 rfl) ?_
        refine x_get hx hb hts hu hown hK hP 9 (by decide) hf37 rfl (v := .int (xLf S6)) rfl dX0_goOn_42 ?_
        exact W.iret (v := (xLf S6)) hx hb hr (fun t ht hW => ⟨⟨(xLf S6), S6, rfl, (by simp only [xF_goOn, hw1, if_pos c3, if_pos c5, hw6, if_neg c8]), by rw [ht]; exact hP, va_K.moved hW.alike hK⟩, hS.F ht⟩) hS.2.2 dX0_goOn_45
    · refine lv_bipush (v := (-4)) hx hb dX0_goOn_29 (by decide) ?_
      exact W.iret (v := (-4)) hx hb hr (fun t ht hW => ⟨⟨(-4), S, rfl, (by simp only [xF_goOn, hw1, if_pos c3, if_neg c5]), by rw [ht]; exact hP, va_K.moved hW.alike hK⟩, hS.F ht⟩) hS.2.2 dX0_goOn_31
  · refine lv_aload_n hx hb dX0_goOn_13 rfl (lv_at hl 1 rfl) ?_
    refine x_get hx hb hts hu hown hK hP 9 (by decide) hf37 rfl (v := .int (xLf S1)) rfl dX0_goOn_14 ?_
    exact W.iret (v := (xLf S1)) hx hb hr (fun t ht hW => ⟨⟨(xLf S1), S1, rfl, (by simp only [xF_goOn, hw1, if_neg c3]), by rw [ht]; exact hP, va_K.moved hW.alike hK⟩, hS.F ht⟩) hS.2.2 dX0_goOn_17
