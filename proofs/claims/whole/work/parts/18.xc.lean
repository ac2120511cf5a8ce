def xF_note (S : XS) (p1 p2 p3 p4 : Int32) : Int32 × XS := (if (xF_isBook p1) = 0 then ((-300000), S) else (let q4 := xF_endsAtLine S p1 p2; (if q4.1 = 0 then (let q9 := xF_endsAtPlace q4.2 p3 p4; (if q9.1 = 0 then (0, (xsp q9.2 p3 p4 (xh q9.2 p1 p2))) else ((xLf q9.2), q9.2))) else ((xLf q4.2), q4.2))))
theorem hdX0_note : yX0_note.cls = RX0 ∧ yX0_note.cls ≠ "java/lang/invoke/MethodHandle" ∧ yX0_note.cls ≠ "java/lang/invoke/VarHandle" ∧ (parseMethodDescriptor yX0_note.desc).map (fun d => d.parameters.length) = some 4 := by decide +kernel
set_option maxHeartbeats 4000000 in
set_option maxRecDepth 100000 in
theorem c_X0_note (l : Launch) (D : va_G) (a : XA) (hO : xOk a) (S : XS) (p1 p2 p3 p4 : Int32) (hI : xI S) : Met l yX0_note wsX0_note ({ frames := 3, cells := 0, slots := 0, locals := 64 }) (va_Pc [.ref (xa a), .int p1, .int p2, .int p3, .int p4] (xB D a S)) (xQi D a (xF_note S p1 p2 p3 p4)) 0 0 (xA a) := by
  refine Met.ofW (cc := cX0_note) (maxL := 5) (ret := (some .int)) (by decide) rfl ?_
  intro p e s m args below meth c s₁ B hml hv
  obtain ⟨rfl, hP, hK⟩ := hv
  have hx := B.exec
  have hb := B.bytes
  have hr := B.returns
  have hts := atoms_spec (ws := wsX0_note) B.pre
  have hown : s.vm.findClass RX0 = some m.cls := findClass_of_methodNamed B.named
  have hlocks := B.notSynchronized
  have hS : va_S (xA a) s.heap s.heap [] := va_S.rf
  have hP : va_P D vwCl (xW a S) s.heap := hP
  have hu : ∀ w ∈ wsX00, w ∈ wsX0_note := fun _ h => List.mem_cons_of_mem _ (List.mem_append_right _ h)
  have hf37 := hts (.fieldLink RX0 37 "FlightBooks" "latestFault" "I") (by decide +kernel)
  have hf18 := hts (.fieldLink RX0 18 "FlightBooks" "places" "[[I") (by decide +kernel)
  have hf15 := hts (.fieldLink RX0 15 "FlightBooks" "held" "[[I") (by decide +kernel)
  have hk57 := hts (.constant RX0 57 (-300000)) (by decide +kernel)
  have hl := lv_entry ([.ref (xa a), .int p1, .int p2, .int p3, .int p4]) (n := 5) (Nat.le_of_ble_eq_true rfl)
  rw [lg_entry_eq]
  generalize (lg_sl ([.ref (xa a), .int p1, .int p2, .int p3, .int p4]) ++ List.replicate (5 - (lg_sl ([.ref (xa a), .int p1, .int p2, .int p3, .int p4])).length) Slot.unset).toArray = ls at hl ⊢
  have hl : lv_has ls 5 [(0, .ref (xa a)), (1, .int p1), (2, .int p2), (3, .int p3), (4, .int p4)] := hl
  refine lv_iload_n hx hb dX0_note_0 rfl (lv_at hl 1 rfl) ?_
  refine va_calli (va_runS (As := [.int p1]) (rest := []) ⟨hx, hb, hml, hown, hts⟩ (c_X0_isBook l p1) (va_cwS 1 hts gX0_note_X0_isBook rfl rfl rfl hdX0_isBook ⟨Nat.le_of_ble_eq_true rfl, Nat.le_of_ble_eq_true rfl⟩) pPreS rfl rfl hl.1 rfl (lv_room (Nat.le_of_ble_eq_true rfl)) dX0_note_1 ⟨Nat.zero_le _, Nat.zero_le _⟩) hS (fun q _ h => h.elim) (fun q h => h.elim) (fun r1 u1 t H1 locs ht hvm hw1 hB hz1 hk1 hS => ?_)
  have hP := P_kept hP hk1
  refine lv_if_ne (tgt := 10) hx hb dX0_note_4 (by decide) (fun c2 => ?_) (fun c2 => ?_)
  · have hn3 := xe_book hw1 c2
    refine lv_aload_n hx hb dX0_note_10 rfl (lv_at hl 0 rfl) ?_
    refine lv_iload_n hx hb dX0_note_11 rfl (lv_at hl 1 rfl) ?_
    refine lv_iload_n hx hb dX0_note_12 rfl (lv_at hl 2 rfl) ?_
    refine va_calli (va_runV (As := [.int p1, .int p2]) (rest := []) ⟨hx, hb, hml, hown, hts⟩ (c_X0_endsAtLine l D a hO S p1 p2 hI hn3) (cwV 2 hts gX0_note_X0_endsAtLine rfl rfl rfl hdX0_endsAtLine ⟨Nat.le_of_ble_eq_true rfl, Nat.le_of_ble_eq_true rfl⟩) (xPreV hK hP) rfl rfl hl.1 rfl (lv_room (Nat.le_of_ble_eq_true rfl)) dX0_note_13 ⟨Nat.zero_le _, Nat.zero_le _⟩) hS (fun q _ h => h) (fun q h => h) (fun r4 S4 t H1 locs ht hvm hw4 hB hz1 hk1 hS => ?_)
    obtain ⟨hP, -⟩ := hB
    rw [ht] at hP
    refine lv_if_ne (tgt := 29) hx hb dX0_note_16 (by decide) (fun c6 => ?_) (fun c6 => ?_)
    · refine lv_aload_n hx hb dX0_note_29 rfl (lv_at hl 0 rfl) ?_
      refine x_get hx hb hts hu hown hK hP 9 (by decide) hf37 rfl (v := .int (xLf S4)) rfl dX0_note_30 ?_
      exact W.iret (v := (xLf S4)) hx hb hr (fun t ht hW => ⟨⟨(xLf S4), S4, rfl, (by simp only [xF_note, hw1, if_neg c2, hw4, if_neg c6]), by rw [ht]; exact hP, va_K.moved hW.alike hK⟩, hS.F ht⟩) hS.2.2 dX0_note_33
    · obtain ⟨hn8, hs8⟩ := xe_endsAtLine hI hn3 hw4 c6
      subst hs8
      refine lv_aload_n hx hb dX0_note_19 rfl (lv_at hl 0 rfl) ?_
      refine lv_iload_n hx hb dX0_note_20 rfl (lv_at hl 3 rfl) ?_
      refine lv_iload hx hb dX0_note_21 (lv_at hl 4 rfl) ?_
      refine va_calli (va_runV (As := [.int p3, .int p4]) (rest := []) ⟨hx, hb, hml, hown, hts⟩ (c_X0_endsAtPlace l D a hO S p3 p4 hI) (cwV 2 hts gX0_note_X0_endsAtPlace rfl rfl rfl hdX0_endsAtPlace ⟨Nat.le_of_ble_eq_true rfl, Nat.le_of_ble_eq_true rfl⟩) (xPreV hK hP) rfl rfl hl.1 rfl (lv_room (Nat.le_of_ble_eq_true rfl)) dX0_note_23 ⟨Nat.zero_le _, Nat.zero_le _⟩) hS (fun q _ h => h) (fun q h => h) (fun r9 S9 t H1 locs ht hvm hw9 hB hz1 hk1 hS => ?_)
      obtain ⟨hP, -⟩ := hB
      rw [ht] at hP
      refine lv_if_eq (tgt := 34) hx hb dX0_note_26 (by decide) (fun c11 => ?_) (fun c11 => ?_)
      · obtain ⟨hn12, hm12, hs12⟩ := xe_endsAtPlace hI hw9 c11
        subst hs12
        refine lv_aload_n hx hb dX0_note_34 rfl (lv_at hl 0 rfl) ?_
        refine x_get hx hb hts hu hown hK hP 3 (by decide) hf18 rfl (v := .ref (xap a)) rfl dX0_note_35 ?_
        refine lv_iload_n hx hb dX0_note_38 rfl (lv_at hl 3 rfl) ?_
        refine x_aldp hx hb hK hP hn12 dX0_note_39 ?_
        refine lv_iload hx hb dX0_note_40 (lv_at hl 4 rfl) ?_
        refine lv_aload_n hx hb dX0_note_42 rfl (lv_at hl 0 rfl) ?_
        refine x_get hx hb hts hu hown hK hP 2 (by decide) hf15 rfl (v := .ref (xah a)) rfl dX0_note_43 ?_
        refine lv_iload_n hx hb dX0_note_46 rfl (lv_at hl 1 rfl) ?_
        refine x_aldh hx hb hK hP hn3 dX0_note_47 ?_
        refine lv_iload_n hx hb dX0_note_48 rfl (lv_at hl 2 rfl) ?_
        refine x_ldh hx hb hK hP hn3 hn8 dX0_note_49 ?_
        refine x_stp hx hb hO hK hP hS hn12 hm12 dX0_note_50 (fun H locs hP hS => ?_)
        refine lv_iconst (v := 0) hx hb dX0_note_51 (by decide) ?_
        exact W.iret (v := 0) hx hb hr (fun t ht hW => ⟨⟨0, (xsp S p3 p4 (xh S p1 p2)), rfl, (by simp only [xF_note, hw1, if_neg c2, hw4, if_pos c6, hw9, if_pos c11]), by rw [ht]; exact hP, va_K.moved hW.alike hK⟩, hS.F ht⟩) hS.2.2 dX0_note_52
      · refine lv_aload_n hx hb dX0_note_29 rfl (lv_at hl 0 rfl) ?_
        refine x_get hx hb hts hu hown hK hP 9 (by decide) hf37 rfl (v := .int (xLf S9)) rfl dX0_note_30 ?_
        exact W.iret (v := (xLf S9)) hx hb hr (fun t ht hW => ⟨⟨(xLf S9), S9, rfl, (by simp only [xF_note, hw1, if_neg c2, hw4, if_pos c6, hw9, if_neg c11]), by rw [ht]; exact hP, va_K.moved hW.alike hK⟩, hS.F ht⟩) hS.2.2 dX0_note_33
  · refine lv_ldc (v := (-300000)) hx hb hown hk57 dX0_note_7 ?_
    exact W.iret (v := (-300000)) hx hb hr (fun t ht hW => ⟨⟨(-300000), S, rfl, (by simp only [xF_note, hw1, if_pos c2]), by rw [ht]; exact hP, va_K.moved hW.alike hK⟩, hS.F ht⟩) hS.2.2 dX0_note_9
def xF_chart (S : XS) (p1 p2 : Int32) : Int32 × XS := (let q1 := xF_endsAtPlace S p1 p2; (if q1.1 = 0 then ((xp q1.2 p1 p2), q1.2) else ((xLf q1.2), q1.2)))
theorem hdX0_chart : yX0_chart.cls = RX0 ∧ yX0_chart.cls ≠ "java/lang/invoke/MethodHandle" ∧ yX0_chart.cls ≠ "java/lang/invoke/VarHandle" ∧ (parseMethodDescriptor yX0_chart.desc).map (fun d => d.parameters.length) = some 2 := by decide +kernel
set_option maxHeartbeats 4000000 in
set_option maxRecDepth 100000 in
theorem c_X0_chart (l : Launch) (D : va_G) (a : XA) (hO : xOk a) (S : XS) (p1 p2 : Int32) (hI : xI S) : Met l yX0_chart wsX0_chart ({ frames := 3, cells := 0, slots := 0, locals := 64 }) (va_Pc [.ref (xa a), .int p1, .int p2] (xB D a S)) (xQi D a (xF_chart S p1 p2)) 0 0 (xA a) := by
  refine Met.ofW (cc := cX0_chart) (maxL := 3) (ret := (some .int)) (by decide) rfl ?_
  intro p e s m args below meth c s₁ B hml hv
  obtain ⟨rfl, hP, hK⟩ := hv
  have hx := B.exec
  have hb := B.bytes
  have hr := B.returns
  have hts := atoms_spec (ws := wsX0_chart) B.pre
  have hown : s.vm.findClass RX0 = some m.cls := findClass_of_methodNamed B.named
  have hlocks := B.notSynchronized
  have hS : va_S (xA a) s.heap s.heap [] := va_S.rf
  have hP : va_P D vwCl (xW a S) s.heap := hP
  have hu : ∀ w ∈ wsX00, w ∈ wsX0_chart := fun _ h => List.mem_cons_of_mem _ (List.mem_append_right _ h)
  have hf18 := hts (.fieldLink RX0 18 "FlightBooks" "places" "[[I") (by decide +kernel)
  have hf37 := hts (.fieldLink RX0 37 "FlightBooks" "latestFault" "I") (by decide +kernel)
  have hl := lv_entry ([.ref (xa a), .int p1, .int p2]) (n := 3) (Nat.le_of_ble_eq_true rfl)
  rw [lg_entry_eq]
  generalize (lg_sl ([.ref (xa a), .int p1, .int p2]) ++ List.replicate (3 - (lg_sl ([.ref (xa a), .int p1, .int p2])).length) Slot.unset).toArray = ls at hl ⊢
  have hl : lv_has ls 3 [(0, .ref (xa a)), (1, .int p1), (2, .int p2)] := hl
  refine lv_aload_n hx hb dX0_chart_0 rfl (lv_at hl 0 rfl) ?_
  refine lv_iload_n hx hb dX0_chart_1 rfl (lv_at hl 1 rfl) ?_
  refine lv_iload_n hx hb dX0_chart_2 rfl (lv_at hl 2 rfl) ?_
  refine va_calli (va_runV (As := [.int p1, .int p2]) (rest := []) ⟨hx, hb, hml, hown, hts⟩ (c_X0_endsAtPlace l D a hO S p1 p2 hI) (cwV 2 hts gX0_chart_X0_endsAtPlace rfl rfl rfl hdX0_endsAtPlace ⟨Nat.le_of_ble_eq_true rfl, Nat.le_of_ble_eq_true rfl⟩) (xPreV hK hP) rfl rfl hl.1 rfl (lv_room (Nat.le_of_ble_eq_true rfl)) dX0_chart_3 ⟨Nat.zero_le _, Nat.zero_le _⟩) hS (fun q _ h => h) (fun q h => h) (fun r1 S1 t H1 locs ht hvm hw1 hB hz1 hk1 hS => ?_)
  obtain ⟨hP, -⟩ := hB
  rw [ht] at hP
  refine lv_if_eq (tgt := 14) hx hb dX0_chart_6 (by decide) (fun c3 => ?_) (fun c3 => ?_)
  · obtain ⟨hn4, hm4, hs4⟩ := xe_endsAtPlace hI hw1 c3
    subst hs4
    refine lv_aload_n hx hb dX0_chart_14 rfl (lv_at hl 0 rfl) ?_
    refine x_get hx hb hts hu hown hK hP 3 (by decide) hf18 rfl (v := .ref (xap a)) rfl dX0_chart_15 ?_
    refine lv_iload_n hx hb dX0_chart_18 rfl (lv_at hl 1 rfl) ?_
    refine x_aldp hx hb hK hP hn4 dX0_chart_19 ?_
    refine lv_iload_n hx hb dX0_chart_20 rfl (lv_at hl 2 rfl) ?_
    refine x_ldp hx hb hK hP hn4 hm4 dX0_chart_21 ?_
    exact W.iret (v := (xp S p1 p2)) hx hb hr (fun t ht hW => ⟨⟨(xp S p1 p2), S, rfl, (by simp only [xF_chart, hw1, if_pos c3]), by rw [ht]; exact hP, va_K.moved hW.alike hK⟩, hS.F ht⟩) hS.2.2 dX0_chart_22
  · refine lv_aload_n hx hb dX0_chart_9 rfl (lv_at hl 0 rfl) ?_
    refine x_get hx hb hts hu hown hK hP 9 (by decide) hf37 rfl (v := .int (xLf S1)) rfl dX0_chart_10 ?_
    exact W.iret (v := (xLf S1)) hx hb hr (fun t ht hW => ⟨⟨(xLf S1), S1, rfl, (by simp only [xF_chart, hw1, if_neg c3]), by rw [ht]; exact hP, va_K.moved hW.alike hK⟩, hS.F ht⟩) hS.2.2 dX0_chart_13
def xF_columns (S : XS) (p1 : Int32) : Int32 × XS := (let q1 := xF_endsAtRow S p1; (if q1.1 = 0 then ((xCc q1.2), q1.2) else ((xLf q1.2), q1.2)))
theorem hdX0_columns : yX0_columns.cls = RX0 ∧ yX0_columns.cls ≠ "java/lang/invoke/MethodHandle" ∧ yX0_columns.cls ≠ "java/lang/invoke/VarHandle" ∧ (parseMethodDescriptor yX0_columns.desc).map (fun d => d.parameters.length) = some 1 := by decide +kernel
set_option maxHeartbeats 4000000 in
set_option maxRecDepth 100000 in
theorem c_X0_columns (l : Launch) (D : va_G) (a : XA) (hO : xOk a) (S : XS) (p1 : Int32) (hI : xI S) : Met l yX0_columns wsX0_columns ({ frames := 2, cells := 0, slots := 0, locals := 42 }) (va_Pc [.ref (xa a), .int p1] (xB D a S)) (xQi D a (xF_columns S p1)) 0 0 (xA a) := by
  refine Met.ofW (cc := cX0_columns) (maxL := 2) (ret := (some .int)) (by decide) rfl ?_
  intro p e s m args below meth c s₁ B hml hv
  obtain ⟨rfl, hP, hK⟩ := hv
  have hx := B.exec
  have hb := B.bytes
  have hr := B.returns
  have hts := atoms_spec (ws := wsX0_columns) B.pre
  have hown : s.vm.findClass RX0 = some m.cls := findClass_of_methodNamed B.named
  have hlocks := B.notSynchronized
  have hS : va_S (xA a) s.heap s.heap [] := va_S.rf
  have hP : va_P D vwCl (xW a S) s.heap := hP
  have hu : ∀ w ∈ wsX00, w ∈ wsX0_columns := fun _ h => List.mem_cons_of_mem _ (List.mem_append_right _ h)
  have hf25 := hts (.fieldLink RX0 25 "FlightBooks" "columnCount" "I") (by decide +kernel)
  have hf37 := hts (.fieldLink RX0 37 "FlightBooks" "latestFault" "I") (by decide +kernel)
  have hl := lv_entry ([.ref (xa a), .int p1]) (n := 2) (Nat.le_of_ble_eq_true rfl)
  rw [lg_entry_eq]
  generalize (lg_sl ([.ref (xa a), .int p1]) ++ List.replicate (2 - (lg_sl ([.ref (xa a), .int p1])).length) Slot.unset).toArray = ls at hl ⊢
  have hl : lv_has ls 2 [(0, .ref (xa a)), (1, .int p1)] := hl
  refine lv_aload_n hx hb dX0_columns_0 rfl (lv_at hl 0 rfl) ?_
  refine lv_iload_n hx hb dX0_columns_1 rfl (lv_at hl 1 rfl) ?_
  refine va_calli (va_runV (As := [.int p1]) (rest := []) ⟨hx, hb, hml, hown, hts⟩ (c_X0_endsAtRow l D a hO S p1) (cwV 1 hts gX0_columns_X0_endsAtRow rfl rfl rfl hdX0_endsAtRow ⟨Nat.le_of_ble_eq_true rfl, Nat.le_of_ble_eq_true rfl⟩) (xPreV hK hP) rfl rfl hl.1 rfl (lv_room (Nat.le_of_ble_eq_true rfl)) dX0_columns_2 ⟨Nat.zero_le _, Nat.zero_le _⟩) hS (fun q _ h => h) (fun q h => h) (fun r1 S1 t H1 locs ht hvm hw1 hB hz1 hk1 hS => ?_)
  obtain ⟨hP, -⟩ := hB
  rw [ht] at hP
  refine lv_if_eq (tgt := 13) hx hb dX0_columns_5 (by decide) (fun c3 => ?_) (fun c3 => ?_)
  · obtain ⟨hn4, hs4⟩ := xe_endsAtRow hI hw1 c3
    subst hs4
    refine lv_aload_n hx hb dX0_columns_13 rfl (lv_at hl 0 rfl) ?_
    refine x_get hx hb hts hu hown hK hP 5 (by decide) hf25 rfl (v := .int (xCc S)) rfl dX0_columns_14 ?_
    exact W.iret (v := (xCc S)) hx hb hr (fun t ht hW => ⟨⟨(xCc S), S, rfl, (by simp only [xF_columns, hw1, if_pos c3]), by rw [ht]; exact hP, va_K.moved hW.alike hK⟩, hS.F ht⟩) hS.2.2 dX0_columns_17
  · refine lv_aload_n hx hb dX0_columns_8 rfl (lv_at hl 0 rfl) ?_
    refine x_get hx hb hts hu hown hK hP 9 (by decide) hf37 rfl (v := .int (xLf S1)) rfl dX0_columns_9 ?_
    exact W.iret (v := (xLf S1)) hx hb hr (fun t ht hW => ⟨⟨(xLf S1), S1, rfl, (by simp only [xF_columns, hw1, if_neg c3]), by rw [ht]; exact hP, va_K.moved hW.alike hK⟩, hS.F ht⟩) hS.2.2 dX0_columns_12
