def xF_keep (S : XS) (p1 p2 : Int32) : Int32 × XS := (if (xF_isBook p1) = 0 then ((-300000), S) else (if p2 ≤ 24 then (if 0 ≤ p2 then (0, (xsc (xsH S (va_up (xH S) (Int32.toNatClampNeg p1) (fun _ => 0))) p1 p2)) else ((-3), S)) else ((-2), S)))
theorem hdX0_keep : yX0_keep.cls = RX0 ∧ yX0_keep.cls ≠ "java/lang/invoke/MethodHandle" ∧ yX0_keep.cls ≠ "java/lang/invoke/VarHandle" ∧ (parseMethodDescriptor yX0_keep.desc).map (fun d => d.parameters.length) = some 2 := by decide +kernel
set_option maxHeartbeats 4000000 in
set_option maxRecDepth 100000 in
theorem c_X0_keep (l : Launch) (D : va_G) (a : XA) (hO : xOk a) (S : XS) (p1 p2 : Int32) : Met l yX0_keep wsX0_keep ({ frames := 1, cells := 0, slots := 0, locals := 23 }) (va_Pc [.ref (xa a), .int p1, .int p2] (xB D a S)) (xQi D a (xF_keep S p1 p2)) 0 0 (xA a) := by
  refine Met.ofW (cc := cX0_keep) (maxL := 3) (ret := (some .int)) (by decide) rfl ?_
  intro p e s m args below meth c s₁ B hml hv
  obtain ⟨rfl, hP, hK⟩ := hv
  have hx := B.exec
  have hb := B.bytes
  have hr := B.returns
  have hts := atoms_spec (ws := wsX0_keep) B.pre
  have hown : s.vm.findClass RX0 = some m.cls := findClass_of_methodNamed B.named
  have hlocks := B.notSynchronized
  have hS : va_S (xA a) s.heap s.heap [] := va_S.rf
  have hP : va_P D vwCl (xW a S) s.heap := hP
  have hu : ∀ w ∈ wsX00, w ∈ wsX0_keep := fun _ h => List.mem_cons_of_mem _ (List.mem_append_right _ h)
  have hf15 := hts (.fieldLink RX0 15 "FlightBooks" "held" "[[I") (by decide +kernel)
  have hf9 := hts (.fieldLink RX0 9 "FlightBooks" "lineCounts" "[I") (by decide +kernel)
  have hk57 := hts (.constant RX0 57 (-300000)) (by decide +kernel)
  have hl := lv_entry ([.ref (xa a), .int p1, .int p2]) (n := 3) (Nat.le_of_ble_eq_true rfl)
  rw [lg_entry_eq]
  generalize (lg_sl ([.ref (xa a), .int p1, .int p2]) ++ List.replicate (3 - (lg_sl ([.ref (xa a), .int p1, .int p2])).length) Slot.unset).toArray = ls at hl ⊢
  have hl : lv_has ls 3 [(0, .ref (xa a)), (1, .int p1), (2, .int p2)] := hl
  refine lv_iload_n hx hb dX0_keep_0 rfl (lv_at hl 1 rfl) ?_
  refine va_calli (va_runS (As := [.int p1]) (rest := []) ⟨hx, hb, hml, hown, hts⟩ (c_X0_isBook l p1) (va_cwS 1 hts gX0_keep_X0_isBook rfl rfl rfl hdX0_isBook ⟨Nat.le_of_ble_eq_true rfl, Nat.le_of_ble_eq_true rfl⟩) pPreS rfl rfl hl.1 rfl (lv_room (Nat.le_of_ble_eq_true rfl)) dX0_keep_1 ⟨Nat.zero_le _, Nat.zero_le _⟩) hS (fun q _ h => h.elim) (fun q h => h.elim) (fun r1 u1 t H1 locs ht hvm hw1 hB hz1 hk1 hS => ?_)
  have hP := P_kept hP hk1
  refine lv_if_ne (tgt := 10) hx hb dX0_keep_4 (by decide) (fun c2 => ?_) (fun c2 => ?_)
  · have hn3 := xe_book hw1 c2
    refine lv_iload_n hx hb dX0_keep_10 rfl (lv_at hl 2 rfl) ?_
    refine lv_bipush (v := 24) hx hb dX0_keep_11 (by decide) ?_
    refine lv_icmp_le (tgt := 19) hx hb dX0_keep_13 (by decide) (fun c4 => ?_) (fun c4 => ?_)
    · refine lv_iload_n hx hb dX0_keep_19 rfl (lv_at hl 2 rfl) ?_
      refine lv_if_ge (tgt := 26) hx hb dX0_keep_20 (by decide) (fun c5 => ?_) (fun c5 => ?_)
      · refine lv_aload_n hx hb dX0_keep_26 rfl (lv_at hl 0 rfl) ?_
        refine x_get hx hb hts hu hown hK hP 2 (by decide) hf15 rfl (v := .ref (xah a)) rfl dX0_keep_27 ?_
        refine lv_iload_n hx hb dX0_keep_30 rfl (lv_at hl 1 rfl) ?_
        refine x_aldh hx hb hK hP hn3 dX0_keep_31 ?_
        refine lv_iconst (v := 0) hx hb dX0_keep_32 (by decide) ?_
        refine x_fillh (rest := []) hx hb hml hl.1 hown hts gX0_keep_J7_fill_53178 (Nat.le_of_ble_eq_true rfl) (Nat.le_of_ble_eq_true rfl) (Nat.zero_le _) (Nat.zero_le _) (Nat.zero_le _) hO hK hP hS hn3 dX0_keep_33 (fun H locs hP hS => ?_)
        refine lv_aload_n hx hb dX0_keep_36 rfl (lv_at hl 0 rfl) ?_
        refine x_get hx hb hts hu hown hK hP 1 (by decide) hf9 rfl (v := .ref (xac a)) rfl dX0_keep_37 ?_
        refine lv_iload_n hx hb dX0_keep_40 rfl (lv_at hl 1 rfl) ?_
        refine lv_iload_n hx hb dX0_keep_41 rfl (lv_at hl 2 rfl) ?_
        refine x_stc hx hb hO hK hP hS hn3 dX0_keep_42 (fun H locs hP hS => ?_)
        refine lv_iconst (v := 0) hx hb dX0_keep_43 (by decide) ?_
        exact W.iret (v := 0) hx hb hr (fun t ht hW => ⟨⟨0, (xsc (xsH S (va_up (xH S) (Int32.toNatClampNeg p1) (fun _ => 0))) p1 p2), rfl, (by simp only [xF_keep, hw1, if_neg c2, if_pos c4, if_pos c5]), by rw [ht]; exact hP, va_K.moved hW.alike hK⟩, hS.F ht⟩) hS.2.2 dX0_keep_44
      · refine lv_bipush (v := (-3)) hx hb dX0_keep_23 (by decide) ?_
        exact W.iret (v := (-3)) hx hb hr (fun t ht hW => ⟨⟨(-3), S, rfl, (by simp only [xF_keep, hw1, if_neg c2, if_pos c4, if_neg c5]), by rw [ht]; exact hP, va_K.moved hW.alike hK⟩, hS.F ht⟩) hS.2.2 dX0_keep_25
    · refine lv_bipush (v := (-2)) hx hb dX0_keep_16 (by decide) ?_
      exact W.iret (v := (-2)) hx hb hr (fun t ht hW => ⟨⟨(-2), S, rfl, (by simp only [xF_keep, hw1, if_neg c2, if_neg c4]), by rw [ht]; exact hP, va_K.moved hW.alike hK⟩, hS.F ht⟩) hS.2.2 dX0_keep_18
  · refine lv_ldc (v := (-300000)) hx hb hown hk57 dX0_keep_7 ?_
    exact W.iret (v := (-300000)) hx hb hr (fun t ht hW => ⟨⟨(-300000), S, rfl, (by simp only [xF_keep, hw1, if_pos c2]), by rw [ht]; exact hP, va_K.moved hW.alike hK⟩, hS.F ht⟩) hS.2.2 dX0_keep_9
def xF_lose (S : XS) (p1 : Int32) : Int32 × XS := (if (xF_isBook p1) = 0 then ((-300000), S) else (if (xc S p1) = (-1) then (0, S) else (1, (xsc S p1 (-1)))))
theorem hdX0_lose : yX0_lose.cls = RX0 ∧ yX0_lose.cls ≠ "java/lang/invoke/MethodHandle" ∧ yX0_lose.cls ≠ "java/lang/invoke/VarHandle" ∧ (parseMethodDescriptor yX0_lose.desc).map (fun d => d.parameters.length) = some 1 := by decide +kernel
set_option maxHeartbeats 4000000 in
set_option maxRecDepth 100000 in
theorem c_X0_lose (l : Launch) (D : va_G) (a : XA) (hO : xOk a) (S : XS) (p1 : Int32) : Met l yX0_lose wsX0_lose ({ frames := 1, cells := 0, slots := 0, locals := 20 }) (va_Pc [.ref (xa a), .int p1] (xB D a S)) (xQi D a (xF_lose S p1)) 0 0 (xA a) := by
  refine Met.ofW (cc := cX0_lose) (maxL := 2) (ret := (some .int)) (by decide) rfl ?_
  intro p e s m args below meth c s₁ B hml hv
  obtain ⟨rfl, hP, hK⟩ := hv
  have hx := B.exec
  have hb := B.bytes
  have hr := B.returns
  have hts := atoms_spec (ws := wsX0_lose) B.pre
  have hown : s.vm.findClass RX0 = some m.cls := findClass_of_methodNamed B.named
  have hlocks := B.notSynchronized
  have hS : va_S (xA a) s.heap s.heap [] := va_S.rf
  have hP : va_P D vwCl (xW a S) s.heap := hP
  have hu : ∀ w ∈ wsX00, w ∈ wsX0_lose := fun _ h => List.mem_cons_of_mem _ (List.mem_append_right _ h)
  have hf9 := hts (.fieldLink RX0 9 "FlightBooks" "lineCounts" "[I") (by decide +kernel)
  have hk57 := hts (.constant RX0 57 (-300000)) (by decide +kernel)
  have hl := lv_entry ([.ref (xa a), .int p1]) (n := 2) (Nat.le_of_ble_eq_true rfl)
  rw [lg_entry_eq]
  generalize (lg_sl ([.ref (xa a), .int p1]) ++ List.replicate (2 - (lg_sl ([.ref (xa a), .int p1])).length) Slot.unset).toArray = ls at hl ⊢
  have hl : lv_has ls 2 [(0, .ref (xa a)), (1, .int p1)] := hl
  refine lv_iload_n hx hb dX0_lose_0 rfl (lv_at hl 1 rfl) ?_
  refine va_calli (va_runS (As := [.int p1]) (rest := []) ⟨hx, hb, hml, hown, hts⟩ (c_X0_isBook l p1) (va_cwS 1 hts gX0_lose_X0_isBook rfl rfl rfl hdX0_isBook ⟨Nat.le_of_ble_eq_true rfl, Nat.le_of_ble_eq_true rfl⟩) pPreS rfl rfl hl.1 rfl (lv_room (Nat.le_of_ble_eq_true rfl)) dX0_lose_1 ⟨Nat.zero_le _, Nat.zero_le _⟩) hS (fun q _ h => h.elim) (fun q h => h.elim) (fun r1 u1 t H1 locs ht hvm hw1 hB hz1 hk1 hS => ?_)
  have hP := P_kept hP hk1
  refine lv_if_ne (tgt := 10) hx hb dX0_lose_4 (by decide) (fun c2 => ?_) (fun c2 => ?_)
  · have hn3 := xe_book hw1 c2
    refine lv_aload_n hx hb dX0_lose_10 rfl (lv_at hl 0 rfl) ?_
    refine x_get hx hb hts hu hown hK hP 1 (by decide) hf9 rfl (v := .ref (xac a)) rfl dX0_lose_11 ?_
    refine lv_iload_n hx hb dX0_lose_14 rfl (lv_at hl 1 rfl) ?_
    refine x_ldc hx hb hK hP hn3 dX0_lose_15 ?_
    refine lv_iconst (v := (-1)) hx hb dX0_lose_16 (by decide) ?_
    refine lv_icmp_ne (tgt := 22) hx hb dX0_lose_17 (by decide) (fun c4 => ?_) (fun c4 => ?_)
    · refine lv_aload_n hx hb dX0_lose_22 rfl (lv_at hl 0 rfl) ?_
      refine x_get hx hb hts hu hown hK hP 1 (by decide) hf9 rfl (v := .ref (xac a)) rfl dX0_lose_23 ?_
      refine lv_iload_n hx hb dX0_lose_26 rfl (lv_at hl 1 rfl) ?_
      refine lv_iconst (v := (-1)) hx hb dX0_lose_27 (by decide) ?_
      refine x_stc hx hb hO hK hP hS hn3 dX0_lose_28 (fun H locs hP hS => ?_)
      refine lv_iconst (v := 1) hx hb dX0_lose_29 (by decide) ?_
      exact W.iret (v := 1) hx hb hr (fun t ht hW => ⟨⟨1, (xsc S p1 (-1)), rfl, (by simp only [xF_lose, hw1, if_neg c2, if_neg c4]), by rw [ht]; exact hP, va_K.moved hW.alike hK⟩, hS.F ht⟩) hS.2.2 dX0_lose_30
    · refine lv_iconst (v := 0) hx hb dX0_lose_20 (by decide) ?_
      exact W.iret (v := 0) hx hb hr (fun t ht hW => ⟨⟨0, S, rfl, (by simp only [xF_lose, hw1, if_neg c2, if_pos c4]), by rw [ht]; exact hP, va_K.moved hW.alike hK⟩, hS.F ht⟩) hS.2.2 dX0_lose_21
  · refine lv_ldc (v := (-300000)) hx hb hown hk57 dX0_lose_7 ?_
    exact W.iret (v := (-300000)) hx hb hr (fun t ht hW => ⟨⟨(-300000), S, rfl, (by simp only [xF_lose, hw1, if_pos c2]), by rw [ht]; exact hP, va_K.moved hW.alike hK⟩, hS.F ht⟩) hS.2.2 dX0_lose_9
def xF_lines (S : XS) (p1 : Int32) : Int32 × XS := (if (xF_isBook p1) = 0 then ((-300000), S) else (let q4 := xF_endsAtBook S p1; (if q4.1 = 0 then ((xc q4.2 p1), q4.2) else ((xLf q4.2), q4.2))))
theorem hdX0_lines : yX0_lines.cls = RX0 ∧ yX0_lines.cls ≠ "java/lang/invoke/MethodHandle" ∧ yX0_lines.cls ≠ "java/lang/invoke/VarHandle" ∧ (parseMethodDescriptor yX0_lines.desc).map (fun d => d.parameters.length) = some 1 := by decide +kernel
set_option maxHeartbeats 4000000 in
set_option maxRecDepth 100000 in
theorem c_X0_lines (l : Launch) (D : va_G) (a : XA) (hO : xOk a) (S : XS) (p1 : Int32) : Met l yX0_lines wsX0_lines ({ frames := 2, cells := 0, slots := 0, locals := 42 }) (va_Pc [.ref (xa a), .int p1] (xB D a S)) (xQi D a (xF_lines S p1)) 0 0 (xA a) := by
  refine Met.ofW (cc := cX0_lines) (maxL := 2) (ret := (some .int)) (by decide) rfl ?_
  intro p e s m args below meth c s₁ B hml hv
  obtain ⟨rfl, hP, hK⟩ := hv
  have hx := B.exec
  have hb := B.bytes
  have hr := B.returns
  have hts := atoms_spec (ws := wsX0_lines) B.pre
  have hown : s.vm.findClass RX0 = some m.cls := findClass_of_methodNamed B.named
  have hlocks := B.notSynchronized
  have hS : va_S (xA a) s.heap s.heap [] := va_S.rf
  have hP : va_P D vwCl (xW a S) s.heap := hP
  have hu : ∀ w ∈ wsX00, w ∈ wsX0_lines := fun _ h => List.mem_cons_of_mem _ (List.mem_append_right _ h)
  have hf9 := hts (.fieldLink RX0 9 "FlightBooks" "lineCounts" "[I") (by decide +kernel)
  have hf37 := hts (.fieldLink RX0 37 "FlightBooks" "latestFault" "I") (by decide +kernel)
  have hk57 := hts (.constant RX0 57 (-300000)) (by decide +kernel)
  have hl := lv_entry ([.ref (xa a), .int p1]) (n := 2) (Nat.le_of_ble_eq_true rfl)
  rw [lg_entry_eq]
  generalize (lg_sl ([.ref (xa a), .int p1]) ++ List.replicate (2 - (lg_sl ([.ref (xa a), .int p1])).length) Slot.unset).toArray = ls at hl ⊢
  have hl : lv_has ls 2 [(0, .ref (xa a)), (1, .int p1)] := hl
  refine lv_iload_n hx hb dX0_lines_0 rfl (lv_at hl 1 rfl) ?_
  refine va_calli (va_runS (As := [.int p1]) (rest := []) ⟨hx, hb, hml, hown, hts⟩ (c_X0_isBook l p1) (va_cwS 1 hts gX0_lines_X0_isBook rfl rfl rfl hdX0_isBook ⟨Nat.le_of_ble_eq_true rfl, Nat.le_of_ble_eq_true rfl⟩) pPreS rfl rfl hl.1 rfl (lv_room (Nat.le_of_ble_eq_true rfl)) dX0_lines_1 ⟨Nat.zero_le _, Nat.zero_le _⟩) hS (fun q _ h => h.elim) (fun q h => h.elim) (fun r1 u1 t H1 locs ht hvm hw1 hB hz1 hk1 hS => ?_)
  have hP := P_kept hP hk1
  refine lv_if_ne (tgt := 10) hx hb dX0_lines_4 (by decide) (fun c2 => ?_) (fun c2 => ?_)
  · have hn3 := xe_book hw1 c2
    refine lv_aload_n hx hb dX0_lines_10 rfl (lv_at hl 0 rfl) ?_
    refine lv_iload_n hx hb dX0_lines_11 rfl (lv_at hl 1 rfl) ?_
    refine va_calli (va_runV (As := [.int p1]) (rest := []) ⟨hx, hb, hml, hown, hts⟩ (c_X0_endsAtBook l D a hO S p1 hn3) (cwV 1 hts gX0_lines_X0_endsAtBook rfl rfl rfl hdX0_endsAtBook ⟨Nat.le_of_ble_eq_true rfl, Nat.le_of_ble_eq_true rfl⟩) (xPreV hK hP) rfl rfl hl.1 rfl (lv_room (Nat.le_of_ble_eq_true rfl)) dX0_lines_12 ⟨Nat.zero_le _, Nat.zero_le _⟩) hS (fun q _ h => h) (fun q h => h) (fun r4 S4 t H1 locs ht hvm hw4 hB hz1 hk1 hS => ?_)
    obtain ⟨hP, -⟩ := hB
    rw [ht] at hP
    refine lv_if_eq (tgt := 23) hx hb dX0_lines_15 (by decide) (fun c6 => ?_) (fun c6 => ?_)
    · have hs7 := xe_endsAtBook hw4 c6
      subst hs7
      refine lv_aload_n hx hb dX0_lines_23 rfl (lv_at hl 0 rfl) ?_
      refine x_get hx hb hts hu hown hK hP 1 (by decide) hf9 rfl (v := .ref (xac a)) rfl dX0_lines_24 ?_
      refine lv_iload_n hx hb dX0_lines_27 rfl (lv_at hl 1 rfl) ?_
      refine x_ldc hx hb hK hP hn3 dX0_lines_28 ?_
      exact W.iret (v := (xc S p1)) hx hb hr (fun t ht hW => ⟨⟨(xc S p1), S, rfl, (by simp only [xF_lines, hw1, if_neg c2, hw4, if_pos c6]), by rw [ht]; exact hP, va_K.moved hW.alike hK⟩, hS.F ht⟩) hS.2.2 dX0_lines_29
    · refine lv_aload_n hx hb dX0_lines_18 rfl (lv_at hl 0 rfl) ?_
      refine x_get hx hb hts hu hown hK hP 9 (by decide) hf37 rfl (v := .int (xLf S4)) rfl dX0_lines_19 ?_
      exact W.iret (v := (xLf S4)) hx hb hr (fun t ht hW => ⟨⟨(xLf S4), S4, rfl, (by simp only [xF_lines, hw1, if_neg c2, hw4, if_neg c6]), by rw [ht]; exact hP, va_K.moved hW.alike hK⟩, hS.F ht⟩) hS.2.2 dX0_lines_22
  · refine lv_ldc (v := (-300000)) hx hb hown hk57 dX0_lines_7 ?_
    exact W.iret (v := (-300000)) hx hb hr (fun t ht hW => ⟨⟨(-300000), S, rfl, (by simp only [xF_lines, hw1, if_pos c2]), by rw [ht]; exact hP, va_K.moved hW.alike hK⟩, hS.F ht⟩) hS.2.2 dX0_lines_9
def xF_read (S : XS) (p1 p2 : Int32) : Int32 × XS := (if (xF_isBook p1) = 0 then ((-300000), S) else (let q4 := xF_endsAtLine S p1 p2; (if q4.1 = 0 then ((xh q4.2 p1 p2), q4.2) else ((xLf q4.2), q4.2))))
theorem hdX0_read : yX0_read.cls = RX0 ∧ yX0_read.cls ≠ "java/lang/invoke/MethodHandle" ∧ yX0_read.cls ≠ "java/lang/invoke/VarHandle" ∧ (parseMethodDescriptor yX0_read.desc).map (fun d => d.parameters.length) = some 2 := by decide +kernel
set_option maxHeartbeats 4000000 in
set_option maxRecDepth 100000 in
theorem c_X0_read (l : Launch) (D : va_G) (a : XA) (hO : xOk a) (S : XS) (p1 p2 : Int32) (hI : xI S) : Met l yX0_read wsX0_read ({ frames := 3, cells := 0, slots := 0, locals := 64 }) (va_Pc [.ref (xa a), .int p1, .int p2] (xB D a S)) (xQi D a (xF_read S p1 p2)) 0 0 (xA a) := by
  refine Met.ofW (cc := cX0_read) (maxL := 3) (ret := (some .int)) (by decide) rfl ?_
  intro p e s m args below meth c s₁ B hml hv
  obtain ⟨rfl, hP, hK⟩ := hv
  have hx := B.exec
  have hb := B.bytes
  have hr := B.returns
  have hts := atoms_spec (ws := wsX0_read) B.pre
  have hown : s.vm.findClass RX0 = some m.cls := findClass_of_methodNamed B.named
  have hlocks := B.notSynchronized
  have hS : va_S (xA a) s.heap s.heap [] := va_S.rf
  have hP : va_P D vwCl (xW a S) s.heap := hP
  have hu : ∀ w ∈ wsX00, w ∈ wsX0_read := fun _ h => List.mem_cons_of_mem _ (List.mem_append_right _ h)
  have hf15 := hts (.fieldLink RX0 15 "FlightBooks" "held" "[[I") (by decide +kernel)
  have hf37 := hts (.fieldLink RX0 37 "FlightBooks" "latestFault" "I") (by decide +kernel)
  have hk57 := hts (.constant RX0 57 (-300000)) (by decide +kernel)
  have hl := lv_entry ([.ref (xa a), .int p1, .int p2]) (n := 3) (Nat.le_of_ble_eq_true rfl)
  rw [lg_entry_eq]
  generalize (lg_sl ([.ref (xa a), .int p1, .int p2]) ++ List.replicate (3 - (lg_sl ([.ref (xa a), .int p1, .int p2])).length) Slot.unset).toArray = ls at hl ⊢
  have hl : lv_has ls 3 [(0, .ref (xa a)), (1, .int p1), (2, .int p2)] := hl
  refine lv_iload_n hx hb dX0_read_0 rfl (lv_at hl 1 rfl) ?_
  refine va_calli (va_runS (As := [.int p1]) (rest := []) ⟨hx, hb, hml, hown, hts⟩ (c_X0_isBook l p1) (va_cwS 1 hts gX0_read_X0_isBook rfl rfl rfl hdX0_isBook ⟨Nat.le_of_ble_eq_true rfl, Nat.le_of_ble_eq_true rfl⟩) pPreS rfl rfl hl.1 rfl (lv_room (Nat.le_of_ble_eq_true rfl)) dX0_read_1 ⟨Nat.zero_le _, Nat.zero_le _⟩) hS (fun q _ h => h.elim) (fun q h => h.elim) (fun r1 u1 t H1 locs ht hvm hw1 hB hz1 hk1 hS => ?_)
  have hP := P_kept hP hk1
  refine lv_if_ne (tgt := 10) hx hb dX0_read_4 (by decide) (fun c2 => ?_) (fun c2 => ?_)
  · have hn3 := xe_book hw1 c2
    refine lv_aload_n hx hb dX0_read_10 rfl (lv_at hl 0 rfl) ?_
    refine lv_iload_n hx hb dX0_read_11 rfl (lv_at hl 1 rfl) ?_
    refine lv_iload_n hx hb dX0_read_12 rfl (lv_at hl 2 rfl) ?_
    refine va_calli (va_runV (As := [.int p1, .int p2]) (rest := []) ⟨hx, hb, hml, hown, hts⟩ (c_X0_endsAtLine l D a hO S p1 p2 hI hn3) (cwV 2 hts gX0_read_X0_endsAtLine rfl rfl rfl hdX0_endsAtLine ⟨Nat.le_of_ble_eq_true rfl, Nat.le_of_ble_eq_true rfl⟩) (xPreV hK hP) rfl rfl hl.1 rfl (lv_room (Nat.le_of_ble_eq_true rfl)) dX0_read_13 ⟨Nat.zero_le _, Nat.zero_le _⟩) hS (fun q _ h => h) (fun q h => h) (fun r4 S4 t H1 locs ht hvm hw4 hB hz1 hk1 hS => ?_)
    obtain ⟨hP, -⟩ := hB
    rw [ht] at hP
    refine lv_if_eq (tgt := 24) hx hb dX0_read_16 (by decide) (fun c6 => ?_) (fun c6 => ?_)
    · obtain ⟨hn7, hs7⟩ := xe_endsAtLine hI hn3 hw4 c6
      subst hs7
      refine lv_aload_n hx hb dX0_read_24 rfl (lv_at hl 0 rfl) ?_
      refine x_get hx hb hts hu hown hK hP 2 (by decide) hf15 rfl (v := .ref (xah a)) rfl dX0_read_25 ?_
      refine lv_iload_n hx hb dX0_read_28 rfl (lv_at hl 1 rfl) ?_
      refine x_aldh hx hb hK hP hn3 dX0_read_29 ?_
      refine lv_iload_n hx hb dX0_read_30 rfl (lv_at hl 2 rfl) ?_
      refine x_ldh hx hb hK hP hn3 hn7 dX0_read_31 ?_
      exact W.iret (v := (xh S p1 p2)) hx hb hr (fun t ht hW => ⟨⟨(xh S p1 p2), S, rfl, (by simp only [xF_read, hw1, if_neg c2, hw4, if_pos c6]), by rw [ht]; exact hP, va_K.moved hW.alike hK⟩, hS.F ht⟩) hS.2.2 dX0_read_32
    · refine lv_aload_n hx hb dX0_read_19 rfl (lv_at hl 0 rfl) ?_
      refine x_get hx hb hts hu hown hK hP 9 (by decide) hf37 rfl (v := .int (xLf S4)) rfl dX0_read_20 ?_
      exact W.iret (v := (xLf S4)) hx hb hr (fun t ht hW => ⟨⟨(xLf S4), S4, rfl, (by simp only [xF_read, hw1, if_neg c2, hw4, if_neg c6]), by rw [ht]; exact hP, va_K.moved hW.alike hK⟩, hS.F ht⟩) hS.2.2 dX0_read_23
  · refine lv_ldc (v := (-300000)) hx hb hown hk57 dX0_read_7 ?_
    exact W.iret (v := (-300000)) hx hb hr (fun t ht hW => ⟨⟨(-300000), S, rfl, (by simp only [xF_read, hw1, if_pos c2]), by rw [ht]; exact hP, va_K.moved hW.alike hK⟩, hS.F ht⟩) hS.2.2 dX0_read_9
def xF_write (S : XS) (p1 p2 p3 : Int32) : Int32 × XS := (if (xF_isBook p1) = 0 then ((-300000), S) else (if p1 = 2 then (if (xF_isToldLoad p3) = 0 then ((-300000), S) else (let q16 := xF_endsAtLine S p1 p2; (if q16.1 = 0 then (let q20 := xF_put q16.2 p1 p2 p3; (0, q20)) else ((xLf q16.2), q16.2)))) else (let q6 := xF_endsAtLine S p1 p2; (if q6.1 = 0 then (let q10 := xF_put q6.2 p1 p2 p3; (0, q10)) else ((xLf q6.2), q6.2)))))
theorem hdX0_write : yX0_write.cls = RX0 ∧ yX0_write.cls ≠ "java/lang/invoke/MethodHandle" ∧ yX0_write.cls ≠ "java/lang/invoke/VarHandle" ∧ (parseMethodDescriptor yX0_write.desc).map (fun d => d.parameters.length) = some 3 := by decide +kernel
set_option maxHeartbeats 4000000 in
set_option maxRecDepth 100000 in
theorem c_X0_write (l : Launch) (D : va_G) (a : XA) (hO : xOk a) (S : XS) (p1 p2 p3 : Int32) (hI : xI S) : Met l yX0_write wsX0_write ({ frames := 4, cells := 0, slots := 0, locals := 86 }) (va_Pc [.ref (xa a), .int p1, .int p2, .int p3] (xB D a S)) (xQi D a (xF_write S p1 p2 p3)) 0 0 (xA a) := by
  refine Met.ofW (cc := cX0_write) (maxL := 4) (ret := (some .int)) (by decide) rfl ?_
  intro p e s m args below meth c s₁ B hml hv
  obtain ⟨rfl, hP, hK⟩ := hv
  have hx := B.exec
  have hb := B.bytes
  have hr := B.returns
  have hts := atoms_spec (ws := wsX0_write) B.pre
  have hown : s.vm.findClass RX0 = some m.cls := findClass_of_methodNamed B.named
  have hlocks := B.notSynchronized
  have hS : va_S (xA a) s.heap s.heap [] := va_S.rf
  have hP : va_P D vwCl (xW a S) s.heap := hP
  have hu : ∀ w ∈ wsX00, w ∈ wsX0_write := fun _ h => List.mem_cons_of_mem _ (List.mem_append_right _ h)
  have hk57 := hts (.constant RX0 57 (-300000)) (by decide +kernel)
  have hf37 := hts (.fieldLink RX0 37 "FlightBooks" "latestFault" "I") (by decide +kernel)
  have hl := lv_entry ([.ref (xa a), .int p1, .int p2, .int p3]) (n := 4) (Nat.le_of_ble_eq_true rfl)
  rw [lg_entry_eq]
  generalize (lg_sl ([.ref (xa a), .int p1, .int p2, .int p3]) ++ List.replicate (4 - (lg_sl ([.ref (xa a), .int p1, .int p2, .int p3])).length) Slot.unset).toArray = ls at hl ⊢
  have hl : lv_has ls 4 [(0, .ref (xa a)), (1, .int p1), (2, .int p2), (3, .int p3)] := hl
  refine lv_iload_n hx hb dX0_write_0 rfl (lv_at hl 1 rfl) ?_
  refine va_calli (va_runS (As := [.int p1]) (rest := []) ⟨hx, hb, hml, hown, hts⟩ (c_X0_isBook l p1) (va_cwS 1 hts gX0_write_X0_isBook rfl rfl rfl hdX0_isBook ⟨Nat.le_of_ble_eq_true rfl, Nat.le_of_ble_eq_true rfl⟩) pPreS rfl rfl hl.1 rfl (lv_room (Nat.le_of_ble_eq_true rfl)) dX0_write_1 ⟨Nat.zero_le _, Nat.zero_le _⟩) hS (fun q _ h => h.elim) (fun q h => h.elim) (fun r1 u1 t H1 locs ht hvm hw1 hB hz1 hk1 hS => ?_)
  have hP := P_kept hP hk1
  refine lv_if_eq (tgt := 19) hx hb dX0_write_4 (by decide) (fun c2 => ?_) (fun c2 => ?_)
  · refine lv_ldc (v := (-300000)) hx hb hown hk57 dX0_write_19 ?_
    exact W.iret (v := (-300000)) hx hb hr (fun t ht hW => ⟨⟨(-300000), S, rfl, (by simp only [xF_write, hw1, if_pos c2]), by rw [ht]; exact hP, va_K.moved hW.alike hK⟩, hS.F ht⟩) hS.2.2 dX0_write_21
  · have hn4 := xe_book hw1 c2
    refine lv_iload_n hx hb dX0_write_7 rfl (lv_at hl 1 rfl) ?_
    refine lv_iconst (v := 2) hx hb dX0_write_8 (by decide) ?_
    refine lv_icmp_ne (tgt := 22) hx hb dX0_write_9 (by decide) (fun c5 => ?_) (fun c5 => ?_)
    · refine lv_aload_n hx hb dX0_write_22 rfl (lv_at hl 0 rfl) ?_
      refine lv_iload_n hx hb dX0_write_23 rfl (lv_at hl 1 rfl) ?_
      refine lv_iload_n hx hb dX0_write_24 rfl (lv_at hl 2 rfl) ?_
      refine va_calli (va_runV (As := [.int p1, .int p2]) (rest := []) ⟨hx, hb, hml, hown, hts⟩ (c_X0_endsAtLine l D a hO S p1 p2 hI hn4) (cwV 2 hts gX0_write_X0_endsAtLine rfl rfl rfl hdX0_endsAtLine ⟨Nat.le_of_ble_eq_true rfl, Nat.le_of_ble_eq_true rfl⟩) (xPreV hK hP) rfl rfl hl.1 rfl (lv_room (Nat.le_of_ble_eq_true rfl)) dX0_write_25 ⟨Nat.zero_le _, Nat.zero_le _⟩) hS (fun q _ h => h) (fun q h => h) (fun r6 S6 t H1 locs ht hvm hw6 hB hz1 hk1 hS => ?_)
      obtain ⟨hP, -⟩ := hB
      rw [ht] at hP
      refine lv_if_eq (tgt := 36) hx hb dX0_write_28 (by decide) (fun c8 => ?_) (fun c8 => ?_)
      · obtain ⟨hn9, hs9⟩ := xe_endsAtLine hI hn4 hw6 c8
        subst hs9
        refine lv_aload_n hx hb dX0_write_36 rfl (lv_at hl 0 rfl) ?_
        refine lv_iload_n hx hb dX0_write_37 rfl (lv_at hl 1 rfl) ?_
        refine lv_iload_n hx hb dX0_write_38 rfl (lv_at hl 2 rfl) ?_
        refine lv_iload_n hx hb dX0_write_39 rfl (lv_at hl 3 rfl) ?_
        refine va_callv (va_runV (As := [.int p1, .int p2, .int p3]) (rest := []) ⟨hx, hb, hml, hown, hts⟩ (c_X0_put l D a hO S p1 p2 p3 hn4 hn9) (cwV 3 hts gX0_write_X0_put rfl rfl rfl hdX0_put ⟨Nat.le_of_ble_eq_true rfl, Nat.le_of_ble_eq_true rfl⟩) (xPreV hK hP) rfl rfl hl.1 rfl (lv_room (Nat.le_of_ble_eq_true rfl)) dX0_write_40 ⟨Nat.zero_le _, Nat.zero_le _⟩) hS (fun q _ h => h) (fun q h => h) (fun S10 t H1 locs ht hvm hw10 hB hz1 hk1 hS => ?_)
        obtain ⟨hP, -⟩ := hB
        rw [ht] at hP
        have hI := xI_put hI hw10
        refine lv_iconst (v := 0) hx hb dX0_write_43 (by decide) ?_
        exact W.iret (v := 0) hx hb hr (fun t ht hW => ⟨⟨0, S10, rfl, (by simp only [xF_write, hw1, if_neg c2, if_neg c5, hw6, if_pos c8, hw10]), by rw [ht]; exact hP, va_K.moved hW.alike hK⟩, hS.F ht⟩) hS.2.2 dX0_write_44
      · refine lv_aload_n hx hb dX0_write_31 rfl (lv_at hl 0 rfl) ?_
        refine x_get hx hb hts hu hown hK hP 9 (by decide) hf37 rfl (v := .int (xLf S6)) rfl dX0_write_32 ?_
        exact W.iret (v := (xLf S6)) hx hb hr (fun t ht hW => ⟨⟨(xLf S6), S6, rfl, (by simp only [xF_write, hw1, if_neg c2, if_neg c5, hw6, if_neg c8]), by rw [ht]; exact hP, va_K.moved hW.alike hK⟩, hS.F ht⟩) hS.2.2 dX0_write_35
    · refine lv_iload_n hx hb dX0_write_12 rfl (lv_at hl 3 rfl) ?_
      refine va_calli (va_runS (As := [.int p3]) (rest := []) ⟨hx, hb, hml, hown, hts⟩ (c_X0_isToldLoad l p3) (va_cwS 1 hts gX0_write_X0_isToldLoad rfl rfl rfl hdX0_isToldLoad ⟨Nat.le_of_ble_eq_true rfl, Nat.le_of_ble_eq_true rfl⟩) pPreS rfl rfl hl.1 rfl (lv_room (Nat.le_of_ble_eq_true rfl)) dX0_write_13 ⟨Nat.zero_le _, Nat.zero_le _⟩) hS (fun q _ h => h.elim) (fun q h => h.elim) (fun r13 u13 t H1 locs ht hvm hw13 hB hz1 hk1 hS => ?_)
      have hP := P_kept hP hk1
      refine lv_if_ne (tgt := 22) hx hb dX0_write_16 (by decide) (fun c14 => ?_) (fun c14 => ?_)
      · refine lv_aload_n hx hb dX0_write_22 rfl (lv_at hl 0 rfl) ?_
        refine lv_iload_n hx hb dX0_write_23 rfl (lv_at hl 1 rfl) ?_
        refine lv_iload_n hx hb dX0_write_24 rfl (lv_at hl 2 rfl) ?_
        refine va_calli (va_runV (As := [.int p1, .int p2]) (rest := []) ⟨hx, hb, hml, hown, hts⟩ (c_X0_endsAtLine l D a hO S p1 p2 hI hn4) (cwV 2 hts gX0_write_X0_endsAtLine rfl rfl rfl hdX0_endsAtLine ⟨Nat.le_of_ble_eq_true rfl, Nat.le_of_ble_eq_true rfl⟩) (xPreV hK hP) rfl rfl hl.1 rfl (lv_room (Nat.le_of_ble_eq_true rfl)) dX0_write_25 ⟨Nat.zero_le _, Nat.zero_le _⟩) hS (fun q _ h => h) (fun q h => h) (fun r16 S16 t H1 locs ht hvm hw16 hB hz1 hk1 hS => ?_)
        obtain ⟨hP, -⟩ := hB
        rw [ht] at hP
        refine lv_if_eq (tgt := 36) hx hb dX0_write_28 (by decide) (fun c18 => ?_) (fun c18 => ?_)
        · obtain ⟨hn19, hs19⟩ := xe_endsAtLine hI hn4 hw16 c18
          subst hs19
          refine lv_aload_n hx hb dX0_write_36 rfl (lv_at hl 0 rfl) ?_
          refine lv_iload_n hx hb dX0_write_37 rfl (lv_at hl 1 rfl) ?_
          refine lv_iload_n hx hb dX0_write_38 rfl (lv_at hl 2 rfl) ?_
          refine lv_iload_n hx hb dX0_write_39 rfl (lv_at hl 3 rfl) ?_
          refine va_callv (va_runV (As := [.int p1, .int p2, .int p3]) (rest := []) ⟨hx, hb, hml, hown, hts⟩ (c_X0_put l D a hO S p1 p2 p3 hn4 hn19) (cwV 3 hts gX0_write_X0_put rfl rfl rfl hdX0_put ⟨Nat.le_of_ble_eq_true rfl, Nat.le_of_ble_eq_true rfl⟩) (xPreV hK hP) rfl rfl hl.1 rfl (lv_room (Nat.le_of_ble_eq_true rfl)) dX0_write_40 ⟨Nat.zero_le _, Nat.zero_le _⟩) hS (fun q _ h => h) (fun q h => h) (fun S20 t H1 locs ht hvm hw20 hB hz1 hk1 hS => ?_)
          obtain ⟨hP, -⟩ := hB
          rw [ht] at hP
          have hI := xI_put hI hw20
          refine lv_iconst (v := 0) hx hb dX0_write_43 (by decide) ?_
          exact W.iret (v := 0) hx hb hr (fun t ht hW => ⟨⟨0, S20, rfl, (by simp only [xF_write, hw1, if_neg c2, if_pos c5, hw13, if_neg c14, hw16, if_pos c18, hw20]), by rw [ht]; exact hP, va_K.moved hW.alike hK⟩, hS.F ht⟩) hS.2.2 dX0_write_44
        · refine lv_aload_n hx hb dX0_write_31 rfl (lv_at hl 0 rfl) ?_
          refine x_get hx hb hts hu hown hK hP 9 (by decide) hf37 rfl (v := .int (xLf S16)) rfl dX0_write_32 ?_
          exact W.iret (v := (xLf S16)) hx hb hr (fun t ht hW => ⟨⟨(xLf S16), S16, rfl, (by simp only [xF_write, hw1, if_neg c2, if_pos c5, hw13, if_neg c14, hw16, if_neg c18]), by rw [ht]; exact hP, va_K.moved hW.alike hK⟩, hS.F ht⟩) hS.2.2 dX0_write_35
      · refine lv_ldc (v := (-300000)) hx hb hown hk57 dX0_write_19 ?_
        exact W.iret (v := (-300000)) hx hb hr (fun t ht hW => ⟨⟨(-300000), S, rfl, (by simp only [xF_write, hw1, if_neg c2, if_pos c5, hw13, if_pos c14]), by rw [ht]; exact hP, va_K.moved hW.alike hK⟩, hS.F ht⟩) hS.2.2 dX0_write_21
def xF_change (S : XS) (p1 p2 p3 p4 : Int32) : Int32 × XS := (if (xF_isBook p1) = 0 then ((-300000), S) else (if p3 < 0 then ((-300000), S) else (if p3 ≤ 3 then (if p1 = 2 then (if p3 = 0 then (if (xF_isToldLoad p4) = 0 then ((-300000), S) else (let q20 := xF_endsAtLine S p1 p2; (if q20.1 = 0 then (let q25 := xF_put q20.2 p1 p2 (xF_changed p1 (xh q20.2 p1 p2) p3 p4); ((xh q25 p1 p2), q25)) else ((xLf q20.2), q20.2)))) else (if p3 = 1 then (if (xF_isToldLoad p4) = 0 then ((-300000), S) else (let q41 := xF_endsAtLine S p1 p2; (if q41.1 = 0 then (let q46 := xF_put q41.2 p1 p2 (xF_changed p1 (xh q41.2 p1 p2) p3 p4); ((xh q46 p1 p2), q46)) else ((xLf q41.2), q41.2)))) else (let q30 := xF_endsAtLine S p1 p2; (if q30.1 = 0 then (let q35 := xF_put q30.2 p1 p2 (xF_changed p1 (xh q30.2 p1 p2) p3 p4); ((xh q35 p1 p2), q35)) else ((xLf q30.2), q30.2))))) else (let q8 := xF_endsAtLine S p1 p2; (if q8.1 = 0 then (let q13 := xF_put q8.2 p1 p2 (xF_changed p1 (xh q8.2 p1 p2) p3 p4); ((xh q13 p1 p2), q13)) else ((xLf q8.2), q8.2)))) else ((-300000), S))))
theorem hdX0_change : yX0_change.cls = RX0 ∧ yX0_change.cls ≠ "java/lang/invoke/MethodHandle" ∧ yX0_change.cls ≠ "java/lang/invoke/VarHandle" ∧ (parseMethodDescriptor yX0_change.desc).map (fun d => d.parameters.length) = some 4 := by decide +kernel
set_option maxHeartbeats 4000000 in
set_option maxRecDepth 100000 in
theorem c_X0_change (l : Launch) (D : va_G) (a : XA) (hO : xOk a) (S : XS) (p1 p2 p3 p4 : Int32) (hI : xI S) : Met l yX0_change wsX0_change ({ frames := 4, cells := 0, slots := 0, locals := 86 }) (va_Pc [.ref (xa a), .int p1, .int p2, .int p3, .int p4] (xB D a S)) (xQi D a (xF_change S p1 p2 p3 p4)) 0 0 (xA a) := by
  refine Met.ofW (cc := cX0_change) (maxL := 5) (ret := (some .int)) (by decide) rfl ?_
  intro p e s m args below meth c s₁ B hml hv
  obtain ⟨rfl, hP, hK⟩ := hv
  have hx := B.exec
  have hb := B.bytes
  have hr := B.returns
  have hts := atoms_spec (ws := wsX0_change) B.pre
  have hown : s.vm.findClass RX0 = some m.cls := findClass_of_methodNamed B.named
  have hlocks := B.notSynchronized
  have hS : va_S (xA a) s.heap s.heap [] := va_S.rf
  have hP : va_P D vwCl (xW a S) s.heap := hP
  have hu : ∀ w ∈ wsX00, w ∈ wsX0_change := fun _ h => List.mem_cons_of_mem _ (List.mem_append_right _ h)
  have hk57 := hts (.constant RX0 57 (-300000)) (by decide +kernel)
  have hf15 := hts (.fieldLink RX0 15 "FlightBooks" "held" "[[I") (by decide +kernel)
  have hf37 := hts (.fieldLink RX0 37 "FlightBooks" "latestFault" "I") (by decide +kernel)
  have hl := lv_entry ([.ref (xa a), .int p1, .int p2, .int p3, .int p4]) (n := 5) (Nat.le_of_ble_eq_true rfl)
  rw [lg_entry_eq]
  generalize (lg_sl ([.ref (xa a), .int p1, .int p2, .int p3, .int p4]) ++ List.replicate (5 - (lg_sl ([.ref (xa a), .int p1, .int p2, .int p3, .int p4])).length) Slot.unset).toArray = ls at hl ⊢
  have hl : lv_has ls 5 [(0, .ref (xa a)), (1, .int p1), (2, .int p2), (3, .int p3), (4, .int p4)] := hl
  refine lv_iload_n hx hb dX0_change_0 rfl (lv_at hl 1 rfl) ?_
  refine va_calli (va_runS (As := [.int p1]) (rest := []) ⟨hx, hb, hml, hown, hts⟩ (c_X0_isBook l p1) (va_cwS 1 hts gX0_change_X0_isBook rfl rfl rfl hdX0_isBook ⟨Nat.le_of_ble_eq_true rfl, Nat.le_of_ble_eq_true rfl⟩) pPreS rfl rfl hl.1 rfl (lv_room (Nat.le_of_ble_eq_true rfl)) dX0_change_1 ⟨Nat.zero_le _, Nat.zero_le _⟩) hS (fun q _ h => h.elim) (fun q h => h.elim) (fun r1 u1 t H1 locs ht hvm hw1 hB hz1 hk1 hS => ?_)
  have hP := P_kept hP hk1
  refine lv_if_eq (tgt := 16) hx hb dX0_change_4 (by decide) (fun c2 => ?_) (fun c2 => ?_)
  · refine lv_ldc (v := (-300000)) hx hb hown hk57 dX0_change_16 ?_
    exact W.iret (v := (-300000)) hx hb hr (fun t ht hW => ⟨⟨(-300000), S, rfl, (by simp only [xF_change, hw1, if_pos c2]), by rw [ht]; exact hP, va_K.moved hW.alike hK⟩, hS.F ht⟩) hS.2.2 dX0_change_18
  · have hn4 := xe_book hw1 c2
    refine lv_iload_n hx hb dX0_change_7 rfl (lv_at hl 3 rfl) ?_
    refine lv_if_lt (tgt := 16) hx hb dX0_change_8 (by decide) (fun c5 => ?_) (fun c5 => ?_)
    · refine lv_ldc (v := (-300000)) hx hb hown hk57 dX0_change_16 ?_
      exact W.iret (v := (-300000)) hx hb hr (fun t ht hW => ⟨⟨(-300000), S, rfl, (by simp only [xF_change, hw1, if_neg c2, if_pos c5]), by rw [ht]; exact hP, va_K.moved hW.alike hK⟩, hS.F ht⟩) hS.2.2 dX0_change_18
    · refine lv_iload_n hx hb dX0_change_11 rfl (lv_at hl 3 rfl) ?_
      refine lv_iconst (v := 3) hx hb dX0_change_12 (by decide) ?_
      refine lv_icmp_le (tgt := 19) hx hb dX0_change_13 (by decide) (fun c6 => ?_) (fun c6 => ?_)
      · refine lv_iload_n hx hb dX0_change_19 rfl (lv_at hl 1 rfl) ?_
        refine lv_iconst (v := 2) hx hb dX0_change_20 (by decide) ?_
        refine lv_icmp_ne (tgt := 44) hx hb dX0_change_21 (by decide) (fun c7 => ?_) (fun c7 => ?_)
        · refine lv_aload_n hx hb dX0_change_44 rfl (lv_at hl 0 rfl) ?_
          refine lv_iload_n hx hb dX0_change_45 rfl (lv_at hl 1 rfl) ?_
          refine lv_iload_n hx hb dX0_change_46 rfl (lv_at hl 2 rfl) ?_
          refine va_calli (va_runV (As := [.int p1, .int p2]) (rest := []) ⟨hx, hb, hml, hown, hts⟩ (c_X0_endsAtLine l D a hO S p1 p2 hI hn4) (cwV 2 hts gX0_change_X0_endsAtLine rfl rfl rfl hdX0_endsAtLine ⟨Nat.le_of_ble_eq_true rfl, Nat.le_of_ble_eq_true rfl⟩) (xPreV hK hP) rfl rfl hl.1 rfl (lv_room (Nat.le_of_ble_eq_true rfl)) dX0_change_47 ⟨Nat.zero_le _, Nat.zero_le _⟩) hS (fun q _ h => h) (fun q h => h) (fun r8 S8 t H1 locs ht hvm hw8 hB hz1 hk1 hS => ?_)
          obtain ⟨hP, -⟩ := hB
          rw [ht] at hP
          refine lv_if_eq (tgt := 58) hx hb dX0_change_50 (by decide) (fun c10 => ?_) (fun c10 => ?_)
          · obtain ⟨hn11, hs11⟩ := xe_endsAtLine hI hn4 hw8 c10
            subst hs11
            refine lv_aload_n hx hb dX0_change_58 rfl (lv_at hl 0 rfl) ?_
            refine lv_iload_n hx hb dX0_change_59 rfl (lv_at hl 1 rfl) ?_
            refine lv_iload_n hx hb dX0_change_60 rfl (lv_at hl 2 rfl) ?_
            refine lv_iload_n hx hb dX0_change_61 rfl (lv_at hl 1 rfl) ?_
            refine lv_aload_n hx hb dX0_change_62 rfl (lv_at hl 0 rfl) ?_
            refine x_get hx hb hts hu hown hK hP 2 (by decide) hf15 rfl (v := .ref (xah a)) rfl dX0_change_63 ?_
            refine lv_iload_n hx hb dX0_change_66 rfl (lv_at hl 1 rfl) ?_
            refine x_aldh hx hb hK hP hn4 dX0_change_67 ?_
            refine lv_iload_n hx hb dX0_change_68 rfl (lv_at hl 2 rfl) ?_
            refine x_ldh hx hb hK hP hn4 hn11 dX0_change_69 ?_
            refine lv_iload_n hx hb dX0_change_70 rfl (lv_at hl 3 rfl) ?_
            refine lv_iload hx hb dX0_change_71 (lv_at hl 4 rfl) ?_
            refine va_calli (va_runS (As := [.int p1, .int (xh S p1 p2), .int p3, .int p4]) (rest := [.int p2, .int p1, .ref (xa a)]) ⟨hx, hb, hml, hown, hts⟩ (c_X0_changed l p1 (xh S p1 p2) p3 p4) (va_cwS 4 hts gX0_change_X0_changed rfl rfl rfl hdX0_changed ⟨Nat.le_of_ble_eq_true rfl, Nat.le_of_ble_eq_true rfl⟩) pPreS rfl rfl hl.1 rfl (lv_room (Nat.le_of_ble_eq_true rfl)) dX0_change_73 ⟨Nat.zero_le _, Nat.zero_le _⟩) hS (fun q _ h => h.elim) (fun q h => h.elim) (fun r12 u12 t H1 locs ht hvm hw12 hB hz1 hk1 hS => ?_)
            have hP := P_kept hP hk1
            refine va_callv (va_runV (As := [.int p1, .int p2, .int r12]) (rest := []) ⟨hx, hb, hml, hown, hts⟩ (c_X0_put l D a hO S p1 p2 r12 hn4 hn11) (cwV 3 hts gX0_change_X0_put rfl rfl rfl hdX0_put ⟨Nat.le_of_ble_eq_true rfl, Nat.le_of_ble_eq_true rfl⟩) (xPreV hK hP) rfl rfl hl.1 rfl (lv_room (Nat.le_of_ble_eq_true rfl)) dX0_change_76 ⟨Nat.zero_le _, Nat.zero_le _⟩) hS (fun q _ h => h) (fun q h => h) (fun S13 t H1 locs ht hvm hw13 hB hz1 hk1 hS => ?_)
            obtain ⟨hP, -⟩ := hB
            rw [ht] at hP
            have hI := xI_put hI hw13
            refine lv_aload_n hx hb dX0_change_79 rfl (lv_at hl 0 rfl) ?_
            refine x_get hx hb hts hu hown hK hP 2 (by decide) hf15 rfl (v := .ref (xah a)) rfl dX0_change_80 ?_
            refine lv_iload_n hx hb dX0_change_83 rfl (lv_at hl 1 rfl) ?_
            refine x_aldh hx hb hK hP hn4 dX0_change_84 ?_
            refine lv_iload_n hx hb dX0_change_85 rfl (lv_at hl 2 rfl) ?_
            refine x_ldh hx hb hK hP hn4 hn11 dX0_change_86 ?_
            exact W.iret (v := (xh S13 p1 p2)) hx hb hr (fun t ht hW => ⟨⟨(xh S13 p1 p2), S13, rfl, (by simp only [xF_change, hw1, if_neg c2, if_neg c5, if_pos c6, if_neg c7, hw8, if_pos c10, hw12, hw13]), by rw [ht]; exact hP, va_K.moved hW.alike hK⟩, hS.F ht⟩) hS.2.2 dX0_change_87
          · refine lv_aload_n hx hb dX0_change_53 rfl (lv_at hl 0 rfl) ?_
            refine x_get hx hb hts hu hown hK hP 9 (by decide) hf37 rfl (v := .int (xLf S8)) rfl dX0_change_54 ?_
            exact W.iret (v := (xLf S8)) hx hb hr (fun t ht hW => ⟨⟨(xLf S8), S8, rfl, (by simp only [xF_change, hw1, if_neg c2, if_neg c5, if_pos c6, if_neg c7, hw8, if_neg c10]), by rw [ht]; exact hP, va_K.moved hW.alike hK⟩, hS.F ht⟩) hS.2.2 dX0_change_57
        · refine lv_iload_n hx hb dX0_change_24 rfl (lv_at hl 3 rfl) ?_
          refine lv_if_eq (tgt := 33) hx hb dX0_change_25 (by decide) (fun c16 => ?_) (fun c16 => ?_)
          · refine lv_iload hx hb dX0_change_33 (lv_at hl 4 rfl) ?_
            refine va_calli (va_runS (As := [.int p4]) (rest := []) ⟨hx, hb, hml, hown, hts⟩ (c_X0_isToldLoad l p4) (va_cwS 1 hts gX0_change_X0_isToldLoad rfl rfl rfl hdX0_isToldLoad ⟨Nat.le_of_ble_eq_true rfl, Nat.le_of_ble_eq_true rfl⟩) pPreS rfl rfl hl.1 rfl (lv_room (Nat.le_of_ble_eq_true rfl)) dX0_change_35 ⟨Nat.zero_le _, Nat.zero_le _⟩) hS (fun q _ h => h.elim) (fun q h => h.elim) (fun r17 u17 t H1 locs ht hvm hw17 hB hz1 hk1 hS => ?_)
            have hP := P_kept hP hk1
            refine lv_if_ne (tgt := 44) hx hb dX0_change_38 (by decide) (fun c18 => ?_) (fun c18 => ?_)
            · refine lv_aload_n hx hb dX0_change_44 rfl (lv_at hl 0 rfl) ?_
              refine lv_iload_n hx hb dX0_change_45 rfl (lv_at hl 1 rfl) ?_
              refine lv_iload_n hx hb dX0_change_46 rfl (lv_at hl 2 rfl) ?_
              refine va_calli (va_runV (As := [.int p1, .int p2]) (rest := []) ⟨hx, hb, hml, hown, hts⟩ (c_X0_endsAtLine l D a hO S p1 p2 hI hn4) (cwV 2 hts gX0_change_X0_endsAtLine rfl rfl rfl hdX0_endsAtLine ⟨Nat.le_of_ble_eq_true rfl, Nat.le_of_ble_eq_true rfl⟩) (xPreV hK hP) rfl rfl hl.1 rfl (lv_room (Nat.le_of_ble_eq_true rfl)) dX0_change_47 ⟨Nat.zero_le _, Nat.zero_le _⟩) hS (fun q _ h => h) (fun q h => h) (fun r20 S20 t H1 locs ht hvm hw20 hB hz1 hk1 hS => ?_)
              obtain ⟨hP, -⟩ := hB
              rw [ht] at hP
              refine lv_if_eq (tgt := 58) hx hb dX0_change_50 (by decide) (fun c22 => ?_) (fun c22 => ?_)
              · obtain ⟨hn23, hs23⟩ := xe_endsAtLine hI hn4 hw20 c22
                subst hs23
                refine lv_aload_n hx hb dX0_change_58 rfl (lv_at hl 0 rfl) ?_
                refine lv_iload_n hx hb dX0_change_59 rfl (lv_at hl 1 rfl) ?_
                refine lv_iload_n hx hb dX0_change_60 rfl (lv_at hl 2 rfl) ?_
                refine lv_iload_n hx hb dX0_change_61 rfl (lv_at hl 1 rfl) ?_
                refine lv_aload_n hx hb dX0_change_62 rfl (lv_at hl 0 rfl) ?_
                refine x_get hx hb hts hu hown hK hP 2 (by decide) hf15 rfl (v := .ref (xah a)) rfl dX0_change_63 ?_
                refine lv_iload_n hx hb dX0_change_66 rfl (lv_at hl 1 rfl) ?_
                refine x_aldh hx hb hK hP hn4 dX0_change_67 ?_
                refine lv_iload_n hx hb dX0_change_68 rfl (lv_at hl 2 rfl) ?_
                refine x_ldh hx hb hK hP hn4 hn23 dX0_change_69 ?_
                refine lv_iload_n hx hb dX0_change_70 rfl (lv_at hl 3 rfl) ?_
                refine lv_iload hx hb dX0_change_71 (lv_at hl 4 rfl) ?_
                refine va_calli (va_runS (As := [.int p1, .int (xh S p1 p2), .int p3, .int p4]) (rest := [.int p2, .int p1, .ref (xa a)]) ⟨hx, hb, hml, hown, hts⟩ (c_X0_changed l p1 (xh S p1 p2) p3 p4) (va_cwS 4 hts gX0_change_X0_changed rfl rfl rfl hdX0_changed ⟨Nat.le_of_ble_eq_true rfl, Nat.le_of_ble_eq_true rfl⟩) pPreS rfl rfl hl.1 rfl (lv_room (Nat.le_of_ble_eq_true rfl)) dX0_change_73 ⟨Nat.zero_le _, Nat.zero_le _⟩) hS (fun q _ h => h.elim) (fun q h => h.elim) (fun r24 u24 t H1 locs ht hvm hw24 hB hz1 hk1 hS => ?_)
                have hP := P_kept hP hk1
                refine va_callv (va_runV (As := [.int p1, .int p2, .int r24]) (rest := []) ⟨hx, hb, hml, hown, hts⟩ (c_X0_put l D a hO S p1 p2 r24 hn4 hn23) (cwV 3 hts gX0_change_X0_put rfl rfl rfl hdX0_put ⟨Nat.le_of_ble_eq_true rfl, Nat.le_of_ble_eq_true rfl⟩) (xPreV hK hP) rfl rfl hl.1 rfl (lv_room (Nat.le_of_ble_eq_true rfl)) dX0_change_76 ⟨Nat.zero_le _, Nat.zero_le _⟩) hS (fun q _ h => h) (fun q h => h) (fun S25 t H1 locs ht hvm hw25 hB hz1 hk1 hS => ?_)
                obtain ⟨hP, -⟩ := hB
                rw [ht] at hP
                have hI := xI_put hI hw25
                refine lv_aload_n hx hb dX0_change_79 rfl (lv_at hl 0 rfl) ?_
                refine x_get hx hb hts hu hown hK hP 2 (by decide) hf15 rfl (v := .ref (xah a)) rfl dX0_change_80 ?_
                refine lv_iload_n hx hb dX0_change_83 rfl (lv_at hl 1 rfl) ?_
                refine x_aldh hx hb hK hP hn4 dX0_change_84 ?_
                refine lv_iload_n hx hb dX0_change_85 rfl (lv_at hl 2 rfl) ?_
                refine x_ldh hx hb hK hP hn4 hn23 dX0_change_86 ?_
                exact W.iret (v := (xh S25 p1 p2)) hx hb hr (fun t ht hW => ⟨⟨(xh S25 p1 p2), S25, rfl, (by simp only [xF_change, hw1, if_neg c2, if_neg c5, if_pos c6, if_pos c7, if_pos c16, hw17, if_neg c18, hw20, if_pos c22, hw24, hw25]), by rw [ht]; exact hP, va_K.moved hW.alike hK⟩, hS.F ht⟩) hS.2.2 dX0_change_87
              · refine lv_aload_n hx hb dX0_change_53 rfl (lv_at hl 0 rfl) ?_
                refine x_get hx hb hts hu hown hK hP 9 (by decide) hf37 rfl (v := .int (xLf S20)) rfl dX0_change_54 ?_
                exact W.iret (v := (xLf S20)) hx hb hr (fun t ht hW => ⟨⟨(xLf S20), S20, rfl, (by simp only [xF_change, hw1, if_neg c2, if_neg c5, if_pos c6, if_pos c7, if_pos c16, hw17, if_neg c18, hw20, if_neg c22]), by rw [ht]; exact hP, va_K.moved hW.alike hK⟩, hS.F ht⟩) hS.2.2 dX0_change_57
            · refine lv_ldc (v := (-300000)) hx hb hown hk57 dX0_change_41 ?_
              exact W.iret (v := (-300000)) hx hb hr (fun t ht hW => ⟨⟨(-300000), S, rfl, (by simp only [xF_change, hw1, if_neg c2, if_neg c5, if_pos c6, if_pos c7, if_pos c16, hw17, if_pos c18]), by rw [ht]; exact hP, va_K.moved hW.alike hK⟩, hS.F ht⟩) hS.2.2 dX0_change_43
          · refine lv_iload_n hx hb dX0_change_28 rfl (lv_at hl 3 rfl) ?_
            refine lv_iconst (v := 1) hx hb dX0_change_29 (by decide) ?_
            refine lv_icmp_ne (tgt := 44) hx hb dX0_change_30 (by decide) (fun c29 => ?_) (fun c29 => ?_)
            · refine lv_aload_n hx hb dX0_change_44 rfl (lv_at hl 0 rfl) ?_
              refine lv_iload_n hx hb dX0_change_45 rfl (lv_at hl 1 rfl) ?_
              refine lv_iload_n hx hb dX0_change_46 rfl (lv_at hl 2 rfl) ?_
              refine va_calli (va_runV (As := [.int p1, .int p2]) (rest := []) ⟨hx, hb, hml, hown, hts⟩ (c_X0_endsAtLine l D a hO S p1 p2 hI hn4) (cwV 2 hts gX0_change_X0_endsAtLine rfl rfl rfl hdX0_endsAtLine ⟨Nat.le_of_ble_eq_true rfl, Nat.le_of_ble_eq_true rfl⟩) (xPreV hK hP) rfl rfl hl.1 rfl (lv_room (Nat.le_of_ble_eq_true rfl)) dX0_change_47 ⟨Nat.zero_le _, Nat.zero_le _⟩) hS (fun q _ h => h) (fun q h => h) (fun r30 S30 t H1 locs ht hvm hw30 hB hz1 hk1 hS => ?_)
              obtain ⟨hP, -⟩ := hB
              rw [ht] at hP
              refine lv_if_eq (tgt := 58) hx hb dX0_change_50 (by decide) (fun c32 => ?_) (fun c32 => ?_)
              · obtain ⟨hn33, hs33⟩ := xe_endsAtLine hI hn4 hw30 c32
                subst hs33
                refine lv_aload_n hx hb dX0_change_58 rfl (lv_at hl 0 rfl) ?_
                refine lv_iload_n hx hb dX0_change_59 rfl (lv_at hl 1 rfl) ?_
                refine lv_iload_n hx hb dX0_change_60 rfl (lv_at hl 2 rfl) ?_
                refine lv_iload_n hx hb dX0_change_61 rfl (lv_at hl 1 rfl) ?_
                refine lv_aload_n hx hb dX0_change_62 rfl (lv_at hl 0 rfl) ?_
                refine x_get hx hb hts hu hown hK hP 2 (by decide) hf15 rfl (v := .ref (xah a)) rfl dX0_change_63 ?_
                refine lv_iload_n hx hb dX0_change_66 rfl (lv_at hl 1 rfl) ?_
                refine x_aldh hx hb hK hP hn4 dX0_change_67 ?_
                refine lv_iload_n hx hb dX0_change_68 rfl (lv_at hl 2 rfl) ?_
                refine x_ldh hx hb hK hP hn4 hn33 dX0_change_69 ?_
                refine lv_iload_n hx hb dX0_change_70 rfl (lv_at hl 3 rfl) ?_
                refine lv_iload hx hb dX0_change_71 (lv_at hl 4 rfl) ?_
                refine va_calli (va_runS (As := [.int p1, .int (xh S p1 p2), .int p3, .int p4]) (rest := [.int p2, .int p1, .ref (xa a)]) ⟨hx, hb, hml, hown, hts⟩ (c_X0_changed l p1 (xh S p1 p2) p3 p4) (va_cwS 4 hts gX0_change_X0_changed rfl rfl rfl hdX0_changed ⟨Nat.le_of_ble_eq_true rfl, Nat.le_of_ble_eq_true rfl⟩) pPreS rfl rfl hl.1 rfl (lv_room (Nat.le_of_ble_eq_true rfl)) dX0_change_73 ⟨Nat.zero_le _, Nat.zero_le _⟩) hS (fun q _ h => h.elim) (fun q h => h.elim) (fun r34 u34 t H1 locs ht hvm hw34 hB hz1 hk1 hS => ?_)
                have hP := P_kept hP hk1
                refine va_callv (va_runV (As := [.int p1, .int p2, .int r34]) (rest := []) ⟨hx, hb, hml, hown, hts⟩ (c_X0_put l D a hO S p1 p2 r34 hn4 hn33) (cwV 3 hts gX0_change_X0_put rfl rfl rfl hdX0_put ⟨Nat.le_of_ble_eq_true rfl, Nat.le_of_ble_eq_true rfl⟩) (xPreV hK hP) rfl rfl hl.1 rfl (lv_room (Nat.le_of_ble_eq_true rfl)) dX0_change_76 ⟨Nat.zero_le _, Nat.zero_le _⟩) hS (fun q _ h => h) (fun q h => h) (fun S35 t H1 locs ht hvm hw35 hB hz1 hk1 hS => ?_)
                obtain ⟨hP, -⟩ := hB
                rw [ht] at hP
                have hI := xI_put hI hw35
                refine lv_aload_n hx hb dX0_change_79 rfl (lv_at hl 0 rfl) ?_
                refine x_get hx hb hts hu hown hK hP 2 (by decide) hf15 rfl (v := .ref (xah a)) rfl dX0_change_80 ?_
                refine lv_iload_n hx hb dX0_change_83 rfl (lv_at hl 1 rfl) ?_
                refine x_aldh hx hb hK hP hn4 dX0_change_84 ?_
                refine lv_iload_n hx hb dX0_change_85 rfl (lv_at hl 2 rfl) ?_
                refine x_ldh hx hb hK hP hn4 hn33 dX0_change_86 ?_
                exact W.iret (v := (xh S35 p1 p2)) hx hb hr (fun t ht hW => ⟨⟨(xh S35 p1 p2), S35, rfl, (by simp only [xF_change, hw1, if_neg c2, if_neg c5, if_pos c6, if_pos c7, if_neg c16, if_neg c29, hw30, if_pos c32, hw34, hw35]), by rw [ht]; exact hP, va_K.moved hW.alike hK⟩, hS.F ht⟩) hS.2.2 dX0_change_87
              · refine lv_aload_n hx hb dX0_change_53 rfl (lv_at hl 0 rfl) ?_
                refine x_get hx hb hts hu hown hK hP 9 (by decide) hf37 rfl (v := .int (xLf S30)) rfl dX0_change_54 ?_
                exact W.iret (v := (xLf S30)) hx hb hr (fun t ht hW => ⟨⟨(xLf S30), S30, rfl, (by simp only [xF_change, hw1, if_neg c2, if_neg c5, if_pos c6, if_pos c7, if_neg c16, if_neg c29, hw30, if_neg c32]), by rw [ht]; exact hP, va_K.moved hW.alike hK⟩, hS.F ht⟩) hS.2.2 dX0_change_57
            · refine lv_iload hx hb dX0_change_33 (lv_at hl 4 rfl) ?_
              refine va_calli (va_runS (As := [.int p4]) (rest := []) ⟨hx, hb, hml, hown, hts⟩ (c_X0_isToldLoad l p4) (va_cwS 1 hts gX0_change_X0_isToldLoad rfl rfl rfl hdX0_isToldLoad ⟨Nat.le_of_ble_eq_true rfl, Nat.le_of_ble_eq_true rfl⟩) pPreS rfl rfl hl.1 rfl (lv_room (Nat.le_of_ble_eq_true rfl)) dX0_change_35 ⟨Nat.zero_le _, Nat.zero_le _⟩) hS (fun q _ h => h.elim) (fun q h => h.elim) (fun r38 u38 t H1 locs ht hvm hw38 hB hz1 hk1 hS => ?_)
              have hP := P_kept hP hk1
              refine lv_if_ne (tgt := 44) hx hb dX0_change_38 (by decide) (fun c39 => ?_) (fun c39 => ?_)
              · refine lv_aload_n hx hb dX0_change_44 rfl (lv_at hl 0 rfl) ?_
                refine lv_iload_n hx hb dX0_change_45 rfl (lv_at hl 1 rfl) ?_
                refine lv_iload_n hx hb dX0_change_46 rfl (lv_at hl 2 rfl) ?_
                refine va_calli (va_runV (As := [.int p1, .int p2]) (rest := []) ⟨hx, hb, hml, hown, hts⟩ (c_X0_endsAtLine l D a hO S p1 p2 hI hn4) (cwV 2 hts gX0_change_X0_endsAtLine rfl rfl rfl hdX0_endsAtLine ⟨Nat.le_of_ble_eq_true rfl, Nat.le_of_ble_eq_true rfl⟩) (xPreV hK hP) rfl rfl hl.1 rfl (lv_room (Nat.le_of_ble_eq_true rfl)) dX0_change_47 ⟨Nat.zero_le _, Nat.zero_le _⟩) hS (fun q _ h => h) (fun q h => h) (fun r41 S41 t H1 locs ht hvm hw41 hB hz1 hk1 hS => ?_)
                obtain ⟨hP, -⟩ := hB
                rw [ht] at hP
                refine lv_if_eq (tgt := 58) hx hb dX0_change_50 (by decide) (fun c43 => ?_) (fun c43 => ?_)
                · obtain ⟨hn44, hs44⟩ := xe_endsAtLine hI hn4 hw41 c43
                  subst hs44
                  refine lv_aload_n hx hb dX0_change_58 rfl (lv_at hl 0 rfl) ?_
                  refine lv_iload_n hx hb dX0_change_59 rfl (lv_at hl 1 rfl) ?_
                  refine lv_iload_n hx hb dX0_change_60 rfl (lv_at hl 2 rfl) ?_
                  refine lv_iload_n hx hb dX0_change_61 rfl (lv_at hl 1 rfl) ?_
                  refine lv_aload_n hx hb dX0_change_62 rfl (lv_at hl 0 rfl) ?_
                  refine x_get hx hb hts hu hown hK hP 2 (by decide) hf15 rfl (v := .ref (xah a)) rfl dX0_change_63 ?_
                  refine lv_iload_n hx hb dX0_change_66 rfl (lv_at hl 1 rfl) ?_
                  refine x_aldh hx hb hK hP hn4 dX0_change_67 ?_
                  refine lv_iload_n hx hb dX0_change_68 rfl (lv_at hl 2 rfl) ?_
                  refine x_ldh hx hb hK hP hn4 hn44 dX0_change_69 ?_
                  refine lv_iload_n hx hb dX0_change_70 rfl (lv_at hl 3 rfl) ?_
                  refine lv_iload hx hb dX0_change_71 (lv_at hl 4 rfl) ?_
                  refine va_calli (va_runS (As := [.int p1, .int (xh S p1 p2), .int p3, .int p4]) (rest := [.int p2, .int p1, .ref (xa a)]) ⟨hx, hb, hml, hown, hts⟩ (c_X0_changed l p1 (xh S p1 p2) p3 p4) (va_cwS 4 hts gX0_change_X0_changed rfl rfl rfl hdX0_changed ⟨Nat.le_of_ble_eq_true rfl, Nat.le_of_ble_eq_true rfl⟩) pPreS rfl rfl hl.1 rfl (lv_room (Nat.le_of_ble_eq_true rfl)) dX0_change_73 ⟨Nat.zero_le _, Nat.zero_le _⟩) hS (fun q _ h => h.elim) (fun q h => h.elim) (fun r45 u45 t H1 locs ht hvm hw45 hB hz1 hk1 hS => ?_)
                  have hP := P_kept hP hk1
                  refine va_callv (va_runV (As := [.int p1, .int p2, .int r45]) (rest := []) ⟨hx, hb, hml, hown, hts⟩ (c_X0_put l D a hO S p1 p2 r45 hn4 hn44) (cwV 3 hts gX0_change_X0_put rfl rfl rfl hdX0_put ⟨Nat.le_of_ble_eq_true rfl, Nat.le_of_ble_eq_true rfl⟩) (xPreV hK hP) rfl rfl hl.1 rfl (lv_room (Nat.le_of_ble_eq_true rfl)) dX0_change_76 ⟨Nat.zero_le _, Nat.zero_le _⟩) hS (fun q _ h => h) (fun q h => h) (fun S46 t H1 locs ht hvm hw46 hB hz1 hk1 hS => ?_)
                  obtain ⟨hP, -⟩ := hB
                  rw [ht] at hP
                  have hI := xI_put hI hw46
                  refine lv_aload_n hx hb dX0_change_79 rfl (lv_at hl 0 rfl) ?_
                  refine x_get hx hb hts hu hown hK hP 2 (by decide) hf15 rfl (v := .ref (xah a)) rfl dX0_change_80 ?_
                  refine lv_iload_n hx hb dX0_change_83 rfl (lv_at hl 1 rfl) ?_
                  refine x_aldh hx hb hK hP hn4 dX0_change_84 ?_
                  refine lv_iload_n hx hb dX0_change_85 rfl (lv_at hl 2 rfl) ?_
                  refine x_ldh hx hb hK hP hn4 hn44 dX0_change_86 ?_
                  exact W.iret (v := (xh S46 p1 p2)) hx hb hr (fun t ht hW => ⟨⟨(xh S46 p1 p2), S46, rfl, (by simp only [xF_change, hw1, if_neg c2, if_neg c5, if_pos c6, if_pos c7, if_neg c16, if_pos c29, hw38, if_neg c39, hw41, if_pos c43, hw45, hw46]), by rw [ht]; exact hP, va_K.moved hW.alike hK⟩, hS.F ht⟩) hS.2.2 dX0_change_87
                · refine lv_aload_n hx hb dX0_change_53 rfl (lv_at hl 0 rfl) ?_
                  refine x_get hx hb hts hu hown hK hP 9 (by decide) hf37 rfl (v := .int (xLf S41)) rfl dX0_change_54 ?_
                  exact W.iret (v := (xLf S41)) hx hb hr (fun t ht hW => ⟨⟨(xLf S41), S41, rfl, (by simp only [xF_change, hw1, if_neg c2, if_neg c5, if_pos c6, if_pos c7, if_neg c16, if_pos c29, hw38, if_neg c39, hw41, if_neg c43]), by rw [ht]; exact hP, va_K.moved hW.alike hK⟩, hS.F ht⟩) hS.2.2 dX0_change_57
              · refine lv_ldc (v := (-300000)) hx hb hown hk57 dX0_change_41 ?_
                exact W.iret (v := (-300000)) hx hb hr (fun t ht hW => ⟨⟨(-300000), S, rfl, (by simp only [xF_change, hw1, if_neg c2, if_neg c5, if_pos c6, if_pos c7, if_neg c16, if_pos c29, hw38, if_pos c39]), by rw [ht]; exact hP, va_K.moved hW.alike hK⟩, hS.F ht⟩) hS.2.2 dX0_change_43
      · refine lv_ldc (v := (-300000)) hx hb hown hk57 dX0_change_16 ?_
        exact W.iret (v := (-300000)) hx hb hr (fun t ht hW => ⟨⟨(-300000), S, rfl, (by simp only [xF_change, hw1, if_neg c2, if_neg c5, if_neg c6]), by rw [ht]; exact hP, va_K.moved hW.alike hK⟩, hS.F ht⟩) hS.2.2 dX0_change_18
